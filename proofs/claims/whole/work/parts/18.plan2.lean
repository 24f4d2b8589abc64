set_option maxHeartbeats 4000000 in
set_option maxRecDepth 100000 in
theorem gc_Pl_leastTargetOf (l : Launch) (D : va_G) (cI cZ cC cG : ClassId) (pl q1 q2 q3 q4 q5 q6 q7 q8 q9 : Nat) (rg code kind : Nat) (r1 r2 r3 r4 : Nat → Nat) (hrg : rg ≤ 66) (hco : code < 2 ^ 31) (hki : kind < 2 ^ 31) (hr : ∀ k, k < rg → 1 ≤ r1 k ∧ r1 k ≤ 40 ∧ r2 k ≤ 9999 ∧ r3 k ≤ 9999 ∧ r4 k ≤ 9) : ga_Mr l y_Pl_leastTargetOf b_Pl_leastTargetOf 6 (some .int) 1 D (ga_T cI cZ cC cG) [.ref pl, .int (nI code), .int (nI kind)] [(pl, .inr (1, [.ref q1, .ref q2, .ref q3, .ref q4, .ref q5, .ref q6, .ref q7, .ref q8, .ref q9, .int (nI rg)])), (q6, .inl (cI, 66, .inl (nA r1))), (q7, .inl (cI, 66, .inl (nA r2))), (q8, .inl (cI, 66, .inl (nA r3))), (q9, .inl (cI, 66, .inl (nA r4)))] (fun r => ∃ q, r = nI q ∧ gp_isL r1 r2 r3 r4 rg code kind q) := by
  refine ga_enR (by decide) (Nat.le_of_ble_eq_true rfl) ?_
  intro p e s m below meth c ls S hrt hlk hK hP hl
  obtain ⟨hx, hb, hml, hown, hts⟩ := id S
  have hl : lv_has ls 6 [(0, .ref pl), (1, .int (nI code)), (2, .int (nI kind))] := hl
  refine lv_iconst (v := 0) hx hb d_Pl_leastTargetOf_0 (by decide) ?_
  refine lv_istore_n (lv' := [(3, .int 0), (0, .ref pl), (1, .int (nI code)), (2, .int (nI kind))]) hx hb d_Pl_leastTargetOf_1 rfl hl (by decide) rfl (fun ls hl => ?_)
  refine lv_iconst (v := 0) hx hb d_Pl_leastTargetOf_2 (by decide) ?_
  refine lv_istore (lv' := [(4, .int 0), (3, .int 0), (0, .ref pl), (1, .int (nI code)), (2, .int (nI kind))]) hx hb d_Pl_leastTargetOf_3 hl (by decide) rfl (fun ls hl => ?_)
  refine ga_loopR (α := Nat × Nat) (fun x => match x with | (i, le) => rg - i) (fun x ls => match x with | (i, le) => lv_has ls 6 [(4, .int (nI i)), (3, .int (nI le)), (0, .ref pl), (1, .int (nI code)), (2, .int (nI kind))] ∧ i ≤ rg ∧ le ≤ 40 ∧ gp_isL r1 r2 r3 r4 i code kind le) ?_ (0, 0) ⟨lv_sub hl [0, 1, 2, 3, 4] rfl, ⟨Nat.zero_le _, by decide, Or.inl ⟨rfl, fun k hk => absurd hk (Nat.not_lt_zero _)⟩⟩⟩
  intro x ls hI ih
  obtain ⟨i, le⟩ := x
  obtain ⟨hl, ⟨hi, hle, hil⟩⟩ := hI
  have hl : lv_has ls 6 [(4, .int (nI i)), (3, .int (nI le)), (0, .ref pl), (1, .int (nI code)), (2, .int (nI kind))] := hl
  refine lv_iload hx hb d_Pl_leastTargetOf_5 (lv_at hl 0 rfl) ?_
  refine lv_aload_n hx hb d_Pl_leastTargetOf_7 rfl (lv_at hl 2 rfl) ?_
  refine ga_get S hK hP 0 rfl f_Pl_48 rfl d_Pl_leastTargetOf_8 ?_
  refine lv_icmp_ge (tgt := 87) hx hb d_Pl_leastTargetOf_11 (by decide) (fun c11 => ?_) (fun c11 => ?_)
  · have c11 : rg ≤ i := (nI_leI (a := rg) (b := i) (by omega) (by omega)).mp c11
    refine lv_iload_n hx hb d_Pl_leastTargetOf_87 rfl (lv_at hl 1 rfl) ?_
    exact ga_ri S hrt hlk ⟨le, rfl, by rw [show rg = i by omega]; exact hil⟩ d_Pl_leastTargetOf_88
  · have c11 : ¬ (rg ≤ i) := fun q => c11 ((nI_leI (a := rg) (b := i) (by omega) (by omega)).mpr q)
    have hri := hr i (by omega)
    refine lv_aload_n hx hb d_Pl_leastTargetOf_14 rfl (lv_at hl 2 rfl) ?_
    refine ga_get S hK hP 0 rfl f_Pl_39 rfl d_Pl_leastTargetOf_15 ?_
    refine lv_iload hx hb d_Pl_leastTargetOf_18 (lv_at hl 0 rfl) ?_
    refine ga_ild S hK hP 4 0 rfl rfl i (by omega) (by decide) d_Pl_leastTargetOf_20 ?_
    refine lv_iload_n hx hb d_Pl_leastTargetOf_21 rfl (lv_at hl 4 rfl) ?_
    refine lv_icmp_ne (tgt := 50) hx hb d_Pl_leastTargetOf_22 (by decide) (fun c22 => ?_) (fun c22 => ?_)
    · have c22 : ¬ ((r4 i) = kind) := fun q => c22 ((nI_eq (a := (r4 i)) (b := kind) (by omega) (by omega)).mpr q)
      have hft : ¬ gp_ft r2 r3 r4 code kind i := fun q => c22 q.1
      refine lv_iconst (v := 0) hx hb d_Pl_leastTargetOf_50 (by decide) ?_
      refine lv_istore (lv' := [(5, .int 0), (4, .int (nI i)), (3, .int (nI le)), (0, .ref pl), (1, .int (nI code)), (2, .int (nI kind))]) hx hb d_Pl_leastTargetOf_51 hl (by decide) rfl (fun ls hl => ?_)
      refine lv_iload hx hb d_Pl_leastTargetOf_53 (lv_at hl 0 rfl) ?_
      refine lv_if_eq (tgt := 81) hx hb d_Pl_leastTargetOf_55 (by decide) (fun c55 => ?_) (fun c55 => ?_)
      · refine lv_iinc (v := nI (i + 1)) (lv' := [(4, .int (nI (i + 1))), (5, .int 0), (3, .int (nI le)), (0, .ref pl), (1, .int (nI code)), (2, .int (nI kind))]) hx hb d_Pl_leastTargetOf_81 hl (k := 1) rfl (ga_inc i) (by decide) rfl (fun ls hl => ?_)
        refine lv_goto (tgt := 5) hx hb d_Pl_leastTargetOf_84 (by decide) ?_
        exact ih (i + 1, le) _ (by show (rg - (i + 1)) < (rg - i); omega) ⟨lv_sub hl [0, 2, 3, 4, 5] rfl, ⟨by omega, by omega, by first | exact gp_isL_no hil hft | exact gp_isL_keep hil (by omega) (by omega)⟩⟩
      · exact absurd c55 (by decide)
    · have c22 : (r4 i) = kind := (nI_eq (a := (r4 i)) (b := kind) (by omega) (by omega)).mp c22
      refine lv_iload_n hx hb d_Pl_leastTargetOf_25 rfl (lv_at hl 3 rfl) ?_
      refine lv_aload_n hx hb d_Pl_leastTargetOf_26 rfl (lv_at hl 2 rfl) ?_
      refine ga_get S hK hP 0 rfl f_Pl_33 rfl d_Pl_leastTargetOf_27 ?_
      refine lv_iload hx hb d_Pl_leastTargetOf_30 (lv_at hl 0 rfl) ?_
      refine ga_ild S hK hP 2 0 rfl rfl i (by omega) (by decide) d_Pl_leastTargetOf_32 ?_
      refine lv_aload_n hx hb d_Pl_leastTargetOf_33 rfl (lv_at hl 2 rfl) ?_
      refine ga_get S hK hP 0 rfl f_Pl_36 rfl d_Pl_leastTargetOf_34 ?_
      refine lv_iload hx hb d_Pl_leastTargetOf_37 (lv_at hl 0 rfl) ?_
      refine ga_ild S hK hP 3 0 rfl rfl i (by omega) (by decide) d_Pl_leastTargetOf_39 ?_
      refine ga_cs (As := [.int (nI code), .int (nI (r2 i)), .int (nI (r3 i))]) (rest := []) S hK hP s_Pl_52 (gc_SP_isWithin l D cI cZ cC cG (nI code) (nI (r2 i)) (nI (r3 i))) [] rfl rfl hl.1 rfl (Nat.le_of_ble_eq_true rfl) ⟨Nat.le_of_ble_eq_true rfl, Nat.le_of_ble_eq_true rfl⟩ ⟨Nat.le_of_ble_eq_true rfl, Nat.le_of_ble_eq_true rfl⟩ d_Pl_leastTargetOf_40 (fun r hp40 => ?_)
      rcases hp40 with ⟨rfl, hp40⟩ | ⟨rfl, hp40⟩
      · have hp40 : (r2 i) ≤ code ∧ code ≤ (r3 i) := ⟨(nI_leI (a := (r2 i)) (b := code) (by omega) (by omega)).mp hp40.1, (nI_leI (a := code) (b := (r3 i)) (by omega) (by omega)).mp hp40.2⟩
        have hft : gp_ft r2 r3 r4 code kind i := ⟨c22, hp40.1, hp40.2⟩
        refine lv_if_eq (tgt := 50) hx hb d_Pl_leastTargetOf_43 (by decide) (fun c43 => ?_) (fun c43 => ?_)
        · exact absurd c43 (by decide)
        · refine lv_iconst (v := 1) hx hb d_Pl_leastTargetOf_46 (by decide) ?_
          refine lv_goto (tgt := 51) hx hb d_Pl_leastTargetOf_47 (by decide) ?_
          refine lv_istore (lv' := [(5, .int 1), (4, .int (nI i)), (3, .int (nI le)), (0, .ref pl), (1, .int (nI code)), (2, .int (nI kind))]) hx hb d_Pl_leastTargetOf_51 hl (by decide) rfl (fun ls hl => ?_)
          refine lv_iload hx hb d_Pl_leastTargetOf_53 (lv_at hl 0 rfl) ?_
          refine lv_if_eq (tgt := 81) hx hb d_Pl_leastTargetOf_55 (by decide) (fun c55 => ?_) (fun c55 => ?_)
          · exact absurd c55 (by decide)
          · refine lv_iload_n hx hb d_Pl_leastTargetOf_58 rfl (lv_at hl 2 rfl) ?_
            refine lv_if_eq (tgt := 73) hx hb d_Pl_leastTargetOf_59 (by decide) (fun c59 => ?_) (fun c59 => ?_)
            · have c59 : le = 0 := (nI_eq (a := le) (b := 0) (by omega) (by omega)).mp c59
              refine lv_aload_n hx hb d_Pl_leastTargetOf_73 rfl (lv_at hl 3 rfl) ?_
              refine ga_get S hK hP 0 rfl f_Pl_30 rfl d_Pl_leastTargetOf_74 ?_
              refine lv_iload hx hb d_Pl_leastTargetOf_77 (lv_at hl 1 rfl) ?_
              refine ga_ild S hK hP 1 0 rfl rfl i (by omega) (by decide) d_Pl_leastTargetOf_79 ?_
              have hb1 := hr i (by omega)
              refine lv_istore_n (lv' := [(3, .int (nI (r1 i))), (5, .int 1), (4, .int (nI i)), (0, .ref pl), (1, .int (nI code)), (2, .int (nI kind))]) hx hb d_Pl_leastTargetOf_80 rfl hl (by decide) rfl (fun ls hl => ?_)
              refine lv_iinc (v := nI (i + 1)) (lv' := [(4, .int (nI (i + 1))), (3, .int (nI (r1 i))), (5, .int 1), (0, .ref pl), (1, .int (nI code)), (2, .int (nI kind))]) hx hb d_Pl_leastTargetOf_81 hl (k := 2) rfl (ga_inc i) (by decide) rfl (fun ls hl => ?_)
              refine lv_goto (tgt := 5) hx hb d_Pl_leastTargetOf_84 (by decide) ?_
              exact ih (i + 1, r1 i) _ (by show (rg - (i + 1)) < (rg - i); omega) ⟨lv_sub hl [0, 1, 3, 4, 5] rfl, ⟨by omega, by omega, gp_isL_up hil hft (fun k hk => (hr k (by omega)).1) (by omega)⟩⟩
            · have c59 : ¬ (le = 0) := fun q => c59 ((nI_eq (a := le) (b := 0) (by omega) (by omega)).mpr q)
              refine lv_aload_n hx hb d_Pl_leastTargetOf_62 rfl (lv_at hl 3 rfl) ?_
              refine ga_get S hK hP 0 rfl f_Pl_30 rfl d_Pl_leastTargetOf_63 ?_
              refine lv_iload hx hb d_Pl_leastTargetOf_66 (lv_at hl 1 rfl) ?_
              refine ga_ild S hK hP 1 0 rfl rfl i (by omega) (by decide) d_Pl_leastTargetOf_68 ?_
              have hb1 := hr i (by omega)
              refine lv_iload_n hx hb d_Pl_leastTargetOf_69 rfl (lv_at hl 2 rfl) ?_
              refine lv_icmp_ge (tgt := 81) hx hb d_Pl_leastTargetOf_70 (by decide) (fun c70 => ?_) (fun c70 => ?_)
              · have c70 : le ≤ (r1 i) := (nI_leI (a := le) (b := (r1 i)) (by omega) (by omega)).mp c70
                refine lv_iinc (v := nI (i + 1)) (lv' := [(4, .int (nI (i + 1))), (5, .int 1), (3, .int (nI le)), (0, .ref pl), (1, .int (nI code)), (2, .int (nI kind))]) hx hb d_Pl_leastTargetOf_81 hl (k := 1) rfl (ga_inc i) (by decide) rfl (fun ls hl => ?_)
                refine lv_goto (tgt := 5) hx hb d_Pl_leastTargetOf_84 (by decide) ?_
                exact ih (i + 1, le) _ (by show (rg - (i + 1)) < (rg - i); omega) ⟨lv_sub hl [0, 2, 3, 4, 5] rfl, ⟨by omega, by omega, by first | exact gp_isL_no hil hft | exact gp_isL_keep hil (by omega) (by omega)⟩⟩
              · have c70 : ¬ (le ≤ (r1 i)) := fun q => c70 ((nI_leI (a := le) (b := (r1 i)) (by omega) (by omega)).mpr q)
                refine lv_aload_n hx hb d_Pl_leastTargetOf_73 rfl (lv_at hl 3 rfl) ?_
                refine ga_get S hK hP 0 rfl f_Pl_30 rfl d_Pl_leastTargetOf_74 ?_
                refine lv_iload hx hb d_Pl_leastTargetOf_77 (lv_at hl 1 rfl) ?_
                refine ga_ild S hK hP 1 0 rfl rfl i (by omega) (by decide) d_Pl_leastTargetOf_79 ?_
                have hb2 := hr i (by omega)
                refine lv_istore_n (lv' := [(3, .int (nI (r1 i))), (5, .int 1), (4, .int (nI i)), (0, .ref pl), (1, .int (nI code)), (2, .int (nI kind))]) hx hb d_Pl_leastTargetOf_80 rfl hl (by decide) rfl (fun ls hl => ?_)
                refine lv_iinc (v := nI (i + 1)) (lv' := [(4, .int (nI (i + 1))), (3, .int (nI (r1 i))), (5, .int 1), (0, .ref pl), (1, .int (nI code)), (2, .int (nI kind))]) hx hb d_Pl_leastTargetOf_81 hl (k := 2) rfl (ga_inc i) (by decide) rfl (fun ls hl => ?_)
                refine lv_goto (tgt := 5) hx hb d_Pl_leastTargetOf_84 (by decide) ?_
                exact ih (i + 1, r1 i) _ (by show (rg - (i + 1)) < (rg - i); omega) ⟨lv_sub hl [0, 1, 3, 4, 5] rfl, ⟨by omega, by omega, gp_isL_up hil hft (fun k hk => (hr k (by omega)).1) (by omega)⟩⟩
      · have hp40 : ¬ ((r2 i) ≤ code ∧ code ≤ (r3 i)) := fun q => hp40 ⟨(nI_leI (a := (r2 i)) (b := code) (by omega) (by omega)).mpr q.1, (nI_leI (a := code) (b := (r3 i)) (by omega) (by omega)).mpr q.2⟩
        have hft : ¬ gp_ft r2 r3 r4 code kind i := fun q => hp40 ⟨q.2.1, q.2.2⟩
        refine lv_if_eq (tgt := 50) hx hb d_Pl_leastTargetOf_43 (by decide) (fun c43 => ?_) (fun c43 => ?_)
        · refine lv_iconst (v := 0) hx hb d_Pl_leastTargetOf_50 (by decide) ?_
          refine lv_istore (lv' := [(5, .int 0), (4, .int (nI i)), (3, .int (nI le)), (0, .ref pl), (1, .int (nI code)), (2, .int (nI kind))]) hx hb d_Pl_leastTargetOf_51 hl (by decide) rfl (fun ls hl => ?_)
          refine lv_iload hx hb d_Pl_leastTargetOf_53 (lv_at hl 0 rfl) ?_
          refine lv_if_eq (tgt := 81) hx hb d_Pl_leastTargetOf_55 (by decide) (fun c55 => ?_) (fun c55 => ?_)
          · refine lv_iinc (v := nI (i + 1)) (lv' := [(4, .int (nI (i + 1))), (5, .int 0), (3, .int (nI le)), (0, .ref pl), (1, .int (nI code)), (2, .int (nI kind))]) hx hb d_Pl_leastTargetOf_81 hl (k := 1) rfl (ga_inc i) (by decide) rfl (fun ls hl => ?_)
            refine lv_goto (tgt := 5) hx hb d_Pl_leastTargetOf_84 (by decide) ?_
            exact ih (i + 1, le) _ (by show (rg - (i + 1)) < (rg - i); omega) ⟨lv_sub hl [0, 2, 3, 4, 5] rfl, ⟨by omega, by omega, by first | exact gp_isL_no hil hft | exact gp_isL_keep hil (by omega) (by omega)⟩⟩
          · exact absurd c55 (by decide)
        · exact absurd c43 (by decide)
set_option maxHeartbeats 4000000 in
set_option maxRecDepth 100000 in
theorem gc_Pl_passesOf (l : Launch) (D : va_G) (cI cZ cC cG : ClassId) (pl q1 q2 q3 q4 q5 q6 q7 q8 q9 : Nat) (rg sh : Nat) (bn : Nat → Nat) (hsh : sh < 3) (hbn : ∀ j, bn j ≤ 60) : ga_Mr l y_Pl_passesOf b_Pl_passesOf 5 (some .int) 1 D (ga_T cI cZ cC cG) [.ref pl, .int (nI sh)] [(pl, .inr (1, [.ref q1, .ref q2, .ref q3, .ref q4, .ref q5, .ref q6, .ref q7, .ref q8, .ref q9, .int (nI rg)])), (q1, .inl (cI, 480, .inl (nA bn)))] (fun r => ∃ q, r = nI q ∧ gp_isP bn sh q) := by
  refine ga_enR (by decide) (Nat.le_of_ble_eq_true rfl) ?_
  intro p e s m below meth c ls S hrt hlk hK hP hl
  obtain ⟨hx, hb, hml, hown, hts⟩ := id S
  have hl : lv_has ls 5 [(0, .ref pl), (1, .int (nI sh))] := hl
  refine lv_iconst (v := 0) hx hb d_Pl_passesOf_0 (by decide) ?_
  refine lv_istore_n (lv' := [(2, .int 0), (0, .ref pl), (1, .int (nI sh))]) hx hb d_Pl_passesOf_1 rfl hl (by decide) rfl (fun ls hl => ?_)
  refine lv_iconst (v := 1) hx hb d_Pl_passesOf_2 (by decide) ?_
  refine lv_istore_n (lv' := [(3, .int 1), (2, .int 0), (0, .ref pl), (1, .int (nI sh))]) hx hb d_Pl_passesOf_3 rfl hl (by decide) rfl (fun ls hl => ?_)
  refine ga_loopR (α := Nat × Nat) (fun x => match x with | (t, ps) => 41 - t) (fun x ls => match x with | (t, ps) => lv_has ls 5 [(3, .int (nI t)), (2, .int (nI ps)), (0, .ref pl), (1, .int (nI sh))] ∧ 1 ≤ t ∧ t ≤ 41 ∧ ps ≤ 4 ∧ (∀ u v, 1 ≤ u → u < t → v < 4 → bn (gp_sl u v sh) ≠ 0 → v < ps) ∧ (0 < ps → ∃ u, 1 ≤ u ∧ u ≤ 40 ∧ bn (gp_sl u (ps - 1) sh) ≠ 0)) ?_ (1, 0) ⟨lv_sub hl [0, 1, 2, 3] rfl, ⟨by decide, by decide, by decide, (fun u v h1 h2 => by omega), fun h => absurd h (by decide)⟩⟩
  intro x ls hI ih1
  obtain ⟨t, ps⟩ := x
  obtain ⟨hl, ⟨h1, h2, h3, h4, h5⟩⟩ := hI
  have hl : lv_has ls 5 [(3, .int (nI t)), (2, .int (nI ps)), (0, .ref pl), (1, .int (nI sh))] := hl
  refine lv_iload_n hx hb d_Pl_passesOf_4 rfl (lv_at hl 0 rfl) ?_
  refine lv_bipush (v := 40) hx hb d_Pl_passesOf_5 (by decide) ?_
  refine lv_icmp_gt (tgt := 51) hx hb d_Pl_passesOf_7 (by decide) (fun c7 => ?_) (fun c7 => ?_)
  · have c7 : 40 < t := (nI_ltI (a := 40) (b := t) (by omega) (by omega)).mp c7
    refine lv_iload_n hx hb d_Pl_passesOf_51 rfl (lv_at hl 1 rfl) ?_
    exact ga_ri S hrt hlk ⟨ps, rfl, h3, (fun u v a b c d => h4 u v a (by omega) c d), h5⟩ d_Pl_passesOf_52
  · have c7 : ¬ (40 < t) := fun q => c7 ((nI_ltI (a := 40) (b := t) (by omega) (by omega)).mpr q)
    refine lv_iload_n hx hb d_Pl_passesOf_10 rfl (lv_at hl 1 rfl) ?_
    refine lv_istore (lv' := [(4, .int (nI ps)), (3, .int (nI t)), (2, .int (nI ps)), (0, .ref pl), (1, .int (nI sh))]) hx hb d_Pl_passesOf_11 hl (by decide) rfl (fun ls hl => ?_)
    refine ga_loopR (α := Nat × Nat) (fun x => match x with | (pa, ps2) => 4 - pa) (fun x ls => match x with | (pa, ps2) => lv_has ls 5 [(4, .int (nI pa)), (3, .int (nI t)), (2, .int (nI ps2)), (0, .ref pl), (1, .int (nI sh))] ∧ ps2 ≤ pa ∧ pa ≤ 4 ∧ (∀ u v, 1 ≤ u → u < t → v < 4 → bn (gp_sl u v sh) ≠ 0 → v < ps2) ∧ (∀ v, v < pa → bn (gp_sl t v sh) ≠ 0 → v < ps2) ∧ (0 < ps2 → ∃ u, 1 ≤ u ∧ u ≤ 40 ∧ bn (gp_sl u (ps2 - 1) sh) ≠ 0)) ?_ (ps, ps) ⟨lv_sub hl [0, 1, 2, 3, 4] rfl, ⟨Nat.le_refl _, h3, h4, (fun v a b => a), h5⟩⟩
    intro x ls hI ih2
    obtain ⟨pa, ps2⟩ := x
    obtain ⟨hl, ⟨g1, g2, g3, g4, g5⟩⟩ := hI
    have hl : lv_has ls 5 [(4, .int (nI pa)), (3, .int (nI t)), (2, .int (nI ps2)), (0, .ref pl), (1, .int (nI sh))] := hl
    refine lv_iload hx hb d_Pl_passesOf_13 (lv_at hl 0 rfl) ?_
    refine lv_iconst (v := 4) hx hb d_Pl_passesOf_15 (by decide) ?_
    refine lv_icmp_ge (tgt := 45) hx hb d_Pl_passesOf_16 (by decide) (fun c16 => ?_) (fun c16 => ?_)
    · have c16 : 4 ≤ pa := (nI_leI (a := 4) (b := pa) (by omega) (by omega)).mp c16
      refine lv_iinc (v := nI (t + 1)) (lv' := [(3, .int (nI (t + 1))), (4, .int (nI pa)), (2, .int (nI ps2)), (0, .ref pl), (1, .int (nI sh))]) hx hb d_Pl_passesOf_45 hl (k := 1) rfl (ga_inc t) (by decide) rfl (fun ls hl => ?_)
      refine lv_goto (tgt := 4) hx hb d_Pl_passesOf_48 (by decide) ?_
      exact ih1 (t + 1, ps2) _ (by show (41 - (t + 1)) < (41 - t); omega) ⟨lv_sub hl [0, 2, 3, 4] rfl, ⟨by omega, by omega, by omega, (fun u v a b c d => by rcases (show u < t ∨ u = t by omega) with z | z; exact g3 u v a z c d; subst z; exact g4 v (by omega) d), g5⟩⟩
    · have c16 : ¬ (4 ≤ pa) := fun q => c16 ((nI_leI (a := 4) (b := pa) (by omega) (by omega)).mpr q)
      refine lv_aload_n hx hb d_Pl_passesOf_19 rfl (lv_at hl 3 rfl) ?_
      refine ga_get S hK hP 0 rfl f_Pl_11 rfl d_Pl_passesOf_20 ?_
      refine lv_iload_n hx hb d_Pl_passesOf_23 rfl (lv_at hl 1 rfl) ?_
      refine lv_iload hx hb d_Pl_passesOf_24 (lv_at hl 0 rfl) ?_
      refine lv_iload_n hx hb d_Pl_passesOf_26 rfl (lv_at hl 4 rfl) ?_
      refine ga_cs (As := [.int (nI t), .int (nI pa), .int (nI sh)]) (rest := [.ref q1]) S hK hP s_Pl_56 (gc_SP_slot l D cI cZ cC cG t pa sh (by omega)) [] rfl rfl hl.1 rfl (Nat.le_of_ble_eq_true rfl) ⟨Nat.le_of_ble_eq_true rfl, Nat.le_of_ble_eq_true rfl⟩ ⟨Nat.le_of_ble_eq_true rfl, Nat.le_of_ble_eq_true rfl⟩ d_Pl_passesOf_27 (fun r hp27 => ?_)
      subst hp27
      have hsl := gp_sl_lt (t := t) (p := pa) (s := sh) (by omega) (by omega) (by omega) (by omega)
      refine ga_ild S hK hP 1 0 rfl rfl (gp_sl t pa sh) (by omega) (by decide) d_Pl_passesOf_30 ?_
      have hb1 := hbn (gp_sl t pa sh)
      refine lv_if_eq (tgt := 39) hx hb d_Pl_passesOf_31 (by decide) (fun c31 => ?_) (fun c31 => ?_)
      · have c31 : (bn (gp_sl t pa sh)) = 0 := (nI_eq (a := (bn (gp_sl t pa sh))) (b := 0) (by omega) (by omega)).mp c31
        refine lv_iinc (v := nI (pa + 1)) (lv' := [(4, .int (nI (pa + 1))), (3, .int (nI t)), (2, .int (nI ps2)), (0, .ref pl), (1, .int (nI sh))]) hx hb d_Pl_passesOf_39 hl (k := 0) rfl (ga_inc pa) (by decide) rfl (fun ls hl => ?_)
        refine lv_goto (tgt := 13) hx hb d_Pl_passesOf_42 (by decide) ?_
        exact ih2 (pa + 1, ps2) _ (by show (4 - (pa + 1)) < (4 - pa); omega) ⟨lv_sub hl [0, 1, 2, 3, 4] rfl, ⟨by omega, by omega, (fun u v a b c d => by have := g3 u v a b c d; omega), (fun v a d => by rcases (show v < pa ∨ v = pa by omega) with z | z; have := g4 v z d; omega; subst z; first | omega | exact absurd c31 d), g5⟩⟩
      · have c31 : ¬ ((bn (gp_sl t pa sh)) = 0) := fun q => c31 ((nI_eq (a := (bn (gp_sl t pa sh))) (b := 0) (by omega) (by omega)).mpr q)
        refine lv_iload hx hb d_Pl_passesOf_34 (lv_at hl 0 rfl) ?_
        refine lv_iconst (v := 1) hx hb d_Pl_passesOf_36 (by decide) ?_
        refine lv_iadd hx hb d_Pl_passesOf_37 ?_
        refine ga_top (nI (pa + 1)) (nI_add pa 1) ?_
        refine lv_istore_n (lv' := [(2, .int (nI (pa + 1))), (4, .int (nI pa)), (3, .int (nI t)), (0, .ref pl), (1, .int (nI sh))]) hx hb d_Pl_passesOf_38 rfl hl (by decide) rfl (fun ls hl => ?_)
        refine lv_iinc (v := nI (pa + 1)) (lv' := [(4, .int (nI (pa + 1))), (2, .int (nI (pa + 1))), (3, .int (nI t)), (0, .ref pl), (1, .int (nI sh))]) hx hb d_Pl_passesOf_39 hl (k := 1) rfl (ga_inc pa) (by decide) rfl (fun ls hl => ?_)
        refine lv_goto (tgt := 13) hx hb d_Pl_passesOf_42 (by decide) ?_
        exact ih2 (pa + 1, pa + 1) _ (by show (4 - (pa + 1)) < (4 - pa); omega) ⟨lv_sub hl [0, 2, 1, 3, 4] rfl, ⟨by omega, by omega, (fun u v a b c d => by have := g3 u v a b c d; omega), (fun v a d => by rcases (show v < pa ∨ v = pa by omega) with z | z; have := g4 v z d; omega; subst z; first | omega | exact absurd c31 d), fun _ => ⟨t, h1, by omega, c31⟩⟩⟩
set_option maxHeartbeats 4000000 in
set_option maxRecDepth 100000 in
theorem gc_Pl_isOtherThan (l : Launch) (D : va_G) (cI cZ cC cG : ClassId) (pl q1 q2 q3 q4 q5 q6 q7 q8 q9 : Nat) (rg ea t : Nat) (bn ed : Nat → Nat) (h1 : 1 ≤ t) (h2 : t ≤ 40) (hbn : ∀ j, bn j ≤ 60) (hed : ∀ j, ed j ≤ 60) : ga_Mr l y_Pl_isOtherThan b_Pl_isOtherThan 5 (some .boolean) 1 D (ga_T cI cZ cC cG) [.ref pl, .ref ea, .int (nI t)] [(pl, .inr (1, [.ref q1, .ref q2, .ref q3, .ref q4, .ref q5, .ref q6, .ref q7, .ref q8, .ref q9, .int (nI rg)])), (q1, .inl (cI, 480, .inl (nA bn))), (ea, .inl (cI, 480, .inl (nA ed)))] (fun r => (r = 1 ∧ gp_otn bn ed (gp_sl t 0 0) 12 = true) ∨ (r = 0 ∧ gp_otn bn ed (gp_sl t 0 0) 12 = false)) := by
  refine ga_enR (by decide) (Nat.le_of_ble_eq_true rfl) ?_
  intro p e s m below meth c ls S hrt hlk hK hP hl
  obtain ⟨hx, hb, hml, hown, hts⟩ := id S
  have hl : lv_has ls 5 [(0, .ref pl), (1, .ref ea), (2, .int (nI t))] := hl
  refine lv_iload_n hx hb d_Pl_isOtherThan_0 rfl (lv_at hl 2 rfl) ?_
  refine lv_iconst (v := 0) hx hb d_Pl_isOtherThan_1 (by decide) ?_
  refine lv_iconst (v := 0) hx hb d_Pl_isOtherThan_2 (by decide) ?_
  refine ga_cs (As := [.int (nI t), .int 0, .int 0]) (rest := []) S hK hP s_Pl_56 (gc_SP_slot l D cI cZ cC cG t 0 0 (by omega)) [] rfl rfl hl.1 rfl (Nat.le_of_ble_eq_true rfl) ⟨Nat.le_of_ble_eq_true rfl, Nat.le_of_ble_eq_true rfl⟩ ⟨Nat.le_of_ble_eq_true rfl, Nat.le_of_ble_eq_true rfl⟩ d_Pl_isOtherThan_3 (fun r hp3 => ?_)
  subst hp3
  have hsl := gp_sl_lt (t := t) (p := 0) (s := 0) (by omega) (by omega) (by omega) (by omega)
  have hb0 : gp_sl t 0 0 ≤ 468 := by unfold gp_sl; omega
  refine lv_istore_n (lv' := [(3, .int (nI (gp_sl t 0 0))), (0, .ref pl), (1, .ref ea), (2, .int (nI t))]) hx hb d_Pl_isOtherThan_6 rfl hl (by decide) rfl (fun ls hl => ?_)
  refine lv_iload_n hx hb d_Pl_isOtherThan_7 rfl (lv_at hl 0 rfl) ?_
  refine lv_istore (lv' := [(4, .int (nI (gp_sl t 0 0))), (3, .int (nI (gp_sl t 0 0))), (0, .ref pl), (1, .ref ea), (2, .int (nI t))]) hx hb d_Pl_isOtherThan_8 hl (by decide) rfl (fun ls hl => ?_)
  refine ga_loopR (α := Nat) (fun i => 480 - i) (fun i ls => lv_has ls 5 [(4, .int (nI i)), (3, .int (nI (gp_sl t 0 0))), (0, .ref pl), (1, .ref ea), (2, .int (nI t))] ∧ gp_sl t 0 0 ≤ i ∧ i ≤ gp_sl t 0 0 + 12 ∧ gp_otn bn ed (gp_sl t 0 0) (i - gp_sl t 0 0) = false) ?_ (gp_sl t 0 0) ⟨lv_sub hl [0, 1, 2, 3, 4] rfl, ⟨Nat.le_refl _, by omega, by rw [Nat.sub_self]; rfl⟩⟩
  intro x ls hI ih
  obtain ⟨i, rfl⟩ : ∃ z, z = x := ⟨_, rfl⟩
  obtain ⟨hl, ⟨g1, g2, g3⟩⟩ := hI
  refine lv_iload hx hb d_Pl_isOtherThan_10 (lv_at hl 0 rfl) ?_
  refine lv_iload_n hx hb d_Pl_isOtherThan_12 rfl (lv_at hl 1 rfl) ?_
  refine lv_bipush (v := 12) hx hb d_Pl_isOtherThan_13 (by decide) ?_
  refine lv_iadd hx hb d_Pl_isOtherThan_15 ?_
  refine ga_top (nI ((gp_sl t 0 0) + 12)) (nI_add (gp_sl t 0 0) 12) ?_
  refine lv_icmp_ge (tgt := 41) hx hb d_Pl_isOtherThan_16 (by decide) (fun c16 => ?_) (fun c16 => ?_)
  · have c16 : ((gp_sl t 0 0) + 12) ≤ i := (nI_leI (a := ((gp_sl t 0 0) + 12)) (b := i) (by omega) (by omega)).mp c16
    refine lv_iconst (v := 0) hx hb d_Pl_isOtherThan_41 (by decide) ?_
    exact ga_rz S hrt hlk (Or.inl rfl) (Or.inr ⟨rfl, by rw [show 12 = i - gp_sl t 0 0 by omega]; exact g3⟩) d_Pl_isOtherThan_42
  · have c16 : ¬ (((gp_sl t 0 0) + 12) ≤ i) := fun q => c16 ((nI_leI (a := ((gp_sl t 0 0) + 12)) (b := i) (by omega) (by omega)).mpr q)
    refine lv_aload_n hx hb d_Pl_isOtherThan_19 rfl (lv_at hl 2 rfl) ?_
    refine ga_get S hK hP 0 rfl f_Pl_11 rfl d_Pl_isOtherThan_20 ?_
    refine lv_iload hx hb d_Pl_isOtherThan_23 (lv_at hl 0 rfl) ?_
    refine ga_ild S hK hP 1 0 rfl rfl i (by omega) (by decide) d_Pl_isOtherThan_25 ?_
    have hb1 := hbn i
    refine lv_aload_n hx hb d_Pl_isOtherThan_26 rfl (lv_at hl 3 rfl) ?_
    refine lv_iload hx hb d_Pl_isOtherThan_27 (lv_at hl 0 rfl) ?_
    refine ga_ild S hK hP 2 0 rfl rfl i (by omega) (by decide) d_Pl_isOtherThan_29 ?_
    have hb2 := hed i
    refine lv_icmp_eq (tgt := 35) hx hb d_Pl_isOtherThan_30 (by decide) (fun c30 => ?_) (fun c30 => ?_)
    · have c30 : (bn i) = (ed i) := (nI_eq (a := (bn i)) (b := (ed i)) (by omega) (by omega)).mp c30
      refine lv_iinc (v := nI (i + 1)) (lv' := [(4, .int (nI (i + 1))), (3, .int (nI (gp_sl t 0 0))), (0, .ref pl), (1, .ref ea), (2, .int (nI t))]) hx hb d_Pl_isOtherThan_35 hl (k := 0) rfl (ga_inc i) (by decide) rfl (fun ls hl => ?_)
      refine lv_goto (tgt := 10) hx hb d_Pl_isOtherThan_38 (by decide) ?_
      exact ih (i + 1) _ (by show (480 - (i + 1)) < (480 - i); omega) ⟨lv_sub hl [0, 1, 2, 3, 4] rfl, ⟨by omega, by omega, by rw [show i + 1 - gp_sl t 0 0 = (i - gp_sl t 0 0) + 1 by omega, gp_otn, g3, show gp_sl t 0 0 + (i - gp_sl t 0 0) = i by omega]; simp [c30]⟩⟩
    · have c30 : ¬ ((bn i) = (ed i)) := fun q => c30 ((nI_eq (a := (bn i)) (b := (ed i)) (by omega) (by omega)).mpr q)
      refine lv_iconst (v := 1) hx hb d_Pl_isOtherThan_33 (by decide) ?_
      exact ga_rz S hrt hlk (Or.inr rfl) (Or.inl ⟨rfl, gp_otn_mono (k := (i - gp_sl t 0 0) + 1) (by rw [gp_otn, show gp_sl t 0 0 + (i - gp_sl t 0 0) = i by omega]; simp [c30]) 12 (by omega)⟩) d_Pl_isOtherThan_34
set_option maxHeartbeats 4000000 in
set_option maxRecDepth 100000 in
theorem gc_Pl_countTargetsOtherThan (l : Launch) (D : va_G) (cI cZ cC cG : ClassId) (pl q1 q2 q3 q4 q5 q6 q7 q8 q9 : Nat) (rg ea : Nat) (bn ed : Nat → Nat) (hbn : ∀ j, bn j ≤ 60) (hed : ∀ j, ed j ≤ 60) : ga_Mr l y_Pl_countTargetsOtherThan b_Pl_countTargetsOtherThan 4 (some .int) 2 D (ga_T cI cZ cC cG) [.ref pl, .ref ea] [(pl, .inr (1, [.ref q1, .ref q2, .ref q3, .ref q4, .ref q5, .ref q6, .ref q7, .ref q8, .ref q9, .int (nI rg)])), (q1, .inl (cI, 480, .inl (nA bn))), (ea, .inl (cI, 480, .inl (nA ed)))] (fun r => r = nI (gp_cn (fun k => gp_otn bn ed (gp_sl (k + 1) 0 0) 12) 40)) := by
  refine ga_enR (by decide) (Nat.le_of_ble_eq_true rfl) ?_
  intro p e s m below meth c ls S hrt hlk hK hP hl
  obtain ⟨hx, hb, hml, hown, hts⟩ := id S
  have hl : lv_has ls 4 [(0, .ref pl), (1, .ref ea)] := hl
  refine lv_iconst (v := 0) hx hb d_Pl_countTargetsOtherThan_0 (by decide) ?_
  refine lv_istore_n (lv' := [(2, .int 0), (0, .ref pl), (1, .ref ea)]) hx hb d_Pl_countTargetsOtherThan_1 rfl hl (by decide) rfl (fun ls hl => ?_)
  refine lv_iconst (v := 1) hx hb d_Pl_countTargetsOtherThan_2 (by decide) ?_
  refine lv_istore_n (lv' := [(3, .int 1), (2, .int 0), (0, .ref pl), (1, .ref ea)]) hx hb d_Pl_countTargetsOtherThan_3 rfl hl (by decide) rfl (fun ls hl => ?_)
  refine ga_loopR (α := Nat × Nat) (fun x => match x with | (t, ct) => 41 - t) (fun x ls => match x with | (t, ct) => lv_has ls 4 [(3, .int (nI t)), (2, .int (nI ct)), (0, .ref pl), (1, .ref ea)] ∧ 1 ≤ t ∧ t ≤ 41 ∧ ct = gp_cn (fun k => gp_otn bn ed (gp_sl (k + 1) 0 0) 12) (t - 1)) ?_ (1, 0) ⟨lv_sub hl [0, 1, 2, 3] rfl, ⟨by decide, by decide, rfl⟩⟩
  intro x ls hI ih
  obtain ⟨t, ct⟩ := x
  obtain ⟨hl, ⟨h1, h2, h3⟩⟩ := hI
  have hl : lv_has ls 4 [(3, .int (nI t)), (2, .int (nI ct)), (0, .ref pl), (1, .ref ea)] := hl
  refine lv_iload_n hx hb d_Pl_countTargetsOtherThan_4 rfl (lv_at hl 0 rfl) ?_
  refine lv_bipush (v := 40) hx hb d_Pl_countTargetsOtherThan_5 (by decide) ?_
  refine lv_icmp_gt (tgt := 28) hx hb d_Pl_countTargetsOtherThan_7 (by decide) (fun c7 => ?_) (fun c7 => ?_)
  · have c7 : 40 < t := (nI_ltI (a := 40) (b := t) (by omega) (by omega)).mp c7
    refine lv_iload_n hx hb d_Pl_countTargetsOtherThan_28 rfl (lv_at hl 1 rfl) ?_
    exact ga_ri S hrt hlk (by rw [h3, show t - 1 = 40 by omega]) d_Pl_countTargetsOtherThan_29
  · have c7 : ¬ (40 < t) := fun q => c7 ((nI_ltI (a := 40) (b := t) (by omega) (by omega)).mpr q)
    refine lv_aload_n hx hb d_Pl_countTargetsOtherThan_10 rfl (lv_at hl 2 rfl) ?_
    refine lv_aload_n hx hb d_Pl_countTargetsOtherThan_11 rfl (lv_at hl 3 rfl) ?_
    refine lv_iload_n hx hb d_Pl_countTargetsOtherThan_12 rfl (lv_at hl 0 rfl) ?_
    refine ga_cr (As := [.ref ea, .int (nI t)]) (rest := []) (q0 := 0) S hK hP s_Pl_60 (gc_Pl_isOtherThan l D cI cZ cC cG pl q1 q2 q3 q4 q5 q6 q7 q8 q9 rg ea t bn ed (by omega) (by omega) hbn hed) [0, 1, 2] rfl rfl rfl rfl hl.1 rfl (Nat.le_of_ble_eq_true rfl) ⟨Nat.le_of_ble_eq_true rfl, Nat.le_of_ble_eq_true rfl⟩ ⟨Nat.le_of_ble_eq_true rfl, Nat.le_of_ble_eq_true rfl⟩ d_Pl_countTargetsOtherThan_13 (fun r hp13 => ?_)
    rcases hp13 with ⟨rfl, hp13⟩ | ⟨rfl, hp13⟩
    · refine lv_if_eq (tgt := 22) hx hb d_Pl_countTargetsOtherThan_16 (by decide) (fun c16 => ?_) (fun c16 => ?_)
      · exact absurd c16 (by decide)
      · refine lv_iinc (v := nI (ct + 1)) (lv' := [(2, .int (nI (ct + 1))), (3, .int (nI t)), (0, .ref pl), (1, .ref ea)]) hx hb d_Pl_countTargetsOtherThan_19 hl (k := 1) rfl (ga_inc ct) (by decide) rfl (fun ls hl => ?_)
        refine lv_iinc (v := nI (t + 1)) (lv' := [(3, .int (nI (t + 1))), (2, .int (nI (ct + 1))), (0, .ref pl), (1, .ref ea)]) hx hb d_Pl_countTargetsOtherThan_22 hl (k := 1) rfl (ga_inc t) (by decide) rfl (fun ls hl => ?_)
        refine lv_goto (tgt := 4) hx hb d_Pl_countTargetsOtherThan_25 (by decide) ?_
        exact ih (t + 1, ct + 1) _ (by show (41 - (t + 1)) < (41 - t); omega) ⟨lv_sub hl [0, 1, 2, 3] rfl, ⟨by omega, by omega, by rw [show t + 1 - 1 = (t - 1) + 1 by omega, gp_cn, show t - 1 + 1 = t by omega, hp13, h3]; rfl⟩⟩
    · refine lv_if_eq (tgt := 22) hx hb d_Pl_countTargetsOtherThan_16 (by decide) (fun c16 => ?_) (fun c16 => ?_)
      · refine lv_iinc (v := nI (t + 1)) (lv' := [(3, .int (nI (t + 1))), (2, .int (nI ct)), (0, .ref pl), (1, .ref ea)]) hx hb d_Pl_countTargetsOtherThan_22 hl (k := 0) rfl (ga_inc t) (by decide) rfl (fun ls hl => ?_)
        refine lv_goto (tgt := 4) hx hb d_Pl_countTargetsOtherThan_25 (by decide) ?_
        exact ih (t + 1, ct) _ (by show (41 - (t + 1)) < (41 - t); omega) ⟨lv_sub hl [0, 1, 2, 3] rfl, ⟨by omega, by omega, by rw [show t + 1 - 1 = (t - 1) + 1 by omega, gp_cn, show t - 1 + 1 = t by omega, hp13, h3]; rfl⟩⟩
      · exact absurd c16 (by decide)
set_option maxHeartbeats 4000000 in
set_option maxRecDepth 100000 in
theorem gc_Pl_exchange (l : Launch) (D : va_G) (cI cZ cC cG : ClassId) (pl q1 q2 q3 q4 q5 q6 q7 q8 q9 : Nat) (rg a b : Nat) (bn : Nat → Nat) (ha : a ≤ 60) (hb9 : b ≤ 60) (hbn : ∀ j, bn j ≤ 60) : ga_Mi l y_Pl_exchange b_Pl_exchange 6 (some .int) 0 0 0 D (ga_T cI cZ cC cG) [.ref pl, .int (nI a), .int (nI b)] [(pl, .inr (1, [.ref q1, .ref q2, .ref q3, .ref q4, .ref q5, .ref q6, .ref q7, .ref q8, .ref q9, .int (nI rg)])), (q1, .inl (cI, 480, .inl (nA bn)))] (fun (_ : Unit) => [(pl, .inr (1, [.ref q1, .ref q2, .ref q3, .ref q4, .ref q5, .ref q6, .ref q7, .ref q8, .ref q9, .int (nI rg)])), (q1, .inl (cI, 480, .inl (nA (gp_ex bn a b 480))))]) (fun r _ => r = nI (gp_cn (fun j => decide (bn j = a ∨ bn j = b)) 480)) := by
  refine ga_enI (by decide) (Nat.le_of_ble_eq_true rfl) ?_
  intro p e s m below meth c ls A S hrt hlk hK hP hD hA hl
  have hS : va_S A s.heap s.heap [] := va_S.rf
  obtain ⟨hx, hb, hml, hown, hts⟩ := id S
  have hl : lv_has ls 6 [(0, .ref pl), (1, .int (nI a)), (2, .int (nI b))] := hl
  refine lv_iconst (v := 0) hx hb d_Pl_exchange_0 (by decide) ?_
  refine lv_istore_n (lv' := [(3, .int 0), (0, .ref pl), (1, .int (nI a)), (2, .int (nI b))]) hx hb d_Pl_exchange_1 rfl hl (by decide) rfl (fun ls hl => ?_)
  refine lv_iconst (v := 0) hx hb d_Pl_exchange_2 (by decide) ?_
  refine lv_istore (lv' := [(4, .int 0), (3, .int 0), (0, .ref pl), (1, .int (nI a)), (2, .int (nI b))]) hx hb d_Pl_exchange_3 hl (by decide) rfl (fun ls hl => ?_)
  refine ga_loop (α := Nat × Nat × (Nat → Nat)) (fun x => match x with | (i, ct, bm) => 480 - i) (fun x ls H locs => match x with | (i, ct, bm) => lv_has ls 6 [(4, .int (nI i)), (3, .int (nI ct)), (0, .ref pl), (1, .int (nI a)), (2, .int (nI b))] ∧ va_P D vwCl [(pl, .inr (1, [.ref q1, .ref q2, .ref q3, .ref q4, .ref q5, .ref q6, .ref q7, .ref q8, .ref q9, .int (nI rg)])), (q1, .inl (cI, 480, .inl (nA bm)))] H ∧ va_D A [(pl, .inr (1, [.ref q1, .ref q2, .ref q3, .ref q4, .ref q5, .ref q6, .ref q7, .ref q8, .ref q9, .int (nI rg)])), (q1, .inl (cI, 480, .inl (nA bm)))] ∧ va_S A s.heap H locs ∧ i ≤ 480 ∧ ct = gp_cn (fun j => decide (bn j = a ∨ bn j = b)) i ∧ bm = gp_ex bn a b i) ?_ (0, 0, bn) ⟨lv_sub hl [0, 1, 2, 3, 4] rfl, hP, hD, hS, ⟨by decide, rfl, (gp_ex_0 _ _ _).symm⟩⟩
  intro x ls H locs hI ih
  obtain ⟨i, ct, bm⟩ := x
  obtain ⟨hl, hP, hD, hS, ⟨hi, hct, hbm⟩⟩ := hI
  have hl : lv_has ls 6 [(4, .int (nI i)), (3, .int (nI ct)), (0, .ref pl), (1, .int (nI a)), (2, .int (nI b))] := hl
  have hP : va_P D vwCl [(pl, .inr (1, [.ref q1, .ref q2, .ref q3, .ref q4, .ref q5, .ref q6, .ref q7, .ref q8, .ref q9, .int (nI rg)])), (q1, .inl (cI, 480, .inl (nA bm)))] H := hP
  have hD : va_D A [(pl, .inr (1, [.ref q1, .ref q2, .ref q3, .ref q4, .ref q5, .ref q6, .ref q7, .ref q8, .ref q9, .int (nI rg)])), (q1, .inl (cI, 480, .inl (nA bm)))] := hD
  refine lv_iload hx hb d_Pl_exchange_5 (lv_at hl 0 rfl) ?_
  refine lv_sipush (v := 480) hx hb d_Pl_exchange_7 (by decide) ?_
  refine lv_icmp_ge (tgt := 61) hx hb d_Pl_exchange_10 (by decide) (fun c10 => ?_) (fun c10 => ?_)
  · have c10 : 480 ≤ i := (nI_leI (a := 480) (b := i) (by omega) (by omega)).mp c10
    refine lv_iload_n hx hb d_Pl_exchange_61 rfl (lv_at hl 1 rfl) ?_
    obtain rfl : i = 480 := by omega
    exact ga_wi () S hrt hlk (by rw [← hbm]; exact hP) (by rw [← hbm]; exact hD) hS (by rw [hct]) d_Pl_exchange_62
  · have c10 : ¬ (480 ≤ i) := fun q => c10 ((nI_leI (a := 480) (b := i) (by omega) (by omega)).mpr q)
    refine lv_aload_n hx hb d_Pl_exchange_13 rfl (lv_at hl 2 rfl) ?_
    refine ga_get S hK hP 0 rfl f_Pl_11 rfl d_Pl_exchange_14 ?_
    refine lv_iload hx hb d_Pl_exchange_17 (lv_at hl 0 rfl) ?_
    refine ga_ild S hK hP 1 0 rfl rfl i (by omega) (by decide) d_Pl_exchange_19 ?_
    have hbi : bm i = bn i := by rw [hbm]; simp [gp_ex]
    have hb60 := hbn i
    refine lv_istore (lv' := [(5, .int (nI (bm i))), (4, .int (nI i)), (3, .int (nI ct)), (0, .ref pl), (1, .int (nI a)), (2, .int (nI b))]) hx hb d_Pl_exchange_20 hl (by decide) rfl (fun ls hl => ?_)
    refine lv_iload hx hb d_Pl_exchange_22 (lv_at hl 0 rfl) ?_
    refine lv_iload_n hx hb d_Pl_exchange_24 rfl (lv_at hl 4 rfl) ?_
    refine lv_icmp_eq (tgt := 34) hx hb d_Pl_exchange_25 (by decide) (fun c25 => ?_) (fun c25 => ?_)
    · have c25 : (bm i) = a := (nI_eq (a := (bm i)) (b := a) (by omega) (by omega)).mp c25
      refine lv_aload_n hx hb d_Pl_exchange_34 rfl (lv_at hl 3 rfl) ?_
      refine ga_get S hK hP 0 rfl f_Pl_11 rfl d_Pl_exchange_35 ?_
      refine lv_iload hx hb d_Pl_exchange_38 (lv_at hl 1 rfl) ?_
      refine lv_iload hx hb d_Pl_exchange_40 (lv_at hl 0 rfl) ?_
      refine lv_iload_n hx hb d_Pl_exchange_42 rfl (lv_at hl 4 rfl) ?_
      refine lv_icmp_ne (tgt := 50) hx hb d_Pl_exchange_43 (by decide) (fun c43 => ?_) (fun c43 => ?_)
      · have c43 : ¬ ((bm i) = a) := fun q => c43 ((nI_eq (a := (bm i)) (b := a) (by omega) (by omega)).mpr q)
        refine lv_iload_n hx hb d_Pl_exchange_50 rfl (lv_at hl 4 rfl) ?_
        refine ga_ist (ws' := [(pl, .inr (1, [.ref q1, .ref q2, .ref q3, .ref q4, .ref q5, .ref q6, .ref q7, .ref q8, .ref q9, .int (nI rg)])), (q1, .inl (cI, 480, .inl (nA (va_up bm i a))))]) S hK hP hD hS 1 0 rfl rfl i a (by omega) (by decide) rfl d_Pl_exchange_51 (fun H locs hP hD hS => ?_)
        refine lv_iinc (v := nI (ct + 1)) (lv' := [(3, .int (nI (ct + 1))), (5, .int (nI (bm i))), (4, .int (nI i)), (0, .ref pl), (1, .int (nI a)), (2, .int (nI b))]) hx hb d_Pl_exchange_52 hl (k := 2) rfl (ga_inc ct) (by decide) rfl (fun ls hl => ?_)
        refine lv_iinc (v := nI (i + 1)) (lv' := [(4, .int (nI (i + 1))), (3, .int (nI (ct + 1))), (5, .int (nI (bm i))), (0, .ref pl), (1, .int (nI a)), (2, .int (nI b))]) hx hb d_Pl_exchange_55 hl (k := 2) rfl (ga_inc i) (by decide) rfl (fun ls hl => ?_)
        refine lv_goto (tgt := 5) hx hb d_Pl_exchange_58 (by decide) ?_
        exact ih (i + 1, ct + 1, va_up bm i a) _ _ _ (by show (480 - (i + 1)) < (480 - i); omega) ⟨lv_sub hl [0, 1, 3, 4, 5] rfl, hP, hD, hS, ⟨by omega, by rw [gp_cn, hct]; simp; first | omega | (rw [if_pos (by omega)]) | (rw [if_neg (by omega)]; done), by rw [hbm]; exact gp_ex_up _ _ _ _ _ (by unfold gp_sw; first | (exfalso; omega) | rw [if_pos (by omega)] | rw [if_neg (by omega), if_pos (by omega)])⟩⟩
      · have c43 : (bm i) = a := (nI_eq (a := (bm i)) (b := a) (by omega) (by omega)).mp c43
        refine lv_iload_n hx hb d_Pl_exchange_46 rfl (lv_at hl 5 rfl) ?_
        refine lv_goto (tgt := 51) hx hb d_Pl_exchange_47 (by decide) ?_
        refine ga_ist (ws' := [(pl, .inr (1, [.ref q1, .ref q2, .ref q3, .ref q4, .ref q5, .ref q6, .ref q7, .ref q8, .ref q9, .int (nI rg)])), (q1, .inl (cI, 480, .inl (nA (va_up bm i b))))]) S hK hP hD hS 1 0 rfl rfl i b (by omega) (by decide) rfl d_Pl_exchange_51 (fun H locs hP hD hS => ?_)
        refine lv_iinc (v := nI (ct + 1)) (lv' := [(3, .int (nI (ct + 1))), (5, .int (nI (bm i))), (4, .int (nI i)), (0, .ref pl), (1, .int (nI a)), (2, .int (nI b))]) hx hb d_Pl_exchange_52 hl (k := 2) rfl (ga_inc ct) (by decide) rfl (fun ls hl => ?_)
        refine lv_iinc (v := nI (i + 1)) (lv' := [(4, .int (nI (i + 1))), (3, .int (nI (ct + 1))), (5, .int (nI (bm i))), (0, .ref pl), (1, .int (nI a)), (2, .int (nI b))]) hx hb d_Pl_exchange_55 hl (k := 2) rfl (ga_inc i) (by decide) rfl (fun ls hl => ?_)
        refine lv_goto (tgt := 5) hx hb d_Pl_exchange_58 (by decide) ?_
        exact ih (i + 1, ct + 1, va_up bm i b) _ _ _ (by show (480 - (i + 1)) < (480 - i); omega) ⟨lv_sub hl [0, 1, 3, 4, 5] rfl, hP, hD, hS, ⟨by omega, by rw [gp_cn, hct]; simp; first | omega | (rw [if_pos (by omega)]) | (rw [if_neg (by omega)]; done), by rw [hbm]; exact gp_ex_up _ _ _ _ _ (by unfold gp_sw; first | (exfalso; omega) | rw [if_pos (by omega)] | rw [if_neg (by omega), if_pos (by omega)])⟩⟩
    · have c25 : ¬ ((bm i) = a) := fun q => c25 ((nI_eq (a := (bm i)) (b := a) (by omega) (by omega)).mpr q)
      refine lv_iload hx hb d_Pl_exchange_28 (lv_at hl 0 rfl) ?_
      refine lv_iload_n hx hb d_Pl_exchange_30 rfl (lv_at hl 5 rfl) ?_
      refine lv_icmp_ne (tgt := 55) hx hb d_Pl_exchange_31 (by decide) (fun c31 => ?_) (fun c31 => ?_)
      · have c31 : ¬ ((bm i) = b) := fun q => c31 ((nI_eq (a := (bm i)) (b := b) (by omega) (by omega)).mpr q)
        refine lv_iinc (v := nI (i + 1)) (lv' := [(4, .int (nI (i + 1))), (5, .int (nI (bm i))), (3, .int (nI ct)), (0, .ref pl), (1, .int (nI a)), (2, .int (nI b))]) hx hb d_Pl_exchange_55 hl (k := 1) rfl (ga_inc i) (by decide) rfl (fun ls hl => ?_)
        refine lv_goto (tgt := 5) hx hb d_Pl_exchange_58 (by decide) ?_
        exact ih (i + 1, ct, bm) _ _ _ (by show (480 - (i + 1)) < (480 - i); omega) ⟨lv_sub hl [0, 2, 3, 4, 5] rfl, hP, hD, hS, ⟨by omega, by rw [gp_cn, hct]; simp; first | omega | (rw [if_pos (by omega)]) | (rw [if_neg (by omega)]; done), by rw [hbm]; exact gp_ex_id _ _ _ _ (by unfold gp_sw; rw [if_neg (by omega), if_neg (by omega)])⟩⟩
      · have c31 : (bm i) = b := (nI_eq (a := (bm i)) (b := b) (by omega) (by omega)).mp c31
        refine lv_aload_n hx hb d_Pl_exchange_34 rfl (lv_at hl 3 rfl) ?_
        refine ga_get S hK hP 0 rfl f_Pl_11 rfl d_Pl_exchange_35 ?_
        refine lv_iload hx hb d_Pl_exchange_38 (lv_at hl 1 rfl) ?_
        refine lv_iload hx hb d_Pl_exchange_40 (lv_at hl 0 rfl) ?_
        refine lv_iload_n hx hb d_Pl_exchange_42 rfl (lv_at hl 4 rfl) ?_
        refine lv_icmp_ne (tgt := 50) hx hb d_Pl_exchange_43 (by decide) (fun c43 => ?_) (fun c43 => ?_)
        · have c43 : ¬ ((bm i) = a) := fun q => c43 ((nI_eq (a := (bm i)) (b := a) (by omega) (by omega)).mpr q)
          refine lv_iload_n hx hb d_Pl_exchange_50 rfl (lv_at hl 4 rfl) ?_
          refine ga_ist (ws' := [(pl, .inr (1, [.ref q1, .ref q2, .ref q3, .ref q4, .ref q5, .ref q6, .ref q7, .ref q8, .ref q9, .int (nI rg)])), (q1, .inl (cI, 480, .inl (nA (va_up bm i a))))]) S hK hP hD hS 1 0 rfl rfl i a (by omega) (by decide) rfl d_Pl_exchange_51 (fun H locs hP hD hS => ?_)
          refine lv_iinc (v := nI (ct + 1)) (lv' := [(3, .int (nI (ct + 1))), (5, .int (nI (bm i))), (4, .int (nI i)), (0, .ref pl), (1, .int (nI a)), (2, .int (nI b))]) hx hb d_Pl_exchange_52 hl (k := 2) rfl (ga_inc ct) (by decide) rfl (fun ls hl => ?_)
          refine lv_iinc (v := nI (i + 1)) (lv' := [(4, .int (nI (i + 1))), (3, .int (nI (ct + 1))), (5, .int (nI (bm i))), (0, .ref pl), (1, .int (nI a)), (2, .int (nI b))]) hx hb d_Pl_exchange_55 hl (k := 2) rfl (ga_inc i) (by decide) rfl (fun ls hl => ?_)
          refine lv_goto (tgt := 5) hx hb d_Pl_exchange_58 (by decide) ?_
          exact ih (i + 1, ct + 1, va_up bm i a) _ _ _ (by show (480 - (i + 1)) < (480 - i); omega) ⟨lv_sub hl [0, 1, 3, 4, 5] rfl, hP, hD, hS, ⟨by omega, by rw [gp_cn, hct]; simp; first | omega | (rw [if_pos (by omega)]) | (rw [if_neg (by omega)]; done), by rw [hbm]; exact gp_ex_up _ _ _ _ _ (by unfold gp_sw; first | (exfalso; omega) | rw [if_pos (by omega)] | rw [if_neg (by omega), if_pos (by omega)])⟩⟩
        · have c43 : (bm i) = a := (nI_eq (a := (bm i)) (b := a) (by omega) (by omega)).mp c43
          refine lv_iload_n hx hb d_Pl_exchange_46 rfl (lv_at hl 5 rfl) ?_
          refine lv_goto (tgt := 51) hx hb d_Pl_exchange_47 (by decide) ?_
          refine ga_ist (ws' := [(pl, .inr (1, [.ref q1, .ref q2, .ref q3, .ref q4, .ref q5, .ref q6, .ref q7, .ref q8, .ref q9, .int (nI rg)])), (q1, .inl (cI, 480, .inl (nA (va_up bm i b))))]) S hK hP hD hS 1 0 rfl rfl i b (by omega) (by decide) rfl d_Pl_exchange_51 (fun H locs hP hD hS => ?_)
          refine lv_iinc (v := nI (ct + 1)) (lv' := [(3, .int (nI (ct + 1))), (5, .int (nI (bm i))), (4, .int (nI i)), (0, .ref pl), (1, .int (nI a)), (2, .int (nI b))]) hx hb d_Pl_exchange_52 hl (k := 2) rfl (ga_inc ct) (by decide) rfl (fun ls hl => ?_)
          refine lv_iinc (v := nI (i + 1)) (lv' := [(4, .int (nI (i + 1))), (3, .int (nI (ct + 1))), (5, .int (nI (bm i))), (0, .ref pl), (1, .int (nI a)), (2, .int (nI b))]) hx hb d_Pl_exchange_55 hl (k := 2) rfl (ga_inc i) (by decide) rfl (fun ls hl => ?_)
          refine lv_goto (tgt := 5) hx hb d_Pl_exchange_58 (by decide) ?_
          exact ih (i + 1, ct + 1, va_up bm i b) _ _ _ (by show (480 - (i + 1)) < (480 - i); omega) ⟨lv_sub hl [0, 1, 3, 4, 5] rfl, hP, hD, hS, ⟨by omega, by rw [gp_cn, hct]; simp; first | omega | (rw [if_pos (by omega)]) | (rw [if_neg (by omega)]; done), by rw [hbm]; exact gp_ex_up _ _ _ _ _ (by unfold gp_sw; first | (exfalso; omega) | rw [if_pos (by omega)] | rw [if_neg (by omega), if_pos (by omega)])⟩⟩
set_option maxHeartbeats 4000000 in
set_option maxRecDepth 100000 in
theorem gc_Pl_endOfGoingOn (l : Launch) (D : va_G) (cI cZ cC cG : ClassId) (pl q1 q2 q3 q4 q5 q6 q7 q8 q9 : Nat) (rg bi : Nat) (ne : Nat → Nat) (hbi : bi ≤ 60) (hne : ∀ j, ne j ≤ 60) : ga_Mr l y_Pl_endOfGoingOn b_Pl_endOfGoingOn 4 (some .int) 0 D (ga_T cI cZ cC cG) [.ref pl, .int (nI bi)] [(pl, .inr (1, [.ref q1, .ref q2, .ref q3, .ref q4, .ref q5, .ref q6, .ref q7, .ref q8, .ref q9, .int (nI rg)])), (q5, .inl (cI, 61, .inl (nA ne)))] (fun r => (∃ j, j < 60 ∧ (∀ i, i < j → ne (gp_it ne bi i) ≠ 0) ∧ ne (gp_it ne bi j) = 0 ∧ r = nI (gp_it ne bi j)) ∨ ((∀ i, i < 60 → ne (gp_it ne bi i) ≠ 0) ∧ r = -1)) := by
  refine ga_enR (by decide) (Nat.le_of_ble_eq_true rfl) ?_
  intro p e s m below meth c ls S hrt hlk hK hP hl
  obtain ⟨hx, hb, hml, hown, hts⟩ := id S
  have hl : lv_has ls 4 [(0, .ref pl), (1, .int (nI bi))] := hl
  refine lv_iload_n hx hb d_Pl_endOfGoingOn_0 rfl (lv_at hl 1 rfl) ?_
  refine lv_istore_n (lv' := [(2, .int (nI bi)), (0, .ref pl), (1, .int (nI bi))]) hx hb d_Pl_endOfGoingOn_1 rfl hl (by decide) rfl (fun ls hl => ?_)
  refine lv_iconst (v := 0) hx hb d_Pl_endOfGoingOn_2 (by decide) ?_
  refine lv_istore_n (lv' := [(3, .int 0), (2, .int (nI bi)), (0, .ref pl), (1, .int (nI bi))]) hx hb d_Pl_endOfGoingOn_3 rfl hl (by decide) rfl (fun ls hl => ?_)
  refine ga_loopR (α := Nat × Nat) (fun x => match x with | (sp, cu) => 60 - sp) (fun x ls => match x with | (sp, cu) => lv_has ls 4 [(3, .int (nI sp)), (2, .int (nI cu)), (0, .ref pl), (1, .int (nI bi))] ∧ sp ≤ 60 ∧ cu ≤ 60 ∧ cu = gp_it ne bi sp ∧ ∀ i, i < sp → ne (gp_it ne bi i) ≠ 0) ?_ (0, bi) ⟨lv_sub hl [0, 1, 2, 3] rfl, ⟨by decide, hbi, rfl, fun i h => absurd h (Nat.not_lt_zero _)⟩⟩
  intro x ls hI ih
  obtain ⟨sp, cu⟩ := x
  obtain ⟨hl, ⟨h1, h2, h3, h4⟩⟩ := hI
  have hl : lv_has ls 4 [(3, .int (nI sp)), (2, .int (nI cu)), (0, .ref pl), (1, .int (nI bi))] := hl
  refine lv_iload_n hx hb d_Pl_endOfGoingOn_4 rfl (lv_at hl 0 rfl) ?_
  refine lv_bipush (v := 60) hx hb d_Pl_endOfGoingOn_5 (by decide) ?_
  refine lv_icmp_ge (tgt := 34) hx hb d_Pl_endOfGoingOn_7 (by decide) (fun c7 => ?_) (fun c7 => ?_)
  · have c7 : 60 ≤ sp := (nI_leI (a := 60) (b := sp) (by omega) (by omega)).mp c7
    refine lv_iconst (v := (-1)) hx hb d_Pl_endOfGoingOn_34 (by decide) ?_
    exact ga_ri S hrt hlk (Or.inr ⟨fun i hi => h4 i (by omega), rfl⟩) d_Pl_endOfGoingOn_35
  · have c7 : ¬ (60 ≤ sp) := fun q => c7 ((nI_leI (a := 60) (b := sp) (by omega) (by omega)).mpr q)
    refine lv_aload_n hx hb d_Pl_endOfGoingOn_10 rfl (lv_at hl 2 rfl) ?_
    refine ga_get S hK hP 0 rfl f_Pl_27 rfl d_Pl_endOfGoingOn_11 ?_
    refine lv_iload_n hx hb d_Pl_endOfGoingOn_14 rfl (lv_at hl 1 rfl) ?_
    refine ga_ild S hK hP 1 0 rfl rfl cu (by omega) (by decide) d_Pl_endOfGoingOn_15 ?_
    have hb1 := hne cu
    refine lv_if_ne (tgt := 21) hx hb d_Pl_endOfGoingOn_16 (by decide) (fun c16 => ?_) (fun c16 => ?_)
    · have c16 : ¬ ((ne cu) = 0) := fun q => c16 ((nI_eq (a := (ne cu)) (b := 0) (by omega) (by omega)).mpr q)
      refine lv_aload_n hx hb d_Pl_endOfGoingOn_21 rfl (lv_at hl 2 rfl) ?_
      refine ga_get S hK hP 0 rfl f_Pl_27 rfl d_Pl_endOfGoingOn_22 ?_
      refine lv_iload_n hx hb d_Pl_endOfGoingOn_25 rfl (lv_at hl 1 rfl) ?_
      refine ga_ild S hK hP 1 0 rfl rfl cu (by omega) (by decide) d_Pl_endOfGoingOn_26 ?_
      have hb2 := hne cu
      refine lv_istore_n (lv' := [(2, .int (nI (ne cu))), (3, .int (nI sp)), (0, .ref pl), (1, .int (nI bi))]) hx hb d_Pl_endOfGoingOn_27 rfl hl (by decide) rfl (fun ls hl => ?_)
      refine lv_iinc (v := nI (sp + 1)) (lv' := [(3, .int (nI (sp + 1))), (2, .int (nI (ne cu))), (0, .ref pl), (1, .int (nI bi))]) hx hb d_Pl_endOfGoingOn_28 hl (k := 1) rfl (ga_inc sp) (by decide) rfl (fun ls hl => ?_)
      refine lv_goto (tgt := 4) hx hb d_Pl_endOfGoingOn_31 (by decide) ?_
      exact ih (sp + 1, ne cu) _ (by show (60 - (sp + 1)) < (60 - sp); omega) ⟨lv_sub hl [0, 1, 2, 3] rfl, ⟨by omega, by omega, by rw [gp_it, h3], lt_s h4 (by rw [← h3]; exact c16)⟩⟩
    · have c16 : (ne cu) = 0 := (nI_eq (a := (ne cu)) (b := 0) (by omega) (by omega)).mp c16
      refine lv_iload_n hx hb d_Pl_endOfGoingOn_19 rfl (lv_at hl 1 rfl) ?_
      exact ga_ri S hrt hlk (Or.inl ⟨sp, by omega, h4, by rw [← h3]; exact c16, by rw [← h3]⟩) d_Pl_endOfGoingOn_20
