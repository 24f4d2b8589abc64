set_option maxHeartbeats 4000000 in
set_option maxRecDepth 100000 in
theorem gc_Mo_readTarget (l : Launch) (D : va_G) (cI cZ cC cG : ClassId) (mo m1 m6 m7 m8 m9 mA mB mC mD mE mF n pos ec w nw kf : Nat) (sg : Nat → Nat) (hn : n ≤ 600) (hpos : pos ≤ n) (hsg : ∀ j, sg j < 2 ^ 31) (nc : Nat → Nat) (hnw : 9 * nw + 1 ≤ pos) : ga_Mv l y_Mo_readTarget b_Mo_readTarget 5 3 0 0 D (ga_T cI cZ cC cG) [.ref mo] [(mo, .inr (6, [.int 0, .ref m1, .int (nI n), .int (nI pos), .int (tI none), .int (nI ec), .ref m6, .ref m7, .ref m8, .ref m9, .ref mA, .int (nI w), .int (nI nw), .ref mB, .ref mC, .ref mD, .int (nI kf), .ref mE, .ref mF])), (m1, .inl (cI, 600, .inl (nA sg))), (mA, .inl (cI, 600, .inl (nA nc)))] (fun (x : Nat × Option Nat × (Nat → Nat) × Nat) => [(mo, .inr (6, [.int 0, .ref m1, .int (nI n), .int (nI x.1), .int (tI x.2.1), .int (nI ec), .ref m6, .ref m7, .ref m8, .ref m9, .ref mA, .int (nI w), .int (nI x.2.2.2), .ref mB, .ref mC, .ref mD, .int (nI kf), .ref mE, .ref mF])), (m1, .inl (cI, 600, .inl (nA sg))), (mA, .inl (cI, 600, .inl (nA x.2.2.1)))]) (fun x => ∃ w1 w3 w5 w7, gp_T sg n pos = (w1, w3, w5, w7, x.1, x.2.1) ∧ ((x.2.1 = none ∧ x.2.2 = (va_up (va_up (va_up (va_up nc (4 * nw) w1) (4 * nw + 1) w3) (4 * nw + 2) w5) (4 * nw + 3) w7, nw + 1)) ∨ (x.2.1 ≠ none ∧ x.2.2 = (nc, nw)))) := by
  refine ga_enV (by decide) (Nat.le_of_ble_eq_true rfl) ?_
  intro p e s m below meth c ls A S hrt hlk hnm hK hP hD hA hl
  have hS : va_S A s.heap s.heap [] := va_S.rf
  obtain ⟨hx, hb, hml, hown, hts⟩ := id S
  have hl : lv_has ls 5 [(0, .ref mo)] := hl
  have htr : ∀ t, (none : Option Nat) = some t → t ≤ n := fun _ q => by cases q
  refine lv_aload_n hx hb d_Mo_readTarget_0 rfl (lv_at hl 0 rfl) ?_
  refine lv_iconst (v := 1) hx hb d_Mo_readTarget_1 (by decide) ?_
  refine lv_bipush (v := 40) hx hb d_Mo_readTarget_2 (by decide) ?_
  refine lv_bipush (v := 44) hx hb d_Mo_readTarget_4 (by decide) ?_
  refine ga_ji (wr := [(mA, .inl (cI, 600, .inl (nA nc)))]) (ga_runV (As := [.int 1, .int 40, .int 44]) (rest := []) S hK s_Mo_68 (gc_Mo_number l D cI cZ cC cG mo m1 m6 m7 m8 m9 mA mB mC mD mE mF n pos ec w nw kf none sg (by omega) (by omega) hsg htr 1 1 40 44 (by omega) (by omega) (by omega) (fun _ => rfl) _) (ga_prV (y := y_Mo_number) (q0 := 0) hK hP hD [0, 1] rfl (by decide) rfl rfl) rfl hl.1 rfl (Nat.le_of_ble_eq_true rfl) ⟨Nat.le_of_ble_eq_true rfl, Nat.le_of_ble_eq_true rfl⟩ ⟨Nat.le_of_ble_eq_true rfl, Nat.le_of_ble_eq_true rfl⟩ d_Mo_readTarget_6) hP hD hS hA [0, 1] [2] rfl rfl (by decide) (by decide) [1, 2, 0] (fun (x : Nat × Option Nat) => [(mo, .inr (6, [.int 0, .ref m1, .int (nI n), .int (nI x.1), .int (tI x.2), .int (nI ec), .ref m6, .ref m7, .ref m8, .ref m9, .ref mA, .int (nI w), .int (nI nw), .ref mB, .ref mC, .ref mD, .int (nI kf), .ref mE, .ref mF])), (m1, .inl (cI, 600, .inl (nA sg))), (mA, .inl (cI, 600, .inl (nA nc)))]) (fun _ => rfl) (by decide) (fun r x H locs hp6 hP hD hS => ?_)
  obtain ⟨po1, tr1⟩ := x
  have hP : va_P D vwCl [(mo, .inr (6, [.int 0, .ref m1, .int (nI n), .int (nI po1), .int (tI tr1), .int (nI ec), .ref m6, .ref m7, .ref m8, .ref m9, .ref mA, .int (nI w), .int (nI nw), .ref mB, .ref mC, .ref mD, .int (nI kf), .ref mE, .ref mF])), (m1, .inl (cI, 600, .inl (nA sg))), (mA, .inl (cI, 600, .inl (nA nc)))] H := hP
  have hD : va_D A [(mo, .inr (6, [.int 0, .ref m1, .int (nI n), .int (nI po1), .int (tI tr1), .int (nI ec), .ref m6, .ref m7, .ref m8, .ref m9, .ref mA, .int (nI w), .int (nI nw), .ref mB, .ref mC, .ref mD, .int (nI kf), .ref mE, .ref mF])), (m1, .inl (cI, 600, .inl (nA sg))), (mA, .inl (cI, 600, .inl (nA nc)))] := hD
  obtain ⟨w1, p1, t1, ha1, hx1, rfl⟩ := hp6
  rw [gm_nu, if_neg (by decide)] at hx1
  obtain ⟨hA1, hB1, hC1, hD1, hE1, hF1⟩ := gp_rn_bd ha1 (by omega) (by omega) htr
  obtain ⟨hc1, hd1, he1, hf1⟩ := gp_rs_bd hx1 (by omega) (by omega) hF1
  refine lv_istore_n (lv' := [(1, .int (if tr1 = none then nI w1 else -1)), (0, .ref mo)]) hx hb d_Mo_readTarget_9 rfl hl (by decide) rfl (fun ls hl => ?_)
  refine lv_aload_n hx hb d_Mo_readTarget_10 rfl (lv_at hl 1 rfl) ?_
  refine lv_iconst (v := 0) hx hb d_Mo_readTarget_11 (by decide) ?_
  refine lv_sipush (v := 9999) hx hb d_Mo_readTarget_12 (by decide) ?_
  refine lv_bipush (v := 45) hx hb d_Mo_readTarget_15 (by decide) ?_
  refine ga_ji (wr := [(mA, .inl (cI, 600, .inl (nA nc)))]) (ga_runV (As := [.int 0, .int 9999, .int 45]) (rest := []) S hK s_Mo_68 (gc_Mo_number l D cI cZ cC cG mo m1 m6 m7 m8 m9 mA mB mC mD mE mF n po1 ec w nw kf tr1 sg (by omega) (by omega) hsg hf1 0 0 9999 45 (by omega) (by omega) (by omega) (fun _ => rfl) _) (ga_prV (y := y_Mo_number) (q0 := 0) hK hP hD [0, 1] rfl (by decide) rfl rfl) rfl hl.1 rfl (Nat.le_of_ble_eq_true rfl) ⟨Nat.le_of_ble_eq_true rfl, Nat.le_of_ble_eq_true rfl⟩ ⟨Nat.le_of_ble_eq_true rfl, Nat.le_of_ble_eq_true rfl⟩ d_Mo_readTarget_17) hP hD hS hA [0, 1] [2] rfl rfl (by decide) (by decide) [1, 2, 0] (fun (x : Nat × Option Nat) => [(mo, .inr (6, [.int 0, .ref m1, .int (nI n), .int (nI x.1), .int (tI x.2), .int (nI ec), .ref m6, .ref m7, .ref m8, .ref m9, .ref mA, .int (nI w), .int (nI nw), .ref mB, .ref mC, .ref mD, .int (nI kf), .ref mE, .ref mF])), (m1, .inl (cI, 600, .inl (nA sg))), (mA, .inl (cI, 600, .inl (nA nc)))]) (fun _ => rfl) (by decide) (fun r x H locs hp17 hP hD hS => ?_)
  obtain ⟨po2, tr2⟩ := x
  have hP : va_P D vwCl [(mo, .inr (6, [.int 0, .ref m1, .int (nI n), .int (nI po2), .int (tI tr2), .int (nI ec), .ref m6, .ref m7, .ref m8, .ref m9, .ref mA, .int (nI w), .int (nI nw), .ref mB, .ref mC, .ref mD, .int (nI kf), .ref mE, .ref mF])), (m1, .inl (cI, 600, .inl (nA sg))), (mA, .inl (cI, 600, .inl (nA nc)))] H := hP
  have hD : va_D A [(mo, .inr (6, [.int 0, .ref m1, .int (nI n), .int (nI po2), .int (tI tr2), .int (nI ec), .ref m6, .ref m7, .ref m8, .ref m9, .ref mA, .int (nI w), .int (nI nw), .ref mB, .ref mC, .ref mD, .int (nI kf), .ref mE, .ref mF])), (m1, .inl (cI, 600, .inl (nA sg))), (mA, .inl (cI, 600, .inl (nA nc)))] := hD
  obtain ⟨w2, p2, t2, ha2, hx2, rfl⟩ := hp17
  rw [gm_nu, if_neg (by decide)] at hx2
  obtain ⟨hA2, hB2, hC2, hD2, hE2, hF2⟩ := gp_rn_bd ha2 (by omega) (by omega) hf1
  obtain ⟨hc2, hd2, he2, hf2⟩ := gp_rs_bd hx2 (by omega) (by omega) hF2
  refine lv_istore_n (lv' := [(2, .int (if tr2 = none then nI w2 else -1)), (1, .int (if tr1 = none then nI w1 else -1)), (0, .ref mo)]) hx hb d_Mo_readTarget_20 rfl hl (by decide) rfl (fun ls hl => ?_)
  refine lv_aload_n hx hb d_Mo_readTarget_21 rfl (lv_at hl 2 rfl) ?_
  refine lv_iload_n hx hb d_Mo_readTarget_22 rfl (lv_at hl 0 rfl) ?_
  refine lv_sipush (v := 9999) hx hb d_Mo_readTarget_23 (by decide) ?_
  refine lv_bipush (v := 44) hx hb d_Mo_readTarget_26 (by decide) ?_
  refine ga_ji (wr := [(mA, .inl (cI, 600, .inl (nA nc)))]) (ga_runV (As := [.int (if tr2 = none then nI w2 else -1), .int 9999, .int 44]) (rest := []) S hK s_Mo_68 (gc_Mo_number l D cI cZ cC cG mo m1 m6 m7 m8 m9 mA mB mC mD mE mF n po2 ec w nw kf tr2 sg (by omega) (by omega) hsg hf2 (if tr2 = none then nI w2 else -1) w2 9999 44 (by omega) (by omega) (by omega) (fun q => by rw [if_pos q]) _) (ga_prV (y := y_Mo_number) (q0 := 0) hK hP hD [0, 1] rfl (by decide) rfl rfl) rfl hl.1 rfl (Nat.le_of_ble_eq_true rfl) ⟨Nat.le_of_ble_eq_true rfl, Nat.le_of_ble_eq_true rfl⟩ ⟨Nat.le_of_ble_eq_true rfl, Nat.le_of_ble_eq_true rfl⟩ d_Mo_readTarget_28) hP hD hS hA [0, 1] [2] rfl rfl (by decide) (by decide) [1, 2, 0] (fun (x : Nat × Option Nat) => [(mo, .inr (6, [.int 0, .ref m1, .int (nI n), .int (nI x.1), .int (tI x.2), .int (nI ec), .ref m6, .ref m7, .ref m8, .ref m9, .ref mA, .int (nI w), .int (nI nw), .ref mB, .ref mC, .ref mD, .int (nI kf), .ref mE, .ref mF])), (m1, .inl (cI, 600, .inl (nA sg))), (mA, .inl (cI, 600, .inl (nA nc)))]) (fun _ => rfl) (by decide) (fun r x H locs hp28 hP hD hS => ?_)
  obtain ⟨po3, tr3⟩ := x
  have hP : va_P D vwCl [(mo, .inr (6, [.int 0, .ref m1, .int (nI n), .int (nI po3), .int (tI tr3), .int (nI ec), .ref m6, .ref m7, .ref m8, .ref m9, .ref mA, .int (nI w), .int (nI nw), .ref mB, .ref mC, .ref mD, .int (nI kf), .ref mE, .ref mF])), (m1, .inl (cI, 600, .inl (nA sg))), (mA, .inl (cI, 600, .inl (nA nc)))] H := hP
  have hD : va_D A [(mo, .inr (6, [.int 0, .ref m1, .int (nI n), .int (nI po3), .int (tI tr3), .int (nI ec), .ref m6, .ref m7, .ref m8, .ref m9, .ref mA, .int (nI w), .int (nI nw), .ref mB, .ref mC, .ref mD, .int (nI kf), .ref mE, .ref mF])), (m1, .inl (cI, 600, .inl (nA sg))), (mA, .inl (cI, 600, .inl (nA nc)))] := hD
  obtain ⟨w3, p3, t3, ha3, hx3, rfl⟩ := hp28
  rw [gm_nu, if_neg (by decide)] at hx3
  obtain ⟨hA3, hB3, hC3, hD3, hE3, hF3⟩ := gp_rn_bd ha3 (by omega) (by omega) hf2
  obtain ⟨hc3, hd3, he3, hf3⟩ := gp_rs_bd hx3 (by omega) (by omega) hF3
  refine lv_istore_n (lv' := [(3, .int (if tr3 = none then nI w3 else -1)), (2, .int (if tr2 = none then nI w2 else -1)), (1, .int (if tr1 = none then nI w1 else -1)), (0, .ref mo)]) hx hb d_Mo_readTarget_31 rfl hl (by decide) rfl (fun ls hl => ?_)
  refine lv_aload_n hx hb d_Mo_readTarget_32 rfl (lv_at hl 3 rfl) ?_
  refine lv_iconst (v := 0) hx hb d_Mo_readTarget_33 (by decide) ?_
  refine lv_bipush (v := 9) hx hb d_Mo_readTarget_34 (by decide) ?_
  refine lv_bipush (v := 59) hx hb d_Mo_readTarget_36 (by decide) ?_
  refine ga_ji (wr := [(mA, .inl (cI, 600, .inl (nA nc)))]) (ga_runV (As := [.int 0, .int 9, .int 59]) (rest := []) S hK s_Mo_68 (gc_Mo_number l D cI cZ cC cG mo m1 m6 m7 m8 m9 mA mB mC mD mE mF n po3 ec w nw kf tr3 sg (by omega) (by omega) hsg hf3 0 0 9 59 (by omega) (by omega) (by omega) (fun _ => rfl) _) (ga_prV (y := y_Mo_number) (q0 := 0) hK hP hD [0, 1] rfl (by decide) rfl rfl) rfl hl.1 rfl (Nat.le_of_ble_eq_true rfl) ⟨Nat.le_of_ble_eq_true rfl, Nat.le_of_ble_eq_true rfl⟩ ⟨Nat.le_of_ble_eq_true rfl, Nat.le_of_ble_eq_true rfl⟩ d_Mo_readTarget_38) hP hD hS hA [0, 1] [2] rfl rfl (by decide) (by decide) [1, 2, 0] (fun (x : Nat × Option Nat) => [(mo, .inr (6, [.int 0, .ref m1, .int (nI n), .int (nI x.1), .int (tI x.2), .int (nI ec), .ref m6, .ref m7, .ref m8, .ref m9, .ref mA, .int (nI w), .int (nI nw), .ref mB, .ref mC, .ref mD, .int (nI kf), .ref mE, .ref mF])), (m1, .inl (cI, 600, .inl (nA sg))), (mA, .inl (cI, 600, .inl (nA nc)))]) (fun _ => rfl) (by decide) (fun r x H locs hp38 hP hD hS => ?_)
  obtain ⟨po4, tr4⟩ := x
  have hP : va_P D vwCl [(mo, .inr (6, [.int 0, .ref m1, .int (nI n), .int (nI po4), .int (tI tr4), .int (nI ec), .ref m6, .ref m7, .ref m8, .ref m9, .ref mA, .int (nI w), .int (nI nw), .ref mB, .ref mC, .ref mD, .int (nI kf), .ref mE, .ref mF])), (m1, .inl (cI, 600, .inl (nA sg))), (mA, .inl (cI, 600, .inl (nA nc)))] H := hP
  have hD : va_D A [(mo, .inr (6, [.int 0, .ref m1, .int (nI n), .int (nI po4), .int (tI tr4), .int (nI ec), .ref m6, .ref m7, .ref m8, .ref m9, .ref mA, .int (nI w), .int (nI nw), .ref mB, .ref mC, .ref mD, .int (nI kf), .ref mE, .ref mF])), (m1, .inl (cI, 600, .inl (nA sg))), (mA, .inl (cI, 600, .inl (nA nc)))] := hD
  obtain ⟨w4, p4, t4, ha4, hx4, rfl⟩ := hp38
  rw [gm_nu, if_neg (by decide)] at hx4
  obtain ⟨hA4, hB4, hC4, hD4, hE4, hF4⟩ := gp_rn_bd ha4 (by omega) (by omega) hf3
  obtain ⟨hc4, hd4, he4, hf4⟩ := gp_rs_bd hx4 (by omega) (by omega) hF4
  refine lv_istore (lv' := [(4, .int (if tr4 = none then nI w4 else -1)), (3, .int (if tr3 = none then nI w3 else -1)), (2, .int (if tr2 = none then nI w2 else -1)), (1, .int (if tr1 = none then nI w1 else -1)), (0, .ref mo)]) hx hb d_Mo_readTarget_41 hl (by decide) rfl (fun ls hl => ?_)
  refine lv_aload_n hx hb d_Mo_readTarget_43 rfl (lv_at hl 4 rfl) ?_
  refine ga_get S hK hP 0 rfl f_Mo_54 rfl d_Mo_readTarget_44 ?_
  refine lv_if_ge (tgt := 115) hx hb d_Mo_readTarget_47 (by decide) (fun c47 => ?_) (fun c47 => ?_)
  · have hz9 := (tI_ge (fun t q => by have := hf4 t q; omega)).1 c47
    exact ga_wv (po4, tr4, nc, nw) S hrt hlk hP hD hS ⟨w1, w2, w3, w4, gp_T_eq ha1 hx1 ha2 hx2 ha3 hx3 ha4 hx4, Or.inr ⟨hz9, rfl⟩⟩ d_Mo_readTarget_115
  · have hz9 := (tI_ge (fun t q => by have := hf4 t q; omega)).2 c47
    have hy4 : tr4 = none := hz9
    have hq4 := he4 hy4
    have hr4 := hE4 hq4.1
    have hy3 : tr3 = none := hr4.1
    have hq3 := he3 hy3
    have hr3 := hE3 hq3.1
    have hy2 : tr2 = none := hr3.1
    have hq2 := he2 hy2
    have hr2 := hE2 hq2.1
    have hy1 : tr1 = none := hr2.1
    have hq1 := he1 hy1
    have hr1 := hE1 hq1.1
    rw [if_pos hy1, if_pos hy2, if_pos hy3, if_pos hy4] at hl
    have hl : lv_has ls 5 [(4, .int (nI w4)), (3, .int (nI w3)), (2, .int (nI w2)), (1, .int (nI w1)), (0, .ref mo)] := hl
    refine lv_aload_n hx hb d_Mo_readTarget_50 rfl (lv_at hl 4 rfl) ?_
    refine ga_get S hK hP 0 rfl f_Mo_26 rfl d_Mo_readTarget_51 ?_
    refine lv_iconst (v := 4) hx hb d_Mo_readTarget_54 (by decide) ?_
    refine lv_aload_n hx hb d_Mo_readTarget_55 rfl (lv_at hl 4 rfl) ?_
    refine ga_get S hK hP 0 rfl f_Mo_72 rfl d_Mo_readTarget_56 ?_
    refine lv_imul hx hb d_Mo_readTarget_59 ?_
    refine ga_top (nI (4 * nw)) (pk_mul 4 nw) ?_
    refine lv_iload_n hx hb d_Mo_readTarget_60 rfl (lv_at hl 3 rfl) ?_
    refine ga_ist (ws' := [(mo, .inr (6, [.int 0, .ref m1, .int (nI n), .int (nI po4), .int (tI tr4), .int (nI ec), .ref m6, .ref m7, .ref m8, .ref m9, .ref mA, .int (nI w), .int (nI nw), .ref mB, .ref mC, .ref mD, .int (nI kf), .ref mE, .ref mF])), (m1, .inl (cI, 600, .inl (nA sg))), (mA, .inl (cI, 600, .inl (nA (va_up nc (4 * nw) w1))))]) S hK hP hD hS 2 0 rfl rfl (4 * nw) w1 (by omega) (by decide) rfl d_Mo_readTarget_61 (fun H locs hP hD hS => ?_)
    refine lv_aload_n hx hb d_Mo_readTarget_62 rfl (lv_at hl 4 rfl) ?_
    refine ga_get S hK hP 0 rfl f_Mo_26 rfl d_Mo_readTarget_63 ?_
    refine lv_iconst (v := 4) hx hb d_Mo_readTarget_66 (by decide) ?_
    refine lv_aload_n hx hb d_Mo_readTarget_67 rfl (lv_at hl 4 rfl) ?_
    refine ga_get S hK hP 0 rfl f_Mo_72 rfl d_Mo_readTarget_68 ?_
    refine lv_imul hx hb d_Mo_readTarget_71 ?_
    refine ga_top (nI (4 * nw)) (pk_mul 4 nw) ?_
    refine lv_iconst (v := 1) hx hb d_Mo_readTarget_72 (by decide) ?_
    refine lv_iadd hx hb d_Mo_readTarget_73 ?_
    refine ga_top (nI ((4 * nw) + 1)) (nI_add (4 * nw) 1) ?_
    refine lv_iload_n hx hb d_Mo_readTarget_74 rfl (lv_at hl 2 rfl) ?_
    refine ga_ist (ws' := [(mo, .inr (6, [.int 0, .ref m1, .int (nI n), .int (nI po4), .int (tI tr4), .int (nI ec), .ref m6, .ref m7, .ref m8, .ref m9, .ref mA, .int (nI w), .int (nI nw), .ref mB, .ref mC, .ref mD, .int (nI kf), .ref mE, .ref mF])), (m1, .inl (cI, 600, .inl (nA sg))), (mA, .inl (cI, 600, .inl (nA (va_up (va_up nc (4 * nw) w1) ((4 * nw) + 1) w2))))]) S hK hP hD hS 2 0 rfl rfl ((4 * nw) + 1) w2 (by omega) (by decide) rfl d_Mo_readTarget_75 (fun H locs hP hD hS => ?_)
    refine lv_aload_n hx hb d_Mo_readTarget_76 rfl (lv_at hl 4 rfl) ?_
    refine ga_get S hK hP 0 rfl f_Mo_26 rfl d_Mo_readTarget_77 ?_
    refine lv_iconst (v := 4) hx hb d_Mo_readTarget_80 (by decide) ?_
    refine lv_aload_n hx hb d_Mo_readTarget_81 rfl (lv_at hl 4 rfl) ?_
    refine ga_get S hK hP 0 rfl f_Mo_72 rfl d_Mo_readTarget_82 ?_
    refine lv_imul hx hb d_Mo_readTarget_85 ?_
    refine ga_top (nI (4 * nw)) (pk_mul 4 nw) ?_
    refine lv_iconst (v := 2) hx hb d_Mo_readTarget_86 (by decide) ?_
    refine lv_iadd hx hb d_Mo_readTarget_87 ?_
    refine ga_top (nI ((4 * nw) + 2)) (nI_add (4 * nw) 2) ?_
    refine lv_iload_n hx hb d_Mo_readTarget_88 rfl (lv_at hl 1 rfl) ?_
    refine ga_ist (ws' := [(mo, .inr (6, [.int 0, .ref m1, .int (nI n), .int (nI po4), .int (tI tr4), .int (nI ec), .ref m6, .ref m7, .ref m8, .ref m9, .ref mA, .int (nI w), .int (nI nw), .ref mB, .ref mC, .ref mD, .int (nI kf), .ref mE, .ref mF])), (m1, .inl (cI, 600, .inl (nA sg))), (mA, .inl (cI, 600, .inl (nA (va_up (va_up (va_up nc (4 * nw) w1) ((4 * nw) + 1) w2) ((4 * nw) + 2) w3))))]) S hK hP hD hS 2 0 rfl rfl ((4 * nw) + 2) w3 (by omega) (by decide) rfl d_Mo_readTarget_89 (fun H locs hP hD hS => ?_)
    refine lv_aload_n hx hb d_Mo_readTarget_90 rfl (lv_at hl 4 rfl) ?_
    refine ga_get S hK hP 0 rfl f_Mo_26 rfl d_Mo_readTarget_91 ?_
    refine lv_iconst (v := 4) hx hb d_Mo_readTarget_94 (by decide) ?_
    refine lv_aload_n hx hb d_Mo_readTarget_95 rfl (lv_at hl 4 rfl) ?_
    refine ga_get S hK hP 0 rfl f_Mo_72 rfl d_Mo_readTarget_96 ?_
    refine lv_imul hx hb d_Mo_readTarget_99 ?_
    refine ga_top (nI (4 * nw)) (pk_mul 4 nw) ?_
    refine lv_iconst (v := 3) hx hb d_Mo_readTarget_100 (by decide) ?_
    refine lv_iadd hx hb d_Mo_readTarget_101 ?_
    refine ga_top (nI ((4 * nw) + 3)) (nI_add (4 * nw) 3) ?_
    refine lv_iload hx hb d_Mo_readTarget_102 (lv_at hl 0 rfl) ?_
    refine ga_ist (ws' := [(mo, .inr (6, [.int 0, .ref m1, .int (nI n), .int (nI po4), .int (tI tr4), .int (nI ec), .ref m6, .ref m7, .ref m8, .ref m9, .ref mA, .int (nI w), .int (nI nw), .ref mB, .ref mC, .ref mD, .int (nI kf), .ref mE, .ref mF])), (m1, .inl (cI, 600, .inl (nA sg))), (mA, .inl (cI, 600, .inl (nA (va_up (va_up (va_up (va_up nc (4 * nw) w1) ((4 * nw) + 1) w2) ((4 * nw) + 2) w3) ((4 * nw) + 3) w4))))]) S hK hP hD hS 2 0 rfl rfl ((4 * nw) + 3) w4 (by omega) (by decide) rfl d_Mo_readTarget_104 (fun H locs hP hD hS => ?_)
    refine lv_aload_n hx hb d_Mo_readTarget_105 rfl (lv_at hl 4 rfl) ?_
    refine lv_dup hx hb d_Mo_readTarget_106 rfl ?_
    refine ga_get S hK hP 0 rfl f_Mo_72 rfl d_Mo_readTarget_107 ?_
    refine lv_iconst (v := 1) hx hb d_Mo_readTarget_110 (by decide) ?_
    refine lv_iadd hx hb d_Mo_readTarget_111 ?_
    refine ga_top (nI (nw + 1)) (nI_add nw 1) ?_
    refine ga_put (ws' := [(mo, .inr (6, [.int 0, .ref m1, .int (nI n), .int (nI po4), .int (tI tr4), .int (nI ec), .ref m6, .ref m7, .ref m8, .ref m9, .ref mA, .int (nI w), .int (nI (nw + 1)), .ref mB, .ref mC, .ref mD, .int (nI kf), .ref mE, .ref mF])), (m1, .inl (cI, 600, .inl (nA sg))), (mA, .inl (cI, 600, .inl (nA (va_up (va_up (va_up (va_up nc (4 * nw) w1) ((4 * nw) + 1) w2) ((4 * nw) + 2) w3) ((4 * nw) + 3) w4))))]) S hK hP hD hS 0 rfl p_Mo_72 rfl rfl (Nat.le_of_ble_eq_true rfl) rfl d_Mo_readTarget_112 (fun H locs hP hD hS => ?_)
    exact ga_wv (po4, tr4, va_up (va_up (va_up (va_up nc (4 * nw) w1) (4 * nw + 1) w2) (4 * nw + 2) w3) (4 * nw + 3) w4, nw + 1) S hrt hlk hP hD hS ⟨w1, w2, w3, w4, gp_T_eq ha1 hx1 ha2 hx2 ha3 hx3 ha4 hx4, Or.inl ⟨hz9, rfl⟩⟩ d_Mo_readTarget_115
