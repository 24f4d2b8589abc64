set_option maxHeartbeats 4000000 in
set_option maxRecDepth 100000 in
theorem gc_Mo_readBin (l : Launch) (D : va_G) (cI cZ cC cG : ClassId) (mo m1 m6 m7 m8 m9 mA mB mC mD mE mF n pos ec w nw kf : Nat) (sg : Nat → Nat) (hn : n ≤ 600) (hpos : pos ≤ n) (hsg : ∀ j, sg j < 2 ^ 31) (st : Nat) (mb : Nat → Nat) (mns : Nat → Bool) (hmb : ∀ j, mb j ≤ 60) : ga_Mv l y_Mo_readBin b_Mo_readBin 8 3 0 0 D (ga_T cI cZ cC cG) [.ref mo, .int (nI st)] [(mo, .inr (6, [.int 0, .ref m1, .int (nI n), .int (nI pos), .int (tI none), .int (nI ec), .ref m6, .ref m7, .ref m8, .ref m9, .ref mA, .int (nI w), .int (nI nw), .ref mB, .ref mC, .ref mD, .int (nI kf), .ref mE, .ref mF])), (m1, .inl (cI, 600, .inl (nA sg))), (m6, .inl (cI, 4920, .inl (nA mb))), (m8, .inl (cZ, 492, .inl (zA mns)))] (fun (x : Nat × Option Nat × (Nat → Nat) × (Nat → Bool)) => [(mo, .inr (6, [.int 0, .ref m1, .int (nI n), .int (nI x.1), .int (tI x.2.1), .int (nI ec), .ref m6, .ref m7, .ref m8, .ref m9, .ref mA, .int (nI w), .int (nI nw), .ref mB, .ref mC, .ref mD, .int (nI kf), .ref mE, .ref mF])), (m1, .inl (cI, 600, .inl (nA sg))), (m6, .inl (cI, 4920, .inl (nA x.2.2.1))), (m8, .inl (cZ, 492, .inl (zA x.2.2.2)))]) (fun x => ∃ w1 w3 w5 w7 b8 t, gp_B sg n pos = (w1, w3, w5, w7, b8, x.1, t) ∧ ((t = none ∧ mb (gm_pl 9 w1 w3 w5) = 0 ∧ x.2.1 = none ∧ x.2.2 = (va_up mb (gm_pl 9 w1 w3 w5) w7, va_up mns (gm_pl 9 w1 w3 w5 - 4428) b8)) ∨ (t = none ∧ mb (gm_pl 9 w1 w3 w5) ≠ 0 ∧ x.2.1 = some st ∧ x.2.2 = (va_up mb (gm_pl 9 w1 w3 w5) w7, va_up mns (gm_pl 9 w1 w3 w5 - 4428) b8)) ∨ (t ≠ none ∧ x.2.1 = t ∧ x.2.2 = (mb, mns)))) := by
  refine ga_enV (by decide) (Nat.le_of_ble_eq_true rfl) ?_
  intro p e s m below meth c ls A S hrt hlk hnm hK hP hD hA hl
  have hS : va_S A s.heap s.heap [] := va_S.rf
  obtain ⟨hx, hb, hml, hown, hts⟩ := id S
  have hl : lv_has ls 8 [(0, .ref mo), (1, .int (nI st))] := hl
  have htr : ∀ t, (none : Option Nat) = some t → t ≤ n := fun _ q => by cases q
  refine lv_aload_n hx hb d_Mo_readBin_0 rfl (lv_at hl 0 rfl) ?_
  refine lv_iconst (v := 1) hx hb d_Mo_readBin_1 (by decide) ?_
  refine lv_bipush (v := 40) hx hb d_Mo_readBin_2 (by decide) ?_
  refine lv_bipush (v := 44) hx hb d_Mo_readBin_4 (by decide) ?_
  refine ga_ji (wr := [(m6, .inl (cI, 4920, .inl (nA mb))), (m8, .inl (cZ, 492, .inl (zA mns)))]) (ga_runV (As := [.int 1, .int 40, .int 44]) (rest := []) S hK s_Mo_68 (gc_Mo_number l D cI cZ cC cG mo m1 m6 m7 m8 m9 mA mB mC mD mE mF n pos ec w nw kf none sg (by omega) (by omega) hsg htr 1 1 40 44 (by omega) (by omega) (by omega) (fun _ => rfl) _) (ga_prV (y := y_Mo_number) (q0 := 0) hK hP hD [0, 1] rfl (by decide) rfl rfl) rfl hl.1 rfl (Nat.le_of_ble_eq_true rfl) ⟨Nat.le_of_ble_eq_true rfl, Nat.le_of_ble_eq_true rfl⟩ ⟨Nat.le_of_ble_eq_true rfl, Nat.le_of_ble_eq_true rfl⟩ d_Mo_readBin_6) hP hD hS hA [0, 1] [2, 3] rfl rfl (by decide) (by decide) [2, 3, 0, 1] (fun (x : Nat × Option Nat) => [(mo, .inr (6, [.int 0, .ref m1, .int (nI n), .int (nI x.1), .int (tI x.2), .int (nI ec), .ref m6, .ref m7, .ref m8, .ref m9, .ref mA, .int (nI w), .int (nI nw), .ref mB, .ref mC, .ref mD, .int (nI kf), .ref mE, .ref mF])), (m1, .inl (cI, 600, .inl (nA sg))), (m6, .inl (cI, 4920, .inl (nA mb))), (m8, .inl (cZ, 492, .inl (zA mns)))]) (fun _ => rfl) (by decide) (fun r x H locs hp6 hP hD hS => ?_)
  obtain ⟨po1, tr1⟩ := x
  have hP : va_P D vwCl [(mo, .inr (6, [.int 0, .ref m1, .int (nI n), .int (nI po1), .int (tI tr1), .int (nI ec), .ref m6, .ref m7, .ref m8, .ref m9, .ref mA, .int (nI w), .int (nI nw), .ref mB, .ref mC, .ref mD, .int (nI kf), .ref mE, .ref mF])), (m1, .inl (cI, 600, .inl (nA sg))), (m6, .inl (cI, 4920, .inl (nA mb))), (m8, .inl (cZ, 492, .inl (zA mns)))] H := hP
  have hD : va_D A [(mo, .inr (6, [.int 0, .ref m1, .int (nI n), .int (nI po1), .int (tI tr1), .int (nI ec), .ref m6, .ref m7, .ref m8, .ref m9, .ref mA, .int (nI w), .int (nI nw), .ref mB, .ref mC, .ref mD, .int (nI kf), .ref mE, .ref mF])), (m1, .inl (cI, 600, .inl (nA sg))), (m6, .inl (cI, 4920, .inl (nA mb))), (m8, .inl (cZ, 492, .inl (zA mns)))] := hD
  obtain ⟨w1, p1, t1, ha1, hx1, rfl⟩ := hp6
  rw [gm_nu, if_neg (by decide)] at hx1
  obtain ⟨hA1, hB1, hC1, hD1, hE1, hF1⟩ := gp_rn_bd ha1 (by omega) (by omega) htr
  obtain ⟨hc1, hd1, he1, hf1⟩ := gp_rs_bd hx1 (by omega) (by omega) hF1
  refine lv_istore_n (lv' := [(2, .int (if tr1 = none then nI w1 else -1)), (0, .ref mo), (1, .int (nI st))]) hx hb d_Mo_readBin_9 rfl hl (by decide) rfl (fun ls hl => ?_)
  refine lv_aload_n hx hb d_Mo_readBin_10 rfl (lv_at hl 1 rfl) ?_
  refine lv_iconst (v := 0) hx hb d_Mo_readBin_11 (by decide) ?_
  refine lv_iconst (v := 3) hx hb d_Mo_readBin_12 (by decide) ?_
  refine lv_bipush (v := 44) hx hb d_Mo_readBin_13 (by decide) ?_
  refine ga_ji (wr := [(m6, .inl (cI, 4920, .inl (nA mb))), (m8, .inl (cZ, 492, .inl (zA mns)))]) (ga_runV (As := [.int 0, .int 3, .int 44]) (rest := []) S hK s_Mo_68 (gc_Mo_number l D cI cZ cC cG mo m1 m6 m7 m8 m9 mA mB mC mD mE mF n po1 ec w nw kf tr1 sg (by omega) (by omega) hsg hf1 0 0 3 44 (by omega) (by omega) (by omega) (fun _ => rfl) _) (ga_prV (y := y_Mo_number) (q0 := 0) hK hP hD [0, 1] rfl (by decide) rfl rfl) rfl hl.1 rfl (Nat.le_of_ble_eq_true rfl) ⟨Nat.le_of_ble_eq_true rfl, Nat.le_of_ble_eq_true rfl⟩ ⟨Nat.le_of_ble_eq_true rfl, Nat.le_of_ble_eq_true rfl⟩ d_Mo_readBin_15) hP hD hS hA [0, 1] [2, 3] rfl rfl (by decide) (by decide) [2, 3, 0, 1] (fun (x : Nat × Option Nat) => [(mo, .inr (6, [.int 0, .ref m1, .int (nI n), .int (nI x.1), .int (tI x.2), .int (nI ec), .ref m6, .ref m7, .ref m8, .ref m9, .ref mA, .int (nI w), .int (nI nw), .ref mB, .ref mC, .ref mD, .int (nI kf), .ref mE, .ref mF])), (m1, .inl (cI, 600, .inl (nA sg))), (m6, .inl (cI, 4920, .inl (nA mb))), (m8, .inl (cZ, 492, .inl (zA mns)))]) (fun _ => rfl) (by decide) (fun r x H locs hp15 hP hD hS => ?_)
  obtain ⟨po2, tr2⟩ := x
  have hP : va_P D vwCl [(mo, .inr (6, [.int 0, .ref m1, .int (nI n), .int (nI po2), .int (tI tr2), .int (nI ec), .ref m6, .ref m7, .ref m8, .ref m9, .ref mA, .int (nI w), .int (nI nw), .ref mB, .ref mC, .ref mD, .int (nI kf), .ref mE, .ref mF])), (m1, .inl (cI, 600, .inl (nA sg))), (m6, .inl (cI, 4920, .inl (nA mb))), (m8, .inl (cZ, 492, .inl (zA mns)))] H := hP
  have hD : va_D A [(mo, .inr (6, [.int 0, .ref m1, .int (nI n), .int (nI po2), .int (tI tr2), .int (nI ec), .ref m6, .ref m7, .ref m8, .ref m9, .ref mA, .int (nI w), .int (nI nw), .ref mB, .ref mC, .ref mD, .int (nI kf), .ref mE, .ref mF])), (m1, .inl (cI, 600, .inl (nA sg))), (m6, .inl (cI, 4920, .inl (nA mb))), (m8, .inl (cZ, 492, .inl (zA mns)))] := hD
  obtain ⟨w2, p2, t2, ha2, hx2, rfl⟩ := hp15
  rw [gm_nu, if_neg (by decide)] at hx2
  obtain ⟨hA2, hB2, hC2, hD2, hE2, hF2⟩ := gp_rn_bd ha2 (by omega) (by omega) hf1
  obtain ⟨hc2, hd2, he2, hf2⟩ := gp_rs_bd hx2 (by omega) (by omega) hF2
  refine lv_istore_n (lv' := [(3, .int (if tr2 = none then nI w2 else -1)), (2, .int (if tr1 = none then nI w1 else -1)), (0, .ref mo), (1, .int (nI st))]) hx hb d_Mo_readBin_18 rfl hl (by decide) rfl (fun ls hl => ?_)
  refine lv_aload_n hx hb d_Mo_readBin_19 rfl (lv_at hl 2 rfl) ?_
  refine lv_iconst (v := 0) hx hb d_Mo_readBin_20 (by decide) ?_
  refine lv_iconst (v := 2) hx hb d_Mo_readBin_21 (by decide) ?_
  refine lv_bipush (v := 44) hx hb d_Mo_readBin_22 (by decide) ?_
  refine ga_ji (wr := [(m6, .inl (cI, 4920, .inl (nA mb))), (m8, .inl (cZ, 492, .inl (zA mns)))]) (ga_runV (As := [.int 0, .int 2, .int 44]) (rest := []) S hK s_Mo_68 (gc_Mo_number l D cI cZ cC cG mo m1 m6 m7 m8 m9 mA mB mC mD mE mF n po2 ec w nw kf tr2 sg (by omega) (by omega) hsg hf2 0 0 2 44 (by omega) (by omega) (by omega) (fun _ => rfl) _) (ga_prV (y := y_Mo_number) (q0 := 0) hK hP hD [0, 1] rfl (by decide) rfl rfl) rfl hl.1 rfl (Nat.le_of_ble_eq_true rfl) ⟨Nat.le_of_ble_eq_true rfl, Nat.le_of_ble_eq_true rfl⟩ ⟨Nat.le_of_ble_eq_true rfl, Nat.le_of_ble_eq_true rfl⟩ d_Mo_readBin_24) hP hD hS hA [0, 1] [2, 3] rfl rfl (by decide) (by decide) [2, 3, 0, 1] (fun (x : Nat × Option Nat) => [(mo, .inr (6, [.int 0, .ref m1, .int (nI n), .int (nI x.1), .int (tI x.2), .int (nI ec), .ref m6, .ref m7, .ref m8, .ref m9, .ref mA, .int (nI w), .int (nI nw), .ref mB, .ref mC, .ref mD, .int (nI kf), .ref mE, .ref mF])), (m1, .inl (cI, 600, .inl (nA sg))), (m6, .inl (cI, 4920, .inl (nA mb))), (m8, .inl (cZ, 492, .inl (zA mns)))]) (fun _ => rfl) (by decide) (fun r x H locs hp24 hP hD hS => ?_)
  obtain ⟨po3, tr3⟩ := x
  have hP : va_P D vwCl [(mo, .inr (6, [.int 0, .ref m1, .int (nI n), .int (nI po3), .int (tI tr3), .int (nI ec), .ref m6, .ref m7, .ref m8, .ref m9, .ref mA, .int (nI w), .int (nI nw), .ref mB, .ref mC, .ref mD, .int (nI kf), .ref mE, .ref mF])), (m1, .inl (cI, 600, .inl (nA sg))), (m6, .inl (cI, 4920, .inl (nA mb))), (m8, .inl (cZ, 492, .inl (zA mns)))] H := hP
  have hD : va_D A [(mo, .inr (6, [.int 0, .ref m1, .int (nI n), .int (nI po3), .int (tI tr3), .int (nI ec), .ref m6, .ref m7, .ref m8, .ref m9, .ref mA, .int (nI w), .int (nI nw), .ref mB, .ref mC, .ref mD, .int (nI kf), .ref mE, .ref mF])), (m1, .inl (cI, 600, .inl (nA sg))), (m6, .inl (cI, 4920, .inl (nA mb))), (m8, .inl (cZ, 492, .inl (zA mns)))] := hD
  obtain ⟨w3, p3, t3, ha3, hx3, rfl⟩ := hp24
  rw [gm_nu, if_neg (by decide)] at hx3
  obtain ⟨hA3, hB3, hC3, hD3, hE3, hF3⟩ := gp_rn_bd ha3 (by omega) (by omega) hf2
  obtain ⟨hc3, hd3, he3, hf3⟩ := gp_rs_bd hx3 (by omega) (by omega) hF3
  refine lv_istore (lv' := [(4, .int (if tr3 = none then nI w3 else -1)), (3, .int (if tr2 = none then nI w2 else -1)), (2, .int (if tr1 = none then nI w1 else -1)), (0, .ref mo), (1, .int (nI st))]) hx hb d_Mo_readBin_27 hl (by decide) rfl (fun ls hl => ?_)
  refine lv_aload_n hx hb d_Mo_readBin_29 rfl (lv_at hl 3 rfl) ?_
  refine lv_iconst (v := 1) hx hb d_Mo_readBin_30 (by decide) ?_
  refine lv_bipush (v := 60) hx hb d_Mo_readBin_31 (by decide) ?_
  refine lv_iconst (v := 0) hx hb d_Mo_readBin_33 (by decide) ?_
  refine ga_ji (wr := [(m6, .inl (cI, 4920, .inl (nA mb))), (m8, .inl (cZ, 492, .inl (zA mns)))]) (ga_runV (As := [.int 1, .int 60, .int 0]) (rest := []) S hK s_Mo_68 (gc_Mo_number l D cI cZ cC cG mo m1 m6 m7 m8 m9 mA mB mC mD mE mF n po3 ec w nw kf tr3 sg (by omega) (by omega) hsg hf3 1 1 60 0 (by omega) (by omega) (by omega) (fun _ => rfl) _) (ga_prV (y := y_Mo_number) (q0 := 0) hK hP hD [0, 1] rfl (by decide) rfl rfl) rfl hl.1 rfl (Nat.le_of_ble_eq_true rfl) ⟨Nat.le_of_ble_eq_true rfl, Nat.le_of_ble_eq_true rfl⟩ ⟨Nat.le_of_ble_eq_true rfl, Nat.le_of_ble_eq_true rfl⟩ d_Mo_readBin_34) hP hD hS hA [0, 1] [2, 3] rfl rfl (by decide) (by decide) [2, 3, 0, 1] (fun (x : Nat × Option Nat) => [(mo, .inr (6, [.int 0, .ref m1, .int (nI n), .int (nI x.1), .int (tI x.2), .int (nI ec), .ref m6, .ref m7, .ref m8, .ref m9, .ref mA, .int (nI w), .int (nI nw), .ref mB, .ref mC, .ref mD, .int (nI kf), .ref mE, .ref mF])), (m1, .inl (cI, 600, .inl (nA sg))), (m6, .inl (cI, 4920, .inl (nA mb))), (m8, .inl (cZ, 492, .inl (zA mns)))]) (fun _ => rfl) (by decide) (fun r x H locs hp34 hP hD hS => ?_)
  obtain ⟨po4, tr4⟩ := x
  have hP : va_P D vwCl [(mo, .inr (6, [.int 0, .ref m1, .int (nI n), .int (nI po4), .int (tI tr4), .int (nI ec), .ref m6, .ref m7, .ref m8, .ref m9, .ref mA, .int (nI w), .int (nI nw), .ref mB, .ref mC, .ref mD, .int (nI kf), .ref mE, .ref mF])), (m1, .inl (cI, 600, .inl (nA sg))), (m6, .inl (cI, 4920, .inl (nA mb))), (m8, .inl (cZ, 492, .inl (zA mns)))] H := hP
  have hD : va_D A [(mo, .inr (6, [.int 0, .ref m1, .int (nI n), .int (nI po4), .int (tI tr4), .int (nI ec), .ref m6, .ref m7, .ref m8, .ref m9, .ref mA, .int (nI w), .int (nI nw), .ref mB, .ref mC, .ref mD, .int (nI kf), .ref mE, .ref mF])), (m1, .inl (cI, 600, .inl (nA sg))), (m6, .inl (cI, 4920, .inl (nA mb))), (m8, .inl (cZ, 492, .inl (zA mns)))] := hD
  obtain ⟨w4, p4, t4, ha4, hx4, rfl⟩ := hp34
  rw [gm_nu, if_pos rfl] at hx4
  simp only [Prod.mk.injEq] at hx4
  obtain ⟨rfl, rfl⟩ := hx4
  obtain ⟨hA4, hB4, hc4, hd4, he4, hf4⟩ := gp_rn_bd ha4 (by omega) (by omega) hf3
  refine lv_istore (lv' := [(5, .int (if tr4 = none then nI w4 else -1)), (4, .int (if tr3 = none then nI w3 else -1)), (3, .int (if tr2 = none then nI w2 else -1)), (2, .int (if tr1 = none then nI w1 else -1)), (0, .ref mo), (1, .int (nI st))]) hx hb d_Mo_readBin_37 hl (by decide) rfl (fun ls hl => ?_)
  refine lv_aload_n hx hb d_Mo_readBin_39 rfl (lv_at hl 4 rfl) ?_
  refine ga_get S hK hP 0 rfl f_Mo_54 rfl d_Mo_readBin_40 ?_
  refine lv_if_ge (tgt := 59) hx hb d_Mo_readBin_43 (by decide) (fun c43 => ?_) (fun c43 => ?_)
  · have hz43 := (tI_ge (fun t q => by have := hf4 t q; omega)).1 c43
    have hrp : (false, po4) = gp_rp sg n (po4, tr4) := by rw [gp_rp, if_neg (fun q => hz43 q.1)]
    refine lv_iconst (v := 0) hx hb d_Mo_readBin_59 (by decide) ?_
    refine lv_istore (lv' := [(6, .int 0), (5, .int (if tr4 = none then nI w4 else -1)), (4, .int (if tr3 = none then nI w3 else -1)), (3, .int (if tr2 = none then nI w2 else -1)), (2, .int (if tr1 = none then nI w1 else -1)), (0, .ref mo), (1, .int (nI st))]) hx hb d_Mo_readBin_60 hl (by decide) rfl (fun ls hl => ?_)
    refine lv_aload_n hx hb d_Mo_readBin_62 rfl (lv_at hl 5 rfl) ?_
    refine lv_iload hx hb d_Mo_readBin_63 (lv_at hl 0 rfl) ?_
    refine lv_if_eq (tgt := 77) hx hb d_Mo_readBin_65 (by decide) (fun c65 => ?_) (fun c65 => ?_)
    · refine lv_aload_n hx hb d_Mo_readBin_77 rfl (lv_at hl 5 rfl) ?_
      refine ga_get S hK hP 0 rfl f_Mo_51 rfl d_Mo_readBin_78 ?_
      refine ga_put (ws' := [(mo, .inr (6, [.int 0, .ref m1, .int (nI n), .int (nI po4), .int (tI tr4), .int (nI ec), .ref m6, .ref m7, .ref m8, .ref m9, .ref mA, .int (nI w), .int (nI nw), .ref mB, .ref mC, .ref mD, .int (nI kf), .ref mE, .ref mF])), (m1, .inl (cI, 600, .inl (nA sg))), (m6, .inl (cI, 4920, .inl (nA mb))), (m8, .inl (cZ, 492, .inl (zA mns)))]) S hK hP hD hS 0 rfl p_Mo_51 rfl rfl (Nat.le_of_ble_eq_true rfl) rfl d_Mo_readBin_81 (fun H locs hP hD hS => ?_)
      refine lv_aload_n hx hb d_Mo_readBin_84 rfl (lv_at hl 5 rfl) ?_
      refine lv_bipush (v := 59) hx hb d_Mo_readBin_85 (by decide) ?_
      refine ga_jv (wr := [(m6, .inl (cI, 4920, .inl (nA mb))), (m8, .inl (cZ, 492, .inl (zA mns)))]) (ga_runV (As := [.int 59]) (rest := []) S hK s_Mo_65 (gc_Mo_sign1 l D cI cZ cC cG mo m1 m6 m7 m8 m9 mA mB mC mD mE mF n po4 ec w nw kf tr4 sg (by omega) (by omega) hsg hf4 59 (by omega) (by omega) _) (ga_prV (y := y_Mo_sign1) (q0 := 0) hK hP hD [0, 1] rfl (by decide) rfl rfl) rfl hl.1 rfl (Nat.le_of_ble_eq_true rfl) ⟨Nat.le_of_ble_eq_true rfl, Nat.le_of_ble_eq_true rfl⟩ ⟨Nat.le_of_ble_eq_true rfl, Nat.le_of_ble_eq_true rfl⟩ d_Mo_readBin_87) hP hD hS hA [0, 1] [2, 3] rfl rfl (by decide) (by decide) [2, 3, 0, 1] (fun (x : Nat × Option Nat) => [(mo, .inr (6, [.int 0, .ref m1, .int (nI n), .int (nI x.1), .int (tI x.2), .int (nI ec), .ref m6, .ref m7, .ref m8, .ref m9, .ref mA, .int (nI w), .int (nI nw), .ref mB, .ref mC, .ref mD, .int (nI kf), .ref mE, .ref mF])), (m1, .inl (cI, 600, .inl (nA sg))), (m6, .inl (cI, 4920, .inl (nA mb))), (m8, .inl (cZ, 492, .inl (zA mns)))]) (fun _ => rfl) (by decide) (fun x H locs hp87 hP hD hS => ?_)
      obtain ⟨po5, tr5⟩ := x
      have hP : va_P D vwCl [(mo, .inr (6, [.int 0, .ref m1, .int (nI n), .int (nI po5), .int (tI tr5), .int (nI ec), .ref m6, .ref m7, .ref m8, .ref m9, .ref mA, .int (nI w), .int (nI nw), .ref mB, .ref mC, .ref mD, .int (nI kf), .ref mE, .ref mF])), (m1, .inl (cI, 600, .inl (nA sg))), (m6, .inl (cI, 4920, .inl (nA mb))), (m8, .inl (cZ, 492, .inl (zA mns)))] H := hP
      have hD : va_D A [(mo, .inr (6, [.int 0, .ref m1, .int (nI n), .int (nI po5), .int (tI tr5), .int (nI ec), .ref m6, .ref m7, .ref m8, .ref m9, .ref mA, .int (nI w), .int (nI nw), .ref mB, .ref mC, .ref mD, .int (nI kf), .ref mE, .ref mF])), (m1, .inl (cI, 600, .inl (nA sg))), (m6, .inl (cI, 4920, .inl (nA mb))), (m8, .inl (cZ, 492, .inl (zA mns)))] := hD
      obtain ⟨hc5, hd5, he5, hf5⟩ := gp_rs_bd hp87 (by omega) (by omega) hf4
      refine lv_aload_n hx hb d_Mo_readBin_90 rfl (lv_at hl 5 rfl) ?_
      refine ga_get S hK hP 0 rfl f_Mo_54 rfl d_Mo_readBin_91 ?_
      refine lv_if_lt (tgt := 98) hx hb d_Mo_readBin_94 (by decide) (fun c94 => ?_) (fun c94 => ?_)
      · exact absurd ((he5 ((tI_neg (fun t q => by have := hf5 t q; omega)).1 c94)).1) hz43
      · have hz9 := (tI_neg (fun t q => by have := hf5 t q; omega)).2 c94
        exact ga_wv (po5, tr5, mb, mns) S hrt hlk hP hD hS ⟨w1, w2, w3, w4, false, tr5, gp_B_eq ha1 hx1 ha2 hx2 ha3 hx3 ha4 hrp hp87, Or.inr (Or.inr ⟨hz9, rfl, rfl⟩)⟩ d_Mo_readBin_97
    · exact absurd c65 (by decide)
  · have hz43 := (tI_ge (fun t q => by have := hf4 t q; omega)).2 c43
    refine lv_aload_n hx hb d_Mo_readBin_46 rfl (lv_at hl 4 rfl) ?_
    refine ga_cr (As := []) (rest := []) (q0 := 0) S hK hP s_Mo_57 (gc_Mo_look l D cI cZ cC cG mo m1 m6 m7 m8 m9 mA mB mC mD mE mF n po4 ec w nw kf tr4 sg (by omega) (by omega)) [0, 1] rfl rfl rfl rfl hl.1 rfl (Nat.le_of_ble_eq_true rfl) ⟨Nat.le_of_ble_eq_true rfl, Nat.le_of_ble_eq_true rfl⟩ ⟨Nat.le_of_ble_eq_true rfl, Nat.le_of_ble_eq_true rfl⟩ d_Mo_readBin_47 (fun r hp47 => ?_)
    subst hp47
    refine lv_bipush (v := 43) hx hb d_Mo_readBin_50 (by decide) ?_
    refine lv_icmp_ne (tgt := 59) hx hb d_Mo_readBin_52 (by decide) (fun c52 => ?_) (fun c52 => ?_)
    · have c52 : ¬ gp_sg sg n po4 = 43 := fun q => c52 ((gm_lk_eq hsg (by decide) (by decide)).mpr q)
      have hrp : (false, po4) = gp_rp sg n (po4, tr4) := by rw [gp_rp, if_neg (fun q => c52 q.2)]
      refine lv_iconst (v := 0) hx hb d_Mo_readBin_59 (by decide) ?_
      refine lv_istore (lv' := [(6, .int 0), (5, .int (if tr4 = none then nI w4 else -1)), (4, .int (if tr3 = none then nI w3 else -1)), (3, .int (if tr2 = none then nI w2 else -1)), (2, .int (if tr1 = none then nI w1 else -1)), (0, .ref mo), (1, .int (nI st))]) hx hb d_Mo_readBin_60 hl (by decide) rfl (fun ls hl => ?_)
      refine lv_aload_n hx hb d_Mo_readBin_62 rfl (lv_at hl 5 rfl) ?_
      refine lv_iload hx hb d_Mo_readBin_63 (lv_at hl 0 rfl) ?_
      refine lv_if_eq (tgt := 77) hx hb d_Mo_readBin_65 (by decide) (fun c65 => ?_) (fun c65 => ?_)
      · refine lv_aload_n hx hb d_Mo_readBin_77 rfl (lv_at hl 5 rfl) ?_
        refine ga_get S hK hP 0 rfl f_Mo_51 rfl d_Mo_readBin_78 ?_
        refine ga_put (ws' := [(mo, .inr (6, [.int 0, .ref m1, .int (nI n), .int (nI po4), .int (tI tr4), .int (nI ec), .ref m6, .ref m7, .ref m8, .ref m9, .ref mA, .int (nI w), .int (nI nw), .ref mB, .ref mC, .ref mD, .int (nI kf), .ref mE, .ref mF])), (m1, .inl (cI, 600, .inl (nA sg))), (m6, .inl (cI, 4920, .inl (nA mb))), (m8, .inl (cZ, 492, .inl (zA mns)))]) S hK hP hD hS 0 rfl p_Mo_51 rfl rfl (Nat.le_of_ble_eq_true rfl) rfl d_Mo_readBin_81 (fun H locs hP hD hS => ?_)
        refine lv_aload_n hx hb d_Mo_readBin_84 rfl (lv_at hl 5 rfl) ?_
        refine lv_bipush (v := 59) hx hb d_Mo_readBin_85 (by decide) ?_
        refine ga_jv (wr := [(m6, .inl (cI, 4920, .inl (nA mb))), (m8, .inl (cZ, 492, .inl (zA mns)))]) (ga_runV (As := [.int 59]) (rest := []) S hK s_Mo_65 (gc_Mo_sign1 l D cI cZ cC cG mo m1 m6 m7 m8 m9 mA mB mC mD mE mF n po4 ec w nw kf tr4 sg (by omega) (by omega) hsg hf4 59 (by omega) (by omega) _) (ga_prV (y := y_Mo_sign1) (q0 := 0) hK hP hD [0, 1] rfl (by decide) rfl rfl) rfl hl.1 rfl (Nat.le_of_ble_eq_true rfl) ⟨Nat.le_of_ble_eq_true rfl, Nat.le_of_ble_eq_true rfl⟩ ⟨Nat.le_of_ble_eq_true rfl, Nat.le_of_ble_eq_true rfl⟩ d_Mo_readBin_87) hP hD hS hA [0, 1] [2, 3] rfl rfl (by decide) (by decide) [2, 3, 0, 1] (fun (x : Nat × Option Nat) => [(mo, .inr (6, [.int 0, .ref m1, .int (nI n), .int (nI x.1), .int (tI x.2), .int (nI ec), .ref m6, .ref m7, .ref m8, .ref m9, .ref mA, .int (nI w), .int (nI nw), .ref mB, .ref mC, .ref mD, .int (nI kf), .ref mE, .ref mF])), (m1, .inl (cI, 600, .inl (nA sg))), (m6, .inl (cI, 4920, .inl (nA mb))), (m8, .inl (cZ, 492, .inl (zA mns)))]) (fun _ => rfl) (by decide) (fun x H locs hp87 hP hD hS => ?_)
        obtain ⟨po5, tr5⟩ := x
        have hP : va_P D vwCl [(mo, .inr (6, [.int 0, .ref m1, .int (nI n), .int (nI po5), .int (tI tr5), .int (nI ec), .ref m6, .ref m7, .ref m8, .ref m9, .ref mA, .int (nI w), .int (nI nw), .ref mB, .ref mC, .ref mD, .int (nI kf), .ref mE, .ref mF])), (m1, .inl (cI, 600, .inl (nA sg))), (m6, .inl (cI, 4920, .inl (nA mb))), (m8, .inl (cZ, 492, .inl (zA mns)))] H := hP
        have hD : va_D A [(mo, .inr (6, [.int 0, .ref m1, .int (nI n), .int (nI po5), .int (tI tr5), .int (nI ec), .ref m6, .ref m7, .ref m8, .ref m9, .ref mA, .int (nI w), .int (nI nw), .ref mB, .ref mC, .ref mD, .int (nI kf), .ref mE, .ref mF])), (m1, .inl (cI, 600, .inl (nA sg))), (m6, .inl (cI, 4920, .inl (nA mb))), (m8, .inl (cZ, 492, .inl (zA mns)))] := hD
        obtain ⟨hc5, hd5, he5, hf5⟩ := gp_rs_bd hp87 (by omega) (by omega) hf4
        refine lv_aload_n hx hb d_Mo_readBin_90 rfl (lv_at hl 5 rfl) ?_
        refine ga_get S hK hP 0 rfl f_Mo_54 rfl d_Mo_readBin_91 ?_
        refine lv_if_lt (tgt := 98) hx hb d_Mo_readBin_94 (by decide) (fun c94 => ?_) (fun c94 => ?_)
        · have hz9 := (tI_neg (fun t q => by have := hf5 t q; omega)).1 c94
          have hq5 := he5 hz9
          have hy4 := hq5.1
          have hq4 := he4 hy4
          have hy3 := hq4.1
          have hq3 := he3 hy3
          have hr3 := hE3 hq3.1
          have hy2 := hr3.1
          have hq2 := he2 hy2
          have hr2 := hE2 hq2.1
          have hy1 := hr2.1
          rw [if_pos hy1, if_pos hy2, if_pos hy3, if_pos hy4] at hl
          have hl : lv_has ls 8 [(6, .int 0), (5, .int (nI w4)), (4, .int (nI w3)), (3, .int (nI w2)), (2, .int (nI w1)), (0, .ref mo), (1, .int (nI st))] := hl
          have hpl := gm_pl9 (t := w1) (p := w2) (s := w3) (by omega) (by omega) (by omega)
          subst hz9
          refine lv_bipush (v := 9) hx hb d_Mo_readBin_98 (by decide) ?_
          refine lv_iload_n hx hb d_Mo_readBin_100 rfl (lv_at hl 4 rfl) ?_
          refine lv_iload_n hx hb d_Mo_readBin_101 rfl (lv_at hl 3 rfl) ?_
          refine lv_iload hx hb d_Mo_readBin_102 (lv_at hl 2 rfl) ?_
          refine ga_cs (As := [.int 9, .int (nI w1), .int (nI w2), .int (nI w3)]) (rest := []) S hK hP s_Mo_75 (gc_Mo_place l D cI cZ cC cG 9 w1 w2 w3) [] rfl rfl hl.1 rfl (Nat.le_of_ble_eq_true rfl) ⟨Nat.le_of_ble_eq_true rfl, Nat.le_of_ble_eq_true rfl⟩ ⟨Nat.le_of_ble_eq_true rfl, Nat.le_of_ble_eq_true rfl⟩ d_Mo_readBin_104 (fun r hp104 => ?_)
          subst hp104
          refine lv_istore (lv' := [(7, .int (nI (gm_pl 9 w1 w2 w3))), (6, .int 0), (5, .int (nI w4)), (4, .int (nI w3)), (3, .int (nI w2)), (2, .int (nI w1)), (0, .ref mo), (1, .int (nI st))]) hx hb d_Mo_readBin_107 hl (by decide) rfl (fun ls hl => ?_)
          refine lv_aload_n hx hb d_Mo_readBin_109 rfl (lv_at hl 6 rfl) ?_
          refine ga_get S hK hP 0 rfl f_Mo_13 rfl d_Mo_readBin_110 ?_
          refine lv_iload hx hb d_Mo_readBin_113 (lv_at hl 0 rfl) ?_
          refine ga_ild S hK hP 2 0 rfl rfl (gm_pl 9 w1 w2 w3) (by omega) (by decide) d_Mo_readBin_115 ?_
          have hb6 := hmb (gm_pl 9 w1 w2 w3)
          refine lv_if_le (tgt := 124) hx hb d_Mo_readBin_116 (by decide) (fun c116 => ?_) (fun c116 => ?_)
          · have c116 : (mb (gm_pl 9 w1 w2 w3)) ≤ 0 := (nI_leI (a := (mb (gm_pl 9 w1 w2 w3))) (b := 0) (by omega) (by omega)).mp c116
            refine lv_aload_n hx hb d_Mo_readBin_124 rfl (lv_at hl 6 rfl) ?_
            refine ga_get S hK hP 0 rfl f_Mo_13 rfl d_Mo_readBin_125 ?_
            refine lv_iload hx hb d_Mo_readBin_128 (lv_at hl 0 rfl) ?_
            refine lv_iload hx hb d_Mo_readBin_130 (lv_at hl 2 rfl) ?_
            refine ga_ist (ws' := [(mo, .inr (6, [.int 0, .ref m1, .int (nI n), .int (nI po5), .int (tI none), .int (nI ec), .ref m6, .ref m7, .ref m8, .ref m9, .ref mA, .int (nI w), .int (nI nw), .ref mB, .ref mC, .ref mD, .int (nI kf), .ref mE, .ref mF])), (m1, .inl (cI, 600, .inl (nA sg))), (m6, .inl (cI, 4920, .inl (nA (va_up mb (gm_pl 9 w1 w2 w3) w4)))), (m8, .inl (cZ, 492, .inl (zA mns)))]) S hK hP hD hS 2 0 rfl rfl (gm_pl 9 w1 w2 w3) w4 (by omega) (by decide) rfl d_Mo_readBin_132 (fun H locs hP hD hS => ?_)
            refine lv_aload_n hx hb d_Mo_readBin_133 rfl (lv_at hl 6 rfl) ?_
            refine ga_get S hK hP 0 rfl f_Mo_20 rfl d_Mo_readBin_134 ?_
            refine lv_iload hx hb d_Mo_readBin_137 (lv_at hl 0 rfl) ?_
            refine lv_sipush (v := 4428) hx hb d_Mo_readBin_139 (by decide) ?_
            refine lv_isub hx hb d_Mo_readBin_142 ?_
            refine ga_top (nI ((gm_pl 9 w1 w2 w3) - 4428)) (pk_sub (a := (gm_pl 9 w1 w2 w3)) (b := 4428) (by omega)) ?_
            refine lv_iload hx hb d_Mo_readBin_143 (lv_at hl 1 rfl) ?_
            refine ga_zst (ws' := [(mo, .inr (6, [.int 0, .ref m1, .int (nI n), .int (nI po5), .int (tI none), .int (nI ec), .ref m6, .ref m7, .ref m8, .ref m9, .ref mA, .int (nI w), .int (nI nw), .ref mB, .ref mC, .ref mD, .int (nI kf), .ref mE, .ref mF])), (m1, .inl (cI, 600, .inl (nA sg))), (m6, .inl (cI, 4920, .inl (nA (va_up mb (gm_pl 9 w1 w2 w3) w4)))), (m8, .inl (cZ, 492, .inl (zA (va_up mns ((gm_pl 9 w1 w2 w3) - 4428) false))))]) S hK hP hD hS 3 1 rfl rfl ((gm_pl 9 w1 w2 w3) - 4428) false (by omega) (by decide) rfl d_Mo_readBin_145 (fun H locs hP hD hS => ?_)
            exact ga_wv (po5, none, (va_up mb (gm_pl 9 w1 w2 w3) w4, va_up mns (gm_pl 9 w1 w2 w3 - 4428) false)) S hrt hlk hP hD hS ⟨w1, w2, w3, w4, false, none, gp_B_eq ha1 hx1 ha2 hx2 ha3 hx3 ha4 hrp hp87, Or.inl ⟨rfl, by omega, rfl, rfl⟩⟩ d_Mo_readBin_146
          · have c116 : ¬ ((mb (gm_pl 9 w1 w2 w3)) ≤ 0) := fun q => c116 ((nI_leI (a := (mb (gm_pl 9 w1 w2 w3))) (b := 0) (by omega) (by omega)).mpr q)
            refine lv_aload_n hx hb d_Mo_readBin_119 rfl (lv_at hl 6 rfl) ?_
            refine lv_iload_n hx hb d_Mo_readBin_120 rfl (lv_at hl 7 rfl) ?_
            refine ga_jv (wr := [(m1, .inl (cI, 600, .inl (nA sg))), (m6, .inl (cI, 4920, .inl (nA mb))), (m8, .inl (cZ, 492, .inl (zA mns)))]) (ga_runV (As := [.int (nI st)]) (rest := []) S hK s_Mo_61 (gc_Mo_fails l D cI cZ cC cG mo m1 m6 m7 m8 m9 mA mB mC mD mE mF n po5 ec w nw kf none st (fun t q => by cases q) _) (ga_prV (y := y_Mo_fails) (q0 := 0) hK hP hD [0] rfl (by decide) rfl rfl) rfl hl.1 rfl (Nat.le_of_ble_eq_true rfl) ⟨Nat.le_of_ble_eq_true rfl, Nat.le_of_ble_eq_true rfl⟩ ⟨Nat.le_of_ble_eq_true rfl, Nat.le_of_ble_eq_true rfl⟩ d_Mo_readBin_121) hP hD hS hA [0] [1, 2, 3] rfl rfl (by decide) (by decide) [3, 0, 1, 2] (fun _ => [(mo, .inr (6, [.int 0, .ref m1, .int (nI n), .int (nI po5), .int (tI (some st)), .int (nI ec), .ref m6, .ref m7, .ref m8, .ref m9, .ref mA, .int (nI w), .int (nI nw), .ref mB, .ref mC, .ref mD, .int (nI kf), .ref mE, .ref mF])), (m1, .inl (cI, 600, .inl (nA sg))), (m6, .inl (cI, 4920, .inl (nA mb))), (m8, .inl (cZ, 492, .inl (zA mns)))]) (fun _ => rfl) (by decide) (fun x H locs hp121 hP hD hS => ?_)
            refine lv_aload_n hx hb d_Mo_readBin_124 rfl (lv_at hl 6 rfl) ?_
            refine ga_get S hK hP 0 rfl f_Mo_13 rfl d_Mo_readBin_125 ?_
            refine lv_iload hx hb d_Mo_readBin_128 (lv_at hl 0 rfl) ?_
            refine lv_iload hx hb d_Mo_readBin_130 (lv_at hl 2 rfl) ?_
            refine ga_ist (ws' := [(mo, .inr (6, [.int 0, .ref m1, .int (nI n), .int (nI po5), .int (tI (some st)), .int (nI ec), .ref m6, .ref m7, .ref m8, .ref m9, .ref mA, .int (nI w), .int (nI nw), .ref mB, .ref mC, .ref mD, .int (nI kf), .ref mE, .ref mF])), (m1, .inl (cI, 600, .inl (nA sg))), (m6, .inl (cI, 4920, .inl (nA (va_up mb (gm_pl 9 w1 w2 w3) w4)))), (m8, .inl (cZ, 492, .inl (zA mns)))]) S hK hP hD hS 2 0 rfl rfl (gm_pl 9 w1 w2 w3) w4 (by omega) (by decide) rfl d_Mo_readBin_132 (fun H locs hP hD hS => ?_)
            refine lv_aload_n hx hb d_Mo_readBin_133 rfl (lv_at hl 6 rfl) ?_
            refine ga_get S hK hP 0 rfl f_Mo_20 rfl d_Mo_readBin_134 ?_
            refine lv_iload hx hb d_Mo_readBin_137 (lv_at hl 0 rfl) ?_
            refine lv_sipush (v := 4428) hx hb d_Mo_readBin_139 (by decide) ?_
            refine lv_isub hx hb d_Mo_readBin_142 ?_
            refine ga_top (nI ((gm_pl 9 w1 w2 w3) - 4428)) (pk_sub (a := (gm_pl 9 w1 w2 w3)) (b := 4428) (by omega)) ?_
            refine lv_iload hx hb d_Mo_readBin_143 (lv_at hl 1 rfl) ?_
            refine ga_zst (ws' := [(mo, .inr (6, [.int 0, .ref m1, .int (nI n), .int (nI po5), .int (tI (some st)), .int (nI ec), .ref m6, .ref m7, .ref m8, .ref m9, .ref mA, .int (nI w), .int (nI nw), .ref mB, .ref mC, .ref mD, .int (nI kf), .ref mE, .ref mF])), (m1, .inl (cI, 600, .inl (nA sg))), (m6, .inl (cI, 4920, .inl (nA (va_up mb (gm_pl 9 w1 w2 w3) w4)))), (m8, .inl (cZ, 492, .inl (zA (va_up mns ((gm_pl 9 w1 w2 w3) - 4428) false))))]) S hK hP hD hS 3 1 rfl rfl ((gm_pl 9 w1 w2 w3) - 4428) false (by omega) (by decide) rfl d_Mo_readBin_145 (fun H locs hP hD hS => ?_)
            exact ga_wv (po5, some st, (va_up mb (gm_pl 9 w1 w2 w3) w4, va_up mns (gm_pl 9 w1 w2 w3 - 4428) false)) S hrt hlk hP hD hS ⟨w1, w2, w3, w4, false, none, gp_B_eq ha1 hx1 ha2 hx2 ha3 hx3 ha4 hrp hp87, Or.inr (Or.inl ⟨rfl, by omega, rfl, rfl⟩)⟩ d_Mo_readBin_146
        · have hz9 := (tI_neg (fun t q => by have := hf5 t q; omega)).2 c94
          exact ga_wv (po5, tr5, mb, mns) S hrt hlk hP hD hS ⟨w1, w2, w3, w4, false, tr5, gp_B_eq ha1 hx1 ha2 hx2 ha3 hx3 ha4 hrp hp87, Or.inr (Or.inr ⟨hz9, rfl, rfl⟩)⟩ d_Mo_readBin_97
      · exact absurd c65 (by decide)
    · have c52 : gp_sg sg n po4 = 43 := (gm_lk_eq hsg (by decide) (by decide)).mp c52
      have hlt4 := gp_sg_pos (sg := sg) (n := n) (i := po4) (by omega)
      have hrp : (true, po4 + 1) = gp_rp sg n (po4, tr4) := by rw [gp_rp, if_pos ⟨hz43, c52⟩]
      refine lv_iconst (v := 1) hx hb d_Mo_readBin_55 (by decide) ?_
      refine lv_goto (tgt := 60) hx hb d_Mo_readBin_56 (by decide) ?_
      refine lv_istore (lv' := [(6, .int 1), (5, .int (if tr4 = none then nI w4 else -1)), (4, .int (if tr3 = none then nI w3 else -1)), (3, .int (if tr2 = none then nI w2 else -1)), (2, .int (if tr1 = none then nI w1 else -1)), (0, .ref mo), (1, .int (nI st))]) hx hb d_Mo_readBin_60 hl (by decide) rfl (fun ls hl => ?_)
      refine lv_aload_n hx hb d_Mo_readBin_62 rfl (lv_at hl 5 rfl) ?_
      refine lv_iload hx hb d_Mo_readBin_63 (lv_at hl 0 rfl) ?_
      refine lv_if_eq (tgt := 77) hx hb d_Mo_readBin_65 (by decide) (fun c65 => ?_) (fun c65 => ?_)
      · exact absurd c65 (by decide)
      · refine lv_aload_n hx hb d_Mo_readBin_68 rfl (lv_at hl 5 rfl) ?_
        refine ga_get S hK hP 0 rfl f_Mo_51 rfl d_Mo_readBin_69 ?_
        refine lv_iconst (v := 1) hx hb d_Mo_readBin_72 (by decide) ?_
        refine lv_iadd hx hb d_Mo_readBin_73 ?_
        refine ga_top (nI (po4 + 1)) (nI_add po4 1) ?_
        refine lv_goto (tgt := 81) hx hb d_Mo_readBin_74 (by decide) ?_
        refine ga_put (ws' := [(mo, .inr (6, [.int 0, .ref m1, .int (nI n), .int (nI (po4 + 1)), .int (tI tr4), .int (nI ec), .ref m6, .ref m7, .ref m8, .ref m9, .ref mA, .int (nI w), .int (nI nw), .ref mB, .ref mC, .ref mD, .int (nI kf), .ref mE, .ref mF])), (m1, .inl (cI, 600, .inl (nA sg))), (m6, .inl (cI, 4920, .inl (nA mb))), (m8, .inl (cZ, 492, .inl (zA mns)))]) S hK hP hD hS 0 rfl p_Mo_51 rfl rfl (Nat.le_of_ble_eq_true rfl) rfl d_Mo_readBin_81 (fun H locs hP hD hS => ?_)
        refine lv_aload_n hx hb d_Mo_readBin_84 rfl (lv_at hl 5 rfl) ?_
        refine lv_bipush (v := 59) hx hb d_Mo_readBin_85 (by decide) ?_
        refine ga_jv (wr := [(m6, .inl (cI, 4920, .inl (nA mb))), (m8, .inl (cZ, 492, .inl (zA mns)))]) (ga_runV (As := [.int 59]) (rest := []) S hK s_Mo_65 (gc_Mo_sign1 l D cI cZ cC cG mo m1 m6 m7 m8 m9 mA mB mC mD mE mF n (po4 + 1) ec w nw kf tr4 sg (by omega) (by omega) hsg hf4 59 (by omega) (by omega) _) (ga_prV (y := y_Mo_sign1) (q0 := 0) hK hP hD [0, 1] rfl (by decide) rfl rfl) rfl hl.1 rfl (Nat.le_of_ble_eq_true rfl) ⟨Nat.le_of_ble_eq_true rfl, Nat.le_of_ble_eq_true rfl⟩ ⟨Nat.le_of_ble_eq_true rfl, Nat.le_of_ble_eq_true rfl⟩ d_Mo_readBin_87) hP hD hS hA [0, 1] [2, 3] rfl rfl (by decide) (by decide) [2, 3, 0, 1] (fun (x : Nat × Option Nat) => [(mo, .inr (6, [.int 0, .ref m1, .int (nI n), .int (nI x.1), .int (tI x.2), .int (nI ec), .ref m6, .ref m7, .ref m8, .ref m9, .ref mA, .int (nI w), .int (nI nw), .ref mB, .ref mC, .ref mD, .int (nI kf), .ref mE, .ref mF])), (m1, .inl (cI, 600, .inl (nA sg))), (m6, .inl (cI, 4920, .inl (nA mb))), (m8, .inl (cZ, 492, .inl (zA mns)))]) (fun _ => rfl) (by decide) (fun x H locs hp87 hP hD hS => ?_)
        obtain ⟨po5, tr5⟩ := x
        have hP : va_P D vwCl [(mo, .inr (6, [.int 0, .ref m1, .int (nI n), .int (nI po5), .int (tI tr5), .int (nI ec), .ref m6, .ref m7, .ref m8, .ref m9, .ref mA, .int (nI w), .int (nI nw), .ref mB, .ref mC, .ref mD, .int (nI kf), .ref mE, .ref mF])), (m1, .inl (cI, 600, .inl (nA sg))), (m6, .inl (cI, 4920, .inl (nA mb))), (m8, .inl (cZ, 492, .inl (zA mns)))] H := hP
        have hD : va_D A [(mo, .inr (6, [.int 0, .ref m1, .int (nI n), .int (nI po5), .int (tI tr5), .int (nI ec), .ref m6, .ref m7, .ref m8, .ref m9, .ref mA, .int (nI w), .int (nI nw), .ref mB, .ref mC, .ref mD, .int (nI kf), .ref mE, .ref mF])), (m1, .inl (cI, 600, .inl (nA sg))), (m6, .inl (cI, 4920, .inl (nA mb))), (m8, .inl (cZ, 492, .inl (zA mns)))] := hD
        obtain ⟨hc5, hd5, he5, hf5⟩ := gp_rs_bd hp87 (by omega) (by omega) hf4
        refine lv_aload_n hx hb d_Mo_readBin_90 rfl (lv_at hl 5 rfl) ?_
        refine ga_get S hK hP 0 rfl f_Mo_54 rfl d_Mo_readBin_91 ?_
        refine lv_if_lt (tgt := 98) hx hb d_Mo_readBin_94 (by decide) (fun c94 => ?_) (fun c94 => ?_)
        · have hz9 := (tI_neg (fun t q => by have := hf5 t q; omega)).1 c94
          have hq5 := he5 hz9
          have hy4 := hq5.1
          have hq4 := he4 hy4
          have hy3 := hq4.1
          have hq3 := he3 hy3
          have hr3 := hE3 hq3.1
          have hy2 := hr3.1
          have hq2 := he2 hy2
          have hr2 := hE2 hq2.1
          have hy1 := hr2.1
          rw [if_pos hy1, if_pos hy2, if_pos hy3, if_pos hy4] at hl
          have hl : lv_has ls 8 [(6, .int 1), (5, .int (nI w4)), (4, .int (nI w3)), (3, .int (nI w2)), (2, .int (nI w1)), (0, .ref mo), (1, .int (nI st))] := hl
          have hpl := gm_pl9 (t := w1) (p := w2) (s := w3) (by omega) (by omega) (by omega)
          subst hz9
          refine lv_bipush (v := 9) hx hb d_Mo_readBin_98 (by decide) ?_
          refine lv_iload_n hx hb d_Mo_readBin_100 rfl (lv_at hl 4 rfl) ?_
          refine lv_iload_n hx hb d_Mo_readBin_101 rfl (lv_at hl 3 rfl) ?_
          refine lv_iload hx hb d_Mo_readBin_102 (lv_at hl 2 rfl) ?_
          refine ga_cs (As := [.int 9, .int (nI w1), .int (nI w2), .int (nI w3)]) (rest := []) S hK hP s_Mo_75 (gc_Mo_place l D cI cZ cC cG 9 w1 w2 w3) [] rfl rfl hl.1 rfl (Nat.le_of_ble_eq_true rfl) ⟨Nat.le_of_ble_eq_true rfl, Nat.le_of_ble_eq_true rfl⟩ ⟨Nat.le_of_ble_eq_true rfl, Nat.le_of_ble_eq_true rfl⟩ d_Mo_readBin_104 (fun r hp104 => ?_)
          subst hp104
          refine lv_istore (lv' := [(7, .int (nI (gm_pl 9 w1 w2 w3))), (6, .int 1), (5, .int (nI w4)), (4, .int (nI w3)), (3, .int (nI w2)), (2, .int (nI w1)), (0, .ref mo), (1, .int (nI st))]) hx hb d_Mo_readBin_107 hl (by decide) rfl (fun ls hl => ?_)
          refine lv_aload_n hx hb d_Mo_readBin_109 rfl (lv_at hl 6 rfl) ?_
          refine ga_get S hK hP 0 rfl f_Mo_13 rfl d_Mo_readBin_110 ?_
          refine lv_iload hx hb d_Mo_readBin_113 (lv_at hl 0 rfl) ?_
          refine ga_ild S hK hP 2 0 rfl rfl (gm_pl 9 w1 w2 w3) (by omega) (by decide) d_Mo_readBin_115 ?_
          have hb6 := hmb (gm_pl 9 w1 w2 w3)
          refine lv_if_le (tgt := 124) hx hb d_Mo_readBin_116 (by decide) (fun c116 => ?_) (fun c116 => ?_)
          · have c116 : (mb (gm_pl 9 w1 w2 w3)) ≤ 0 := (nI_leI (a := (mb (gm_pl 9 w1 w2 w3))) (b := 0) (by omega) (by omega)).mp c116
            refine lv_aload_n hx hb d_Mo_readBin_124 rfl (lv_at hl 6 rfl) ?_
            refine ga_get S hK hP 0 rfl f_Mo_13 rfl d_Mo_readBin_125 ?_
            refine lv_iload hx hb d_Mo_readBin_128 (lv_at hl 0 rfl) ?_
            refine lv_iload hx hb d_Mo_readBin_130 (lv_at hl 2 rfl) ?_
            refine ga_ist (ws' := [(mo, .inr (6, [.int 0, .ref m1, .int (nI n), .int (nI po5), .int (tI none), .int (nI ec), .ref m6, .ref m7, .ref m8, .ref m9, .ref mA, .int (nI w), .int (nI nw), .ref mB, .ref mC, .ref mD, .int (nI kf), .ref mE, .ref mF])), (m1, .inl (cI, 600, .inl (nA sg))), (m6, .inl (cI, 4920, .inl (nA (va_up mb (gm_pl 9 w1 w2 w3) w4)))), (m8, .inl (cZ, 492, .inl (zA mns)))]) S hK hP hD hS 2 0 rfl rfl (gm_pl 9 w1 w2 w3) w4 (by omega) (by decide) rfl d_Mo_readBin_132 (fun H locs hP hD hS => ?_)
            refine lv_aload_n hx hb d_Mo_readBin_133 rfl (lv_at hl 6 rfl) ?_
            refine ga_get S hK hP 0 rfl f_Mo_20 rfl d_Mo_readBin_134 ?_
            refine lv_iload hx hb d_Mo_readBin_137 (lv_at hl 0 rfl) ?_
            refine lv_sipush (v := 4428) hx hb d_Mo_readBin_139 (by decide) ?_
            refine lv_isub hx hb d_Mo_readBin_142 ?_
            refine ga_top (nI ((gm_pl 9 w1 w2 w3) - 4428)) (pk_sub (a := (gm_pl 9 w1 w2 w3)) (b := 4428) (by omega)) ?_
            refine lv_iload hx hb d_Mo_readBin_143 (lv_at hl 1 rfl) ?_
            refine ga_zst (ws' := [(mo, .inr (6, [.int 0, .ref m1, .int (nI n), .int (nI po5), .int (tI none), .int (nI ec), .ref m6, .ref m7, .ref m8, .ref m9, .ref mA, .int (nI w), .int (nI nw), .ref mB, .ref mC, .ref mD, .int (nI kf), .ref mE, .ref mF])), (m1, .inl (cI, 600, .inl (nA sg))), (m6, .inl (cI, 4920, .inl (nA (va_up mb (gm_pl 9 w1 w2 w3) w4)))), (m8, .inl (cZ, 492, .inl (zA (va_up mns ((gm_pl 9 w1 w2 w3) - 4428) true))))]) S hK hP hD hS 3 1 rfl rfl ((gm_pl 9 w1 w2 w3) - 4428) true (by omega) (by decide) rfl d_Mo_readBin_145 (fun H locs hP hD hS => ?_)
            exact ga_wv (po5, none, (va_up mb (gm_pl 9 w1 w2 w3) w4, va_up mns (gm_pl 9 w1 w2 w3 - 4428) true)) S hrt hlk hP hD hS ⟨w1, w2, w3, w4, true, none, gp_B_eq ha1 hx1 ha2 hx2 ha3 hx3 ha4 hrp hp87, Or.inl ⟨rfl, by omega, rfl, rfl⟩⟩ d_Mo_readBin_146
          · have c116 : ¬ ((mb (gm_pl 9 w1 w2 w3)) ≤ 0) := fun q => c116 ((nI_leI (a := (mb (gm_pl 9 w1 w2 w3))) (b := 0) (by omega) (by omega)).mpr q)
            refine lv_aload_n hx hb d_Mo_readBin_119 rfl (lv_at hl 6 rfl) ?_
            refine lv_iload_n hx hb d_Mo_readBin_120 rfl (lv_at hl 7 rfl) ?_
            refine ga_jv (wr := [(m1, .inl (cI, 600, .inl (nA sg))), (m6, .inl (cI, 4920, .inl (nA mb))), (m8, .inl (cZ, 492, .inl (zA mns)))]) (ga_runV (As := [.int (nI st)]) (rest := []) S hK s_Mo_61 (gc_Mo_fails l D cI cZ cC cG mo m1 m6 m7 m8 m9 mA mB mC mD mE mF n po5 ec w nw kf none st (fun t q => by cases q) _) (ga_prV (y := y_Mo_fails) (q0 := 0) hK hP hD [0] rfl (by decide) rfl rfl) rfl hl.1 rfl (Nat.le_of_ble_eq_true rfl) ⟨Nat.le_of_ble_eq_true rfl, Nat.le_of_ble_eq_true rfl⟩ ⟨Nat.le_of_ble_eq_true rfl, Nat.le_of_ble_eq_true rfl⟩ d_Mo_readBin_121) hP hD hS hA [0] [1, 2, 3] rfl rfl (by decide) (by decide) [3, 0, 1, 2] (fun _ => [(mo, .inr (6, [.int 0, .ref m1, .int (nI n), .int (nI po5), .int (tI (some st)), .int (nI ec), .ref m6, .ref m7, .ref m8, .ref m9, .ref mA, .int (nI w), .int (nI nw), .ref mB, .ref mC, .ref mD, .int (nI kf), .ref mE, .ref mF])), (m1, .inl (cI, 600, .inl (nA sg))), (m6, .inl (cI, 4920, .inl (nA mb))), (m8, .inl (cZ, 492, .inl (zA mns)))]) (fun _ => rfl) (by decide) (fun x H locs hp121 hP hD hS => ?_)
            refine lv_aload_n hx hb d_Mo_readBin_124 rfl (lv_at hl 6 rfl) ?_
            refine ga_get S hK hP 0 rfl f_Mo_13 rfl d_Mo_readBin_125 ?_
            refine lv_iload hx hb d_Mo_readBin_128 (lv_at hl 0 rfl) ?_
            refine lv_iload hx hb d_Mo_readBin_130 (lv_at hl 2 rfl) ?_
            refine ga_ist (ws' := [(mo, .inr (6, [.int 0, .ref m1, .int (nI n), .int (nI po5), .int (tI (some st)), .int (nI ec), .ref m6, .ref m7, .ref m8, .ref m9, .ref mA, .int (nI w), .int (nI nw), .ref mB, .ref mC, .ref mD, .int (nI kf), .ref mE, .ref mF])), (m1, .inl (cI, 600, .inl (nA sg))), (m6, .inl (cI, 4920, .inl (nA (va_up mb (gm_pl 9 w1 w2 w3) w4)))), (m8, .inl (cZ, 492, .inl (zA mns)))]) S hK hP hD hS 2 0 rfl rfl (gm_pl 9 w1 w2 w3) w4 (by omega) (by decide) rfl d_Mo_readBin_132 (fun H locs hP hD hS => ?_)
            refine lv_aload_n hx hb d_Mo_readBin_133 rfl (lv_at hl 6 rfl) ?_
            refine ga_get S hK hP 0 rfl f_Mo_20 rfl d_Mo_readBin_134 ?_
            refine lv_iload hx hb d_Mo_readBin_137 (lv_at hl 0 rfl) ?_
            refine lv_sipush (v := 4428) hx hb d_Mo_readBin_139 (by decide) ?_
            refine lv_isub hx hb d_Mo_readBin_142 ?_
            refine ga_top (nI ((gm_pl 9 w1 w2 w3) - 4428)) (pk_sub (a := (gm_pl 9 w1 w2 w3)) (b := 4428) (by omega)) ?_
            refine lv_iload hx hb d_Mo_readBin_143 (lv_at hl 1 rfl) ?_
            refine ga_zst (ws' := [(mo, .inr (6, [.int 0, .ref m1, .int (nI n), .int (nI po5), .int (tI (some st)), .int (nI ec), .ref m6, .ref m7, .ref m8, .ref m9, .ref mA, .int (nI w), .int (nI nw), .ref mB, .ref mC, .ref mD, .int (nI kf), .ref mE, .ref mF])), (m1, .inl (cI, 600, .inl (nA sg))), (m6, .inl (cI, 4920, .inl (nA (va_up mb (gm_pl 9 w1 w2 w3) w4)))), (m8, .inl (cZ, 492, .inl (zA (va_up mns ((gm_pl 9 w1 w2 w3) - 4428) true))))]) S hK hP hD hS 3 1 rfl rfl ((gm_pl 9 w1 w2 w3) - 4428) true (by omega) (by decide) rfl d_Mo_readBin_145 (fun H locs hP hD hS => ?_)
            exact ga_wv (po5, some st, (va_up mb (gm_pl 9 w1 w2 w3) w4, va_up mns (gm_pl 9 w1 w2 w3 - 4428) true)) S hrt hlk hP hD hS ⟨w1, w2, w3, w4, true, none, gp_B_eq ha1 hx1 ha2 hx2 ha3 hx3 ha4 hrp hp87, Or.inr (Or.inl ⟨rfl, by omega, rfl, rfl⟩)⟩ d_Mo_readBin_146
        · have hz9 := (tI_neg (fun t q => by have := hf5 t q; omega)).2 c94
          exact ga_wv (po5, tr5, mb, mns) S hrt hlk hP hD hS ⟨w1, w2, w3, w4, true, tr5, gp_B_eq ha1 hx1 ha2 hx2 ha3 hx3 ha4 hrp hp87, Or.inr (Or.inr ⟨hz9, rfl, rfl⟩)⟩ d_Mo_readBin_97
set_option maxHeartbeats 4000000 in
set_option maxRecDepth 100000 in
theorem gc_Mo_readOverflow (l : Launch) (D : va_G) (cI cZ cC cG : ClassId) (mo m1 m6 m7 m8 m9 mA mB mC mD mE mF n pos ec w nw kf : Nat) (sg : Nat → Nat) (hn : n ≤ 600) (hpos : pos ≤ n) (hsg : ∀ j, sg j < 2 ^ 31) (st : Nat) (nn : Nat → Nat) (hnn : ∀ j, nn j ≤ 60) : ga_Mv l y_Mo_readOverflow b_Mo_readOverflow 4 3 0 0 D (ga_T cI cZ cC cG) [.ref mo, .int (nI st)] [(mo, .inr (6, [.int 0, .ref m1, .int (nI n), .int (nI pos), .int (tI none), .int (nI ec), .ref m6, .ref m7, .ref m8, .ref m9, .ref mA, .int (nI w), .int (nI nw), .ref mB, .ref mC, .ref mD, .int (nI kf), .ref mE, .ref mF])), (m1, .inl (cI, 600, .inl (nA sg))), (mC, .inl (cI, 61, .inl (nA nn)))] (fun (x : Nat × Option Nat × (Nat → Nat)) => [(mo, .inr (6, [.int 0, .ref m1, .int (nI n), .int (nI x.1), .int (tI x.2.1), .int (nI ec), .ref m6, .ref m7, .ref m8, .ref m9, .ref mA, .int (nI w), .int (nI nw), .ref mB, .ref mC, .ref mD, .int (nI kf), .ref mE, .ref mF])), (m1, .inl (cI, 600, .inl (nA sg))), (mC, .inl (cI, 61, .inl (nA x.2.2)))]) (fun x => ∃ w1 w3 t, gp_O sg n pos = (w1, w3, x.1, t) ∧ ((t = none ∧ nn w1 = 0 ∧ x.2.1 = none ∧ x.2.2 = va_up nn w1 w3) ∨ (t = none ∧ nn w1 ≠ 0 ∧ x.2.1 = some st ∧ x.2.2 = va_up nn w1 w3) ∨ (t ≠ none ∧ x.2.1 = t ∧ x.2.2 = nn))) := by
  refine ga_enV (by decide) (Nat.le_of_ble_eq_true rfl) ?_
  intro p e s m below meth c ls A S hrt hlk hnm hK hP hD hA hl
  have hS : va_S A s.heap s.heap [] := va_S.rf
  obtain ⟨hx, hb, hml, hown, hts⟩ := id S
  have hl : lv_has ls 4 [(0, .ref mo), (1, .int (nI st))] := hl
  have htr : ∀ t, (none : Option Nat) = some t → t ≤ n := fun _ q => by cases q
  refine lv_aload_n hx hb d_Mo_readOverflow_0 rfl (lv_at hl 0 rfl) ?_
  refine lv_iconst (v := 1) hx hb d_Mo_readOverflow_1 (by decide) ?_
  refine lv_bipush (v := 60) hx hb d_Mo_readOverflow_2 (by decide) ?_
  refine lv_bipush (v := 44) hx hb d_Mo_readOverflow_4 (by decide) ?_
  refine ga_ji (wr := [(mC, .inl (cI, 61, .inl (nA nn)))]) (ga_runV (As := [.int 1, .int 60, .int 44]) (rest := []) S hK s_Mo_68 (gc_Mo_number l D cI cZ cC cG mo m1 m6 m7 m8 m9 mA mB mC mD mE mF n pos ec w nw kf none sg (by omega) (by omega) hsg htr 1 1 60 44 (by omega) (by omega) (by omega) (fun _ => rfl) _) (ga_prV (y := y_Mo_number) (q0 := 0) hK hP hD [0, 1] rfl (by decide) rfl rfl) rfl hl.1 rfl (Nat.le_of_ble_eq_true rfl) ⟨Nat.le_of_ble_eq_true rfl, Nat.le_of_ble_eq_true rfl⟩ ⟨Nat.le_of_ble_eq_true rfl, Nat.le_of_ble_eq_true rfl⟩ d_Mo_readOverflow_6) hP hD hS hA [0, 1] [2] rfl rfl (by decide) (by decide) [1, 2, 0] (fun (x : Nat × Option Nat) => [(mo, .inr (6, [.int 0, .ref m1, .int (nI n), .int (nI x.1), .int (tI x.2), .int (nI ec), .ref m6, .ref m7, .ref m8, .ref m9, .ref mA, .int (nI w), .int (nI nw), .ref mB, .ref mC, .ref mD, .int (nI kf), .ref mE, .ref mF])), (m1, .inl (cI, 600, .inl (nA sg))), (mC, .inl (cI, 61, .inl (nA nn)))]) (fun _ => rfl) (by decide) (fun r x H locs hp6 hP hD hS => ?_)
  obtain ⟨po1, tr1⟩ := x
  have hP : va_P D vwCl [(mo, .inr (6, [.int 0, .ref m1, .int (nI n), .int (nI po1), .int (tI tr1), .int (nI ec), .ref m6, .ref m7, .ref m8, .ref m9, .ref mA, .int (nI w), .int (nI nw), .ref mB, .ref mC, .ref mD, .int (nI kf), .ref mE, .ref mF])), (m1, .inl (cI, 600, .inl (nA sg))), (mC, .inl (cI, 61, .inl (nA nn)))] H := hP
  have hD : va_D A [(mo, .inr (6, [.int 0, .ref m1, .int (nI n), .int (nI po1), .int (tI tr1), .int (nI ec), .ref m6, .ref m7, .ref m8, .ref m9, .ref mA, .int (nI w), .int (nI nw), .ref mB, .ref mC, .ref mD, .int (nI kf), .ref mE, .ref mF])), (m1, .inl (cI, 600, .inl (nA sg))), (mC, .inl (cI, 61, .inl (nA nn)))] := hD
  obtain ⟨w1, p1, t1, ha1, hx1, rfl⟩ := hp6
  rw [gm_nu, if_neg (by decide)] at hx1
  obtain ⟨hA1, hB1, hC1, hD1, hE1, hF1⟩ := gp_rn_bd ha1 (by omega) (by omega) htr
  obtain ⟨hc1, hd1, he1, hf1⟩ := gp_rs_bd hx1 (by omega) (by omega) hF1
  refine lv_istore_n (lv' := [(2, .int (if tr1 = none then nI w1 else -1)), (0, .ref mo), (1, .int (nI st))]) hx hb d_Mo_readOverflow_9 rfl hl (by decide) rfl (fun ls hl => ?_)
  refine lv_aload_n hx hb d_Mo_readOverflow_10 rfl (lv_at hl 1 rfl) ?_
  refine lv_iconst (v := 1) hx hb d_Mo_readOverflow_11 (by decide) ?_
  refine lv_bipush (v := 60) hx hb d_Mo_readOverflow_12 (by decide) ?_
  refine lv_bipush (v := 59) hx hb d_Mo_readOverflow_14 (by decide) ?_
  refine ga_ji (wr := [(mC, .inl (cI, 61, .inl (nA nn)))]) (ga_runV (As := [.int 1, .int 60, .int 59]) (rest := []) S hK s_Mo_68 (gc_Mo_number l D cI cZ cC cG mo m1 m6 m7 m8 m9 mA mB mC mD mE mF n po1 ec w nw kf tr1 sg (by omega) (by omega) hsg hf1 1 1 60 59 (by omega) (by omega) (by omega) (fun _ => rfl) _) (ga_prV (y := y_Mo_number) (q0 := 0) hK hP hD [0, 1] rfl (by decide) rfl rfl) rfl hl.1 rfl (Nat.le_of_ble_eq_true rfl) ⟨Nat.le_of_ble_eq_true rfl, Nat.le_of_ble_eq_true rfl⟩ ⟨Nat.le_of_ble_eq_true rfl, Nat.le_of_ble_eq_true rfl⟩ d_Mo_readOverflow_16) hP hD hS hA [0, 1] [2] rfl rfl (by decide) (by decide) [1, 2, 0] (fun (x : Nat × Option Nat) => [(mo, .inr (6, [.int 0, .ref m1, .int (nI n), .int (nI x.1), .int (tI x.2), .int (nI ec), .ref m6, .ref m7, .ref m8, .ref m9, .ref mA, .int (nI w), .int (nI nw), .ref mB, .ref mC, .ref mD, .int (nI kf), .ref mE, .ref mF])), (m1, .inl (cI, 600, .inl (nA sg))), (mC, .inl (cI, 61, .inl (nA nn)))]) (fun _ => rfl) (by decide) (fun r x H locs hp16 hP hD hS => ?_)
  obtain ⟨po2, tr2⟩ := x
  have hP : va_P D vwCl [(mo, .inr (6, [.int 0, .ref m1, .int (nI n), .int (nI po2), .int (tI tr2), .int (nI ec), .ref m6, .ref m7, .ref m8, .ref m9, .ref mA, .int (nI w), .int (nI nw), .ref mB, .ref mC, .ref mD, .int (nI kf), .ref mE, .ref mF])), (m1, .inl (cI, 600, .inl (nA sg))), (mC, .inl (cI, 61, .inl (nA nn)))] H := hP
  have hD : va_D A [(mo, .inr (6, [.int 0, .ref m1, .int (nI n), .int (nI po2), .int (tI tr2), .int (nI ec), .ref m6, .ref m7, .ref m8, .ref m9, .ref mA, .int (nI w), .int (nI nw), .ref mB, .ref mC, .ref mD, .int (nI kf), .ref mE, .ref mF])), (m1, .inl (cI, 600, .inl (nA sg))), (mC, .inl (cI, 61, .inl (nA nn)))] := hD
  obtain ⟨w2, p2, t2, ha2, hx2, rfl⟩ := hp16
  rw [gm_nu, if_neg (by decide)] at hx2
  obtain ⟨hA2, hB2, hC2, hD2, hE2, hF2⟩ := gp_rn_bd ha2 (by omega) (by omega) hf1
  obtain ⟨hc2, hd2, he2, hf2⟩ := gp_rs_bd hx2 (by omega) (by omega) hF2
  refine lv_istore_n (lv' := [(3, .int (if tr2 = none then nI w2 else -1)), (2, .int (if tr1 = none then nI w1 else -1)), (0, .ref mo), (1, .int (nI st))]) hx hb d_Mo_readOverflow_19 rfl hl (by decide) rfl (fun ls hl => ?_)
  refine lv_aload_n hx hb d_Mo_readOverflow_20 rfl (lv_at hl 2 rfl) ?_
  refine ga_get S hK hP 0 rfl f_Mo_54 rfl d_Mo_readOverflow_21 ?_
  refine lv_if_lt (tgt := 28) hx hb d_Mo_readOverflow_24 (by decide) (fun c24 => ?_) (fun c24 => ?_)
  · have hz9 := (tI_neg (fun t q => by have := hf2 t q; omega)).1 c24
    have hq2 := he2 hz9
    have hr2 := hE2 hq2.1
    have hy1 := hr2.1
    rw [if_pos hy1, if_pos hz9] at hl
    have hl : lv_has ls 4 [(3, .int (nI w2)), (2, .int (nI w1)), (0, .ref mo), (1, .int (nI st))] := hl
    subst hz9
    refine lv_aload_n hx hb d_Mo_readOverflow_28 rfl (lv_at hl 2 rfl) ?_
    refine ga_get S hK hP 0 rfl f_Mo_32 rfl d_Mo_readOverflow_29 ?_
    refine lv_iload_n hx hb d_Mo_readOverflow_32 rfl (lv_at hl 1 rfl) ?_
    refine ga_ild S hK hP 2 0 rfl rfl w1 (by omega) (by decide) d_Mo_readOverflow_33 ?_
    have hb3 := hnn w1
    refine lv_if_le (tgt := 42) hx hb d_Mo_readOverflow_34 (by decide) (fun c34 => ?_) (fun c34 => ?_)
    · have c34 : (nn w1) ≤ 0 := (nI_leI (a := (nn w1)) (b := 0) (by omega) (by omega)).mp c34
      refine lv_aload_n hx hb d_Mo_readOverflow_42 rfl (lv_at hl 2 rfl) ?_
      refine ga_get S hK hP 0 rfl f_Mo_32 rfl d_Mo_readOverflow_43 ?_
      refine lv_iload_n hx hb d_Mo_readOverflow_46 rfl (lv_at hl 1 rfl) ?_
      refine lv_iload_n hx hb d_Mo_readOverflow_47 rfl (lv_at hl 0 rfl) ?_
      refine ga_ist (ws' := [(mo, .inr (6, [.int 0, .ref m1, .int (nI n), .int (nI po2), .int (tI none), .int (nI ec), .ref m6, .ref m7, .ref m8, .ref m9, .ref mA, .int (nI w), .int (nI nw), .ref mB, .ref mC, .ref mD, .int (nI kf), .ref mE, .ref mF])), (m1, .inl (cI, 600, .inl (nA sg))), (mC, .inl (cI, 61, .inl (nA (va_up nn w1 w2))))]) S hK hP hD hS 2 0 rfl rfl w1 w2 (by omega) (by decide) rfl d_Mo_readOverflow_48 (fun H locs hP hD hS => ?_)
      exact ga_wv (po2, none, va_up nn w1 w2) S hrt hlk hP hD hS ⟨w1, w2, none, gp_O_eq ha1 hx1 ha2 hx2, Or.inl ⟨rfl, by omega, rfl, rfl⟩⟩ d_Mo_readOverflow_49
    · have c34 : ¬ ((nn w1) ≤ 0) := fun q => c34 ((nI_leI (a := (nn w1)) (b := 0) (by omega) (by omega)).mpr q)
      refine lv_aload_n hx hb d_Mo_readOverflow_37 rfl (lv_at hl 2 rfl) ?_
      refine lv_iload_n hx hb d_Mo_readOverflow_38 rfl (lv_at hl 3 rfl) ?_
      refine ga_jv (wr := [(m1, .inl (cI, 600, .inl (nA sg))), (mC, .inl (cI, 61, .inl (nA nn)))]) (ga_runV (As := [.int (nI st)]) (rest := []) S hK s_Mo_61 (gc_Mo_fails l D cI cZ cC cG mo m1 m6 m7 m8 m9 mA mB mC mD mE mF n po2 ec w nw kf none st (fun t q => by cases q) _) (ga_prV (y := y_Mo_fails) (q0 := 0) hK hP hD [0] rfl (by decide) rfl rfl) rfl hl.1 rfl (Nat.le_of_ble_eq_true rfl) ⟨Nat.le_of_ble_eq_true rfl, Nat.le_of_ble_eq_true rfl⟩ ⟨Nat.le_of_ble_eq_true rfl, Nat.le_of_ble_eq_true rfl⟩ d_Mo_readOverflow_39) hP hD hS hA [0] [1, 2] rfl rfl (by decide) (by decide) [2, 0, 1] (fun _ => [(mo, .inr (6, [.int 0, .ref m1, .int (nI n), .int (nI po2), .int (tI (some st)), .int (nI ec), .ref m6, .ref m7, .ref m8, .ref m9, .ref mA, .int (nI w), .int (nI nw), .ref mB, .ref mC, .ref mD, .int (nI kf), .ref mE, .ref mF])), (m1, .inl (cI, 600, .inl (nA sg))), (mC, .inl (cI, 61, .inl (nA nn)))]) (fun _ => rfl) (by decide) (fun x H locs hp39 hP hD hS => ?_)
      refine lv_aload_n hx hb d_Mo_readOverflow_42 rfl (lv_at hl 2 rfl) ?_
      refine ga_get S hK hP 0 rfl f_Mo_32 rfl d_Mo_readOverflow_43 ?_
      refine lv_iload_n hx hb d_Mo_readOverflow_46 rfl (lv_at hl 1 rfl) ?_
      refine lv_iload_n hx hb d_Mo_readOverflow_47 rfl (lv_at hl 0 rfl) ?_
      refine ga_ist (ws' := [(mo, .inr (6, [.int 0, .ref m1, .int (nI n), .int (nI po2), .int (tI (some st)), .int (nI ec), .ref m6, .ref m7, .ref m8, .ref m9, .ref mA, .int (nI w), .int (nI nw), .ref mB, .ref mC, .ref mD, .int (nI kf), .ref mE, .ref mF])), (m1, .inl (cI, 600, .inl (nA sg))), (mC, .inl (cI, 61, .inl (nA (va_up nn w1 w2))))]) S hK hP hD hS 2 0 rfl rfl w1 w2 (by omega) (by decide) rfl d_Mo_readOverflow_48 (fun H locs hP hD hS => ?_)
      exact ga_wv (po2, some st, va_up nn w1 w2) S hrt hlk hP hD hS ⟨w1, w2, none, gp_O_eq ha1 hx1 ha2 hx2, Or.inr (Or.inl ⟨rfl, by omega, rfl, rfl⟩)⟩ d_Mo_readOverflow_49
  · have hz9 := (tI_neg (fun t q => by have := hf2 t q; omega)).2 c24
    exact ga_wv (po2, tr2, nn) S hrt hlk hP hD hS ⟨w1, w2, tr2, gp_O_eq ha1 hx1 ha2 hx2, Or.inr (Or.inr ⟨hz9, rfl, rfl⟩)⟩ d_Mo_readOverflow_27
