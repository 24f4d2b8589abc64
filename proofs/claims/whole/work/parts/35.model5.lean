set_option maxHeartbeats 4000000 in
set_option maxRecDepth 100000 in
theorem gc_Mo_readAll (l : Launch) (D : va_G) (cI cZ cC cG : ClassId) (mo m1 m6 m7 m8 m9 mA mB mC mD mE mF n ec w nw kf : Nat) (sg : Nat → Nat) (d : gp_D) (mb : Nat → Nat) (mns : Nat → Bool) (nc nn : Nat → Nat) (hn : n ≤ 600) (hsg : ∀ j, sg j < 2 ^ 31) (hmb : ∀ j, mb j ≤ 60) (hnn : ∀ j, nn j ≤ 60) (hok0 : gp_ok n (0, none, d)) (hR0 : gm_R d mb mns nc nw nn) : ga_Mi l y_Mo_readAll b_Mo_readAll 4 (some .int) 4 0 0 D (ga_T cI cZ cC cG) [.ref mo] [(mo, .inr (6, [.int 0, .ref m1, .int (nI n), .int (nI 0), .int (tI none), .int (nI ec), .ref m6, .ref m7, .ref m8, .ref m9, .ref mA, .int (nI w), .int (nI nw), .ref mB, .ref mC, .ref mD, .int (nI kf), .ref mE, .ref mF])), (m1, .inl (cI, 600, .inl (nA sg))), (m6, .inl (cI, 4920, .inl (nA mb))), (m8, .inl (cZ, 492, .inl (zA mns))), (mA, .inl (cI, 600, .inl (nA nc))), (mC, .inl (cI, 61, .inl (nA nn)))] (fun (x : Nat × Option Nat × (Nat → Nat) × (Nat → Bool) × (Nat → Nat) × Nat × (Nat → Nat)) => [(mo, .inr (6, [.int 0, .ref m1, .int (nI n), .int (nI x.1), .int (tI x.2.1), .int (nI ec), .ref m6, .ref m7, .ref m8, .ref m9, .ref mA, .int (nI w), .int (nI x.2.2.2.2.2.1), .ref mB, .ref mC, .ref mD, .int (nI kf), .ref mE, .ref mF])), (m1, .inl (cI, 600, .inl (nA sg))), (m6, .inl (cI, 4920, .inl (nA x.2.2.1))), (m8, .inl (cZ, 492, .inl (zA x.2.2.2.1))), (mA, .inl (cI, 600, .inl (nA x.2.2.2.2.1))), (mC, .inl (cI, 61, .inl (nA x.2.2.2.2.2.2)))]) (fun r x => ∃ cnt d2, r = nI cnt ∧ gp_all sg n 600 0 (0, none, d) = (cnt, x.1, x.2.1, d2) ∧ gp_ok n (x.1, x.2.1, d2) ∧ (x.2.1 = none → gm_R d2 x.2.2.1 x.2.2.2.1 x.2.2.2.2.1 x.2.2.2.2.2.1 x.2.2.2.2.2.2) ∧ (∀ j, j < 4428 → x.2.2.1 j = mb j) ∧ (∀ j, x.2.2.1 j ≤ 60)) := by
  refine ga_enI (by decide) (Nat.le_of_ble_eq_true rfl) ?_
  intro p e s m below meth c ls A S hrt hlk hK hP hD hA hl
  have hS : va_S A s.heap s.heap [] := va_S.rf
  obtain ⟨hx, hb, hml, hown, hts⟩ := id S
  have hl : lv_has ls 4 [(0, .ref mo)] := hl
  refine lv_iconst (v := 0) hx hb d_Mo_readAll_0 (by decide) ?_
  refine lv_istore_n (lv' := [(1, .int 0), (0, .ref mo)]) hx hb d_Mo_readAll_1 rfl hl (by decide) rfl (fun ls hl => ?_)
  refine ga_loop (α := Nat × Nat × Option Nat × (Nat → Nat) × (Nat → Bool) × (Nat → Nat) × Nat × (Nat → Nat) × gp_D) (fun x => match x with | (cnt, po, wr, mb2, ns2, nc2, nw2, nn2, dd) => 600 - po) (fun x ls H locs => match x with | (cnt, po, wr, mb2, ns2, nc2, nw2, nn2, dd) => lv_has ls 4 [(1, .int (nI cnt)), (0, .ref mo)] ∧ va_P D vwCl [(mo, .inr (6, [.int 0, .ref m1, .int (nI n), .int (nI po), .int (tI wr), .int (nI ec), .ref m6, .ref m7, .ref m8, .ref m9, .ref mA, .int (nI w), .int (nI nw2), .ref mB, .ref mC, .ref mD, .int (nI kf), .ref mE, .ref mF])), (m1, .inl (cI, 600, .inl (nA sg))), (m6, .inl (cI, 4920, .inl (nA mb2))), (m8, .inl (cZ, 492, .inl (zA ns2))), (mA, .inl (cI, 600, .inl (nA nc2))), (mC, .inl (cI, 61, .inl (nA nn2)))] H ∧ va_D A [(mo, .inr (6, [.int 0, .ref m1, .int (nI n), .int (nI po), .int (tI wr), .int (nI ec), .ref m6, .ref m7, .ref m8, .ref m9, .ref mA, .int (nI w), .int (nI nw2), .ref mB, .ref mC, .ref mD, .int (nI kf), .ref mE, .ref mF])), (m1, .inl (cI, 600, .inl (nA sg))), (m6, .inl (cI, 4920, .inl (nA mb2))), (m8, .inl (cZ, 492, .inl (zA ns2))), (mA, .inl (cI, 600, .inl (nA nc2))), (mC, .inl (cI, 61, .inl (nA nn2)))] ∧ va_S A s.heap H locs ∧ cnt ≤ po ∧ gp_all sg n (600 - cnt) cnt (po, wr, dd) = gp_all sg n 600 0 (0, none, d) ∧ gp_ok n (po, wr, dd) ∧ (wr = none → gm_R dd mb2 ns2 nc2 nw2 nn2) ∧ (∀ j, j < 4428 → mb2 j = mb j) ∧ (∀ j, mb2 j ≤ 60) ∧ (∀ j, nn2 j ≤ 60)) ?_ (0, 0, none, mb, mns, nc, nw, nn, d) ⟨lv_sub hl [0, 1] rfl, hP, hD, hS, ⟨Nat.le_refl _, rfl, hok0, (fun _ => hR0), (fun _ _ => rfl), hmb, hnn⟩⟩
  intro x ls H locs hI ih
  obtain ⟨cnt, po, wr, mb2, ns2, nc2, nw2, nn2, dd⟩ := x
  obtain ⟨hl, hP, hD, hS, ⟨hcn, hiv, hok, hRR, hfr, hbm, hbn2⟩⟩ := hI
  have hl : lv_has ls 4 [(1, .int (nI cnt)), (0, .ref mo)] := hl
  have hP : va_P D vwCl [(mo, .inr (6, [.int 0, .ref m1, .int (nI n), .int (nI po), .int (tI wr), .int (nI ec), .ref m6, .ref m7, .ref m8, .ref m9, .ref mA, .int (nI w), .int (nI nw2), .ref mB, .ref mC, .ref mD, .int (nI kf), .ref mE, .ref mF])), (m1, .inl (cI, 600, .inl (nA sg))), (m6, .inl (cI, 4920, .inl (nA mb2))), (m8, .inl (cZ, 492, .inl (zA ns2))), (mA, .inl (cI, 600, .inl (nA nc2))), (mC, .inl (cI, 61, .inl (nA nn2)))] H := hP
  have hD : va_D A [(mo, .inr (6, [.int 0, .ref m1, .int (nI n), .int (nI po), .int (tI wr), .int (nI ec), .ref m6, .ref m7, .ref m8, .ref m9, .ref mA, .int (nI w), .int (nI nw2), .ref mB, .ref mC, .ref mD, .int (nI kf), .ref mE, .ref mF])), (m1, .inl (cI, 600, .inl (nA sg))), (m6, .inl (cI, 4920, .inl (nA mb2))), (m8, .inl (cZ, 492, .inl (zA ns2))), (mA, .inl (cI, 600, .inl (nA nc2))), (mC, .inl (cI, 61, .inl (nA nn2)))] := hD
  have hok2 := id hok
  obtain ⟨bn, shr, us, ne, r1, r2, r3, r4, rg⟩ := dd
  obtain ⟨hpo, htr, -, -, hrg, -, -⟩ := hok2
  refine lv_aload_n hx hb d_Mo_readAll_2 rfl (lv_at hl 1 rfl) ?_
  refine ga_get S hK hP 0 rfl f_Mo_54 rfl d_Mo_readAll_3 ?_
  refine lv_if_ge (tgt := 92) hx hb d_Mo_readAll_6 (by decide) (fun c6 => ?_) (fun c6 => ?_)
  · have hz := (tI_ge (fun t q => by have := htr t q; omega)).1 c6
    refine lv_iload_n hx hb d_Mo_readAll_92 rfl (lv_at hl 0 rfl) ?_
    exact ga_wi (po, wr, mb2, ns2, nc2, nw2, nn2) S hrt hlk hP hD hS ⟨cnt, (bn, shr, us, ne, r1, r2, r3, r4, rg), rfl, by rw [← hiv]; exact gp_all_stop (by first | exact Or.inr (Or.inr hz) | exact Or.inr (Or.inl (by omega))), hok, hRR, hfr, hbm⟩ d_Mo_readAll_93
  · have hz := (tI_ge (fun t q => by have := htr t q; omega)).2 c6
    subst hz
    have hR := hRR rfl
    have hnw9 := hR.1
    refine lv_aload_n hx hb d_Mo_readAll_9 rfl (lv_at hl 1 rfl) ?_
    refine ga_get S hK hP 0 rfl f_Mo_51 rfl d_Mo_readAll_10 ?_
    refine lv_aload_n hx hb d_Mo_readAll_13 rfl (lv_at hl 1 rfl) ?_
    refine ga_get S hK hP 0 rfl f_Mo_44 rfl d_Mo_readAll_14 ?_
    refine lv_icmp_ge (tgt := 92) hx hb d_Mo_readAll_17 (by decide) (fun c17 => ?_) (fun c17 => ?_)
    · have c17 : n ≤ po := (nI_leI (a := n) (b := po) (by omega) (by omega)).mp c17
      refine lv_iload_n hx hb d_Mo_readAll_92 rfl (lv_at hl 0 rfl) ?_
      exact ga_wi (po, none, mb2, ns2, nc2, nw2, nn2) S hrt hlk hP hD hS ⟨cnt, (bn, shr, us, ne, r1, r2, r3, r4, rg), rfl, by rw [← hiv]; exact gp_all_stop (by first | exact Or.inr (Or.inr hz) | exact Or.inr (Or.inl (by omega))), hok, hRR, hfr, hbm⟩ d_Mo_readAll_93
    · have c17 : ¬ (n ≤ po) := fun q => c17 ((nI_leI (a := n) (b := po) (by omega) (by omega)).mpr q)
      refine lv_aload_n hx hb d_Mo_readAll_20 rfl (lv_at hl 1 rfl) ?_
      refine ga_get S hK hP 0 rfl f_Mo_51 rfl d_Mo_readAll_21 ?_
      refine lv_istore_n (lv' := [(2, .int (nI po)), (1, .int (nI cnt)), (0, .ref mo)]) hx hb d_Mo_readAll_24 rfl hl (by decide) rfl (fun ls hl => ?_)
      refine lv_aload_n hx hb d_Mo_readAll_25 rfl (lv_at hl 2 rfl) ?_
      refine ga_cr (As := []) (rest := []) (q0 := 0) S hK hP s_Mo_57 (gc_Mo_look l D cI cZ cC cG mo m1 m6 m7 m8 m9 mA mB mC mD mE mF n po ec w nw2 kf none sg (by omega) (by omega)) [0, 1] rfl rfl rfl rfl hl.1 rfl (Nat.le_of_ble_eq_true rfl) ⟨Nat.le_of_ble_eq_true rfl, Nat.le_of_ble_eq_true rfl⟩ ⟨Nat.le_of_ble_eq_true rfl, Nat.le_of_ble_eq_true rfl⟩ d_Mo_readAll_26 (fun r hp26 => ?_)
      subst hp26
      refine ga_top (nI (gp_sg sg n po)) (gm_lk_in (by omega)) ?_
      refine lv_istore_n (lv' := [(3, .int (nI (gp_sg sg n po))), (2, .int (nI po)), (1, .int (nI cnt)), (0, .ref mo)]) hx hb d_Mo_readAll_29 rfl hl (by decide) rfl (fun ls hl => ?_)
      have hgl := gp_sg_lt hsg n po
      refine lv_aload_n hx hb d_Mo_readAll_30 rfl (lv_at hl 3 rfl) ?_
      refine lv_dup hx hb d_Mo_readAll_31 rfl ?_
      refine ga_get S hK hP 0 rfl f_Mo_51 rfl d_Mo_readAll_32 ?_
      refine lv_iconst (v := 1) hx hb d_Mo_readAll_35 (by decide) ?_
      refine lv_iadd hx hb d_Mo_readAll_36 ?_
      refine ga_top (nI (po + 1)) (nI_add po 1) ?_
      refine ga_put (ws' := [(mo, .inr (6, [.int 0, .ref m1, .int (nI n), .int (nI (po + 1)), .int (tI none), .int (nI ec), .ref m6, .ref m7, .ref m8, .ref m9, .ref mA, .int (nI w), .int (nI nw2), .ref mB, .ref mC, .ref mD, .int (nI kf), .ref mE, .ref mF])), (m1, .inl (cI, 600, .inl (nA sg))), (m6, .inl (cI, 4920, .inl (nA mb2))), (m8, .inl (cZ, 492, .inl (zA ns2))), (mA, .inl (cI, 600, .inl (nA nc2))), (mC, .inl (cI, 61, .inl (nA nn2)))]) S hK hP hD hS 0 rfl p_Mo_51 rfl rfl (Nat.le_of_ble_eq_true rfl) rfl d_Mo_readAll_37 (fun H locs hP hD hS => ?_)
      refine lv_iload_n hx hb d_Mo_readAll_40 rfl (lv_at hl 0 rfl) ?_
      refine lv_bipush (v := 84) hx hb d_Mo_readAll_41 (by decide) ?_
      refine lv_icmp_ne (tgt := 53) hx hb d_Mo_readAll_43 (by decide) (fun c43 => ?_) (fun c43 => ?_)
      · have c43 : ¬ ((gp_sg sg n po) = 84) := fun q => c43 ((nI_eq (a := (gp_sg sg n po)) (b := 84) (by omega) (by omega)).mpr q)
        refine lv_iload_n hx hb d_Mo_readAll_53 rfl (lv_at hl 0 rfl) ?_
        refine lv_bipush (v := 66) hx hb d_Mo_readAll_54 (by decide) ?_
        refine lv_icmp_ne (tgt := 67) hx hb d_Mo_readAll_56 (by decide) (fun c56 => ?_) (fun c56 => ?_)
        · have c56 : ¬ ((gp_sg sg n po) = 66) := fun q => c56 ((nI_eq (a := (gp_sg sg n po)) (b := 66) (by omega) (by omega)).mpr q)
          refine lv_iload_n hx hb d_Mo_readAll_67 rfl (lv_at hl 0 rfl) ?_
          refine lv_bipush (v := 79) hx hb d_Mo_readAll_68 (by decide) ?_
          refine lv_icmp_ne (tgt := 81) hx hb d_Mo_readAll_70 (by decide) (fun c70 => ?_) (fun c70 => ?_)
          · have c70 : ¬ ((gp_sg sg n po) = 79) := fun q => c70 ((nI_eq (a := (gp_sg sg n po)) (b := 79) (by omega) (by omega)).mpr q)
            refine lv_aload_n hx hb d_Mo_readAll_81 rfl (lv_at hl 3 rfl) ?_
            refine lv_iload_n hx hb d_Mo_readAll_82 rfl (lv_at hl 1 rfl) ?_
            refine ga_jv (wr := [(m1, .inl (cI, 600, .inl (nA sg))), (m6, .inl (cI, 4920, .inl (nA mb2))), (m8, .inl (cZ, 492, .inl (zA ns2))), (mA, .inl (cI, 600, .inl (nA nc2))), (mC, .inl (cI, 61, .inl (nA nn2)))]) (ga_runV (As := [.int (nI po)]) (rest := []) S hK s_Mo_61 (gc_Mo_fails l D cI cZ cC cG mo m1 m6 m7 m8 m9 mA mB mC mD mE mF n (po + 1) ec w nw2 kf none po (fun t q => by cases q) _) (ga_prV (y := y_Mo_fails) (q0 := 0) hK hP hD [0] rfl (by decide) rfl rfl) rfl hl.1 rfl (Nat.le_of_ble_eq_true rfl) ⟨Nat.le_of_ble_eq_true rfl, Nat.le_of_ble_eq_true rfl⟩ ⟨Nat.le_of_ble_eq_true rfl, Nat.le_of_ble_eq_true rfl⟩ d_Mo_readAll_83) hP hD hS hA [0] [1, 2, 3, 4, 5] rfl rfl (by decide) (by decide) [5, 0, 1, 2, 3, 4] (fun _ => [(mo, .inr (6, [.int 0, .ref m1, .int (nI n), .int (nI (po + 1)), .int (tI (some po)), .int (nI ec), .ref m6, .ref m7, .ref m8, .ref m9, .ref mA, .int (nI w), .int (nI nw2), .ref mB, .ref mC, .ref mD, .int (nI kf), .ref mE, .ref mF])), (m1, .inl (cI, 600, .inl (nA sg))), (m6, .inl (cI, 4920, .inl (nA mb2))), (m8, .inl (cZ, 492, .inl (zA ns2))), (mA, .inl (cI, 600, .inl (nA nc2))), (mC, .inl (cI, 61, .inl (nA nn2)))]) (fun _ => rfl) (by decide) (fun x H locs hp83 hP hD hS => ?_)
            have hse : gp_se sg n po (bn, shr, us, ne, r1, r2, r3, r4, rg) = (po + 1, some po, (bn, shr, us, ne, r1, r2, r3, r4, rg)) := by rw [gp_se, if_neg c43, if_neg c56, if_neg c70]
            have hso := gp_se_ok (sg := sg) (n := n) (pos := po) (d := (bn, shr, us, ne, r1, r2, r3, r4, rg)) (by omega) hok
            rw [hse] at hso
            obtain ⟨hso1, hso2⟩ := hso
            have hge : po + 1 ≤ po + 1 := hso2
            refine lv_iinc (v := nI (cnt + 1)) (lv' := [(1, .int (nI (cnt + 1))), (3, .int (nI (gp_sg sg n po))), (2, .int (nI po)), (0, .ref mo)]) hx hb d_Mo_readAll_86 hl (k := 2) rfl (ga_inc cnt) (by decide) rfl (fun ls hl => ?_)
            refine lv_goto (tgt := 2) hx hb d_Mo_readAll_89 (by decide) ?_
            exact ih (cnt + 1, po + 1, (some po), mb2, ns2, nc2, nw2, nn2, (bn, shr, us, ne, r1, r2, r3, r4, rg)) _ _ _ (by show (600 - (po + 1)) < (600 - po); omega) ⟨lv_sub hl [0, 3] rfl, hP, hD, hS, ⟨by omega, by rw [← hse, ← hiv, show 600 - cnt = (600 - (cnt + 1)) + 1 by omega, gp_all_go (by omega)], hso1, (fun q => by cases q), (hfr), (hbm), (hbn2)⟩⟩
          · have c70 : (gp_sg sg n po) = 79 := (nI_eq (a := (gp_sg sg n po)) (b := 79) (by omega) (by omega)).mp c70
            refine lv_aload_n hx hb d_Mo_readAll_73 rfl (lv_at hl 3 rfl) ?_
            refine lv_iload_n hx hb d_Mo_readAll_74 rfl (lv_at hl 1 rfl) ?_
            refine ga_jv (wr := [(m6, .inl (cI, 4920, .inl (nA mb2))), (m8, .inl (cZ, 492, .inl (zA ns2))), (mA, .inl (cI, 600, .inl (nA nc2)))]) (ga_runV (As := [.int (nI po)]) (rest := []) S hK s_Mo_85 (gc_Mo_readOverflow l D cI cZ cC cG mo m1 m6 m7 m8 m9 mA mB mC mD mE mF n (po + 1) ec w nw2 kf sg (by omega) (by omega) hsg po nn2 hbn2 _) (ga_prV (y := y_Mo_readOverflow) (q0 := 0) hK hP hD [0, 1, 5] rfl (by decide) rfl rfl) rfl hl.1 rfl (Nat.le_of_ble_eq_true rfl) ⟨Nat.le_of_ble_eq_true rfl, Nat.le_of_ble_eq_true rfl⟩ ⟨Nat.le_of_ble_eq_true rfl, Nat.le_of_ble_eq_true rfl⟩ d_Mo_readAll_75) hP hD hS hA [0, 1, 5] [2, 3, 4] rfl rfl (by decide) (by decide) [3, 4, 0, 1, 2, 5] (fun (x : Nat × Option Nat × (Nat → Nat)) => [(mo, .inr (6, [.int 0, .ref m1, .int (nI n), .int (nI x.1), .int (tI x.2.1), .int (nI ec), .ref m6, .ref m7, .ref m8, .ref m9, .ref mA, .int (nI w), .int (nI nw2), .ref mB, .ref mC, .ref mD, .int (nI kf), .ref mE, .ref mF])), (m1, .inl (cI, 600, .inl (nA sg))), (m6, .inl (cI, 4920, .inl (nA mb2))), (m8, .inl (cZ, 492, .inl (zA ns2))), (mA, .inl (cI, 600, .inl (nA nc2))), (mC, .inl (cI, 61, .inl (nA x.2.2)))]) (fun _ => rfl) (by decide) (fun x H locs hp75 hP hD hS => ?_)
            obtain ⟨po9, tq, nn9⟩ := x
            have hP : va_P D vwCl [(mo, .inr (6, [.int 0, .ref m1, .int (nI n), .int (nI po9), .int (tI tq), .int (nI ec), .ref m6, .ref m7, .ref m8, .ref m9, .ref mA, .int (nI w), .int (nI nw2), .ref mB, .ref mC, .ref mD, .int (nI kf), .ref mE, .ref mF])), (m1, .inl (cI, 600, .inl (nA sg))), (m6, .inl (cI, 4920, .inl (nA mb2))), (m8, .inl (cZ, 492, .inl (zA ns2))), (mA, .inl (cI, 600, .inl (nA nc2))), (mC, .inl (cI, 61, .inl (nA nn9)))] H := hP
            have hD : va_D A [(mo, .inr (6, [.int 0, .ref m1, .int (nI n), .int (nI po9), .int (tI tq), .int (nI ec), .ref m6, .ref m7, .ref m8, .ref m9, .ref mA, .int (nI w), .int (nI nw2), .ref mB, .ref mC, .ref mD, .int (nI kf), .ref mE, .ref mF])), (m1, .inl (cI, 600, .inl (nA sg))), (m6, .inl (cI, 4920, .inl (nA mb2))), (m8, .inl (cZ, 492, .inl (zA ns2))), (mA, .inl (cI, 600, .inl (nA nc2))), (mC, .inl (cI, 61, .inl (nA nn9)))] := hD
            obtain ⟨w1, w3, t9, hT, h9⟩ := hp75
            simp only at hT h9
            have hBB := gp_O_bd hT (by omega)
            have hRb := hR.2.1
            rcases h9 with ⟨hn9, hz9, ht9, hE⟩ | ⟨hn9, hz9, ht9, hE⟩ | ⟨hn9, ht9, hE⟩
            · subst hn9
              subst ht9
              subst hE
              have hse : gp_se sg n po (bn, shr, us, ne, r1, r2, r3, r4, rg) = (po9, none, (bn, shr, us, va_up ne w1 w3, r1, r2, r3, r4, rg)) := by rw [gp_se, if_neg c43, if_neg c56, if_pos c70, hT]; simp [gp_sO, ← hRb, hz9]
              have hso := gp_se_ok (sg := sg) (n := n) (pos := po) (d := (bn, shr, us, ne, r1, r2, r3, r4, rg)) (by omega) hok
              rw [hse] at hso
              obtain ⟨hso1, hso2⟩ := hso
              have hge : po + 1 ≤ po9 := hso2
              refine lv_goto (tgt := 86) hx hb d_Mo_readAll_78 (by decide) ?_
              refine lv_iinc (v := nI (cnt + 1)) (lv' := [(1, .int (nI (cnt + 1))), (3, .int (nI (gp_sg sg n po))), (2, .int (nI po)), (0, .ref mo)]) hx hb d_Mo_readAll_86 hl (k := 2) rfl (ga_inc cnt) (by decide) rfl (fun ls hl => ?_)
              refine lv_goto (tgt := 2) hx hb d_Mo_readAll_89 (by decide) ?_
              exact ih (cnt + 1, po9, none, mb2, ns2, nc2, nw2, va_up nn2 w1 w3, (bn, shr, us, va_up ne w1 w3, r1, r2, r3, r4, rg)) _ _ _ (by show (600 - po9) < (600 - po); omega) ⟨lv_sub hl [0, 3] rfl, hP, hD, hS, ⟨by omega, by rw [← hse, ← hiv, show 600 - cnt = (600 - (cnt + 1)) + 1 by omega, gp_all_go (by omega)], hso1, (fun _ => gm_R_O hR w1 w3), (hfr), (hbm), (gp_up_le hbn2 (by omega))⟩⟩
            · subst hn9
              subst ht9
              subst hE
              have hse : gp_se sg n po (bn, shr, us, ne, r1, r2, r3, r4, rg) = (po9, some po, (bn, shr, us, ne, r1, r2, r3, r4, rg)) := by rw [gp_se, if_neg c43, if_neg c56, if_pos c70, hT]; simp [gp_sO, ← hRb, hz9]
              have hso := gp_se_ok (sg := sg) (n := n) (pos := po) (d := (bn, shr, us, ne, r1, r2, r3, r4, rg)) (by omega) hok
              rw [hse] at hso
              obtain ⟨hso1, hso2⟩ := hso
              have hge : po + 1 ≤ po9 := hso2
              refine lv_goto (tgt := 86) hx hb d_Mo_readAll_78 (by decide) ?_
              refine lv_iinc (v := nI (cnt + 1)) (lv' := [(1, .int (nI (cnt + 1))), (3, .int (nI (gp_sg sg n po))), (2, .int (nI po)), (0, .ref mo)]) hx hb d_Mo_readAll_86 hl (k := 2) rfl (ga_inc cnt) (by decide) rfl (fun ls hl => ?_)
              refine lv_goto (tgt := 2) hx hb d_Mo_readAll_89 (by decide) ?_
              exact ih (cnt + 1, po9, (some po), mb2, ns2, nc2, nw2, va_up nn2 w1 w3, (bn, shr, us, ne, r1, r2, r3, r4, rg)) _ _ _ (by show (600 - po9) < (600 - po); omega) ⟨lv_sub hl [0, 3] rfl, hP, hD, hS, ⟨by omega, by rw [← hse, ← hiv, show 600 - cnt = (600 - (cnt + 1)) + 1 by omega, gp_all_go (by omega)], hso1, (fun q => by cases q), (hfr), (hbm), (gp_up_le hbn2 (by omega))⟩⟩
            · subst ht9
              rw [hE] at hP hD
              have hse : gp_se sg n po (bn, shr, us, ne, r1, r2, r3, r4, rg) = (po9, tq, (bn, shr, us, ne, r1, r2, r3, r4, rg)) := by rw [gp_se, if_neg c43, if_neg c56, if_pos c70, hT]; simp [gp_sO, hn9]
              have hso := gp_se_ok (sg := sg) (n := n) (pos := po) (d := (bn, shr, us, ne, r1, r2, r3, r4, rg)) (by omega) hok
              rw [hse] at hso
              obtain ⟨hso1, hso2⟩ := hso
              have hge : po + 1 ≤ po9 := hso2
              refine lv_goto (tgt := 86) hx hb d_Mo_readAll_78 (by decide) ?_
              refine lv_iinc (v := nI (cnt + 1)) (lv' := [(1, .int (nI (cnt + 1))), (3, .int (nI (gp_sg sg n po))), (2, .int (nI po)), (0, .ref mo)]) hx hb d_Mo_readAll_86 hl (k := 2) rfl (ga_inc cnt) (by decide) rfl (fun ls hl => ?_)
              refine lv_goto (tgt := 2) hx hb d_Mo_readAll_89 (by decide) ?_
              exact ih (cnt + 1, po9, tq, mb2, ns2, nc2, nw2, nn2, (bn, shr, us, ne, r1, r2, r3, r4, rg)) _ _ _ (by show (600 - po9) < (600 - po); omega) ⟨lv_sub hl [0, 3] rfl, hP, hD, hS, ⟨by omega, by rw [← hse, ← hiv, show 600 - cnt = (600 - (cnt + 1)) + 1 by omega, gp_all_go (by omega)], hso1, (fun q => absurd q hn9), (hfr), (hbm), (hbn2)⟩⟩
        · have c56 : (gp_sg sg n po) = 66 := (nI_eq (a := (gp_sg sg n po)) (b := 66) (by omega) (by omega)).mp c56
          refine lv_aload_n hx hb d_Mo_readAll_59 rfl (lv_at hl 3 rfl) ?_
          refine lv_iload_n hx hb d_Mo_readAll_60 rfl (lv_at hl 1 rfl) ?_
          refine ga_jv (wr := [(mA, .inl (cI, 600, .inl (nA nc2))), (mC, .inl (cI, 61, .inl (nA nn2)))]) (ga_runV (As := [.int (nI po)]) (rest := []) S hK s_Mo_82 (gc_Mo_readBin l D cI cZ cC cG mo m1 m6 m7 m8 m9 mA mB mC mD mE mF n (po + 1) ec w nw2 kf sg (by omega) (by omega) hsg po mb2 ns2 hbm _) (ga_prV (y := y_Mo_readBin) (q0 := 0) hK hP hD [0, 1, 2, 3] rfl (by decide) rfl rfl) rfl hl.1 rfl (Nat.le_of_ble_eq_true rfl) ⟨Nat.le_of_ble_eq_true rfl, Nat.le_of_ble_eq_true rfl⟩ ⟨Nat.le_of_ble_eq_true rfl, Nat.le_of_ble_eq_true rfl⟩ d_Mo_readAll_61) hP hD hS hA [0, 1, 2, 3] [4, 5] rfl rfl (by decide) (by decide) [2, 3, 4, 5, 0, 1] (fun (x : Nat × Option Nat × (Nat → Nat) × (Nat → Bool)) => [(mo, .inr (6, [.int 0, .ref m1, .int (nI n), .int (nI x.1), .int (tI x.2.1), .int (nI ec), .ref m6, .ref m7, .ref m8, .ref m9, .ref mA, .int (nI w), .int (nI nw2), .ref mB, .ref mC, .ref mD, .int (nI kf), .ref mE, .ref mF])), (m1, .inl (cI, 600, .inl (nA sg))), (m6, .inl (cI, 4920, .inl (nA x.2.2.1))), (m8, .inl (cZ, 492, .inl (zA x.2.2.2))), (mA, .inl (cI, 600, .inl (nA nc2))), (mC, .inl (cI, 61, .inl (nA nn2)))]) (fun _ => rfl) (by decide) (fun x H locs hp61 hP hD hS => ?_)
          obtain ⟨po9, tq, mb9, ns9⟩ := x
          have hP : va_P D vwCl [(mo, .inr (6, [.int 0, .ref m1, .int (nI n), .int (nI po9), .int (tI tq), .int (nI ec), .ref m6, .ref m7, .ref m8, .ref m9, .ref mA, .int (nI w), .int (nI nw2), .ref mB, .ref mC, .ref mD, .int (nI kf), .ref mE, .ref mF])), (m1, .inl (cI, 600, .inl (nA sg))), (m6, .inl (cI, 4920, .inl (nA mb9))), (m8, .inl (cZ, 492, .inl (zA ns9))), (mA, .inl (cI, 600, .inl (nA nc2))), (mC, .inl (cI, 61, .inl (nA nn2)))] H := hP
          have hD : va_D A [(mo, .inr (6, [.int 0, .ref m1, .int (nI n), .int (nI po9), .int (tI tq), .int (nI ec), .ref m6, .ref m7, .ref m8, .ref m9, .ref mA, .int (nI w), .int (nI nw2), .ref mB, .ref mC, .ref mD, .int (nI kf), .ref mE, .ref mF])), (m1, .inl (cI, 600, .inl (nA sg))), (m6, .inl (cI, 4920, .inl (nA mb9))), (m8, .inl (cZ, 492, .inl (zA ns9))), (mA, .inl (cI, 600, .inl (nA nc2))), (mC, .inl (cI, 61, .inl (nA nn2)))] := hD
          obtain ⟨w1, w3, w5, w7, b8, t9, hT, h9⟩ := hp61
          simp only at hT h9
          have hBB := gp_B_bd hT (by omega)
          have hRb := (hR.2.2.2.1 w1 w3 w5 (by omega) (by omega) (by omega) (by omega)).1
          rcases h9 with ⟨hn9, hz9, ht9, hE⟩ | ⟨hn9, hz9, ht9, hE⟩ | ⟨hn9, ht9, hE⟩
          · simp only [Prod.mk.injEq] at hE
            obtain ⟨rfl, rfl⟩ := hE
            subst hn9
            subst ht9
            have hse : gp_se sg n po (bn, shr, us, ne, r1, r2, r3, r4, rg) = (po9, none, (va_up bn (gp_sl w1 w3 w5) w7, va_up shr (gp_sl w1 w3 w5) b8, us, ne, r1, r2, r3, r4, rg)) := by rw [gp_se, if_neg c43, if_pos c56, hT]; simp [gp_sB, ← hRb, hz9]
            have hso := gp_se_ok (sg := sg) (n := n) (pos := po) (d := (bn, shr, us, ne, r1, r2, r3, r4, rg)) (by omega) hok
            rw [hse] at hso
            obtain ⟨hso1, hso2⟩ := hso
            have hge : po + 1 ≤ po9 := hso2
            refine lv_goto (tgt := 86) hx hb d_Mo_readAll_64 (by decide) ?_
            refine lv_iinc (v := nI (cnt + 1)) (lv' := [(1, .int (nI (cnt + 1))), (3, .int (nI (gp_sg sg n po))), (2, .int (nI po)), (0, .ref mo)]) hx hb d_Mo_readAll_86 hl (k := 2) rfl (ga_inc cnt) (by decide) rfl (fun ls hl => ?_)
            refine lv_goto (tgt := 2) hx hb d_Mo_readAll_89 (by decide) ?_
            exact ih (cnt + 1, po9, none, va_up mb2 (gm_pl 9 w1 w3 w5) w7, va_up ns2 (gm_pl 9 w1 w3 w5 - 4428) b8, nc2, nw2, nn2, (va_up bn (gp_sl w1 w3 w5) w7, va_up shr (gp_sl w1 w3 w5) b8, us, ne, r1, r2, r3, r4, rg)) _ _ _ (by show (600 - po9) < (600 - po); omega) ⟨lv_sub hl [0, 3] rfl, hP, hD, hS, ⟨by omega, by rw [← hse, ← hiv, show 600 - cnt = (600 - (cnt + 1)) + 1 by omega, gp_all_go (by omega)], hso1, (fun _ => gm_R_B hR (by omega) (by omega) (by omega) (by omega)), (fun j hj => by rw [va_up_ne _ _ (fun q => by have := (gm_pl9 (t := w1) (p := w3) (s := w5) (by omega) (by omega) (by omega)).2; omega)]; exact hfr j hj), (gp_up_le hbm (by omega)), (hbn2)⟩⟩
          · simp only [Prod.mk.injEq] at hE
            obtain ⟨rfl, rfl⟩ := hE
            subst hn9
            subst ht9
            have hse : gp_se sg n po (bn, shr, us, ne, r1, r2, r3, r4, rg) = (po9, some po, (bn, shr, us, ne, r1, r2, r3, r4, rg)) := by rw [gp_se, if_neg c43, if_pos c56, hT]; simp [gp_sB, ← hRb, hz9]
            have hso := gp_se_ok (sg := sg) (n := n) (pos := po) (d := (bn, shr, us, ne, r1, r2, r3, r4, rg)) (by omega) hok
            rw [hse] at hso
            obtain ⟨hso1, hso2⟩ := hso
            have hge : po + 1 ≤ po9 := hso2
            refine lv_goto (tgt := 86) hx hb d_Mo_readAll_64 (by decide) ?_
            refine lv_iinc (v := nI (cnt + 1)) (lv' := [(1, .int (nI (cnt + 1))), (3, .int (nI (gp_sg sg n po))), (2, .int (nI po)), (0, .ref mo)]) hx hb d_Mo_readAll_86 hl (k := 2) rfl (ga_inc cnt) (by decide) rfl (fun ls hl => ?_)
            refine lv_goto (tgt := 2) hx hb d_Mo_readAll_89 (by decide) ?_
            exact ih (cnt + 1, po9, (some po), va_up mb2 (gm_pl 9 w1 w3 w5) w7, va_up ns2 (gm_pl 9 w1 w3 w5 - 4428) b8, nc2, nw2, nn2, (bn, shr, us, ne, r1, r2, r3, r4, rg)) _ _ _ (by show (600 - po9) < (600 - po); omega) ⟨lv_sub hl [0, 3] rfl, hP, hD, hS, ⟨by omega, by rw [← hse, ← hiv, show 600 - cnt = (600 - (cnt + 1)) + 1 by omega, gp_all_go (by omega)], hso1, (fun q => by cases q), (fun j hj => by rw [va_up_ne _ _ (fun q => by have := (gm_pl9 (t := w1) (p := w3) (s := w5) (by omega) (by omega) (by omega)).2; omega)]; exact hfr j hj), (gp_up_le hbm (by omega)), (hbn2)⟩⟩
          · simp only [Prod.mk.injEq] at hE
            obtain ⟨hE1, hE2⟩ := hE
            rw [hE1, hE2] at hP hD
            subst ht9
            have hse : gp_se sg n po (bn, shr, us, ne, r1, r2, r3, r4, rg) = (po9, tq, (bn, shr, us, ne, r1, r2, r3, r4, rg)) := by rw [gp_se, if_neg c43, if_pos c56, hT]; simp [gp_sB, hn9]
            have hso := gp_se_ok (sg := sg) (n := n) (pos := po) (d := (bn, shr, us, ne, r1, r2, r3, r4, rg)) (by omega) hok
            rw [hse] at hso
            obtain ⟨hso1, hso2⟩ := hso
            have hge : po + 1 ≤ po9 := hso2
            refine lv_goto (tgt := 86) hx hb d_Mo_readAll_64 (by decide) ?_
            refine lv_iinc (v := nI (cnt + 1)) (lv' := [(1, .int (nI (cnt + 1))), (3, .int (nI (gp_sg sg n po))), (2, .int (nI po)), (0, .ref mo)]) hx hb d_Mo_readAll_86 hl (k := 2) rfl (ga_inc cnt) (by decide) rfl (fun ls hl => ?_)
            refine lv_goto (tgt := 2) hx hb d_Mo_readAll_89 (by decide) ?_
            exact ih (cnt + 1, po9, tq, mb2, ns2, nc2, nw2, nn2, (bn, shr, us, ne, r1, r2, r3, r4, rg)) _ _ _ (by show (600 - po9) < (600 - po); omega) ⟨lv_sub hl [0, 3] rfl, hP, hD, hS, ⟨by omega, by rw [← hse, ← hiv, show 600 - cnt = (600 - (cnt + 1)) + 1 by omega, gp_all_go (by omega)], hso1, (fun q => absurd q hn9), (hfr), (hbm), (hbn2)⟩⟩
      · have c43 : (gp_sg sg n po) = 84 := (nI_eq (a := (gp_sg sg n po)) (b := 84) (by omega) (by omega)).mp c43
        refine lv_aload_n hx hb d_Mo_readAll_46 rfl (lv_at hl 3 rfl) ?_
        refine ga_jv (wr := [(m6, .inl (cI, 4920, .inl (nA mb2))), (m8, .inl (cZ, 492, .inl (zA ns2))), (mC, .inl (cI, 61, .inl (nA nn2)))]) (ga_runV (As := []) (rest := []) S hK s_Mo_79 (gc_Mo_readTarget l D cI cZ cC cG mo m1 m6 m7 m8 m9 mA mB mC mD mE mF n (po + 1) ec w nw2 kf sg (by omega) (by omega) hsg nc2 (by omega) _) (ga_prV (y := y_Mo_readTarget) (q0 := 0) hK hP hD [0, 1, 4] rfl (by decide) rfl rfl) rfl hl.1 rfl (Nat.le_of_ble_eq_true rfl) ⟨Nat.le_of_ble_eq_true rfl, Nat.le_of_ble_eq_true rfl⟩ ⟨Nat.le_of_ble_eq_true rfl, Nat.le_of_ble_eq_true rfl⟩ d_Mo_readAll_47) hP hD hS hA [0, 1, 4] [2, 3, 5] rfl rfl (by decide) (by decide) [3, 4, 0, 1, 5, 2] (fun (x : Nat × Option Nat × (Nat → Nat) × Nat) => [(mo, .inr (6, [.int 0, .ref m1, .int (nI n), .int (nI x.1), .int (tI x.2.1), .int (nI ec), .ref m6, .ref m7, .ref m8, .ref m9, .ref mA, .int (nI w), .int (nI x.2.2.2), .ref mB, .ref mC, .ref mD, .int (nI kf), .ref mE, .ref mF])), (m1, .inl (cI, 600, .inl (nA sg))), (m6, .inl (cI, 4920, .inl (nA mb2))), (m8, .inl (cZ, 492, .inl (zA ns2))), (mA, .inl (cI, 600, .inl (nA x.2.2.1))), (mC, .inl (cI, 61, .inl (nA nn2)))]) (fun _ => rfl) (by decide) (fun x H locs hp47 hP hD hS => ?_)
        obtain ⟨po9, tq, nc9, nw9⟩ := x
        have hP : va_P D vwCl [(mo, .inr (6, [.int 0, .ref m1, .int (nI n), .int (nI po9), .int (tI tq), .int (nI ec), .ref m6, .ref m7, .ref m8, .ref m9, .ref mA, .int (nI w), .int (nI nw9), .ref mB, .ref mC, .ref mD, .int (nI kf), .ref mE, .ref mF])), (m1, .inl (cI, 600, .inl (nA sg))), (m6, .inl (cI, 4920, .inl (nA mb2))), (m8, .inl (cZ, 492, .inl (zA ns2))), (mA, .inl (cI, 600, .inl (nA nc9))), (mC, .inl (cI, 61, .inl (nA nn2)))] H := hP
        have hD : va_D A [(mo, .inr (6, [.int 0, .ref m1, .int (nI n), .int (nI po9), .int (tI tq), .int (nI ec), .ref m6, .ref m7, .ref m8, .ref m9, .ref mA, .int (nI w), .int (nI nw9), .ref mB, .ref mC, .ref mD, .int (nI kf), .ref mE, .ref mF])), (m1, .inl (cI, 600, .inl (nA sg))), (m6, .inl (cI, 4920, .inl (nA mb2))), (m8, .inl (cZ, 492, .inl (zA ns2))), (mA, .inl (cI, 600, .inl (nA nc9))), (mC, .inl (cI, 61, .inl (nA nn2)))] := hD
        obtain ⟨w1, w3, w5, w7, hT, h9⟩ := hp47
        simp only at hT h9
        rcases h9 with ⟨hn9, hE⟩ | ⟨hn9, hE⟩
        · simp only [Prod.mk.injEq] at hE
          obtain ⟨rfl, rfl⟩ := hE
          subst hn9
          have hse : gp_se sg n po (bn, shr, us, ne, r1, r2, r3, r4, rg) = (po9, none, (bn, shr, va_up us w1 true, ne, va_up r1 rg w1, va_up r2 rg w3, va_up r3 rg w5, va_up r4 rg w7, rg + 1)) := by rw [gp_se, if_pos c43, hT]; simp [gp_sT]
          have hso := gp_se_ok (sg := sg) (n := n) (pos := po) (d := (bn, shr, us, ne, r1, r2, r3, r4, rg)) (by omega) hok
          rw [hse] at hso
          obtain ⟨hso1, hso2⟩ := hso
          have hge : po + 1 ≤ po9 := hso2
          refine lv_goto (tgt := 86) hx hb d_Mo_readAll_50 (by decide) ?_
          refine lv_iinc (v := nI (cnt + 1)) (lv' := [(1, .int (nI (cnt + 1))), (3, .int (nI (gp_sg sg n po))), (2, .int (nI po)), (0, .ref mo)]) hx hb d_Mo_readAll_86 hl (k := 2) rfl (ga_inc cnt) (by decide) rfl (fun ls hl => ?_)
          refine lv_goto (tgt := 2) hx hb d_Mo_readAll_89 (by decide) ?_
          exact ih (cnt + 1, po9, none, mb2, ns2, va_up (va_up (va_up (va_up nc2 (4 * nw2) w1) (4 * nw2 + 1) w3) (4 * nw2 + 2) w5) (4 * nw2 + 3) w7, nw2 + 1, nn2, (bn, shr, va_up us w1 true, ne, va_up r1 rg w1, va_up r2 rg w3, va_up r3 rg w5, va_up r4 rg w7, rg + 1)) _ _ _ (by show (600 - po9) < (600 - po); omega) ⟨lv_sub hl [0, 3] rfl, hP, hD, hS, ⟨by omega, by rw [← hse, ← hiv, show 600 - cnt = (600 - (cnt + 1)) + 1 by omega, gp_all_go (by omega)], hso1, (fun _ => gm_R_T hR _ w1 w3 w5 w7), (hfr), (hbm), (hbn2)⟩⟩
        · simp only [Prod.mk.injEq] at hE
          obtain ⟨hE1, hE2⟩ := hE
          rw [hE1, hE2] at hP hD
          have hse : gp_se sg n po (bn, shr, us, ne, r1, r2, r3, r4, rg) = (po9, tq, (bn, shr, us, ne, r1, r2, r3, r4, rg)) := by rw [gp_se, if_pos c43, hT]; simp [gp_sT, hn9]
          have hso := gp_se_ok (sg := sg) (n := n) (pos := po) (d := (bn, shr, us, ne, r1, r2, r3, r4, rg)) (by omega) hok
          rw [hse] at hso
          obtain ⟨hso1, hso2⟩ := hso
          have hge : po + 1 ≤ po9 := hso2
          refine lv_goto (tgt := 86) hx hb d_Mo_readAll_50 (by decide) ?_
          refine lv_iinc (v := nI (cnt + 1)) (lv' := [(1, .int (nI (cnt + 1))), (3, .int (nI (gp_sg sg n po))), (2, .int (nI po)), (0, .ref mo)]) hx hb d_Mo_readAll_86 hl (k := 2) rfl (ga_inc cnt) (by decide) rfl (fun ls hl => ?_)
          refine lv_goto (tgt := 2) hx hb d_Mo_readAll_89 (by decide) ?_
          exact ih (cnt + 1, po9, tq, mb2, ns2, nc2, nw2, nn2, (bn, shr, us, ne, r1, r2, r3, r4, rg)) _ _ _ (by show (600 - po9) < (600 - po); omega) ⟨lv_sub hl [0, 3] rfl, hP, hD, hS, ⟨by omega, by rw [← hse, ← hiv, show 600 - cnt = (600 - (cnt + 1)) + 1 by omega, gp_all_go (by omega)], hso1, (fun q => absurd q hn9), (hfr), (hbm), (hbn2)⟩⟩
