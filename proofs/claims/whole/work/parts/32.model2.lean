set_option maxHeartbeats 4000000 in
set_option maxRecDepth 100000 in
theorem gc_Mo_number (l : Launch) (D : va_G) (cI cZ cC cG : ClassId) (mo m1 m6 m7 m8 m9 mA mB mC mD mE mF n pos ec w nw kf : Nat) (wr : Option Nat) (sg : Nat → Nat) (hn : n ≤ 600) (hpos : pos ≤ n) (hsg : ∀ j, sg j < 2 ^ 31) (hwr : ∀ t, wr = some t → t ≤ n) (lw : Int32) (lo hi bh : Nat) (hlo : lo < 2 ^ 31) (hhi : hi < 2 ^ 31) (hbh : bh < 2 ^ 31) (hlw : wr = none → lw = nI lo) : ga_Mi l y_Mo_number b_Mo_number 6 (some .int) 2 0 0 D (ga_T cI cZ cC cG) [.ref mo, .int lw, .int (nI hi), .int (nI bh)] [(mo, .inr (6, [.int 0, .ref m1, .int (nI n), .int (nI pos), .int (tI wr), .int (nI ec), .ref m6, .ref m7, .ref m8, .ref m9, .ref mA, .int (nI w), .int (nI nw), .ref mB, .ref mC, .ref mD, .int (nI kf), .ref mE, .ref mF])), (m1, .inl (cI, 600, .inl (nA sg)))] (fun (x : Nat × Option Nat) => [(mo, .inr (6, [.int 0, .ref m1, .int (nI n), .int (nI x.1), .int (tI x.2), .int (nI ec), .ref m6, .ref m7, .ref m8, .ref m9, .ref mA, .int (nI w), .int (nI nw), .ref mB, .ref mC, .ref mD, .int (nI kf), .ref mE, .ref mF])), (m1, .inl (cI, 600, .inl (nA sg)))]) (fun r x => ∃ v p1 t1, (v, p1, t1) = gp_rn sg n lo hi (pos, wr) ∧ x = gm_nu sg n bh (p1, t1) ∧ r = (if x.2 = none then nI v else -1)) := by
  refine ga_enI (by decide) (Nat.le_of_ble_eq_true rfl) ?_
  intro p e s m below meth c ls A S hrt hlk hK hP hD hA hl
  have hS : va_S A s.heap s.heap [] := va_S.rf
  obtain ⟨hx, hb, hml, hown, hts⟩ := id S
  have hl : lv_has ls 6 [(0, .ref mo), (1, .int lw), (2, .int (nI hi)), (3, .int (nI bh))] := hl
  refine lv_aload_n hx hb d_Mo_number_0 rfl (lv_at hl 0 rfl) ?_
  refine ga_get S hK hP 0 rfl f_Mo_54 rfl d_Mo_number_1 ?_
  refine lv_if_lt (tgt := 9) hx hb d_Mo_number_4 (by decide) (fun c4 => ?_) (fun c4 => ?_)
  · have hz := (tI_neg (fun t q => by have := hwr t q; omega)).1 c4
    subst hz
    have hlw2 := hlw rfl
    subst hlw2
    have htr : ∀ t, (none : Option Nat) = some t → t ≤ n := fun _ q => by cases q
    refine lv_aload_n hx hb d_Mo_number_9 rfl (lv_at hl 0 rfl) ?_
    refine ga_get S hK hP 0 rfl f_Mo_51 rfl d_Mo_number_10 ?_
    refine lv_istore (lv' := [(4, .int (nI pos)), (0, .ref mo), (1, .int (nI lo)), (2, .int (nI hi)), (3, .int (nI bh))]) hx hb d_Mo_number_13 hl (by decide) rfl (fun ls hl => ?_)
    refine lv_iconst (v := 0) hx hb d_Mo_number_15 (by decide) ?_
    refine lv_istore (lv' := [(5, .int 0), (4, .int (nI pos)), (0, .ref mo), (1, .int (nI lo)), (2, .int (nI hi)), (3, .int (nI bh))]) hx hb d_Mo_number_16 hl (by decide) rfl (fun ls hl => ?_)
    refine ga_loop (α := Nat × Nat) (fun x => match x with | (nu, po) => 600 - po) (fun x ls H locs => match x with | (nu, po) => lv_has ls 6 [(5, .int (nI nu)), (4, .int (nI pos)), (0, .ref mo), (1, .int (nI lo)), (2, .int (nI hi)), (3, .int (nI bh))] ∧ va_P D vwCl [(mo, .inr (6, [.int 0, .ref m1, .int (nI n), .int (nI po), .int (tI none), .int (nI ec), .ref m6, .ref m7, .ref m8, .ref m9, .ref mA, .int (nI w), .int (nI nw), .ref mB, .ref mC, .ref mD, .int (nI kf), .ref mE, .ref mF])), (m1, .inl (cI, 600, .inl (nA sg)))] H ∧ va_D A [(mo, .inr (6, [.int 0, .ref m1, .int (nI n), .int (nI po), .int (tI none), .int (nI ec), .ref m6, .ref m7, .ref m8, .ref m9, .ref mA, .int (nI w), .int (nI nw), .ref mB, .ref mC, .ref mD, .int (nI kf), .ref mE, .ref mF])), (m1, .inl (cI, 600, .inl (nA sg)))] ∧ va_S A s.heap H locs ∧ pos ≤ po ∧ po ≤ pos + 4 ∧ po ≤ n ∧ nu < 10 ^ (po - pos) ∧ gp_dg sg n (4 - (po - pos)) po nu = gp_dg sg n 4 pos 0) ?_ (0, pos) ⟨lv_sub hl [0, 1, 2, 3, 4, 5] rfl, hP, hD, hS, ⟨Nat.le_refl _, by omega, hpos, by rw [Nat.sub_self]; decide, by rw [Nat.sub_self]⟩⟩
    intro x ls H locs hI ih
    obtain ⟨nu, po⟩ := x
    obtain ⟨hl, hP, hD, hS, ⟨g1, g2, g3, g4, g5⟩⟩ := hI
    have hl : lv_has ls 6 [(5, .int (nI nu)), (4, .int (nI pos)), (0, .ref mo), (1, .int (nI lo)), (2, .int (nI hi)), (3, .int (nI bh))] := hl
    have hP : va_P D vwCl [(mo, .inr (6, [.int 0, .ref m1, .int (nI n), .int (nI po), .int (tI none), .int (nI ec), .ref m6, .ref m7, .ref m8, .ref m9, .ref mA, .int (nI w), .int (nI nw), .ref mB, .ref mC, .ref mD, .int (nI kf), .ref mE, .ref mF])), (m1, .inl (cI, 600, .inl (nA sg)))] H := hP
    have hD : va_D A [(mo, .inr (6, [.int 0, .ref m1, .int (nI n), .int (nI po), .int (tI none), .int (nI ec), .ref m6, .ref m7, .ref m8, .ref m9, .ref mA, .int (nI w), .int (nI nw), .ref mB, .ref mC, .ref mD, .int (nI kf), .ref mE, .ref mF])), (m1, .inl (cI, 600, .inl (nA sg)))] := hD
    have h10 := gp_p10 (k := po - pos) (by omega)
    refine lv_aload_n hx hb d_Mo_number_18 rfl (lv_at hl 2 rfl) ?_
    refine ga_cr (As := []) (rest := []) (q0 := 0) S hK hP s_Mo_57 (gc_Mo_look l D cI cZ cC cG mo m1 m6 m7 m8 m9 mA mB mC mD mE mF n po ec w nw kf none sg (by omega) (by omega)) [0, 1] rfl rfl rfl rfl hl.1 rfl (Nat.le_of_ble_eq_true rfl) ⟨Nat.le_of_ble_eq_true rfl, Nat.le_of_ble_eq_true rfl⟩ ⟨Nat.le_of_ble_eq_true rfl, Nat.le_of_ble_eq_true rfl⟩ d_Mo_number_19 (fun r hp19 => ?_)
    subst hp19
    refine lv_bipush (v := 48) hx hb d_Mo_number_22 (by decide) ?_
    refine lv_icmp_lt (tgt := 75) hx hb d_Mo_number_24 (by decide) (fun c24 => ?_) (fun c24 => ?_)
    · have c24 : gp_sg sg n po < 48 := (gm_lk_lt hsg (by decide) (by decide)).mp c24
      have hq : gp_dg sg n 4 pos 0 = (nu, po) := by rw [← g5]; exact gp_dg_stop (Or.inr (by omega))
      refine lv_aload_n hx hb d_Mo_number_75 rfl (lv_at hl 2 rfl) ?_
      refine ga_get S hK hP 0 rfl f_Mo_51 rfl d_Mo_number_76 ?_
      refine lv_iload hx hb d_Mo_number_79 (lv_at hl 1 rfl) ?_
      refine lv_icmp_eq (tgt := 96) hx hb d_Mo_number_81 (by decide) (fun c81 => ?_) (fun c81 => ?_)
      · have c81 : po = pos := (nI_eq (a := po) (b := pos) (by omega) (by omega)).mp c81
        refine lv_aload_n hx hb d_Mo_number_96 rfl (lv_at hl 2 rfl) ?_
        refine lv_iload hx hb d_Mo_number_97 (lv_at hl 1 rfl) ?_
        refine ga_jv (wr := [(m1, .inl (cI, 600, .inl (nA sg)))]) (ga_runV (As := [.int (nI pos)]) (rest := []) S hK s_Mo_61 (gc_Mo_fails l D cI cZ cC cG mo m1 m6 m7 m8 m9 mA mB mC mD mE mF n po ec w nw kf none pos (fun t q => by cases q) _) (ga_prV (y := y_Mo_fails) (q0 := 0) hK hP hD [0] rfl (by decide) rfl rfl) rfl hl.1 rfl (Nat.le_of_ble_eq_true rfl) ⟨Nat.le_of_ble_eq_true rfl, Nat.le_of_ble_eq_true rfl⟩ ⟨Nat.le_of_ble_eq_true rfl, Nat.le_of_ble_eq_true rfl⟩ d_Mo_number_99) hP hD hS hA [0] [1] rfl rfl (by decide) (by decide) [1, 0] (fun _ => [(mo, .inr (6, [.int 0, .ref m1, .int (nI n), .int (nI po), .int (tI (some pos)), .int (nI ec), .ref m6, .ref m7, .ref m8, .ref m9, .ref mA, .int (nI w), .int (nI nw), .ref mB, .ref mC, .ref mD, .int (nI kf), .ref mE, .ref mF])), (m1, .inl (cI, 600, .inl (nA sg)))]) (fun _ => rfl) (by decide) (fun x H locs hp99 hP hD hS => ?_)
        refine lv_goto (tgt := 114) hx hb d_Mo_number_102 (by decide) ?_
        refine lv_aload_n hx hb d_Mo_number_114 rfl (lv_at hl 2 rfl) ?_
        refine ga_get S hK hP 0 rfl f_Mo_54 rfl d_Mo_number_115 ?_
        refine lv_if_lt (tgt := 125) hx hb d_Mo_number_118 (by decide) (fun c118 => ?_) (fun c118 => ?_)
        · exact absurd c118 (nI_pos (by omega))
        · refine lv_iconst (v := (-1)) hx hb d_Mo_number_121 (by decide) ?_
          refine lv_goto (tgt := 127) hx hb d_Mo_number_122 (by decide) ?_
          exact ga_wi (po, some pos) S hrt hlk hP hD hS ⟨lo, po, some pos, (gp_rn_bad hq (by omega)).symm, by unfold gm_nu; split; rfl; rw [gp_rs_some (by simp)], by rw [if_neg (by simp)]⟩ d_Mo_number_127
      · have c81 : ¬ (po = pos) := fun q => c81 ((nI_eq (a := po) (b := pos) (by omega) (by omega)).mpr q)
        refine lv_iload hx hb d_Mo_number_84 (lv_at hl 0 rfl) ?_
        refine lv_iload_n hx hb d_Mo_number_86 rfl (lv_at hl 3 rfl) ?_
        refine lv_icmp_lt (tgt := 96) hx hb d_Mo_number_87 (by decide) (fun c87 => ?_) (fun c87 => ?_)
        · have c87 : nu < lo := (nI_ltI (a := nu) (b := lo) (by omega) (by omega)).mp c87
          refine lv_aload_n hx hb d_Mo_number_96 rfl (lv_at hl 2 rfl) ?_
          refine lv_iload hx hb d_Mo_number_97 (lv_at hl 1 rfl) ?_
          refine ga_jv (wr := [(m1, .inl (cI, 600, .inl (nA sg)))]) (ga_runV (As := [.int (nI pos)]) (rest := []) S hK s_Mo_61 (gc_Mo_fails l D cI cZ cC cG mo m1 m6 m7 m8 m9 mA mB mC mD mE mF n po ec w nw kf none pos (fun t q => by cases q) _) (ga_prV (y := y_Mo_fails) (q0 := 0) hK hP hD [0] rfl (by decide) rfl rfl) rfl hl.1 rfl (Nat.le_of_ble_eq_true rfl) ⟨Nat.le_of_ble_eq_true rfl, Nat.le_of_ble_eq_true rfl⟩ ⟨Nat.le_of_ble_eq_true rfl, Nat.le_of_ble_eq_true rfl⟩ d_Mo_number_99) hP hD hS hA [0] [1] rfl rfl (by decide) (by decide) [1, 0] (fun _ => [(mo, .inr (6, [.int 0, .ref m1, .int (nI n), .int (nI po), .int (tI (some pos)), .int (nI ec), .ref m6, .ref m7, .ref m8, .ref m9, .ref mA, .int (nI w), .int (nI nw), .ref mB, .ref mC, .ref mD, .int (nI kf), .ref mE, .ref mF])), (m1, .inl (cI, 600, .inl (nA sg)))]) (fun _ => rfl) (by decide) (fun x H locs hp99 hP hD hS => ?_)
          refine lv_goto (tgt := 114) hx hb d_Mo_number_102 (by decide) ?_
          refine lv_aload_n hx hb d_Mo_number_114 rfl (lv_at hl 2 rfl) ?_
          refine ga_get S hK hP 0 rfl f_Mo_54 rfl d_Mo_number_115 ?_
          refine lv_if_lt (tgt := 125) hx hb d_Mo_number_118 (by decide) (fun c118 => ?_) (fun c118 => ?_)
          · exact absurd c118 (nI_pos (by omega))
          · refine lv_iconst (v := (-1)) hx hb d_Mo_number_121 (by decide) ?_
            refine lv_goto (tgt := 127) hx hb d_Mo_number_122 (by decide) ?_
            exact ga_wi (po, some pos) S hrt hlk hP hD hS ⟨lo, po, some pos, (gp_rn_bad hq (by omega)).symm, by unfold gm_nu; split; rfl; rw [gp_rs_some (by simp)], by rw [if_neg (by simp)]⟩ d_Mo_number_127
        · have c87 : ¬ (nu < lo) := fun q => c87 ((nI_ltI (a := nu) (b := lo) (by omega) (by omega)).mpr q)
          refine lv_iload hx hb d_Mo_number_90 (lv_at hl 0 rfl) ?_
          refine lv_iload_n hx hb d_Mo_number_92 rfl (lv_at hl 4 rfl) ?_
          refine lv_icmp_le (tgt := 105) hx hb d_Mo_number_93 (by decide) (fun c93 => ?_) (fun c93 => ?_)
          · have c93 : nu ≤ hi := (nI_leI (a := nu) (b := hi) (by omega) (by omega)).mp c93
            refine lv_iload_n hx hb d_Mo_number_105 rfl (lv_at hl 5 rfl) ?_
            refine lv_if_le (tgt := 114) hx hb d_Mo_number_106 (by decide) (fun c106 => ?_) (fun c106 => ?_)
            · have c106 : bh ≤ 0 := (nI_leI (a := bh) (b := 0) (by omega) (by omega)).mp c106
              have hb0 : bh = 0 := by omega
              refine lv_aload_n hx hb d_Mo_number_114 rfl (lv_at hl 2 rfl) ?_
              refine ga_get S hK hP 0 rfl f_Mo_54 rfl d_Mo_number_115 ?_
              refine lv_if_lt (tgt := 125) hx hb d_Mo_number_118 (by decide) (fun c118 => ?_) (fun c118 => ?_)
              · refine lv_iload hx hb d_Mo_number_125 (lv_at hl 0 rfl) ?_
                exact ga_wi (po, none) S hrt hlk hP hD hS ⟨nu, po, none, (gp_rn_ok hq c81 (by omega)).symm, by rw [gm_nu, if_pos hb0], by rw [if_pos rfl]⟩ d_Mo_number_127
              · exact absurd (show tI none < 0 by decide) c118
            · have c106 : ¬ (bh ≤ 0) := fun q => c106 ((nI_leI (a := bh) (b := 0) (by omega) (by omega)).mpr q)
              have hb1 : bh ≠ 0 := by omega
              refine lv_aload_n hx hb d_Mo_number_109 rfl (lv_at hl 2 rfl) ?_
              refine lv_iload_n hx hb d_Mo_number_110 rfl (lv_at hl 5 rfl) ?_
              refine ga_jv (wr := []) (ga_runV (As := [.int (nI bh)]) (rest := []) S hK s_Mo_65 (gc_Mo_sign1 l D cI cZ cC cG mo m1 m6 m7 m8 m9 mA mB mC mD mE mF n po ec w nw kf none sg (by omega) (by omega) hsg htr bh (by omega) (by omega) _) (ga_prV (y := y_Mo_sign1) (q0 := 0) hK hP hD [0, 1] rfl (by decide) rfl rfl) rfl hl.1 rfl (Nat.le_of_ble_eq_true rfl) ⟨Nat.le_of_ble_eq_true rfl, Nat.le_of_ble_eq_true rfl⟩ ⟨Nat.le_of_ble_eq_true rfl, Nat.le_of_ble_eq_true rfl⟩ d_Mo_number_111) hP hD hS hA [0, 1] [] rfl rfl (by decide) (by decide) [0, 1] (fun (x : Nat × Option Nat) => [(mo, .inr (6, [.int 0, .ref m1, .int (nI n), .int (nI x.1), .int (tI x.2), .int (nI ec), .ref m6, .ref m7, .ref m8, .ref m9, .ref mA, .int (nI w), .int (nI nw), .ref mB, .ref mC, .ref mD, .int (nI kf), .ref mE, .ref mF])), (m1, .inl (cI, 600, .inl (nA sg)))]) (fun _ => rfl) (by decide) (fun x H locs hp111 hP hD hS => ?_)
              obtain ⟨po1, tr1⟩ := x
              have hP : va_P D vwCl [(mo, .inr (6, [.int 0, .ref m1, .int (nI n), .int (nI po1), .int (tI tr1), .int (nI ec), .ref m6, .ref m7, .ref m8, .ref m9, .ref mA, .int (nI w), .int (nI nw), .ref mB, .ref mC, .ref mD, .int (nI kf), .ref mE, .ref mF])), (m1, .inl (cI, 600, .inl (nA sg)))] H := hP
              have hD : va_D A [(mo, .inr (6, [.int 0, .ref m1, .int (nI n), .int (nI po1), .int (tI tr1), .int (nI ec), .ref m6, .ref m7, .ref m8, .ref m9, .ref mA, .int (nI w), .int (nI nw), .ref mB, .ref mC, .ref mD, .int (nI kf), .ref mE, .ref mF])), (m1, .inl (cI, 600, .inl (nA sg)))] := hD
              obtain ⟨hc1, hd1, he1, hf1⟩ := gp_rs_bd hp111 (by omega) (by omega) htr
              refine lv_aload_n hx hb d_Mo_number_114 rfl (lv_at hl 2 rfl) ?_
              refine ga_get S hK hP 0 rfl f_Mo_54 rfl d_Mo_number_115 ?_
              refine lv_if_lt (tgt := 125) hx hb d_Mo_number_118 (by decide) (fun c118 => ?_) (fun c118 => ?_)
              · have hz9 := (tI_neg (fun t q => by have := hf1 t q; omega)).1 c118
                refine lv_iload hx hb d_Mo_number_125 (lv_at hl 0 rfl) ?_
                exact ga_wi (po1, tr1) S hrt hlk hP hD hS ⟨nu, po, none, (gp_rn_ok hq c81 (by omega)).symm, by rw [gm_nu, if_neg hb1]; exact hp111, by rw [if_pos hz9]⟩ d_Mo_number_127
              · have hz9 := (tI_neg (fun t q => by have := hf1 t q; omega)).2 c118
                refine lv_iconst (v := (-1)) hx hb d_Mo_number_121 (by decide) ?_
                refine lv_goto (tgt := 127) hx hb d_Mo_number_122 (by decide) ?_
                exact ga_wi (po1, tr1) S hrt hlk hP hD hS ⟨nu, po, none, (gp_rn_ok hq c81 (by omega)).symm, by rw [gm_nu, if_neg hb1]; exact hp111, by rw [if_neg hz9]⟩ d_Mo_number_127
          · have c93 : ¬ (nu ≤ hi) := fun q => c93 ((nI_leI (a := nu) (b := hi) (by omega) (by omega)).mpr q)
            refine lv_aload_n hx hb d_Mo_number_96 rfl (lv_at hl 2 rfl) ?_
            refine lv_iload hx hb d_Mo_number_97 (lv_at hl 1 rfl) ?_
            refine ga_jv (wr := [(m1, .inl (cI, 600, .inl (nA sg)))]) (ga_runV (As := [.int (nI pos)]) (rest := []) S hK s_Mo_61 (gc_Mo_fails l D cI cZ cC cG mo m1 m6 m7 m8 m9 mA mB mC mD mE mF n po ec w nw kf none pos (fun t q => by cases q) _) (ga_prV (y := y_Mo_fails) (q0 := 0) hK hP hD [0] rfl (by decide) rfl rfl) rfl hl.1 rfl (Nat.le_of_ble_eq_true rfl) ⟨Nat.le_of_ble_eq_true rfl, Nat.le_of_ble_eq_true rfl⟩ ⟨Nat.le_of_ble_eq_true rfl, Nat.le_of_ble_eq_true rfl⟩ d_Mo_number_99) hP hD hS hA [0] [1] rfl rfl (by decide) (by decide) [1, 0] (fun _ => [(mo, .inr (6, [.int 0, .ref m1, .int (nI n), .int (nI po), .int (tI (some pos)), .int (nI ec), .ref m6, .ref m7, .ref m8, .ref m9, .ref mA, .int (nI w), .int (nI nw), .ref mB, .ref mC, .ref mD, .int (nI kf), .ref mE, .ref mF])), (m1, .inl (cI, 600, .inl (nA sg)))]) (fun _ => rfl) (by decide) (fun x H locs hp99 hP hD hS => ?_)
            refine lv_goto (tgt := 114) hx hb d_Mo_number_102 (by decide) ?_
            refine lv_aload_n hx hb d_Mo_number_114 rfl (lv_at hl 2 rfl) ?_
            refine ga_get S hK hP 0 rfl f_Mo_54 rfl d_Mo_number_115 ?_
            refine lv_if_lt (tgt := 125) hx hb d_Mo_number_118 (by decide) (fun c118 => ?_) (fun c118 => ?_)
            · exact absurd c118 (nI_pos (by omega))
            · refine lv_iconst (v := (-1)) hx hb d_Mo_number_121 (by decide) ?_
              refine lv_goto (tgt := 127) hx hb d_Mo_number_122 (by decide) ?_
              exact ga_wi (po, some pos) S hrt hlk hP hD hS ⟨lo, po, some pos, (gp_rn_bad hq (by omega)).symm, by unfold gm_nu; split; rfl; rw [gp_rs_some (by simp)], by rw [if_neg (by simp)]⟩ d_Mo_number_127
    · have c24 : ¬ gp_sg sg n po < 48 := fun q => c24 ((gm_lk_lt hsg (by decide) (by decide)).mpr q)
      have hlt := gp_sg_pos (sg := sg) (n := n) (i := po) (by omega)
      have hgl := gp_sg_lt hsg n po
      refine lv_aload_n hx hb d_Mo_number_27 rfl (lv_at hl 2 rfl) ?_
      refine ga_cr (As := []) (rest := []) (q0 := 0) S hK hP s_Mo_57 (gc_Mo_look l D cI cZ cC cG mo m1 m6 m7 m8 m9 mA mB mC mD mE mF n po ec w nw kf none sg (by omega) (by omega)) [0, 1] rfl rfl rfl rfl hl.1 rfl (Nat.le_of_ble_eq_true rfl) ⟨Nat.le_of_ble_eq_true rfl, Nat.le_of_ble_eq_true rfl⟩ ⟨Nat.le_of_ble_eq_true rfl, Nat.le_of_ble_eq_true rfl⟩ d_Mo_number_28 (fun r hp28 => ?_)
      subst hp28
      refine lv_bipush (v := 57) hx hb d_Mo_number_31 (by decide) ?_
      refine lv_icmp_gt (tgt := 75) hx hb d_Mo_number_33 (by decide) (fun c33 => ?_) (fun c33 => ?_)
      · have c33 : 57 < gp_sg sg n po := (gm_lk_gt hsg (by decide)).mp c33
        have hq : gp_dg sg n 4 pos 0 = (nu, po) := by rw [← g5]; exact gp_dg_stop (Or.inr (by omega))
        refine lv_aload_n hx hb d_Mo_number_75 rfl (lv_at hl 2 rfl) ?_
        refine ga_get S hK hP 0 rfl f_Mo_51 rfl d_Mo_number_76 ?_
        refine lv_iload hx hb d_Mo_number_79 (lv_at hl 1 rfl) ?_
        refine lv_icmp_eq (tgt := 96) hx hb d_Mo_number_81 (by decide) (fun c81 => ?_) (fun c81 => ?_)
        · have c81 : po = pos := (nI_eq (a := po) (b := pos) (by omega) (by omega)).mp c81
          refine lv_aload_n hx hb d_Mo_number_96 rfl (lv_at hl 2 rfl) ?_
          refine lv_iload hx hb d_Mo_number_97 (lv_at hl 1 rfl) ?_
          refine ga_jv (wr := [(m1, .inl (cI, 600, .inl (nA sg)))]) (ga_runV (As := [.int (nI pos)]) (rest := []) S hK s_Mo_61 (gc_Mo_fails l D cI cZ cC cG mo m1 m6 m7 m8 m9 mA mB mC mD mE mF n po ec w nw kf none pos (fun t q => by cases q) _) (ga_prV (y := y_Mo_fails) (q0 := 0) hK hP hD [0] rfl (by decide) rfl rfl) rfl hl.1 rfl (Nat.le_of_ble_eq_true rfl) ⟨Nat.le_of_ble_eq_true rfl, Nat.le_of_ble_eq_true rfl⟩ ⟨Nat.le_of_ble_eq_true rfl, Nat.le_of_ble_eq_true rfl⟩ d_Mo_number_99) hP hD hS hA [0] [1] rfl rfl (by decide) (by decide) [1, 0] (fun _ => [(mo, .inr (6, [.int 0, .ref m1, .int (nI n), .int (nI po), .int (tI (some pos)), .int (nI ec), .ref m6, .ref m7, .ref m8, .ref m9, .ref mA, .int (nI w), .int (nI nw), .ref mB, .ref mC, .ref mD, .int (nI kf), .ref mE, .ref mF])), (m1, .inl (cI, 600, .inl (nA sg)))]) (fun _ => rfl) (by decide) (fun x H locs hp99 hP hD hS => ?_)
          refine lv_goto (tgt := 114) hx hb d_Mo_number_102 (by decide) ?_
          refine lv_aload_n hx hb d_Mo_number_114 rfl (lv_at hl 2 rfl) ?_
          refine ga_get S hK hP 0 rfl f_Mo_54 rfl d_Mo_number_115 ?_
          refine lv_if_lt (tgt := 125) hx hb d_Mo_number_118 (by decide) (fun c118 => ?_) (fun c118 => ?_)
          · exact absurd c118 (nI_pos (by omega))
          · refine lv_iconst (v := (-1)) hx hb d_Mo_number_121 (by decide) ?_
            refine lv_goto (tgt := 127) hx hb d_Mo_number_122 (by decide) ?_
            exact ga_wi (po, some pos) S hrt hlk hP hD hS ⟨lo, po, some pos, (gp_rn_bad hq (by omega)).symm, by unfold gm_nu; split; rfl; rw [gp_rs_some (by simp)], by rw [if_neg (by simp)]⟩ d_Mo_number_127
        · have c81 : ¬ (po = pos) := fun q => c81 ((nI_eq (a := po) (b := pos) (by omega) (by omega)).mpr q)
          refine lv_iload hx hb d_Mo_number_84 (lv_at hl 0 rfl) ?_
          refine lv_iload_n hx hb d_Mo_number_86 rfl (lv_at hl 3 rfl) ?_
          refine lv_icmp_lt (tgt := 96) hx hb d_Mo_number_87 (by decide) (fun c87 => ?_) (fun c87 => ?_)
          · have c87 : nu < lo := (nI_ltI (a := nu) (b := lo) (by omega) (by omega)).mp c87
            refine lv_aload_n hx hb d_Mo_number_96 rfl (lv_at hl 2 rfl) ?_
            refine lv_iload hx hb d_Mo_number_97 (lv_at hl 1 rfl) ?_
            refine ga_jv (wr := [(m1, .inl (cI, 600, .inl (nA sg)))]) (ga_runV (As := [.int (nI pos)]) (rest := []) S hK s_Mo_61 (gc_Mo_fails l D cI cZ cC cG mo m1 m6 m7 m8 m9 mA mB mC mD mE mF n po ec w nw kf none pos (fun t q => by cases q) _) (ga_prV (y := y_Mo_fails) (q0 := 0) hK hP hD [0] rfl (by decide) rfl rfl) rfl hl.1 rfl (Nat.le_of_ble_eq_true rfl) ⟨Nat.le_of_ble_eq_true rfl, Nat.le_of_ble_eq_true rfl⟩ ⟨Nat.le_of_ble_eq_true rfl, Nat.le_of_ble_eq_true rfl⟩ d_Mo_number_99) hP hD hS hA [0] [1] rfl rfl (by decide) (by decide) [1, 0] (fun _ => [(mo, .inr (6, [.int 0, .ref m1, .int (nI n), .int (nI po), .int (tI (some pos)), .int (nI ec), .ref m6, .ref m7, .ref m8, .ref m9, .ref mA, .int (nI w), .int (nI nw), .ref mB, .ref mC, .ref mD, .int (nI kf), .ref mE, .ref mF])), (m1, .inl (cI, 600, .inl (nA sg)))]) (fun _ => rfl) (by decide) (fun x H locs hp99 hP hD hS => ?_)
            refine lv_goto (tgt := 114) hx hb d_Mo_number_102 (by decide) ?_
            refine lv_aload_n hx hb d_Mo_number_114 rfl (lv_at hl 2 rfl) ?_
            refine ga_get S hK hP 0 rfl f_Mo_54 rfl d_Mo_number_115 ?_
            refine lv_if_lt (tgt := 125) hx hb d_Mo_number_118 (by decide) (fun c118 => ?_) (fun c118 => ?_)
            · exact absurd c118 (nI_pos (by omega))
            · refine lv_iconst (v := (-1)) hx hb d_Mo_number_121 (by decide) ?_
              refine lv_goto (tgt := 127) hx hb d_Mo_number_122 (by decide) ?_
              exact ga_wi (po, some pos) S hrt hlk hP hD hS ⟨lo, po, some pos, (gp_rn_bad hq (by omega)).symm, by unfold gm_nu; split; rfl; rw [gp_rs_some (by simp)], by rw [if_neg (by simp)]⟩ d_Mo_number_127
          · have c87 : ¬ (nu < lo) := fun q => c87 ((nI_ltI (a := nu) (b := lo) (by omega) (by omega)).mpr q)
            refine lv_iload hx hb d_Mo_number_90 (lv_at hl 0 rfl) ?_
            refine lv_iload_n hx hb d_Mo_number_92 rfl (lv_at hl 4 rfl) ?_
            refine lv_icmp_le (tgt := 105) hx hb d_Mo_number_93 (by decide) (fun c93 => ?_) (fun c93 => ?_)
            · have c93 : nu ≤ hi := (nI_leI (a := nu) (b := hi) (by omega) (by omega)).mp c93
              refine lv_iload_n hx hb d_Mo_number_105 rfl (lv_at hl 5 rfl) ?_
              refine lv_if_le (tgt := 114) hx hb d_Mo_number_106 (by decide) (fun c106 => ?_) (fun c106 => ?_)
              · have c106 : bh ≤ 0 := (nI_leI (a := bh) (b := 0) (by omega) (by omega)).mp c106
                have hb0 : bh = 0 := by omega
                refine lv_aload_n hx hb d_Mo_number_114 rfl (lv_at hl 2 rfl) ?_
                refine ga_get S hK hP 0 rfl f_Mo_54 rfl d_Mo_number_115 ?_
                refine lv_if_lt (tgt := 125) hx hb d_Mo_number_118 (by decide) (fun c118 => ?_) (fun c118 => ?_)
                · refine lv_iload hx hb d_Mo_number_125 (lv_at hl 0 rfl) ?_
                  exact ga_wi (po, none) S hrt hlk hP hD hS ⟨nu, po, none, (gp_rn_ok hq c81 (by omega)).symm, by rw [gm_nu, if_pos hb0], by rw [if_pos rfl]⟩ d_Mo_number_127
                · exact absurd (show tI none < 0 by decide) c118
              · have c106 : ¬ (bh ≤ 0) := fun q => c106 ((nI_leI (a := bh) (b := 0) (by omega) (by omega)).mpr q)
                have hb1 : bh ≠ 0 := by omega
                refine lv_aload_n hx hb d_Mo_number_109 rfl (lv_at hl 2 rfl) ?_
                refine lv_iload_n hx hb d_Mo_number_110 rfl (lv_at hl 5 rfl) ?_
                refine ga_jv (wr := []) (ga_runV (As := [.int (nI bh)]) (rest := []) S hK s_Mo_65 (gc_Mo_sign1 l D cI cZ cC cG mo m1 m6 m7 m8 m9 mA mB mC mD mE mF n po ec w nw kf none sg (by omega) (by omega) hsg htr bh (by omega) (by omega) _) (ga_prV (y := y_Mo_sign1) (q0 := 0) hK hP hD [0, 1] rfl (by decide) rfl rfl) rfl hl.1 rfl (Nat.le_of_ble_eq_true rfl) ⟨Nat.le_of_ble_eq_true rfl, Nat.le_of_ble_eq_true rfl⟩ ⟨Nat.le_of_ble_eq_true rfl, Nat.le_of_ble_eq_true rfl⟩ d_Mo_number_111) hP hD hS hA [0, 1] [] rfl rfl (by decide) (by decide) [0, 1] (fun (x : Nat × Option Nat) => [(mo, .inr (6, [.int 0, .ref m1, .int (nI n), .int (nI x.1), .int (tI x.2), .int (nI ec), .ref m6, .ref m7, .ref m8, .ref m9, .ref mA, .int (nI w), .int (nI nw), .ref mB, .ref mC, .ref mD, .int (nI kf), .ref mE, .ref mF])), (m1, .inl (cI, 600, .inl (nA sg)))]) (fun _ => rfl) (by decide) (fun x H locs hp111 hP hD hS => ?_)
                obtain ⟨po1, tr1⟩ := x
                have hP : va_P D vwCl [(mo, .inr (6, [.int 0, .ref m1, .int (nI n), .int (nI po1), .int (tI tr1), .int (nI ec), .ref m6, .ref m7, .ref m8, .ref m9, .ref mA, .int (nI w), .int (nI nw), .ref mB, .ref mC, .ref mD, .int (nI kf), .ref mE, .ref mF])), (m1, .inl (cI, 600, .inl (nA sg)))] H := hP
                have hD : va_D A [(mo, .inr (6, [.int 0, .ref m1, .int (nI n), .int (nI po1), .int (tI tr1), .int (nI ec), .ref m6, .ref m7, .ref m8, .ref m9, .ref mA, .int (nI w), .int (nI nw), .ref mB, .ref mC, .ref mD, .int (nI kf), .ref mE, .ref mF])), (m1, .inl (cI, 600, .inl (nA sg)))] := hD
                obtain ⟨hc1, hd1, he1, hf1⟩ := gp_rs_bd hp111 (by omega) (by omega) htr
                refine lv_aload_n hx hb d_Mo_number_114 rfl (lv_at hl 2 rfl) ?_
                refine ga_get S hK hP 0 rfl f_Mo_54 rfl d_Mo_number_115 ?_
                refine lv_if_lt (tgt := 125) hx hb d_Mo_number_118 (by decide) (fun c118 => ?_) (fun c118 => ?_)
                · have hz9 := (tI_neg (fun t q => by have := hf1 t q; omega)).1 c118
                  refine lv_iload hx hb d_Mo_number_125 (lv_at hl 0 rfl) ?_
                  exact ga_wi (po1, tr1) S hrt hlk hP hD hS ⟨nu, po, none, (gp_rn_ok hq c81 (by omega)).symm, by rw [gm_nu, if_neg hb1]; exact hp111, by rw [if_pos hz9]⟩ d_Mo_number_127
                · have hz9 := (tI_neg (fun t q => by have := hf1 t q; omega)).2 c118
                  refine lv_iconst (v := (-1)) hx hb d_Mo_number_121 (by decide) ?_
                  refine lv_goto (tgt := 127) hx hb d_Mo_number_122 (by decide) ?_
                  exact ga_wi (po1, tr1) S hrt hlk hP hD hS ⟨nu, po, none, (gp_rn_ok hq c81 (by omega)).symm, by rw [gm_nu, if_neg hb1]; exact hp111, by rw [if_neg hz9]⟩ d_Mo_number_127
            · have c93 : ¬ (nu ≤ hi) := fun q => c93 ((nI_leI (a := nu) (b := hi) (by omega) (by omega)).mpr q)
              refine lv_aload_n hx hb d_Mo_number_96 rfl (lv_at hl 2 rfl) ?_
              refine lv_iload hx hb d_Mo_number_97 (lv_at hl 1 rfl) ?_
              refine ga_jv (wr := [(m1, .inl (cI, 600, .inl (nA sg)))]) (ga_runV (As := [.int (nI pos)]) (rest := []) S hK s_Mo_61 (gc_Mo_fails l D cI cZ cC cG mo m1 m6 m7 m8 m9 mA mB mC mD mE mF n po ec w nw kf none pos (fun t q => by cases q) _) (ga_prV (y := y_Mo_fails) (q0 := 0) hK hP hD [0] rfl (by decide) rfl rfl) rfl hl.1 rfl (Nat.le_of_ble_eq_true rfl) ⟨Nat.le_of_ble_eq_true rfl, Nat.le_of_ble_eq_true rfl⟩ ⟨Nat.le_of_ble_eq_true rfl, Nat.le_of_ble_eq_true rfl⟩ d_Mo_number_99) hP hD hS hA [0] [1] rfl rfl (by decide) (by decide) [1, 0] (fun _ => [(mo, .inr (6, [.int 0, .ref m1, .int (nI n), .int (nI po), .int (tI (some pos)), .int (nI ec), .ref m6, .ref m7, .ref m8, .ref m9, .ref mA, .int (nI w), .int (nI nw), .ref mB, .ref mC, .ref mD, .int (nI kf), .ref mE, .ref mF])), (m1, .inl (cI, 600, .inl (nA sg)))]) (fun _ => rfl) (by decide) (fun x H locs hp99 hP hD hS => ?_)
              refine lv_goto (tgt := 114) hx hb d_Mo_number_102 (by decide) ?_
              refine lv_aload_n hx hb d_Mo_number_114 rfl (lv_at hl 2 rfl) ?_
              refine ga_get S hK hP 0 rfl f_Mo_54 rfl d_Mo_number_115 ?_
              refine lv_if_lt (tgt := 125) hx hb d_Mo_number_118 (by decide) (fun c118 => ?_) (fun c118 => ?_)
              · exact absurd c118 (nI_pos (by omega))
              · refine lv_iconst (v := (-1)) hx hb d_Mo_number_121 (by decide) ?_
                refine lv_goto (tgt := 127) hx hb d_Mo_number_122 (by decide) ?_
                exact ga_wi (po, some pos) S hrt hlk hP hD hS ⟨lo, po, some pos, (gp_rn_bad hq (by omega)).symm, by unfold gm_nu; split; rfl; rw [gp_rs_some (by simp)], by rw [if_neg (by simp)]⟩ d_Mo_number_127
      · have c33 : ¬ 57 < gp_sg sg n po := fun q => c33 ((gm_lk_gt hsg (by decide)).mpr q)
        refine lv_aload_n hx hb d_Mo_number_36 rfl (lv_at hl 2 rfl) ?_
        refine ga_get S hK hP 0 rfl f_Mo_51 rfl d_Mo_number_37 ?_
        refine lv_iload hx hb d_Mo_number_40 (lv_at hl 1 rfl) ?_
        refine lv_isub hx hb d_Mo_number_42 ?_
        refine ga_top (nI (po - pos)) (pk_sub (a := po) (b := pos) (by omega)) ?_
        refine lv_iconst (v := 4) hx hb d_Mo_number_43 (by decide) ?_
        refine lv_icmp_ge (tgt := 75) hx hb d_Mo_number_44 (by decide) (fun c44 => ?_) (fun c44 => ?_)
        · have c44 : 4 ≤ (po - pos) := (nI_leI (a := 4) (b := (po - pos)) (by omega) (by omega)).mp c44
          have hq : gp_dg sg n 4 pos 0 = (nu, po) := by rw [← g5]; exact gp_dg_stop (Or.inl (by omega))
          refine lv_aload_n hx hb d_Mo_number_75 rfl (lv_at hl 2 rfl) ?_
          refine ga_get S hK hP 0 rfl f_Mo_51 rfl d_Mo_number_76 ?_
          refine lv_iload hx hb d_Mo_number_79 (lv_at hl 1 rfl) ?_
          refine lv_icmp_eq (tgt := 96) hx hb d_Mo_number_81 (by decide) (fun c81 => ?_) (fun c81 => ?_)
          · have c81 : po = pos := (nI_eq (a := po) (b := pos) (by omega) (by omega)).mp c81
            refine lv_aload_n hx hb d_Mo_number_96 rfl (lv_at hl 2 rfl) ?_
            refine lv_iload hx hb d_Mo_number_97 (lv_at hl 1 rfl) ?_
            refine ga_jv (wr := [(m1, .inl (cI, 600, .inl (nA sg)))]) (ga_runV (As := [.int (nI pos)]) (rest := []) S hK s_Mo_61 (gc_Mo_fails l D cI cZ cC cG mo m1 m6 m7 m8 m9 mA mB mC mD mE mF n po ec w nw kf none pos (fun t q => by cases q) _) (ga_prV (y := y_Mo_fails) (q0 := 0) hK hP hD [0] rfl (by decide) rfl rfl) rfl hl.1 rfl (Nat.le_of_ble_eq_true rfl) ⟨Nat.le_of_ble_eq_true rfl, Nat.le_of_ble_eq_true rfl⟩ ⟨Nat.le_of_ble_eq_true rfl, Nat.le_of_ble_eq_true rfl⟩ d_Mo_number_99) hP hD hS hA [0] [1] rfl rfl (by decide) (by decide) [1, 0] (fun _ => [(mo, .inr (6, [.int 0, .ref m1, .int (nI n), .int (nI po), .int (tI (some pos)), .int (nI ec), .ref m6, .ref m7, .ref m8, .ref m9, .ref mA, .int (nI w), .int (nI nw), .ref mB, .ref mC, .ref mD, .int (nI kf), .ref mE, .ref mF])), (m1, .inl (cI, 600, .inl (nA sg)))]) (fun _ => rfl) (by decide) (fun x H locs hp99 hP hD hS => ?_)
            refine lv_goto (tgt := 114) hx hb d_Mo_number_102 (by decide) ?_
            refine lv_aload_n hx hb d_Mo_number_114 rfl (lv_at hl 2 rfl) ?_
            refine ga_get S hK hP 0 rfl f_Mo_54 rfl d_Mo_number_115 ?_
            refine lv_if_lt (tgt := 125) hx hb d_Mo_number_118 (by decide) (fun c118 => ?_) (fun c118 => ?_)
            · exact absurd c118 (nI_pos (by omega))
            · refine lv_iconst (v := (-1)) hx hb d_Mo_number_121 (by decide) ?_
              refine lv_goto (tgt := 127) hx hb d_Mo_number_122 (by decide) ?_
              exact ga_wi (po, some pos) S hrt hlk hP hD hS ⟨lo, po, some pos, (gp_rn_bad hq (by omega)).symm, by unfold gm_nu; split; rfl; rw [gp_rs_some (by simp)], by rw [if_neg (by simp)]⟩ d_Mo_number_127
          · have c81 : ¬ (po = pos) := fun q => c81 ((nI_eq (a := po) (b := pos) (by omega) (by omega)).mpr q)
            refine lv_iload hx hb d_Mo_number_84 (lv_at hl 0 rfl) ?_
            refine lv_iload_n hx hb d_Mo_number_86 rfl (lv_at hl 3 rfl) ?_
            refine lv_icmp_lt (tgt := 96) hx hb d_Mo_number_87 (by decide) (fun c87 => ?_) (fun c87 => ?_)
            · have c87 : nu < lo := (nI_ltI (a := nu) (b := lo) (by omega) (by omega)).mp c87
              refine lv_aload_n hx hb d_Mo_number_96 rfl (lv_at hl 2 rfl) ?_
              refine lv_iload hx hb d_Mo_number_97 (lv_at hl 1 rfl) ?_
              refine ga_jv (wr := [(m1, .inl (cI, 600, .inl (nA sg)))]) (ga_runV (As := [.int (nI pos)]) (rest := []) S hK s_Mo_61 (gc_Mo_fails l D cI cZ cC cG mo m1 m6 m7 m8 m9 mA mB mC mD mE mF n po ec w nw kf none pos (fun t q => by cases q) _) (ga_prV (y := y_Mo_fails) (q0 := 0) hK hP hD [0] rfl (by decide) rfl rfl) rfl hl.1 rfl (Nat.le_of_ble_eq_true rfl) ⟨Nat.le_of_ble_eq_true rfl, Nat.le_of_ble_eq_true rfl⟩ ⟨Nat.le_of_ble_eq_true rfl, Nat.le_of_ble_eq_true rfl⟩ d_Mo_number_99) hP hD hS hA [0] [1] rfl rfl (by decide) (by decide) [1, 0] (fun _ => [(mo, .inr (6, [.int 0, .ref m1, .int (nI n), .int (nI po), .int (tI (some pos)), .int (nI ec), .ref m6, .ref m7, .ref m8, .ref m9, .ref mA, .int (nI w), .int (nI nw), .ref mB, .ref mC, .ref mD, .int (nI kf), .ref mE, .ref mF])), (m1, .inl (cI, 600, .inl (nA sg)))]) (fun _ => rfl) (by decide) (fun x H locs hp99 hP hD hS => ?_)
              refine lv_goto (tgt := 114) hx hb d_Mo_number_102 (by decide) ?_
              refine lv_aload_n hx hb d_Mo_number_114 rfl (lv_at hl 2 rfl) ?_
              refine ga_get S hK hP 0 rfl f_Mo_54 rfl d_Mo_number_115 ?_
              refine lv_if_lt (tgt := 125) hx hb d_Mo_number_118 (by decide) (fun c118 => ?_) (fun c118 => ?_)
              · exact absurd c118 (nI_pos (by omega))
              · refine lv_iconst (v := (-1)) hx hb d_Mo_number_121 (by decide) ?_
                refine lv_goto (tgt := 127) hx hb d_Mo_number_122 (by decide) ?_
                exact ga_wi (po, some pos) S hrt hlk hP hD hS ⟨lo, po, some pos, (gp_rn_bad hq (by omega)).symm, by unfold gm_nu; split; rfl; rw [gp_rs_some (by simp)], by rw [if_neg (by simp)]⟩ d_Mo_number_127
            · have c87 : ¬ (nu < lo) := fun q => c87 ((nI_ltI (a := nu) (b := lo) (by omega) (by omega)).mpr q)
              refine lv_iload hx hb d_Mo_number_90 (lv_at hl 0 rfl) ?_
              refine lv_iload_n hx hb d_Mo_number_92 rfl (lv_at hl 4 rfl) ?_
              refine lv_icmp_le (tgt := 105) hx hb d_Mo_number_93 (by decide) (fun c93 => ?_) (fun c93 => ?_)
              · have c93 : nu ≤ hi := (nI_leI (a := nu) (b := hi) (by omega) (by omega)).mp c93
                refine lv_iload_n hx hb d_Mo_number_105 rfl (lv_at hl 5 rfl) ?_
                refine lv_if_le (tgt := 114) hx hb d_Mo_number_106 (by decide) (fun c106 => ?_) (fun c106 => ?_)
                · have c106 : bh ≤ 0 := (nI_leI (a := bh) (b := 0) (by omega) (by omega)).mp c106
                  have hb0 : bh = 0 := by omega
                  refine lv_aload_n hx hb d_Mo_number_114 rfl (lv_at hl 2 rfl) ?_
                  refine ga_get S hK hP 0 rfl f_Mo_54 rfl d_Mo_number_115 ?_
                  refine lv_if_lt (tgt := 125) hx hb d_Mo_number_118 (by decide) (fun c118 => ?_) (fun c118 => ?_)
                  · refine lv_iload hx hb d_Mo_number_125 (lv_at hl 0 rfl) ?_
                    exact ga_wi (po, none) S hrt hlk hP hD hS ⟨nu, po, none, (gp_rn_ok hq c81 (by omega)).symm, by rw [gm_nu, if_pos hb0], by rw [if_pos rfl]⟩ d_Mo_number_127
                  · exact absurd (show tI none < 0 by decide) c118
                · have c106 : ¬ (bh ≤ 0) := fun q => c106 ((nI_leI (a := bh) (b := 0) (by omega) (by omega)).mpr q)
                  have hb1 : bh ≠ 0 := by omega
                  refine lv_aload_n hx hb d_Mo_number_109 rfl (lv_at hl 2 rfl) ?_
                  refine lv_iload_n hx hb d_Mo_number_110 rfl (lv_at hl 5 rfl) ?_
                  refine ga_jv (wr := []) (ga_runV (As := [.int (nI bh)]) (rest := []) S hK s_Mo_65 (gc_Mo_sign1 l D cI cZ cC cG mo m1 m6 m7 m8 m9 mA mB mC mD mE mF n po ec w nw kf none sg (by omega) (by omega) hsg htr bh (by omega) (by omega) _) (ga_prV (y := y_Mo_sign1) (q0 := 0) hK hP hD [0, 1] rfl (by decide) rfl rfl) rfl hl.1 rfl (Nat.le_of_ble_eq_true rfl) ⟨Nat.le_of_ble_eq_true rfl, Nat.le_of_ble_eq_true rfl⟩ ⟨Nat.le_of_ble_eq_true rfl, Nat.le_of_ble_eq_true rfl⟩ d_Mo_number_111) hP hD hS hA [0, 1] [] rfl rfl (by decide) (by decide) [0, 1] (fun (x : Nat × Option Nat) => [(mo, .inr (6, [.int 0, .ref m1, .int (nI n), .int (nI x.1), .int (tI x.2), .int (nI ec), .ref m6, .ref m7, .ref m8, .ref m9, .ref mA, .int (nI w), .int (nI nw), .ref mB, .ref mC, .ref mD, .int (nI kf), .ref mE, .ref mF])), (m1, .inl (cI, 600, .inl (nA sg)))]) (fun _ => rfl) (by decide) (fun x H locs hp111 hP hD hS => ?_)
                  obtain ⟨po1, tr1⟩ := x
                  have hP : va_P D vwCl [(mo, .inr (6, [.int 0, .ref m1, .int (nI n), .int (nI po1), .int (tI tr1), .int (nI ec), .ref m6, .ref m7, .ref m8, .ref m9, .ref mA, .int (nI w), .int (nI nw), .ref mB, .ref mC, .ref mD, .int (nI kf), .ref mE, .ref mF])), (m1, .inl (cI, 600, .inl (nA sg)))] H := hP
                  have hD : va_D A [(mo, .inr (6, [.int 0, .ref m1, .int (nI n), .int (nI po1), .int (tI tr1), .int (nI ec), .ref m6, .ref m7, .ref m8, .ref m9, .ref mA, .int (nI w), .int (nI nw), .ref mB, .ref mC, .ref mD, .int (nI kf), .ref mE, .ref mF])), (m1, .inl (cI, 600, .inl (nA sg)))] := hD
                  obtain ⟨hc1, hd1, he1, hf1⟩ := gp_rs_bd hp111 (by omega) (by omega) htr
                  refine lv_aload_n hx hb d_Mo_number_114 rfl (lv_at hl 2 rfl) ?_
                  refine ga_get S hK hP 0 rfl f_Mo_54 rfl d_Mo_number_115 ?_
                  refine lv_if_lt (tgt := 125) hx hb d_Mo_number_118 (by decide) (fun c118 => ?_) (fun c118 => ?_)
                  · have hz9 := (tI_neg (fun t q => by have := hf1 t q; omega)).1 c118
                    refine lv_iload hx hb d_Mo_number_125 (lv_at hl 0 rfl) ?_
                    exact ga_wi (po1, tr1) S hrt hlk hP hD hS ⟨nu, po, none, (gp_rn_ok hq c81 (by omega)).symm, by rw [gm_nu, if_neg hb1]; exact hp111, by rw [if_pos hz9]⟩ d_Mo_number_127
                  · have hz9 := (tI_neg (fun t q => by have := hf1 t q; omega)).2 c118
                    refine lv_iconst (v := (-1)) hx hb d_Mo_number_121 (by decide) ?_
                    refine lv_goto (tgt := 127) hx hb d_Mo_number_122 (by decide) ?_
                    exact ga_wi (po1, tr1) S hrt hlk hP hD hS ⟨nu, po, none, (gp_rn_ok hq c81 (by omega)).symm, by rw [gm_nu, if_neg hb1]; exact hp111, by rw [if_neg hz9]⟩ d_Mo_number_127
              · have c93 : ¬ (nu ≤ hi) := fun q => c93 ((nI_leI (a := nu) (b := hi) (by omega) (by omega)).mpr q)
                refine lv_aload_n hx hb d_Mo_number_96 rfl (lv_at hl 2 rfl) ?_
                refine lv_iload hx hb d_Mo_number_97 (lv_at hl 1 rfl) ?_
                refine ga_jv (wr := [(m1, .inl (cI, 600, .inl (nA sg)))]) (ga_runV (As := [.int (nI pos)]) (rest := []) S hK s_Mo_61 (gc_Mo_fails l D cI cZ cC cG mo m1 m6 m7 m8 m9 mA mB mC mD mE mF n po ec w nw kf none pos (fun t q => by cases q) _) (ga_prV (y := y_Mo_fails) (q0 := 0) hK hP hD [0] rfl (by decide) rfl rfl) rfl hl.1 rfl (Nat.le_of_ble_eq_true rfl) ⟨Nat.le_of_ble_eq_true rfl, Nat.le_of_ble_eq_true rfl⟩ ⟨Nat.le_of_ble_eq_true rfl, Nat.le_of_ble_eq_true rfl⟩ d_Mo_number_99) hP hD hS hA [0] [1] rfl rfl (by decide) (by decide) [1, 0] (fun _ => [(mo, .inr (6, [.int 0, .ref m1, .int (nI n), .int (nI po), .int (tI (some pos)), .int (nI ec), .ref m6, .ref m7, .ref m8, .ref m9, .ref mA, .int (nI w), .int (nI nw), .ref mB, .ref mC, .ref mD, .int (nI kf), .ref mE, .ref mF])), (m1, .inl (cI, 600, .inl (nA sg)))]) (fun _ => rfl) (by decide) (fun x H locs hp99 hP hD hS => ?_)
                refine lv_goto (tgt := 114) hx hb d_Mo_number_102 (by decide) ?_
                refine lv_aload_n hx hb d_Mo_number_114 rfl (lv_at hl 2 rfl) ?_
                refine ga_get S hK hP 0 rfl f_Mo_54 rfl d_Mo_number_115 ?_
                refine lv_if_lt (tgt := 125) hx hb d_Mo_number_118 (by decide) (fun c118 => ?_) (fun c118 => ?_)
                · exact absurd c118 (nI_pos (by omega))
                · refine lv_iconst (v := (-1)) hx hb d_Mo_number_121 (by decide) ?_
                  refine lv_goto (tgt := 127) hx hb d_Mo_number_122 (by decide) ?_
                  exact ga_wi (po, some pos) S hrt hlk hP hD hS ⟨lo, po, some pos, (gp_rn_bad hq (by omega)).symm, by unfold gm_nu; split; rfl; rw [gp_rs_some (by simp)], by rw [if_neg (by simp)]⟩ d_Mo_number_127
        · have c44 : ¬ (4 ≤ (po - pos)) := fun q => c44 ((nI_leI (a := 4) (b := (po - pos)) (by omega) (by omega)).mpr q)
          refine lv_bipush (v := 10) hx hb d_Mo_number_47 (by decide) ?_
          refine lv_iload hx hb d_Mo_number_49 (lv_at hl 0 rfl) ?_
          refine lv_imul hx hb d_Mo_number_51 ?_
          refine ga_top (nI (10 * nu)) (pk_mul 10 nu) ?_
          refine lv_aload_n hx hb d_Mo_number_52 rfl (lv_at hl 2 rfl) ?_
          refine ga_cr (As := []) (rest := [.int (nI (10 * nu))]) (q0 := 0) S hK hP s_Mo_57 (gc_Mo_look l D cI cZ cC cG mo m1 m6 m7 m8 m9 mA mB mC mD mE mF n po ec w nw kf none sg (by omega) (by omega)) [0, 1] rfl rfl rfl rfl hl.1 rfl (Nat.le_of_ble_eq_true rfl) ⟨Nat.le_of_ble_eq_true rfl, Nat.le_of_ble_eq_true rfl⟩ ⟨Nat.le_of_ble_eq_true rfl, Nat.le_of_ble_eq_true rfl⟩ d_Mo_number_53 (fun r hp53 => ?_)
          subst hp53
          refine ga_top (nI (gp_sg sg n po)) (gm_lk_in hlt) ?_
          refine lv_iadd hx hb d_Mo_number_56 ?_
          refine ga_top (nI ((10 * nu) + (gp_sg sg n po))) (nI_add (10 * nu) (gp_sg sg n po)) ?_
          refine lv_bipush (v := 48) hx hb d_Mo_number_57 (by decide) ?_
          refine lv_isub hx hb d_Mo_number_59 ?_
          refine ga_top (nI (((10 * nu) + (gp_sg sg n po)) - 48)) (pk_sub (a := ((10 * nu) + (gp_sg sg n po))) (b := 48) (by omega)) ?_
          refine lv_istore (lv' := [(5, .int (nI (((10 * nu) + (gp_sg sg n po)) - 48))), (4, .int (nI pos)), (0, .ref mo), (1, .int (nI lo)), (2, .int (nI hi)), (3, .int (nI bh))]) hx hb d_Mo_number_60 hl (by decide) rfl (fun ls hl => ?_)
          refine lv_aload_n hx hb d_Mo_number_62 rfl (lv_at hl 2 rfl) ?_
          refine lv_dup hx hb d_Mo_number_63 rfl ?_
          refine ga_get S hK hP 0 rfl f_Mo_51 rfl d_Mo_number_64 ?_
          refine lv_iconst (v := 1) hx hb d_Mo_number_67 (by decide) ?_
          refine lv_iadd hx hb d_Mo_number_68 ?_
          refine ga_top (nI (po + 1)) (nI_add po 1) ?_
          refine ga_put (ws' := [(mo, .inr (6, [.int 0, .ref m1, .int (nI n), .int (nI (po + 1)), .int (tI none), .int (nI ec), .ref m6, .ref m7, .ref m8, .ref m9, .ref mA, .int (nI w), .int (nI nw), .ref mB, .ref mC, .ref mD, .int (nI kf), .ref mE, .ref mF])), (m1, .inl (cI, 600, .inl (nA sg)))]) S hK hP hD hS 0 rfl p_Mo_51 rfl rfl (Nat.le_of_ble_eq_true rfl) rfl d_Mo_number_69 (fun H locs hP hD hS => ?_)
          refine lv_goto (tgt := 18) hx hb d_Mo_number_72 (by decide) ?_
          exact ih (((10 * nu) + (gp_sg sg n po)) - 48, po + 1) _ _ _ (by show (600 - (po + 1)) < (600 - po); omega) ⟨lv_sub hl [0, 1, 2, 3, 4, 5] rfl, hP, hD, hS, ⟨by omega, by omega, by omega, by rw [show po + 1 - pos = (po - pos) + 1 by omega, Nat.pow_succ]; omega, by rw [← g5, show 4 - (po - pos) = (4 - (po + 1 - pos)) + 1 by omega, gp_dg, if_pos ⟨by omega, by omega⟩, Nat.mul_comm 10 nu]⟩⟩
  · have hz := (tI_neg (fun t q => by have := hwr t q; omega)).2 c4
    refine lv_iconst (v := (-1)) hx hb d_Mo_number_7 (by decide) ?_
    exact ga_wi (pos, wr) S hrt hlk hP hD hS ⟨lo, pos, wr, (gp_rn_some hz).symm, by unfold gm_nu; split; rfl; rw [gp_rs_some hz], by rw [if_neg hz]⟩ d_Mo_number_8
