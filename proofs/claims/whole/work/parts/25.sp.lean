set_option maxHeartbeats 4000000 in
set_option maxRecDepth 100000 in
theorem gc_SP_hasPlan (l : Launch) (D : va_G) (cI cZ cC cG : ClassId) (spo re fa shh eo ec pl : Nat) (hec : ec ≤ 8) : ga_Mr l y_SP_hasPlan b_SP_hasPlan 1 (some .boolean) 0 D (ga_T cI cZ cC cG) [.ref spo] [(spo, .inr (5, [.ref re, .ref fa, .ref shh, .ref eo, .int (nI ec), .ref pl]))] (fun r => (r = 1 ∧ ec ≠ 0) ∨ (r = 0 ∧ ec = 0)) := by
  refine ga_enR (by decide) (Nat.le_of_ble_eq_true rfl) ?_
  intro p e s m below meth c ls S hrt hlk hK hP hl
  obtain ⟨hx, hb, hml, hown, hts⟩ := id S
  have hl : lv_has ls 1 [(0, .ref spo)] := hl
  refine lv_aload_n hx hb d_SP_hasPlan_0 rfl (lv_at hl 0 rfl) ?_
  refine ga_get S hK hP 0 rfl f_SP_67 rfl d_SP_hasPlan_1 ?_
  refine lv_if_le (tgt := 11) hx hb d_SP_hasPlan_4 (by decide) (fun c4 => ?_) (fun c4 => ?_)
  · have c4 : ec ≤ 0 := (nI_leI (a := ec) (b := 0) (by omega) (by omega)).mp c4
    refine lv_iconst (v := 0) hx hb d_SP_hasPlan_11 (by decide) ?_
    exact ga_rz S hrt hlk (Or.inl rfl) (Or.inr ⟨rfl, by omega⟩) d_SP_hasPlan_12
  · have c4 : ¬ (ec ≤ 0) := fun q => c4 ((nI_leI (a := ec) (b := 0) (by omega) (by omega)).mpr q)
    refine lv_iconst (v := 1) hx hb d_SP_hasPlan_7 (by decide) ?_
    refine lv_goto (tgt := 12) hx hb d_SP_hasPlan_8 (by decide) ?_
    exact ga_rz S hrt hlk (Or.inr rfl) (Or.inl ⟨rfl, by omega⟩) d_SP_hasPlan_12
set_option maxHeartbeats 4000000 in
set_option maxRecDepth 100000 in
theorem gc_SP_target (l : Launch) (D : va_G) (cI cZ cC cG : ClassId) (spo re fa shh eo ec pl : Nat) (hec : ec ≤ 8) (q1 q2 q3 q4 q5 q6 q7 q8 q9 rg : Nat) (r1 r2 r3 r4 : Nat → Nat) (code kind : Int32) (hrg : rg ≤ 66) (hr : ∀ k, k < rg → 1 ≤ r1 k ∧ r1 k ≤ 40 ∧ r2 k ≤ 9999 ∧ r3 k ≤ 9999 ∧ r4 k ≤ 9) : ga_Mr l y_SP_target b_SP_target 3 (some .int) 6 D (ga_T cI cZ cC cG) [.ref spo, .int code, .int kind] [(spo, .inr (5, [.ref re, .ref fa, .ref shh, .ref eo, .int (nI ec), .ref pl])), (pl, .inr (1, [.ref q1, .ref q2, .ref q3, .ref q4, .ref q5, .ref q6, .ref q7, .ref q8, .ref q9, .int (nI rg)])), (q6, .inl (cI, 66, .inl (nA r1))), (q7, .inl (cI, 66, .inl (nA r2))), (q8, .inl (cI, 66, .inl (nA r3))), (q9, .inl (cI, 66, .inl (nA r4)))] (fun r => (¬ ((0 ≤ code ∧ code ≤ 9999) ∧ (0 ≤ kind ∧ kind ≤ 9)) ∧ r = -102) ∨ (((0 ≤ code ∧ code ≤ 9999) ∧ (0 ≤ kind ∧ kind ≤ 9)) ∧ ec = 0 ∧ r = -103) ∨ (((0 ≤ code ∧ code ≤ 9999) ∧ (0 ≤ kind ∧ kind ≤ 9)) ∧ ec ≠ 0 ∧ ∃ q, r = nI q ∧ gp_isL r1 r2 r3 r4 rg code.toNatClampNeg kind.toNatClampNeg q)) := by
  refine ga_enR (by decide) (Nat.le_of_ble_eq_true rfl) ?_
  intro p e s m below meth c ls S hrt hlk hK hP hl
  obtain ⟨hx, hb, hml, hown, hts⟩ := id S
  have hl : lv_has ls 3 [(0, .ref spo), (1, .int code), (2, .int kind)] := hl
  refine lv_iload_n hx hb d_SP_target_0 rfl (lv_at hl 1 rfl) ?_
  refine lv_iconst (v := 0) hx hb d_SP_target_1 (by decide) ?_
  refine lv_sipush (v := 9999) hx hb d_SP_target_2 (by decide) ?_
  refine ga_cs (As := [.int code, .int 0, .int 9999]) (rest := []) S hK hP s_SP_73 (gc_SP_isWithin l D cI cZ cC cG code 0 9999) [] rfl rfl hl.1 rfl (Nat.le_of_ble_eq_true rfl) ⟨Nat.le_of_ble_eq_true rfl, Nat.le_of_ble_eq_true rfl⟩ ⟨Nat.le_of_ble_eq_true rfl, Nat.le_of_ble_eq_true rfl⟩ d_SP_target_5 (fun r hp5 => ?_)
  rcases hp5 with ⟨rfl, hp5⟩ | ⟨rfl, hp5⟩
  · obtain ⟨cN, hcN, rfl⟩ := nI_of2 (M := 9999) (n := 9999) rfl (fun q => absurd (Int32.lt_of_le_of_lt hp5.1 q) (by decide)) hp5.2
    refine lv_if_eq (tgt := 21) hx hb d_SP_target_8 (by decide) (fun c8 => ?_) (fun c8 => ?_)
    · exact absurd c8 (by decide)
    · refine lv_iload_n hx hb d_SP_target_11 rfl (lv_at hl 2 rfl) ?_
      refine lv_iconst (v := 0) hx hb d_SP_target_12 (by decide) ?_
      refine lv_bipush (v := 9) hx hb d_SP_target_13 (by decide) ?_
      refine ga_cs (As := [.int kind, .int 0, .int 9]) (rest := []) S hK hP s_SP_73 (gc_SP_isWithin l D cI cZ cC cG kind 0 9) [] rfl rfl hl.1 rfl (Nat.le_of_ble_eq_true rfl) ⟨Nat.le_of_ble_eq_true rfl, Nat.le_of_ble_eq_true rfl⟩ ⟨Nat.le_of_ble_eq_true rfl, Nat.le_of_ble_eq_true rfl⟩ d_SP_target_15 (fun r hp15 => ?_)
      rcases hp15 with ⟨rfl, hp15⟩ | ⟨rfl, hp15⟩
      · obtain ⟨kN, hkN, rfl⟩ := nI_of2 (M := 9) (n := 9) rfl (fun q => absurd (Int32.lt_of_le_of_lt hp15.1 q) (by decide)) hp15.2
        refine lv_if_ne (tgt := 24) hx hb d_SP_target_18 (by decide) (fun c18 => ?_) (fun c18 => ?_)
        · refine lv_aload_n hx hb d_SP_target_24 rfl (lv_at hl 0 rfl) ?_
          refine ga_cr (As := []) (rest := []) (q0 := 0) S hK hP s_SP_77 (gc_SP_hasPlan l D cI cZ cC cG spo re fa shh eo ec pl (by omega)) [0] rfl rfl rfl rfl hl.1 rfl (Nat.le_of_ble_eq_true rfl) ⟨Nat.le_of_ble_eq_true rfl, Nat.le_of_ble_eq_true rfl⟩ ⟨Nat.le_of_ble_eq_true rfl, Nat.le_of_ble_eq_true rfl⟩ d_SP_target_25 (fun r hp25 => ?_)
          rcases hp25 with ⟨rfl, hp25⟩ | ⟨rfl, hp25⟩
          · refine lv_if_eq (tgt := 43) hx hb d_SP_target_28 (by decide) (fun c28 => ?_) (fun c28 => ?_)
            · exact absurd c28 (by decide)
            · refine lv_aload_n hx hb d_SP_target_31 rfl (lv_at hl 0 rfl) ?_
              refine ga_get S hK hP 0 rfl f_SP_38 rfl d_SP_target_32 ?_
              refine lv_iload_n hx hb d_SP_target_35 rfl (lv_at hl 1 rfl) ?_
              refine lv_iload_n hx hb d_SP_target_36 rfl (lv_at hl 2 rfl) ?_
              refine ga_cr (As := [.int (nI cN), .int (nI kN)]) (rest := []) (q0 := 1) S hK hP s_SP_80 (gc_Pl_leastTargetOf l D cI cZ cC cG pl q1 q2 q3 q4 q5 q6 q7 q8 q9 rg cN kN r1 r2 r3 r4 (by omega) (by omega) (by omega) hr) [1, 2, 3, 4, 5] rfl rfl rfl rfl hl.1 rfl (Nat.le_of_ble_eq_true rfl) ⟨Nat.le_of_ble_eq_true rfl, Nat.le_of_ble_eq_true rfl⟩ ⟨Nat.le_of_ble_eq_true rfl, Nat.le_of_ble_eq_true rfl⟩ d_SP_target_37 (fun r hp37 => ?_)
              obtain ⟨qz, rfl, hqz⟩ := hp37
              refine lv_goto (tgt := 45) hx hb d_SP_target_40 (by decide) ?_
              exact ga_ri S hrt hlk (Or.inr (Or.inr ⟨⟨hp5, hp15⟩, hp25, qz, rfl, by rw [nI_clamp (by omega), nI_clamp (by omega)]; exact hqz⟩)) d_SP_target_45
          · refine lv_if_eq (tgt := 43) hx hb d_SP_target_28 (by decide) (fun c28 => ?_) (fun c28 => ?_)
            · refine lv_bipush (v := (-103)) hx hb d_SP_target_43 (by decide) ?_
              exact ga_ri S hrt hlk (Or.inr (Or.inl ⟨⟨hp5, hp15⟩, hp25, rfl⟩)) d_SP_target_45
            · exact absurd c28 (by decide)
        · exact absurd c18 (by decide)
      · refine lv_if_ne (tgt := 24) hx hb d_SP_target_18 (by decide) (fun c18 => ?_) (fun c18 => ?_)
        · exact absurd c18 (by decide)
        · refine lv_bipush (v := (-102)) hx hb d_SP_target_21 (by decide) ?_
          exact ga_ri S hrt hlk (Or.inl ⟨(fun q => by first | exact hp5 q.1 | exact hp15 q.2), rfl⟩) d_SP_target_23
  · refine lv_if_eq (tgt := 21) hx hb d_SP_target_8 (by decide) (fun c8 => ?_) (fun c8 => ?_)
    · refine lv_bipush (v := (-102)) hx hb d_SP_target_21 (by decide) ?_
      exact ga_ri S hrt hlk (Or.inl ⟨(fun q => by first | exact hp5 q.1 | exact hp15 q.2), rfl⟩) d_SP_target_23
    · exact absurd c8 (by decide)
set_option maxHeartbeats 4000000 in
set_option maxRecDepth 100000 in
theorem gc_SP_bin (l : Launch) (D : va_G) (cI cZ cC cG : ClassId) (spo re fa shh eo ec pl : Nat) (hec : ec ≤ 8) (q1 q2 q3 q4 q5 q6 q7 q8 q9 rg : Nat) (bn : Nat → Nat) (he : Nat → Bool) (t pa sh : Int32) (hbn : ∀ j, bn j ≤ 60) : ga_Mr l y_SP_bin b_SP_bin 4 (some .int) 6 D (ga_T cI cZ cC cG) [.ref spo, .int t, .int pa, .int sh] [(spo, .inr (5, [.ref re, .ref fa, .ref shh, .ref eo, .int (nI ec), .ref pl])), (pl, .inr (1, [.ref q1, .ref q2, .ref q3, .ref q4, .ref q5, .ref q6, .ref q7, .ref q8, .ref q9, .int (nI rg)])), (q1, .inl (cI, 480, .inl (nA bn))), (q4, .inl (cZ, 41, .inl (zA he)))] (fun r => (¬ (1 ≤ t ∧ t ≤ 40) ∧ r = -101) ∨ ((1 ≤ t ∧ t ≤ 40) ∧ ¬ ((0 ≤ pa ∧ pa ≤ 3) ∧ (0 ≤ sh ∧ sh ≤ 2)) ∧ r = -102) ∨ ((1 ≤ t ∧ t ≤ 40) ∧ ((0 ≤ pa ∧ pa ≤ 3) ∧ (0 ≤ sh ∧ sh ≤ 2)) ∧ ec = 0 ∧ r = -103) ∨ ((1 ≤ t ∧ t ≤ 40) ∧ ((0 ≤ pa ∧ pa ≤ 3) ∧ (0 ≤ sh ∧ sh ≤ 2)) ∧ ec ≠ 0 ∧ r = nI (if he t.toNatClampNeg = true then 0 else bn (gp_sl t.toNatClampNeg pa.toNatClampNeg sh.toNatClampNeg)))) := by
  refine ga_enR (by decide) (Nat.le_of_ble_eq_true rfl) ?_
  intro p e s m below meth c ls S hrt hlk hK hP hl
  obtain ⟨hx, hb, hml, hown, hts⟩ := id S
  have hl : lv_has ls 4 [(0, .ref spo), (1, .int t), (2, .int pa), (3, .int sh)] := hl
  refine lv_iload_n hx hb d_SP_bin_0 rfl (lv_at hl 1 rfl) ?_
  refine ga_cs (As := [.int t]) (rest := []) S hK hP s_SP_84 (gc_SP_isTarget l D cI cZ cC cG t) [] rfl rfl hl.1 rfl (Nat.le_of_ble_eq_true rfl) ⟨Nat.le_of_ble_eq_true rfl, Nat.le_of_ble_eq_true rfl⟩ ⟨Nat.le_of_ble_eq_true rfl, Nat.le_of_ble_eq_true rfl⟩ d_SP_bin_1 (fun r hp1 => ?_)
  rcases hp1 with ⟨rfl, hp1⟩ | ⟨rfl, hp1⟩
  · obtain ⟨tN, htN, rfl⟩ := nI_of2 (M := 40) (n := 40) rfl (fun q => absurd (Int32.lt_of_le_of_lt hp1.1 q) (by decide)) hp1.2
    have ht1 : 1 ≤ tN := (nI_leI (a := 1) (b := tN) (by omega) (by omega)).mp hp1.1
    refine lv_if_ne (tgt := 10) hx hb d_SP_bin_4 (by decide) (fun c4 => ?_) (fun c4 => ?_)
    · refine lv_iload_n hx hb d_SP_bin_10 rfl (lv_at hl 2 rfl) ?_
      refine lv_iconst (v := 0) hx hb d_SP_bin_11 (by decide) ?_
      refine lv_iconst (v := 3) hx hb d_SP_bin_12 (by decide) ?_
      refine ga_cs (As := [.int pa, .int 0, .int 3]) (rest := []) S hK hP s_SP_73 (gc_SP_isWithin l D cI cZ cC cG pa 0 3) [] rfl rfl hl.1 rfl (Nat.le_of_ble_eq_true rfl) ⟨Nat.le_of_ble_eq_true rfl, Nat.le_of_ble_eq_true rfl⟩ ⟨Nat.le_of_ble_eq_true rfl, Nat.le_of_ble_eq_true rfl⟩ d_SP_bin_13 (fun r hp13 => ?_)
      rcases hp13 with ⟨rfl, hp13⟩ | ⟨rfl, hp13⟩
      · obtain ⟨pN, hpN, rfl⟩ := nI_of2 (M := 3) (n := 3) rfl (fun q => absurd (Int32.lt_of_le_of_lt hp13.1 q) (by decide)) hp13.2
        refine lv_if_eq (tgt := 28) hx hb d_SP_bin_16 (by decide) (fun c16 => ?_) (fun c16 => ?_)
        · exact absurd c16 (by decide)
        · refine lv_iload_n hx hb d_SP_bin_19 rfl (lv_at hl 3 rfl) ?_
          refine lv_iconst (v := 0) hx hb d_SP_bin_20 (by decide) ?_
          refine lv_iconst (v := 2) hx hb d_SP_bin_21 (by decide) ?_
          refine ga_cs (As := [.int sh, .int 0, .int 2]) (rest := []) S hK hP s_SP_73 (gc_SP_isWithin l D cI cZ cC cG sh 0 2) [] rfl rfl hl.1 rfl (Nat.le_of_ble_eq_true rfl) ⟨Nat.le_of_ble_eq_true rfl, Nat.le_of_ble_eq_true rfl⟩ ⟨Nat.le_of_ble_eq_true rfl, Nat.le_of_ble_eq_true rfl⟩ d_SP_bin_22 (fun r hp22 => ?_)
          rcases hp22 with ⟨rfl, hp22⟩ | ⟨rfl, hp22⟩
          · obtain ⟨sN, hsN, rfl⟩ := nI_of2 (M := 2) (n := 2) rfl (fun q => absurd (Int32.lt_of_le_of_lt hp22.1 q) (by decide)) hp22.2
            refine lv_if_ne (tgt := 31) hx hb d_SP_bin_25 (by decide) (fun c25 => ?_) (fun c25 => ?_)
            · refine lv_aload_n hx hb d_SP_bin_31 rfl (lv_at hl 0 rfl) ?_
              refine ga_cr (As := []) (rest := []) (q0 := 0) S hK hP s_SP_77 (gc_SP_hasPlan l D cI cZ cC cG spo re fa shh eo ec pl (by omega)) [0] rfl rfl rfl rfl hl.1 rfl (Nat.le_of_ble_eq_true rfl) ⟨Nat.le_of_ble_eq_true rfl, Nat.le_of_ble_eq_true rfl⟩ ⟨Nat.le_of_ble_eq_true rfl, Nat.le_of_ble_eq_true rfl⟩ d_SP_bin_32 (fun r hp32 => ?_)
              rcases hp32 with ⟨rfl, hp32⟩ | ⟨rfl, hp32⟩
              · refine lv_if_ne (tgt := 41) hx hb d_SP_bin_35 (by decide) (fun c35 => ?_) (fun c35 => ?_)
                · refine lv_aload_n hx hb d_SP_bin_41 rfl (lv_at hl 0 rfl) ?_
                  refine ga_get S hK hP 0 rfl f_SP_38 rfl d_SP_bin_42 ?_
                  refine ga_get S hK hP 1 rfl f_SP_88 rfl d_SP_bin_45 ?_
                  refine lv_iload_n hx hb d_SP_bin_48 rfl (lv_at hl 1 rfl) ?_
                  refine ga_zld S hK hP 3 1 rfl rfl tN (by omega) (by decide) d_SP_bin_49 ?_
                  refine lv_if_eq (tgt := 57) hx hb d_SP_bin_50 (by decide) (fun c50 => ?_) (fun c50 => ?_)
                  · have c50 : he tN = false := bI_0 c50
                    refine lv_aload_n hx hb d_SP_bin_57 rfl (lv_at hl 0 rfl) ?_
                    refine ga_get S hK hP 0 rfl f_SP_38 rfl d_SP_bin_58 ?_
                    refine ga_get S hK hP 1 rfl f_SP_92 rfl d_SP_bin_61 ?_
                    refine lv_iload_n hx hb d_SP_bin_64 rfl (lv_at hl 1 rfl) ?_
                    refine lv_iload_n hx hb d_SP_bin_65 rfl (lv_at hl 2 rfl) ?_
                    refine lv_iload_n hx hb d_SP_bin_66 rfl (lv_at hl 3 rfl) ?_
                    refine ga_cs (As := [.int (nI tN), .int (nI pN), .int (nI sN)]) (rest := [.ref q1]) S hK hP s_SP_96 (gc_SP_slot l D cI cZ cC cG tN pN sN (by omega)) [] rfl rfl hl.1 rfl (Nat.le_of_ble_eq_true rfl) ⟨Nat.le_of_ble_eq_true rfl, Nat.le_of_ble_eq_true rfl⟩ ⟨Nat.le_of_ble_eq_true rfl, Nat.le_of_ble_eq_true rfl⟩ d_SP_bin_67 (fun r hp67 => ?_)
                    subst hp67
                    have hsl := gp_sl_lt (t := tN) (p := pN) (s := sN) (by omega) (by omega) (by omega) (by omega)
                    refine ga_ild S hK hP 2 0 rfl rfl (gp_sl tN pN sN) (by omega) (by decide) d_SP_bin_70 ?_
                    have hb1 := hbn (gp_sl tN pN sN)
                    exact ga_ri S hrt hlk (Or.inr (Or.inr (Or.inr ⟨hp1, ⟨hp13, hp22⟩, hp32, by rw [nI_clamp (by omega), nI_clamp (by omega), nI_clamp (by omega), c50]; rfl⟩))) d_SP_bin_71
                  · have c50 : he tN = true := bI_1 c50
                    refine lv_iconst (v := 0) hx hb d_SP_bin_53 (by decide) ?_
                    refine lv_goto (tgt := 71) hx hb d_SP_bin_54 (by decide) ?_
                    exact ga_ri S hrt hlk (Or.inr (Or.inr (Or.inr ⟨hp1, ⟨hp13, hp22⟩, hp32, by rw [nI_clamp (by omega), nI_clamp (by omega), nI_clamp (by omega), c50]; rfl⟩))) d_SP_bin_71
                · exact absurd c35 (by decide)
              · refine lv_if_ne (tgt := 41) hx hb d_SP_bin_35 (by decide) (fun c35 => ?_) (fun c35 => ?_)
                · exact absurd c35 (by decide)
                · refine lv_bipush (v := (-103)) hx hb d_SP_bin_38 (by decide) ?_
                  exact ga_ri S hrt hlk (Or.inr (Or.inr (Or.inl ⟨hp1, ⟨hp13, hp22⟩, hp32, rfl⟩))) d_SP_bin_40
            · exact absurd c25 (by decide)
          · refine lv_if_ne (tgt := 31) hx hb d_SP_bin_25 (by decide) (fun c25 => ?_) (fun c25 => ?_)
            · exact absurd c25 (by decide)
            · refine lv_bipush (v := (-102)) hx hb d_SP_bin_28 (by decide) ?_
              exact ga_ri S hrt hlk (Or.inr (Or.inl ⟨hp1, (fun q => by first | exact hp13 q.1 | exact hp22 q.2), rfl⟩)) d_SP_bin_30
      · refine lv_if_eq (tgt := 28) hx hb d_SP_bin_16 (by decide) (fun c16 => ?_) (fun c16 => ?_)
        · refine lv_bipush (v := (-102)) hx hb d_SP_bin_28 (by decide) ?_
          exact ga_ri S hrt hlk (Or.inr (Or.inl ⟨hp1, (fun q => by first | exact hp13 q.1 | exact hp22 q.2), rfl⟩)) d_SP_bin_30
        · exact absurd c16 (by decide)
    · exact absurd c4 (by decide)
  · refine lv_if_ne (tgt := 10) hx hb d_SP_bin_4 (by decide) (fun c4 => ?_) (fun c4 => ?_)
    · exact absurd c4 (by decide)
    · refine lv_bipush (v := (-101)) hx hb d_SP_bin_7 (by decide) ?_
      exact ga_ri S hrt hlk (Or.inl ⟨hp1, rfl⟩) d_SP_bin_9
set_option maxHeartbeats 4000000 in
set_option maxRecDepth 100000 in
theorem gc_SP_check (l : Launch) (D : va_G) (cI cZ cC cG : ClassId) (spo re fa shh eo ec pl : Nat) (hec : ec ≤ 8) (q1 q2 q3 q4 q5 q6 q7 q8 q9 rg : Nat) (fo k : Nat) (told bn : Nat → Nat) (shr us : Nat → Bool) (pq : Nat → Nat) (hpq : ∀ sh, sh < 3 → gp_isP bn sh (pq sh)) (hbn : ∀ j, bn j ≤ 60) : ga_Mi l y_SP_check b_SP_check 1 (some .int) 6 0 0 D (ga_T cI cZ cC cG) [.ref spo] [(spo, .inr (5, [.ref re, .ref fa, .ref shh, .ref eo, .int (nI ec), .ref pl])), (fa, .inr (0, [.ref fo, .int (nI k)])), (fo, .inl (cI, 500, .inl (nA told))), (pl, .inr (1, [.ref q1, .ref q2, .ref q3, .ref q4, .ref q5, .ref q6, .ref q7, .ref q8, .ref q9, .int (nI rg)])), (q1, .inl (cI, 480, .inl (nA bn))), (q2, .inl (cZ, 480, .inl (zA shr))), (q3, .inl (cZ, 41, .inl (zA us)))] (fun (x : gp_F) => [(spo, .inr (5, [.ref re, .ref fa, .ref shh, .ref eo, .int (nI ec), .ref pl])), (fa, .inr (0, [.ref fo, .int (nI x.2)])), (fo, .inl (cI, 500, .inl (nA x.1))), (pl, .inr (1, [.ref q1, .ref q2, .ref q3, .ref q4, .ref q5, .ref q6, .ref q7, .ref q8, .ref q9, .int (nI rg)])), (q1, .inl (cI, 480, .inl (nA bn))), (q2, .inl (cZ, 480, .inl (zA shr))), (q3, .inl (cZ, 41, .inl (zA us)))]) (fun r x => (ec = 0 ∧ r = -103 ∧ x = (told, k)) ∨ (ec ≠ 0 ∧ x = gp_ck us bn shr pq (told, 0) 12 ∧ r = nI x.2)) := by
  refine ga_enI (by decide) (Nat.le_of_ble_eq_true rfl) ?_
  intro p e s m below meth c ls A S hrt hlk hK hP hD hA hl
  have hS : va_S A s.heap s.heap [] := va_S.rf
  obtain ⟨hx, hb, hml, hown, hts⟩ := id S
  have hl : lv_has ls 1 [(0, .ref spo)] := hl
  refine lv_aload_n hx hb d_SP_check_0 rfl (lv_at hl 0 rfl) ?_
  refine ga_cr (As := []) (rest := []) (q0 := 0) S hK hP s_SP_77 (gc_SP_hasPlan l D cI cZ cC cG spo re fa shh eo ec pl (by omega)) [0] rfl rfl rfl rfl hl.1 rfl (Nat.le_of_ble_eq_true rfl) ⟨Nat.le_of_ble_eq_true rfl, Nat.le_of_ble_eq_true rfl⟩ ⟨Nat.le_of_ble_eq_true rfl, Nat.le_of_ble_eq_true rfl⟩ d_SP_check_1 (fun r hp1 => ?_)
  rcases hp1 with ⟨rfl, hp1⟩ | ⟨rfl, hp1⟩
  · refine lv_if_ne (tgt := 10) hx hb d_SP_check_4 (by decide) (fun c4 => ?_) (fun c4 => ?_)
    · refine lv_aload_n hx hb d_SP_check_10 rfl (lv_at hl 0 rfl) ?_
      refine ga_get S hK hP 0 rfl f_SP_19 rfl d_SP_check_11 ?_
      refine lv_aload_n hx hb d_SP_check_14 rfl (lv_at hl 0 rfl) ?_
      refine ga_get S hK hP 0 rfl f_SP_38 rfl d_SP_check_15 ?_
      refine ga_jv (wr := [(spo, .inr (5, [.ref re, .ref fa, .ref shh, .ref eo, .int (nI ec), .ref pl]))]) (ga_runV (As := [.ref pl]) (rest := []) S hK s_SP_100 (gc_Fa_findIn l D cI cZ cC cG fa fo k told pl q1 q2 q3 q4 q5 q6 q7 q8 q9 rg bn shr us pq hpq hbn _) (ga_prV (y := y_Fa_findIn) (q0 := 1) hK hP hD [1, 2, 3, 4, 5, 6] rfl (by decide) rfl rfl) rfl hl.1 rfl (Nat.le_of_ble_eq_true rfl) ⟨Nat.le_of_ble_eq_true rfl, Nat.le_of_ble_eq_true rfl⟩ ⟨Nat.le_of_ble_eq_true rfl, Nat.le_of_ble_eq_true rfl⟩ d_SP_check_18) hP hD hS hA [1, 2, 3, 4, 5, 6] [0] rfl rfl (by decide) (by decide) [0, 1, 2, 3, 4, 5, 6] (fun (x : gp_F) => [(spo, .inr (5, [.ref re, .ref fa, .ref shh, .ref eo, .int (nI ec), .ref pl])), (fa, .inr (0, [.ref fo, .int (nI x.2)])), (fo, .inl (cI, 500, .inl (nA x.1))), (pl, .inr (1, [.ref q1, .ref q2, .ref q3, .ref q4, .ref q5, .ref q6, .ref q7, .ref q8, .ref q9, .int (nI rg)])), (q1, .inl (cI, 480, .inl (nA bn))), (q2, .inl (cZ, 480, .inl (zA shr))), (q3, .inl (cZ, 41, .inl (zA us)))]) (fun _ => rfl) (by decide) (fun x H locs hp18 hP hD hS => ?_)
      obtain ⟨td9, kk9⟩ := x
      have hP : va_P D vwCl [(spo, .inr (5, [.ref re, .ref fa, .ref shh, .ref eo, .int (nI ec), .ref pl])), (fa, .inr (0, [.ref fo, .int (nI kk9)])), (fo, .inl (cI, 500, .inl (nA td9))), (pl, .inr (1, [.ref q1, .ref q2, .ref q3, .ref q4, .ref q5, .ref q6, .ref q7, .ref q8, .ref q9, .int (nI rg)])), (q1, .inl (cI, 480, .inl (nA bn))), (q2, .inl (cZ, 480, .inl (zA shr))), (q3, .inl (cZ, 41, .inl (zA us)))] H := hP
      have hD : va_D A [(spo, .inr (5, [.ref re, .ref fa, .ref shh, .ref eo, .int (nI ec), .ref pl])), (fa, .inr (0, [.ref fo, .int (nI kk9)])), (fo, .inl (cI, 500, .inl (nA td9))), (pl, .inr (1, [.ref q1, .ref q2, .ref q3, .ref q4, .ref q5, .ref q6, .ref q7, .ref q8, .ref q9, .int (nI rg)])), (q1, .inl (cI, 480, .inl (nA bn))), (q2, .inl (cZ, 480, .inl (zA shr))), (q3, .inl (cZ, 41, .inl (zA us)))] := hD
      refine lv_aload_n hx hb d_SP_check_21 rfl (lv_at hl 0 rfl) ?_
      refine ga_get S hK hP 0 rfl f_SP_19 rfl d_SP_check_22 ?_
      refine ga_get S hK hP 1 rfl f_SP_104 rfl d_SP_check_25 ?_
      exact ga_wi (td9, kk9) S hrt hlk hP hD hS (Or.inr ⟨hp1, hp18, rfl⟩) d_SP_check_28
    · exact absurd c4 (by decide)
  · refine lv_if_ne (tgt := 10) hx hb d_SP_check_4 (by decide) (fun c4 => ?_) (fun c4 => ?_)
    · exact absurd c4 (by decide)
    · refine lv_bipush (v := (-103)) hx hb d_SP_check_7 (by decide) ?_
      exact ga_wi (told, k) S hrt hlk hP hD hS (Or.inl ⟨hp1, rfl, rfl⟩) d_SP_check_9
set_option maxHeartbeats 4000000 in
set_option maxRecDepth 100000 in
theorem gc_SP_fault (l : Launch) (D : va_G) (cI cZ cC cG : ClassId) (spo re fa shh eo ec pl : Nat) (hec : ec ≤ 8) (fo k : Nat) (told : Nat → Nat) (i w : Int32) (hk : k < 2 ^ 30) : ga_Mr l y_SP_fault b_SP_fault 3 (some .int) 6 D (ga_T cI cZ cC cG) [.ref spo, .int i, .int w] [(spo, .inr (5, [.ref re, .ref fa, .ref shh, .ref eo, .int (nI ec), .ref pl])), (fa, .inr (0, [.ref fo, .int (nI k)])), (fo, .inl (cI, 500, .inl (nA told)))] (fun r => r = gp_tell told k i w) := by
  refine ga_enR (by decide) (Nat.le_of_ble_eq_true rfl) ?_
  intro p e s m below meth c ls S hrt hlk hK hP hl
  obtain ⟨hx, hb, hml, hown, hts⟩ := id S
  have hl : lv_has ls 3 [(0, .ref spo), (1, .int i), (2, .int w)] := hl
  refine lv_aload_n hx hb d_SP_fault_0 rfl (lv_at hl 0 rfl) ?_
  refine ga_get S hK hP 0 rfl f_SP_19 rfl d_SP_fault_1 ?_
  refine lv_iload_n hx hb d_SP_fault_4 rfl (lv_at hl 1 rfl) ?_
  refine lv_iload_n hx hb d_SP_fault_5 rfl (lv_at hl 2 rfl) ?_
  refine ga_cr (As := [.int i, .int w]) (rest := []) (q0 := 1) S hK hP s_SP_107 (gc_Fa_tell l D cI cZ cC cG fa fo k told i w (by omega)) [1, 2] rfl rfl rfl rfl hl.1 rfl (Nat.le_of_ble_eq_true rfl) ⟨Nat.le_of_ble_eq_true rfl, Nat.le_of_ble_eq_true rfl⟩ ⟨Nat.le_of_ble_eq_true rfl, Nat.le_of_ble_eq_true rfl⟩ d_SP_fault_6 (fun r hp6 => ?_)
  exact ga_ri S hrt hlk hp6 d_SP_fault_9
set_option maxHeartbeats 4000000 in
set_option maxRecDepth 100000 in
theorem gc_SP_hold (l : Launch) (D : va_G) (cI cZ cC cG : ClassId) (spo re fa shh eo ec pl : Nat) (hec : ec ≤ 8) (q1 q2 q3 q4 q5 q6 q7 q8 q9 rg : Nat) (he : Nat → Bool) (t : Int32) (on : Bool) : ga_Mi l y_SP_hold b_SP_hold 3 (some .int) 6 0 0 D (ga_T cI cZ cC cG) [.ref spo, .int t, .int (bI on)] [(spo, .inr (5, [.ref re, .ref fa, .ref shh, .ref eo, .int (nI ec), .ref pl])), (pl, .inr (1, [.ref q1, .ref q2, .ref q3, .ref q4, .ref q5, .ref q6, .ref q7, .ref q8, .ref q9, .int (nI rg)])), (q4, .inl (cZ, 41, .inl (zA he)))] (fun (x : Nat → Bool) => [(spo, .inr (5, [.ref re, .ref fa, .ref shh, .ref eo, .int (nI ec), .ref pl])), (pl, .inr (1, [.ref q1, .ref q2, .ref q3, .ref q4, .ref q5, .ref q6, .ref q7, .ref q8, .ref q9, .int (nI rg)])), (q4, .inl (cZ, 41, .inl (zA x)))]) (fun r x => (¬ (1 ≤ t ∧ t ≤ 40) ∧ r = -101 ∧ x = he) ∨ ((1 ≤ t ∧ t ≤ 40) ∧ ec = 0 ∧ r = -103 ∧ x = he) ∨ ((1 ≤ t ∧ t ≤ 40) ∧ ec ≠ 0 ∧ he t.toNatClampNeg = on ∧ r = 0 ∧ x = he) ∨ ((1 ≤ t ∧ t ≤ 40) ∧ ec ≠ 0 ∧ he t.toNatClampNeg ≠ on ∧ r = 1 ∧ x = va_up he t.toNatClampNeg on)) := by
  refine ga_enI (by decide) (Nat.le_of_ble_eq_true rfl) ?_
  intro p e s m below meth c ls A S hrt hlk hK hP hD hA hl
  have hS : va_S A s.heap s.heap [] := va_S.rf
  obtain ⟨hx, hb, hml, hown, hts⟩ := id S
  have hl : lv_has ls 3 [(0, .ref spo), (1, .int t), (2, .int (bI on))] := hl
  refine lv_iload_n hx hb d_SP_hold_0 rfl (lv_at hl 1 rfl) ?_
  refine ga_cs (As := [.int t]) (rest := []) S hK hP s_SP_84 (gc_SP_isTarget l D cI cZ cC cG t) [] rfl rfl hl.1 rfl (Nat.le_of_ble_eq_true rfl) ⟨Nat.le_of_ble_eq_true rfl, Nat.le_of_ble_eq_true rfl⟩ ⟨Nat.le_of_ble_eq_true rfl, Nat.le_of_ble_eq_true rfl⟩ d_SP_hold_1 (fun r hp1 => ?_)
  rcases hp1 with ⟨rfl, hp1⟩ | ⟨rfl, hp1⟩
  · obtain ⟨tN, htN, rfl⟩ := nI_of2 (M := 40) (n := 40) rfl (fun q => absurd (Int32.lt_of_le_of_lt hp1.1 q) (by decide)) hp1.2
    have ht1 : 1 ≤ tN := (nI_leI (a := 1) (b := tN) (by omega) (by omega)).mp hp1.1
    refine lv_if_ne (tgt := 10) hx hb d_SP_hold_4 (by decide) (fun c4 => ?_) (fun c4 => ?_)
    · refine lv_aload_n hx hb d_SP_hold_10 rfl (lv_at hl 0 rfl) ?_
      refine ga_cr (As := []) (rest := []) (q0 := 0) S hK hP s_SP_77 (gc_SP_hasPlan l D cI cZ cC cG spo re fa shh eo ec pl (by omega)) [0] rfl rfl rfl rfl hl.1 rfl (Nat.le_of_ble_eq_true rfl) ⟨Nat.le_of_ble_eq_true rfl, Nat.le_of_ble_eq_true rfl⟩ ⟨Nat.le_of_ble_eq_true rfl, Nat.le_of_ble_eq_true rfl⟩ d_SP_hold_11 (fun r hp11 => ?_)
      rcases hp11 with ⟨rfl, hp11⟩ | ⟨rfl, hp11⟩
      · refine lv_if_ne (tgt := 20) hx hb d_SP_hold_14 (by decide) (fun c14 => ?_) (fun c14 => ?_)
        · refine lv_aload_n hx hb d_SP_hold_20 rfl (lv_at hl 0 rfl) ?_
          refine ga_get S hK hP 0 rfl f_SP_38 rfl d_SP_hold_21 ?_
          refine ga_get S hK hP 1 rfl f_SP_88 rfl d_SP_hold_24 ?_
          refine lv_iload_n hx hb d_SP_hold_27 rfl (lv_at hl 1 rfl) ?_
          refine ga_zld S hK hP 2 1 rfl rfl tN (by omega) (by decide) d_SP_hold_28 ?_
          refine lv_iload_n hx hb d_SP_hold_29 rfl (lv_at hl 2 rfl) ?_
          refine lv_icmp_ne (tgt := 35) hx hb d_SP_hold_30 (by decide) (fun c30 => ?_) (fun c30 => ?_)
          · have c30 : he tN ≠ on := fun q => c30 (by rw [q])
            refine lv_aload_n hx hb d_SP_hold_35 rfl (lv_at hl 0 rfl) ?_
            refine ga_get S hK hP 0 rfl f_SP_38 rfl d_SP_hold_36 ?_
            refine ga_get S hK hP 1 rfl f_SP_88 rfl d_SP_hold_39 ?_
            refine lv_iload_n hx hb d_SP_hold_42 rfl (lv_at hl 1 rfl) ?_
            refine lv_iload_n hx hb d_SP_hold_43 rfl (lv_at hl 2 rfl) ?_
            refine ga_zst (ws' := [(spo, .inr (5, [.ref re, .ref fa, .ref shh, .ref eo, .int (nI ec), .ref pl])), (pl, .inr (1, [.ref q1, .ref q2, .ref q3, .ref q4, .ref q5, .ref q6, .ref q7, .ref q8, .ref q9, .int (nI rg)])), (q4, .inl (cZ, 41, .inl (zA (va_up he tN on))))]) S hK hP hD hS 2 1 rfl rfl tN on (by omega) (by decide) rfl d_SP_hold_44 (fun H locs hP hD hS => ?_)
            refine lv_iconst (v := 1) hx hb d_SP_hold_45 (by decide) ?_
            exact ga_wi (va_up he tN on) S hrt hlk hP hD hS (Or.inr (Or.inr (Or.inr ⟨hp1, hp11, by rw [nI_clamp (by omega)]; exact c30, rfl, by rw [nI_clamp (by omega)]⟩))) d_SP_hold_46
          · have c30 : he tN = on := bI_inj c30
            refine lv_iconst (v := 0) hx hb d_SP_hold_33 (by decide) ?_
            exact ga_wi he S hrt hlk hP hD hS (Or.inr (Or.inr (Or.inl ⟨hp1, hp11, by rw [nI_clamp (by omega)]; exact c30, rfl, rfl⟩))) d_SP_hold_34
        · exact absurd c14 (by decide)
      · refine lv_if_ne (tgt := 20) hx hb d_SP_hold_14 (by decide) (fun c14 => ?_) (fun c14 => ?_)
        · exact absurd c14 (by decide)
        · refine lv_bipush (v := (-103)) hx hb d_SP_hold_17 (by decide) ?_
          exact ga_wi he S hrt hlk hP hD hS (Or.inr (Or.inl ⟨hp1, hp11, rfl, rfl⟩)) d_SP_hold_19
    · exact absurd c4 (by decide)
  · refine lv_if_ne (tgt := 10) hx hb d_SP_hold_4 (by decide) (fun c4 => ?_) (fun c4 => ?_)
    · exact absurd c4 (by decide)
    · refine lv_bipush (v := (-101)) hx hb d_SP_hold_7 (by decide) ?_
      exact ga_wi he S hrt hlk hP hD hS (Or.inl ⟨hp1, rfl, rfl⟩) d_SP_hold_9
set_option maxHeartbeats 4000000 in
set_option maxRecDepth 100000 in
theorem gc_SP_swap (l : Launch) (D : va_G) (cI cZ cC cG : ClassId) (spo re fa shh eo ec pl : Nat) (hec : ec ≤ 8) (q1 q2 q3 q4 q5 q6 q7 q8 q9 rg : Nat) (bn : Nat → Nat) (a b : Int32) (hbn : ∀ j, bn j ≤ 60) : ga_Mi l y_SP_swap b_SP_swap 3 (some .int) 6 0 0 D (ga_T cI cZ cC cG) [.ref spo, .int a, .int b] [(spo, .inr (5, [.ref re, .ref fa, .ref shh, .ref eo, .int (nI ec), .ref pl])), (pl, .inr (1, [.ref q1, .ref q2, .ref q3, .ref q4, .ref q5, .ref q6, .ref q7, .ref q8, .ref q9, .int (nI rg)])), (q1, .inl (cI, 480, .inl (nA bn)))] (fun (x : Nat → Nat) => [(spo, .inr (5, [.ref re, .ref fa, .ref shh, .ref eo, .int (nI ec), .ref pl])), (pl, .inr (1, [.ref q1, .ref q2, .ref q3, .ref q4, .ref q5, .ref q6, .ref q7, .ref q8, .ref q9, .int (nI rg)])), (q1, .inl (cI, 480, .inl (nA x)))]) (fun r x => (¬ ((1 ≤ a ∧ a ≤ 60) ∧ (1 ≤ b ∧ b ≤ 60)) ∧ r = -101 ∧ x = bn) ∨ (((1 ≤ a ∧ a ≤ 60) ∧ (1 ≤ b ∧ b ≤ 60)) ∧ ec = 0 ∧ r = -103 ∧ x = bn) ∨ (((1 ≤ a ∧ a ≤ 60) ∧ (1 ≤ b ∧ b ≤ 60)) ∧ ec ≠ 0 ∧ r = nI (gp_cn (fun j => decide (bn j = a.toNatClampNeg ∨ bn j = b.toNatClampNeg)) 480) ∧ x = gp_ex bn a.toNatClampNeg b.toNatClampNeg 480)) := by
  refine ga_enI (by decide) (Nat.le_of_ble_eq_true rfl) ?_
  intro p e s m below meth c ls A S hrt hlk hK hP hD hA hl
  have hS : va_S A s.heap s.heap [] := va_S.rf
  obtain ⟨hx, hb, hml, hown, hts⟩ := id S
  have hl : lv_has ls 3 [(0, .ref spo), (1, .int a), (2, .int b)] := hl
  refine lv_iload_n hx hb d_SP_swap_0 rfl (lv_at hl 1 rfl) ?_
  refine ga_cs (As := [.int a]) (rest := []) S hK hP s_SP_114 (gc_SP_isBin l D cI cZ cC cG a) [] rfl rfl hl.1 rfl (Nat.le_of_ble_eq_true rfl) ⟨Nat.le_of_ble_eq_true rfl, Nat.le_of_ble_eq_true rfl⟩ ⟨Nat.le_of_ble_eq_true rfl, Nat.le_of_ble_eq_true rfl⟩ d_SP_swap_1 (fun r hp1 => ?_)
  rcases hp1 with ⟨rfl, hp1⟩ | ⟨rfl, hp1⟩
  · obtain ⟨aN, haN, rfl⟩ := nI_of2 (M := 60) (n := 60) rfl (fun q => absurd (Int32.lt_of_le_of_lt hp1.1 q) (by decide)) hp1.2
    refine lv_if_eq (tgt := 14) hx hb d_SP_swap_4 (by decide) (fun c4 => ?_) (fun c4 => ?_)
    · exact absurd c4 (by decide)
    · refine lv_iload_n hx hb d_SP_swap_7 rfl (lv_at hl 2 rfl) ?_
      refine ga_cs (As := [.int b]) (rest := []) S hK hP s_SP_114 (gc_SP_isBin l D cI cZ cC cG b) [] rfl rfl hl.1 rfl (Nat.le_of_ble_eq_true rfl) ⟨Nat.le_of_ble_eq_true rfl, Nat.le_of_ble_eq_true rfl⟩ ⟨Nat.le_of_ble_eq_true rfl, Nat.le_of_ble_eq_true rfl⟩ d_SP_swap_8 (fun r hp8 => ?_)
      rcases hp8 with ⟨rfl, hp8⟩ | ⟨rfl, hp8⟩
      · obtain ⟨bN, hbN, rfl⟩ := nI_of2 (M := 60) (n := 60) rfl (fun q => absurd (Int32.lt_of_le_of_lt hp8.1 q) (by decide)) hp8.2
        refine lv_if_ne (tgt := 17) hx hb d_SP_swap_11 (by decide) (fun c11 => ?_) (fun c11 => ?_)
        · refine lv_aload_n hx hb d_SP_swap_17 rfl (lv_at hl 0 rfl) ?_
          refine ga_cr (As := []) (rest := []) (q0 := 0) S hK hP s_SP_77 (gc_SP_hasPlan l D cI cZ cC cG spo re fa shh eo ec pl (by omega)) [0] rfl rfl rfl rfl hl.1 rfl (Nat.le_of_ble_eq_true rfl) ⟨Nat.le_of_ble_eq_true rfl, Nat.le_of_ble_eq_true rfl⟩ ⟨Nat.le_of_ble_eq_true rfl, Nat.le_of_ble_eq_true rfl⟩ d_SP_swap_18 (fun r hp18 => ?_)
          rcases hp18 with ⟨rfl, hp18⟩ | ⟨rfl, hp18⟩
          · refine lv_if_eq (tgt := 36) hx hb d_SP_swap_21 (by decide) (fun c21 => ?_) (fun c21 => ?_)
            · exact absurd c21 (by decide)
            · refine lv_aload_n hx hb d_SP_swap_24 rfl (lv_at hl 0 rfl) ?_
              refine ga_get S hK hP 0 rfl f_SP_38 rfl d_SP_swap_25 ?_
              refine lv_iload_n hx hb d_SP_swap_28 rfl (lv_at hl 1 rfl) ?_
              refine lv_iload_n hx hb d_SP_swap_29 rfl (lv_at hl 2 rfl) ?_
              refine ga_ji (wr := [(spo, .inr (5, [.ref re, .ref fa, .ref shh, .ref eo, .int (nI ec), .ref pl]))]) (ga_runV (As := [.int (nI aN), .int (nI bN)]) (rest := []) S hK s_SP_117 (gc_Pl_exchange l D cI cZ cC cG pl q1 q2 q3 q4 q5 q6 q7 q8 q9 rg aN bN bn (by omega) (by omega) hbn _) (ga_prV (y := y_Pl_exchange) (q0 := 1) hK hP hD [1, 2] rfl (by decide) rfl rfl) rfl hl.1 rfl (Nat.le_of_ble_eq_true rfl) ⟨Nat.le_of_ble_eq_true rfl, Nat.le_of_ble_eq_true rfl⟩ ⟨Nat.le_of_ble_eq_true rfl, Nat.le_of_ble_eq_true rfl⟩ d_SP_swap_30) hP hD hS hA [1, 2] [0] rfl rfl (by decide) (by decide) [0, 1, 2] (fun _ => [(spo, .inr (5, [.ref re, .ref fa, .ref shh, .ref eo, .int (nI ec), .ref pl])), (pl, .inr (1, [.ref q1, .ref q2, .ref q3, .ref q4, .ref q5, .ref q6, .ref q7, .ref q8, .ref q9, .int (nI rg)])), (q1, .inl (cI, 480, .inl (nA (gp_ex bn aN bN 480))))]) (fun _ => rfl) (by decide) (fun r x H locs hp30 hP hD hS => ?_)
              obtain rfl := hp30
              refine lv_goto (tgt := 38) hx hb d_SP_swap_33 (by decide) ?_
              exact ga_wi (gp_ex bn aN bN 480) S hrt hlk hP hD hS (Or.inr (Or.inr ⟨⟨hp1, hp8⟩, hp18, by rw [nI_clamp (by omega), nI_clamp (by omega)], by rw [nI_clamp (by omega), nI_clamp (by omega)]⟩)) d_SP_swap_38
          · refine lv_if_eq (tgt := 36) hx hb d_SP_swap_21 (by decide) (fun c21 => ?_) (fun c21 => ?_)
            · refine lv_bipush (v := (-103)) hx hb d_SP_swap_36 (by decide) ?_
              exact ga_wi bn S hrt hlk hP hD hS (Or.inr (Or.inl ⟨⟨hp1, hp8⟩, hp18, rfl, rfl⟩)) d_SP_swap_38
            · exact absurd c21 (by decide)
        · exact absurd c11 (by decide)
      · refine lv_if_ne (tgt := 17) hx hb d_SP_swap_11 (by decide) (fun c11 => ?_) (fun c11 => ?_)
        · exact absurd c11 (by decide)
        · refine lv_bipush (v := (-101)) hx hb d_SP_swap_14 (by decide) ?_
          exact ga_wi bn S hrt hlk hP hD hS (Or.inl ⟨(fun q => by first | exact hp1 q.1 | exact hp8 q.2), rfl, rfl⟩) d_SP_swap_16
  · refine lv_if_eq (tgt := 14) hx hb d_SP_swap_4 (by decide) (fun c4 => ?_) (fun c4 => ?_)
    · refine lv_bipush (v := (-101)) hx hb d_SP_swap_14 (by decide) ?_
      exact ga_wi bn S hrt hlk hP hD hS (Or.inl ⟨(fun q => by first | exact hp1 q.1 | exact hp8 q.2), rfl, rfl⟩) d_SP_swap_16
    · exact absurd c4 (by decide)
set_option maxHeartbeats 4000000 in
set_option maxRecDepth 100000 in
theorem gc_SP_overflow (l : Launch) (D : va_G) (cI cZ cC cG : ClassId) (spo re fa shh eo ec pl : Nat) (hec : ec ≤ 8) (q1 q2 q3 q4 q5 q6 q7 q8 q9 rg : Nat) (ne : Nat → Nat) (b : Int32) (hne : ∀ j, ne j ≤ 60) : ga_Mr l y_SP_overflow b_SP_overflow 2 (some .int) 6 D (ga_T cI cZ cC cG) [.ref spo, .int b] [(spo, .inr (5, [.ref re, .ref fa, .ref shh, .ref eo, .int (nI ec), .ref pl])), (pl, .inr (1, [.ref q1, .ref q2, .ref q3, .ref q4, .ref q5, .ref q6, .ref q7, .ref q8, .ref q9, .int (nI rg)])), (q5, .inl (cI, 61, .inl (nA ne)))] (fun r => (¬ (1 ≤ b ∧ b ≤ 60) ∧ r = -101) ∨ ((1 ≤ b ∧ b ≤ 60) ∧ ec = 0 ∧ r = -103) ∨ ((1 ≤ b ∧ b ≤ 60) ∧ ec ≠ 0 ∧ ((∃ j, j < 60 ∧ (∀ i, i < j → ne (gp_it ne b.toNatClampNeg i) ≠ 0) ∧ ne (gp_it ne b.toNatClampNeg j) = 0 ∧ r = nI (gp_it ne b.toNatClampNeg j)) ∨ ((∀ i, i < 60 → ne (gp_it ne b.toNatClampNeg i) ≠ 0) ∧ r = -1)))) := by
  refine ga_enR (by decide) (Nat.le_of_ble_eq_true rfl) ?_
  intro p e s m below meth c ls S hrt hlk hK hP hl
  obtain ⟨hx, hb, hml, hown, hts⟩ := id S
  have hl : lv_has ls 2 [(0, .ref spo), (1, .int b)] := hl
  refine lv_iload_n hx hb d_SP_overflow_0 rfl (lv_at hl 1 rfl) ?_
  refine ga_cs (As := [.int b]) (rest := []) S hK hP s_SP_114 (gc_SP_isBin l D cI cZ cC cG b) [] rfl rfl hl.1 rfl (Nat.le_of_ble_eq_true rfl) ⟨Nat.le_of_ble_eq_true rfl, Nat.le_of_ble_eq_true rfl⟩ ⟨Nat.le_of_ble_eq_true rfl, Nat.le_of_ble_eq_true rfl⟩ d_SP_overflow_1 (fun r hp1 => ?_)
  rcases hp1 with ⟨rfl, hp1⟩ | ⟨rfl, hp1⟩
  · obtain ⟨bN, hbN, rfl⟩ := nI_of2 (M := 60) (n := 60) rfl (fun q => absurd (Int32.lt_of_le_of_lt hp1.1 q) (by decide)) hp1.2
    refine lv_if_ne (tgt := 10) hx hb d_SP_overflow_4 (by decide) (fun c4 => ?_) (fun c4 => ?_)
    · refine lv_aload_n hx hb d_SP_overflow_10 rfl (lv_at hl 0 rfl) ?_
      refine ga_cr (As := []) (rest := []) (q0 := 0) S hK hP s_SP_77 (gc_SP_hasPlan l D cI cZ cC cG spo re fa shh eo ec pl (by omega)) [0] rfl rfl rfl rfl hl.1 rfl (Nat.le_of_ble_eq_true rfl) ⟨Nat.le_of_ble_eq_true rfl, Nat.le_of_ble_eq_true rfl⟩ ⟨Nat.le_of_ble_eq_true rfl, Nat.le_of_ble_eq_true rfl⟩ d_SP_overflow_11 (fun r hp11 => ?_)
      rcases hp11 with ⟨rfl, hp11⟩ | ⟨rfl, hp11⟩
      · refine lv_if_eq (tgt := 28) hx hb d_SP_overflow_14 (by decide) (fun c14 => ?_) (fun c14 => ?_)
        · exact absurd c14 (by decide)
        · refine lv_aload_n hx hb d_SP_overflow_17 rfl (lv_at hl 0 rfl) ?_
          refine ga_get S hK hP 0 rfl f_SP_38 rfl d_SP_overflow_18 ?_
          refine lv_iload_n hx hb d_SP_overflow_21 rfl (lv_at hl 1 rfl) ?_
          refine ga_cr (As := [.int (nI bN)]) (rest := []) (q0 := 1) S hK hP s_SP_120 (gc_Pl_endOfGoingOn l D cI cZ cC cG pl q1 q2 q3 q4 q5 q6 q7 q8 q9 rg bN ne (by omega) hne) [1, 2] rfl rfl rfl rfl hl.1 rfl (Nat.le_of_ble_eq_true rfl) ⟨Nat.le_of_ble_eq_true rfl, Nat.le_of_ble_eq_true rfl⟩ ⟨Nat.le_of_ble_eq_true rfl, Nat.le_of_ble_eq_true rfl⟩ d_SP_overflow_22 (fun r hp22 => ?_)
          refine lv_goto (tgt := 30) hx hb d_SP_overflow_25 (by decide) ?_
          exact ga_ri S hrt hlk (Or.inr (Or.inr ⟨hp1, hp11, by rw [nI_clamp (by omega)]; exact hp22⟩)) d_SP_overflow_30
      · refine lv_if_eq (tgt := 28) hx hb d_SP_overflow_14 (by decide) (fun c14 => ?_) (fun c14 => ?_)
        · refine lv_bipush (v := (-103)) hx hb d_SP_overflow_28 (by decide) ?_
          exact ga_ri S hrt hlk (Or.inr (Or.inl ⟨hp1, hp11, rfl⟩)) d_SP_overflow_30
        · exact absurd c14 (by decide)
    · exact absurd c4 (by decide)
  · refine lv_if_ne (tgt := 10) hx hb d_SP_overflow_4 (by decide) (fun c4 => ?_) (fun c4 => ?_)
    · exact absurd c4 (by decide)
    · refine lv_bipush (v := (-101)) hx hb d_SP_overflow_7 (by decide) ?_
      exact ga_ri S hrt hlk (Or.inl ⟨hp1, rfl⟩) d_SP_overflow_9
set_option maxHeartbeats 4000000 in
set_option maxRecDepth 100000 in
theorem gc_SP_print (l : Launch) (D : va_G) (cI cZ cC cG : ClassId) (spo re fa shh eo ec pl : Nat) (hec : ec ≤ 8) (q1 q2 q3 q4 q5 q6 q7 q8 q9 rg : Nat) (sha n : Nat) (sg bn : Nat → Nat) (i : Int32) (hbn : ∀ j, bn j ≤ 60) : ga_Mi l y_SP_print b_SP_print 2 (some .int) 6 0 0 D (ga_T cI cZ cC cG) [.ref spo, .int i] [(spo, .inr (5, [.ref re, .ref fa, .ref shh, .ref eo, .int (nI ec), .ref pl])), (shh, .inr (3, [.ref sha, .int (nI n)])), (sha, .inl (cC, 240, .inl (nA sg))), (pl, .inr (1, [.ref q1, .ref q2, .ref q3, .ref q4, .ref q5, .ref q6, .ref q7, .ref q8, .ref q9, .int (nI rg)])), (q1, .inl (cI, 480, .inl (nA bn)))] (fun (x : (Nat → Nat) × Nat) => [(spo, .inr (5, [.ref re, .ref fa, .ref shh, .ref eo, .int (nI ec), .ref pl])), (shh, .inr (3, [.ref sha, .int (nI x.2)])), (sha, .inl (cC, 240, .inl (nA x.1))), (pl, .inr (1, [.ref q1, .ref q2, .ref q3, .ref q4, .ref q5, .ref q6, .ref q7, .ref q8, .ref q9, .int (nI rg)])), (q1, .inl (cI, 480, .inl (nA bn)))]) (fun r x => (ec = 0 ∧ r = 0) ∨ (ec ≠ 0 ∧ gp_hs x.1 x.2 (gp_ou (fun j => bn (gp_sl (j + 1) 0 0)) 60) ∧ r = gp_si x.1 x.2 i)) := by
  refine ga_enI (by decide) (Nat.le_of_ble_eq_true rfl) ?_
  intro p e s m below meth c ls A S hrt hlk hK hP hD hA hl
  have hS : va_S A s.heap s.heap [] := va_S.rf
  obtain ⟨hx, hb, hml, hown, hts⟩ := id S
  have hl : lv_has ls 2 [(0, .ref spo), (1, .int i)] := hl
  refine lv_aload_n hx hb d_SP_print_0 rfl (lv_at hl 0 rfl) ?_
  refine ga_cr (As := []) (rest := []) (q0 := 0) S hK hP s_SP_77 (gc_SP_hasPlan l D cI cZ cC cG spo re fa shh eo ec pl (by omega)) [0] rfl rfl rfl rfl hl.1 rfl (Nat.le_of_ble_eq_true rfl) ⟨Nat.le_of_ble_eq_true rfl, Nat.le_of_ble_eq_true rfl⟩ ⟨Nat.le_of_ble_eq_true rfl, Nat.le_of_ble_eq_true rfl⟩ d_SP_print_1 (fun r hp1 => ?_)
  rcases hp1 with ⟨rfl, hp1⟩ | ⟨rfl, hp1⟩
  · refine lv_if_ne (tgt := 9) hx hb d_SP_print_4 (by decide) (fun c4 => ?_) (fun c4 => ?_)
    · refine lv_aload_n hx hb d_SP_print_9 rfl (lv_at hl 0 rfl) ?_
      refine ga_get S hK hP 0 rfl f_SP_26 rfl d_SP_print_10 ?_
      refine lv_aload_n hx hb d_SP_print_13 rfl (lv_at hl 0 rfl) ?_
      refine ga_get S hK hP 0 rfl f_SP_38 rfl d_SP_print_14 ?_
      refine ga_jv (wr := [(spo, .inr (5, [.ref re, .ref fa, .ref shh, .ref eo, .int (nI ec), .ref pl]))]) (ga_runV (As := [.ref pl]) (rest := []) S hK s_SP_124 (gc_Sh_write l D cI cZ cC cG shh sha n sg pl q1 q2 q3 q4 q5 q6 q7 q8 q9 rg bn hbn _) (ga_prV (y := y_Sh_write) (q0 := 1) hK hP hD [1, 2, 3, 4] rfl (by decide) rfl rfl) rfl hl.1 rfl (Nat.le_of_ble_eq_true rfl) ⟨Nat.le_of_ble_eq_true rfl, Nat.le_of_ble_eq_true rfl⟩ ⟨Nat.le_of_ble_eq_true rfl, Nat.le_of_ble_eq_true rfl⟩ d_SP_print_17) hP hD hS hA [1, 2, 3, 4] [0] rfl rfl (by decide) (by decide) [0, 1, 2, 3, 4] (fun (x : (Nat → Nat) × Nat) => [(spo, .inr (5, [.ref re, .ref fa, .ref shh, .ref eo, .int (nI ec), .ref pl])), (shh, .inr (3, [.ref sha, .int (nI x.2)])), (sha, .inl (cC, 240, .inl (nA x.1))), (pl, .inr (1, [.ref q1, .ref q2, .ref q3, .ref q4, .ref q5, .ref q6, .ref q7, .ref q8, .ref q9, .int (nI rg)])), (q1, .inl (cI, 480, .inl (nA bn)))]) (fun _ => rfl) (by decide) (fun x H locs hp17 hP hD hS => ?_)
      obtain ⟨g9, n9⟩ := x
      have hP : va_P D vwCl [(spo, .inr (5, [.ref re, .ref fa, .ref shh, .ref eo, .int (nI ec), .ref pl])), (shh, .inr (3, [.ref sha, .int (nI n9)])), (sha, .inl (cC, 240, .inl (nA g9))), (pl, .inr (1, [.ref q1, .ref q2, .ref q3, .ref q4, .ref q5, .ref q6, .ref q7, .ref q8, .ref q9, .int (nI rg)])), (q1, .inl (cI, 480, .inl (nA bn)))] H := hP
      have hD : va_D A [(spo, .inr (5, [.ref re, .ref fa, .ref shh, .ref eo, .int (nI ec), .ref pl])), (shh, .inr (3, [.ref sha, .int (nI n9)])), (sha, .inl (cC, 240, .inl (nA g9))), (pl, .inr (1, [.ref q1, .ref q2, .ref q3, .ref q4, .ref q5, .ref q6, .ref q7, .ref q8, .ref q9, .int (nI rg)])), (q1, .inl (cI, 480, .inl (nA bn)))] := hD
      have hn9 : n9 ≤ 240 := by have h0 := hp17.1; have h1 := gp_ou_le (fun j => bn (gp_sl (j + 1) 0 0)) 60; have h2 := gp_ht_sum (fun j => bn (gp_sl (j + 1) 0 0)) 60 40; simp only at h0; omega
      refine lv_aload_n hx hb d_SP_print_20 rfl (lv_at hl 0 rfl) ?_
      refine ga_get S hK hP 0 rfl f_SP_26 rfl d_SP_print_21 ?_
      refine lv_iload_n hx hb d_SP_print_24 rfl (lv_at hl 1 rfl) ?_
      refine ga_cr (As := [.int i]) (rest := []) (q0 := 1) S hK hP s_SP_127 (gc_Sh_signAt l D cI cZ cC cG shh sha n9 g9 i (by omega)) [1, 2] rfl rfl rfl rfl hl.1 rfl (Nat.le_of_ble_eq_true rfl) ⟨Nat.le_of_ble_eq_true rfl, Nat.le_of_ble_eq_true rfl⟩ ⟨Nat.le_of_ble_eq_true rfl, Nat.le_of_ble_eq_true rfl⟩ d_SP_print_25 (fun r hp25 => ?_)
      exact ga_wi (g9, n9) S hrt hlk hP hD hS (Or.inr ⟨hp1, hp17, hp25⟩) d_SP_print_28
    · exact absurd c4 (by decide)
  · refine lv_if_ne (tgt := 9) hx hb d_SP_print_4 (by decide) (fun c4 => ?_) (fun c4 => ?_)
    · exact absurd c4 (by decide)
    · refine lv_iconst (v := 0) hx hb d_SP_print_7 (by decide) ?_
      exact ga_wi (sg, n) S hrt hlk hP hD hS (Or.inl ⟨hp1, rfl⟩) d_SP_print_8
set_option maxHeartbeats 4000000 in
set_option maxRecDepth 100000 in
theorem gc_SP_sign (l : Launch) (D : va_G) (cI cZ cC cG : ClassId) (spo re fa shh eo ec pl : Nat) (hec : ec ≤ 8) (te ta dr pos n : Nat) (tr : Option Nat) (sg : Nat → Nat) (ch : Int32) (hn : n ≤ 600) : ga_Mv l y_SP_sign b_SP_sign 2 6 0 0 D (ga_T cI cZ cC cG) [.ref spo, .int ch] [(spo, .inr (5, [.ref re, .ref fa, .ref shh, .ref eo, .int (nI ec), .ref pl])), (re, .inr (2, [.ref te, .ref dr, .int (nI pos), .int (tI tr)])), (te, .inr (4, [.ref ta, .int (nI n)])), (ta, .inl (cC, 600, .inl (nA sg)))] (fun (_ : Unit) => [(spo, .inr (5, [.ref re, .ref fa, .ref shh, .ref eo, .int (nI ec), .ref pl])), (re, .inr (2, [.ref te, .ref dr, .int (nI pos), .int (tI tr)])), (te, .inr (4, [.ref ta, .int (nI ((gp_put ch (sg, n)).2))])), (ta, .inl (cC, 600, .inl (nA ((gp_put ch (sg, n)).1))))]) (fun _ => True) := by
  refine ga_enV (by decide) (Nat.le_of_ble_eq_true rfl) ?_
  intro p e s m below meth c ls A S hrt hlk hnm hK hP hD hA hl
  have hS : va_S A s.heap s.heap [] := va_S.rf
  obtain ⟨hx, hb, hml, hown, hts⟩ := id S
  have hl : lv_has ls 2 [(0, .ref spo), (1, .int ch)] := hl
  refine lv_aload_n hx hb d_SP_sign_0 rfl (lv_at hl 0 rfl) ?_
  refine ga_get S hK hP 0 rfl f_SP_12 rfl d_SP_sign_1 ?_
  refine ga_get S hK hP 1 rfl f_SP_42 rfl d_SP_sign_4 ?_
  refine lv_iload_n hx hb d_SP_sign_7 rfl (lv_at hl 1 rfl) ?_
  refine ga_jv (wr := [(spo, .inr (5, [.ref re, .ref fa, .ref shh, .ref eo, .int (nI ec), .ref pl])), (re, .inr (2, [.ref te, .ref dr, .int (nI pos), .int (tI tr)]))]) (ga_runV (As := [.int ch]) (rest := []) S hK s_SP_46 (gc_Te_put l D cI cZ cC cG te ta n sg ch (by omega) _) (ga_prV (y := y_Te_put) (q0 := 2) hK hP hD [2, 3] rfl (by decide) rfl rfl) rfl hl.1 rfl (Nat.le_of_ble_eq_true rfl) ⟨Nat.le_of_ble_eq_true rfl, Nat.le_of_ble_eq_true rfl⟩ ⟨Nat.le_of_ble_eq_true rfl, Nat.le_of_ble_eq_true rfl⟩ d_SP_sign_8) hP hD hS hA [2, 3] [0, 1] rfl rfl (by decide) (by decide) [0, 1, 2, 3] (fun _ => [(spo, .inr (5, [.ref re, .ref fa, .ref shh, .ref eo, .int (nI ec), .ref pl])), (re, .inr (2, [.ref te, .ref dr, .int (nI pos), .int (tI tr)])), (te, .inr (4, [.ref ta, .int (nI ((gp_put ch (sg, n)).2))])), (ta, .inl (cC, 600, .inl (nA ((gp_put ch (sg, n)).1))))]) (fun _ => rfl) (by decide) (fun x H locs hp8 hP hD hS => ?_)
  exact ga_wv () S hrt hlk hP hD hS trivial d_SP_sign_11
