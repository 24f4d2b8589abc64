set_option maxHeartbeats 4000000 in
set_option maxRecDepth 100000 in
theorem gc_Mo_compare (l : Launch) (D : va_G) (cI cZ cC cG : ClassId) (mo m1 m6 m7 m8 m9 mA mB mC mD mE mF n pos ec w nw kf : Nat) (wr : Option Nat) (mb bn : Nat → Nat) (ed : Nat → Nat → Nat) (e9 : Int32) (hec : ec ≤ 8) (hmb : ∀ j, mb j ≤ 60) (hE : ∀ t p s, 1 ≤ t → t ≤ 40 → p < 4 → s < 3 → ∀ e, e < ec → mb (gm_pl e t p s) = ed e (gp_sl t p s)) (h8 : ∀ t p s, 1 ≤ t → t ≤ 40 → p < 4 → s < 3 → mb (gm_pl 8 t p s) = bn (gp_sl t p s)) (hbn : ∀ j, bn j ≤ 60) : ga_Mi l y_Mo_compare b_Mo_compare 6 (some .int) 6 0 0 D (ga_T cI cZ cC cG) [.ref mo, .int e9] [(mo, .inr (6, [.int 0, .ref m1, .int (nI n), .int (nI pos), .int (tI wr), .int (nI ec), .ref m6, .ref m7, .ref m8, .ref m9, .ref mA, .int (nI w), .int (nI nw), .ref mB, .ref mC, .ref mD, .int (nI kf), .ref mE, .ref mF])), (m6, .inl (cI, 4920, .inl (nA mb)))] (fun (_ : Unit) => [(mo, .inr (6, [.int 0, .ref m1, .int (nI n), .int (nI pos), .int (tI wr), .int (nI ec), .ref m6, .ref m7, .ref m8, .ref m9, .ref mA, .int (nI w), .int (nI nw), .ref mB, .ref mC, .ref mD, .int (nI kf), .ref mE, .ref mF])), (m6, .inl (cI, 4920, .inl (nA mb)))]) (fun r _ => (ec = 0 ∧ ¬ (0 ≤ e9 ∧ e9 ≤ 7) ∧ r = -101) ∨ (ec = 0 ∧ (0 ≤ e9 ∧ e9 ≤ 7) ∧ r = -103) ∨ (ec ≠ 0 ∧ ¬ (0 ≤ e9 ∧ e9 ≤ nI (ec - 1)) ∧ r = -101) ∨ (ec ≠ 0 ∧ (0 ≤ e9 ∧ e9 ≤ nI (ec - 1)) ∧ r = nI (gp_cn (fun k => gp_otn bn (ed e9.toNatClampNeg) (gp_sl (k + 1) 0 0) 12) 40))) := by
  refine ga_enI (by decide) (Nat.le_of_ble_eq_true rfl) ?_
  intro p e s m below meth c ls A S hrt hlk hK hP hD hA hl
  have hS : va_S A s.heap s.heap [] := va_S.rf
  obtain ⟨hx, hb, hml, hown, hts⟩ := id S
  have hl : lv_has ls 6 [(0, .ref mo), (1, .int e9)] := hl
  refine lv_aload_n hx hb d_Mo_compare_0 rfl (lv_at hl 0 rfl) ?_
  refine lv_iconst (v := 0) hx hb d_Mo_compare_1 (by decide) ?_
  refine ga_put (ws' := [(mo, .inr (6, [.int 0, .ref m1, .int (nI n), .int (nI pos), .int (tI wr), .int (nI ec), .ref m6, .ref m7, .ref m8, .ref m9, .ref mA, .int (nI w), .int (nI nw), .ref mB, .ref mC, .ref mD, .int (nI kf), .ref mE, .ref mF])), (m6, .inl (cI, 4920, .inl (nA mb)))]) S hK hP hD hS 0 rfl p_Mo_48 rfl rfl (Nat.le_of_ble_eq_true rfl) rfl d_Mo_compare_2 (fun H locs hP hD hS => ?_)
  refine lv_iload_n hx hb d_Mo_compare_5 rfl (lv_at hl 1 rfl) ?_
  refine lv_iconst (v := 0) hx hb d_Mo_compare_6 (by decide) ?_
  refine lv_aload_n hx hb d_Mo_compare_7 rfl (lv_at hl 0 rfl) ?_
  refine ga_get S hK hP 0 rfl f_Mo_91 rfl d_Mo_compare_8 ?_
  refine lv_if_ne (tgt := 19) hx hb d_Mo_compare_11 (by decide) (fun c11 => ?_) (fun c11 => ?_)
  · have c11 : ¬ (ec = 0) := fun q => c11 ((nI_eq (a := ec) (b := 0) (by omega) (by omega)).mpr q)
    refine lv_aload_n hx hb d_Mo_compare_19 rfl (lv_at hl 0 rfl) ?_
    refine ga_get S hK hP 0 rfl f_Mo_91 rfl d_Mo_compare_20 ?_
    refine lv_iconst (v := 1) hx hb d_Mo_compare_23 (by decide) ?_
    refine lv_isub hx hb d_Mo_compare_24 ?_
    refine ga_top (nI (ec - 1)) (pk_sub (a := ec) (b := 1) (by omega)) ?_
    refine ga_cs (As := [.int e9, .int 0, .int (nI (ec - 1))]) (rest := []) S hK hP s_Mo_97 (gc_Mo_isIn l D cI cZ cC cG e9 0 (nI (ec - 1))) [] rfl rfl hl.1 rfl (Nat.le_of_ble_eq_true rfl) ⟨Nat.le_of_ble_eq_true rfl, Nat.le_of_ble_eq_true rfl⟩ ⟨Nat.le_of_ble_eq_true rfl, Nat.le_of_ble_eq_true rfl⟩ d_Mo_compare_25 (fun r hp25 => ?_)
    rcases hp25 with ⟨rfl, hp25⟩ | ⟨rfl, hp25⟩
    · refine lv_if_ne (tgt := 34) hx hb d_Mo_compare_28 (by decide) (fun c28 => ?_) (fun c28 => ?_)
      · refine lv_aload_n hx hb d_Mo_compare_34 rfl (lv_at hl 0 rfl) ?_
        refine ga_get S hK hP 0 rfl f_Mo_91 rfl d_Mo_compare_35 ?_
        refine lv_if_ne (tgt := 44) hx hb d_Mo_compare_38 (by decide) (fun c38 => ?_) (fun c38 => ?_)
        · have c38 : ¬ (ec = 0) := fun q => c38 ((nI_eq (a := ec) (b := 0) (by omega) (by omega)).mpr q)
          have hz9 : e9 ≤ nI (ec - 1) := by first | exact absurd c11 c38 | exact hp25.2
          have hz8 := hp25.1
          clear hp25
          obtain ⟨eN, he7, rfl⟩ := nI_of (x := e9) (fun q => absurd (Int32.lt_of_le_of_lt hz8 q) (by decide))
          have he8 : eN ≤ ec - 1 := (nI_leI (a := eN) (b := ec - 1) (by omega) (by omega)).mp hz9
          refine lv_iconst (v := 0) hx hb d_Mo_compare_44 (by decide) ?_
          refine lv_istore_n (lv' := [(2, .int 0), (0, .ref mo), (1, .int (nI eN))]) hx hb d_Mo_compare_45 rfl hl (by decide) rfl (fun ls hl => ?_)
          refine lv_iconst (v := 1) hx hb d_Mo_compare_46 (by decide) ?_
          refine lv_istore_n (lv' := [(3, .int 1), (2, .int 0), (0, .ref mo), (1, .int (nI eN))]) hx hb d_Mo_compare_47 rfl hl (by decide) rfl (fun ls hl => ?_)
          refine ga_loop (α := Nat × Nat) (fun x => match x with | (t, ct) => 41 - t) (fun x ls H locs => match x with | (t, ct) => lv_has ls 6 [(3, .int (nI t)), (2, .int (nI ct)), (0, .ref mo), (1, .int (nI eN))] ∧ va_P D vwCl [(mo, .inr (6, [.int 0, .ref m1, .int (nI n), .int (nI pos), .int (tI wr), .int (nI ec), .ref m6, .ref m7, .ref m8, .ref m9, .ref mA, .int (nI w), .int (nI nw), .ref mB, .ref mC, .ref mD, .int (nI kf), .ref mE, .ref mF])), (m6, .inl (cI, 4920, .inl (nA mb)))] H ∧ va_D A [(mo, .inr (6, [.int 0, .ref m1, .int (nI n), .int (nI pos), .int (tI wr), .int (nI ec), .ref m6, .ref m7, .ref m8, .ref m9, .ref mA, .int (nI w), .int (nI nw), .ref mB, .ref mC, .ref mD, .int (nI kf), .ref mE, .ref mF])), (m6, .inl (cI, 4920, .inl (nA mb)))] ∧ va_S A s.heap H locs ∧ 1 ≤ t ∧ t ≤ 41 ∧ ct = gp_cn (fun k => gp_otn bn (ed eN) (gp_sl (k + 1) 0 0) 12) (t - 1)) ?_ (1, 0) ⟨lv_sub hl [0, 1, 2, 3] rfl, hP, hD, hS, ⟨by decide, by decide, rfl⟩⟩
          intro x ls H locs hI ih1
          obtain ⟨t, ct⟩ := x
          obtain ⟨hl, hP, hD, hS, ⟨h1, h2, h3⟩⟩ := hI
          have hl : lv_has ls 6 [(3, .int (nI t)), (2, .int (nI ct)), (0, .ref mo), (1, .int (nI eN))] := hl
          have hP : va_P D vwCl [(mo, .inr (6, [.int 0, .ref m1, .int (nI n), .int (nI pos), .int (tI wr), .int (nI ec), .ref m6, .ref m7, .ref m8, .ref m9, .ref mA, .int (nI w), .int (nI nw), .ref mB, .ref mC, .ref mD, .int (nI kf), .ref mE, .ref mF])), (m6, .inl (cI, 4920, .inl (nA mb)))] H := hP
          have hD : va_D A [(mo, .inr (6, [.int 0, .ref m1, .int (nI n), .int (nI pos), .int (tI wr), .int (nI ec), .ref m6, .ref m7, .ref m8, .ref m9, .ref mA, .int (nI w), .int (nI nw), .ref mB, .ref mC, .ref mD, .int (nI kf), .ref mE, .ref mF])), (m6, .inl (cI, 4920, .inl (nA mb)))] := hD
          refine lv_iload_n hx hb d_Mo_compare_48 rfl (lv_at hl 0 rfl) ?_
          refine lv_bipush (v := 41) hx hb d_Mo_compare_49 (by decide) ?_
          refine lv_icmp_ge (tgt := 144) hx hb d_Mo_compare_51 (by decide) (fun c51 => ?_) (fun c51 => ?_)
          · have c51 : 41 ≤ t := (nI_leI (a := 41) (b := t) (by omega) (by omega)).mp c51
            refine lv_iload_n hx hb d_Mo_compare_144 rfl (lv_at hl 1 rfl) ?_
            exact ga_wi () S hrt hlk hP hD hS (Or.inr (Or.inr (Or.inr ⟨c38, ⟨hz8, hz9⟩, by rw [nI_clamp (by omega), h3, show t - 1 = 40 by omega]⟩))) d_Mo_compare_145
          · have c51 : ¬ (41 ≤ t) := fun q => c51 ((nI_leI (a := 41) (b := t) (by omega) (by omega)).mpr q)
            refine lv_iconst (v := 0) hx hb d_Mo_compare_54 (by decide) ?_
            refine lv_istore (lv' := [(4, .int 0), (3, .int (nI t)), (2, .int (nI ct)), (0, .ref mo), (1, .int (nI eN))]) hx hb d_Mo_compare_55 hl (by decide) rfl (fun ls hl => ?_)
            refine lv_iconst (v := 0) hx hb d_Mo_compare_57 (by decide) ?_
            refine lv_istore (lv' := [(5, .int 0), (4, .int 0), (3, .int (nI t)), (2, .int (nI ct)), (0, .ref mo), (1, .int (nI eN))]) hx hb d_Mo_compare_58 hl (by decide) rfl (fun ls hl => ?_)
            refine ga_loop (α := Nat × Bool) (fun x => match x with | (k, z) => 12 - k) (fun x ls H locs => match x with | (k, z) => lv_has ls 6 [(5, .int (nI k)), (4, .int (bI z)), (3, .int (nI t)), (2, .int (nI ct)), (0, .ref mo), (1, .int (nI eN))] ∧ va_P D vwCl [(mo, .inr (6, [.int 0, .ref m1, .int (nI n), .int (nI pos), .int (tI wr), .int (nI ec), .ref m6, .ref m7, .ref m8, .ref m9, .ref mA, .int (nI w), .int (nI nw), .ref mB, .ref mC, .ref mD, .int (nI kf), .ref mE, .ref mF])), (m6, .inl (cI, 4920, .inl (nA mb)))] H ∧ va_D A [(mo, .inr (6, [.int 0, .ref m1, .int (nI n), .int (nI pos), .int (tI wr), .int (nI ec), .ref m6, .ref m7, .ref m8, .ref m9, .ref mA, .int (nI w), .int (nI nw), .ref mB, .ref mC, .ref mD, .int (nI kf), .ref mE, .ref mF])), (m6, .inl (cI, 4920, .inl (nA mb)))] ∧ va_S A s.heap H locs ∧ k ≤ 12 ∧ z = gp_otn bn (ed eN) (gp_sl t 0 0) k) ?_ (0, false) ⟨lv_sub hl [0, 1, 2, 3, 4, 5] rfl, hP, hD, hS, ⟨Nat.zero_le _, rfl⟩⟩
            intro x ls H locs hI ih2
            obtain ⟨k, z⟩ := x
            obtain ⟨hl, hP, hD, hS, ⟨g1, g2⟩⟩ := hI
            have hl : lv_has ls 6 [(5, .int (nI k)), (4, .int (bI z)), (3, .int (nI t)), (2, .int (nI ct)), (0, .ref mo), (1, .int (nI eN))] := hl
            have hP : va_P D vwCl [(mo, .inr (6, [.int 0, .ref m1, .int (nI n), .int (nI pos), .int (tI wr), .int (nI ec), .ref m6, .ref m7, .ref m8, .ref m9, .ref mA, .int (nI w), .int (nI nw), .ref mB, .ref mC, .ref mD, .int (nI kf), .ref mE, .ref mF])), (m6, .inl (cI, 4920, .inl (nA mb)))] H := hP
            have hD : va_D A [(mo, .inr (6, [.int 0, .ref m1, .int (nI n), .int (nI pos), .int (tI wr), .int (nI ec), .ref m6, .ref m7, .ref m8, .ref m9, .ref mA, .int (nI w), .int (nI nw), .ref mB, .ref mC, .ref mD, .int (nI kf), .ref mE, .ref mF])), (m6, .inl (cI, 4920, .inl (nA mb)))] := hD
            refine lv_iload hx hb d_Mo_compare_60 (lv_at hl 0 rfl) ?_
            refine lv_bipush (v := 12) hx hb d_Mo_compare_62 (by decide) ?_
            refine lv_icmp_ge (tgt := 125) hx hb d_Mo_compare_64 (by decide) (fun c64 => ?_) (fun c64 => ?_)
            · have c64 : 12 ≤ k := (nI_leI (a := 12) (b := k) (by omega) (by omega)).mp c64
              have hz : gp_otn bn (ed eN) (gp_sl t 0 0) 12 = z := by rw [g2, show k = 12 by omega]
              refine lv_iload hx hb d_Mo_compare_125 (lv_at hl 1 rfl) ?_
              refine lv_if_eq (tgt := 136) hx hb d_Mo_compare_127 (by decide) (fun c127 => ?_) (fun c127 => ?_)
              · have c127 : z = false := bI_0 c127
                refine lv_iload_n hx hb d_Mo_compare_136 rfl (lv_at hl 3 rfl) ?_
                refine lv_istore_n (lv' := [(2, .int (nI ct)), (5, .int (nI k)), (4, .int (bI z)), (3, .int (nI t)), (0, .ref mo), (1, .int (nI eN))]) hx hb d_Mo_compare_137 rfl hl (by decide) rfl (fun ls hl => ?_)
                refine lv_iinc (v := nI (t + 1)) (lv' := [(3, .int (nI (t + 1))), (2, .int (nI ct)), (5, .int (nI k)), (4, .int (bI z)), (0, .ref mo), (1, .int (nI eN))]) hx hb d_Mo_compare_138 hl (k := 3) rfl (ga_inc t) (by decide) rfl (fun ls hl => ?_)
                refine lv_goto (tgt := 48) hx hb d_Mo_compare_141 (by decide) ?_
                exact ih1 (t + 1, ct) _ _ _ (by show (41 - (t + 1)) < (41 - t); omega) ⟨lv_sub hl [0, 1, 4, 5] rfl, hP, hD, hS, ⟨by omega, by omega, by rw [show t + 1 - 1 = (t - 1) + 1 by omega, gp_cn, show t - 1 + 1 = t by omega, hz, c127, h3]; rfl⟩⟩
              · have c127 : z = true := bI_1 c127
                refine lv_iload_n hx hb d_Mo_compare_130 rfl (lv_at hl 3 rfl) ?_
                refine lv_iconst (v := 1) hx hb d_Mo_compare_131 (by decide) ?_
                refine lv_iadd hx hb d_Mo_compare_132 ?_
                refine ga_top (nI (ct + 1)) (nI_add ct 1) ?_
                refine lv_goto (tgt := 137) hx hb d_Mo_compare_133 (by decide) ?_
                refine lv_istore_n (lv' := [(2, .int (nI (ct + 1))), (5, .int (nI k)), (4, .int (bI z)), (3, .int (nI t)), (0, .ref mo), (1, .int (nI eN))]) hx hb d_Mo_compare_137 rfl hl (by decide) rfl (fun ls hl => ?_)
                refine lv_iinc (v := nI (t + 1)) (lv' := [(3, .int (nI (t + 1))), (2, .int (nI (ct + 1))), (5, .int (nI k)), (4, .int (bI z)), (0, .ref mo), (1, .int (nI eN))]) hx hb d_Mo_compare_138 hl (k := 3) rfl (ga_inc t) (by decide) rfl (fun ls hl => ?_)
                refine lv_goto (tgt := 48) hx hb d_Mo_compare_141 (by decide) ?_
                exact ih1 (t + 1, ct + 1) _ _ _ (by show (41 - (t + 1)) < (41 - t); omega) ⟨lv_sub hl [0, 1, 4, 5] rfl, hP, hD, hS, ⟨by omega, by omega, by rw [show t + 1 - 1 = (t - 1) + 1 by omega, gp_cn, show t - 1 + 1 = t by omega, hz, c127, h3]; rfl⟩⟩
            · have c64 : ¬ (12 ≤ k) := fun q => c64 ((nI_leI (a := 12) (b := k) (by omega) (by omega)).mpr q)
              have e1 := h8 t (k % 4) (k / 4) h1 (by omega) (by omega) (by omega)
              have e2 := hE t (k % 4) (k / 4) h1 (by omega) (by omega) (by omega) eN (by omega)
              rw [gp_sl_k h1] at e1 e2
              refine lv_iload hx hb d_Mo_compare_67 (lv_at hl 1 rfl) ?_
              refine lv_if_ne (tgt := 112) hx hb d_Mo_compare_69 (by decide) (fun c69 => ?_) (fun c69 => ?_)
              · have c69 : z = true := bI_1 c69
                refine lv_iconst (v := 1) hx hb d_Mo_compare_112 (by decide) ?_
                refine lv_goto (tgt := 117) hx hb d_Mo_compare_113 (by decide) ?_
                refine lv_istore (lv' := [(4, .int 1), (5, .int (nI k)), (3, .int (nI t)), (2, .int (nI ct)), (0, .ref mo), (1, .int (nI eN))]) hx hb d_Mo_compare_117 hl (by decide) rfl (fun ls hl => ?_)
                refine lv_iinc (v := nI (k + 1)) (lv' := [(5, .int (nI (k + 1))), (4, .int 1), (3, .int (nI t)), (2, .int (nI ct)), (0, .ref mo), (1, .int (nI eN))]) hx hb d_Mo_compare_119 hl (k := 1) rfl (ga_inc k) (by decide) rfl (fun ls hl => ?_)
                refine lv_goto (tgt := 60) hx hb d_Mo_compare_122 (by decide) ?_
                exact ih2 (k + 1, true) _ _ _ (by show (12 - (k + 1)) < (12 - k); omega) ⟨lv_sub hl [0, 1, 2, 3, 4, 5] rfl, hP, hD, hS, ⟨by omega, by rw [gp_otn]; first | (rw [decide_eq_true (show bn (gp_sl t 0 0 + k) ≠ ed eN (gp_sl t 0 0 + k) by omega), Bool.or_true]) | (rw [← g2, c69, Bool.true_or])⟩⟩
              · have c69 : z = false := bI_0 c69
                refine lv_aload_n hx hb d_Mo_compare_72 rfl (lv_at hl 4 rfl) ?_
                refine ga_get S hK hP 0 rfl f_Mo_13 rfl d_Mo_compare_73 ?_
                refine lv_bipush (v := 8) hx hb d_Mo_compare_76 (by decide) ?_
                refine lv_iload_n hx hb d_Mo_compare_78 rfl (lv_at hl 2 rfl) ?_
                refine lv_iload hx hb d_Mo_compare_79 (lv_at hl 0 rfl) ?_
                refine lv_iconst (v := 4) hx hb d_Mo_compare_81 (by decide) ?_
                refine lv_irem hx hb d_Mo_compare_82 (by decide) ?_
                refine ga_top (nI (k % 4)) (pk_rem (a := k) (d := 4) (by omega) (by decide) (by decide)) ?_
                refine lv_iload hx hb d_Mo_compare_83 (lv_at hl 0 rfl) ?_
                refine lv_iconst (v := 4) hx hb d_Mo_compare_85 (by decide) ?_
                refine lv_idiv hx hb d_Mo_compare_86 (by decide) ?_
                refine ga_top (nI (k / 4)) (pk_div (a := k) (d := 4) (by omega) (by decide) (by decide)) ?_
                refine ga_cs (As := [.int 8, .int (nI t), .int (nI (k % 4)), .int (nI (k / 4))]) (rest := [.ref m6]) S hK hP s_Mo_75 (gc_Mo_place l D cI cZ cC cG 8 t (k % 4) (k / 4)) [] rfl rfl hl.1 rfl (Nat.le_of_ble_eq_true rfl) ⟨Nat.le_of_ble_eq_true rfl, Nat.le_of_ble_eq_true rfl⟩ ⟨Nat.le_of_ble_eq_true rfl, Nat.le_of_ble_eq_true rfl⟩ d_Mo_compare_87 (fun r hp87 => ?_)
                subst hp87
                refine ga_ild S hK hP 1 0 rfl rfl (gm_pl 8 t (k % 4) (k / 4)) (gm_pl_lt (by decide) (by omega) (by omega) (by omega)) (by decide) d_Mo_compare_90 ?_
                have hb1 := hmb (gm_pl 8 t (k % 4) (k / 4))
                refine lv_aload_n hx hb d_Mo_compare_91 rfl (lv_at hl 4 rfl) ?_
                refine ga_get S hK hP 0 rfl f_Mo_13 rfl d_Mo_compare_92 ?_
                refine lv_iload_n hx hb d_Mo_compare_95 rfl (lv_at hl 5 rfl) ?_
                refine lv_iload_n hx hb d_Mo_compare_96 rfl (lv_at hl 2 rfl) ?_
                refine lv_iload hx hb d_Mo_compare_97 (lv_at hl 0 rfl) ?_
                refine lv_iconst (v := 4) hx hb d_Mo_compare_99 (by decide) ?_
                refine lv_irem hx hb d_Mo_compare_100 (by decide) ?_
                refine ga_top (nI (k % 4)) (pk_rem (a := k) (d := 4) (by omega) (by decide) (by decide)) ?_
                refine lv_iload hx hb d_Mo_compare_101 (lv_at hl 0 rfl) ?_
                refine lv_iconst (v := 4) hx hb d_Mo_compare_103 (by decide) ?_
                refine lv_idiv hx hb d_Mo_compare_104 (by decide) ?_
                refine ga_top (nI (k / 4)) (pk_div (a := k) (d := 4) (by omega) (by decide) (by decide)) ?_
                refine ga_cs (As := [.int (nI eN), .int (nI t), .int (nI (k % 4)), .int (nI (k / 4))]) (rest := [.ref m6, .int (nI (mb (gm_pl 8 t (k % 4) (k / 4))))]) S hK hP s_Mo_75 (gc_Mo_place l D cI cZ cC cG eN t (k % 4) (k / 4)) [] rfl rfl hl.1 rfl (Nat.le_of_ble_eq_true rfl) ⟨Nat.le_of_ble_eq_true rfl, Nat.le_of_ble_eq_true rfl⟩ ⟨Nat.le_of_ble_eq_true rfl, Nat.le_of_ble_eq_true rfl⟩ d_Mo_compare_105 (fun r hp105 => ?_)
                subst hp105
                refine ga_ild S hK hP 1 0 rfl rfl (gm_pl eN t (k % 4) (k / 4)) (gm_pl_lt (by omega) (by omega) (by omega) (by omega)) (by decide) d_Mo_compare_108 ?_
                have hb2 := hmb (gm_pl eN t (k % 4) (k / 4))
                refine lv_icmp_eq (tgt := 116) hx hb d_Mo_compare_109 (by decide) (fun c109 => ?_) (fun c109 => ?_)
                · have c109 : (mb (gm_pl 8 t (k % 4) (k / 4))) = (mb (gm_pl eN t (k % 4) (k / 4))) := (nI_eq (a := (mb (gm_pl 8 t (k % 4) (k / 4)))) (b := (mb (gm_pl eN t (k % 4) (k / 4)))) (by omega) (by omega)).mp c109
                  refine lv_iconst (v := 0) hx hb d_Mo_compare_116 (by decide) ?_
                  refine lv_istore (lv' := [(4, .int 0), (5, .int (nI k)), (3, .int (nI t)), (2, .int (nI ct)), (0, .ref mo), (1, .int (nI eN))]) hx hb d_Mo_compare_117 hl (by decide) rfl (fun ls hl => ?_)
                  refine lv_iinc (v := nI (k + 1)) (lv' := [(5, .int (nI (k + 1))), (4, .int 0), (3, .int (nI t)), (2, .int (nI ct)), (0, .ref mo), (1, .int (nI eN))]) hx hb d_Mo_compare_119 hl (k := 1) rfl (ga_inc k) (by decide) rfl (fun ls hl => ?_)
                  refine lv_goto (tgt := 60) hx hb d_Mo_compare_122 (by decide) ?_
                  exact ih2 (k + 1, false) _ _ _ (by show (12 - (k + 1)) < (12 - k); omega) ⟨lv_sub hl [0, 1, 2, 3, 4, 5] rfl, hP, hD, hS, ⟨by omega, by rw [gp_otn, ← g2, c69, decide_eq_false (show ¬ (bn (gp_sl t 0 0 + k) ≠ ed eN (gp_sl t 0 0 + k)) by omega)]; rfl⟩⟩
                · have c109 : ¬ ((mb (gm_pl 8 t (k % 4) (k / 4))) = (mb (gm_pl eN t (k % 4) (k / 4)))) := fun q => c109 ((nI_eq (a := (mb (gm_pl 8 t (k % 4) (k / 4)))) (b := (mb (gm_pl eN t (k % 4) (k / 4)))) (by omega) (by omega)).mpr q)
                  refine lv_iconst (v := 1) hx hb d_Mo_compare_112 (by decide) ?_
                  refine lv_goto (tgt := 117) hx hb d_Mo_compare_113 (by decide) ?_
                  refine lv_istore (lv' := [(4, .int 1), (5, .int (nI k)), (3, .int (nI t)), (2, .int (nI ct)), (0, .ref mo), (1, .int (nI eN))]) hx hb d_Mo_compare_117 hl (by decide) rfl (fun ls hl => ?_)
                  refine lv_iinc (v := nI (k + 1)) (lv' := [(5, .int (nI (k + 1))), (4, .int 1), (3, .int (nI t)), (2, .int (nI ct)), (0, .ref mo), (1, .int (nI eN))]) hx hb d_Mo_compare_119 hl (k := 1) rfl (ga_inc k) (by decide) rfl (fun ls hl => ?_)
                  refine lv_goto (tgt := 60) hx hb d_Mo_compare_122 (by decide) ?_
                  exact ih2 (k + 1, true) _ _ _ (by show (12 - (k + 1)) < (12 - k); omega) ⟨lv_sub hl [0, 1, 2, 3, 4, 5] rfl, hP, hD, hS, ⟨by omega, by rw [gp_otn]; first | (rw [decide_eq_true (show bn (gp_sl t 0 0 + k) ≠ ed eN (gp_sl t 0 0 + k) by omega), Bool.or_true]) | (rw [← g2, c69, Bool.true_or])⟩⟩
        · have c38 : ec = 0 := (nI_eq (a := ec) (b := 0) (by omega) (by omega)).mp c38
          refine lv_bipush (v := (-103)) hx hb d_Mo_compare_41 (by decide) ?_
          first | exact absurd c38 c11 | exact ga_wi () S hrt hlk hP hD hS (Or.inr (Or.inl ⟨c11, hp25, rfl⟩)) d_Mo_compare_43
      · exact absurd c28 (by decide)
    · refine lv_if_ne (tgt := 34) hx hb d_Mo_compare_28 (by decide) (fun c28 => ?_) (fun c28 => ?_)
      · exact absurd c28 (by decide)
      · refine lv_bipush (v := (-101)) hx hb d_Mo_compare_31 (by decide) ?_
        first | exact ga_wi () S hrt hlk hP hD hS (Or.inl ⟨c11, hp25, rfl⟩) d_Mo_compare_33 | exact ga_wi () S hrt hlk hP hD hS (Or.inr (Or.inr (Or.inl ⟨c11, hp25, rfl⟩))) d_Mo_compare_33
  · have c11 : ec = 0 := (nI_eq (a := ec) (b := 0) (by omega) (by omega)).mp c11
    refine lv_bipush (v := 7) hx hb d_Mo_compare_14 (by decide) ?_
    refine lv_goto (tgt := 25) hx hb d_Mo_compare_16 (by decide) ?_
    refine ga_cs (As := [.int e9, .int 0, .int 7]) (rest := []) S hK hP s_Mo_97 (gc_Mo_isIn l D cI cZ cC cG e9 0 7) [] rfl rfl hl.1 rfl (Nat.le_of_ble_eq_true rfl) ⟨Nat.le_of_ble_eq_true rfl, Nat.le_of_ble_eq_true rfl⟩ ⟨Nat.le_of_ble_eq_true rfl, Nat.le_of_ble_eq_true rfl⟩ d_Mo_compare_25 (fun r hp25 => ?_)
    rcases hp25 with ⟨rfl, hp25⟩ | ⟨rfl, hp25⟩
    · refine lv_if_ne (tgt := 34) hx hb d_Mo_compare_28 (by decide) (fun c28 => ?_) (fun c28 => ?_)
      · refine lv_aload_n hx hb d_Mo_compare_34 rfl (lv_at hl 0 rfl) ?_
        refine ga_get S hK hP 0 rfl f_Mo_91 rfl d_Mo_compare_35 ?_
        refine lv_if_ne (tgt := 44) hx hb d_Mo_compare_38 (by decide) (fun c38 => ?_) (fun c38 => ?_)
        · have c38 : ¬ (ec = 0) := fun q => c38 ((nI_eq (a := ec) (b := 0) (by omega) (by omega)).mpr q)
          have hz9 : e9 ≤ nI (ec - 1) := by first | exact absurd c11 c38 | exact hp25.2
          have hz8 := hp25.1
          clear hp25
          obtain ⟨eN, he7, rfl⟩ := nI_of (x := e9) (fun q => absurd (Int32.lt_of_le_of_lt hz8 q) (by decide))
          have he8 : eN ≤ ec - 1 := (nI_leI (a := eN) (b := ec - 1) (by omega) (by omega)).mp hz9
          refine lv_iconst (v := 0) hx hb d_Mo_compare_44 (by decide) ?_
          refine lv_istore_n (lv' := [(2, .int 0), (0, .ref mo), (1, .int (nI eN))]) hx hb d_Mo_compare_45 rfl hl (by decide) rfl (fun ls hl => ?_)
          refine lv_iconst (v := 1) hx hb d_Mo_compare_46 (by decide) ?_
          refine lv_istore_n (lv' := [(3, .int 1), (2, .int 0), (0, .ref mo), (1, .int (nI eN))]) hx hb d_Mo_compare_47 rfl hl (by decide) rfl (fun ls hl => ?_)
          refine ga_loop (α := Nat × Nat) (fun x => match x with | (t, ct) => 41 - t) (fun x ls H locs => match x with | (t, ct) => lv_has ls 6 [(3, .int (nI t)), (2, .int (nI ct)), (0, .ref mo), (1, .int (nI eN))] ∧ va_P D vwCl [(mo, .inr (6, [.int 0, .ref m1, .int (nI n), .int (nI pos), .int (tI wr), .int (nI ec), .ref m6, .ref m7, .ref m8, .ref m9, .ref mA, .int (nI w), .int (nI nw), .ref mB, .ref mC, .ref mD, .int (nI kf), .ref mE, .ref mF])), (m6, .inl (cI, 4920, .inl (nA mb)))] H ∧ va_D A [(mo, .inr (6, [.int 0, .ref m1, .int (nI n), .int (nI pos), .int (tI wr), .int (nI ec), .ref m6, .ref m7, .ref m8, .ref m9, .ref mA, .int (nI w), .int (nI nw), .ref mB, .ref mC, .ref mD, .int (nI kf), .ref mE, .ref mF])), (m6, .inl (cI, 4920, .inl (nA mb)))] ∧ va_S A s.heap H locs ∧ 1 ≤ t ∧ t ≤ 41 ∧ ct = gp_cn (fun k => gp_otn bn (ed eN) (gp_sl (k + 1) 0 0) 12) (t - 1)) ?_ (1, 0) ⟨lv_sub hl [0, 1, 2, 3] rfl, hP, hD, hS, ⟨by decide, by decide, rfl⟩⟩
          intro x ls H locs hI ih1
          obtain ⟨t, ct⟩ := x
          obtain ⟨hl, hP, hD, hS, ⟨h1, h2, h3⟩⟩ := hI
          have hl : lv_has ls 6 [(3, .int (nI t)), (2, .int (nI ct)), (0, .ref mo), (1, .int (nI eN))] := hl
          have hP : va_P D vwCl [(mo, .inr (6, [.int 0, .ref m1, .int (nI n), .int (nI pos), .int (tI wr), .int (nI ec), .ref m6, .ref m7, .ref m8, .ref m9, .ref mA, .int (nI w), .int (nI nw), .ref mB, .ref mC, .ref mD, .int (nI kf), .ref mE, .ref mF])), (m6, .inl (cI, 4920, .inl (nA mb)))] H := hP
          have hD : va_D A [(mo, .inr (6, [.int 0, .ref m1, .int (nI n), .int (nI pos), .int (tI wr), .int (nI ec), .ref m6, .ref m7, .ref m8, .ref m9, .ref mA, .int (nI w), .int (nI nw), .ref mB, .ref mC, .ref mD, .int (nI kf), .ref mE, .ref mF])), (m6, .inl (cI, 4920, .inl (nA mb)))] := hD
          refine lv_iload_n hx hb d_Mo_compare_48 rfl (lv_at hl 0 rfl) ?_
          refine lv_bipush (v := 41) hx hb d_Mo_compare_49 (by decide) ?_
          refine lv_icmp_ge (tgt := 144) hx hb d_Mo_compare_51 (by decide) (fun c51 => ?_) (fun c51 => ?_)
          · have c51 : 41 ≤ t := (nI_leI (a := 41) (b := t) (by omega) (by omega)).mp c51
            refine lv_iload_n hx hb d_Mo_compare_144 rfl (lv_at hl 1 rfl) ?_
            exact ga_wi () S hrt hlk hP hD hS (Or.inr (Or.inr (Or.inr ⟨c38, ⟨hz8, hz9⟩, by rw [nI_clamp (by omega), h3, show t - 1 = 40 by omega]⟩))) d_Mo_compare_145
          · have c51 : ¬ (41 ≤ t) := fun q => c51 ((nI_leI (a := 41) (b := t) (by omega) (by omega)).mpr q)
            refine lv_iconst (v := 0) hx hb d_Mo_compare_54 (by decide) ?_
            refine lv_istore (lv' := [(4, .int 0), (3, .int (nI t)), (2, .int (nI ct)), (0, .ref mo), (1, .int (nI eN))]) hx hb d_Mo_compare_55 hl (by decide) rfl (fun ls hl => ?_)
            refine lv_iconst (v := 0) hx hb d_Mo_compare_57 (by decide) ?_
            refine lv_istore (lv' := [(5, .int 0), (4, .int 0), (3, .int (nI t)), (2, .int (nI ct)), (0, .ref mo), (1, .int (nI eN))]) hx hb d_Mo_compare_58 hl (by decide) rfl (fun ls hl => ?_)
            refine ga_loop (α := Nat × Bool) (fun x => match x with | (k, z) => 12 - k) (fun x ls H locs => match x with | (k, z) => lv_has ls 6 [(5, .int (nI k)), (4, .int (bI z)), (3, .int (nI t)), (2, .int (nI ct)), (0, .ref mo), (1, .int (nI eN))] ∧ va_P D vwCl [(mo, .inr (6, [.int 0, .ref m1, .int (nI n), .int (nI pos), .int (tI wr), .int (nI ec), .ref m6, .ref m7, .ref m8, .ref m9, .ref mA, .int (nI w), .int (nI nw), .ref mB, .ref mC, .ref mD, .int (nI kf), .ref mE, .ref mF])), (m6, .inl (cI, 4920, .inl (nA mb)))] H ∧ va_D A [(mo, .inr (6, [.int 0, .ref m1, .int (nI n), .int (nI pos), .int (tI wr), .int (nI ec), .ref m6, .ref m7, .ref m8, .ref m9, .ref mA, .int (nI w), .int (nI nw), .ref mB, .ref mC, .ref mD, .int (nI kf), .ref mE, .ref mF])), (m6, .inl (cI, 4920, .inl (nA mb)))] ∧ va_S A s.heap H locs ∧ k ≤ 12 ∧ z = gp_otn bn (ed eN) (gp_sl t 0 0) k) ?_ (0, false) ⟨lv_sub hl [0, 1, 2, 3, 4, 5] rfl, hP, hD, hS, ⟨Nat.zero_le _, rfl⟩⟩
            intro x ls H locs hI ih2
            obtain ⟨k, z⟩ := x
            obtain ⟨hl, hP, hD, hS, ⟨g1, g2⟩⟩ := hI
            have hl : lv_has ls 6 [(5, .int (nI k)), (4, .int (bI z)), (3, .int (nI t)), (2, .int (nI ct)), (0, .ref mo), (1, .int (nI eN))] := hl
            have hP : va_P D vwCl [(mo, .inr (6, [.int 0, .ref m1, .int (nI n), .int (nI pos), .int (tI wr), .int (nI ec), .ref m6, .ref m7, .ref m8, .ref m9, .ref mA, .int (nI w), .int (nI nw), .ref mB, .ref mC, .ref mD, .int (nI kf), .ref mE, .ref mF])), (m6, .inl (cI, 4920, .inl (nA mb)))] H := hP
            have hD : va_D A [(mo, .inr (6, [.int 0, .ref m1, .int (nI n), .int (nI pos), .int (tI wr), .int (nI ec), .ref m6, .ref m7, .ref m8, .ref m9, .ref mA, .int (nI w), .int (nI nw), .ref mB, .ref mC, .ref mD, .int (nI kf), .ref mE, .ref mF])), (m6, .inl (cI, 4920, .inl (nA mb)))] := hD
            refine lv_iload hx hb d_Mo_compare_60 (lv_at hl 0 rfl) ?_
            refine lv_bipush (v := 12) hx hb d_Mo_compare_62 (by decide) ?_
            refine lv_icmp_ge (tgt := 125) hx hb d_Mo_compare_64 (by decide) (fun c64 => ?_) (fun c64 => ?_)
            · have c64 : 12 ≤ k := (nI_leI (a := 12) (b := k) (by omega) (by omega)).mp c64
              have hz : gp_otn bn (ed eN) (gp_sl t 0 0) 12 = z := by rw [g2, show k = 12 by omega]
              refine lv_iload hx hb d_Mo_compare_125 (lv_at hl 1 rfl) ?_
              refine lv_if_eq (tgt := 136) hx hb d_Mo_compare_127 (by decide) (fun c127 => ?_) (fun c127 => ?_)
              · have c127 : z = false := bI_0 c127
                refine lv_iload_n hx hb d_Mo_compare_136 rfl (lv_at hl 3 rfl) ?_
                refine lv_istore_n (lv' := [(2, .int (nI ct)), (5, .int (nI k)), (4, .int (bI z)), (3, .int (nI t)), (0, .ref mo), (1, .int (nI eN))]) hx hb d_Mo_compare_137 rfl hl (by decide) rfl (fun ls hl => ?_)
                refine lv_iinc (v := nI (t + 1)) (lv' := [(3, .int (nI (t + 1))), (2, .int (nI ct)), (5, .int (nI k)), (4, .int (bI z)), (0, .ref mo), (1, .int (nI eN))]) hx hb d_Mo_compare_138 hl (k := 3) rfl (ga_inc t) (by decide) rfl (fun ls hl => ?_)
                refine lv_goto (tgt := 48) hx hb d_Mo_compare_141 (by decide) ?_
                exact ih1 (t + 1, ct) _ _ _ (by show (41 - (t + 1)) < (41 - t); omega) ⟨lv_sub hl [0, 1, 4, 5] rfl, hP, hD, hS, ⟨by omega, by omega, by rw [show t + 1 - 1 = (t - 1) + 1 by omega, gp_cn, show t - 1 + 1 = t by omega, hz, c127, h3]; rfl⟩⟩
              · have c127 : z = true := bI_1 c127
                refine lv_iload_n hx hb d_Mo_compare_130 rfl (lv_at hl 3 rfl) ?_
                refine lv_iconst (v := 1) hx hb d_Mo_compare_131 (by decide) ?_
                refine lv_iadd hx hb d_Mo_compare_132 ?_
                refine ga_top (nI (ct + 1)) (nI_add ct 1) ?_
                refine lv_goto (tgt := 137) hx hb d_Mo_compare_133 (by decide) ?_
                refine lv_istore_n (lv' := [(2, .int (nI (ct + 1))), (5, .int (nI k)), (4, .int (bI z)), (3, .int (nI t)), (0, .ref mo), (1, .int (nI eN))]) hx hb d_Mo_compare_137 rfl hl (by decide) rfl (fun ls hl => ?_)
                refine lv_iinc (v := nI (t + 1)) (lv' := [(3, .int (nI (t + 1))), (2, .int (nI (ct + 1))), (5, .int (nI k)), (4, .int (bI z)), (0, .ref mo), (1, .int (nI eN))]) hx hb d_Mo_compare_138 hl (k := 3) rfl (ga_inc t) (by decide) rfl (fun ls hl => ?_)
                refine lv_goto (tgt := 48) hx hb d_Mo_compare_141 (by decide) ?_
                exact ih1 (t + 1, ct + 1) _ _ _ (by show (41 - (t + 1)) < (41 - t); omega) ⟨lv_sub hl [0, 1, 4, 5] rfl, hP, hD, hS, ⟨by omega, by omega, by rw [show t + 1 - 1 = (t - 1) + 1 by omega, gp_cn, show t - 1 + 1 = t by omega, hz, c127, h3]; rfl⟩⟩
            · have c64 : ¬ (12 ≤ k) := fun q => c64 ((nI_leI (a := 12) (b := k) (by omega) (by omega)).mpr q)
              have e1 := h8 t (k % 4) (k / 4) h1 (by omega) (by omega) (by omega)
              have e2 := hE t (k % 4) (k / 4) h1 (by omega) (by omega) (by omega) eN (by omega)
              rw [gp_sl_k h1] at e1 e2
              refine lv_iload hx hb d_Mo_compare_67 (lv_at hl 1 rfl) ?_
              refine lv_if_ne (tgt := 112) hx hb d_Mo_compare_69 (by decide) (fun c69 => ?_) (fun c69 => ?_)
              · have c69 : z = true := bI_1 c69
                refine lv_iconst (v := 1) hx hb d_Mo_compare_112 (by decide) ?_
                refine lv_goto (tgt := 117) hx hb d_Mo_compare_113 (by decide) ?_
                refine lv_istore (lv' := [(4, .int 1), (5, .int (nI k)), (3, .int (nI t)), (2, .int (nI ct)), (0, .ref mo), (1, .int (nI eN))]) hx hb d_Mo_compare_117 hl (by decide) rfl (fun ls hl => ?_)
                refine lv_iinc (v := nI (k + 1)) (lv' := [(5, .int (nI (k + 1))), (4, .int 1), (3, .int (nI t)), (2, .int (nI ct)), (0, .ref mo), (1, .int (nI eN))]) hx hb d_Mo_compare_119 hl (k := 1) rfl (ga_inc k) (by decide) rfl (fun ls hl => ?_)
                refine lv_goto (tgt := 60) hx hb d_Mo_compare_122 (by decide) ?_
                exact ih2 (k + 1, true) _ _ _ (by show (12 - (k + 1)) < (12 - k); omega) ⟨lv_sub hl [0, 1, 2, 3, 4, 5] rfl, hP, hD, hS, ⟨by omega, by rw [gp_otn]; first | (rw [decide_eq_true (show bn (gp_sl t 0 0 + k) ≠ ed eN (gp_sl t 0 0 + k) by omega), Bool.or_true]) | (rw [← g2, c69, Bool.true_or])⟩⟩
              · have c69 : z = false := bI_0 c69
                refine lv_aload_n hx hb d_Mo_compare_72 rfl (lv_at hl 4 rfl) ?_
                refine ga_get S hK hP 0 rfl f_Mo_13 rfl d_Mo_compare_73 ?_
                refine lv_bipush (v := 8) hx hb d_Mo_compare_76 (by decide) ?_
                refine lv_iload_n hx hb d_Mo_compare_78 rfl (lv_at hl 2 rfl) ?_
                refine lv_iload hx hb d_Mo_compare_79 (lv_at hl 0 rfl) ?_
                refine lv_iconst (v := 4) hx hb d_Mo_compare_81 (by decide) ?_
                refine lv_irem hx hb d_Mo_compare_82 (by decide) ?_
                refine ga_top (nI (k % 4)) (pk_rem (a := k) (d := 4) (by omega) (by decide) (by decide)) ?_
                refine lv_iload hx hb d_Mo_compare_83 (lv_at hl 0 rfl) ?_
                refine lv_iconst (v := 4) hx hb d_Mo_compare_85 (by decide) ?_
                refine lv_idiv hx hb d_Mo_compare_86 (by decide) ?_
                refine ga_top (nI (k / 4)) (pk_div (a := k) (d := 4) (by omega) (by decide) (by decide)) ?_
                refine ga_cs (As := [.int 8, .int (nI t), .int (nI (k % 4)), .int (nI (k / 4))]) (rest := [.ref m6]) S hK hP s_Mo_75 (gc_Mo_place l D cI cZ cC cG 8 t (k % 4) (k / 4)) [] rfl rfl hl.1 rfl (Nat.le_of_ble_eq_true rfl) ⟨Nat.le_of_ble_eq_true rfl, Nat.le_of_ble_eq_true rfl⟩ ⟨Nat.le_of_ble_eq_true rfl, Nat.le_of_ble_eq_true rfl⟩ d_Mo_compare_87 (fun r hp87 => ?_)
                subst hp87
                refine ga_ild S hK hP 1 0 rfl rfl (gm_pl 8 t (k % 4) (k / 4)) (gm_pl_lt (by decide) (by omega) (by omega) (by omega)) (by decide) d_Mo_compare_90 ?_
                have hb1 := hmb (gm_pl 8 t (k % 4) (k / 4))
                refine lv_aload_n hx hb d_Mo_compare_91 rfl (lv_at hl 4 rfl) ?_
                refine ga_get S hK hP 0 rfl f_Mo_13 rfl d_Mo_compare_92 ?_
                refine lv_iload_n hx hb d_Mo_compare_95 rfl (lv_at hl 5 rfl) ?_
                refine lv_iload_n hx hb d_Mo_compare_96 rfl (lv_at hl 2 rfl) ?_
                refine lv_iload hx hb d_Mo_compare_97 (lv_at hl 0 rfl) ?_
                refine lv_iconst (v := 4) hx hb d_Mo_compare_99 (by decide) ?_
                refine lv_irem hx hb d_Mo_compare_100 (by decide) ?_
                refine ga_top (nI (k % 4)) (pk_rem (a := k) (d := 4) (by omega) (by decide) (by decide)) ?_
                refine lv_iload hx hb d_Mo_compare_101 (lv_at hl 0 rfl) ?_
                refine lv_iconst (v := 4) hx hb d_Mo_compare_103 (by decide) ?_
                refine lv_idiv hx hb d_Mo_compare_104 (by decide) ?_
                refine ga_top (nI (k / 4)) (pk_div (a := k) (d := 4) (by omega) (by decide) (by decide)) ?_
                refine ga_cs (As := [.int (nI eN), .int (nI t), .int (nI (k % 4)), .int (nI (k / 4))]) (rest := [.ref m6, .int (nI (mb (gm_pl 8 t (k % 4) (k / 4))))]) S hK hP s_Mo_75 (gc_Mo_place l D cI cZ cC cG eN t (k % 4) (k / 4)) [] rfl rfl hl.1 rfl (Nat.le_of_ble_eq_true rfl) ⟨Nat.le_of_ble_eq_true rfl, Nat.le_of_ble_eq_true rfl⟩ ⟨Nat.le_of_ble_eq_true rfl, Nat.le_of_ble_eq_true rfl⟩ d_Mo_compare_105 (fun r hp105 => ?_)
                subst hp105
                refine ga_ild S hK hP 1 0 rfl rfl (gm_pl eN t (k % 4) (k / 4)) (gm_pl_lt (by omega) (by omega) (by omega) (by omega)) (by decide) d_Mo_compare_108 ?_
                have hb2 := hmb (gm_pl eN t (k % 4) (k / 4))
                refine lv_icmp_eq (tgt := 116) hx hb d_Mo_compare_109 (by decide) (fun c109 => ?_) (fun c109 => ?_)
                · have c109 : (mb (gm_pl 8 t (k % 4) (k / 4))) = (mb (gm_pl eN t (k % 4) (k / 4))) := (nI_eq (a := (mb (gm_pl 8 t (k % 4) (k / 4)))) (b := (mb (gm_pl eN t (k % 4) (k / 4)))) (by omega) (by omega)).mp c109
                  refine lv_iconst (v := 0) hx hb d_Mo_compare_116 (by decide) ?_
                  refine lv_istore (lv' := [(4, .int 0), (5, .int (nI k)), (3, .int (nI t)), (2, .int (nI ct)), (0, .ref mo), (1, .int (nI eN))]) hx hb d_Mo_compare_117 hl (by decide) rfl (fun ls hl => ?_)
                  refine lv_iinc (v := nI (k + 1)) (lv' := [(5, .int (nI (k + 1))), (4, .int 0), (3, .int (nI t)), (2, .int (nI ct)), (0, .ref mo), (1, .int (nI eN))]) hx hb d_Mo_compare_119 hl (k := 1) rfl (ga_inc k) (by decide) rfl (fun ls hl => ?_)
                  refine lv_goto (tgt := 60) hx hb d_Mo_compare_122 (by decide) ?_
                  exact ih2 (k + 1, false) _ _ _ (by show (12 - (k + 1)) < (12 - k); omega) ⟨lv_sub hl [0, 1, 2, 3, 4, 5] rfl, hP, hD, hS, ⟨by omega, by rw [gp_otn, ← g2, c69, decide_eq_false (show ¬ (bn (gp_sl t 0 0 + k) ≠ ed eN (gp_sl t 0 0 + k)) by omega)]; rfl⟩⟩
                · have c109 : ¬ ((mb (gm_pl 8 t (k % 4) (k / 4))) = (mb (gm_pl eN t (k % 4) (k / 4)))) := fun q => c109 ((nI_eq (a := (mb (gm_pl 8 t (k % 4) (k / 4)))) (b := (mb (gm_pl eN t (k % 4) (k / 4)))) (by omega) (by omega)).mpr q)
                  refine lv_iconst (v := 1) hx hb d_Mo_compare_112 (by decide) ?_
                  refine lv_goto (tgt := 117) hx hb d_Mo_compare_113 (by decide) ?_
                  refine lv_istore (lv' := [(4, .int 1), (5, .int (nI k)), (3, .int (nI t)), (2, .int (nI ct)), (0, .ref mo), (1, .int (nI eN))]) hx hb d_Mo_compare_117 hl (by decide) rfl (fun ls hl => ?_)
                  refine lv_iinc (v := nI (k + 1)) (lv' := [(5, .int (nI (k + 1))), (4, .int 1), (3, .int (nI t)), (2, .int (nI ct)), (0, .ref mo), (1, .int (nI eN))]) hx hb d_Mo_compare_119 hl (k := 1) rfl (ga_inc k) (by decide) rfl (fun ls hl => ?_)
                  refine lv_goto (tgt := 60) hx hb d_Mo_compare_122 (by decide) ?_
                  exact ih2 (k + 1, true) _ _ _ (by show (12 - (k + 1)) < (12 - k); omega) ⟨lv_sub hl [0, 1, 2, 3, 4, 5] rfl, hP, hD, hS, ⟨by omega, by rw [gp_otn]; first | (rw [decide_eq_true (show bn (gp_sl t 0 0 + k) ≠ ed eN (gp_sl t 0 0 + k) by omega), Bool.or_true]) | (rw [← g2, c69, Bool.true_or])⟩⟩
        · have c38 : ec = 0 := (nI_eq (a := ec) (b := 0) (by omega) (by omega)).mp c38
          refine lv_bipush (v := (-103)) hx hb d_Mo_compare_41 (by decide) ?_
          first | exact absurd c38 c11 | exact ga_wi () S hrt hlk hP hD hS (Or.inr (Or.inl ⟨c11, hp25, rfl⟩)) d_Mo_compare_43
      · exact absurd c28 (by decide)
    · refine lv_if_ne (tgt := 34) hx hb d_Mo_compare_28 (by decide) (fun c28 => ?_) (fun c28 => ?_)
      · exact absurd c28 (by decide)
      · refine lv_bipush (v := (-101)) hx hb d_Mo_compare_31 (by decide) ?_
        first | exact ga_wi () S hrt hlk hP hD hS (Or.inl ⟨c11, hp25, rfl⟩) d_Mo_compare_33 | exact ga_wi () S hrt hlk hP hD hS (Or.inr (Or.inr (Or.inl ⟨c11, hp25, rfl⟩))) d_Mo_compare_33
set_option maxHeartbeats 4000000 in
set_option maxRecDepth 100000 in
theorem gc_Mo_swap (l : Launch) (D : va_G) (cI cZ cC cG : ClassId) (mo m1 m6 m7 m8 m9 mA mB mC mD mE mF n pos ec w nw kf : Nat) (wr : Option Nat) (mb : Nat → Nat) (a b : Int32) (hec : ec ≤ 8) (hmb : ∀ j, mb j ≤ 60) : ga_Mi l y_Mo_swap b_Mo_swap 6 (some .int) 6 0 0 D (ga_T cI cZ cC cG) [.ref mo, .int a, .int b] [(mo, .inr (6, [.int 0, .ref m1, .int (nI n), .int (nI pos), .int (tI wr), .int (nI ec), .ref m6, .ref m7, .ref m8, .ref m9, .ref mA, .int (nI w), .int (nI nw), .ref mB, .ref mC, .ref mD, .int (nI kf), .ref mE, .ref mF])), (m6, .inl (cI, 4920, .inl (nA mb)))] (fun (x : Nat → Nat) => [(mo, .inr (6, [.int 0, .ref m1, .int (nI n), .int (nI pos), .int (tI wr), .int (nI ec), .ref m6, .ref m7, .ref m8, .ref m9, .ref mA, .int (nI w), .int (nI nw), .ref mB, .ref mC, .ref mD, .int (nI kf), .ref mE, .ref mF])), (m6, .inl (cI, 4920, .inl (nA x)))]) (fun r x => (¬ ((1 ≤ a ∧ a ≤ 60) ∧ (1 ≤ b ∧ b ≤ 60)) ∧ r = -101 ∧ x = mb) ∨ (((1 ≤ a ∧ a ≤ 60) ∧ (1 ≤ b ∧ b ≤ 60)) ∧ ec = 0 ∧ r = -103 ∧ x = mb) ∨ (((1 ≤ a ∧ a ≤ 60) ∧ (1 ≤ b ∧ b ≤ 60)) ∧ ec ≠ 0 ∧ r = nI (gp_cn (fun j => decide (mb (3936 + j) = a.toNatClampNeg ∨ mb (3936 + j) = b.toNatClampNeg)) 492) ∧ x = gm_ex mb a.toNatClampNeg b.toNatClampNeg 4428)) := by
  refine ga_enI (by decide) (Nat.le_of_ble_eq_true rfl) ?_
  intro p e s m below meth c ls A S hrt hlk hK hP hD hA hl
  have hS : va_S A s.heap s.heap [] := va_S.rf
  obtain ⟨hx, hb, hml, hown, hts⟩ := id S
  have hl : lv_has ls 6 [(0, .ref mo), (1, .int a), (2, .int b)] := hl
  refine lv_aload_n hx hb d_Mo_swap_0 rfl (lv_at hl 0 rfl) ?_
  refine lv_iconst (v := 0) hx hb d_Mo_swap_1 (by decide) ?_
  refine ga_put (ws' := [(mo, .inr (6, [.int 0, .ref m1, .int (nI n), .int (nI pos), .int (tI wr), .int (nI ec), .ref m6, .ref m7, .ref m8, .ref m9, .ref mA, .int (nI w), .int (nI nw), .ref mB, .ref mC, .ref mD, .int (nI kf), .ref mE, .ref mF])), (m6, .inl (cI, 4920, .inl (nA mb)))]) S hK hP hD hS 0 rfl p_Mo_48 rfl rfl (Nat.le_of_ble_eq_true rfl) rfl d_Mo_swap_2 (fun H locs hP hD hS => ?_)
  refine lv_iload_n hx hb d_Mo_swap_5 rfl (lv_at hl 1 rfl) ?_
  refine lv_iconst (v := 1) hx hb d_Mo_swap_6 (by decide) ?_
  refine lv_bipush (v := 60) hx hb d_Mo_swap_7 (by decide) ?_
  refine ga_cs (As := [.int a, .int 1, .int 60]) (rest := []) S hK hP s_Mo_97 (gc_Mo_isIn l D cI cZ cC cG a 1 60) [] rfl rfl hl.1 rfl (Nat.le_of_ble_eq_true rfl) ⟨Nat.le_of_ble_eq_true rfl, Nat.le_of_ble_eq_true rfl⟩ ⟨Nat.le_of_ble_eq_true rfl, Nat.le_of_ble_eq_true rfl⟩ d_Mo_swap_9 (fun r hp9 => ?_)
  rcases hp9 with ⟨rfl, hp9⟩ | ⟨rfl, hp9⟩
  · obtain ⟨aN, haN, rfl⟩ := nI_of2 (M := 60) (n := 60) rfl (fun q => absurd (Int32.lt_of_le_of_lt hp9.1 q) (by decide)) hp9.2
    refine lv_if_eq (tgt := 25) hx hb d_Mo_swap_12 (by decide) (fun c12 => ?_) (fun c12 => ?_)
    · exact absurd c12 (by decide)
    · refine lv_iload_n hx hb d_Mo_swap_15 rfl (lv_at hl 2 rfl) ?_
      refine lv_iconst (v := 1) hx hb d_Mo_swap_16 (by decide) ?_
      refine lv_bipush (v := 60) hx hb d_Mo_swap_17 (by decide) ?_
      refine ga_cs (As := [.int b, .int 1, .int 60]) (rest := []) S hK hP s_Mo_97 (gc_Mo_isIn l D cI cZ cC cG b 1 60) [] rfl rfl hl.1 rfl (Nat.le_of_ble_eq_true rfl) ⟨Nat.le_of_ble_eq_true rfl, Nat.le_of_ble_eq_true rfl⟩ ⟨Nat.le_of_ble_eq_true rfl, Nat.le_of_ble_eq_true rfl⟩ d_Mo_swap_19 (fun r hp19 => ?_)
      rcases hp19 with ⟨rfl, hp19⟩ | ⟨rfl, hp19⟩
      · obtain ⟨bN, hbN, rfl⟩ := nI_of2 (M := 60) (n := 60) rfl (fun q => absurd (Int32.lt_of_le_of_lt hp19.1 q) (by decide)) hp19.2
        refine lv_if_ne (tgt := 28) hx hb d_Mo_swap_22 (by decide) (fun c22 => ?_) (fun c22 => ?_)
        · refine lv_aload_n hx hb d_Mo_swap_28 rfl (lv_at hl 0 rfl) ?_
          refine ga_get S hK hP 0 rfl f_Mo_91 rfl d_Mo_swap_29 ?_
          refine lv_if_ne (tgt := 38) hx hb d_Mo_swap_32 (by decide) (fun c32 => ?_) (fun c32 => ?_)
          · have c32 : ¬ (ec = 0) := fun q => c32 ((nI_eq (a := ec) (b := 0) (by omega) (by omega)).mpr q)
            refine lv_iconst (v := 0) hx hb d_Mo_swap_38 (by decide) ?_
            refine lv_istore_n (lv' := [(3, .int 0), (0, .ref mo), (1, .int (nI aN)), (2, .int (nI bN))]) hx hb d_Mo_swap_39 rfl hl (by decide) rfl (fun ls hl => ?_)
            refine lv_sipush (v := 3936) hx hb d_Mo_swap_40 (by decide) ?_
            refine lv_istore (lv' := [(4, .int 3936), (3, .int 0), (0, .ref mo), (1, .int (nI aN)), (2, .int (nI bN))]) hx hb d_Mo_swap_43 hl (by decide) rfl (fun ls hl => ?_)
            refine ga_loop (α := Nat × Nat × (Nat → Nat)) (fun x => match x with | (k, ct, bm) => 4428 - k) (fun x ls H locs => match x with | (k, ct, bm) => lv_has ls 6 [(4, .int (nI k)), (3, .int (nI ct)), (0, .ref mo), (1, .int (nI aN)), (2, .int (nI bN))] ∧ va_P D vwCl [(mo, .inr (6, [.int 0, .ref m1, .int (nI n), .int (nI pos), .int (tI wr), .int (nI ec), .ref m6, .ref m7, .ref m8, .ref m9, .ref mA, .int (nI w), .int (nI nw), .ref mB, .ref mC, .ref mD, .int (nI kf), .ref mE, .ref mF])), (m6, .inl (cI, 4920, .inl (nA bm)))] H ∧ va_D A [(mo, .inr (6, [.int 0, .ref m1, .int (nI n), .int (nI pos), .int (tI wr), .int (nI ec), .ref m6, .ref m7, .ref m8, .ref m9, .ref mA, .int (nI w), .int (nI nw), .ref mB, .ref mC, .ref mD, .int (nI kf), .ref mE, .ref mF])), (m6, .inl (cI, 4920, .inl (nA bm)))] ∧ va_S A s.heap H locs ∧ 3936 ≤ k ∧ k ≤ 4428 ∧ ct = gp_cn (fun j => decide (mb (3936 + j) = aN ∨ mb (3936 + j) = bN)) (k - 3936) ∧ bm = gm_ex mb aN bN k) ?_ (3936, 0, mb) ⟨lv_sub hl [0, 1, 2, 3, 4] rfl, hP, hD, hS, ⟨by decide, by decide, rfl, (gm_ex_0 _ _ _).symm⟩⟩
            intro x ls H locs hI ih
            obtain ⟨k, ct, bm⟩ := x
            obtain ⟨hl, hP, hD, hS, ⟨h1, h2, h3, h4⟩⟩ := hI
            have hl : lv_has ls 6 [(4, .int (nI k)), (3, .int (nI ct)), (0, .ref mo), (1, .int (nI aN)), (2, .int (nI bN))] := hl
            have hP : va_P D vwCl [(mo, .inr (6, [.int 0, .ref m1, .int (nI n), .int (nI pos), .int (tI wr), .int (nI ec), .ref m6, .ref m7, .ref m8, .ref m9, .ref mA, .int (nI w), .int (nI nw), .ref mB, .ref mC, .ref mD, .int (nI kf), .ref mE, .ref mF])), (m6, .inl (cI, 4920, .inl (nA bm)))] H := hP
            have hD : va_D A [(mo, .inr (6, [.int 0, .ref m1, .int (nI n), .int (nI pos), .int (tI wr), .int (nI ec), .ref m6, .ref m7, .ref m8, .ref m9, .ref mA, .int (nI w), .int (nI nw), .ref mB, .ref mC, .ref mD, .int (nI kf), .ref mE, .ref mF])), (m6, .inl (cI, 4920, .inl (nA bm)))] := hD
            refine lv_iload hx hb d_Mo_swap_45 (lv_at hl 0 rfl) ?_
            refine lv_sipush (v := 4428) hx hb d_Mo_swap_47 (by decide) ?_
            refine lv_icmp_ge (tgt := 117) hx hb d_Mo_swap_50 (by decide) (fun c50 => ?_) (fun c50 => ?_)
            · have c50 : 4428 ≤ k := (nI_leI (a := 4428) (b := k) (by omega) (by omega)).mp c50
              refine lv_iload_n hx hb d_Mo_swap_117 rfl (lv_at hl 1 rfl) ?_
              obtain rfl : k = 4428 := by omega
              exact ga_wi bm S hrt hlk hP hD hS (Or.inr (Or.inr ⟨⟨hp9, hp19⟩, c32, by rw [nI_clamp (by omega), nI_clamp (by omega), h3], by rw [nI_clamp (by omega), nI_clamp (by omega), h4]⟩)) d_Mo_swap_118
            · have c50 : ¬ (4428 ≤ k) := fun q => c50 ((nI_leI (a := 4428) (b := k) (by omega) (by omega)).mpr q)
              refine lv_aload_n hx hb d_Mo_swap_53 rfl (lv_at hl 2 rfl) ?_
              refine ga_get S hK hP 0 rfl f_Mo_13 rfl d_Mo_swap_54 ?_
              refine lv_iload hx hb d_Mo_swap_57 (lv_at hl 0 rfl) ?_
              refine ga_ild S hK hP 1 0 rfl rfl k (by omega) (by decide) d_Mo_swap_59 ?_
              have hbi : bm k = mb k := by rw [h4, gm_ex_at]
              have hb60 := hmb k
              refine lv_istore (lv' := [(5, .int (nI (bm k))), (4, .int (nI k)), (3, .int (nI ct)), (0, .ref mo), (1, .int (nI aN)), (2, .int (nI bN))]) hx hb d_Mo_swap_60 hl (by decide) rfl (fun ls hl => ?_)
              refine lv_iload hx hb d_Mo_swap_62 (lv_at hl 0 rfl) ?_
              refine lv_iload_n hx hb d_Mo_swap_64 rfl (lv_at hl 4 rfl) ?_
              refine lv_icmp_eq (tgt := 74) hx hb d_Mo_swap_65 (by decide) (fun c65 => ?_) (fun c65 => ?_)
              · have c65 : (bm k) = aN := (nI_eq (a := (bm k)) (b := aN) (by omega) (by omega)).mp c65
                refine lv_iload_n hx hb d_Mo_swap_74 rfl (lv_at hl 2 rfl) ?_
                refine lv_iconst (v := 1) hx hb d_Mo_swap_75 (by decide) ?_
                refine lv_iadd hx hb d_Mo_swap_76 ?_
                refine ga_top (nI (ct + 1)) (nI_add ct 1) ?_
                refine lv_goto (tgt := 81) hx hb d_Mo_swap_77 (by decide) ?_
                refine lv_istore_n (lv' := [(3, .int (nI (ct + 1))), (5, .int (nI (bm k))), (4, .int (nI k)), (0, .ref mo), (1, .int (nI aN)), (2, .int (nI bN))]) hx hb d_Mo_swap_81 rfl hl (by decide) rfl (fun ls hl => ?_)
                refine lv_aload_n hx hb d_Mo_swap_82 rfl (lv_at hl 3 rfl) ?_
                refine ga_get S hK hP 0 rfl f_Mo_13 rfl d_Mo_swap_83 ?_
                refine lv_iload hx hb d_Mo_swap_86 (lv_at hl 2 rfl) ?_
                refine lv_iload hx hb d_Mo_swap_88 (lv_at hl 1 rfl) ?_
                refine lv_iload_n hx hb d_Mo_swap_90 rfl (lv_at hl 4 rfl) ?_
                refine lv_icmp_ne (tgt := 98) hx hb d_Mo_swap_91 (by decide) (fun c91 => ?_) (fun c91 => ?_)
                · have c91 : ¬ ((bm k) = aN) := fun q => c91 ((nI_eq (a := (bm k)) (b := aN) (by omega) (by omega)).mpr q)
                  refine lv_iload hx hb d_Mo_swap_98 (lv_at hl 1 rfl) ?_
                  refine lv_iload_n hx hb d_Mo_swap_100 rfl (lv_at hl 5 rfl) ?_
                  refine lv_icmp_ne (tgt := 108) hx hb d_Mo_swap_101 (by decide) (fun c101 => ?_) (fun c101 => ?_)
                  · have c101 : ¬ ((bm k) = bN) := fun q => c101 ((nI_eq (a := (bm k)) (b := bN) (by omega) (by omega)).mpr q)
                    refine lv_iload hx hb d_Mo_swap_108 (lv_at hl 1 rfl) ?_
                    refine ga_ist (ws' := [(mo, .inr (6, [.int 0, .ref m1, .int (nI n), .int (nI pos), .int (tI wr), .int (nI ec), .ref m6, .ref m7, .ref m8, .ref m9, .ref mA, .int (nI w), .int (nI nw), .ref mB, .ref mC, .ref mD, .int (nI kf), .ref mE, .ref mF])), (m6, .inl (cI, 4920, .inl (nA (va_up bm k (bm k)))))]) S hK hP hD hS 1 0 rfl rfl k (bm k) (by omega) (by decide) rfl d_Mo_swap_110 (fun H locs hP hD hS => ?_)
                    refine lv_iinc (v := nI (k + 1)) (lv' := [(4, .int (nI (k + 1))), (3, .int (nI (ct + 1))), (5, .int (nI (bm k))), (0, .ref mo), (1, .int (nI aN)), (2, .int (nI bN))]) hx hb d_Mo_swap_111 hl (k := 2) rfl (ga_inc k) (by decide) rfl (fun ls hl => ?_)
                    refine lv_goto (tgt := 45) hx hb d_Mo_swap_114 (by decide) ?_
                    exact ih (k + 1, ct + 1, va_up bm k (bm k)) _ _ _ (by show (4428 - (k + 1)) < (4428 - k); omega) ⟨lv_sub hl [0, 1, 3, 4, 5] rfl, hP, hD, hS, ⟨by omega, by omega, by rw [show k + 1 - 3936 = (k - 3936) + 1 by omega, gp_cn, ← h3, show 3936 + (k - 3936) = k by omega]; first | (exfalso; omega) | rw [gp_dec1 (by omega)] | rw [gp_dec0 (by omega), Nat.add_zero], gm_ex_up h4 h1 (by unfold gp_sw; first | (exfalso; omega) | rw [if_pos (by omega)] | rw [if_neg (by omega), if_pos (by omega)] | (rw [if_neg (by omega), if_neg (by omega)]; exact hbi))⟩⟩
                  · have c101 : (bm k) = bN := (nI_eq (a := (bm k)) (b := bN) (by omega) (by omega)).mp c101
                    refine lv_iload_n hx hb d_Mo_swap_104 rfl (lv_at hl 4 rfl) ?_
                    refine lv_goto (tgt := 110) hx hb d_Mo_swap_105 (by decide) ?_
                    refine ga_ist (ws' := [(mo, .inr (6, [.int 0, .ref m1, .int (nI n), .int (nI pos), .int (tI wr), .int (nI ec), .ref m6, .ref m7, .ref m8, .ref m9, .ref mA, .int (nI w), .int (nI nw), .ref mB, .ref mC, .ref mD, .int (nI kf), .ref mE, .ref mF])), (m6, .inl (cI, 4920, .inl (nA (va_up bm k aN))))]) S hK hP hD hS 1 0 rfl rfl k aN (by omega) (by decide) rfl d_Mo_swap_110 (fun H locs hP hD hS => ?_)
                    refine lv_iinc (v := nI (k + 1)) (lv' := [(4, .int (nI (k + 1))), (3, .int (nI (ct + 1))), (5, .int (nI (bm k))), (0, .ref mo), (1, .int (nI aN)), (2, .int (nI bN))]) hx hb d_Mo_swap_111 hl (k := 2) rfl (ga_inc k) (by decide) rfl (fun ls hl => ?_)
                    refine lv_goto (tgt := 45) hx hb d_Mo_swap_114 (by decide) ?_
                    exact ih (k + 1, ct + 1, va_up bm k aN) _ _ _ (by show (4428 - (k + 1)) < (4428 - k); omega) ⟨lv_sub hl [0, 1, 3, 4, 5] rfl, hP, hD, hS, ⟨by omega, by omega, by rw [show k + 1 - 3936 = (k - 3936) + 1 by omega, gp_cn, ← h3, show 3936 + (k - 3936) = k by omega]; first | (exfalso; omega) | rw [gp_dec1 (by omega)] | rw [gp_dec0 (by omega), Nat.add_zero], gm_ex_up h4 h1 (by unfold gp_sw; first | (exfalso; omega) | rw [if_pos (by omega)] | rw [if_neg (by omega), if_pos (by omega)] | (rw [if_neg (by omega), if_neg (by omega)]; exact hbi))⟩⟩
                · have c91 : (bm k) = aN := (nI_eq (a := (bm k)) (b := aN) (by omega) (by omega)).mp c91
                  refine lv_iload_n hx hb d_Mo_swap_94 rfl (lv_at hl 5 rfl) ?_
                  refine lv_goto (tgt := 110) hx hb d_Mo_swap_95 (by decide) ?_
                  refine ga_ist (ws' := [(mo, .inr (6, [.int 0, .ref m1, .int (nI n), .int (nI pos), .int (tI wr), .int (nI ec), .ref m6, .ref m7, .ref m8, .ref m9, .ref mA, .int (nI w), .int (nI nw), .ref mB, .ref mC, .ref mD, .int (nI kf), .ref mE, .ref mF])), (m6, .inl (cI, 4920, .inl (nA (va_up bm k bN))))]) S hK hP hD hS 1 0 rfl rfl k bN (by omega) (by decide) rfl d_Mo_swap_110 (fun H locs hP hD hS => ?_)
                  refine lv_iinc (v := nI (k + 1)) (lv' := [(4, .int (nI (k + 1))), (3, .int (nI (ct + 1))), (5, .int (nI (bm k))), (0, .ref mo), (1, .int (nI aN)), (2, .int (nI bN))]) hx hb d_Mo_swap_111 hl (k := 2) rfl (ga_inc k) (by decide) rfl (fun ls hl => ?_)
                  refine lv_goto (tgt := 45) hx hb d_Mo_swap_114 (by decide) ?_
                  exact ih (k + 1, ct + 1, va_up bm k bN) _ _ _ (by show (4428 - (k + 1)) < (4428 - k); omega) ⟨lv_sub hl [0, 1, 3, 4, 5] rfl, hP, hD, hS, ⟨by omega, by omega, by rw [show k + 1 - 3936 = (k - 3936) + 1 by omega, gp_cn, ← h3, show 3936 + (k - 3936) = k by omega]; first | (exfalso; omega) | rw [gp_dec1 (by omega)] | rw [gp_dec0 (by omega), Nat.add_zero], gm_ex_up h4 h1 (by unfold gp_sw; first | (exfalso; omega) | rw [if_pos (by omega)] | rw [if_neg (by omega), if_pos (by omega)] | (rw [if_neg (by omega), if_neg (by omega)]; exact hbi))⟩⟩
              · have c65 : ¬ ((bm k) = aN) := fun q => c65 ((nI_eq (a := (bm k)) (b := aN) (by omega) (by omega)).mpr q)
                refine lv_iload hx hb d_Mo_swap_68 (lv_at hl 0 rfl) ?_
                refine lv_iload_n hx hb d_Mo_swap_70 rfl (lv_at hl 5 rfl) ?_
                refine lv_icmp_ne (tgt := 80) hx hb d_Mo_swap_71 (by decide) (fun c71 => ?_) (fun c71 => ?_)
                · have c71 : ¬ ((bm k) = bN) := fun q => c71 ((nI_eq (a := (bm k)) (b := bN) (by omega) (by omega)).mpr q)
                  refine lv_iload_n hx hb d_Mo_swap_80 rfl (lv_at hl 2 rfl) ?_
                  refine lv_istore_n (lv' := [(3, .int (nI ct)), (5, .int (nI (bm k))), (4, .int (nI k)), (0, .ref mo), (1, .int (nI aN)), (2, .int (nI bN))]) hx hb d_Mo_swap_81 rfl hl (by decide) rfl (fun ls hl => ?_)
                  refine lv_aload_n hx hb d_Mo_swap_82 rfl (lv_at hl 3 rfl) ?_
                  refine ga_get S hK hP 0 rfl f_Mo_13 rfl d_Mo_swap_83 ?_
                  refine lv_iload hx hb d_Mo_swap_86 (lv_at hl 2 rfl) ?_
                  refine lv_iload hx hb d_Mo_swap_88 (lv_at hl 1 rfl) ?_
                  refine lv_iload_n hx hb d_Mo_swap_90 rfl (lv_at hl 4 rfl) ?_
                  refine lv_icmp_ne (tgt := 98) hx hb d_Mo_swap_91 (by decide) (fun c91 => ?_) (fun c91 => ?_)
                  · have c91 : ¬ ((bm k) = aN) := fun q => c91 ((nI_eq (a := (bm k)) (b := aN) (by omega) (by omega)).mpr q)
                    refine lv_iload hx hb d_Mo_swap_98 (lv_at hl 1 rfl) ?_
                    refine lv_iload_n hx hb d_Mo_swap_100 rfl (lv_at hl 5 rfl) ?_
                    refine lv_icmp_ne (tgt := 108) hx hb d_Mo_swap_101 (by decide) (fun c101 => ?_) (fun c101 => ?_)
                    · have c101 : ¬ ((bm k) = bN) := fun q => c101 ((nI_eq (a := (bm k)) (b := bN) (by omega) (by omega)).mpr q)
                      refine lv_iload hx hb d_Mo_swap_108 (lv_at hl 1 rfl) ?_
                      refine ga_ist (ws' := [(mo, .inr (6, [.int 0, .ref m1, .int (nI n), .int (nI pos), .int (tI wr), .int (nI ec), .ref m6, .ref m7, .ref m8, .ref m9, .ref mA, .int (nI w), .int (nI nw), .ref mB, .ref mC, .ref mD, .int (nI kf), .ref mE, .ref mF])), (m6, .inl (cI, 4920, .inl (nA (va_up bm k (bm k)))))]) S hK hP hD hS 1 0 rfl rfl k (bm k) (by omega) (by decide) rfl d_Mo_swap_110 (fun H locs hP hD hS => ?_)
                      refine lv_iinc (v := nI (k + 1)) (lv' := [(4, .int (nI (k + 1))), (3, .int (nI ct)), (5, .int (nI (bm k))), (0, .ref mo), (1, .int (nI aN)), (2, .int (nI bN))]) hx hb d_Mo_swap_111 hl (k := 2) rfl (ga_inc k) (by decide) rfl (fun ls hl => ?_)
                      refine lv_goto (tgt := 45) hx hb d_Mo_swap_114 (by decide) ?_
                      exact ih (k + 1, ct, va_up bm k (bm k)) _ _ _ (by show (4428 - (k + 1)) < (4428 - k); omega) ⟨lv_sub hl [0, 1, 3, 4, 5] rfl, hP, hD, hS, ⟨by omega, by omega, by rw [show k + 1 - 3936 = (k - 3936) + 1 by omega, gp_cn, ← h3, show 3936 + (k - 3936) = k by omega]; first | (exfalso; omega) | rw [gp_dec1 (by omega)] | rw [gp_dec0 (by omega), Nat.add_zero], gm_ex_up h4 h1 (by unfold gp_sw; first | (exfalso; omega) | rw [if_pos (by omega)] | rw [if_neg (by omega), if_pos (by omega)] | (rw [if_neg (by omega), if_neg (by omega)]; exact hbi))⟩⟩
                    · have c101 : (bm k) = bN := (nI_eq (a := (bm k)) (b := bN) (by omega) (by omega)).mp c101
                      refine lv_iload_n hx hb d_Mo_swap_104 rfl (lv_at hl 4 rfl) ?_
                      refine lv_goto (tgt := 110) hx hb d_Mo_swap_105 (by decide) ?_
                      refine ga_ist (ws' := [(mo, .inr (6, [.int 0, .ref m1, .int (nI n), .int (nI pos), .int (tI wr), .int (nI ec), .ref m6, .ref m7, .ref m8, .ref m9, .ref mA, .int (nI w), .int (nI nw), .ref mB, .ref mC, .ref mD, .int (nI kf), .ref mE, .ref mF])), (m6, .inl (cI, 4920, .inl (nA (va_up bm k aN))))]) S hK hP hD hS 1 0 rfl rfl k aN (by omega) (by decide) rfl d_Mo_swap_110 (fun H locs hP hD hS => ?_)
                      refine lv_iinc (v := nI (k + 1)) (lv' := [(4, .int (nI (k + 1))), (3, .int (nI ct)), (5, .int (nI (bm k))), (0, .ref mo), (1, .int (nI aN)), (2, .int (nI bN))]) hx hb d_Mo_swap_111 hl (k := 2) rfl (ga_inc k) (by decide) rfl (fun ls hl => ?_)
                      refine lv_goto (tgt := 45) hx hb d_Mo_swap_114 (by decide) ?_
                      exact ih (k + 1, ct, va_up bm k aN) _ _ _ (by show (4428 - (k + 1)) < (4428 - k); omega) ⟨lv_sub hl [0, 1, 3, 4, 5] rfl, hP, hD, hS, ⟨by omega, by omega, by rw [show k + 1 - 3936 = (k - 3936) + 1 by omega, gp_cn, ← h3, show 3936 + (k - 3936) = k by omega]; first | (exfalso; omega) | rw [gp_dec1 (by omega)] | rw [gp_dec0 (by omega), Nat.add_zero], gm_ex_up h4 h1 (by unfold gp_sw; first | (exfalso; omega) | rw [if_pos (by omega)] | rw [if_neg (by omega), if_pos (by omega)] | (rw [if_neg (by omega), if_neg (by omega)]; exact hbi))⟩⟩
                  · have c91 : (bm k) = aN := (nI_eq (a := (bm k)) (b := aN) (by omega) (by omega)).mp c91
                    refine lv_iload_n hx hb d_Mo_swap_94 rfl (lv_at hl 5 rfl) ?_
                    refine lv_goto (tgt := 110) hx hb d_Mo_swap_95 (by decide) ?_
                    refine ga_ist (ws' := [(mo, .inr (6, [.int 0, .ref m1, .int (nI n), .int (nI pos), .int (tI wr), .int (nI ec), .ref m6, .ref m7, .ref m8, .ref m9, .ref mA, .int (nI w), .int (nI nw), .ref mB, .ref mC, .ref mD, .int (nI kf), .ref mE, .ref mF])), (m6, .inl (cI, 4920, .inl (nA (va_up bm k bN))))]) S hK hP hD hS 1 0 rfl rfl k bN (by omega) (by decide) rfl d_Mo_swap_110 (fun H locs hP hD hS => ?_)
                    refine lv_iinc (v := nI (k + 1)) (lv' := [(4, .int (nI (k + 1))), (3, .int (nI ct)), (5, .int (nI (bm k))), (0, .ref mo), (1, .int (nI aN)), (2, .int (nI bN))]) hx hb d_Mo_swap_111 hl (k := 2) rfl (ga_inc k) (by decide) rfl (fun ls hl => ?_)
                    refine lv_goto (tgt := 45) hx hb d_Mo_swap_114 (by decide) ?_
                    exact ih (k + 1, ct, va_up bm k bN) _ _ _ (by show (4428 - (k + 1)) < (4428 - k); omega) ⟨lv_sub hl [0, 1, 3, 4, 5] rfl, hP, hD, hS, ⟨by omega, by omega, by rw [show k + 1 - 3936 = (k - 3936) + 1 by omega, gp_cn, ← h3, show 3936 + (k - 3936) = k by omega]; first | (exfalso; omega) | rw [gp_dec1 (by omega)] | rw [gp_dec0 (by omega), Nat.add_zero], gm_ex_up h4 h1 (by unfold gp_sw; first | (exfalso; omega) | rw [if_pos (by omega)] | rw [if_neg (by omega), if_pos (by omega)] | (rw [if_neg (by omega), if_neg (by omega)]; exact hbi))⟩⟩
                · have c71 : (bm k) = bN := (nI_eq (a := (bm k)) (b := bN) (by omega) (by omega)).mp c71
                  refine lv_iload_n hx hb d_Mo_swap_74 rfl (lv_at hl 2 rfl) ?_
                  refine lv_iconst (v := 1) hx hb d_Mo_swap_75 (by decide) ?_
                  refine lv_iadd hx hb d_Mo_swap_76 ?_
                  refine ga_top (nI (ct + 1)) (nI_add ct 1) ?_
                  refine lv_goto (tgt := 81) hx hb d_Mo_swap_77 (by decide) ?_
                  refine lv_istore_n (lv' := [(3, .int (nI (ct + 1))), (5, .int (nI (bm k))), (4, .int (nI k)), (0, .ref mo), (1, .int (nI aN)), (2, .int (nI bN))]) hx hb d_Mo_swap_81 rfl hl (by decide) rfl (fun ls hl => ?_)
                  refine lv_aload_n hx hb d_Mo_swap_82 rfl (lv_at hl 3 rfl) ?_
                  refine ga_get S hK hP 0 rfl f_Mo_13 rfl d_Mo_swap_83 ?_
                  refine lv_iload hx hb d_Mo_swap_86 (lv_at hl 2 rfl) ?_
                  refine lv_iload hx hb d_Mo_swap_88 (lv_at hl 1 rfl) ?_
                  refine lv_iload_n hx hb d_Mo_swap_90 rfl (lv_at hl 4 rfl) ?_
                  refine lv_icmp_ne (tgt := 98) hx hb d_Mo_swap_91 (by decide) (fun c91 => ?_) (fun c91 => ?_)
                  · have c91 : ¬ ((bm k) = aN) := fun q => c91 ((nI_eq (a := (bm k)) (b := aN) (by omega) (by omega)).mpr q)
                    refine lv_iload hx hb d_Mo_swap_98 (lv_at hl 1 rfl) ?_
                    refine lv_iload_n hx hb d_Mo_swap_100 rfl (lv_at hl 5 rfl) ?_
                    refine lv_icmp_ne (tgt := 108) hx hb d_Mo_swap_101 (by decide) (fun c101 => ?_) (fun c101 => ?_)
                    · have c101 : ¬ ((bm k) = bN) := fun q => c101 ((nI_eq (a := (bm k)) (b := bN) (by omega) (by omega)).mpr q)
                      refine lv_iload hx hb d_Mo_swap_108 (lv_at hl 1 rfl) ?_
                      refine ga_ist (ws' := [(mo, .inr (6, [.int 0, .ref m1, .int (nI n), .int (nI pos), .int (tI wr), .int (nI ec), .ref m6, .ref m7, .ref m8, .ref m9, .ref mA, .int (nI w), .int (nI nw), .ref mB, .ref mC, .ref mD, .int (nI kf), .ref mE, .ref mF])), (m6, .inl (cI, 4920, .inl (nA (va_up bm k (bm k)))))]) S hK hP hD hS 1 0 rfl rfl k (bm k) (by omega) (by decide) rfl d_Mo_swap_110 (fun H locs hP hD hS => ?_)
                      refine lv_iinc (v := nI (k + 1)) (lv' := [(4, .int (nI (k + 1))), (3, .int (nI (ct + 1))), (5, .int (nI (bm k))), (0, .ref mo), (1, .int (nI aN)), (2, .int (nI bN))]) hx hb d_Mo_swap_111 hl (k := 2) rfl (ga_inc k) (by decide) rfl (fun ls hl => ?_)
                      refine lv_goto (tgt := 45) hx hb d_Mo_swap_114 (by decide) ?_
                      exact ih (k + 1, ct + 1, va_up bm k (bm k)) _ _ _ (by show (4428 - (k + 1)) < (4428 - k); omega) ⟨lv_sub hl [0, 1, 3, 4, 5] rfl, hP, hD, hS, ⟨by omega, by omega, by rw [show k + 1 - 3936 = (k - 3936) + 1 by omega, gp_cn, ← h3, show 3936 + (k - 3936) = k by omega]; first | (exfalso; omega) | rw [gp_dec1 (by omega)] | rw [gp_dec0 (by omega), Nat.add_zero], gm_ex_up h4 h1 (by unfold gp_sw; first | (exfalso; omega) | rw [if_pos (by omega)] | rw [if_neg (by omega), if_pos (by omega)] | (rw [if_neg (by omega), if_neg (by omega)]; exact hbi))⟩⟩
                    · have c101 : (bm k) = bN := (nI_eq (a := (bm k)) (b := bN) (by omega) (by omega)).mp c101
                      refine lv_iload_n hx hb d_Mo_swap_104 rfl (lv_at hl 4 rfl) ?_
                      refine lv_goto (tgt := 110) hx hb d_Mo_swap_105 (by decide) ?_
                      refine ga_ist (ws' := [(mo, .inr (6, [.int 0, .ref m1, .int (nI n), .int (nI pos), .int (tI wr), .int (nI ec), .ref m6, .ref m7, .ref m8, .ref m9, .ref mA, .int (nI w), .int (nI nw), .ref mB, .ref mC, .ref mD, .int (nI kf), .ref mE, .ref mF])), (m6, .inl (cI, 4920, .inl (nA (va_up bm k aN))))]) S hK hP hD hS 1 0 rfl rfl k aN (by omega) (by decide) rfl d_Mo_swap_110 (fun H locs hP hD hS => ?_)
                      refine lv_iinc (v := nI (k + 1)) (lv' := [(4, .int (nI (k + 1))), (3, .int (nI (ct + 1))), (5, .int (nI (bm k))), (0, .ref mo), (1, .int (nI aN)), (2, .int (nI bN))]) hx hb d_Mo_swap_111 hl (k := 2) rfl (ga_inc k) (by decide) rfl (fun ls hl => ?_)
                      refine lv_goto (tgt := 45) hx hb d_Mo_swap_114 (by decide) ?_
                      exact ih (k + 1, ct + 1, va_up bm k aN) _ _ _ (by show (4428 - (k + 1)) < (4428 - k); omega) ⟨lv_sub hl [0, 1, 3, 4, 5] rfl, hP, hD, hS, ⟨by omega, by omega, by rw [show k + 1 - 3936 = (k - 3936) + 1 by omega, gp_cn, ← h3, show 3936 + (k - 3936) = k by omega]; first | (exfalso; omega) | rw [gp_dec1 (by omega)] | rw [gp_dec0 (by omega), Nat.add_zero], gm_ex_up h4 h1 (by unfold gp_sw; first | (exfalso; omega) | rw [if_pos (by omega)] | rw [if_neg (by omega), if_pos (by omega)] | (rw [if_neg (by omega), if_neg (by omega)]; exact hbi))⟩⟩
                  · have c91 : (bm k) = aN := (nI_eq (a := (bm k)) (b := aN) (by omega) (by omega)).mp c91
                    refine lv_iload_n hx hb d_Mo_swap_94 rfl (lv_at hl 5 rfl) ?_
                    refine lv_goto (tgt := 110) hx hb d_Mo_swap_95 (by decide) ?_
                    refine ga_ist (ws' := [(mo, .inr (6, [.int 0, .ref m1, .int (nI n), .int (nI pos), .int (tI wr), .int (nI ec), .ref m6, .ref m7, .ref m8, .ref m9, .ref mA, .int (nI w), .int (nI nw), .ref mB, .ref mC, .ref mD, .int (nI kf), .ref mE, .ref mF])), (m6, .inl (cI, 4920, .inl (nA (va_up bm k bN))))]) S hK hP hD hS 1 0 rfl rfl k bN (by omega) (by decide) rfl d_Mo_swap_110 (fun H locs hP hD hS => ?_)
                    refine lv_iinc (v := nI (k + 1)) (lv' := [(4, .int (nI (k + 1))), (3, .int (nI (ct + 1))), (5, .int (nI (bm k))), (0, .ref mo), (1, .int (nI aN)), (2, .int (nI bN))]) hx hb d_Mo_swap_111 hl (k := 2) rfl (ga_inc k) (by decide) rfl (fun ls hl => ?_)
                    refine lv_goto (tgt := 45) hx hb d_Mo_swap_114 (by decide) ?_
                    exact ih (k + 1, ct + 1, va_up bm k bN) _ _ _ (by show (4428 - (k + 1)) < (4428 - k); omega) ⟨lv_sub hl [0, 1, 3, 4, 5] rfl, hP, hD, hS, ⟨by omega, by omega, by rw [show k + 1 - 3936 = (k - 3936) + 1 by omega, gp_cn, ← h3, show 3936 + (k - 3936) = k by omega]; first | (exfalso; omega) | rw [gp_dec1 (by omega)] | rw [gp_dec0 (by omega), Nat.add_zero], gm_ex_up h4 h1 (by unfold gp_sw; first | (exfalso; omega) | rw [if_pos (by omega)] | rw [if_neg (by omega), if_pos (by omega)] | (rw [if_neg (by omega), if_neg (by omega)]; exact hbi))⟩⟩
          · have c32 : ec = 0 := (nI_eq (a := ec) (b := 0) (by omega) (by omega)).mp c32
            refine lv_bipush (v := (-103)) hx hb d_Mo_swap_35 (by decide) ?_
            exact ga_wi mb S hrt hlk hP hD hS (Or.inr (Or.inl ⟨⟨hp9, hp19⟩, c32, rfl, rfl⟩)) d_Mo_swap_37
        · exact absurd c22 (by decide)
      · refine lv_if_ne (tgt := 28) hx hb d_Mo_swap_22 (by decide) (fun c22 => ?_) (fun c22 => ?_)
        · exact absurd c22 (by decide)
        · refine lv_bipush (v := (-101)) hx hb d_Mo_swap_25 (by decide) ?_
          exact ga_wi mb S hrt hlk hP hD hS (Or.inl ⟨(fun q => by first | exact hp9 q.1 | exact hp19 q.2), rfl, rfl⟩) d_Mo_swap_27
  · refine lv_if_eq (tgt := 25) hx hb d_Mo_swap_12 (by decide) (fun c12 => ?_) (fun c12 => ?_)
    · refine lv_bipush (v := (-101)) hx hb d_Mo_swap_25 (by decide) ?_
      exact ga_wi mb S hrt hlk hP hD hS (Or.inl ⟨(fun q => by first | exact hp9 q.1 | exact hp19 q.2), rfl, rfl⟩) d_Mo_swap_27
    · exact absurd c12 (by decide)
set_option maxHeartbeats 4000000 in
set_option maxRecDepth 100000 in
theorem gc_Mo_write (l : Launch) (D : va_G) (cI cZ cC cG : ClassId) (mo m1 m6 m7 m8 m9 mA mB mC mD mE mF n pos ec w nw kf : Nat) (wr : Option Nat) (g : Nat → Nat) (nn v : Nat) (L : List Nat) (hL : gp_hs g nn L) (hnn : nn + 2 ≤ 2000) (hv : v ≤ 99) : ga_Mi l y_Mo_write b_Mo_write 4 (some .int) 0 0 0 D (ga_T cI cZ cC cG) [.ref mo, .int (nI nn), .int (nI v)] [(mo, .inr (6, [.int 0, .ref m1, .int (nI n), .int (nI pos), .int (tI wr), .int (nI ec), .ref m6, .ref m7, .ref m8, .ref m9, .ref mA, .int (nI w), .int (nI nw), .ref mB, .ref mC, .ref mD, .int (nI kf), .ref mE, .ref mF])), (mF, .inl (cI, 2000, .inl (nA g)))] (fun (x : Nat → Nat) => [(mo, .inr (6, [.int 0, .ref m1, .int (nI n), .int (nI pos), .int (tI wr), .int (nI ec), .ref m6, .ref m7, .ref m8, .ref m9, .ref mA, .int (nI w), .int (nI nw), .ref mB, .ref mC, .ref mD, .int (nI kf), .ref mE, .ref mF])), (mF, .inl (cI, 2000, .inl (nA x)))]) (fun r x => ∃ n2, r = nI n2 ∧ gp_hs x n2 (L ++ gp_dl v)) := by
  refine ga_enI (by decide) (Nat.le_of_ble_eq_true rfl) ?_
  intro p e s m below meth c ls A S hrt hlk hK hP hD hA hl
  have hS : va_S A s.heap s.heap [] := va_S.rf
  obtain ⟨hx, hb, hml, hown, hts⟩ := id S
  have hl : lv_has ls 4 [(0, .ref mo), (1, .int (nI nn)), (2, .int (nI v))] := hl
  refine lv_iload_n hx hb d_Mo_write_0 rfl (lv_at hl 1 rfl) ?_
  refine lv_istore_n (lv' := [(3, .int (nI nn)), (0, .ref mo), (1, .int (nI nn)), (2, .int (nI v))]) hx hb d_Mo_write_1 rfl hl (by decide) rfl (fun ls hl => ?_)
  refine lv_iload_n hx hb d_Mo_write_2 rfl (lv_at hl 3 rfl) ?_
  refine lv_bipush (v := 9) hx hb d_Mo_write_3 (by decide) ?_
  refine lv_icmp_le (tgt := 24) hx hb d_Mo_write_5 (by decide) (fun c5 => ?_) (fun c5 => ?_)
  · have c5 : v ≤ 9 := (nI_leI (a := v) (b := 9) (by omega) (by omega)).mp c5
    refine lv_aload_n hx hb d_Mo_write_24 rfl (lv_at hl 1 rfl) ?_
    refine ga_get S hK hP 0 rfl f_Mo_41 rfl d_Mo_write_25 ?_
    refine lv_iload_n hx hb d_Mo_write_28 rfl (lv_at hl 0 rfl) ?_
    refine lv_bipush (v := 48) hx hb d_Mo_write_29 (by decide) ?_
    refine lv_iload_n hx hb d_Mo_write_31 rfl (lv_at hl 3 rfl) ?_
    refine lv_bipush (v := 10) hx hb d_Mo_write_32 (by decide) ?_
    refine lv_irem hx hb d_Mo_write_34 (by decide) ?_
    refine ga_top (nI (v % 10)) (pk_rem (a := v) (d := 10) (by omega) (by decide) (by decide)) ?_
    refine lv_iadd hx hb d_Mo_write_35 ?_
    refine ga_top (nI (48 + (v % 10))) (nI_add 48 (v % 10)) ?_
    refine ga_ist (ws' := [(mo, .inr (6, [.int 0, .ref m1, .int (nI n), .int (nI pos), .int (tI wr), .int (nI ec), .ref m6, .ref m7, .ref m8, .ref m9, .ref mA, .int (nI w), .int (nI nw), .ref mB, .ref mC, .ref mD, .int (nI kf), .ref mE, .ref mF])), (mF, .inl (cI, 2000, .inl (nA (va_up g nn (48 + (v % 10))))))]) S hK hP hD hS 1 0 rfl rfl nn (48 + (v % 10)) (by omega) (by decide) rfl d_Mo_write_36 (fun H locs hP hD hS => ?_)
    refine lv_iload_n hx hb d_Mo_write_37 rfl (lv_at hl 0 rfl) ?_
    refine lv_iconst (v := 1) hx hb d_Mo_write_38 (by decide) ?_
    refine lv_iadd hx hb d_Mo_write_39 ?_
    refine ga_top (nI (nn + 1)) (nI_add nn 1) ?_
    exact ga_wi (va_up g nn (48 + (v % 10))) S hrt hlk hP hD hS ⟨nn + 1, rfl, by rw [gp_dl, if_neg (by omega)]; simpa using gp_hs_up (ch := 48 + v % 10) hL⟩ d_Mo_write_40
  · have c5 : ¬ (v ≤ 9) := fun q => c5 ((nI_leI (a := v) (b := 9) (by omega) (by omega)).mpr q)
    refine lv_aload_n hx hb d_Mo_write_8 rfl (lv_at hl 1 rfl) ?_
    refine ga_get S hK hP 0 rfl f_Mo_41 rfl d_Mo_write_9 ?_
    refine lv_iload_n hx hb d_Mo_write_12 rfl (lv_at hl 0 rfl) ?_
    refine lv_bipush (v := 48) hx hb d_Mo_write_13 (by decide) ?_
    refine lv_iload_n hx hb d_Mo_write_15 rfl (lv_at hl 3 rfl) ?_
    refine lv_bipush (v := 10) hx hb d_Mo_write_16 (by decide) ?_
    refine lv_idiv hx hb d_Mo_write_18 (by decide) ?_
    refine ga_top (nI (v / 10)) (pk_div (a := v) (d := 10) (by omega) (by decide) (by decide)) ?_
    refine lv_iadd hx hb d_Mo_write_19 ?_
    refine ga_top (nI (48 + (v / 10))) (nI_add 48 (v / 10)) ?_
    refine ga_ist (ws' := [(mo, .inr (6, [.int 0, .ref m1, .int (nI n), .int (nI pos), .int (tI wr), .int (nI ec), .ref m6, .ref m7, .ref m8, .ref m9, .ref mA, .int (nI w), .int (nI nw), .ref mB, .ref mC, .ref mD, .int (nI kf), .ref mE, .ref mF])), (mF, .inl (cI, 2000, .inl (nA (va_up g nn (48 + (v / 10))))))]) S hK hP hD hS 1 0 rfl rfl nn (48 + (v / 10)) (by omega) (by decide) rfl d_Mo_write_20 (fun H locs hP hD hS => ?_)
    refine lv_iinc (v := nI (nn + 1)) (lv' := [(3, .int (nI (nn + 1))), (0, .ref mo), (1, .int (nI nn)), (2, .int (nI v))]) hx hb d_Mo_write_21 hl (k := 0) rfl (ga_inc nn) (by decide) rfl (fun ls hl => ?_)
    refine lv_aload_n hx hb d_Mo_write_24 rfl (lv_at hl 1 rfl) ?_
    refine ga_get S hK hP 0 rfl f_Mo_41 rfl d_Mo_write_25 ?_
    refine lv_iload_n hx hb d_Mo_write_28 rfl (lv_at hl 0 rfl) ?_
    refine lv_bipush (v := 48) hx hb d_Mo_write_29 (by decide) ?_
    refine lv_iload_n hx hb d_Mo_write_31 rfl (lv_at hl 3 rfl) ?_
    refine lv_bipush (v := 10) hx hb d_Mo_write_32 (by decide) ?_
    refine lv_irem hx hb d_Mo_write_34 (by decide) ?_
    refine ga_top (nI (v % 10)) (pk_rem (a := v) (d := 10) (by omega) (by decide) (by decide)) ?_
    refine lv_iadd hx hb d_Mo_write_35 ?_
    refine ga_top (nI (48 + (v % 10))) (nI_add 48 (v % 10)) ?_
    refine ga_ist (ws' := [(mo, .inr (6, [.int 0, .ref m1, .int (nI n), .int (nI pos), .int (tI wr), .int (nI ec), .ref m6, .ref m7, .ref m8, .ref m9, .ref mA, .int (nI w), .int (nI nw), .ref mB, .ref mC, .ref mD, .int (nI kf), .ref mE, .ref mF])), (mF, .inl (cI, 2000, .inl (nA (va_up (va_up g nn (48 + (v / 10))) (nn + 1) (48 + (v % 10))))))]) S hK hP hD hS 1 0 rfl rfl (nn + 1) (48 + (v % 10)) (by omega) (by decide) rfl d_Mo_write_36 (fun H locs hP hD hS => ?_)
    refine lv_iload_n hx hb d_Mo_write_37 rfl (lv_at hl 0 rfl) ?_
    refine lv_iconst (v := 1) hx hb d_Mo_write_38 (by decide) ?_
    refine lv_iadd hx hb d_Mo_write_39 ?_
    refine ga_top (nI ((nn + 1) + 1)) (nI_add (nn + 1) 1) ?_
    exact ga_wi (va_up (va_up g nn (48 + (v / 10))) (nn + 1) (48 + (v % 10))) S hrt hlk hP hD hS ⟨nn + 1 + 1, rfl, by rw [gp_dl, if_pos (by omega)]; simpa using gp_hs_up (ch := 48 + v % 10) (gp_hs_up (ch := 48 + v / 10) hL)⟩ d_Mo_write_40
set_option maxHeartbeats 4000000 in
set_option maxRecDepth 100000 in
theorem gc_Mo_has (l : Launch) (D : va_G) (cI cZ cC cG : ClassId) (mo m1 m6 m7 m8 m9 mA mB mC mD mE mF n pos ec w nw kf : Nat) (wr : Option Nat) (g : Nat → Nat) (fr to ch : Nat) (hft : fr ≤ to) (hto : to ≤ 2000) (hch : ch < 2 ^ 31) (hg : ∀ j, fr ≤ j → j < to → g j < ch) : ga_Mr l y_Mo_has b_Mo_has 6 (some .boolean) 0 D (ga_T cI cZ cC cG) [.ref mo, .int (nI fr), .int (nI to), .int (nI ch)] [(mo, .inr (6, [.int 0, .ref m1, .int (nI n), .int (nI pos), .int (tI wr), .int (nI ec), .ref m6, .ref m7, .ref m8, .ref m9, .ref mA, .int (nI w), .int (nI nw), .ref mB, .ref mC, .ref mD, .int (nI kf), .ref mE, .ref mF])), (mF, .inl (cI, 2000, .inl (nA g)))] (fun r => r = 0) := by
  refine ga_enR (by decide) (Nat.le_of_ble_eq_true rfl) ?_
  intro p e s m below meth c ls S hrt hlk hK hP hl
  obtain ⟨hx, hb, hml, hown, hts⟩ := id S
  have hl : lv_has ls 6 [(0, .ref mo), (1, .int (nI fr)), (2, .int (nI to)), (3, .int (nI ch))] := hl
  refine lv_iconst (v := 0) hx hb d_Mo_has_0 (by decide) ?_
  refine lv_istore (lv' := [(4, .int 0), (0, .ref mo), (1, .int (nI fr)), (2, .int (nI to)), (3, .int (nI ch))]) hx hb d_Mo_has_1 hl (by decide) rfl (fun ls hl => ?_)
  refine lv_iload_n hx hb d_Mo_has_3 rfl (lv_at hl 2 rfl) ?_
  refine lv_istore (lv' := [(5, .int (nI fr)), (4, .int 0), (0, .ref mo), (1, .int (nI fr)), (2, .int (nI to)), (3, .int (nI ch))]) hx hb d_Mo_has_4 hl (by decide) rfl (fun ls hl => ?_)
  refine ga_loopR (α := Nat) (fun k => to - k) (fun k ls => lv_has ls 6 [(5, .int (nI k)), (4, .int 0), (0, .ref mo), (1, .int (nI fr)), (2, .int (nI to)), (3, .int (nI ch))] ∧ fr ≤ k ∧ k ≤ to) ?_ fr ⟨lv_sub hl [0, 1, 2, 3, 4, 5] rfl, ⟨Nat.le_refl _, hft⟩⟩
  intro x ls hI ih
  obtain ⟨k, rfl⟩ : ∃ z, z = x := ⟨_, rfl⟩
  obtain ⟨hl, ⟨h1, h2⟩⟩ := hI
  refine lv_iload hx hb d_Mo_has_6 (lv_at hl 0 rfl) ?_
  refine lv_iload_n hx hb d_Mo_has_8 rfl (lv_at hl 4 rfl) ?_
  refine lv_icmp_ge (tgt := 41) hx hb d_Mo_has_9 (by decide) (fun c9 => ?_) (fun c9 => ?_)
  · have c9 : to ≤ k := (nI_leI (a := to) (b := k) (by omega) (by omega)).mp c9
    refine lv_iload hx hb d_Mo_has_41 (lv_at hl 1 rfl) ?_
    exact ga_rz S hrt hlk (Or.inl rfl) rfl d_Mo_has_43
  · have c9 : ¬ (to ≤ k) := fun q => c9 ((nI_leI (a := to) (b := k) (by omega) (by omega)).mpr q)
    refine lv_iload hx hb d_Mo_has_12 (lv_at hl 1 rfl) ?_
    refine lv_if_ne (tgt := 28) hx hb d_Mo_has_14 (by decide) (fun c14 => ?_) (fun c14 => ?_)
    · exact absurd c14 (by decide)
    · refine lv_aload_n hx hb d_Mo_has_17 rfl (lv_at hl 2 rfl) ?_
      refine ga_get S hK hP 0 rfl f_Mo_41 rfl d_Mo_has_18 ?_
      refine lv_iload hx hb d_Mo_has_21 (lv_at hl 0 rfl) ?_
      refine ga_ild S hK hP 1 0 rfl rfl k (by omega) (by decide) d_Mo_has_23 ?_
      have hgk := hg k (by omega) (by omega)
      refine lv_iload_n hx hb d_Mo_has_24 rfl (lv_at hl 5 rfl) ?_
      refine lv_icmp_ne (tgt := 32) hx hb d_Mo_has_25 (by decide) (fun c25 => ?_) (fun c25 => ?_)
      · have c25 : ¬ ((g k) = ch) := fun q => c25 ((nI_eq (a := (g k)) (b := ch) (by omega) (by omega)).mpr q)
        refine lv_iconst (v := 0) hx hb d_Mo_has_32 (by decide) ?_
        refine lv_istore (lv' := [(4, .int 0), (5, .int (nI k)), (0, .ref mo), (1, .int (nI fr)), (2, .int (nI to)), (3, .int (nI ch))]) hx hb d_Mo_has_33 hl (by decide) rfl (fun ls hl => ?_)
        refine lv_iinc (v := nI (k + 1)) (lv' := [(5, .int (nI (k + 1))), (4, .int 0), (0, .ref mo), (1, .int (nI fr)), (2, .int (nI to)), (3, .int (nI ch))]) hx hb d_Mo_has_35 hl (k := 1) rfl (ga_inc k) (by decide) rfl (fun ls hl => ?_)
        refine lv_goto (tgt := 6) hx hb d_Mo_has_38 (by decide) ?_
        exact ih (k + 1) _ (by show (to - (k + 1)) < (to - k); omega) ⟨lv_sub hl [0, 1, 2, 3, 4, 5] rfl, ⟨by omega, by omega⟩⟩
      · exact absurd ((nI_eq (a := g k) (b := ch) (by omega) (by omega)).mp c25) (by omega)
set_option maxHeartbeats 4000000 in
set_option maxRecDepth 100000 in
theorem gc_Mo_print (l : Launch) (D : va_G) (cI cZ cC cG : ClassId) (mo m1 m6 m7 m8 m9 mA mB mC mD mE mF n pos ec w nw kf : Nat) (wr : Option Nat) (mb bn g : Nat → Nat) (i : Int32) (hec : ec ≤ 8) (h8 : ∀ t p s, 1 ≤ t → t ≤ 40 → p < 4 → s < 3 → mb (gm_pl 8 t p s) = bn (gp_sl t p s)) (hbn : ∀ j, bn j ≤ 60) : ga_Mi l y_Mo_print b_Mo_print 6 (some .int) 6 0 0 D (ga_T cI cZ cC cG) [.ref mo, .int i] [(mo, .inr (6, [.int 0, .ref m1, .int (nI n), .int (nI pos), .int (tI wr), .int (nI ec), .ref m6, .ref m7, .ref m8, .ref m9, .ref mA, .int (nI w), .int (nI nw), .ref mB, .ref mC, .ref mD, .int (nI kf), .ref mE, .ref mF])), (m6, .inl (cI, 4920, .inl (nA mb))), (mF, .inl (cI, 2000, .inl (nA g)))] (fun (x : Nat → Nat) => [(mo, .inr (6, [.int 0, .ref m1, .int (nI n), .int (nI pos), .int (tI wr), .int (nI ec), .ref m6, .ref m7, .ref m8, .ref m9, .ref mA, .int (nI w), .int (nI nw), .ref mB, .ref mC, .ref mD, .int (nI kf), .ref mE, .ref mF])), (m6, .inl (cI, 4920, .inl (nA mb))), (mF, .inl (cI, 2000, .inl (nA x)))]) (fun r x => (ec = 0 ∧ r = 0) ∨ (ec ≠ 0 ∧ ∃ n9, gp_hs x n9 (gp_ou (fun j => bn (gp_sl (j + 1) 0 0)) 60) ∧ r = gp_si x n9 i)) := by
  refine ga_enI (by decide) (Nat.le_of_ble_eq_true rfl) ?_
  intro p e s m below meth c ls A S hrt hlk hK hP hD hA hl
  have hS : va_S A s.heap s.heap [] := va_S.rf
  obtain ⟨hx, hb, hml, hown, hts⟩ := id S
  have hl : lv_has ls 6 [(0, .ref mo), (1, .int i)] := hl
  refine lv_aload_n hx hb d_Mo_print_0 rfl (lv_at hl 0 rfl) ?_
  refine lv_iconst (v := 0) hx hb d_Mo_print_1 (by decide) ?_
  refine ga_put (ws' := [(mo, .inr (6, [.int 0, .ref m1, .int (nI n), .int (nI pos), .int (tI wr), .int (nI ec), .ref m6, .ref m7, .ref m8, .ref m9, .ref mA, .int (nI w), .int (nI nw), .ref mB, .ref mC, .ref mD, .int (nI kf), .ref mE, .ref mF])), (m6, .inl (cI, 4920, .inl (nA mb))), (mF, .inl (cI, 2000, .inl (nA g)))]) S hK hP hD hS 0 rfl p_Mo_48 rfl rfl (Nat.le_of_ble_eq_true rfl) rfl d_Mo_print_2 (fun H locs hP hD hS => ?_)
  refine lv_iconst (v := 0) hx hb d_Mo_print_5 (by decide) ?_
  refine lv_istore_n (lv' := [(2, .int 0), (0, .ref mo), (1, .int i)]) hx hb d_Mo_print_6 rfl hl (by decide) rfl (fun ls hl => ?_)
  refine lv_iconst (v := 1) hx hb d_Mo_print_7 (by decide) ?_
  refine lv_istore_n (lv' := [(3, .int 1), (2, .int 0), (0, .ref mo), (1, .int i)]) hx hb d_Mo_print_8 rfl hl (by decide) rfl (fun ls hl => ?_)
  refine ga_loop (α := Nat × Nat × (Nat → Nat)) (fun x => match x with | (b, nn, g1) => 61 - b) (fun x ls H locs => match x with | (b, nn, g1) => lv_has ls 6 [(3, .int (nI b)), (2, .int (nI nn)), (0, .ref mo), (1, .int i)] ∧ va_P D vwCl [(mo, .inr (6, [.int 0, .ref m1, .int (nI n), .int (nI pos), .int (tI wr), .int (nI ec), .ref m6, .ref m7, .ref m8, .ref m9, .ref mA, .int (nI w), .int (nI nw), .ref mB, .ref mC, .ref mD, .int (nI kf), .ref mE, .ref mF])), (m6, .inl (cI, 4920, .inl (nA mb))), (mF, .inl (cI, 2000, .inl (nA g1)))] H ∧ va_D A [(mo, .inr (6, [.int 0, .ref m1, .int (nI n), .int (nI pos), .int (tI wr), .int (nI ec), .ref m6, .ref m7, .ref m8, .ref m9, .ref mA, .int (nI w), .int (nI nw), .ref mB, .ref mC, .ref mD, .int (nI kf), .ref mE, .ref mF])), (m6, .inl (cI, 4920, .inl (nA mb))), (mF, .inl (cI, 2000, .inl (nA g1)))] ∧ va_S A s.heap H locs ∧ 1 ≤ b ∧ b ≤ 61 ∧ (ec = 0 → b = 1) ∧ gp_hs g1 nn (gp_ou (fun j => bn (gp_sl (j + 1) 0 0)) (b - 1))) ?_ (1, 0, g) ⟨lv_sub hl [0, 1, 2, 3] rfl, hP, hD, hS, ⟨by decide, by decide, (fun _ => rfl), gp_hs_0 _⟩⟩
  intro x ls H locs hI ih1
  obtain ⟨b, nn, g1⟩ := x
  obtain ⟨hl, hP, hD, hS, ⟨h1, h2, h3, hz⟩⟩ := hI
  have hl : lv_has ls 6 [(3, .int (nI b)), (2, .int (nI nn)), (0, .ref mo), (1, .int i)] := hl
  have hP : va_P D vwCl [(mo, .inr (6, [.int 0, .ref m1, .int (nI n), .int (nI pos), .int (tI wr), .int (nI ec), .ref m6, .ref m7, .ref m8, .ref m9, .ref mA, .int (nI w), .int (nI nw), .ref mB, .ref mC, .ref mD, .int (nI kf), .ref mE, .ref mF])), (m6, .inl (cI, 4920, .inl (nA mb))), (mF, .inl (cI, 2000, .inl (nA g1)))] H := hP
  have hD : va_D A [(mo, .inr (6, [.int 0, .ref m1, .int (nI n), .int (nI pos), .int (tI wr), .int (nI ec), .ref m6, .ref m7, .ref m8, .ref m9, .ref mA, .int (nI w), .int (nI nw), .ref mB, .ref mC, .ref mD, .int (nI kf), .ref mE, .ref mF])), (m6, .inl (cI, 4920, .inl (nA mb))), (mF, .inl (cI, 2000, .inl (nA g1)))] := hD
  have hlen0 := hz.1
  have hroom := gp_ou_room (fun j => bn (gp_sl (j + 1) 0 0)) (b - 1)
  rw [show b - 1 + 1 = b by omega] at hroom
  refine lv_iload_n hx hb d_Mo_print_9 rfl (lv_at hl 0 rfl) ?_
  refine lv_bipush (v := 61) hx hb d_Mo_print_10 (by decide) ?_
  refine lv_icmp_ge (tgt := 142) hx hb d_Mo_print_12 (by decide) (fun c12 => ?_) (fun c12 => ?_)
  · have c12 : 61 ≤ b := (nI_leI (a := 61) (b := b) (by omega) (by omega)).mp c12
    refine lv_iload_n hx hb d_Mo_print_142 rfl (lv_at hl 3 rfl) ?_
    refine lv_if_lt (tgt := 151) hx hb d_Mo_print_143 (by decide) (fun c143 => ?_) (fun c143 => ?_)
    · have hi9 : gp_si g1 nn i = 0 := by rw [gp_si, if_neg (fun q => absurd q.1 (gp_ltz c143))]
      refine lv_iconst (v := 0) hx hb d_Mo_print_151 (by decide) ?_
      refine lv_goto (tgt := 161) hx hb d_Mo_print_152 (by decide) ?_
      rcases (show ec = 0 ∨ ec ≠ 0 by omega) with z9 | z9
      · exact ga_wi g1 S hrt hlk hP hD hS (Or.inl ⟨z9, rfl⟩) d_Mo_print_161
      · exact ga_wi g1 S hrt hlk hP hD hS (Or.inr ⟨z9, nn, by rw [show 60 = b - 1 by omega]; exact hz, hi9.symm⟩) d_Mo_print_161
    · obtain ⟨i, hi, rfl⟩ := nI_of c143
      refine lv_iload_n hx hb d_Mo_print_146 rfl (lv_at hl 3 rfl) ?_
      refine lv_iload_n hx hb d_Mo_print_147 rfl (lv_at hl 1 rfl) ?_
      refine lv_icmp_lt (tgt := 155) hx hb d_Mo_print_148 (by decide) (fun c148 => ?_) (fun c148 => ?_)
      · have c148 : i < nn := (nI_ltI (a := i) (b := nn) (by omega) (by omega)).mp c148
        have hi9 : gp_si g1 nn (nI i) = nI (g1 i) := by rw [gp_si, nI_toInt hi, if_pos (by omega)]; rfl
        refine lv_aload_n hx hb d_Mo_print_155 rfl (lv_at hl 2 rfl) ?_
        refine ga_get S hK hP 0 rfl f_Mo_41 rfl d_Mo_print_156 ?_
        refine lv_iload_n hx hb d_Mo_print_159 rfl (lv_at hl 3 rfl) ?_
        refine ga_ild S hK hP 2 0 rfl rfl i (by omega) (by decide) d_Mo_print_160 ?_
        rcases (show ec = 0 ∨ ec ≠ 0 by omega) with z9 | z9
        · exact ga_wi g1 S hrt hlk hP hD hS (Or.inl ⟨z9, by have hb1 := h3 z9; subst hb1; have hl0 : nn = 0 := hlen0; exfalso; omega⟩) d_Mo_print_161
        · exact ga_wi g1 S hrt hlk hP hD hS (Or.inr ⟨z9, nn, by rw [show 60 = b - 1 by omega]; exact hz, hi9.symm⟩) d_Mo_print_161
      · have c148 : ¬ (i < nn) := fun q => c148 ((nI_ltI (a := i) (b := nn) (by omega) (by omega)).mpr q)
        have hi9 : gp_si g1 nn (nI i) = 0 := by rw [gp_si, nI_toInt hi, if_neg (by omega)]
        refine lv_iconst (v := 0) hx hb d_Mo_print_151 (by decide) ?_
        refine lv_goto (tgt := 161) hx hb d_Mo_print_152 (by decide) ?_
        rcases (show ec = 0 ∨ ec ≠ 0 by omega) with z9 | z9
        · exact ga_wi g1 S hrt hlk hP hD hS (Or.inl ⟨z9, rfl⟩) d_Mo_print_161
        · exact ga_wi g1 S hrt hlk hP hD hS (Or.inr ⟨z9, nn, by rw [show 60 = b - 1 by omega]; exact hz, hi9.symm⟩) d_Mo_print_161
  · have c12 : ¬ (61 ≤ b) := fun q => c12 ((nI_leI (a := 61) (b := b) (by omega) (by omega)).mpr q)
    refine lv_aload_n hx hb d_Mo_print_15 rfl (lv_at hl 2 rfl) ?_
    refine ga_get S hK hP 0 rfl f_Mo_91 rfl d_Mo_print_16 ?_
    refine lv_if_le (tgt := 142) hx hb d_Mo_print_19 (by decide) (fun c19 => ?_) (fun c19 => ?_)
    · have c19 : ec ≤ 0 := (nI_leI (a := ec) (b := 0) (by omega) (by omega)).mp c19
      refine lv_iload_n hx hb d_Mo_print_142 rfl (lv_at hl 3 rfl) ?_
      refine lv_if_lt (tgt := 151) hx hb d_Mo_print_143 (by decide) (fun c143 => ?_) (fun c143 => ?_)
      · have hi9 : gp_si g1 nn i = 0 := by rw [gp_si, if_neg (fun q => absurd q.1 (gp_ltz c143))]
        refine lv_iconst (v := 0) hx hb d_Mo_print_151 (by decide) ?_
        refine lv_goto (tgt := 161) hx hb d_Mo_print_152 (by decide) ?_
        rcases (show ec = 0 ∨ ec ≠ 0 by omega) with z9 | z9
        · exact ga_wi g1 S hrt hlk hP hD hS (Or.inl ⟨z9, rfl⟩) d_Mo_print_161
        · exact ga_wi g1 S hrt hlk hP hD hS (Or.inr ⟨z9, nn, by rw [show 60 = b - 1 by omega]; exact hz, hi9.symm⟩) d_Mo_print_161
      · obtain ⟨i, hi, rfl⟩ := nI_of c143
        refine lv_iload_n hx hb d_Mo_print_146 rfl (lv_at hl 3 rfl) ?_
        refine lv_iload_n hx hb d_Mo_print_147 rfl (lv_at hl 1 rfl) ?_
        refine lv_icmp_lt (tgt := 155) hx hb d_Mo_print_148 (by decide) (fun c148 => ?_) (fun c148 => ?_)
        · have c148 : i < nn := (nI_ltI (a := i) (b := nn) (by omega) (by omega)).mp c148
          have hi9 : gp_si g1 nn (nI i) = nI (g1 i) := by rw [gp_si, nI_toInt hi, if_pos (by omega)]; rfl
          refine lv_aload_n hx hb d_Mo_print_155 rfl (lv_at hl 2 rfl) ?_
          refine ga_get S hK hP 0 rfl f_Mo_41 rfl d_Mo_print_156 ?_
          refine lv_iload_n hx hb d_Mo_print_159 rfl (lv_at hl 3 rfl) ?_
          refine ga_ild S hK hP 2 0 rfl rfl i (by omega) (by decide) d_Mo_print_160 ?_
          rcases (show ec = 0 ∨ ec ≠ 0 by omega) with z9 | z9
          · exact ga_wi g1 S hrt hlk hP hD hS (Or.inl ⟨z9, by have hb1 := h3 z9; subst hb1; have hl0 : nn = 0 := hlen0; exfalso; omega⟩) d_Mo_print_161
          · exact ga_wi g1 S hrt hlk hP hD hS (Or.inr ⟨z9, nn, by rw [show 60 = b - 1 by omega]; exact hz, hi9.symm⟩) d_Mo_print_161
        · have c148 : ¬ (i < nn) := fun q => c148 ((nI_ltI (a := i) (b := nn) (by omega) (by omega)).mpr q)
          have hi9 : gp_si g1 nn (nI i) = 0 := by rw [gp_si, nI_toInt hi, if_neg (by omega)]
          refine lv_iconst (v := 0) hx hb d_Mo_print_151 (by decide) ?_
          refine lv_goto (tgt := 161) hx hb d_Mo_print_152 (by decide) ?_
          rcases (show ec = 0 ∨ ec ≠ 0 by omega) with z9 | z9
          · exact ga_wi g1 S hrt hlk hP hD hS (Or.inl ⟨z9, rfl⟩) d_Mo_print_161
          · exact ga_wi g1 S hrt hlk hP hD hS (Or.inr ⟨z9, nn, by rw [show 60 = b - 1 by omega]; exact hz, hi9.symm⟩) d_Mo_print_161
    · have c19 : ¬ (ec ≤ 0) := fun q => c19 ((nI_leI (a := ec) (b := 0) (by omega) (by omega)).mpr q)
      refine lv_iload_n hx hb d_Mo_print_22 rfl (lv_at hl 1 rfl) ?_
      refine lv_istore (lv' := [(4, .int (nI nn)), (3, .int (nI b)), (2, .int (nI nn)), (0, .ref mo), (1, .int i)]) hx hb d_Mo_print_23 hl (by decide) rfl (fun ls hl => ?_)
      refine lv_iconst (v := 1) hx hb d_Mo_print_25 (by decide) ?_
      refine lv_istore (lv' := [(5, .int 1), (4, .int (nI nn)), (3, .int (nI b)), (2, .int (nI nn)), (0, .ref mo), (1, .int i)]) hx hb d_Mo_print_26 hl (by decide) rfl (fun ls hl => ?_)
      refine ga_loop (α := Nat × Nat × (Nat → Nat)) (fun x => match x with | (t, n2, g2) => 41 - t) (fun x ls H locs => match x with | (t, n2, g2) => lv_has ls 6 [(5, .int (nI t)), (4, .int (nI nn)), (3, .int (nI b)), (2, .int (nI n2)), (0, .ref mo), (1, .int i)] ∧ va_P D vwCl [(mo, .inr (6, [.int 0, .ref m1, .int (nI n), .int (nI pos), .int (tI wr), .int (nI ec), .ref m6, .ref m7, .ref m8, .ref m9, .ref mA, .int (nI w), .int (nI nw), .ref mB, .ref mC, .ref mD, .int (nI kf), .ref mE, .ref mF])), (m6, .inl (cI, 4920, .inl (nA mb))), (mF, .inl (cI, 2000, .inl (nA g2)))] H ∧ va_D A [(mo, .inr (6, [.int 0, .ref m1, .int (nI n), .int (nI pos), .int (tI wr), .int (nI ec), .ref m6, .ref m7, .ref m8, .ref m9, .ref mA, .int (nI w), .int (nI nw), .ref mB, .ref mC, .ref mD, .int (nI kf), .ref mE, .ref mF])), (m6, .inl (cI, 4920, .inl (nA mb))), (mF, .inl (cI, 2000, .inl (nA g2)))] ∧ va_S A s.heap H locs ∧ 1 ≤ t ∧ t ≤ 41 ∧ gp_hs g2 n2 ((gp_ou (fun j => bn (gp_sl (j + 1) 0 0)) (b - 1)) ++ (gp_rw (fun j => bn (gp_sl (j + 1) 0 0)) b (t - 1)))) ?_ (1, nn, g1) ⟨lv_sub hl [0, 1, 2, 3, 4, 5] rfl, hP, hD, hS, ⟨by decide, by decide, by rw [show 1 - 1 = 0 from rfl]; simpa [gp_rw] using hz⟩⟩
      intro x ls H locs hI ih2
      obtain ⟨t, n2, g2⟩ := x
      obtain ⟨hl, hP, hD, hS, ⟨f1, f2, hz2⟩⟩ := hI
      have hl : lv_has ls 6 [(5, .int (nI t)), (4, .int (nI nn)), (3, .int (nI b)), (2, .int (nI n2)), (0, .ref mo), (1, .int i)] := hl
      have hP : va_P D vwCl [(mo, .inr (6, [.int 0, .ref m1, .int (nI n), .int (nI pos), .int (tI wr), .int (nI ec), .ref m6, .ref m7, .ref m8, .ref m9, .ref mA, .int (nI w), .int (nI nw), .ref mB, .ref mC, .ref mD, .int (nI kf), .ref mE, .ref mF])), (m6, .inl (cI, 4920, .inl (nA mb))), (mF, .inl (cI, 2000, .inl (nA g2)))] H := hP
      have hD : va_D A [(mo, .inr (6, [.int 0, .ref m1, .int (nI n), .int (nI pos), .int (tI wr), .int (nI ec), .ref m6, .ref m7, .ref m8, .ref m9, .ref mA, .int (nI w), .int (nI nw), .ref mB, .ref mC, .ref mD, .int (nI kf), .ref mE, .ref mF])), (m6, .inl (cI, 4920, .inl (nA mb))), (mF, .inl (cI, 2000, .inl (nA g2)))] := hD
      have hlen2 := gp_hs_len hz2
      have hrl := (gp_rw_le (fun j => bn (gp_sl (j + 1) 0 0)) b (t - 1)).2.1
      have hht : gp_ht (fun j => bn (gp_sl (j + 1) 0 0)) b (t - 1) ≤ t - 1 := gp_cn_le _ _
      refine lv_iload hx hb d_Mo_print_28 (lv_at hl 0 rfl) ?_
      refine lv_bipush (v := 41) hx hb d_Mo_print_30 (by decide) ?_
      refine lv_icmp_ge (tgt := 119) hx hb d_Mo_print_32 (by decide) (fun c32 => ?_) (fun c32 => ?_)
      · have c32 : 41 ≤ t := (nI_leI (a := 41) (b := t) (by omega) (by omega)).mp c32
        refine lv_iload_n hx hb d_Mo_print_119 rfl (lv_at hl 3 rfl) ?_
        refine lv_iload hx hb d_Mo_print_120 (lv_at hl 1 rfl) ?_
        refine lv_icmp_le (tgt := 136) hx hb d_Mo_print_122 (by decide) (fun c122 => ?_) (fun c122 => ?_)
        · have c122 : n2 ≤ nn := (nI_leI (a := n2) (b := nn) (by omega) (by omega)).mp c122
          have hem9 : gp_rw (fun j => bn (gp_sl (j + 1) 0 0)) b 40 = [] := List.length_eq_zero_iff.mp (by rw [show t - 1 = 40 by omega] at hlen2; omega)
          refine lv_iinc (v := nI (b + 1)) (lv' := [(3, .int (nI (b + 1))), (5, .int (nI t)), (4, .int (nI nn)), (2, .int (nI n2)), (0, .ref mo), (1, .int i)]) hx hb d_Mo_print_136 hl (k := 2) rfl (ga_inc b) (by decide) rfl (fun ls hl => ?_)
          refine lv_goto (tgt := 9) hx hb d_Mo_print_139 (by decide) ?_
          exact ih1 (b + 1, n2, g2) _ _ _ (by show (61 - (b + 1)) < (61 - b); omega) ⟨lv_sub hl [0, 3, 4, 5] rfl, hP, hD, hS, ⟨by omega, by omega, (fun q => by omega), by rw [show b + 1 - 1 = (b - 1) + 1 by omega, gp_ou, show b - 1 + 1 = b by omega, gp_ln]; rw [if_pos hem9]; rw [show t - 1 = 40 by omega, hem9] at hz2; exact hz2⟩⟩
        · have c122 : ¬ (n2 ≤ nn) := fun q => c122 ((nI_leI (a := n2) (b := nn) (by omega) (by omega)).mpr q)
          have hne9 : gp_rw (fun j => bn (gp_sl (j + 1) 0 0)) b 40 ≠ [] := fun q => by rw [show t - 1 = 40 by omega, q] at hlen2; simp only [List.length_nil] at hlen2; omega
          have hlen9 := gp_rw_room2 (L := (gp_ou (fun j => bn (gp_sl (j + 1) 0 0)) (b - 1))) hne9 hroom
          rw [List.length_append] at hlen9
          rw [show t - 1 = 40 by omega] at hlen2
          refine lv_aload_n hx hb d_Mo_print_125 rfl (lv_at hl 4 rfl) ?_
          refine ga_get S hK hP 0 rfl f_Mo_41 rfl d_Mo_print_126 ?_
          refine lv_iload_n hx hb d_Mo_print_129 rfl (lv_at hl 3 rfl) ?_
          refine lv_bipush (v := 59) hx hb d_Mo_print_130 (by decide) ?_
          refine ga_ist (ws' := [(mo, .inr (6, [.int 0, .ref m1, .int (nI n), .int (nI pos), .int (tI wr), .int (nI ec), .ref m6, .ref m7, .ref m8, .ref m9, .ref mA, .int (nI w), .int (nI nw), .ref mB, .ref mC, .ref mD, .int (nI kf), .ref mE, .ref mF])), (m6, .inl (cI, 4920, .inl (nA mb))), (mF, .inl (cI, 2000, .inl (nA (va_up g2 n2 59))))]) S hK hP hD hS 2 0 rfl rfl n2 59 (by omega) (by decide) rfl d_Mo_print_132 (fun H locs hP hD hS => ?_)
          refine lv_iinc (v := nI (n2 + 1)) (lv' := [(2, .int (nI (n2 + 1))), (5, .int (nI t)), (4, .int (nI nn)), (3, .int (nI b)), (0, .ref mo), (1, .int i)]) hx hb d_Mo_print_133 hl (k := 3) rfl (ga_inc n2) (by decide) rfl (fun ls hl => ?_)
          refine lv_iinc (v := nI (b + 1)) (lv' := [(3, .int (nI (b + 1))), (2, .int (nI (n2 + 1))), (5, .int (nI t)), (4, .int (nI nn)), (0, .ref mo), (1, .int i)]) hx hb d_Mo_print_136 hl (k := 3) rfl (ga_inc b) (by decide) rfl (fun ls hl => ?_)
          refine lv_goto (tgt := 9) hx hb d_Mo_print_139 (by decide) ?_
          exact ih1 (b + 1, n2 + 1, va_up g2 n2 59) _ _ _ (by show (61 - (b + 1)) < (61 - b); omega) ⟨lv_sub hl [0, 1, 4, 5] rfl, hP, hD, hS, ⟨by omega, by omega, (fun q => by omega), by rw [show b + 1 - 1 = (b - 1) + 1 by omega, gp_ou, show b - 1 + 1 = b by omega, gp_ln]; rw [if_neg hne9, ← List.append_assoc]; rw [show t - 1 = 40 by omega] at hz2; exact gp_hs_up hz2⟩⟩
      · have c32 : ¬ (41 ≤ t) := fun q => c32 ((nI_leI (a := 41) (b := t) (by omega) (by omega)).mpr q)
        refine lv_aload_n hx hb d_Mo_print_35 rfl (lv_at hl 4 rfl) ?_
        refine ga_get S hK hP 0 rfl f_Mo_13 rfl d_Mo_print_36 ?_
        refine lv_bipush (v := 8) hx hb d_Mo_print_39 (by decide) ?_
        refine lv_iload hx hb d_Mo_print_41 (lv_at hl 0 rfl) ?_
        refine lv_iconst (v := 0) hx hb d_Mo_print_43 (by decide) ?_
        refine lv_iconst (v := 0) hx hb d_Mo_print_44 (by decide) ?_
        refine ga_cs (As := [.int 8, .int (nI t), .int 0, .int 0]) (rest := [.ref m6]) S hK hP s_Mo_75 (gc_Mo_place l D cI cZ cC cG 8 t 0 0) [] rfl rfl hl.1 rfl (Nat.le_of_ble_eq_true rfl) ⟨Nat.le_of_ble_eq_true rfl, Nat.le_of_ble_eq_true rfl⟩ ⟨Nat.le_of_ble_eq_true rfl, Nat.le_of_ble_eq_true rfl⟩ d_Mo_print_45 (fun r hp45 => ?_)
        subst hp45
        refine ga_ild S hK hP 1 0 rfl rfl (gm_pl 8 t 0 0) (gm_pl_lt (by decide) (by omega) (by omega) (by omega)) (by decide) d_Mo_print_48 ?_
        have e8 := h8 t 0 0 (by omega) (by omega) (by decide) (by decide)
        have e9 := hbn (gp_sl t 0 0)
        refine lv_iload_n hx hb d_Mo_print_49 rfl (lv_at hl 2 rfl) ?_
        refine lv_icmp_ne (tgt := 113) hx hb d_Mo_print_50 (by decide) (fun c50 => ?_) (fun c50 => ?_)
        · have c50 : ¬ ((mb (gm_pl 8 t 0 0)) = b) := fun q => c50 ((nI_eq (a := (mb (gm_pl 8 t 0 0))) (b := b) (by omega) (by omega)).mpr q)
          refine lv_iinc (v := nI (t + 1)) (lv' := [(5, .int (nI (t + 1))), (4, .int (nI nn)), (3, .int (nI b)), (2, .int (nI n2)), (0, .ref mo), (1, .int i)]) hx hb d_Mo_print_113 hl (k := 0) rfl (ga_inc t) (by decide) rfl (fun ls hl => ?_)
          refine lv_goto (tgt := 28) hx hb d_Mo_print_116 (by decide) ?_
          exact ih2 (t + 1, n2, g2) _ _ _ (by show (41 - (t + 1)) < (41 - t); omega) ⟨lv_sub hl [0, 1, 2, 3, 4, 5] rfl, hP, hD, hS, ⟨by omega, by omega, by rw [show t + 1 - 1 = (t - 1) + 1 by omega, gp_rw_no (f := (fun j => bn (gp_sl (j + 1) 0 0))) (i := t - 1) (show (fun j => bn (gp_sl (j + 1) 0 0)) (t - 1) ≠ b by show bn (gp_sl (t - 1 + 1) 0 0) ≠ b; rw [show t - 1 + 1 = t by omega]; omega)]; exact hz2⟩⟩
        · have c50 : (mb (gm_pl 8 t 0 0)) = b := (nI_eq (a := (mb (gm_pl 8 t 0 0))) (b := b) (by omega) (by omega)).mp c50
          have hlen := gp_rw_room (f := (fun j => bn (gp_sl (j + 1) 0 0))) (i := t - 1) (L := (gp_ou (fun j => bn (gp_sl (j + 1) 0 0)) (b - 1))) (by omega) (show bn (gp_sl (t - 1 + 1) 0 0) = b by rw [show t - 1 + 1 = t by omega]; omega) hroom
          rw [List.length_append] at hlen
          refine lv_iload_n hx hb d_Mo_print_53 rfl (lv_at hl 3 rfl) ?_
          refine lv_iload hx hb d_Mo_print_54 (lv_at hl 1 rfl) ?_
          refine lv_icmp_ne (tgt := 68) hx hb d_Mo_print_56 (by decide) (fun c56 => ?_) (fun c56 => ?_)
          · have c56 : ¬ (n2 = nn) := fun q => c56 ((nI_eq (a := n2) (b := nn) (by omega) (by omega)).mpr q)
            have hne : (gp_rw (fun j => bn (gp_sl (j + 1) 0 0)) b (t - 1)) ≠ [] := fun q => by rw [q] at hlen2; exact c56 (by rw [hlen2, hlen0]; rfl)
            have hne3 := gp_rw_3 hne
            refine lv_iload_n hx hb d_Mo_print_68 rfl (lv_at hl 3 rfl) ?_
            refine lv_istore_n (lv' := [(2, .int (nI n2)), (5, .int (nI t)), (4, .int (nI nn)), (3, .int (nI b)), (0, .ref mo), (1, .int i)]) hx hb d_Mo_print_69 rfl hl (by decide) rfl (fun ls hl => ?_)
            refine lv_aload_n hx hb d_Mo_print_70 rfl (lv_at hl 4 rfl) ?_
            refine ga_get S hK hP 0 rfl f_Mo_41 rfl d_Mo_print_71 ?_
            refine lv_iload_n hx hb d_Mo_print_74 rfl (lv_at hl 0 rfl) ?_
            refine lv_iload_n hx hb d_Mo_print_75 rfl (lv_at hl 0 rfl) ?_
            refine lv_iload hx hb d_Mo_print_76 (lv_at hl 2 rfl) ?_
            refine lv_iconst (v := 3) hx hb d_Mo_print_78 (by decide) ?_
            refine lv_iadd hx hb d_Mo_print_79 ?_
            refine ga_top (nI (nn + 3)) (nI_add nn 3) ?_
            refine lv_icmp_ge (tgt := 100) hx hb d_Mo_print_80 (by decide) (fun c80 => ?_) (fun c80 => ?_)
            · have c80 : (nn + 3) ≤ n2 := (nI_leI (a := (nn + 3)) (b := n2) (by omega) (by omega)).mp c80
              refine lv_bipush (v := 44) hx hb d_Mo_print_100 (by decide) ?_
              refine ga_ist (ws' := [(mo, .inr (6, [.int 0, .ref m1, .int (nI n), .int (nI pos), .int (tI wr), .int (nI ec), .ref m6, .ref m7, .ref m8, .ref m9, .ref mA, .int (nI w), .int (nI nw), .ref mB, .ref mC, .ref mD, .int (nI kf), .ref mE, .ref mF])), (m6, .inl (cI, 4920, .inl (nA mb))), (mF, .inl (cI, 2000, .inl (nA (va_up g2 n2 44))))]) S hK hP hD hS 2 0 rfl rfl n2 44 (by omega) (by decide) rfl d_Mo_print_102 (fun H locs hP hD hS => ?_)
              have hy1 : gp_hs (va_up g2 n2 44) (n2 + 1) (((gp_ou (fun j => bn (gp_sl (j + 1) 0 0)) (b - 1)) ++ (gp_rw (fun j => bn (gp_sl (j + 1) 0 0)) b (t - 1))) ++ [44]) := gp_hs_up hz2
              refine lv_aload_n hx hb d_Mo_print_103 rfl (lv_at hl 4 rfl) ?_
              refine lv_iload_n hx hb d_Mo_print_104 rfl (lv_at hl 0 rfl) ?_
              refine lv_iconst (v := 1) hx hb d_Mo_print_105 (by decide) ?_
              refine lv_iadd hx hb d_Mo_print_106 ?_
              refine ga_top (nI (n2 + 1)) (nI_add n2 1) ?_
              refine lv_iload hx hb d_Mo_print_107 (lv_at hl 1 rfl) ?_
              refine ga_ji (wr := [(m6, .inl (cI, 4920, .inl (nA mb)))]) (ga_runV (As := [.int (nI (n2 + 1)), .int (nI t)]) (rest := []) S hK s_Mo_116 (gc_Mo_write l D cI cZ cC cG mo m1 m6 m7 m8 m9 mA mB mC mD mE mF n pos ec w nw kf wr (va_up g2 n2 44) (n2 + 1) t (((gp_ou (fun j => bn (gp_sl (j + 1) 0 0)) (b - 1)) ++ (gp_rw (fun j => bn (gp_sl (j + 1) 0 0)) b (t - 1))) ++ [44]) hy1 (by omega) (by omega) _) (ga_prV (y := y_Mo_write) (q0 := 0) hK hP hD [0, 2] rfl (by decide) rfl rfl) rfl hl.1 rfl (Nat.le_of_ble_eq_true rfl) ⟨Nat.le_of_ble_eq_true rfl, Nat.le_of_ble_eq_true rfl⟩ ⟨Nat.le_of_ble_eq_true rfl, Nat.le_of_ble_eq_true rfl⟩ d_Mo_print_109) hP hD hS hA [0, 2] [1] rfl rfl (by decide) (by decide) [1, 0, 2] (fun (x : Nat → Nat) => [(mo, .inr (6, [.int 0, .ref m1, .int (nI n), .int (nI pos), .int (tI wr), .int (nI ec), .ref m6, .ref m7, .ref m8, .ref m9, .ref mA, .int (nI w), .int (nI nw), .ref mB, .ref mC, .ref mD, .int (nI kf), .ref mE, .ref mF])), (m6, .inl (cI, 4920, .inl (nA mb))), (mF, .inl (cI, 2000, .inl (nA x)))]) (fun _ => rfl) (by decide) (fun r x H locs hp109 hP hD hS => ?_)
              obtain ⟨wg2, rfl⟩ : ∃ z, z = x := ⟨_, rfl⟩
              have hP : va_P D vwCl [(mo, .inr (6, [.int 0, .ref m1, .int (nI n), .int (nI pos), .int (tI wr), .int (nI ec), .ref m6, .ref m7, .ref m8, .ref m9, .ref mA, .int (nI w), .int (nI nw), .ref mB, .ref mC, .ref mD, .int (nI kf), .ref mE, .ref mF])), (m6, .inl (cI, 4920, .inl (nA mb))), (mF, .inl (cI, 2000, .inl (nA wg2)))] H := hP
              have hD : va_D A [(mo, .inr (6, [.int 0, .ref m1, .int (nI n), .int (nI pos), .int (tI wr), .int (nI ec), .ref m6, .ref m7, .ref m8, .ref m9, .ref mA, .int (nI w), .int (nI nw), .ref mB, .ref mC, .ref mD, .int (nI kf), .ref mE, .ref mF])), (m6, .inl (cI, 4920, .inl (nA mb))), (mF, .inl (cI, 2000, .inl (nA wg2)))] := hD
              obtain ⟨wn2, rfl, wz2⟩ := hp109
              have wz2l : wn2 = ((((gp_ou (fun j => bn (gp_sl (j + 1) 0 0)) (b - 1)) ++ (gp_rw (fun j => bn (gp_sl (j + 1) 0 0)) b (t - 1))) ++ [44])).length + (gp_dl t).length := gp_hs_len wz2
              try simp only [List.length_append, List.length_singleton, List.length_cons, List.length_nil] at wz2l
              have wz2d := gp_dl_le t
              refine lv_istore_n (lv' := [(2, .int (nI wn2)), (5, .int (nI t)), (4, .int (nI nn)), (3, .int (nI b)), (0, .ref mo), (1, .int i)]) hx hb d_Mo_print_112 rfl hl (by decide) rfl (fun ls hl => ?_)
              refine lv_iinc (v := nI (t + 1)) (lv' := [(5, .int (nI (t + 1))), (2, .int (nI wn2)), (4, .int (nI nn)), (3, .int (nI b)), (0, .ref mo), (1, .int i)]) hx hb d_Mo_print_113 hl (k := 1) rfl (ga_inc t) (by decide) rfl (fun ls hl => ?_)
              refine lv_goto (tgt := 28) hx hb d_Mo_print_116 (by decide) ?_
              exact ih2 (t + 1, wn2, wg2) _ _ _ (by show (41 - (t + 1)) < (41 - t); omega) ⟨lv_sub hl [0, 2, 3, 1, 4, 5] rfl, hP, hD, hS, ⟨by omega, by omega, by rw [show t + 1 - 1 = (t - 1) + 1 by omega, gp_rw_h1 (f := (fun j => bn (gp_sl (j + 1) 0 0))) (i := t - 1) (show (fun j => bn (gp_sl (j + 1) 0 0)) (t - 1) = b by show bn (gp_sl (t - 1 + 1) 0 0) = b; rw [show t - 1 + 1 = t by omega]; omega) hne, show t - 1 + 1 = t by omega]; simpa [List.append_assoc] using wz2⟩⟩
            · exact absurd ((nI_leI (a := nn + 3) (b := n2) (by omega) (by omega)).mpr (by omega)) c80
          · have c56 : n2 = nn := (nI_eq (a := n2) (b := nn) (by omega) (by omega)).mp c56
            have hem0 : (gp_rw (fun j => bn (gp_sl (j + 1) 0 0)) b (t - 1)).length = 0 := by omega
            have hem : (gp_rw (fun j => bn (gp_sl (j + 1) 0 0)) b (t - 1)) = [] := List.length_eq_zero_iff.mp hem0
            refine lv_aload_n hx hb d_Mo_print_59 rfl (lv_at hl 4 rfl) ?_
            refine lv_iload_n hx hb d_Mo_print_60 rfl (lv_at hl 3 rfl) ?_
            refine lv_iload_n hx hb d_Mo_print_61 rfl (lv_at hl 2 rfl) ?_
            refine ga_ji (wr := [(m6, .inl (cI, 4920, .inl (nA mb)))]) (ga_runV (As := [.int (nI n2), .int (nI b)]) (rest := []) S hK s_Mo_116 (gc_Mo_write l D cI cZ cC cG mo m1 m6 m7 m8 m9 mA mB mC mD mE mF n pos ec w nw kf wr g2 n2 b ((gp_ou (fun j => bn (gp_sl (j + 1) 0 0)) (b - 1)) ++ (gp_rw (fun j => bn (gp_sl (j + 1) 0 0)) b (t - 1))) hz2 (by omega) (by omega) _) (ga_prV (y := y_Mo_write) (q0 := 0) hK hP hD [0, 2] rfl (by decide) rfl rfl) rfl hl.1 rfl (Nat.le_of_ble_eq_true rfl) ⟨Nat.le_of_ble_eq_true rfl, Nat.le_of_ble_eq_true rfl⟩ ⟨Nat.le_of_ble_eq_true rfl, Nat.le_of_ble_eq_true rfl⟩ d_Mo_print_62) hP hD hS hA [0, 2] [1] rfl rfl (by decide) (by decide) [1, 0, 2] (fun (x : Nat → Nat) => [(mo, .inr (6, [.int 0, .ref m1, .int (nI n), .int (nI pos), .int (tI wr), .int (nI ec), .ref m6, .ref m7, .ref m8, .ref m9, .ref mA, .int (nI w), .int (nI nw), .ref mB, .ref mC, .ref mD, .int (nI kf), .ref mE, .ref mF])), (m6, .inl (cI, 4920, .inl (nA mb))), (mF, .inl (cI, 2000, .inl (nA x)))]) (fun _ => rfl) (by decide) (fun r x H locs hp62 hP hD hS => ?_)
            obtain ⟨wg1, rfl⟩ : ∃ z, z = x := ⟨_, rfl⟩
            have hP : va_P D vwCl [(mo, .inr (6, [.int 0, .ref m1, .int (nI n), .int (nI pos), .int (tI wr), .int (nI ec), .ref m6, .ref m7, .ref m8, .ref m9, .ref mA, .int (nI w), .int (nI nw), .ref mB, .ref mC, .ref mD, .int (nI kf), .ref mE, .ref mF])), (m6, .inl (cI, 4920, .inl (nA mb))), (mF, .inl (cI, 2000, .inl (nA wg1)))] H := hP
            have hD : va_D A [(mo, .inr (6, [.int 0, .ref m1, .int (nI n), .int (nI pos), .int (tI wr), .int (nI ec), .ref m6, .ref m7, .ref m8, .ref m9, .ref mA, .int (nI w), .int (nI nw), .ref mB, .ref mC, .ref mD, .int (nI kf), .ref mE, .ref mF])), (m6, .inl (cI, 4920, .inl (nA mb))), (mF, .inl (cI, 2000, .inl (nA wg1)))] := hD
            obtain ⟨wn1, rfl, wz1⟩ := hp62
            have wz1l : wn1 = (((gp_ou (fun j => bn (gp_sl (j + 1) 0 0)) (b - 1)) ++ (gp_rw (fun j => bn (gp_sl (j + 1) 0 0)) b (t - 1)))).length + (gp_dl b).length := gp_hs_len wz1
            try simp only [List.length_append, List.length_singleton, List.length_cons, List.length_nil] at wz1l
            have wz1d := gp_dl_le b
            refine lv_goto (tgt := 69) hx hb d_Mo_print_65 (by decide) ?_
            refine lv_istore_n (lv' := [(2, .int (nI wn1)), (5, .int (nI t)), (4, .int (nI nn)), (3, .int (nI b)), (0, .ref mo), (1, .int i)]) hx hb d_Mo_print_69 rfl hl (by decide) rfl (fun ls hl => ?_)
            refine lv_aload_n hx hb d_Mo_print_70 rfl (lv_at hl 4 rfl) ?_
            refine ga_get S hK hP 0 rfl f_Mo_41 rfl d_Mo_print_71 ?_
            refine lv_iload_n hx hb d_Mo_print_74 rfl (lv_at hl 0 rfl) ?_
            refine lv_iload_n hx hb d_Mo_print_75 rfl (lv_at hl 0 rfl) ?_
            refine lv_iload hx hb d_Mo_print_76 (lv_at hl 2 rfl) ?_
            refine lv_iconst (v := 3) hx hb d_Mo_print_78 (by decide) ?_
            refine lv_iadd hx hb d_Mo_print_79 ?_
            refine ga_top (nI (nn + 3)) (nI_add nn 3) ?_
            refine lv_icmp_ge (tgt := 100) hx hb d_Mo_print_80 (by decide) (fun c80 => ?_) (fun c80 => ?_)
            · exact absurd ((nI_leI (a := nn + 3) (b := wn1) (by omega) (by omega)).mp c80) (by omega)
            · have c80 : ¬ ((nn + 3) ≤ wn1) := fun q => c80 ((nI_leI (a := (nn + 3)) (b := wn1) (by omega) (by omega)).mpr q)
              refine lv_aload_n hx hb d_Mo_print_83 rfl (lv_at hl 4 rfl) ?_
              refine lv_iload hx hb d_Mo_print_84 (lv_at hl 2 rfl) ?_
              refine lv_iload_n hx hb d_Mo_print_86 rfl (lv_at hl 0 rfl) ?_
              refine lv_bipush (v := 58) hx hb d_Mo_print_87 (by decide) ?_
              refine ga_cr (As := [.int (nI nn), .int (nI wn1), .int 58]) (rest := [.int (nI wn1), .ref mF]) (q0 := 0) S hK hP s_Mo_120 (gc_Mo_has l D cI cZ cC cG mo m1 m6 m7 m8 m9 mA mB mC mD mE mF n pos ec w nw kf wr wg1 nn wn1 58 (by omega) (by omega) (by omega) (fun j ja jb => by have := gp_hs_dl (L := (gp_ou (fun j => bn (gp_sl (j + 1) 0 0)) (b - 1))) (by have hq := wz1; rw [hem, List.append_nil] at hq; exact hq) (by omega) j (by omega) jb; omega)) [0, 2] rfl rfl rfl rfl hl.1 rfl (Nat.le_of_ble_eq_true rfl) ⟨Nat.le_of_ble_eq_true rfl, Nat.le_of_ble_eq_true rfl⟩ ⟨Nat.le_of_ble_eq_true rfl, Nat.le_of_ble_eq_true rfl⟩ d_Mo_print_89 (fun r hp89 => ?_)
              subst hp89
              refine lv_if_ne (tgt := 100) hx hb d_Mo_print_92 (by decide) (fun c92 => ?_) (fun c92 => ?_)
              · exact absurd c92 (by decide)
              · refine lv_bipush (v := 58) hx hb d_Mo_print_95 (by decide) ?_
                refine lv_goto (tgt := 102) hx hb d_Mo_print_97 (by decide) ?_
                refine ga_ist (ws' := [(mo, .inr (6, [.int 0, .ref m1, .int (nI n), .int (nI pos), .int (tI wr), .int (nI ec), .ref m6, .ref m7, .ref m8, .ref m9, .ref mA, .int (nI w), .int (nI nw), .ref mB, .ref mC, .ref mD, .int (nI kf), .ref mE, .ref mF])), (m6, .inl (cI, 4920, .inl (nA mb))), (mF, .inl (cI, 2000, .inl (nA (va_up wg1 wn1 58))))]) S hK hP hD hS 2 0 rfl rfl wn1 58 (by omega) (by decide) rfl d_Mo_print_102 (fun H locs hP hD hS => ?_)
                have hy2 : gp_hs (va_up wg1 wn1 58) (wn1 + 1) ((((gp_ou (fun j => bn (gp_sl (j + 1) 0 0)) (b - 1)) ++ (gp_rw (fun j => bn (gp_sl (j + 1) 0 0)) b (t - 1))) ++ gp_dl b) ++ [58]) := gp_hs_up wz1
                refine lv_aload_n hx hb d_Mo_print_103 rfl (lv_at hl 4 rfl) ?_
                refine lv_iload_n hx hb d_Mo_print_104 rfl (lv_at hl 0 rfl) ?_
                refine lv_iconst (v := 1) hx hb d_Mo_print_105 (by decide) ?_
                refine lv_iadd hx hb d_Mo_print_106 ?_
                refine ga_top (nI (wn1 + 1)) (nI_add wn1 1) ?_
                refine lv_iload hx hb d_Mo_print_107 (lv_at hl 1 rfl) ?_
                refine ga_ji (wr := [(m6, .inl (cI, 4920, .inl (nA mb)))]) (ga_runV (As := [.int (nI (wn1 + 1)), .int (nI t)]) (rest := []) S hK s_Mo_116 (gc_Mo_write l D cI cZ cC cG mo m1 m6 m7 m8 m9 mA mB mC mD mE mF n pos ec w nw kf wr (va_up wg1 wn1 58) (wn1 + 1) t ((((gp_ou (fun j => bn (gp_sl (j + 1) 0 0)) (b - 1)) ++ (gp_rw (fun j => bn (gp_sl (j + 1) 0 0)) b (t - 1))) ++ gp_dl b) ++ [58]) hy2 (by omega) (by omega) _) (ga_prV (y := y_Mo_write) (q0 := 0) hK hP hD [0, 2] rfl (by decide) rfl rfl) rfl hl.1 rfl (Nat.le_of_ble_eq_true rfl) ⟨Nat.le_of_ble_eq_true rfl, Nat.le_of_ble_eq_true rfl⟩ ⟨Nat.le_of_ble_eq_true rfl, Nat.le_of_ble_eq_true rfl⟩ d_Mo_print_109) hP hD hS hA [0, 2] [1] rfl rfl (by decide) (by decide) [1, 0, 2] (fun (x : Nat → Nat) => [(mo, .inr (6, [.int 0, .ref m1, .int (nI n), .int (nI pos), .int (tI wr), .int (nI ec), .ref m6, .ref m7, .ref m8, .ref m9, .ref mA, .int (nI w), .int (nI nw), .ref mB, .ref mC, .ref mD, .int (nI kf), .ref mE, .ref mF])), (m6, .inl (cI, 4920, .inl (nA mb))), (mF, .inl (cI, 2000, .inl (nA x)))]) (fun _ => rfl) (by decide) (fun r x H locs hp109 hP hD hS => ?_)
                obtain ⟨wg3, rfl⟩ : ∃ z, z = x := ⟨_, rfl⟩
                have hP : va_P D vwCl [(mo, .inr (6, [.int 0, .ref m1, .int (nI n), .int (nI pos), .int (tI wr), .int (nI ec), .ref m6, .ref m7, .ref m8, .ref m9, .ref mA, .int (nI w), .int (nI nw), .ref mB, .ref mC, .ref mD, .int (nI kf), .ref mE, .ref mF])), (m6, .inl (cI, 4920, .inl (nA mb))), (mF, .inl (cI, 2000, .inl (nA wg3)))] H := hP
                have hD : va_D A [(mo, .inr (6, [.int 0, .ref m1, .int (nI n), .int (nI pos), .int (tI wr), .int (nI ec), .ref m6, .ref m7, .ref m8, .ref m9, .ref mA, .int (nI w), .int (nI nw), .ref mB, .ref mC, .ref mD, .int (nI kf), .ref mE, .ref mF])), (m6, .inl (cI, 4920, .inl (nA mb))), (mF, .inl (cI, 2000, .inl (nA wg3)))] := hD
                obtain ⟨wn3, rfl, wz3⟩ := hp109
                have wz3l : wn3 = (((((gp_ou (fun j => bn (gp_sl (j + 1) 0 0)) (b - 1)) ++ (gp_rw (fun j => bn (gp_sl (j + 1) 0 0)) b (t - 1))) ++ gp_dl b) ++ [58])).length + (gp_dl t).length := gp_hs_len wz3
                try simp only [List.length_append, List.length_singleton, List.length_cons, List.length_nil] at wz3l
                have wz3d := gp_dl_le t
                refine lv_istore_n (lv' := [(2, .int (nI wn3)), (5, .int (nI t)), (4, .int (nI nn)), (3, .int (nI b)), (0, .ref mo), (1, .int i)]) hx hb d_Mo_print_112 rfl hl (by decide) rfl (fun ls hl => ?_)
                refine lv_iinc (v := nI (t + 1)) (lv' := [(5, .int (nI (t + 1))), (2, .int (nI wn3)), (4, .int (nI nn)), (3, .int (nI b)), (0, .ref mo), (1, .int i)]) hx hb d_Mo_print_113 hl (k := 1) rfl (ga_inc t) (by decide) rfl (fun ls hl => ?_)
                refine lv_goto (tgt := 28) hx hb d_Mo_print_116 (by decide) ?_
                exact ih2 (t + 1, wn3, wg3) _ _ _ (by show (41 - (t + 1)) < (41 - t); omega) ⟨lv_sub hl [0, 2, 3, 1, 4, 5] rfl, hP, hD, hS, ⟨by omega, by omega, by rw [show t + 1 - 1 = (t - 1) + 1 by omega, gp_rw_h0 (f := (fun j => bn (gp_sl (j + 1) 0 0))) (i := t - 1) (show (fun j => bn (gp_sl (j + 1) 0 0)) (t - 1) = b by show bn (gp_sl (t - 1 + 1) 0 0) = b; rw [show t - 1 + 1 = t by omega]; omega) hem, show t - 1 + 1 = t by omega]; simpa [List.append_assoc, hem] using wz3⟩⟩
