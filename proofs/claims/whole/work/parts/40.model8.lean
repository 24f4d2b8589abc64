set_option maxHeartbeats 4000000 in
set_option maxRecDepth 100000 in
theorem gc_Mo_check (l : Launch) (D : va_G) (cI cZ cC cG : ClassId) (mo m1 m6 m7 m8 m9 mA mB mC mD mE mF n pos ec w nw kf : Nat) (wr : Option Nat) (mb bn : Nat → Nat) (ms shr us : Nat → Bool) (cd r1 told : Nat → Nat) (pq : Nat → Nat) (hec : ec ≤ 8) (hw : w ≤ 66) (hcd1 : ∀ k, k < w → cd (4 * k) = r1 k ∧ r1 k ≤ 40) (hus : ∀ t, us t = true ↔ ∃ k, k < w ∧ r1 k = t) (hpq : ∀ sh, sh < 3 → gp_isP bn sh (pq sh)) (hms : ∀ t p s, 1 ≤ t → t ≤ 40 → p < 4 → s < 3 → bn (gp_sl t p s) ≠ 0 → ms (gm_pl 0 t p s) = shr (gp_sl t p s)) (h8 : ∀ t p s, 1 ≤ t → t ≤ 40 → p < 4 → s < 3 → mb (gm_pl 8 t p s) = bn (gp_sl t p s)) (hbn : ∀ j, bn j ≤ 60) : ga_Mi l y_Mo_check b_Mo_check 9 (some .int) 6 0 0 D (ga_T cI cZ cC cG) [.ref mo] [(mo, .inr (6, [.int 0, .ref m1, .int (nI n), .int (nI pos), .int (tI wr), .int (nI ec), .ref m6, .ref m7, .ref m8, .ref m9, .ref mA, .int (nI w), .int (nI nw), .ref mB, .ref mC, .ref mD, .int (nI kf), .ref mE, .ref mF])), (m6, .inl (cI, 4920, .inl (nA mb))), (m7, .inl (cZ, 492, .inl (zA ms))), (m9, .inl (cI, 600, .inl (nA cd))), (mE, .inl (cI, 500, .inl (nA told)))] (fun (x : gp_F) => [(mo, .inr (6, [.int 0, .ref m1, .int (nI n), .int (nI pos), .int (tI wr), .int (nI ec), .ref m6, .ref m7, .ref m8, .ref m9, .ref mA, .int (nI w), .int (nI nw), .ref mB, .ref mC, .ref mD, .int (nI x.2), .ref mE, .ref mF])), (m6, .inl (cI, 4920, .inl (nA mb))), (m7, .inl (cZ, 492, .inl (zA ms))), (m9, .inl (cI, 600, .inl (nA cd))), (mE, .inl (cI, 500, .inl (nA x.1)))]) (fun r x => (ec = 0 ∧ r = -103 ∧ x = (told, kf)) ∨ (ec ≠ 0 ∧ x = gp_ck us bn shr pq (told, 0) 12 ∧ r = nI x.2)) := by
  refine ga_enI (by decide) (Nat.le_of_ble_eq_true rfl) ?_
  intro p e s m below meth c ls A S hrt hlk hK hP hD hA hl
  have hS : va_S A s.heap s.heap [] := va_S.rf
  obtain ⟨hx, hb, hml, hown, hts⟩ := id S
  have hl : lv_has ls 9 [(0, .ref mo)] := hl
  refine lv_aload_n hx hb d_Mo_check_0 rfl (lv_at hl 0 rfl) ?_
  refine lv_iconst (v := 0) hx hb d_Mo_check_1 (by decide) ?_
  refine ga_put (ws' := [(mo, .inr (6, [.int 0, .ref m1, .int (nI n), .int (nI pos), .int (tI wr), .int (nI ec), .ref m6, .ref m7, .ref m8, .ref m9, .ref mA, .int (nI w), .int (nI nw), .ref mB, .ref mC, .ref mD, .int (nI kf), .ref mE, .ref mF])), (m6, .inl (cI, 4920, .inl (nA mb))), (m7, .inl (cZ, 492, .inl (zA ms))), (m9, .inl (cI, 600, .inl (nA cd))), (mE, .inl (cI, 500, .inl (nA told)))]) S hK hP hD hS 0 rfl p_Mo_48 rfl rfl (Nat.le_of_ble_eq_true rfl) rfl d_Mo_check_2 (fun H locs hP hD hS => ?_)
  refine lv_aload_n hx hb d_Mo_check_5 rfl (lv_at hl 0 rfl) ?_
  refine ga_get S hK hP 0 rfl f_Mo_91 rfl d_Mo_check_6 ?_
  refine lv_if_ne (tgt := 15) hx hb d_Mo_check_9 (by decide) (fun c9 => ?_) (fun c9 => ?_)
  · have c9 : ¬ (ec = 0) := fun q => c9 ((nI_eq (a := ec) (b := 0) (by omega) (by omega)).mpr q)
    refine lv_aload_n hx hb d_Mo_check_15 rfl (lv_at hl 0 rfl) ?_
    refine lv_iconst (v := 0) hx hb d_Mo_check_16 (by decide) ?_
    refine ga_put (ws' := [(mo, .inr (6, [.int 0, .ref m1, .int (nI n), .int (nI pos), .int (tI wr), .int (nI ec), .ref m6, .ref m7, .ref m8, .ref m9, .ref mA, .int (nI w), .int (nI nw), .ref mB, .ref mC, .ref mD, .int 0, .ref mE, .ref mF])), (m6, .inl (cI, 4920, .inl (nA mb))), (m7, .inl (cZ, 492, .inl (zA ms))), (m9, .inl (cI, 600, .inl (nA cd))), (mE, .inl (cI, 500, .inl (nA told)))]) S hK hP hD hS 0 rfl p_Mo_101 rfl rfl (Nat.le_of_ble_eq_true rfl) rfl d_Mo_check_17 (fun H locs hP hD hS => ?_)
    refine lv_iconst (v := 0) hx hb d_Mo_check_20 (by decide) ?_
    refine lv_istore_n (lv' := [(1, .int 0), (0, .ref mo)]) hx hb d_Mo_check_21 rfl hl (by decide) rfl (fun ls hl => ?_)
    refine ga_loop (α := Nat × (Nat → Nat) × Nat) (fun x => match x with | (m, td, kk) => 12 - m) (fun x ls H locs => match x with | (m, td, kk) => lv_has ls 9 [(1, .int (nI m)), (0, .ref mo)] ∧ va_P D vwCl [(mo, .inr (6, [.int 0, .ref m1, .int (nI n), .int (nI pos), .int (tI wr), .int (nI ec), .ref m6, .ref m7, .ref m8, .ref m9, .ref mA, .int (nI w), .int (nI nw), .ref mB, .ref mC, .ref mD, .int (nI kk), .ref mE, .ref mF])), (m6, .inl (cI, 4920, .inl (nA mb))), (m7, .inl (cZ, 492, .inl (zA ms))), (m9, .inl (cI, 600, .inl (nA cd))), (mE, .inl (cI, 500, .inl (nA td)))] H ∧ va_D A [(mo, .inr (6, [.int 0, .ref m1, .int (nI n), .int (nI pos), .int (tI wr), .int (nI ec), .ref m6, .ref m7, .ref m8, .ref m9, .ref mA, .int (nI w), .int (nI nw), .ref mB, .ref mC, .ref mD, .int (nI kk), .ref mE, .ref mF])), (m6, .inl (cI, 4920, .inl (nA mb))), (m7, .inl (cZ, 492, .inl (zA ms))), (m9, .inl (cI, 600, .inl (nA cd))), (mE, .inl (cI, 500, .inl (nA td)))] ∧ va_S A s.heap H locs ∧ m ≤ 12 ∧ (td, kk) = gp_ck us bn shr pq (told, 0) m) ?_ (0, told, 0) ⟨lv_sub hl [0, 1] rfl, hP, hD, hS, ⟨by decide, rfl⟩⟩
    intro x ls H locs hI ih1
    obtain ⟨m, td, kk⟩ := x
    obtain ⟨hl, hP, hD, hS, ⟨g1, g2⟩⟩ := hI
    have hl : lv_has ls 9 [(1, .int (nI m)), (0, .ref mo)] := hl
    have hP : va_P D vwCl [(mo, .inr (6, [.int 0, .ref m1, .int (nI n), .int (nI pos), .int (tI wr), .int (nI ec), .ref m6, .ref m7, .ref m8, .ref m9, .ref mA, .int (nI w), .int (nI nw), .ref mB, .ref mC, .ref mD, .int (nI kk), .ref mE, .ref mF])), (m6, .inl (cI, 4920, .inl (nA mb))), (m7, .inl (cZ, 492, .inl (zA ms))), (m9, .inl (cI, 600, .inl (nA cd))), (mE, .inl (cI, 500, .inl (nA td)))] H := hP
    have hD : va_D A [(mo, .inr (6, [.int 0, .ref m1, .int (nI n), .int (nI pos), .int (tI wr), .int (nI ec), .ref m6, .ref m7, .ref m8, .ref m9, .ref mA, .int (nI w), .int (nI nw), .ref mB, .ref mC, .ref mD, .int (nI kk), .ref mE, .ref mF])), (m6, .inl (cI, 4920, .inl (nA mb))), (m7, .inl (cZ, 492, .inl (zA ms))), (m9, .inl (cI, 600, .inl (nA cd))), (mE, .inl (cI, 500, .inl (nA td)))] := hD
    have hkk : kk ≤ 0 + 1640 * m := by have := gp_ck_le us bn shr pq (told, 0) m; rw [← g2] at this; exact this
    refine lv_iload_n hx hb d_Mo_check_22 rfl (lv_at hl 0 rfl) ?_
    refine lv_bipush (v := 12) hx hb d_Mo_check_23 (by decide) ?_
    refine lv_icmp_ge (tgt := 257) hx hb d_Mo_check_25 (by decide) (fun c25 => ?_) (fun c25 => ?_)
    · have c25 : 12 ≤ m := (nI_leI (a := 12) (b := m) (by omega) (by omega)).mp c25
      refine lv_aload_n hx hb d_Mo_check_257 rfl (lv_at hl 1 rfl) ?_
      refine ga_get S hK hP 0 rfl f_Mo_101 rfl d_Mo_check_258 ?_
      exact ga_wi (td, kk) S hrt hlk hP hD hS (Or.inr ⟨c9, by rw [g2, show m = 12 by omega], rfl⟩) d_Mo_check_261
    · have c25 : ¬ (12 ≤ m) := fun q => c25 ((nI_leI (a := 12) (b := m) (by omega) (by omega)).mpr q)
      refine lv_iload_n hx hb d_Mo_check_28 rfl (lv_at hl 0 rfl) ?_
      refine lv_iconst (v := 4) hx hb d_Mo_check_29 (by decide) ?_
      refine lv_idiv hx hb d_Mo_check_30 (by decide) ?_
      refine ga_top (nI (m / 4)) (pk_div (a := m) (d := 4) (by omega) (by decide) (by decide)) ?_
      refine lv_istore_n (lv' := [(2, .int (nI (m / 4))), (1, .int (nI m)), (0, .ref mo)]) hx hb d_Mo_check_31 rfl hl (by decide) rfl (fun ls hl => ?_)
      refine lv_iload_n hx hb d_Mo_check_32 rfl (lv_at hl 1 rfl) ?_
      refine lv_iconst (v := 4) hx hb d_Mo_check_33 (by decide) ?_
      refine lv_irem hx hb d_Mo_check_34 (by decide) ?_
      refine ga_top (nI (m % 4)) (pk_rem (a := m) (d := 4) (by omega) (by decide) (by decide)) ?_
      refine lv_istore_n (lv' := [(3, .int (nI (m % 4))), (2, .int (nI (m / 4))), (1, .int (nI m)), (0, .ref mo)]) hx hb d_Mo_check_35 rfl hl (by decide) rfl (fun ls hl => ?_)
      refine lv_iconst (v := 1) hx hb d_Mo_check_36 (by decide) ?_
      refine lv_istore (lv' := [(4, .int 1), (3, .int (nI (m % 4))), (2, .int (nI (m / 4))), (1, .int (nI m)), (0, .ref mo)]) hx hb d_Mo_check_37 hl (by decide) rfl (fun ls hl => ?_)
      refine ga_loop (α := Nat × (Nat → Nat) × Nat) (fun x => match x with | (t, td2, kk2) => 41 - t) (fun x ls H locs => match x with | (t, td2, kk2) => lv_has ls 9 [(4, .int (nI t)), (3, .int (nI (m % 4))), (2, .int (nI (m / 4))), (1, .int (nI m)), (0, .ref mo)] ∧ va_P D vwCl [(mo, .inr (6, [.int 0, .ref m1, .int (nI n), .int (nI pos), .int (tI wr), .int (nI ec), .ref m6, .ref m7, .ref m8, .ref m9, .ref mA, .int (nI w), .int (nI nw), .ref mB, .ref mC, .ref mD, .int (nI kk2), .ref mE, .ref mF])), (m6, .inl (cI, 4920, .inl (nA mb))), (m7, .inl (cZ, 492, .inl (zA ms))), (m9, .inl (cI, 600, .inl (nA cd))), (mE, .inl (cI, 500, .inl (nA td2)))] H ∧ va_D A [(mo, .inr (6, [.int 0, .ref m1, .int (nI n), .int (nI pos), .int (tI wr), .int (nI ec), .ref m6, .ref m7, .ref m8, .ref m9, .ref mA, .int (nI w), .int (nI nw), .ref mB, .ref mC, .ref mD, .int (nI kk2), .ref mE, .ref mF])), (m6, .inl (cI, 4920, .inl (nA mb))), (m7, .inl (cZ, 492, .inl (zA ms))), (m9, .inl (cI, 600, .inl (nA cd))), (mE, .inl (cI, 500, .inl (nA td2)))] ∧ va_S A s.heap H locs ∧ 1 ≤ t ∧ t ≤ 41 ∧ (t = 1 ∨ m % 4 < pq (m / 4)) ∧ kk2 ≤ kk + t ∧ (td2, kk2) = gp_hl us bn (m / 4) (m % 4) (td, kk) (t - 1)) ?_ (1, td, kk) ⟨lv_sub hl [0, 1, 2, 3, 4] rfl, hP, hD, hS, ⟨by decide, by decide, Or.inl rfl, by omega, rfl⟩⟩
      intro x ls H locs hI ih2
      obtain ⟨t, td2, kk2⟩ := x
      obtain ⟨hl, hP, hD, hS, ⟨f1, f2, f3, f5, f4⟩⟩ := hI
      have hl : lv_has ls 9 [(4, .int (nI t)), (3, .int (nI (m % 4))), (2, .int (nI (m / 4))), (1, .int (nI m)), (0, .ref mo)] := hl
      have hP : va_P D vwCl [(mo, .inr (6, [.int 0, .ref m1, .int (nI n), .int (nI pos), .int (tI wr), .int (nI ec), .ref m6, .ref m7, .ref m8, .ref m9, .ref mA, .int (nI w), .int (nI nw), .ref mB, .ref mC, .ref mD, .int (nI kk2), .ref mE, .ref mF])), (m6, .inl (cI, 4920, .inl (nA mb))), (m7, .inl (cZ, 492, .inl (zA ms))), (m9, .inl (cI, 600, .inl (nA cd))), (mE, .inl (cI, 500, .inl (nA td2)))] H := hP
      have hD : va_D A [(mo, .inr (6, [.int 0, .ref m1, .int (nI n), .int (nI pos), .int (tI wr), .int (nI ec), .ref m6, .ref m7, .ref m8, .ref m9, .ref mA, .int (nI w), .int (nI nw), .ref mB, .ref mC, .ref mD, .int (nI kk2), .ref mE, .ref mF])), (m6, .inl (cI, 4920, .inl (nA mb))), (m7, .inl (cZ, 492, .inl (zA ms))), (m9, .inl (cI, 600, .inl (nA cd))), (mE, .inl (cI, 500, .inl (nA td2)))] := hD
      refine lv_iload hx hb d_Mo_check_39 (lv_at hl 0 rfl) ?_
      refine lv_bipush (v := 41) hx hb d_Mo_check_41 (by decide) ?_
      refine lv_icmp_ge (tgt := 97) hx hb d_Mo_check_43 (by decide) (fun c43 => ?_) (fun c43 => ?_)
      · have c43 : 41 ≤ t := (nI_leI (a := 41) (b := t) (by omega) (by omega)).mp c43
        have hst1 : (td2, kk2) = (if m % 4 < pq (m / 4) then gp_hl us bn (m / 4) (m % 4) (td, kk) 40 else (td, kk)) := by first | (rw [if_pos (by omega), f4, show t - 1 = 40 by omega]) | (rw [if_neg hp49, f4, show t - 1 = 0 by omega]; rfl)
        obtain ⟨st1, hs1⟩ : ∃ z, z = (td2, kk2) := ⟨_, rfl⟩
        have hs2 : st1.2 = kk2 := by rw [hs1]
        refine lv_iconst (v := 0) hx hb d_Mo_check_97 (by decide) ?_
        refine lv_istore (lv' := [(4, .int 0), (3, .int (nI (m % 4))), (2, .int (nI (m / 4))), (1, .int (nI m)), (0, .ref mo)]) hx hb d_Mo_check_98 hl (by decide) rfl (fun ls hl => ?_)
        refine ga_loop (α := Nat × (Nat → Nat) × Nat) (fun x => match x with | (i, td3, kk3) => 1600 - i) (fun x ls H locs => match x with | (i, td3, kk3) => lv_has ls 9 [(4, .int (nI i)), (3, .int (nI (m % 4))), (2, .int (nI (m / 4))), (1, .int (nI m)), (0, .ref mo)] ∧ va_P D vwCl [(mo, .inr (6, [.int 0, .ref m1, .int (nI n), .int (nI pos), .int (tI wr), .int (nI ec), .ref m6, .ref m7, .ref m8, .ref m9, .ref mA, .int (nI w), .int (nI nw), .ref mB, .ref mC, .ref mD, .int (nI kk3), .ref mE, .ref mF])), (m6, .inl (cI, 4920, .inl (nA mb))), (m7, .inl (cZ, 492, .inl (zA ms))), (m9, .inl (cI, 600, .inl (nA cd))), (mE, .inl (cI, 500, .inl (nA td3)))] H ∧ va_D A [(mo, .inr (6, [.int 0, .ref m1, .int (nI n), .int (nI pos), .int (tI wr), .int (nI ec), .ref m6, .ref m7, .ref m8, .ref m9, .ref mA, .int (nI w), .int (nI nw), .ref mB, .ref mC, .ref mD, .int (nI kk3), .ref mE, .ref mF])), (m6, .inl (cI, 4920, .inl (nA mb))), (m7, .inl (cZ, 492, .inl (zA ms))), (m9, .inl (cI, 600, .inl (nA cd))), (mE, .inl (cI, 500, .inl (nA td3)))] ∧ va_S A s.heap H locs ∧ i ≤ 1600 ∧ (td3, kk3) = gp_db us bn shr (m / 4) (m % 4) st1 i) ?_ (0, td2, kk2) ⟨lv_sub hl [0, 1, 2, 3, 4] rfl, hP, hD, hS, ⟨Nat.zero_le _, hs1.symm⟩⟩
        intro x ls H locs hI ih3
        obtain ⟨i, td3, kk3⟩ := x
        obtain ⟨hl, hP, hD, hS, ⟨j1, j2⟩⟩ := hI
        have hl : lv_has ls 9 [(4, .int (nI i)), (3, .int (nI (m % 4))), (2, .int (nI (m / 4))), (1, .int (nI m)), (0, .ref mo)] := hl
        have hP : va_P D vwCl [(mo, .inr (6, [.int 0, .ref m1, .int (nI n), .int (nI pos), .int (tI wr), .int (nI ec), .ref m6, .ref m7, .ref m8, .ref m9, .ref mA, .int (nI w), .int (nI nw), .ref mB, .ref mC, .ref mD, .int (nI kk3), .ref mE, .ref mF])), (m6, .inl (cI, 4920, .inl (nA mb))), (m7, .inl (cZ, 492, .inl (zA ms))), (m9, .inl (cI, 600, .inl (nA cd))), (mE, .inl (cI, 500, .inl (nA td3)))] H := hP
        have hD : va_D A [(mo, .inr (6, [.int 0, .ref m1, .int (nI n), .int (nI pos), .int (tI wr), .int (nI ec), .ref m6, .ref m7, .ref m8, .ref m9, .ref mA, .int (nI w), .int (nI nw), .ref mB, .ref mC, .ref mD, .int (nI kk3), .ref mE, .ref mF])), (m6, .inl (cI, 4920, .inl (nA mb))), (m7, .inl (cZ, 492, .inl (zA ms))), (m9, .inl (cI, 600, .inl (nA cd))), (mE, .inl (cI, 500, .inl (nA td3)))] := hD
        have hk3 : kk3 ≤ st1.2 + i := by have := gp_db_le us bn shr (m / 4) (m % 4) st1 i; rw [← j2] at this; exact this
        refine lv_iload hx hb d_Mo_check_100 (lv_at hl 0 rfl) ?_
        refine lv_sipush (v := 1600) hx hb d_Mo_check_102 (by decide) ?_
        refine lv_icmp_ge (tgt := 251) hx hb d_Mo_check_105 (by decide) (fun c105 => ?_) (fun c105 => ?_)
        · have c105 : 1600 ≤ i := (nI_leI (a := 1600) (b := i) (by omega) (by omega)).mp c105
          refine lv_iinc (v := nI (m + 1)) (lv' := [(1, .int (nI (m + 1))), (4, .int (nI i)), (3, .int (nI (m % 4))), (2, .int (nI (m / 4))), (0, .ref mo)]) hx hb d_Mo_check_251 hl (k := 3) rfl (ga_inc m) (by decide) rfl (fun ls hl => ?_)
          refine lv_goto (tgt := 22) hx hb d_Mo_check_254 (by decide) ?_
          exact ih1 (m + 1, td3, kk3) _ _ _ (by show (12 - (m + 1)) < (12 - m); omega) ⟨lv_sub hl [0, 4] rfl, hP, hD, hS, ⟨by omega, by rw [gp_ck, ← g2, ← hst1, ← hs1, j2, show i = 1600 by omega]⟩⟩
        · have c105 : ¬ (1600 ≤ i) := fun q => c105 ((nI_leI (a := 1600) (b := i) (by omega) (by omega)).mpr q)
          refine lv_iload hx hb d_Mo_check_108 (lv_at hl 0 rfl) ?_
          refine lv_bipush (v := 40) hx hb d_Mo_check_110 (by decide) ?_
          refine lv_idiv hx hb d_Mo_check_112 (by decide) ?_
          refine ga_top (nI (i / 40)) (pk_div (a := i) (d := 40) (by omega) (by decide) (by decide)) ?_
          refine lv_iconst (v := 1) hx hb d_Mo_check_113 (by decide) ?_
          refine lv_iadd hx hb d_Mo_check_114 ?_
          refine ga_top (nI ((i / 40) + 1)) (nI_add (i / 40) 1) ?_
          refine lv_istore (lv' := [(5, .int (nI ((i / 40) + 1))), (4, .int (nI i)), (3, .int (nI (m % 4))), (2, .int (nI (m / 4))), (1, .int (nI m)), (0, .ref mo)]) hx hb d_Mo_check_115 hl (by decide) rfl (fun ls hl => ?_)
          refine lv_iload hx hb d_Mo_check_117 (lv_at hl 1 rfl) ?_
          refine lv_bipush (v := 40) hx hb d_Mo_check_119 (by decide) ?_
          refine lv_irem hx hb d_Mo_check_121 (by decide) ?_
          refine ga_top (nI (i % 40)) (pk_rem (a := i) (d := 40) (by omega) (by decide) (by decide)) ?_
          refine lv_iconst (v := 1) hx hb d_Mo_check_122 (by decide) ?_
          refine lv_iadd hx hb d_Mo_check_123 ?_
          refine ga_top (nI ((i % 40) + 1)) (nI_add (i % 40) 1) ?_
          refine lv_istore (lv' := [(6, .int (nI ((i % 40) + 1))), (5, .int (nI ((i / 40) + 1))), (4, .int (nI i)), (3, .int (nI (m % 4))), (2, .int (nI (m / 4))), (1, .int (nI m)), (0, .ref mo)]) hx hb d_Mo_check_124 hl (by decide) rfl (fun ls hl => ?_)
          refine lv_bipush (v := 8) hx hb d_Mo_check_126 (by decide) ?_
          refine lv_iload hx hb d_Mo_check_128 (lv_at hl 1 rfl) ?_
          refine lv_iload_n hx hb d_Mo_check_130 rfl (lv_at hl 3 rfl) ?_
          refine lv_iload_n hx hb d_Mo_check_131 rfl (lv_at hl 4 rfl) ?_
          refine ga_cs (As := [.int 8, .int (nI ((i / 40) + 1)), .int (nI (m % 4)), .int (nI (m / 4))]) (rest := []) S hK hP s_Mo_75 (gc_Mo_place l D cI cZ cC cG 8 ((i / 40) + 1) (m % 4) (m / 4)) [] rfl rfl hl.1 rfl (Nat.le_of_ble_eq_true rfl) ⟨Nat.le_of_ble_eq_true rfl, Nat.le_of_ble_eq_true rfl⟩ ⟨Nat.le_of_ble_eq_true rfl, Nat.le_of_ble_eq_true rfl⟩ d_Mo_check_132 (fun r hp132 => ?_)
          subst hp132
          refine lv_istore (lv' := [(7, .int (nI (gm_pl 8 ((i / 40) + 1) (m % 4) (m / 4)))), (6, .int (nI ((i % 40) + 1))), (5, .int (nI ((i / 40) + 1))), (4, .int (nI i)), (3, .int (nI (m % 4))), (2, .int (nI (m / 4))), (1, .int (nI m)), (0, .ref mo)]) hx hb d_Mo_check_135 hl (by decide) rfl (fun ls hl => ?_)
          refine lv_bipush (v := 8) hx hb d_Mo_check_137 (by decide) ?_
          refine lv_iload hx hb d_Mo_check_139 (lv_at hl 1 rfl) ?_
          refine lv_iload_n hx hb d_Mo_check_141 rfl (lv_at hl 4 rfl) ?_
          refine lv_iload_n hx hb d_Mo_check_142 rfl (lv_at hl 5 rfl) ?_
          refine ga_cs (As := [.int 8, .int (nI ((i % 40) + 1)), .int (nI (m % 4)), .int (nI (m / 4))]) (rest := []) S hK hP s_Mo_75 (gc_Mo_place l D cI cZ cC cG 8 ((i % 40) + 1) (m % 4) (m / 4)) [] rfl rfl hl.1 rfl (Nat.le_of_ble_eq_true rfl) ⟨Nat.le_of_ble_eq_true rfl, Nat.le_of_ble_eq_true rfl⟩ ⟨Nat.le_of_ble_eq_true rfl, Nat.le_of_ble_eq_true rfl⟩ d_Mo_check_143 (fun r hp143 => ?_)
          subst hp143
          refine lv_istore (lv' := [(8, .int (nI (gm_pl 8 ((i % 40) + 1) (m % 4) (m / 4)))), (7, .int (nI (gm_pl 8 ((i / 40) + 1) (m % 4) (m / 4)))), (6, .int (nI ((i % 40) + 1))), (5, .int (nI ((i / 40) + 1))), (4, .int (nI i)), (3, .int (nI (m % 4))), (2, .int (nI (m / 4))), (1, .int (nI m)), (0, .ref mo)]) hx hb d_Mo_check_146 hl (by decide) rfl (fun ls hl => ?_)
          have ea := h8 (i / 40 + 1) (m % 4) (m / 4) (by omega) (by omega) (by omega) (by omega)
          have eb := h8 (i % 40 + 1) (m % 4) (m / 4) (by omega) (by omega) (by omega) (by omega)
          have ha9 := hbn (gp_sl (i / 40 + 1) (m % 4) (m / 4))
          have hb9 := hbn (gp_sl (i % 40 + 1) (m % 4) (m / 4))
          refine lv_iload hx hb d_Mo_check_148 (lv_at hl 3 rfl) ?_
          refine lv_iload hx hb d_Mo_check_150 (lv_at hl 2 rfl) ?_
          refine lv_icmp_ge (tgt := 245) hx hb d_Mo_check_152 (by decide) (fun c152 => ?_) (fun c152 => ?_)
          · have c152 : ((i % 40) + 1) ≤ ((i / 40) + 1) := (nI_leI (a := ((i % 40) + 1)) (b := ((i / 40) + 1)) (by omega) (by omega)).mp c152
            refine lv_iinc (v := nI (i + 1)) (lv' := [(4, .int (nI (i + 1))), (8, .int (nI (gm_pl 8 ((i % 40) + 1) (m % 4) (m / 4)))), (7, .int (nI (gm_pl 8 ((i / 40) + 1) (m % 4) (m / 4)))), (6, .int (nI ((i % 40) + 1))), (5, .int (nI ((i / 40) + 1))), (3, .int (nI (m % 4))), (2, .int (nI (m / 4))), (1, .int (nI m)), (0, .ref mo)]) hx hb d_Mo_check_245 hl (k := 4) rfl (ga_inc i) (by decide) rfl (fun ls hl => ?_)
            refine lv_goto (tgt := 100) hx hb d_Mo_check_248 (by decide) ?_
            exact ih3 (i + 1, td3, kk3) _ _ _ (by show (1600 - (i + 1)) < (1600 - i); omega) ⟨lv_sub hl [0, 5, 6, 7, 8] rfl, hP, hD, hS, ⟨by omega, by rw [gp_db, ← j2]; rw [if_neg (fun q => by obtain ⟨q1, q2, q3, q4, q5, q6⟩ := q; first | exact c152 q1 | exact q2 (by omega) | exact c179 (by omega) | (exact q4 ⟨by rw [← sa]; exact c193, by rw [← sb]; exact c207⟩) | (rw [hp213] at q5; exact absurd q5 (by decide)) | (rw [hp222] at q6; exact absurd q6 (by decide)))]⟩⟩
          · have c152 : ¬ (((i % 40) + 1) ≤ ((i / 40) + 1)) := fun q => c152 ((nI_leI (a := ((i % 40) + 1)) (b := ((i / 40) + 1)) (by omega) (by omega)).mpr q)
            refine lv_aload_n hx hb d_Mo_check_155 rfl (lv_at hl 8 rfl) ?_
            refine ga_get S hK hP 0 rfl f_Mo_13 rfl d_Mo_check_156 ?_
            refine lv_iload hx hb d_Mo_check_159 (lv_at hl 1 rfl) ?_
            refine ga_ild S hK hP 1 0 rfl rfl (gm_pl 8 ((i / 40) + 1) (m % 4) (m / 4)) (gm_pl_lt (by decide) (by omega) (by omega) (by omega)) (by decide) d_Mo_check_161 ?_
            refine lv_if_le (tgt := 245) hx hb d_Mo_check_162 (by decide) (fun c162 => ?_) (fun c162 => ?_)
            · have c162 : (mb (gm_pl 8 ((i / 40) + 1) (m % 4) (m / 4))) ≤ 0 := (nI_leI (a := (mb (gm_pl 8 ((i / 40) + 1) (m % 4) (m / 4)))) (b := 0) (by omega) (by omega)).mp c162
              refine lv_iinc (v := nI (i + 1)) (lv' := [(4, .int (nI (i + 1))), (8, .int (nI (gm_pl 8 ((i % 40) + 1) (m % 4) (m / 4)))), (7, .int (nI (gm_pl 8 ((i / 40) + 1) (m % 4) (m / 4)))), (6, .int (nI ((i % 40) + 1))), (5, .int (nI ((i / 40) + 1))), (3, .int (nI (m % 4))), (2, .int (nI (m / 4))), (1, .int (nI m)), (0, .ref mo)]) hx hb d_Mo_check_245 hl (k := 4) rfl (ga_inc i) (by decide) rfl (fun ls hl => ?_)
              refine lv_goto (tgt := 100) hx hb d_Mo_check_248 (by decide) ?_
              exact ih3 (i + 1, td3, kk3) _ _ _ (by show (1600 - (i + 1)) < (1600 - i); omega) ⟨lv_sub hl [0, 5, 6, 7, 8] rfl, hP, hD, hS, ⟨by omega, by rw [gp_db, ← j2]; rw [if_neg (fun q => by obtain ⟨q1, q2, q3, q4, q5, q6⟩ := q; first | exact c152 q1 | exact q2 (by omega) | exact c179 (by omega) | (exact q4 ⟨by rw [← sa]; exact c193, by rw [← sb]; exact c207⟩) | (rw [hp213] at q5; exact absurd q5 (by decide)) | (rw [hp222] at q6; exact absurd q6 (by decide)))]⟩⟩
            · have c162 : ¬ ((mb (gm_pl 8 ((i / 40) + 1) (m % 4) (m / 4))) ≤ 0) := fun q => c162 ((nI_leI (a := (mb (gm_pl 8 ((i / 40) + 1) (m % 4) (m / 4)))) (b := 0) (by omega) (by omega)).mpr q)
              refine lv_aload_n hx hb d_Mo_check_165 rfl (lv_at hl 8 rfl) ?_
              refine ga_get S hK hP 0 rfl f_Mo_13 rfl d_Mo_check_166 ?_
              refine lv_iload hx hb d_Mo_check_169 (lv_at hl 1 rfl) ?_
              refine ga_ild S hK hP 1 0 rfl rfl (gm_pl 8 ((i / 40) + 1) (m % 4) (m / 4)) (gm_pl_lt (by decide) (by omega) (by omega) (by omega)) (by decide) d_Mo_check_171 ?_
              refine lv_aload_n hx hb d_Mo_check_172 rfl (lv_at hl 8 rfl) ?_
              refine ga_get S hK hP 0 rfl f_Mo_13 rfl d_Mo_check_173 ?_
              refine lv_iload hx hb d_Mo_check_176 (lv_at hl 0 rfl) ?_
              refine ga_ild S hK hP 1 0 rfl rfl (gm_pl 8 ((i % 40) + 1) (m % 4) (m / 4)) (gm_pl_lt (by decide) (by omega) (by omega) (by omega)) (by decide) d_Mo_check_178 ?_
              refine lv_icmp_ne (tgt := 245) hx hb d_Mo_check_179 (by decide) (fun c179 => ?_) (fun c179 => ?_)
              · have c179 : ¬ ((mb (gm_pl 8 ((i / 40) + 1) (m % 4) (m / 4))) = (mb (gm_pl 8 ((i % 40) + 1) (m % 4) (m / 4)))) := fun q => c179 ((nI_eq (a := (mb (gm_pl 8 ((i / 40) + 1) (m % 4) (m / 4)))) (b := (mb (gm_pl 8 ((i % 40) + 1) (m % 4) (m / 4)))) (by omega) (by omega)).mpr q)
                refine lv_iinc (v := nI (i + 1)) (lv' := [(4, .int (nI (i + 1))), (8, .int (nI (gm_pl 8 ((i % 40) + 1) (m % 4) (m / 4)))), (7, .int (nI (gm_pl 8 ((i / 40) + 1) (m % 4) (m / 4)))), (6, .int (nI ((i % 40) + 1))), (5, .int (nI ((i / 40) + 1))), (3, .int (nI (m % 4))), (2, .int (nI (m / 4))), (1, .int (nI m)), (0, .ref mo)]) hx hb d_Mo_check_245 hl (k := 4) rfl (ga_inc i) (by decide) rfl (fun ls hl => ?_)
                refine lv_goto (tgt := 100) hx hb d_Mo_check_248 (by decide) ?_
                exact ih3 (i + 1, td3, kk3) _ _ _ (by show (1600 - (i + 1)) < (1600 - i); omega) ⟨lv_sub hl [0, 5, 6, 7, 8] rfl, hP, hD, hS, ⟨by omega, by rw [gp_db, ← j2]; rw [if_neg (fun q => by obtain ⟨q1, q2, q3, q4, q5, q6⟩ := q; first | exact c152 q1 | exact q2 (by omega) | exact c179 (by omega) | (exact q4 ⟨by rw [← sa]; exact c193, by rw [← sb]; exact c207⟩) | (rw [hp213] at q5; exact absurd q5 (by decide)) | (rw [hp222] at q6; exact absurd q6 (by decide)))]⟩⟩
              · have c179 : (mb (gm_pl 8 ((i / 40) + 1) (m % 4) (m / 4))) = (mb (gm_pl 8 ((i % 40) + 1) (m % 4) (m / 4))) := (nI_eq (a := (mb (gm_pl 8 ((i / 40) + 1) (m % 4) (m / 4)))) (b := (mb (gm_pl 8 ((i % 40) + 1) (m % 4) (m / 4)))) (by omega) (by omega)).mp c179
                have sa := hms (i / 40 + 1) (m % 4) (m / 4) (by omega) (by omega) (by omega) (by omega) (by omega)
                have sb := hms (i % 40 + 1) (m % 4) (m / 4) (by omega) (by omega) (by omega) (by omega) (by omega)
                refine lv_aload_n hx hb d_Mo_check_182 rfl (lv_at hl 8 rfl) ?_
                refine ga_get S hK hP 0 rfl f_Mo_16 rfl d_Mo_check_183 ?_
                refine lv_iload hx hb d_Mo_check_186 (lv_at hl 1 rfl) ?_
                refine lv_sipush (v := 3936) hx hb d_Mo_check_188 (by decide) ?_
                refine lv_isub hx hb d_Mo_check_191 ?_
                refine ga_top (nI ((gm_pl 8 ((i / 40) + 1) (m % 4) (m / 4)) - 3936)) (pk_sub (a := (gm_pl 8 ((i / 40) + 1) (m % 4) (m / 4))) (b := 3936) (gm_pl_9 _ _ _)) ?_
                refine ga_top (nI (gm_pl 0 (i / 40 + 1) (m % 4) (m / 4))) (by rw [gm_pl_8]) ?_
                refine ga_zld S hK hP 2 1 rfl rfl (gm_pl 0 (i / 40 + 1) (m % 4) (m / 4)) (gm_pl_0 (by omega) (by omega) (by omega)) (by decide) d_Mo_check_192 ?_
                refine lv_if_eq (tgt := 210) hx hb d_Mo_check_193 (by decide) (fun c193 => ?_) (fun c193 => ?_)
                · have c193 : ms (gm_pl 0 (i / 40 + 1) (m % 4) (m / 4)) = false := bI_0 c193
                  refine lv_aload_n hx hb d_Mo_check_210 rfl (lv_at hl 8 rfl) ?_
                  refine lv_iload hx hb d_Mo_check_211 (lv_at hl 3 rfl) ?_
                  refine ga_cr (As := [.int (nI ((i / 40) + 1))]) (rest := []) (q0 := 0) S hK hP s_Mo_108 (gc_Mo_isUsed l D cI cZ cC cG mo m1 m6 m7 m8 m9 mA mB mC mD mE mF n pos ec w nw kk3 wr cd r1 us ((i / 40) + 1) (by omega) (by omega) hcd1 (hus _)) [0, 3] rfl rfl rfl rfl hl.1 rfl (Nat.le_of_ble_eq_true rfl) ⟨Nat.le_of_ble_eq_true rfl, Nat.le_of_ble_eq_true rfl⟩ ⟨Nat.le_of_ble_eq_true rfl, Nat.le_of_ble_eq_true rfl⟩ d_Mo_check_213 (fun r hp213 => ?_)
                  rcases hp213 with ⟨rfl, hp213⟩ | ⟨rfl, hp213⟩
                  · refine lv_if_eq (tgt := 245) hx hb d_Mo_check_216 (by decide) (fun c216 => ?_) (fun c216 => ?_)
                    · exact absurd c216 (by decide)
                    · refine lv_aload_n hx hb d_Mo_check_219 rfl (lv_at hl 8 rfl) ?_
                      refine lv_iload hx hb d_Mo_check_220 (lv_at hl 2 rfl) ?_
                      refine ga_cr (As := [.int (nI ((i % 40) + 1))]) (rest := []) (q0 := 0) S hK hP s_Mo_108 (gc_Mo_isUsed l D cI cZ cC cG mo m1 m6 m7 m8 m9 mA mB mC mD mE mF n pos ec w nw kk3 wr cd r1 us ((i % 40) + 1) (by omega) (by omega) hcd1 (hus _)) [0, 3] rfl rfl rfl rfl hl.1 rfl (Nat.le_of_ble_eq_true rfl) ⟨Nat.le_of_ble_eq_true rfl, Nat.le_of_ble_eq_true rfl⟩ ⟨Nat.le_of_ble_eq_true rfl, Nat.le_of_ble_eq_true rfl⟩ d_Mo_check_222 (fun r hp222 => ?_)
                      rcases hp222 with ⟨rfl, hp222⟩ | ⟨rfl, hp222⟩
                      · refine lv_if_eq (tgt := 245) hx hb d_Mo_check_225 (by decide) (fun c225 => ?_) (fun c225 => ?_)
                        · exact absurd c225 (by decide)
                        · refine lv_aload_n hx hb d_Mo_check_228 rfl (lv_at hl 8 rfl) ?_
                          refine lv_iload_n hx hb d_Mo_check_229 rfl (lv_at hl 6 rfl) ?_
                          refine lv_iload_n hx hb d_Mo_check_230 rfl (lv_at hl 5 rfl) ?_
                          refine lv_iload hx hb d_Mo_check_231 (lv_at hl 3 rfl) ?_
                          refine lv_iload hx hb d_Mo_check_233 (lv_at hl 2 rfl) ?_
                          refine lv_aload_n hx hb d_Mo_check_235 rfl (lv_at hl 8 rfl) ?_
                          refine ga_get S hK hP 0 rfl f_Mo_13 rfl d_Mo_check_236 ?_
                          refine lv_iload hx hb d_Mo_check_239 (lv_at hl 1 rfl) ?_
                          refine ga_ild S hK hP 1 0 rfl rfl (gm_pl 8 ((i / 40) + 1) (m % 4) (m / 4)) (gm_pl_lt (by decide) (by omega) (by omega) (by omega)) (by decide) d_Mo_check_241 ?_
                          refine ga_jv (wr := [(m6, .inl (cI, 4920, .inl (nA mb))), (m7, .inl (cZ, 492, .inl (zA ms))), (m9, .inl (cI, 600, .inl (nA cd)))]) (ga_runV (As := [.int (nI (m / 4)), .int (nI (m % 4)), .int (nI ((i / 40) + 1)), .int (nI ((i % 40) + 1)), .int (nI (mb (gm_pl 8 ((i / 40) + 1) (m % 4) (m / 4))))]) (rest := []) S hK s_Mo_112 (gc_Mo_tell l D cI cZ cC cG mo m1 m6 m7 m8 m9 mA mB mC mD mE mF n pos ec w nw kk3 wr (m / 4) (m % 4) ((i / 40) + 1) ((i % 40) + 1) (mb (gm_pl 8 ((i / 40) + 1) (m % 4) (m / 4))) td3 (by omega) _) (ga_prV (y := y_Mo_tell) (q0 := 0) hK hP hD [0, 4] rfl (by decide) rfl rfl) rfl hl.1 rfl (Nat.le_of_ble_eq_true rfl) ⟨Nat.le_of_ble_eq_true rfl, Nat.le_of_ble_eq_true rfl⟩ ⟨Nat.le_of_ble_eq_true rfl, Nat.le_of_ble_eq_true rfl⟩ d_Mo_check_242) hP hD hS hA [0, 4] [1, 2, 3] rfl rfl (by decide) (by decide) [3, 0, 1, 2, 4] (fun _ => [(mo, .inr (6, [.int 0, .ref m1, .int (nI n), .int (nI pos), .int (tI wr), .int (nI ec), .ref m6, .ref m7, .ref m8, .ref m9, .ref mA, .int (nI w), .int (nI nw), .ref mB, .ref mC, .ref mD, .int (nI ((gp_add (td3, kk3) (m / 4) (m % 4) ((i / 40) + 1) ((i % 40) + 1) (mb (gm_pl 8 ((i / 40) + 1) (m % 4) (m / 4)))).2)), .ref mE, .ref mF])), (m6, .inl (cI, 4920, .inl (nA mb))), (m7, .inl (cZ, 492, .inl (zA ms))), (m9, .inl (cI, 600, .inl (nA cd))), (mE, .inl (cI, 500, .inl (nA ((gp_add (td3, kk3) (m / 4) (m % 4) ((i / 40) + 1) ((i % 40) + 1) (mb (gm_pl 8 ((i / 40) + 1) (m % 4) (m / 4)))).1))))]) (fun _ => rfl) (by decide) (fun x H locs hp242 hP hD hS => ?_)
                          obtain ⟨⟨td1, kk1⟩, htd1⟩ : ∃ z, z = gp_add (td3, kk3) (m / 4) (m % 4) ((i / 40) + 1) ((i % 40) + 1) (mb (gm_pl 8 ((i / 40) + 1) (m % 4) (m / 4))) := ⟨_, rfl⟩
                          rw [← htd1] at hP hD
                          have hP : va_P D vwCl [(mo, .inr (6, [.int 0, .ref m1, .int (nI n), .int (nI pos), .int (tI wr), .int (nI ec), .ref m6, .ref m7, .ref m8, .ref m9, .ref mA, .int (nI w), .int (nI nw), .ref mB, .ref mC, .ref mD, .int (nI kk1), .ref mE, .ref mF])), (m6, .inl (cI, 4920, .inl (nA mb))), (m7, .inl (cZ, 492, .inl (zA ms))), (m9, .inl (cI, 600, .inl (nA cd))), (mE, .inl (cI, 500, .inl (nA td1)))] H := hP
                          have hD : va_D A [(mo, .inr (6, [.int 0, .ref m1, .int (nI n), .int (nI pos), .int (tI wr), .int (nI ec), .ref m6, .ref m7, .ref m8, .ref m9, .ref mA, .int (nI w), .int (nI nw), .ref mB, .ref mC, .ref mD, .int (nI kk1), .ref mE, .ref mF])), (m6, .inl (cI, 4920, .inl (nA mb))), (m7, .inl (cZ, 492, .inl (zA ms))), (m9, .inl (cI, 600, .inl (nA cd))), (mE, .inl (cI, 500, .inl (nA td1)))] := hD
                          have hktd1 : kk1 = kk3 + 1 := by have := gp_add_2 (td3, kk3) (m / 4) (m % 4) ((i / 40) + 1) ((i % 40) + 1) (mb (gm_pl 8 ((i / 40) + 1) (m % 4) (m / 4))); rw [← htd1] at this; exact this
                          refine lv_iinc (v := nI (i + 1)) (lv' := [(4, .int (nI (i + 1))), (8, .int (nI (gm_pl 8 ((i % 40) + 1) (m % 4) (m / 4)))), (7, .int (nI (gm_pl 8 ((i / 40) + 1) (m % 4) (m / 4)))), (6, .int (nI ((i % 40) + 1))), (5, .int (nI ((i / 40) + 1))), (3, .int (nI (m % 4))), (2, .int (nI (m / 4))), (1, .int (nI m)), (0, .ref mo)]) hx hb d_Mo_check_245 hl (k := 4) rfl (ga_inc i) (by decide) rfl (fun ls hl => ?_)
                          refine lv_goto (tgt := 100) hx hb d_Mo_check_248 (by decide) ?_
                          exact ih3 (i + 1, td1, kk1) _ _ _ (by show (1600 - (i + 1)) < (1600 - i); omega) ⟨lv_sub hl [0, 5, 6, 7, 8] rfl, hP, hD, hS, ⟨by omega, by rw [gp_db, ← j2]; rw [if_pos ⟨by omega, by omega, by omega, (fun q => by first | (rw [← sa, c193] at q; exact absurd q.1 (by decide)) | (rw [← sb, c207] at q; exact absurd q.2 (by decide))), hp213, hp222⟩, htd1, ea]⟩⟩
                      · refine lv_if_eq (tgt := 245) hx hb d_Mo_check_225 (by decide) (fun c225 => ?_) (fun c225 => ?_)
                        · refine lv_iinc (v := nI (i + 1)) (lv' := [(4, .int (nI (i + 1))), (8, .int (nI (gm_pl 8 ((i % 40) + 1) (m % 4) (m / 4)))), (7, .int (nI (gm_pl 8 ((i / 40) + 1) (m % 4) (m / 4)))), (6, .int (nI ((i % 40) + 1))), (5, .int (nI ((i / 40) + 1))), (3, .int (nI (m % 4))), (2, .int (nI (m / 4))), (1, .int (nI m)), (0, .ref mo)]) hx hb d_Mo_check_245 hl (k := 4) rfl (ga_inc i) (by decide) rfl (fun ls hl => ?_)
                          refine lv_goto (tgt := 100) hx hb d_Mo_check_248 (by decide) ?_
                          exact ih3 (i + 1, td3, kk3) _ _ _ (by show (1600 - (i + 1)) < (1600 - i); omega) ⟨lv_sub hl [0, 5, 6, 7, 8] rfl, hP, hD, hS, ⟨by omega, by rw [gp_db, ← j2]; rw [if_neg (fun q => by obtain ⟨q1, q2, q3, q4, q5, q6⟩ := q; first | exact c152 q1 | exact q2 (by omega) | exact c179 (by omega) | (exact q4 ⟨by rw [← sa]; exact c193, by rw [← sb]; exact c207⟩) | (rw [hp213] at q5; exact absurd q5 (by decide)) | (rw [hp222] at q6; exact absurd q6 (by decide)))]⟩⟩
                        · exact absurd c225 (by decide)
                  · refine lv_if_eq (tgt := 245) hx hb d_Mo_check_216 (by decide) (fun c216 => ?_) (fun c216 => ?_)
                    · refine lv_iinc (v := nI (i + 1)) (lv' := [(4, .int (nI (i + 1))), (8, .int (nI (gm_pl 8 ((i % 40) + 1) (m % 4) (m / 4)))), (7, .int (nI (gm_pl 8 ((i / 40) + 1) (m % 4) (m / 4)))), (6, .int (nI ((i % 40) + 1))), (5, .int (nI ((i / 40) + 1))), (3, .int (nI (m % 4))), (2, .int (nI (m / 4))), (1, .int (nI m)), (0, .ref mo)]) hx hb d_Mo_check_245 hl (k := 4) rfl (ga_inc i) (by decide) rfl (fun ls hl => ?_)
                      refine lv_goto (tgt := 100) hx hb d_Mo_check_248 (by decide) ?_
                      exact ih3 (i + 1, td3, kk3) _ _ _ (by show (1600 - (i + 1)) < (1600 - i); omega) ⟨lv_sub hl [0, 5, 6, 7, 8] rfl, hP, hD, hS, ⟨by omega, by rw [gp_db, ← j2]; rw [if_neg (fun q => by obtain ⟨q1, q2, q3, q4, q5, q6⟩ := q; first | exact c152 q1 | exact q2 (by omega) | exact c179 (by omega) | (exact q4 ⟨by rw [← sa]; exact c193, by rw [← sb]; exact c207⟩) | (rw [hp213] at q5; exact absurd q5 (by decide)) | (rw [hp222] at q6; exact absurd q6 (by decide)))]⟩⟩
                    · exact absurd c216 (by decide)
                · have c193 : ms (gm_pl 0 (i / 40 + 1) (m % 4) (m / 4)) = true := bI_1 c193
                  refine lv_aload_n hx hb d_Mo_check_196 rfl (lv_at hl 8 rfl) ?_
                  refine ga_get S hK hP 0 rfl f_Mo_16 rfl d_Mo_check_197 ?_
                  refine lv_iload hx hb d_Mo_check_200 (lv_at hl 0 rfl) ?_
                  refine lv_sipush (v := 3936) hx hb d_Mo_check_202 (by decide) ?_
                  refine lv_isub hx hb d_Mo_check_205 ?_
                  refine ga_top (nI ((gm_pl 8 ((i % 40) + 1) (m % 4) (m / 4)) - 3936)) (pk_sub (a := (gm_pl 8 ((i % 40) + 1) (m % 4) (m / 4))) (b := 3936) (gm_pl_9 _ _ _)) ?_
                  refine ga_top (nI (gm_pl 0 (i % 40 + 1) (m % 4) (m / 4))) (by rw [gm_pl_8]) ?_
                  refine ga_zld S hK hP 2 1 rfl rfl (gm_pl 0 (i % 40 + 1) (m % 4) (m / 4)) (gm_pl_0 (by omega) (by omega) (by omega)) (by decide) d_Mo_check_206 ?_
                  refine lv_if_ne (tgt := 245) hx hb d_Mo_check_207 (by decide) (fun c207 => ?_) (fun c207 => ?_)
                  · have c207 : ms (gm_pl 0 (i % 40 + 1) (m % 4) (m / 4)) = true := bI_1 c207
                    refine lv_iinc (v := nI (i + 1)) (lv' := [(4, .int (nI (i + 1))), (8, .int (nI (gm_pl 8 ((i % 40) + 1) (m % 4) (m / 4)))), (7, .int (nI (gm_pl 8 ((i / 40) + 1) (m % 4) (m / 4)))), (6, .int (nI ((i % 40) + 1))), (5, .int (nI ((i / 40) + 1))), (3, .int (nI (m % 4))), (2, .int (nI (m / 4))), (1, .int (nI m)), (0, .ref mo)]) hx hb d_Mo_check_245 hl (k := 4) rfl (ga_inc i) (by decide) rfl (fun ls hl => ?_)
                    refine lv_goto (tgt := 100) hx hb d_Mo_check_248 (by decide) ?_
                    exact ih3 (i + 1, td3, kk3) _ _ _ (by show (1600 - (i + 1)) < (1600 - i); omega) ⟨lv_sub hl [0, 5, 6, 7, 8] rfl, hP, hD, hS, ⟨by omega, by rw [gp_db, ← j2]; rw [if_neg (fun q => by obtain ⟨q1, q2, q3, q4, q5, q6⟩ := q; first | exact c152 q1 | exact q2 (by omega) | exact c179 (by omega) | (exact q4 ⟨by rw [← sa]; exact c193, by rw [← sb]; exact c207⟩) | (rw [hp213] at q5; exact absurd q5 (by decide)) | (rw [hp222] at q6; exact absurd q6 (by decide)))]⟩⟩
                  · have c207 : ms (gm_pl 0 (i % 40 + 1) (m % 4) (m / 4)) = false := bI_0 c207
                    refine lv_aload_n hx hb d_Mo_check_210 rfl (lv_at hl 8 rfl) ?_
                    refine lv_iload hx hb d_Mo_check_211 (lv_at hl 3 rfl) ?_
                    refine ga_cr (As := [.int (nI ((i / 40) + 1))]) (rest := []) (q0 := 0) S hK hP s_Mo_108 (gc_Mo_isUsed l D cI cZ cC cG mo m1 m6 m7 m8 m9 mA mB mC mD mE mF n pos ec w nw kk3 wr cd r1 us ((i / 40) + 1) (by omega) (by omega) hcd1 (hus _)) [0, 3] rfl rfl rfl rfl hl.1 rfl (Nat.le_of_ble_eq_true rfl) ⟨Nat.le_of_ble_eq_true rfl, Nat.le_of_ble_eq_true rfl⟩ ⟨Nat.le_of_ble_eq_true rfl, Nat.le_of_ble_eq_true rfl⟩ d_Mo_check_213 (fun r hp213 => ?_)
                    rcases hp213 with ⟨rfl, hp213⟩ | ⟨rfl, hp213⟩
                    · refine lv_if_eq (tgt := 245) hx hb d_Mo_check_216 (by decide) (fun c216 => ?_) (fun c216 => ?_)
                      · exact absurd c216 (by decide)
                      · refine lv_aload_n hx hb d_Mo_check_219 rfl (lv_at hl 8 rfl) ?_
                        refine lv_iload hx hb d_Mo_check_220 (lv_at hl 2 rfl) ?_
                        refine ga_cr (As := [.int (nI ((i % 40) + 1))]) (rest := []) (q0 := 0) S hK hP s_Mo_108 (gc_Mo_isUsed l D cI cZ cC cG mo m1 m6 m7 m8 m9 mA mB mC mD mE mF n pos ec w nw kk3 wr cd r1 us ((i % 40) + 1) (by omega) (by omega) hcd1 (hus _)) [0, 3] rfl rfl rfl rfl hl.1 rfl (Nat.le_of_ble_eq_true rfl) ⟨Nat.le_of_ble_eq_true rfl, Nat.le_of_ble_eq_true rfl⟩ ⟨Nat.le_of_ble_eq_true rfl, Nat.le_of_ble_eq_true rfl⟩ d_Mo_check_222 (fun r hp222 => ?_)
                        rcases hp222 with ⟨rfl, hp222⟩ | ⟨rfl, hp222⟩
                        · refine lv_if_eq (tgt := 245) hx hb d_Mo_check_225 (by decide) (fun c225 => ?_) (fun c225 => ?_)
                          · exact absurd c225 (by decide)
                          · refine lv_aload_n hx hb d_Mo_check_228 rfl (lv_at hl 8 rfl) ?_
                            refine lv_iload_n hx hb d_Mo_check_229 rfl (lv_at hl 6 rfl) ?_
                            refine lv_iload_n hx hb d_Mo_check_230 rfl (lv_at hl 5 rfl) ?_
                            refine lv_iload hx hb d_Mo_check_231 (lv_at hl 3 rfl) ?_
                            refine lv_iload hx hb d_Mo_check_233 (lv_at hl 2 rfl) ?_
                            refine lv_aload_n hx hb d_Mo_check_235 rfl (lv_at hl 8 rfl) ?_
                            refine ga_get S hK hP 0 rfl f_Mo_13 rfl d_Mo_check_236 ?_
                            refine lv_iload hx hb d_Mo_check_239 (lv_at hl 1 rfl) ?_
                            refine ga_ild S hK hP 1 0 rfl rfl (gm_pl 8 ((i / 40) + 1) (m % 4) (m / 4)) (gm_pl_lt (by decide) (by omega) (by omega) (by omega)) (by decide) d_Mo_check_241 ?_
                            refine ga_jv (wr := [(m6, .inl (cI, 4920, .inl (nA mb))), (m7, .inl (cZ, 492, .inl (zA ms))), (m9, .inl (cI, 600, .inl (nA cd)))]) (ga_runV (As := [.int (nI (m / 4)), .int (nI (m % 4)), .int (nI ((i / 40) + 1)), .int (nI ((i % 40) + 1)), .int (nI (mb (gm_pl 8 ((i / 40) + 1) (m % 4) (m / 4))))]) (rest := []) S hK s_Mo_112 (gc_Mo_tell l D cI cZ cC cG mo m1 m6 m7 m8 m9 mA mB mC mD mE mF n pos ec w nw kk3 wr (m / 4) (m % 4) ((i / 40) + 1) ((i % 40) + 1) (mb (gm_pl 8 ((i / 40) + 1) (m % 4) (m / 4))) td3 (by omega) _) (ga_prV (y := y_Mo_tell) (q0 := 0) hK hP hD [0, 4] rfl (by decide) rfl rfl) rfl hl.1 rfl (Nat.le_of_ble_eq_true rfl) ⟨Nat.le_of_ble_eq_true rfl, Nat.le_of_ble_eq_true rfl⟩ ⟨Nat.le_of_ble_eq_true rfl, Nat.le_of_ble_eq_true rfl⟩ d_Mo_check_242) hP hD hS hA [0, 4] [1, 2, 3] rfl rfl (by decide) (by decide) [3, 0, 1, 2, 4] (fun _ => [(mo, .inr (6, [.int 0, .ref m1, .int (nI n), .int (nI pos), .int (tI wr), .int (nI ec), .ref m6, .ref m7, .ref m8, .ref m9, .ref mA, .int (nI w), .int (nI nw), .ref mB, .ref mC, .ref mD, .int (nI ((gp_add (td3, kk3) (m / 4) (m % 4) ((i / 40) + 1) ((i % 40) + 1) (mb (gm_pl 8 ((i / 40) + 1) (m % 4) (m / 4)))).2)), .ref mE, .ref mF])), (m6, .inl (cI, 4920, .inl (nA mb))), (m7, .inl (cZ, 492, .inl (zA ms))), (m9, .inl (cI, 600, .inl (nA cd))), (mE, .inl (cI, 500, .inl (nA ((gp_add (td3, kk3) (m / 4) (m % 4) ((i / 40) + 1) ((i % 40) + 1) (mb (gm_pl 8 ((i / 40) + 1) (m % 4) (m / 4)))).1))))]) (fun _ => rfl) (by decide) (fun x H locs hp242 hP hD hS => ?_)
                            obtain ⟨⟨td1, kk1⟩, htd1⟩ : ∃ z, z = gp_add (td3, kk3) (m / 4) (m % 4) ((i / 40) + 1) ((i % 40) + 1) (mb (gm_pl 8 ((i / 40) + 1) (m % 4) (m / 4))) := ⟨_, rfl⟩
                            rw [← htd1] at hP hD
                            have hP : va_P D vwCl [(mo, .inr (6, [.int 0, .ref m1, .int (nI n), .int (nI pos), .int (tI wr), .int (nI ec), .ref m6, .ref m7, .ref m8, .ref m9, .ref mA, .int (nI w), .int (nI nw), .ref mB, .ref mC, .ref mD, .int (nI kk1), .ref mE, .ref mF])), (m6, .inl (cI, 4920, .inl (nA mb))), (m7, .inl (cZ, 492, .inl (zA ms))), (m9, .inl (cI, 600, .inl (nA cd))), (mE, .inl (cI, 500, .inl (nA td1)))] H := hP
                            have hD : va_D A [(mo, .inr (6, [.int 0, .ref m1, .int (nI n), .int (nI pos), .int (tI wr), .int (nI ec), .ref m6, .ref m7, .ref m8, .ref m9, .ref mA, .int (nI w), .int (nI nw), .ref mB, .ref mC, .ref mD, .int (nI kk1), .ref mE, .ref mF])), (m6, .inl (cI, 4920, .inl (nA mb))), (m7, .inl (cZ, 492, .inl (zA ms))), (m9, .inl (cI, 600, .inl (nA cd))), (mE, .inl (cI, 500, .inl (nA td1)))] := hD
                            have hktd1 : kk1 = kk3 + 1 := by have := gp_add_2 (td3, kk3) (m / 4) (m % 4) ((i / 40) + 1) ((i % 40) + 1) (mb (gm_pl 8 ((i / 40) + 1) (m % 4) (m / 4))); rw [← htd1] at this; exact this
                            refine lv_iinc (v := nI (i + 1)) (lv' := [(4, .int (nI (i + 1))), (8, .int (nI (gm_pl 8 ((i % 40) + 1) (m % 4) (m / 4)))), (7, .int (nI (gm_pl 8 ((i / 40) + 1) (m % 4) (m / 4)))), (6, .int (nI ((i % 40) + 1))), (5, .int (nI ((i / 40) + 1))), (3, .int (nI (m % 4))), (2, .int (nI (m / 4))), (1, .int (nI m)), (0, .ref mo)]) hx hb d_Mo_check_245 hl (k := 4) rfl (ga_inc i) (by decide) rfl (fun ls hl => ?_)
                            refine lv_goto (tgt := 100) hx hb d_Mo_check_248 (by decide) ?_
                            exact ih3 (i + 1, td1, kk1) _ _ _ (by show (1600 - (i + 1)) < (1600 - i); omega) ⟨lv_sub hl [0, 5, 6, 7, 8] rfl, hP, hD, hS, ⟨by omega, by rw [gp_db, ← j2]; rw [if_pos ⟨by omega, by omega, by omega, (fun q => by first | (rw [← sa, c193] at q; exact absurd q.1 (by decide)) | (rw [← sb, c207] at q; exact absurd q.2 (by decide))), hp213, hp222⟩, htd1, ea]⟩⟩
                        · refine lv_if_eq (tgt := 245) hx hb d_Mo_check_225 (by decide) (fun c225 => ?_) (fun c225 => ?_)
                          · refine lv_iinc (v := nI (i + 1)) (lv' := [(4, .int (nI (i + 1))), (8, .int (nI (gm_pl 8 ((i % 40) + 1) (m % 4) (m / 4)))), (7, .int (nI (gm_pl 8 ((i / 40) + 1) (m % 4) (m / 4)))), (6, .int (nI ((i % 40) + 1))), (5, .int (nI ((i / 40) + 1))), (3, .int (nI (m % 4))), (2, .int (nI (m / 4))), (1, .int (nI m)), (0, .ref mo)]) hx hb d_Mo_check_245 hl (k := 4) rfl (ga_inc i) (by decide) rfl (fun ls hl => ?_)
                            refine lv_goto (tgt := 100) hx hb d_Mo_check_248 (by decide) ?_
                            exact ih3 (i + 1, td3, kk3) _ _ _ (by show (1600 - (i + 1)) < (1600 - i); omega) ⟨lv_sub hl [0, 5, 6, 7, 8] rfl, hP, hD, hS, ⟨by omega, by rw [gp_db, ← j2]; rw [if_neg (fun q => by obtain ⟨q1, q2, q3, q4, q5, q6⟩ := q; first | exact c152 q1 | exact q2 (by omega) | exact c179 (by omega) | (exact q4 ⟨by rw [← sa]; exact c193, by rw [← sb]; exact c207⟩) | (rw [hp213] at q5; exact absurd q5 (by decide)) | (rw [hp222] at q6; exact absurd q6 (by decide)))]⟩⟩
                          · exact absurd c225 (by decide)
                    · refine lv_if_eq (tgt := 245) hx hb d_Mo_check_216 (by decide) (fun c216 => ?_) (fun c216 => ?_)
                      · refine lv_iinc (v := nI (i + 1)) (lv' := [(4, .int (nI (i + 1))), (8, .int (nI (gm_pl 8 ((i % 40) + 1) (m % 4) (m / 4)))), (7, .int (nI (gm_pl 8 ((i / 40) + 1) (m % 4) (m / 4)))), (6, .int (nI ((i % 40) + 1))), (5, .int (nI ((i / 40) + 1))), (3, .int (nI (m % 4))), (2, .int (nI (m / 4))), (1, .int (nI m)), (0, .ref mo)]) hx hb d_Mo_check_245 hl (k := 4) rfl (ga_inc i) (by decide) rfl (fun ls hl => ?_)
                        refine lv_goto (tgt := 100) hx hb d_Mo_check_248 (by decide) ?_
                        exact ih3 (i + 1, td3, kk3) _ _ _ (by show (1600 - (i + 1)) < (1600 - i); omega) ⟨lv_sub hl [0, 5, 6, 7, 8] rfl, hP, hD, hS, ⟨by omega, by rw [gp_db, ← j2]; rw [if_neg (fun q => by obtain ⟨q1, q2, q3, q4, q5, q6⟩ := q; first | exact c152 q1 | exact q2 (by omega) | exact c179 (by omega) | (exact q4 ⟨by rw [← sa]; exact c193, by rw [← sb]; exact c207⟩) | (rw [hp213] at q5; exact absurd q5 (by decide)) | (rw [hp222] at q6; exact absurd q6 (by decide)))]⟩⟩
                      · exact absurd c216 (by decide)
      · have c43 : ¬ (41 ≤ t) := fun q => c43 ((nI_leI (a := 41) (b := t) (by omega) (by omega)).mpr q)
        refine lv_aload_n hx hb d_Mo_check_46 rfl (lv_at hl 4 rfl) ?_
        refine lv_iload_n hx hb d_Mo_check_47 rfl (lv_at hl 1 rfl) ?_
        refine lv_iload_n hx hb d_Mo_check_48 rfl (lv_at hl 2 rfl) ?_
        refine ga_cr (As := [.int (nI (m % 4)), .int (nI (m / 4))]) (rest := []) (q0 := 0) S hK hP s_Mo_104 (gc_Mo_isPass l D cI cZ cC cG mo m1 m6 m7 m8 m9 mA mB mC mD mE mF n pos ec w nw kk2 wr mb bn (m % 4) (m / 4) (pq (m / 4)) (by omega) (by omega) (hpq _ (by omega)) h8 hbn) [0, 1] rfl rfl rfl rfl hl.1 rfl (Nat.le_of_ble_eq_true rfl) ⟨Nat.le_of_ble_eq_true rfl, Nat.le_of_ble_eq_true rfl⟩ ⟨Nat.le_of_ble_eq_true rfl, Nat.le_of_ble_eq_true rfl⟩ d_Mo_check_49 (fun r hp49 => ?_)
        rcases hp49 with ⟨rfl, hp49⟩ | ⟨rfl, hp49⟩
        · refine lv_if_eq (tgt := 97) hx hb d_Mo_check_52 (by decide) (fun c52 => ?_) (fun c52 => ?_)
          · exact absurd c52 (by decide)
          · refine lv_aload_n hx hb d_Mo_check_55 rfl (lv_at hl 4 rfl) ?_
            refine lv_iload hx hb d_Mo_check_56 (lv_at hl 0 rfl) ?_
            refine ga_cr (As := [.int (nI t)]) (rest := []) (q0 := 0) S hK hP s_Mo_108 (gc_Mo_isUsed l D cI cZ cC cG mo m1 m6 m7 m8 m9 mA mB mC mD mE mF n pos ec w nw kk2 wr cd r1 us t (by omega) (by omega) hcd1 (hus _)) [0, 3] rfl rfl rfl rfl hl.1 rfl (Nat.le_of_ble_eq_true rfl) ⟨Nat.le_of_ble_eq_true rfl, Nat.le_of_ble_eq_true rfl⟩ ⟨Nat.le_of_ble_eq_true rfl, Nat.le_of_ble_eq_true rfl⟩ d_Mo_check_58 (fun r hp58 => ?_)
            rcases hp58 with ⟨rfl, hp58⟩ | ⟨rfl, hp58⟩
            · refine lv_if_eq (tgt := 91) hx hb d_Mo_check_61 (by decide) (fun c61 => ?_) (fun c61 => ?_)
              · exact absurd c61 (by decide)
              · refine lv_aload_n hx hb d_Mo_check_64 rfl (lv_at hl 4 rfl) ?_
                refine ga_get S hK hP 0 rfl f_Mo_13 rfl d_Mo_check_65 ?_
                refine lv_bipush (v := 8) hx hb d_Mo_check_68 (by decide) ?_
                refine lv_iload hx hb d_Mo_check_70 (lv_at hl 0 rfl) ?_
                refine lv_iload_n hx hb d_Mo_check_72 rfl (lv_at hl 1 rfl) ?_
                refine lv_iload_n hx hb d_Mo_check_73 rfl (lv_at hl 2 rfl) ?_
                refine ga_cs (As := [.int 8, .int (nI t), .int (nI (m % 4)), .int (nI (m / 4))]) (rest := [.ref m6]) S hK hP s_Mo_75 (gc_Mo_place l D cI cZ cC cG 8 t (m % 4) (m / 4)) [] rfl rfl hl.1 rfl (Nat.le_of_ble_eq_true rfl) ⟨Nat.le_of_ble_eq_true rfl, Nat.le_of_ble_eq_true rfl⟩ ⟨Nat.le_of_ble_eq_true rfl, Nat.le_of_ble_eq_true rfl⟩ d_Mo_check_74 (fun r hp74 => ?_)
                subst hp74
                refine ga_ild S hK hP 1 0 rfl rfl (gm_pl 8 t (m % 4) (m / 4)) (gm_pl_lt (by decide) (by omega) (by omega) (by omega)) (by decide) d_Mo_check_77 ?_
                have e8 := h8 t (m % 4) (m / 4) (by omega) (by omega) (by omega) (by omega)
                have e9 := hbn (gp_sl t (m % 4) (m / 4))
                refine lv_if_ne (tgt := 91) hx hb d_Mo_check_78 (by decide) (fun c78 => ?_) (fun c78 => ?_)
                · have c78 : ¬ ((mb (gm_pl 8 t (m % 4) (m / 4))) = 0) := fun q => c78 ((nI_eq (a := (mb (gm_pl 8 t (m % 4) (m / 4)))) (b := 0) (by omega) (by omega)).mpr q)
                  refine lv_iinc (v := nI (t + 1)) (lv' := [(4, .int (nI (t + 1))), (3, .int (nI (m % 4))), (2, .int (nI (m / 4))), (1, .int (nI m)), (0, .ref mo)]) hx hb d_Mo_check_91 hl (k := 0) rfl (ga_inc t) (by decide) rfl (fun ls hl => ?_)
                  refine lv_goto (tgt := 39) hx hb d_Mo_check_94 (by decide) ?_
                  exact ih2 (t + 1, td2, kk2) _ _ _ (by show (41 - (t + 1)) < (41 - t); omega) ⟨lv_sub hl [0, 1, 2, 3, 4] rfl, hP, hD, hS, ⟨by omega, by omega, Or.inr hp49, by omega, by rw [show t + 1 - 1 = (t - 1) + 1 by omega, gp_hl, show t - 1 + 1 = t by omega, ← f4]; rw [if_neg (fun q => by first | exact c78 (by omega) | (have := q.1; rw [hp58] at this; exact absurd this (by decide)))]⟩⟩
                · have c78 : (mb (gm_pl 8 t (m % 4) (m / 4))) = 0 := (nI_eq (a := (mb (gm_pl 8 t (m % 4) (m / 4)))) (b := 0) (by omega) (by omega)).mp c78
                  refine lv_aload_n hx hb d_Mo_check_81 rfl (lv_at hl 4 rfl) ?_
                  refine lv_iload_n hx hb d_Mo_check_82 rfl (lv_at hl 2 rfl) ?_
                  refine lv_iload_n hx hb d_Mo_check_83 rfl (lv_at hl 1 rfl) ?_
                  refine lv_iload hx hb d_Mo_check_84 (lv_at hl 0 rfl) ?_
                  refine lv_iconst (v := 0) hx hb d_Mo_check_86 (by decide) ?_
                  refine lv_iconst (v := 0) hx hb d_Mo_check_87 (by decide) ?_
                  refine ga_jv (wr := [(m6, .inl (cI, 4920, .inl (nA mb))), (m7, .inl (cZ, 492, .inl (zA ms))), (m9, .inl (cI, 600, .inl (nA cd)))]) (ga_runV (As := [.int (nI (m / 4)), .int (nI (m % 4)), .int (nI t), .int 0, .int 0]) (rest := []) S hK s_Mo_112 (gc_Mo_tell l D cI cZ cC cG mo m1 m6 m7 m8 m9 mA mB mC mD mE mF n pos ec w nw kk2 wr (m / 4) (m % 4) t 0 0 td2 (by omega) _) (ga_prV (y := y_Mo_tell) (q0 := 0) hK hP hD [0, 4] rfl (by decide) rfl rfl) rfl hl.1 rfl (Nat.le_of_ble_eq_true rfl) ⟨Nat.le_of_ble_eq_true rfl, Nat.le_of_ble_eq_true rfl⟩ ⟨Nat.le_of_ble_eq_true rfl, Nat.le_of_ble_eq_true rfl⟩ d_Mo_check_88) hP hD hS hA [0, 4] [1, 2, 3] rfl rfl (by decide) (by decide) [3, 0, 1, 2, 4] (fun _ => [(mo, .inr (6, [.int 0, .ref m1, .int (nI n), .int (nI pos), .int (tI wr), .int (nI ec), .ref m6, .ref m7, .ref m8, .ref m9, .ref mA, .int (nI w), .int (nI nw), .ref mB, .ref mC, .ref mD, .int (nI ((gp_add (td2, kk2) (m / 4) (m % 4) t 0 0).2)), .ref mE, .ref mF])), (m6, .inl (cI, 4920, .inl (nA mb))), (m7, .inl (cZ, 492, .inl (zA ms))), (m9, .inl (cI, 600, .inl (nA cd))), (mE, .inl (cI, 500, .inl (nA ((gp_add (td2, kk2) (m / 4) (m % 4) t 0 0).1))))]) (fun _ => rfl) (by decide) (fun x H locs hp88 hP hD hS => ?_)
                  obtain ⟨⟨td1, kk1⟩, htd1⟩ : ∃ z, z = gp_add (td2, kk2) (m / 4) (m % 4) t 0 0 := ⟨_, rfl⟩
                  rw [← htd1] at hP hD
                  have hP : va_P D vwCl [(mo, .inr (6, [.int 0, .ref m1, .int (nI n), .int (nI pos), .int (tI wr), .int (nI ec), .ref m6, .ref m7, .ref m8, .ref m9, .ref mA, .int (nI w), .int (nI nw), .ref mB, .ref mC, .ref mD, .int (nI kk1), .ref mE, .ref mF])), (m6, .inl (cI, 4920, .inl (nA mb))), (m7, .inl (cZ, 492, .inl (zA ms))), (m9, .inl (cI, 600, .inl (nA cd))), (mE, .inl (cI, 500, .inl (nA td1)))] H := hP
                  have hD : va_D A [(mo, .inr (6, [.int 0, .ref m1, .int (nI n), .int (nI pos), .int (tI wr), .int (nI ec), .ref m6, .ref m7, .ref m8, .ref m9, .ref mA, .int (nI w), .int (nI nw), .ref mB, .ref mC, .ref mD, .int (nI kk1), .ref mE, .ref mF])), (m6, .inl (cI, 4920, .inl (nA mb))), (m7, .inl (cZ, 492, .inl (zA ms))), (m9, .inl (cI, 600, .inl (nA cd))), (mE, .inl (cI, 500, .inl (nA td1)))] := hD
                  have hktd1 : kk1 = kk2 + 1 := by have := gp_add_2 (td2, kk2) (m / 4) (m % 4) t 0 0; rw [← htd1] at this; exact this
                  refine lv_iinc (v := nI (t + 1)) (lv' := [(4, .int (nI (t + 1))), (3, .int (nI (m % 4))), (2, .int (nI (m / 4))), (1, .int (nI m)), (0, .ref mo)]) hx hb d_Mo_check_91 hl (k := 0) rfl (ga_inc t) (by decide) rfl (fun ls hl => ?_)
                  refine lv_goto (tgt := 39) hx hb d_Mo_check_94 (by decide) ?_
                  exact ih2 (t + 1, td1, kk1) _ _ _ (by show (41 - (t + 1)) < (41 - t); omega) ⟨lv_sub hl [0, 1, 2, 3, 4] rfl, hP, hD, hS, ⟨by omega, by omega, Or.inr hp49, by omega, by rw [show t + 1 - 1 = (t - 1) + 1 by omega, gp_hl, show t - 1 + 1 = t by omega, ← f4]; rw [if_pos ⟨hp58, by omega⟩, htd1]⟩⟩
            · refine lv_if_eq (tgt := 91) hx hb d_Mo_check_61 (by decide) (fun c61 => ?_) (fun c61 => ?_)
              · refine lv_iinc (v := nI (t + 1)) (lv' := [(4, .int (nI (t + 1))), (3, .int (nI (m % 4))), (2, .int (nI (m / 4))), (1, .int (nI m)), (0, .ref mo)]) hx hb d_Mo_check_91 hl (k := 0) rfl (ga_inc t) (by decide) rfl (fun ls hl => ?_)
                refine lv_goto (tgt := 39) hx hb d_Mo_check_94 (by decide) ?_
                exact ih2 (t + 1, td2, kk2) _ _ _ (by show (41 - (t + 1)) < (41 - t); omega) ⟨lv_sub hl [0, 1, 2, 3, 4] rfl, hP, hD, hS, ⟨by omega, by omega, Or.inr hp49, by omega, by rw [show t + 1 - 1 = (t - 1) + 1 by omega, gp_hl, show t - 1 + 1 = t by omega, ← f4]; rw [if_neg (fun q => by first | exact c78 (by omega) | (have := q.1; rw [hp58] at this; exact absurd this (by decide)))]⟩⟩
              · exact absurd c61 (by decide)
        · refine lv_if_eq (tgt := 97) hx hb d_Mo_check_52 (by decide) (fun c52 => ?_) (fun c52 => ?_)
          · have hst1 : (td2, kk2) = (if m % 4 < pq (m / 4) then gp_hl us bn (m / 4) (m % 4) (td, kk) 40 else (td, kk)) := by first | (rw [if_pos (by omega), f4, show t - 1 = 40 by omega]) | (rw [if_neg hp49, f4, show t - 1 = 0 by omega]; rfl)
            obtain ⟨st1, hs1⟩ : ∃ z, z = (td2, kk2) := ⟨_, rfl⟩
            have hs2 : st1.2 = kk2 := by rw [hs1]
            refine lv_iconst (v := 0) hx hb d_Mo_check_97 (by decide) ?_
            refine lv_istore (lv' := [(4, .int 0), (3, .int (nI (m % 4))), (2, .int (nI (m / 4))), (1, .int (nI m)), (0, .ref mo)]) hx hb d_Mo_check_98 hl (by decide) rfl (fun ls hl => ?_)
            refine ga_loop (α := Nat × (Nat → Nat) × Nat) (fun x => match x with | (i, td3, kk3) => 1600 - i) (fun x ls H locs => match x with | (i, td3, kk3) => lv_has ls 9 [(4, .int (nI i)), (3, .int (nI (m % 4))), (2, .int (nI (m / 4))), (1, .int (nI m)), (0, .ref mo)] ∧ va_P D vwCl [(mo, .inr (6, [.int 0, .ref m1, .int (nI n), .int (nI pos), .int (tI wr), .int (nI ec), .ref m6, .ref m7, .ref m8, .ref m9, .ref mA, .int (nI w), .int (nI nw), .ref mB, .ref mC, .ref mD, .int (nI kk3), .ref mE, .ref mF])), (m6, .inl (cI, 4920, .inl (nA mb))), (m7, .inl (cZ, 492, .inl (zA ms))), (m9, .inl (cI, 600, .inl (nA cd))), (mE, .inl (cI, 500, .inl (nA td3)))] H ∧ va_D A [(mo, .inr (6, [.int 0, .ref m1, .int (nI n), .int (nI pos), .int (tI wr), .int (nI ec), .ref m6, .ref m7, .ref m8, .ref m9, .ref mA, .int (nI w), .int (nI nw), .ref mB, .ref mC, .ref mD, .int (nI kk3), .ref mE, .ref mF])), (m6, .inl (cI, 4920, .inl (nA mb))), (m7, .inl (cZ, 492, .inl (zA ms))), (m9, .inl (cI, 600, .inl (nA cd))), (mE, .inl (cI, 500, .inl (nA td3)))] ∧ va_S A s.heap H locs ∧ i ≤ 1600 ∧ (td3, kk3) = gp_db us bn shr (m / 4) (m % 4) st1 i) ?_ (0, td2, kk2) ⟨lv_sub hl [0, 1, 2, 3, 4] rfl, hP, hD, hS, ⟨Nat.zero_le _, hs1.symm⟩⟩
            intro x ls H locs hI ih3
            obtain ⟨i, td3, kk3⟩ := x
            obtain ⟨hl, hP, hD, hS, ⟨j1, j2⟩⟩ := hI
            have hl : lv_has ls 9 [(4, .int (nI i)), (3, .int (nI (m % 4))), (2, .int (nI (m / 4))), (1, .int (nI m)), (0, .ref mo)] := hl
            have hP : va_P D vwCl [(mo, .inr (6, [.int 0, .ref m1, .int (nI n), .int (nI pos), .int (tI wr), .int (nI ec), .ref m6, .ref m7, .ref m8, .ref m9, .ref mA, .int (nI w), .int (nI nw), .ref mB, .ref mC, .ref mD, .int (nI kk3), .ref mE, .ref mF])), (m6, .inl (cI, 4920, .inl (nA mb))), (m7, .inl (cZ, 492, .inl (zA ms))), (m9, .inl (cI, 600, .inl (nA cd))), (mE, .inl (cI, 500, .inl (nA td3)))] H := hP
            have hD : va_D A [(mo, .inr (6, [.int 0, .ref m1, .int (nI n), .int (nI pos), .int (tI wr), .int (nI ec), .ref m6, .ref m7, .ref m8, .ref m9, .ref mA, .int (nI w), .int (nI nw), .ref mB, .ref mC, .ref mD, .int (nI kk3), .ref mE, .ref mF])), (m6, .inl (cI, 4920, .inl (nA mb))), (m7, .inl (cZ, 492, .inl (zA ms))), (m9, .inl (cI, 600, .inl (nA cd))), (mE, .inl (cI, 500, .inl (nA td3)))] := hD
            have hk3 : kk3 ≤ st1.2 + i := by have := gp_db_le us bn shr (m / 4) (m % 4) st1 i; rw [← j2] at this; exact this
            refine lv_iload hx hb d_Mo_check_100 (lv_at hl 0 rfl) ?_
            refine lv_sipush (v := 1600) hx hb d_Mo_check_102 (by decide) ?_
            refine lv_icmp_ge (tgt := 251) hx hb d_Mo_check_105 (by decide) (fun c105 => ?_) (fun c105 => ?_)
            · have c105 : 1600 ≤ i := (nI_leI (a := 1600) (b := i) (by omega) (by omega)).mp c105
              refine lv_iinc (v := nI (m + 1)) (lv' := [(1, .int (nI (m + 1))), (4, .int (nI i)), (3, .int (nI (m % 4))), (2, .int (nI (m / 4))), (0, .ref mo)]) hx hb d_Mo_check_251 hl (k := 3) rfl (ga_inc m) (by decide) rfl (fun ls hl => ?_)
              refine lv_goto (tgt := 22) hx hb d_Mo_check_254 (by decide) ?_
              exact ih1 (m + 1, td3, kk3) _ _ _ (by show (12 - (m + 1)) < (12 - m); omega) ⟨lv_sub hl [0, 4] rfl, hP, hD, hS, ⟨by omega, by rw [gp_ck, ← g2, ← hst1, ← hs1, j2, show i = 1600 by omega]⟩⟩
            · have c105 : ¬ (1600 ≤ i) := fun q => c105 ((nI_leI (a := 1600) (b := i) (by omega) (by omega)).mpr q)
              refine lv_iload hx hb d_Mo_check_108 (lv_at hl 0 rfl) ?_
              refine lv_bipush (v := 40) hx hb d_Mo_check_110 (by decide) ?_
              refine lv_idiv hx hb d_Mo_check_112 (by decide) ?_
              refine ga_top (nI (i / 40)) (pk_div (a := i) (d := 40) (by omega) (by decide) (by decide)) ?_
              refine lv_iconst (v := 1) hx hb d_Mo_check_113 (by decide) ?_
              refine lv_iadd hx hb d_Mo_check_114 ?_
              refine ga_top (nI ((i / 40) + 1)) (nI_add (i / 40) 1) ?_
              refine lv_istore (lv' := [(5, .int (nI ((i / 40) + 1))), (4, .int (nI i)), (3, .int (nI (m % 4))), (2, .int (nI (m / 4))), (1, .int (nI m)), (0, .ref mo)]) hx hb d_Mo_check_115 hl (by decide) rfl (fun ls hl => ?_)
              refine lv_iload hx hb d_Mo_check_117 (lv_at hl 1 rfl) ?_
              refine lv_bipush (v := 40) hx hb d_Mo_check_119 (by decide) ?_
              refine lv_irem hx hb d_Mo_check_121 (by decide) ?_
              refine ga_top (nI (i % 40)) (pk_rem (a := i) (d := 40) (by omega) (by decide) (by decide)) ?_
              refine lv_iconst (v := 1) hx hb d_Mo_check_122 (by decide) ?_
              refine lv_iadd hx hb d_Mo_check_123 ?_
              refine ga_top (nI ((i % 40) + 1)) (nI_add (i % 40) 1) ?_
              refine lv_istore (lv' := [(6, .int (nI ((i % 40) + 1))), (5, .int (nI ((i / 40) + 1))), (4, .int (nI i)), (3, .int (nI (m % 4))), (2, .int (nI (m / 4))), (1, .int (nI m)), (0, .ref mo)]) hx hb d_Mo_check_124 hl (by decide) rfl (fun ls hl => ?_)
              refine lv_bipush (v := 8) hx hb d_Mo_check_126 (by decide) ?_
              refine lv_iload hx hb d_Mo_check_128 (lv_at hl 1 rfl) ?_
              refine lv_iload_n hx hb d_Mo_check_130 rfl (lv_at hl 3 rfl) ?_
              refine lv_iload_n hx hb d_Mo_check_131 rfl (lv_at hl 4 rfl) ?_
              refine ga_cs (As := [.int 8, .int (nI ((i / 40) + 1)), .int (nI (m % 4)), .int (nI (m / 4))]) (rest := []) S hK hP s_Mo_75 (gc_Mo_place l D cI cZ cC cG 8 ((i / 40) + 1) (m % 4) (m / 4)) [] rfl rfl hl.1 rfl (Nat.le_of_ble_eq_true rfl) ⟨Nat.le_of_ble_eq_true rfl, Nat.le_of_ble_eq_true rfl⟩ ⟨Nat.le_of_ble_eq_true rfl, Nat.le_of_ble_eq_true rfl⟩ d_Mo_check_132 (fun r hp132 => ?_)
              subst hp132
              refine lv_istore (lv' := [(7, .int (nI (gm_pl 8 ((i / 40) + 1) (m % 4) (m / 4)))), (6, .int (nI ((i % 40) + 1))), (5, .int (nI ((i / 40) + 1))), (4, .int (nI i)), (3, .int (nI (m % 4))), (2, .int (nI (m / 4))), (1, .int (nI m)), (0, .ref mo)]) hx hb d_Mo_check_135 hl (by decide) rfl (fun ls hl => ?_)
              refine lv_bipush (v := 8) hx hb d_Mo_check_137 (by decide) ?_
              refine lv_iload hx hb d_Mo_check_139 (lv_at hl 1 rfl) ?_
              refine lv_iload_n hx hb d_Mo_check_141 rfl (lv_at hl 4 rfl) ?_
              refine lv_iload_n hx hb d_Mo_check_142 rfl (lv_at hl 5 rfl) ?_
              refine ga_cs (As := [.int 8, .int (nI ((i % 40) + 1)), .int (nI (m % 4)), .int (nI (m / 4))]) (rest := []) S hK hP s_Mo_75 (gc_Mo_place l D cI cZ cC cG 8 ((i % 40) + 1) (m % 4) (m / 4)) [] rfl rfl hl.1 rfl (Nat.le_of_ble_eq_true rfl) ⟨Nat.le_of_ble_eq_true rfl, Nat.le_of_ble_eq_true rfl⟩ ⟨Nat.le_of_ble_eq_true rfl, Nat.le_of_ble_eq_true rfl⟩ d_Mo_check_143 (fun r hp143 => ?_)
              subst hp143
              refine lv_istore (lv' := [(8, .int (nI (gm_pl 8 ((i % 40) + 1) (m % 4) (m / 4)))), (7, .int (nI (gm_pl 8 ((i / 40) + 1) (m % 4) (m / 4)))), (6, .int (nI ((i % 40) + 1))), (5, .int (nI ((i / 40) + 1))), (4, .int (nI i)), (3, .int (nI (m % 4))), (2, .int (nI (m / 4))), (1, .int (nI m)), (0, .ref mo)]) hx hb d_Mo_check_146 hl (by decide) rfl (fun ls hl => ?_)
              have ea := h8 (i / 40 + 1) (m % 4) (m / 4) (by omega) (by omega) (by omega) (by omega)
              have eb := h8 (i % 40 + 1) (m % 4) (m / 4) (by omega) (by omega) (by omega) (by omega)
              have ha9 := hbn (gp_sl (i / 40 + 1) (m % 4) (m / 4))
              have hb9 := hbn (gp_sl (i % 40 + 1) (m % 4) (m / 4))
              refine lv_iload hx hb d_Mo_check_148 (lv_at hl 3 rfl) ?_
              refine lv_iload hx hb d_Mo_check_150 (lv_at hl 2 rfl) ?_
              refine lv_icmp_ge (tgt := 245) hx hb d_Mo_check_152 (by decide) (fun c152 => ?_) (fun c152 => ?_)
              · have c152 : ((i % 40) + 1) ≤ ((i / 40) + 1) := (nI_leI (a := ((i % 40) + 1)) (b := ((i / 40) + 1)) (by omega) (by omega)).mp c152
                refine lv_iinc (v := nI (i + 1)) (lv' := [(4, .int (nI (i + 1))), (8, .int (nI (gm_pl 8 ((i % 40) + 1) (m % 4) (m / 4)))), (7, .int (nI (gm_pl 8 ((i / 40) + 1) (m % 4) (m / 4)))), (6, .int (nI ((i % 40) + 1))), (5, .int (nI ((i / 40) + 1))), (3, .int (nI (m % 4))), (2, .int (nI (m / 4))), (1, .int (nI m)), (0, .ref mo)]) hx hb d_Mo_check_245 hl (k := 4) rfl (ga_inc i) (by decide) rfl (fun ls hl => ?_)
                refine lv_goto (tgt := 100) hx hb d_Mo_check_248 (by decide) ?_
                exact ih3 (i + 1, td3, kk3) _ _ _ (by show (1600 - (i + 1)) < (1600 - i); omega) ⟨lv_sub hl [0, 5, 6, 7, 8] rfl, hP, hD, hS, ⟨by omega, by rw [gp_db, ← j2]; rw [if_neg (fun q => by obtain ⟨q1, q2, q3, q4, q5, q6⟩ := q; first | exact c152 q1 | exact q2 (by omega) | exact c179 (by omega) | (exact q4 ⟨by rw [← sa]; exact c193, by rw [← sb]; exact c207⟩) | (rw [hp213] at q5; exact absurd q5 (by decide)) | (rw [hp222] at q6; exact absurd q6 (by decide)))]⟩⟩
              · have c152 : ¬ (((i % 40) + 1) ≤ ((i / 40) + 1)) := fun q => c152 ((nI_leI (a := ((i % 40) + 1)) (b := ((i / 40) + 1)) (by omega) (by omega)).mpr q)
                refine lv_aload_n hx hb d_Mo_check_155 rfl (lv_at hl 8 rfl) ?_
                refine ga_get S hK hP 0 rfl f_Mo_13 rfl d_Mo_check_156 ?_
                refine lv_iload hx hb d_Mo_check_159 (lv_at hl 1 rfl) ?_
                refine ga_ild S hK hP 1 0 rfl rfl (gm_pl 8 ((i / 40) + 1) (m % 4) (m / 4)) (gm_pl_lt (by decide) (by omega) (by omega) (by omega)) (by decide) d_Mo_check_161 ?_
                refine lv_if_le (tgt := 245) hx hb d_Mo_check_162 (by decide) (fun c162 => ?_) (fun c162 => ?_)
                · have c162 : (mb (gm_pl 8 ((i / 40) + 1) (m % 4) (m / 4))) ≤ 0 := (nI_leI (a := (mb (gm_pl 8 ((i / 40) + 1) (m % 4) (m / 4)))) (b := 0) (by omega) (by omega)).mp c162
                  refine lv_iinc (v := nI (i + 1)) (lv' := [(4, .int (nI (i + 1))), (8, .int (nI (gm_pl 8 ((i % 40) + 1) (m % 4) (m / 4)))), (7, .int (nI (gm_pl 8 ((i / 40) + 1) (m % 4) (m / 4)))), (6, .int (nI ((i % 40) + 1))), (5, .int (nI ((i / 40) + 1))), (3, .int (nI (m % 4))), (2, .int (nI (m / 4))), (1, .int (nI m)), (0, .ref mo)]) hx hb d_Mo_check_245 hl (k := 4) rfl (ga_inc i) (by decide) rfl (fun ls hl => ?_)
                  refine lv_goto (tgt := 100) hx hb d_Mo_check_248 (by decide) ?_
                  exact ih3 (i + 1, td3, kk3) _ _ _ (by show (1600 - (i + 1)) < (1600 - i); omega) ⟨lv_sub hl [0, 5, 6, 7, 8] rfl, hP, hD, hS, ⟨by omega, by rw [gp_db, ← j2]; rw [if_neg (fun q => by obtain ⟨q1, q2, q3, q4, q5, q6⟩ := q; first | exact c152 q1 | exact q2 (by omega) | exact c179 (by omega) | (exact q4 ⟨by rw [← sa]; exact c193, by rw [← sb]; exact c207⟩) | (rw [hp213] at q5; exact absurd q5 (by decide)) | (rw [hp222] at q6; exact absurd q6 (by decide)))]⟩⟩
                · have c162 : ¬ ((mb (gm_pl 8 ((i / 40) + 1) (m % 4) (m / 4))) ≤ 0) := fun q => c162 ((nI_leI (a := (mb (gm_pl 8 ((i / 40) + 1) (m % 4) (m / 4)))) (b := 0) (by omega) (by omega)).mpr q)
                  refine lv_aload_n hx hb d_Mo_check_165 rfl (lv_at hl 8 rfl) ?_
                  refine ga_get S hK hP 0 rfl f_Mo_13 rfl d_Mo_check_166 ?_
                  refine lv_iload hx hb d_Mo_check_169 (lv_at hl 1 rfl) ?_
                  refine ga_ild S hK hP 1 0 rfl rfl (gm_pl 8 ((i / 40) + 1) (m % 4) (m / 4)) (gm_pl_lt (by decide) (by omega) (by omega) (by omega)) (by decide) d_Mo_check_171 ?_
                  refine lv_aload_n hx hb d_Mo_check_172 rfl (lv_at hl 8 rfl) ?_
                  refine ga_get S hK hP 0 rfl f_Mo_13 rfl d_Mo_check_173 ?_
                  refine lv_iload hx hb d_Mo_check_176 (lv_at hl 0 rfl) ?_
                  refine ga_ild S hK hP 1 0 rfl rfl (gm_pl 8 ((i % 40) + 1) (m % 4) (m / 4)) (gm_pl_lt (by decide) (by omega) (by omega) (by omega)) (by decide) d_Mo_check_178 ?_
                  refine lv_icmp_ne (tgt := 245) hx hb d_Mo_check_179 (by decide) (fun c179 => ?_) (fun c179 => ?_)
                  · have c179 : ¬ ((mb (gm_pl 8 ((i / 40) + 1) (m % 4) (m / 4))) = (mb (gm_pl 8 ((i % 40) + 1) (m % 4) (m / 4)))) := fun q => c179 ((nI_eq (a := (mb (gm_pl 8 ((i / 40) + 1) (m % 4) (m / 4)))) (b := (mb (gm_pl 8 ((i % 40) + 1) (m % 4) (m / 4)))) (by omega) (by omega)).mpr q)
                    refine lv_iinc (v := nI (i + 1)) (lv' := [(4, .int (nI (i + 1))), (8, .int (nI (gm_pl 8 ((i % 40) + 1) (m % 4) (m / 4)))), (7, .int (nI (gm_pl 8 ((i / 40) + 1) (m % 4) (m / 4)))), (6, .int (nI ((i % 40) + 1))), (5, .int (nI ((i / 40) + 1))), (3, .int (nI (m % 4))), (2, .int (nI (m / 4))), (1, .int (nI m)), (0, .ref mo)]) hx hb d_Mo_check_245 hl (k := 4) rfl (ga_inc i) (by decide) rfl (fun ls hl => ?_)
                    refine lv_goto (tgt := 100) hx hb d_Mo_check_248 (by decide) ?_
                    exact ih3 (i + 1, td3, kk3) _ _ _ (by show (1600 - (i + 1)) < (1600 - i); omega) ⟨lv_sub hl [0, 5, 6, 7, 8] rfl, hP, hD, hS, ⟨by omega, by rw [gp_db, ← j2]; rw [if_neg (fun q => by obtain ⟨q1, q2, q3, q4, q5, q6⟩ := q; first | exact c152 q1 | exact q2 (by omega) | exact c179 (by omega) | (exact q4 ⟨by rw [← sa]; exact c193, by rw [← sb]; exact c207⟩) | (rw [hp213] at q5; exact absurd q5 (by decide)) | (rw [hp222] at q6; exact absurd q6 (by decide)))]⟩⟩
                  · have c179 : (mb (gm_pl 8 ((i / 40) + 1) (m % 4) (m / 4))) = (mb (gm_pl 8 ((i % 40) + 1) (m % 4) (m / 4))) := (nI_eq (a := (mb (gm_pl 8 ((i / 40) + 1) (m % 4) (m / 4)))) (b := (mb (gm_pl 8 ((i % 40) + 1) (m % 4) (m / 4)))) (by omega) (by omega)).mp c179
                    have sa := hms (i / 40 + 1) (m % 4) (m / 4) (by omega) (by omega) (by omega) (by omega) (by omega)
                    have sb := hms (i % 40 + 1) (m % 4) (m / 4) (by omega) (by omega) (by omega) (by omega) (by omega)
                    refine lv_aload_n hx hb d_Mo_check_182 rfl (lv_at hl 8 rfl) ?_
                    refine ga_get S hK hP 0 rfl f_Mo_16 rfl d_Mo_check_183 ?_
                    refine lv_iload hx hb d_Mo_check_186 (lv_at hl 1 rfl) ?_
                    refine lv_sipush (v := 3936) hx hb d_Mo_check_188 (by decide) ?_
                    refine lv_isub hx hb d_Mo_check_191 ?_
                    refine ga_top (nI ((gm_pl 8 ((i / 40) + 1) (m % 4) (m / 4)) - 3936)) (pk_sub (a := (gm_pl 8 ((i / 40) + 1) (m % 4) (m / 4))) (b := 3936) (gm_pl_9 _ _ _)) ?_
                    refine ga_top (nI (gm_pl 0 (i / 40 + 1) (m % 4) (m / 4))) (by rw [gm_pl_8]) ?_
                    refine ga_zld S hK hP 2 1 rfl rfl (gm_pl 0 (i / 40 + 1) (m % 4) (m / 4)) (gm_pl_0 (by omega) (by omega) (by omega)) (by decide) d_Mo_check_192 ?_
                    refine lv_if_eq (tgt := 210) hx hb d_Mo_check_193 (by decide) (fun c193 => ?_) (fun c193 => ?_)
                    · have c193 : ms (gm_pl 0 (i / 40 + 1) (m % 4) (m / 4)) = false := bI_0 c193
                      refine lv_aload_n hx hb d_Mo_check_210 rfl (lv_at hl 8 rfl) ?_
                      refine lv_iload hx hb d_Mo_check_211 (lv_at hl 3 rfl) ?_
                      refine ga_cr (As := [.int (nI ((i / 40) + 1))]) (rest := []) (q0 := 0) S hK hP s_Mo_108 (gc_Mo_isUsed l D cI cZ cC cG mo m1 m6 m7 m8 m9 mA mB mC mD mE mF n pos ec w nw kk3 wr cd r1 us ((i / 40) + 1) (by omega) (by omega) hcd1 (hus _)) [0, 3] rfl rfl rfl rfl hl.1 rfl (Nat.le_of_ble_eq_true rfl) ⟨Nat.le_of_ble_eq_true rfl, Nat.le_of_ble_eq_true rfl⟩ ⟨Nat.le_of_ble_eq_true rfl, Nat.le_of_ble_eq_true rfl⟩ d_Mo_check_213 (fun r hp213 => ?_)
                      rcases hp213 with ⟨rfl, hp213⟩ | ⟨rfl, hp213⟩
                      · refine lv_if_eq (tgt := 245) hx hb d_Mo_check_216 (by decide) (fun c216 => ?_) (fun c216 => ?_)
                        · exact absurd c216 (by decide)
                        · refine lv_aload_n hx hb d_Mo_check_219 rfl (lv_at hl 8 rfl) ?_
                          refine lv_iload hx hb d_Mo_check_220 (lv_at hl 2 rfl) ?_
                          refine ga_cr (As := [.int (nI ((i % 40) + 1))]) (rest := []) (q0 := 0) S hK hP s_Mo_108 (gc_Mo_isUsed l D cI cZ cC cG mo m1 m6 m7 m8 m9 mA mB mC mD mE mF n pos ec w nw kk3 wr cd r1 us ((i % 40) + 1) (by omega) (by omega) hcd1 (hus _)) [0, 3] rfl rfl rfl rfl hl.1 rfl (Nat.le_of_ble_eq_true rfl) ⟨Nat.le_of_ble_eq_true rfl, Nat.le_of_ble_eq_true rfl⟩ ⟨Nat.le_of_ble_eq_true rfl, Nat.le_of_ble_eq_true rfl⟩ d_Mo_check_222 (fun r hp222 => ?_)
                          rcases hp222 with ⟨rfl, hp222⟩ | ⟨rfl, hp222⟩
                          · refine lv_if_eq (tgt := 245) hx hb d_Mo_check_225 (by decide) (fun c225 => ?_) (fun c225 => ?_)
                            · exact absurd c225 (by decide)
                            · refine lv_aload_n hx hb d_Mo_check_228 rfl (lv_at hl 8 rfl) ?_
                              refine lv_iload_n hx hb d_Mo_check_229 rfl (lv_at hl 6 rfl) ?_
                              refine lv_iload_n hx hb d_Mo_check_230 rfl (lv_at hl 5 rfl) ?_
                              refine lv_iload hx hb d_Mo_check_231 (lv_at hl 3 rfl) ?_
                              refine lv_iload hx hb d_Mo_check_233 (lv_at hl 2 rfl) ?_
                              refine lv_aload_n hx hb d_Mo_check_235 rfl (lv_at hl 8 rfl) ?_
                              refine ga_get S hK hP 0 rfl f_Mo_13 rfl d_Mo_check_236 ?_
                              refine lv_iload hx hb d_Mo_check_239 (lv_at hl 1 rfl) ?_
                              refine ga_ild S hK hP 1 0 rfl rfl (gm_pl 8 ((i / 40) + 1) (m % 4) (m / 4)) (gm_pl_lt (by decide) (by omega) (by omega) (by omega)) (by decide) d_Mo_check_241 ?_
                              refine ga_jv (wr := [(m6, .inl (cI, 4920, .inl (nA mb))), (m7, .inl (cZ, 492, .inl (zA ms))), (m9, .inl (cI, 600, .inl (nA cd)))]) (ga_runV (As := [.int (nI (m / 4)), .int (nI (m % 4)), .int (nI ((i / 40) + 1)), .int (nI ((i % 40) + 1)), .int (nI (mb (gm_pl 8 ((i / 40) + 1) (m % 4) (m / 4))))]) (rest := []) S hK s_Mo_112 (gc_Mo_tell l D cI cZ cC cG mo m1 m6 m7 m8 m9 mA mB mC mD mE mF n pos ec w nw kk3 wr (m / 4) (m % 4) ((i / 40) + 1) ((i % 40) + 1) (mb (gm_pl 8 ((i / 40) + 1) (m % 4) (m / 4))) td3 (by omega) _) (ga_prV (y := y_Mo_tell) (q0 := 0) hK hP hD [0, 4] rfl (by decide) rfl rfl) rfl hl.1 rfl (Nat.le_of_ble_eq_true rfl) ⟨Nat.le_of_ble_eq_true rfl, Nat.le_of_ble_eq_true rfl⟩ ⟨Nat.le_of_ble_eq_true rfl, Nat.le_of_ble_eq_true rfl⟩ d_Mo_check_242) hP hD hS hA [0, 4] [1, 2, 3] rfl rfl (by decide) (by decide) [3, 0, 1, 2, 4] (fun _ => [(mo, .inr (6, [.int 0, .ref m1, .int (nI n), .int (nI pos), .int (tI wr), .int (nI ec), .ref m6, .ref m7, .ref m8, .ref m9, .ref mA, .int (nI w), .int (nI nw), .ref mB, .ref mC, .ref mD, .int (nI ((gp_add (td3, kk3) (m / 4) (m % 4) ((i / 40) + 1) ((i % 40) + 1) (mb (gm_pl 8 ((i / 40) + 1) (m % 4) (m / 4)))).2)), .ref mE, .ref mF])), (m6, .inl (cI, 4920, .inl (nA mb))), (m7, .inl (cZ, 492, .inl (zA ms))), (m9, .inl (cI, 600, .inl (nA cd))), (mE, .inl (cI, 500, .inl (nA ((gp_add (td3, kk3) (m / 4) (m % 4) ((i / 40) + 1) ((i % 40) + 1) (mb (gm_pl 8 ((i / 40) + 1) (m % 4) (m / 4)))).1))))]) (fun _ => rfl) (by decide) (fun x H locs hp242 hP hD hS => ?_)
                              obtain ⟨⟨td1, kk1⟩, htd1⟩ : ∃ z, z = gp_add (td3, kk3) (m / 4) (m % 4) ((i / 40) + 1) ((i % 40) + 1) (mb (gm_pl 8 ((i / 40) + 1) (m % 4) (m / 4))) := ⟨_, rfl⟩
                              rw [← htd1] at hP hD
                              have hP : va_P D vwCl [(mo, .inr (6, [.int 0, .ref m1, .int (nI n), .int (nI pos), .int (tI wr), .int (nI ec), .ref m6, .ref m7, .ref m8, .ref m9, .ref mA, .int (nI w), .int (nI nw), .ref mB, .ref mC, .ref mD, .int (nI kk1), .ref mE, .ref mF])), (m6, .inl (cI, 4920, .inl (nA mb))), (m7, .inl (cZ, 492, .inl (zA ms))), (m9, .inl (cI, 600, .inl (nA cd))), (mE, .inl (cI, 500, .inl (nA td1)))] H := hP
                              have hD : va_D A [(mo, .inr (6, [.int 0, .ref m1, .int (nI n), .int (nI pos), .int (tI wr), .int (nI ec), .ref m6, .ref m7, .ref m8, .ref m9, .ref mA, .int (nI w), .int (nI nw), .ref mB, .ref mC, .ref mD, .int (nI kk1), .ref mE, .ref mF])), (m6, .inl (cI, 4920, .inl (nA mb))), (m7, .inl (cZ, 492, .inl (zA ms))), (m9, .inl (cI, 600, .inl (nA cd))), (mE, .inl (cI, 500, .inl (nA td1)))] := hD
                              have hktd1 : kk1 = kk3 + 1 := by have := gp_add_2 (td3, kk3) (m / 4) (m % 4) ((i / 40) + 1) ((i % 40) + 1) (mb (gm_pl 8 ((i / 40) + 1) (m % 4) (m / 4))); rw [← htd1] at this; exact this
                              refine lv_iinc (v := nI (i + 1)) (lv' := [(4, .int (nI (i + 1))), (8, .int (nI (gm_pl 8 ((i % 40) + 1) (m % 4) (m / 4)))), (7, .int (nI (gm_pl 8 ((i / 40) + 1) (m % 4) (m / 4)))), (6, .int (nI ((i % 40) + 1))), (5, .int (nI ((i / 40) + 1))), (3, .int (nI (m % 4))), (2, .int (nI (m / 4))), (1, .int (nI m)), (0, .ref mo)]) hx hb d_Mo_check_245 hl (k := 4) rfl (ga_inc i) (by decide) rfl (fun ls hl => ?_)
                              refine lv_goto (tgt := 100) hx hb d_Mo_check_248 (by decide) ?_
                              exact ih3 (i + 1, td1, kk1) _ _ _ (by show (1600 - (i + 1)) < (1600 - i); omega) ⟨lv_sub hl [0, 5, 6, 7, 8] rfl, hP, hD, hS, ⟨by omega, by rw [gp_db, ← j2]; rw [if_pos ⟨by omega, by omega, by omega, (fun q => by first | (rw [← sa, c193] at q; exact absurd q.1 (by decide)) | (rw [← sb, c207] at q; exact absurd q.2 (by decide))), hp213, hp222⟩, htd1, ea]⟩⟩
                          · refine lv_if_eq (tgt := 245) hx hb d_Mo_check_225 (by decide) (fun c225 => ?_) (fun c225 => ?_)
                            · refine lv_iinc (v := nI (i + 1)) (lv' := [(4, .int (nI (i + 1))), (8, .int (nI (gm_pl 8 ((i % 40) + 1) (m % 4) (m / 4)))), (7, .int (nI (gm_pl 8 ((i / 40) + 1) (m % 4) (m / 4)))), (6, .int (nI ((i % 40) + 1))), (5, .int (nI ((i / 40) + 1))), (3, .int (nI (m % 4))), (2, .int (nI (m / 4))), (1, .int (nI m)), (0, .ref mo)]) hx hb d_Mo_check_245 hl (k := 4) rfl (ga_inc i) (by decide) rfl (fun ls hl => ?_)
                              refine lv_goto (tgt := 100) hx hb d_Mo_check_248 (by decide) ?_
                              exact ih3 (i + 1, td3, kk3) _ _ _ (by show (1600 - (i + 1)) < (1600 - i); omega) ⟨lv_sub hl [0, 5, 6, 7, 8] rfl, hP, hD, hS, ⟨by omega, by rw [gp_db, ← j2]; rw [if_neg (fun q => by obtain ⟨q1, q2, q3, q4, q5, q6⟩ := q; first | exact c152 q1 | exact q2 (by omega) | exact c179 (by omega) | (exact q4 ⟨by rw [← sa]; exact c193, by rw [← sb]; exact c207⟩) | (rw [hp213] at q5; exact absurd q5 (by decide)) | (rw [hp222] at q6; exact absurd q6 (by decide)))]⟩⟩
                            · exact absurd c225 (by decide)
                      · refine lv_if_eq (tgt := 245) hx hb d_Mo_check_216 (by decide) (fun c216 => ?_) (fun c216 => ?_)
                        · refine lv_iinc (v := nI (i + 1)) (lv' := [(4, .int (nI (i + 1))), (8, .int (nI (gm_pl 8 ((i % 40) + 1) (m % 4) (m / 4)))), (7, .int (nI (gm_pl 8 ((i / 40) + 1) (m % 4) (m / 4)))), (6, .int (nI ((i % 40) + 1))), (5, .int (nI ((i / 40) + 1))), (3, .int (nI (m % 4))), (2, .int (nI (m / 4))), (1, .int (nI m)), (0, .ref mo)]) hx hb d_Mo_check_245 hl (k := 4) rfl (ga_inc i) (by decide) rfl (fun ls hl => ?_)
                          refine lv_goto (tgt := 100) hx hb d_Mo_check_248 (by decide) ?_
                          exact ih3 (i + 1, td3, kk3) _ _ _ (by show (1600 - (i + 1)) < (1600 - i); omega) ⟨lv_sub hl [0, 5, 6, 7, 8] rfl, hP, hD, hS, ⟨by omega, by rw [gp_db, ← j2]; rw [if_neg (fun q => by obtain ⟨q1, q2, q3, q4, q5, q6⟩ := q; first | exact c152 q1 | exact q2 (by omega) | exact c179 (by omega) | (exact q4 ⟨by rw [← sa]; exact c193, by rw [← sb]; exact c207⟩) | (rw [hp213] at q5; exact absurd q5 (by decide)) | (rw [hp222] at q6; exact absurd q6 (by decide)))]⟩⟩
                        · exact absurd c216 (by decide)
                    · have c193 : ms (gm_pl 0 (i / 40 + 1) (m % 4) (m / 4)) = true := bI_1 c193
                      refine lv_aload_n hx hb d_Mo_check_196 rfl (lv_at hl 8 rfl) ?_
                      refine ga_get S hK hP 0 rfl f_Mo_16 rfl d_Mo_check_197 ?_
                      refine lv_iload hx hb d_Mo_check_200 (lv_at hl 0 rfl) ?_
                      refine lv_sipush (v := 3936) hx hb d_Mo_check_202 (by decide) ?_
                      refine lv_isub hx hb d_Mo_check_205 ?_
                      refine ga_top (nI ((gm_pl 8 ((i % 40) + 1) (m % 4) (m / 4)) - 3936)) (pk_sub (a := (gm_pl 8 ((i % 40) + 1) (m % 4) (m / 4))) (b := 3936) (gm_pl_9 _ _ _)) ?_
                      refine ga_top (nI (gm_pl 0 (i % 40 + 1) (m % 4) (m / 4))) (by rw [gm_pl_8]) ?_
                      refine ga_zld S hK hP 2 1 rfl rfl (gm_pl 0 (i % 40 + 1) (m % 4) (m / 4)) (gm_pl_0 (by omega) (by omega) (by omega)) (by decide) d_Mo_check_206 ?_
                      refine lv_if_ne (tgt := 245) hx hb d_Mo_check_207 (by decide) (fun c207 => ?_) (fun c207 => ?_)
                      · have c207 : ms (gm_pl 0 (i % 40 + 1) (m % 4) (m / 4)) = true := bI_1 c207
                        refine lv_iinc (v := nI (i + 1)) (lv' := [(4, .int (nI (i + 1))), (8, .int (nI (gm_pl 8 ((i % 40) + 1) (m % 4) (m / 4)))), (7, .int (nI (gm_pl 8 ((i / 40) + 1) (m % 4) (m / 4)))), (6, .int (nI ((i % 40) + 1))), (5, .int (nI ((i / 40) + 1))), (3, .int (nI (m % 4))), (2, .int (nI (m / 4))), (1, .int (nI m)), (0, .ref mo)]) hx hb d_Mo_check_245 hl (k := 4) rfl (ga_inc i) (by decide) rfl (fun ls hl => ?_)
                        refine lv_goto (tgt := 100) hx hb d_Mo_check_248 (by decide) ?_
                        exact ih3 (i + 1, td3, kk3) _ _ _ (by show (1600 - (i + 1)) < (1600 - i); omega) ⟨lv_sub hl [0, 5, 6, 7, 8] rfl, hP, hD, hS, ⟨by omega, by rw [gp_db, ← j2]; rw [if_neg (fun q => by obtain ⟨q1, q2, q3, q4, q5, q6⟩ := q; first | exact c152 q1 | exact q2 (by omega) | exact c179 (by omega) | (exact q4 ⟨by rw [← sa]; exact c193, by rw [← sb]; exact c207⟩) | (rw [hp213] at q5; exact absurd q5 (by decide)) | (rw [hp222] at q6; exact absurd q6 (by decide)))]⟩⟩
                      · have c207 : ms (gm_pl 0 (i % 40 + 1) (m % 4) (m / 4)) = false := bI_0 c207
                        refine lv_aload_n hx hb d_Mo_check_210 rfl (lv_at hl 8 rfl) ?_
                        refine lv_iload hx hb d_Mo_check_211 (lv_at hl 3 rfl) ?_
                        refine ga_cr (As := [.int (nI ((i / 40) + 1))]) (rest := []) (q0 := 0) S hK hP s_Mo_108 (gc_Mo_isUsed l D cI cZ cC cG mo m1 m6 m7 m8 m9 mA mB mC mD mE mF n pos ec w nw kk3 wr cd r1 us ((i / 40) + 1) (by omega) (by omega) hcd1 (hus _)) [0, 3] rfl rfl rfl rfl hl.1 rfl (Nat.le_of_ble_eq_true rfl) ⟨Nat.le_of_ble_eq_true rfl, Nat.le_of_ble_eq_true rfl⟩ ⟨Nat.le_of_ble_eq_true rfl, Nat.le_of_ble_eq_true rfl⟩ d_Mo_check_213 (fun r hp213 => ?_)
                        rcases hp213 with ⟨rfl, hp213⟩ | ⟨rfl, hp213⟩
                        · refine lv_if_eq (tgt := 245) hx hb d_Mo_check_216 (by decide) (fun c216 => ?_) (fun c216 => ?_)
                          · exact absurd c216 (by decide)
                          · refine lv_aload_n hx hb d_Mo_check_219 rfl (lv_at hl 8 rfl) ?_
                            refine lv_iload hx hb d_Mo_check_220 (lv_at hl 2 rfl) ?_
                            refine ga_cr (As := [.int (nI ((i % 40) + 1))]) (rest := []) (q0 := 0) S hK hP s_Mo_108 (gc_Mo_isUsed l D cI cZ cC cG mo m1 m6 m7 m8 m9 mA mB mC mD mE mF n pos ec w nw kk3 wr cd r1 us ((i % 40) + 1) (by omega) (by omega) hcd1 (hus _)) [0, 3] rfl rfl rfl rfl hl.1 rfl (Nat.le_of_ble_eq_true rfl) ⟨Nat.le_of_ble_eq_true rfl, Nat.le_of_ble_eq_true rfl⟩ ⟨Nat.le_of_ble_eq_true rfl, Nat.le_of_ble_eq_true rfl⟩ d_Mo_check_222 (fun r hp222 => ?_)
                            rcases hp222 with ⟨rfl, hp222⟩ | ⟨rfl, hp222⟩
                            · refine lv_if_eq (tgt := 245) hx hb d_Mo_check_225 (by decide) (fun c225 => ?_) (fun c225 => ?_)
                              · exact absurd c225 (by decide)
                              · refine lv_aload_n hx hb d_Mo_check_228 rfl (lv_at hl 8 rfl) ?_
                                refine lv_iload_n hx hb d_Mo_check_229 rfl (lv_at hl 6 rfl) ?_
                                refine lv_iload_n hx hb d_Mo_check_230 rfl (lv_at hl 5 rfl) ?_
                                refine lv_iload hx hb d_Mo_check_231 (lv_at hl 3 rfl) ?_
                                refine lv_iload hx hb d_Mo_check_233 (lv_at hl 2 rfl) ?_
                                refine lv_aload_n hx hb d_Mo_check_235 rfl (lv_at hl 8 rfl) ?_
                                refine ga_get S hK hP 0 rfl f_Mo_13 rfl d_Mo_check_236 ?_
                                refine lv_iload hx hb d_Mo_check_239 (lv_at hl 1 rfl) ?_
                                refine ga_ild S hK hP 1 0 rfl rfl (gm_pl 8 ((i / 40) + 1) (m % 4) (m / 4)) (gm_pl_lt (by decide) (by omega) (by omega) (by omega)) (by decide) d_Mo_check_241 ?_
                                refine ga_jv (wr := [(m6, .inl (cI, 4920, .inl (nA mb))), (m7, .inl (cZ, 492, .inl (zA ms))), (m9, .inl (cI, 600, .inl (nA cd)))]) (ga_runV (As := [.int (nI (m / 4)), .int (nI (m % 4)), .int (nI ((i / 40) + 1)), .int (nI ((i % 40) + 1)), .int (nI (mb (gm_pl 8 ((i / 40) + 1) (m % 4) (m / 4))))]) (rest := []) S hK s_Mo_112 (gc_Mo_tell l D cI cZ cC cG mo m1 m6 m7 m8 m9 mA mB mC mD mE mF n pos ec w nw kk3 wr (m / 4) (m % 4) ((i / 40) + 1) ((i % 40) + 1) (mb (gm_pl 8 ((i / 40) + 1) (m % 4) (m / 4))) td3 (by omega) _) (ga_prV (y := y_Mo_tell) (q0 := 0) hK hP hD [0, 4] rfl (by decide) rfl rfl) rfl hl.1 rfl (Nat.le_of_ble_eq_true rfl) ⟨Nat.le_of_ble_eq_true rfl, Nat.le_of_ble_eq_true rfl⟩ ⟨Nat.le_of_ble_eq_true rfl, Nat.le_of_ble_eq_true rfl⟩ d_Mo_check_242) hP hD hS hA [0, 4] [1, 2, 3] rfl rfl (by decide) (by decide) [3, 0, 1, 2, 4] (fun _ => [(mo, .inr (6, [.int 0, .ref m1, .int (nI n), .int (nI pos), .int (tI wr), .int (nI ec), .ref m6, .ref m7, .ref m8, .ref m9, .ref mA, .int (nI w), .int (nI nw), .ref mB, .ref mC, .ref mD, .int (nI ((gp_add (td3, kk3) (m / 4) (m % 4) ((i / 40) + 1) ((i % 40) + 1) (mb (gm_pl 8 ((i / 40) + 1) (m % 4) (m / 4)))).2)), .ref mE, .ref mF])), (m6, .inl (cI, 4920, .inl (nA mb))), (m7, .inl (cZ, 492, .inl (zA ms))), (m9, .inl (cI, 600, .inl (nA cd))), (mE, .inl (cI, 500, .inl (nA ((gp_add (td3, kk3) (m / 4) (m % 4) ((i / 40) + 1) ((i % 40) + 1) (mb (gm_pl 8 ((i / 40) + 1) (m % 4) (m / 4)))).1))))]) (fun _ => rfl) (by decide) (fun x H locs hp242 hP hD hS => ?_)
                                obtain ⟨⟨td1, kk1⟩, htd1⟩ : ∃ z, z = gp_add (td3, kk3) (m / 4) (m % 4) ((i / 40) + 1) ((i % 40) + 1) (mb (gm_pl 8 ((i / 40) + 1) (m % 4) (m / 4))) := ⟨_, rfl⟩
                                rw [← htd1] at hP hD
                                have hP : va_P D vwCl [(mo, .inr (6, [.int 0, .ref m1, .int (nI n), .int (nI pos), .int (tI wr), .int (nI ec), .ref m6, .ref m7, .ref m8, .ref m9, .ref mA, .int (nI w), .int (nI nw), .ref mB, .ref mC, .ref mD, .int (nI kk1), .ref mE, .ref mF])), (m6, .inl (cI, 4920, .inl (nA mb))), (m7, .inl (cZ, 492, .inl (zA ms))), (m9, .inl (cI, 600, .inl (nA cd))), (mE, .inl (cI, 500, .inl (nA td1)))] H := hP
                                have hD : va_D A [(mo, .inr (6, [.int 0, .ref m1, .int (nI n), .int (nI pos), .int (tI wr), .int (nI ec), .ref m6, .ref m7, .ref m8, .ref m9, .ref mA, .int (nI w), .int (nI nw), .ref mB, .ref mC, .ref mD, .int (nI kk1), .ref mE, .ref mF])), (m6, .inl (cI, 4920, .inl (nA mb))), (m7, .inl (cZ, 492, .inl (zA ms))), (m9, .inl (cI, 600, .inl (nA cd))), (mE, .inl (cI, 500, .inl (nA td1)))] := hD
                                have hktd1 : kk1 = kk3 + 1 := by have := gp_add_2 (td3, kk3) (m / 4) (m % 4) ((i / 40) + 1) ((i % 40) + 1) (mb (gm_pl 8 ((i / 40) + 1) (m % 4) (m / 4))); rw [← htd1] at this; exact this
                                refine lv_iinc (v := nI (i + 1)) (lv' := [(4, .int (nI (i + 1))), (8, .int (nI (gm_pl 8 ((i % 40) + 1) (m % 4) (m / 4)))), (7, .int (nI (gm_pl 8 ((i / 40) + 1) (m % 4) (m / 4)))), (6, .int (nI ((i % 40) + 1))), (5, .int (nI ((i / 40) + 1))), (3, .int (nI (m % 4))), (2, .int (nI (m / 4))), (1, .int (nI m)), (0, .ref mo)]) hx hb d_Mo_check_245 hl (k := 4) rfl (ga_inc i) (by decide) rfl (fun ls hl => ?_)
                                refine lv_goto (tgt := 100) hx hb d_Mo_check_248 (by decide) ?_
                                exact ih3 (i + 1, td1, kk1) _ _ _ (by show (1600 - (i + 1)) < (1600 - i); omega) ⟨lv_sub hl [0, 5, 6, 7, 8] rfl, hP, hD, hS, ⟨by omega, by rw [gp_db, ← j2]; rw [if_pos ⟨by omega, by omega, by omega, (fun q => by first | (rw [← sa, c193] at q; exact absurd q.1 (by decide)) | (rw [← sb, c207] at q; exact absurd q.2 (by decide))), hp213, hp222⟩, htd1, ea]⟩⟩
                            · refine lv_if_eq (tgt := 245) hx hb d_Mo_check_225 (by decide) (fun c225 => ?_) (fun c225 => ?_)
                              · refine lv_iinc (v := nI (i + 1)) (lv' := [(4, .int (nI (i + 1))), (8, .int (nI (gm_pl 8 ((i % 40) + 1) (m % 4) (m / 4)))), (7, .int (nI (gm_pl 8 ((i / 40) + 1) (m % 4) (m / 4)))), (6, .int (nI ((i % 40) + 1))), (5, .int (nI ((i / 40) + 1))), (3, .int (nI (m % 4))), (2, .int (nI (m / 4))), (1, .int (nI m)), (0, .ref mo)]) hx hb d_Mo_check_245 hl (k := 4) rfl (ga_inc i) (by decide) rfl (fun ls hl => ?_)
                                refine lv_goto (tgt := 100) hx hb d_Mo_check_248 (by decide) ?_
                                exact ih3 (i + 1, td3, kk3) _ _ _ (by show (1600 - (i + 1)) < (1600 - i); omega) ⟨lv_sub hl [0, 5, 6, 7, 8] rfl, hP, hD, hS, ⟨by omega, by rw [gp_db, ← j2]; rw [if_neg (fun q => by obtain ⟨q1, q2, q3, q4, q5, q6⟩ := q; first | exact c152 q1 | exact q2 (by omega) | exact c179 (by omega) | (exact q4 ⟨by rw [← sa]; exact c193, by rw [← sb]; exact c207⟩) | (rw [hp213] at q5; exact absurd q5 (by decide)) | (rw [hp222] at q6; exact absurd q6 (by decide)))]⟩⟩
                              · exact absurd c225 (by decide)
                        · refine lv_if_eq (tgt := 245) hx hb d_Mo_check_216 (by decide) (fun c216 => ?_) (fun c216 => ?_)
                          · refine lv_iinc (v := nI (i + 1)) (lv' := [(4, .int (nI (i + 1))), (8, .int (nI (gm_pl 8 ((i % 40) + 1) (m % 4) (m / 4)))), (7, .int (nI (gm_pl 8 ((i / 40) + 1) (m % 4) (m / 4)))), (6, .int (nI ((i % 40) + 1))), (5, .int (nI ((i / 40) + 1))), (3, .int (nI (m % 4))), (2, .int (nI (m / 4))), (1, .int (nI m)), (0, .ref mo)]) hx hb d_Mo_check_245 hl (k := 4) rfl (ga_inc i) (by decide) rfl (fun ls hl => ?_)
                            refine lv_goto (tgt := 100) hx hb d_Mo_check_248 (by decide) ?_
                            exact ih3 (i + 1, td3, kk3) _ _ _ (by show (1600 - (i + 1)) < (1600 - i); omega) ⟨lv_sub hl [0, 5, 6, 7, 8] rfl, hP, hD, hS, ⟨by omega, by rw [gp_db, ← j2]; rw [if_neg (fun q => by obtain ⟨q1, q2, q3, q4, q5, q6⟩ := q; first | exact c152 q1 | exact q2 (by omega) | exact c179 (by omega) | (exact q4 ⟨by rw [← sa]; exact c193, by rw [← sb]; exact c207⟩) | (rw [hp213] at q5; exact absurd q5 (by decide)) | (rw [hp222] at q6; exact absurd q6 (by decide)))]⟩⟩
                          · exact absurd c216 (by decide)
          · exact absurd c52 (by decide)
  · have c9 : ec = 0 := (nI_eq (a := ec) (b := 0) (by omega) (by omega)).mp c9
    refine lv_bipush (v := (-103)) hx hb d_Mo_check_12 (by decide) ?_
    exact ga_wi (told, kf) S hrt hlk hP hD hS (Or.inl ⟨c9, rfl, rfl⟩) d_Mo_check_14
set_option maxHeartbeats 4000000 in
set_option maxRecDepth 100000 in
theorem gc_Mo_init (l : Launch) (D : va_G) (cI cZ cC cG : ClassId) (ob : Nat) : ga_Mv l y_Mo_init b_Mo_init 1 1 11 10367 D (ga_T cI cZ cC cG) [.ref ob] [(ob, .inr (6, [.int 0, .null, .int 0, .int 0, .int 0, .int 0, .null, .null, .null, .null, .null, .int 0, .int 0, .null, .null, .null, .int 0, .null, .null]))] (fun (x : Nat → Nat) => [(ob, .inr (6, [.int 0, .ref ((x 0)), .int 0, .int 0, .int 0, .int 0, .ref ((x 1)), .ref ((x 2)), .ref ((x 3)), .ref ((x 4)), .ref ((x 5)), .int 0, .int 0, .ref ((x 6)), .ref ((x 7)), .ref ((x 8)), .int 0, .ref ((x 9)), .ref ((x 10))])), ((x 0), .inl (cI, 600, .inl (nA (fun _ => 0)))), ((x 1), .inl (cI, 4920, .inl (nA (fun _ => 0)))), ((x 2), .inl (cZ, 492, .inl (zA (fun _ => false)))), ((x 3), .inl (cZ, 492, .inl (zA (fun _ => false)))), ((x 4), .inl (cI, 600, .inl (nA (fun _ => 0)))), ((x 5), .inl (cI, 600, .inl (nA (fun _ => 0)))), ((x 6), .inl (cI, 61, .inl (nA (fun _ => 0)))), ((x 7), .inl (cI, 61, .inl (nA (fun _ => 0)))), ((x 8), .inl (cZ, 41, .inl (zA (fun _ => false)))), ((x 9), .inl (cI, 500, .inl (nA (fun _ => 0)))), ((x 10), .inl (cI, 2000, .inl (nA (fun _ => 0))))]) (fun x => True) := by
  refine ga_enV (by decide) (Nat.le_of_ble_eq_true rfl) ?_
  intro p e s m below meth c ls A S hrt hlk hnm hK hP hD hA hl
  have hS : va_S A s.heap s.heap [] := va_S.rf
  obtain ⟨hx, hb, hml, hown, hts⟩ := id S
  have hl : lv_has ls 1 [(0, .ref ob)] := hl
  refine lv_aload_n hx hb d_Mo_init_0 rfl (lv_at hl 0 rfl) ?_
  refine ga_oi S hl.1 oi_Mo_1 d_Mo_init_1 (Nat.le_of_ble_eq_true rfl) (Nat.le_of_ble_eq_true rfl) ?_
  refine lv_aload_n hx hb d_Mo_init_4 rfl (lv_at hl 0 rfl) ?_
  refine lv_sipush (v := 600) hx hb d_Mo_init_5 (by decide) ?_
  refine ga_newa (atype := .int) (ty := .int) (N' := 600) (a0 := (600, .inl (nA (fun _ => 0)))) S hK hP hD hS hA ac_int rfl (fun _ _ h => h) 0 rfl (fun _ => rfl) (by decide) (by decide) (by decide) (Nat.le_of_ble_eq_true rfl) (Nat.le_of_ble_eq_true rfl) d_Mo_init_8 (fun m1 H hP hD hS => ?_)
  have hP : va_P D vwCl [(ob, .inr (6, [.int 0, .null, .int 0, .int 0, .int 0, .int 0, .null, .null, .null, .null, .null, .int 0, .int 0, .null, .null, .null, .int 0, .null, .null])), (m1, .inl (cI, 600, .inl (nA (fun _ => 0))))] H := hP
  have hD : va_D A [(ob, .inr (6, [.int 0, .null, .int 0, .int 0, .int 0, .int 0, .null, .null, .null, .null, .null, .int 0, .int 0, .null, .null, .null, .int 0, .null, .null])), (m1, .inl (cI, 600, .inl (nA (fun _ => 0))))] := hD
  refine ga_putF (ws' := [(ob, .inr (6, [.int 0, .ref m1, .int 0, .int 0, .int 0, .int 0, .null, .null, .null, .null, .null, .int 0, .int 0, .null, .null, .null, .int 0, .null, .null])), (m1, .inl (cI, 600, .inl (nA (fun _ => 0))))]) S hnm hK hP hD hS 0 rfl p_Mo_7 rfl rfl (Nat.le_of_ble_eq_true rfl) rfl d_Mo_init_10 (fun H locs hP hD hS => ?_)
  refine lv_aload_n hx hb d_Mo_init_13 rfl (lv_at hl 0 rfl) ?_
  refine lv_sipush (v := 4920) hx hb d_Mo_init_14 (by decide) ?_
  refine ga_newa (atype := .int) (ty := .int) (N' := 4920) (a0 := (4920, .inl (nA (fun _ => 0)))) S hK hP hD hS hA ac_int rfl (fun _ _ h => h) 0 rfl (fun _ => rfl) (by decide) (by decide) (by decide) (Nat.le_of_ble_eq_true rfl) (Nat.le_of_ble_eq_true rfl) d_Mo_init_17 (fun m6 H hP hD hS => ?_)
  have hP : va_P D vwCl [(ob, .inr (6, [.int 0, .ref m1, .int 0, .int 0, .int 0, .int 0, .null, .null, .null, .null, .null, .int 0, .int 0, .null, .null, .null, .int 0, .null, .null])), (m1, .inl (cI, 600, .inl (nA (fun _ => 0)))), (m6, .inl (cI, 4920, .inl (nA (fun _ => 0))))] H := hP
  have hD : va_D A [(ob, .inr (6, [.int 0, .ref m1, .int 0, .int 0, .int 0, .int 0, .null, .null, .null, .null, .null, .int 0, .int 0, .null, .null, .null, .int 0, .null, .null])), (m1, .inl (cI, 600, .inl (nA (fun _ => 0)))), (m6, .inl (cI, 4920, .inl (nA (fun _ => 0))))] := hD
  refine ga_putF (ws' := [(ob, .inr (6, [.int 0, .ref m1, .int 0, .int 0, .int 0, .int 0, .ref m6, .null, .null, .null, .null, .int 0, .int 0, .null, .null, .null, .int 0, .null, .null])), (m1, .inl (cI, 600, .inl (nA (fun _ => 0)))), (m6, .inl (cI, 4920, .inl (nA (fun _ => 0))))]) S hnm hK hP hD hS 0 rfl p_Mo_13 rfl rfl (Nat.le_of_ble_eq_true rfl) rfl d_Mo_init_19 (fun H locs hP hD hS => ?_)
  refine lv_aload_n hx hb d_Mo_init_22 rfl (lv_at hl 0 rfl) ?_
  refine lv_sipush (v := 492) hx hb d_Mo_init_23 (by decide) ?_
  refine ga_newa (atype := .boolean) (ty := .boolean) (N' := 492) (a0 := (492, .inl (zA (fun _ => false)))) S hK hP hD hS hA ac_boolean rfl (fun _ _ h => h) 1 rfl (fun _ => rfl) (by decide) (by decide) (by decide) (Nat.le_of_ble_eq_true rfl) (Nat.le_of_ble_eq_true rfl) d_Mo_init_26 (fun m7 H hP hD hS => ?_)
  have hP : va_P D vwCl [(ob, .inr (6, [.int 0, .ref m1, .int 0, .int 0, .int 0, .int 0, .ref m6, .null, .null, .null, .null, .int 0, .int 0, .null, .null, .null, .int 0, .null, .null])), (m1, .inl (cI, 600, .inl (nA (fun _ => 0)))), (m6, .inl (cI, 4920, .inl (nA (fun _ => 0)))), (m7, .inl (cZ, 492, .inl (zA (fun _ => false))))] H := hP
  have hD : va_D A [(ob, .inr (6, [.int 0, .ref m1, .int 0, .int 0, .int 0, .int 0, .ref m6, .null, .null, .null, .null, .int 0, .int 0, .null, .null, .null, .int 0, .null, .null])), (m1, .inl (cI, 600, .inl (nA (fun _ => 0)))), (m6, .inl (cI, 4920, .inl (nA (fun _ => 0)))), (m7, .inl (cZ, 492, .inl (zA (fun _ => false))))] := hD
  refine ga_putF (ws' := [(ob, .inr (6, [.int 0, .ref m1, .int 0, .int 0, .int 0, .int 0, .ref m6, .ref m7, .null, .null, .null, .int 0, .int 0, .null, .null, .null, .int 0, .null, .null])), (m1, .inl (cI, 600, .inl (nA (fun _ => 0)))), (m6, .inl (cI, 4920, .inl (nA (fun _ => 0)))), (m7, .inl (cZ, 492, .inl (zA (fun _ => false))))]) S hnm hK hP hD hS 0 rfl p_Mo_16 rfl rfl (Nat.le_of_ble_eq_true rfl) rfl d_Mo_init_28 (fun H locs hP hD hS => ?_)
  refine lv_aload_n hx hb d_Mo_init_31 rfl (lv_at hl 0 rfl) ?_
  refine lv_sipush (v := 492) hx hb d_Mo_init_32 (by decide) ?_
  refine ga_newa (atype := .boolean) (ty := .boolean) (N' := 492) (a0 := (492, .inl (zA (fun _ => false)))) S hK hP hD hS hA ac_boolean rfl (fun _ _ h => h) 1 rfl (fun _ => rfl) (by decide) (by decide) (by decide) (Nat.le_of_ble_eq_true rfl) (Nat.le_of_ble_eq_true rfl) d_Mo_init_35 (fun m8 H hP hD hS => ?_)
  have hP : va_P D vwCl [(ob, .inr (6, [.int 0, .ref m1, .int 0, .int 0, .int 0, .int 0, .ref m6, .ref m7, .null, .null, .null, .int 0, .int 0, .null, .null, .null, .int 0, .null, .null])), (m1, .inl (cI, 600, .inl (nA (fun _ => 0)))), (m6, .inl (cI, 4920, .inl (nA (fun _ => 0)))), (m7, .inl (cZ, 492, .inl (zA (fun _ => false)))), (m8, .inl (cZ, 492, .inl (zA (fun _ => false))))] H := hP
  have hD : va_D A [(ob, .inr (6, [.int 0, .ref m1, .int 0, .int 0, .int 0, .int 0, .ref m6, .ref m7, .null, .null, .null, .int 0, .int 0, .null, .null, .null, .int 0, .null, .null])), (m1, .inl (cI, 600, .inl (nA (fun _ => 0)))), (m6, .inl (cI, 4920, .inl (nA (fun _ => 0)))), (m7, .inl (cZ, 492, .inl (zA (fun _ => false)))), (m8, .inl (cZ, 492, .inl (zA (fun _ => false))))] := hD
  refine ga_putF (ws' := [(ob, .inr (6, [.int 0, .ref m1, .int 0, .int 0, .int 0, .int 0, .ref m6, .ref m7, .ref m8, .null, .null, .int 0, .int 0, .null, .null, .null, .int 0, .null, .null])), (m1, .inl (cI, 600, .inl (nA (fun _ => 0)))), (m6, .inl (cI, 4920, .inl (nA (fun _ => 0)))), (m7, .inl (cZ, 492, .inl (zA (fun _ => false)))), (m8, .inl (cZ, 492, .inl (zA (fun _ => false))))]) S hnm hK hP hD hS 0 rfl p_Mo_20 rfl rfl (Nat.le_of_ble_eq_true rfl) rfl d_Mo_init_37 (fun H locs hP hD hS => ?_)
  refine lv_aload_n hx hb d_Mo_init_40 rfl (lv_at hl 0 rfl) ?_
  refine lv_sipush (v := 600) hx hb d_Mo_init_41 (by decide) ?_
  refine ga_newa (atype := .int) (ty := .int) (N' := 600) (a0 := (600, .inl (nA (fun _ => 0)))) S hK hP hD hS hA ac_int rfl (fun _ _ h => h) 0 rfl (fun _ => rfl) (by decide) (by decide) (by decide) (Nat.le_of_ble_eq_true rfl) (Nat.le_of_ble_eq_true rfl) d_Mo_init_44 (fun m9 H hP hD hS => ?_)
  have hP : va_P D vwCl [(ob, .inr (6, [.int 0, .ref m1, .int 0, .int 0, .int 0, .int 0, .ref m6, .ref m7, .ref m8, .null, .null, .int 0, .int 0, .null, .null, .null, .int 0, .null, .null])), (m1, .inl (cI, 600, .inl (nA (fun _ => 0)))), (m6, .inl (cI, 4920, .inl (nA (fun _ => 0)))), (m7, .inl (cZ, 492, .inl (zA (fun _ => false)))), (m8, .inl (cZ, 492, .inl (zA (fun _ => false)))), (m9, .inl (cI, 600, .inl (nA (fun _ => 0))))] H := hP
  have hD : va_D A [(ob, .inr (6, [.int 0, .ref m1, .int 0, .int 0, .int 0, .int 0, .ref m6, .ref m7, .ref m8, .null, .null, .int 0, .int 0, .null, .null, .null, .int 0, .null, .null])), (m1, .inl (cI, 600, .inl (nA (fun _ => 0)))), (m6, .inl (cI, 4920, .inl (nA (fun _ => 0)))), (m7, .inl (cZ, 492, .inl (zA (fun _ => false)))), (m8, .inl (cZ, 492, .inl (zA (fun _ => false)))), (m9, .inl (cI, 600, .inl (nA (fun _ => 0))))] := hD
  refine ga_putF (ws' := [(ob, .inr (6, [.int 0, .ref m1, .int 0, .int 0, .int 0, .int 0, .ref m6, .ref m7, .ref m8, .ref m9, .null, .int 0, .int 0, .null, .null, .null, .int 0, .null, .null])), (m1, .inl (cI, 600, .inl (nA (fun _ => 0)))), (m6, .inl (cI, 4920, .inl (nA (fun _ => 0)))), (m7, .inl (cZ, 492, .inl (zA (fun _ => false)))), (m8, .inl (cZ, 492, .inl (zA (fun _ => false)))), (m9, .inl (cI, 600, .inl (nA (fun _ => 0))))]) S hnm hK hP hD hS 0 rfl p_Mo_23 rfl rfl (Nat.le_of_ble_eq_true rfl) rfl d_Mo_init_46 (fun H locs hP hD hS => ?_)
  refine lv_aload_n hx hb d_Mo_init_49 rfl (lv_at hl 0 rfl) ?_
  refine lv_sipush (v := 600) hx hb d_Mo_init_50 (by decide) ?_
  refine ga_newa (atype := .int) (ty := .int) (N' := 600) (a0 := (600, .inl (nA (fun _ => 0)))) S hK hP hD hS hA ac_int rfl (fun _ _ h => h) 0 rfl (fun _ => rfl) (by decide) (by decide) (by decide) (Nat.le_of_ble_eq_true rfl) (Nat.le_of_ble_eq_true rfl) d_Mo_init_53 (fun mA H hP hD hS => ?_)
  have hP : va_P D vwCl [(ob, .inr (6, [.int 0, .ref m1, .int 0, .int 0, .int 0, .int 0, .ref m6, .ref m7, .ref m8, .ref m9, .null, .int 0, .int 0, .null, .null, .null, .int 0, .null, .null])), (m1, .inl (cI, 600, .inl (nA (fun _ => 0)))), (m6, .inl (cI, 4920, .inl (nA (fun _ => 0)))), (m7, .inl (cZ, 492, .inl (zA (fun _ => false)))), (m8, .inl (cZ, 492, .inl (zA (fun _ => false)))), (m9, .inl (cI, 600, .inl (nA (fun _ => 0)))), (mA, .inl (cI, 600, .inl (nA (fun _ => 0))))] H := hP
  have hD : va_D A [(ob, .inr (6, [.int 0, .ref m1, .int 0, .int 0, .int 0, .int 0, .ref m6, .ref m7, .ref m8, .ref m9, .null, .int 0, .int 0, .null, .null, .null, .int 0, .null, .null])), (m1, .inl (cI, 600, .inl (nA (fun _ => 0)))), (m6, .inl (cI, 4920, .inl (nA (fun _ => 0)))), (m7, .inl (cZ, 492, .inl (zA (fun _ => false)))), (m8, .inl (cZ, 492, .inl (zA (fun _ => false)))), (m9, .inl (cI, 600, .inl (nA (fun _ => 0)))), (mA, .inl (cI, 600, .inl (nA (fun _ => 0))))] := hD
  refine ga_putF (ws' := [(ob, .inr (6, [.int 0, .ref m1, .int 0, .int 0, .int 0, .int 0, .ref m6, .ref m7, .ref m8, .ref m9, .ref mA, .int 0, .int 0, .null, .null, .null, .int 0, .null, .null])), (m1, .inl (cI, 600, .inl (nA (fun _ => 0)))), (m6, .inl (cI, 4920, .inl (nA (fun _ => 0)))), (m7, .inl (cZ, 492, .inl (zA (fun _ => false)))), (m8, .inl (cZ, 492, .inl (zA (fun _ => false)))), (m9, .inl (cI, 600, .inl (nA (fun _ => 0)))), (mA, .inl (cI, 600, .inl (nA (fun _ => 0))))]) S hnm hK hP hD hS 0 rfl p_Mo_26 rfl rfl (Nat.le_of_ble_eq_true rfl) rfl d_Mo_init_55 (fun H locs hP hD hS => ?_)
  refine lv_aload_n hx hb d_Mo_init_58 rfl (lv_at hl 0 rfl) ?_
  refine lv_bipush (v := 61) hx hb d_Mo_init_59 (by decide) ?_
  refine ga_newa (atype := .int) (ty := .int) (N' := 61) (a0 := (61, .inl (nA (fun _ => 0)))) S hK hP hD hS hA ac_int rfl (fun _ _ h => h) 0 rfl (fun _ => rfl) (by decide) (by decide) (by decide) (Nat.le_of_ble_eq_true rfl) (Nat.le_of_ble_eq_true rfl) d_Mo_init_61 (fun mB H hP hD hS => ?_)
  have hP : va_P D vwCl [(ob, .inr (6, [.int 0, .ref m1, .int 0, .int 0, .int 0, .int 0, .ref m6, .ref m7, .ref m8, .ref m9, .ref mA, .int 0, .int 0, .null, .null, .null, .int 0, .null, .null])), (m1, .inl (cI, 600, .inl (nA (fun _ => 0)))), (m6, .inl (cI, 4920, .inl (nA (fun _ => 0)))), (m7, .inl (cZ, 492, .inl (zA (fun _ => false)))), (m8, .inl (cZ, 492, .inl (zA (fun _ => false)))), (m9, .inl (cI, 600, .inl (nA (fun _ => 0)))), (mA, .inl (cI, 600, .inl (nA (fun _ => 0)))), (mB, .inl (cI, 61, .inl (nA (fun _ => 0))))] H := hP
  have hD : va_D A [(ob, .inr (6, [.int 0, .ref m1, .int 0, .int 0, .int 0, .int 0, .ref m6, .ref m7, .ref m8, .ref m9, .ref mA, .int 0, .int 0, .null, .null, .null, .int 0, .null, .null])), (m1, .inl (cI, 600, .inl (nA (fun _ => 0)))), (m6, .inl (cI, 4920, .inl (nA (fun _ => 0)))), (m7, .inl (cZ, 492, .inl (zA (fun _ => false)))), (m8, .inl (cZ, 492, .inl (zA (fun _ => false)))), (m9, .inl (cI, 600, .inl (nA (fun _ => 0)))), (mA, .inl (cI, 600, .inl (nA (fun _ => 0)))), (mB, .inl (cI, 61, .inl (nA (fun _ => 0))))] := hD
  refine ga_putF (ws' := [(ob, .inr (6, [.int 0, .ref m1, .int 0, .int 0, .int 0, .int 0, .ref m6, .ref m7, .ref m8, .ref m9, .ref mA, .int 0, .int 0, .ref mB, .null, .null, .int 0, .null, .null])), (m1, .inl (cI, 600, .inl (nA (fun _ => 0)))), (m6, .inl (cI, 4920, .inl (nA (fun _ => 0)))), (m7, .inl (cZ, 492, .inl (zA (fun _ => false)))), (m8, .inl (cZ, 492, .inl (zA (fun _ => false)))), (m9, .inl (cI, 600, .inl (nA (fun _ => 0)))), (mA, .inl (cI, 600, .inl (nA (fun _ => 0)))), (mB, .inl (cI, 61, .inl (nA (fun _ => 0))))]) S hnm hK hP hD hS 0 rfl p_Mo_29 rfl rfl (Nat.le_of_ble_eq_true rfl) rfl d_Mo_init_63 (fun H locs hP hD hS => ?_)
  refine lv_aload_n hx hb d_Mo_init_66 rfl (lv_at hl 0 rfl) ?_
  refine lv_bipush (v := 61) hx hb d_Mo_init_67 (by decide) ?_
  refine ga_newa (atype := .int) (ty := .int) (N' := 61) (a0 := (61, .inl (nA (fun _ => 0)))) S hK hP hD hS hA ac_int rfl (fun _ _ h => h) 0 rfl (fun _ => rfl) (by decide) (by decide) (by decide) (Nat.le_of_ble_eq_true rfl) (Nat.le_of_ble_eq_true rfl) d_Mo_init_69 (fun mC H hP hD hS => ?_)
  have hP : va_P D vwCl [(ob, .inr (6, [.int 0, .ref m1, .int 0, .int 0, .int 0, .int 0, .ref m6, .ref m7, .ref m8, .ref m9, .ref mA, .int 0, .int 0, .ref mB, .null, .null, .int 0, .null, .null])), (m1, .inl (cI, 600, .inl (nA (fun _ => 0)))), (m6, .inl (cI, 4920, .inl (nA (fun _ => 0)))), (m7, .inl (cZ, 492, .inl (zA (fun _ => false)))), (m8, .inl (cZ, 492, .inl (zA (fun _ => false)))), (m9, .inl (cI, 600, .inl (nA (fun _ => 0)))), (mA, .inl (cI, 600, .inl (nA (fun _ => 0)))), (mB, .inl (cI, 61, .inl (nA (fun _ => 0)))), (mC, .inl (cI, 61, .inl (nA (fun _ => 0))))] H := hP
  have hD : va_D A [(ob, .inr (6, [.int 0, .ref m1, .int 0, .int 0, .int 0, .int 0, .ref m6, .ref m7, .ref m8, .ref m9, .ref mA, .int 0, .int 0, .ref mB, .null, .null, .int 0, .null, .null])), (m1, .inl (cI, 600, .inl (nA (fun _ => 0)))), (m6, .inl (cI, 4920, .inl (nA (fun _ => 0)))), (m7, .inl (cZ, 492, .inl (zA (fun _ => false)))), (m8, .inl (cZ, 492, .inl (zA (fun _ => false)))), (m9, .inl (cI, 600, .inl (nA (fun _ => 0)))), (mA, .inl (cI, 600, .inl (nA (fun _ => 0)))), (mB, .inl (cI, 61, .inl (nA (fun _ => 0)))), (mC, .inl (cI, 61, .inl (nA (fun _ => 0))))] := hD
  refine ga_putF (ws' := [(ob, .inr (6, [.int 0, .ref m1, .int 0, .int 0, .int 0, .int 0, .ref m6, .ref m7, .ref m8, .ref m9, .ref mA, .int 0, .int 0, .ref mB, .ref mC, .null, .int 0, .null, .null])), (m1, .inl (cI, 600, .inl (nA (fun _ => 0)))), (m6, .inl (cI, 4920, .inl (nA (fun _ => 0)))), (m7, .inl (cZ, 492, .inl (zA (fun _ => false)))), (m8, .inl (cZ, 492, .inl (zA (fun _ => false)))), (m9, .inl (cI, 600, .inl (nA (fun _ => 0)))), (mA, .inl (cI, 600, .inl (nA (fun _ => 0)))), (mB, .inl (cI, 61, .inl (nA (fun _ => 0)))), (mC, .inl (cI, 61, .inl (nA (fun _ => 0))))]) S hnm hK hP hD hS 0 rfl p_Mo_32 rfl rfl (Nat.le_of_ble_eq_true rfl) rfl d_Mo_init_71 (fun H locs hP hD hS => ?_)
  refine lv_aload_n hx hb d_Mo_init_74 rfl (lv_at hl 0 rfl) ?_
  refine lv_bipush (v := 41) hx hb d_Mo_init_75 (by decide) ?_
  refine ga_newa (atype := .boolean) (ty := .boolean) (N' := 41) (a0 := (41, .inl (zA (fun _ => false)))) S hK hP hD hS hA ac_boolean rfl (fun _ _ h => h) 1 rfl (fun _ => rfl) (by decide) (by decide) (by decide) (Nat.le_of_ble_eq_true rfl) (Nat.le_of_ble_eq_true rfl) d_Mo_init_77 (fun mD H hP hD hS => ?_)
  have hP : va_P D vwCl [(ob, .inr (6, [.int 0, .ref m1, .int 0, .int 0, .int 0, .int 0, .ref m6, .ref m7, .ref m8, .ref m9, .ref mA, .int 0, .int 0, .ref mB, .ref mC, .null, .int 0, .null, .null])), (m1, .inl (cI, 600, .inl (nA (fun _ => 0)))), (m6, .inl (cI, 4920, .inl (nA (fun _ => 0)))), (m7, .inl (cZ, 492, .inl (zA (fun _ => false)))), (m8, .inl (cZ, 492, .inl (zA (fun _ => false)))), (m9, .inl (cI, 600, .inl (nA (fun _ => 0)))), (mA, .inl (cI, 600, .inl (nA (fun _ => 0)))), (mB, .inl (cI, 61, .inl (nA (fun _ => 0)))), (mC, .inl (cI, 61, .inl (nA (fun _ => 0)))), (mD, .inl (cZ, 41, .inl (zA (fun _ => false))))] H := hP
  have hD : va_D A [(ob, .inr (6, [.int 0, .ref m1, .int 0, .int 0, .int 0, .int 0, .ref m6, .ref m7, .ref m8, .ref m9, .ref mA, .int 0, .int 0, .ref mB, .ref mC, .null, .int 0, .null, .null])), (m1, .inl (cI, 600, .inl (nA (fun _ => 0)))), (m6, .inl (cI, 4920, .inl (nA (fun _ => 0)))), (m7, .inl (cZ, 492, .inl (zA (fun _ => false)))), (m8, .inl (cZ, 492, .inl (zA (fun _ => false)))), (m9, .inl (cI, 600, .inl (nA (fun _ => 0)))), (mA, .inl (cI, 600, .inl (nA (fun _ => 0)))), (mB, .inl (cI, 61, .inl (nA (fun _ => 0)))), (mC, .inl (cI, 61, .inl (nA (fun _ => 0)))), (mD, .inl (cZ, 41, .inl (zA (fun _ => false))))] := hD
  refine ga_putF (ws' := [(ob, .inr (6, [.int 0, .ref m1, .int 0, .int 0, .int 0, .int 0, .ref m6, .ref m7, .ref m8, .ref m9, .ref mA, .int 0, .int 0, .ref mB, .ref mC, .ref mD, .int 0, .null, .null])), (m1, .inl (cI, 600, .inl (nA (fun _ => 0)))), (m6, .inl (cI, 4920, .inl (nA (fun _ => 0)))), (m7, .inl (cZ, 492, .inl (zA (fun _ => false)))), (m8, .inl (cZ, 492, .inl (zA (fun _ => false)))), (m9, .inl (cI, 600, .inl (nA (fun _ => 0)))), (mA, .inl (cI, 600, .inl (nA (fun _ => 0)))), (mB, .inl (cI, 61, .inl (nA (fun _ => 0)))), (mC, .inl (cI, 61, .inl (nA (fun _ => 0)))), (mD, .inl (cZ, 41, .inl (zA (fun _ => false))))]) S hnm hK hP hD hS 0 rfl p_Mo_35 rfl rfl (Nat.le_of_ble_eq_true rfl) rfl d_Mo_init_79 (fun H locs hP hD hS => ?_)
  refine lv_aload_n hx hb d_Mo_init_82 rfl (lv_at hl 0 rfl) ?_
  refine lv_sipush (v := 500) hx hb d_Mo_init_83 (by decide) ?_
  refine ga_newa (atype := .int) (ty := .int) (N' := 500) (a0 := (500, .inl (nA (fun _ => 0)))) S hK hP hD hS hA ac_int rfl (fun _ _ h => h) 0 rfl (fun _ => rfl) (by decide) (by decide) (by decide) (Nat.le_of_ble_eq_true rfl) (Nat.le_of_ble_eq_true rfl) d_Mo_init_86 (fun mE H hP hD hS => ?_)
  have hP : va_P D vwCl [(ob, .inr (6, [.int 0, .ref m1, .int 0, .int 0, .int 0, .int 0, .ref m6, .ref m7, .ref m8, .ref m9, .ref mA, .int 0, .int 0, .ref mB, .ref mC, .ref mD, .int 0, .null, .null])), (m1, .inl (cI, 600, .inl (nA (fun _ => 0)))), (m6, .inl (cI, 4920, .inl (nA (fun _ => 0)))), (m7, .inl (cZ, 492, .inl (zA (fun _ => false)))), (m8, .inl (cZ, 492, .inl (zA (fun _ => false)))), (m9, .inl (cI, 600, .inl (nA (fun _ => 0)))), (mA, .inl (cI, 600, .inl (nA (fun _ => 0)))), (mB, .inl (cI, 61, .inl (nA (fun _ => 0)))), (mC, .inl (cI, 61, .inl (nA (fun _ => 0)))), (mD, .inl (cZ, 41, .inl (zA (fun _ => false)))), (mE, .inl (cI, 500, .inl (nA (fun _ => 0))))] H := hP
  have hD : va_D A [(ob, .inr (6, [.int 0, .ref m1, .int 0, .int 0, .int 0, .int 0, .ref m6, .ref m7, .ref m8, .ref m9, .ref mA, .int 0, .int 0, .ref mB, .ref mC, .ref mD, .int 0, .null, .null])), (m1, .inl (cI, 600, .inl (nA (fun _ => 0)))), (m6, .inl (cI, 4920, .inl (nA (fun _ => 0)))), (m7, .inl (cZ, 492, .inl (zA (fun _ => false)))), (m8, .inl (cZ, 492, .inl (zA (fun _ => false)))), (m9, .inl (cI, 600, .inl (nA (fun _ => 0)))), (mA, .inl (cI, 600, .inl (nA (fun _ => 0)))), (mB, .inl (cI, 61, .inl (nA (fun _ => 0)))), (mC, .inl (cI, 61, .inl (nA (fun _ => 0)))), (mD, .inl (cZ, 41, .inl (zA (fun _ => false)))), (mE, .inl (cI, 500, .inl (nA (fun _ => 0))))] := hD
  refine ga_putF (ws' := [(ob, .inr (6, [.int 0, .ref m1, .int 0, .int 0, .int 0, .int 0, .ref m6, .ref m7, .ref m8, .ref m9, .ref mA, .int 0, .int 0, .ref mB, .ref mC, .ref mD, .int 0, .ref mE, .null])), (m1, .inl (cI, 600, .inl (nA (fun _ => 0)))), (m6, .inl (cI, 4920, .inl (nA (fun _ => 0)))), (m7, .inl (cZ, 492, .inl (zA (fun _ => false)))), (m8, .inl (cZ, 492, .inl (zA (fun _ => false)))), (m9, .inl (cI, 600, .inl (nA (fun _ => 0)))), (mA, .inl (cI, 600, .inl (nA (fun _ => 0)))), (mB, .inl (cI, 61, .inl (nA (fun _ => 0)))), (mC, .inl (cI, 61, .inl (nA (fun _ => 0)))), (mD, .inl (cZ, 41, .inl (zA (fun _ => false)))), (mE, .inl (cI, 500, .inl (nA (fun _ => 0))))]) S hnm hK hP hD hS 0 rfl p_Mo_38 rfl rfl (Nat.le_of_ble_eq_true rfl) rfl d_Mo_init_88 (fun H locs hP hD hS => ?_)
  refine lv_aload_n hx hb d_Mo_init_91 rfl (lv_at hl 0 rfl) ?_
  refine lv_sipush (v := 2000) hx hb d_Mo_init_92 (by decide) ?_
  refine ga_newa (atype := .int) (ty := .int) (N' := 2000) (a0 := (2000, .inl (nA (fun _ => 0)))) S hK hP hD hS hA ac_int rfl (fun _ _ h => h) 0 rfl (fun _ => rfl) (by decide) (by decide) (by decide) (Nat.le_of_ble_eq_true rfl) (Nat.le_of_ble_eq_true rfl) d_Mo_init_95 (fun mF H hP hD hS => ?_)
  have hP : va_P D vwCl [(ob, .inr (6, [.int 0, .ref m1, .int 0, .int 0, .int 0, .int 0, .ref m6, .ref m7, .ref m8, .ref m9, .ref mA, .int 0, .int 0, .ref mB, .ref mC, .ref mD, .int 0, .ref mE, .null])), (m1, .inl (cI, 600, .inl (nA (fun _ => 0)))), (m6, .inl (cI, 4920, .inl (nA (fun _ => 0)))), (m7, .inl (cZ, 492, .inl (zA (fun _ => false)))), (m8, .inl (cZ, 492, .inl (zA (fun _ => false)))), (m9, .inl (cI, 600, .inl (nA (fun _ => 0)))), (mA, .inl (cI, 600, .inl (nA (fun _ => 0)))), (mB, .inl (cI, 61, .inl (nA (fun _ => 0)))), (mC, .inl (cI, 61, .inl (nA (fun _ => 0)))), (mD, .inl (cZ, 41, .inl (zA (fun _ => false)))), (mE, .inl (cI, 500, .inl (nA (fun _ => 0)))), (mF, .inl (cI, 2000, .inl (nA (fun _ => 0))))] H := hP
  have hD : va_D A [(ob, .inr (6, [.int 0, .ref m1, .int 0, .int 0, .int 0, .int 0, .ref m6, .ref m7, .ref m8, .ref m9, .ref mA, .int 0, .int 0, .ref mB, .ref mC, .ref mD, .int 0, .ref mE, .null])), (m1, .inl (cI, 600, .inl (nA (fun _ => 0)))), (m6, .inl (cI, 4920, .inl (nA (fun _ => 0)))), (m7, .inl (cZ, 492, .inl (zA (fun _ => false)))), (m8, .inl (cZ, 492, .inl (zA (fun _ => false)))), (m9, .inl (cI, 600, .inl (nA (fun _ => 0)))), (mA, .inl (cI, 600, .inl (nA (fun _ => 0)))), (mB, .inl (cI, 61, .inl (nA (fun _ => 0)))), (mC, .inl (cI, 61, .inl (nA (fun _ => 0)))), (mD, .inl (cZ, 41, .inl (zA (fun _ => false)))), (mE, .inl (cI, 500, .inl (nA (fun _ => 0)))), (mF, .inl (cI, 2000, .inl (nA (fun _ => 0))))] := hD
  refine ga_putF (ws' := [(ob, .inr (6, [.int 0, .ref m1, .int 0, .int 0, .int 0, .int 0, .ref m6, .ref m7, .ref m8, .ref m9, .ref mA, .int 0, .int 0, .ref mB, .ref mC, .ref mD, .int 0, .ref mE, .ref mF])), (m1, .inl (cI, 600, .inl (nA (fun _ => 0)))), (m6, .inl (cI, 4920, .inl (nA (fun _ => 0)))), (m7, .inl (cZ, 492, .inl (zA (fun _ => false)))), (m8, .inl (cZ, 492, .inl (zA (fun _ => false)))), (m9, .inl (cI, 600, .inl (nA (fun _ => 0)))), (mA, .inl (cI, 600, .inl (nA (fun _ => 0)))), (mB, .inl (cI, 61, .inl (nA (fun _ => 0)))), (mC, .inl (cI, 61, .inl (nA (fun _ => 0)))), (mD, .inl (cZ, 41, .inl (zA (fun _ => false)))), (mE, .inl (cI, 500, .inl (nA (fun _ => 0)))), (mF, .inl (cI, 2000, .inl (nA (fun _ => 0))))]) S hnm hK hP hD hS 0 rfl p_Mo_41 rfl rfl (Nat.le_of_ble_eq_true rfl) rfl d_Mo_init_97 (fun H locs hP hD hS => ?_)
  refine lv_aload_n hx hb d_Mo_init_100 rfl (lv_at hl 0 rfl) ?_
  refine lv_iconst (v := 0) hx hb d_Mo_init_101 (by decide) ?_
  refine ga_put (ws' := [(ob, .inr (6, [.int 0, .ref m1, .int 0, .int 0, .int 0, .int 0, .ref m6, .ref m7, .ref m8, .ref m9, .ref mA, .int 0, .int 0, .ref mB, .ref mC, .ref mD, .int 0, .ref mE, .ref mF])), (m1, .inl (cI, 600, .inl (nA (fun _ => 0)))), (m6, .inl (cI, 4920, .inl (nA (fun _ => 0)))), (m7, .inl (cZ, 492, .inl (zA (fun _ => false)))), (m8, .inl (cZ, 492, .inl (zA (fun _ => false)))), (m9, .inl (cI, 600, .inl (nA (fun _ => 0)))), (mA, .inl (cI, 600, .inl (nA (fun _ => 0)))), (mB, .inl (cI, 61, .inl (nA (fun _ => 0)))), (mC, .inl (cI, 61, .inl (nA (fun _ => 0)))), (mD, .inl (cZ, 41, .inl (zA (fun _ => false)))), (mE, .inl (cI, 500, .inl (nA (fun _ => 0)))), (mF, .inl (cI, 2000, .inl (nA (fun _ => 0))))]) S hK hP hD hS 0 rfl p_Mo_44 rfl rfl (Nat.le_of_ble_eq_true rfl) rfl d_Mo_init_102 (fun H locs hP hD hS => ?_)
  exact ga_wv ((fun i => match i with | 0 => m1 | 1 => m6 | 2 => m7 | 3 => m8 | 4 => m9 | 5 => mA | 6 => mB | 7 => mC | 8 => mD | 9 => mE | _ => mF) : Nat → Nat) S hrt hlk hP hD hS trivial d_Mo_init_105
