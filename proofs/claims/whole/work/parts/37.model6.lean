set_option maxHeartbeats 4000000 in
set_option maxRecDepth 100000 in
theorem gc_Mo_read (l : Launch) (D : va_G) (cI cZ cC cG : ClassId) (mo m1 m6 m7 m8 m9 mA mB mC mD mE mF n pos ec w nw kf : Nat) (wr : Option Nat) (sg : Nat → Nat) (mb : Nat → Nat) (ms mns : Nat → Bool) (cd nc nx nn : Nat → Nat) (he : Nat → Bool) (dsh : Nat → Bool) (e1 e2 e3 e4 : Nat → Nat) (bn : Nat → Nat) (shr : Nat → Bool) (r1 r2 r3 r4 : Nat → Nat) (rg : Nat) (ed : Nat → Nat → Nat) (hec : ec ≤ 8) (hn : n ≤ 600) (hsg : ∀ j, sg j < 2 ^ 31) (hSS : gm_S bn shr r1 r2 r3 r4 rg ed ec mb ms cd w) : ga_Mi l y_Mo_read b_Mo_read 3 (some .int) 6 0 0 D (ga_T cI cZ cC cG) [.ref mo] [(mo, .inr (6, [.int 0, .ref m1, .int (nI n), .int (nI pos), .int (tI wr), .int (nI ec), .ref m6, .ref m7, .ref m8, .ref m9, .ref mA, .int (nI w), .int (nI nw), .ref mB, .ref mC, .ref mD, .int (nI kf), .ref mE, .ref mF])), (m1, .inl (cI, 600, .inl (nA sg))), (m6, .inl (cI, 4920, .inl (nA mb))), (m7, .inl (cZ, 492, .inl (zA ms))), (m8, .inl (cZ, 492, .inl (zA mns))), (m9, .inl (cI, 600, .inl (nA cd))), (mA, .inl (cI, 600, .inl (nA nc))), (mB, .inl (cI, 61, .inl (nA nx))), (mC, .inl (cI, 61, .inl (nA nn))), (mD, .inl (cZ, 41, .inl (zA he)))] (fun (x : Nat × Option Nat × Nat × (Nat → Nat) × (Nat → Bool) × (Nat → Bool) × (Nat → Nat) × (Nat → Nat) × Nat × Nat × (Nat → Nat) × (Nat → Nat) × (Nat → Bool)) => [(mo, .inr (6, [.int 0, .ref m1, .int (nI 0), .int (nI x.1), .int (tI x.2.1), .int (nI x.2.2.1), .ref m6, .ref m7, .ref m8, .ref m9, .ref mA, .int (nI x.2.2.2.2.2.2.2.2.1), .int (nI x.2.2.2.2.2.2.2.2.2.1), .ref mB, .ref mC, .ref mD, .int (nI kf), .ref mE, .ref mF])), (m1, .inl (cI, 600, .inl (nA sg))), (m6, .inl (cI, 4920, .inl (nA x.2.2.2.1))), (m7, .inl (cZ, 492, .inl (zA x.2.2.2.2.1))), (m8, .inl (cZ, 492, .inl (zA x.2.2.2.2.2.1))), (m9, .inl (cI, 600, .inl (nA x.2.2.2.2.2.2.1))), (mA, .inl (cI, 600, .inl (nA x.2.2.2.2.2.2.2.1))), (mB, .inl (cI, 61, .inl (nA x.2.2.2.2.2.2.2.2.2.2.1))), (mC, .inl (cI, 61, .inl (nA x.2.2.2.2.2.2.2.2.2.2.2.1))), (mD, .inl (cZ, 41, .inl (zA x.2.2.2.2.2.2.2.2.2.2.2.2)))]) (fun r x => ∃ cnt po tr bn2 sh2 us2 ne2 a1 a2 a3 a4 rg2, gp_all sg n 600 0 (0, none, (fun _ => 0, dsh, fun _ => false, fun _ => 0, e1, e2, e3, e4, 0)) = (cnt, po, tr, bn2, sh2, us2, ne2, a1, a2, a3, a4, rg2) ∧ ((∃ t, tr = some t ∧ r = -1 - nI t ∧ x.2.2.1 = ec ∧ x.2.2.2.2.2.2.2.2.2.2.1 = nx ∧ x.2.2.2.2.2.2.2.2.2.2.2.2 = he ∧ gm_S bn shr r1 r2 r3 r4 rg ed ec x.2.2.2.1 x.2.2.2.2.1 x.2.2.2.2.2.2.1 x.2.2.2.2.2.2.2.2.1) ∨ (tr = none ∧ ec = 8 ∧ r = -1 - nI n ∧ x.2.2.1 = ec ∧ x.2.2.2.2.2.2.2.2.2.2.1 = nx ∧ x.2.2.2.2.2.2.2.2.2.2.2.2 = he ∧ gm_S bn shr r1 r2 r3 r4 rg ed ec x.2.2.2.1 x.2.2.2.2.1 x.2.2.2.2.2.2.1 x.2.2.2.2.2.2.2.2.1) ∨ (tr = none ∧ ec < 8 ∧ r = nI cnt ∧ x.2.2.1 = ec + 1 ∧ x.2.2.2.2.2.2.2.2.2.2.1 = ne2 ∧ x.2.2.2.2.2.2.2.2.2.2.2.2 = (fun _ => false) ∧ gm_S bn2 sh2 a1 a2 a3 a4 rg2 (va_up ed ec bn2) (ec + 1) x.2.2.2.1 x.2.2.2.2.1 x.2.2.2.2.2.2.1 x.2.2.2.2.2.2.2.2.1))) := by
  refine ga_enI (by decide) (Nat.le_of_ble_eq_true rfl) ?_
  intro p e s m below meth c ls A S hrt hlk hK hP hD hA hl
  have hS : va_S A s.heap s.heap [] := va_S.rf
  obtain ⟨hx, hb, hml, hown, hts⟩ := id S
  have hl : lv_has ls 3 [(0, .ref mo)] := hl
  have hmb := hSS.2.2.2.2
  refine lv_aload_n hx hb d_Mo_read_0 rfl (lv_at hl 0 rfl) ?_
  refine lv_iconst (v := 0) hx hb d_Mo_read_1 (by decide) ?_
  refine ga_put (ws' := [(mo, .inr (6, [.int 0, .ref m1, .int (nI n), .int (nI pos), .int (tI wr), .int (nI ec), .ref m6, .ref m7, .ref m8, .ref m9, .ref mA, .int (nI w), .int (nI nw), .ref mB, .ref mC, .ref mD, .int (nI kf), .ref mE, .ref mF])), (m1, .inl (cI, 600, .inl (nA sg))), (m6, .inl (cI, 4920, .inl (nA mb))), (m7, .inl (cZ, 492, .inl (zA ms))), (m8, .inl (cZ, 492, .inl (zA mns))), (m9, .inl (cI, 600, .inl (nA cd))), (mA, .inl (cI, 600, .inl (nA nc))), (mB, .inl (cI, 61, .inl (nA nx))), (mC, .inl (cI, 61, .inl (nA nn))), (mD, .inl (cZ, 41, .inl (zA he)))]) S hK hP hD hS 0 rfl p_Mo_48 rfl rfl (Nat.le_of_ble_eq_true rfl) rfl d_Mo_read_2 (fun H locs hP hD hS => ?_)
  refine lv_aload_n hx hb d_Mo_read_5 rfl (lv_at hl 0 rfl) ?_
  refine lv_iconst (v := 0) hx hb d_Mo_read_6 (by decide) ?_
  refine ga_put (ws' := [(mo, .inr (6, [.int 0, .ref m1, .int (nI n), .int 0, .int (tI wr), .int (nI ec), .ref m6, .ref m7, .ref m8, .ref m9, .ref mA, .int (nI w), .int (nI nw), .ref mB, .ref mC, .ref mD, .int (nI kf), .ref mE, .ref mF])), (m1, .inl (cI, 600, .inl (nA sg))), (m6, .inl (cI, 4920, .inl (nA mb))), (m7, .inl (cZ, 492, .inl (zA ms))), (m8, .inl (cZ, 492, .inl (zA mns))), (m9, .inl (cI, 600, .inl (nA cd))), (mA, .inl (cI, 600, .inl (nA nc))), (mB, .inl (cI, 61, .inl (nA nx))), (mC, .inl (cI, 61, .inl (nA nn))), (mD, .inl (cZ, 41, .inl (zA he)))]) S hK hP hD hS 0 rfl p_Mo_51 rfl rfl (Nat.le_of_ble_eq_true rfl) rfl d_Mo_read_7 (fun H locs hP hD hS => ?_)
  refine lv_aload_n hx hb d_Mo_read_10 rfl (lv_at hl 0 rfl) ?_
  refine lv_iconst (v := (-1)) hx hb d_Mo_read_11 (by decide) ?_
  refine ga_put (ws' := [(mo, .inr (6, [.int 0, .ref m1, .int (nI n), .int 0, .int (-1), .int (nI ec), .ref m6, .ref m7, .ref m8, .ref m9, .ref mA, .int (nI w), .int (nI nw), .ref mB, .ref mC, .ref mD, .int (nI kf), .ref mE, .ref mF])), (m1, .inl (cI, 600, .inl (nA sg))), (m6, .inl (cI, 4920, .inl (nA mb))), (m7, .inl (cZ, 492, .inl (zA ms))), (m8, .inl (cZ, 492, .inl (zA mns))), (m9, .inl (cI, 600, .inl (nA cd))), (mA, .inl (cI, 600, .inl (nA nc))), (mB, .inl (cI, 61, .inl (nA nx))), (mC, .inl (cI, 61, .inl (nA nn))), (mD, .inl (cZ, 41, .inl (zA he)))]) S hK hP hD hS 0 rfl p_Mo_54 rfl rfl (Nat.le_of_ble_eq_true rfl) rfl d_Mo_read_12 (fun H locs hP hD hS => ?_)
  refine lv_aload_n hx hb d_Mo_read_15 rfl (lv_at hl 0 rfl) ?_
  refine lv_iconst (v := 0) hx hb d_Mo_read_16 (by decide) ?_
  refine ga_put (ws' := [(mo, .inr (6, [.int 0, .ref m1, .int (nI n), .int 0, .int (-1), .int (nI ec), .ref m6, .ref m7, .ref m8, .ref m9, .ref mA, .int (nI w), .int 0, .ref mB, .ref mC, .ref mD, .int (nI kf), .ref mE, .ref mF])), (m1, .inl (cI, 600, .inl (nA sg))), (m6, .inl (cI, 4920, .inl (nA mb))), (m7, .inl (cZ, 492, .inl (zA ms))), (m8, .inl (cZ, 492, .inl (zA mns))), (m9, .inl (cI, 600, .inl (nA cd))), (mA, .inl (cI, 600, .inl (nA nc))), (mB, .inl (cI, 61, .inl (nA nx))), (mC, .inl (cI, 61, .inl (nA nn))), (mD, .inl (cZ, 41, .inl (zA he)))]) S hK hP hD hS 0 rfl p_Mo_72 rfl rfl (Nat.le_of_ble_eq_true rfl) rfl d_Mo_read_17 (fun H locs hP hD hS => ?_)
  refine lv_iconst (v := 0) hx hb d_Mo_read_20 (by decide) ?_
  refine lv_istore_n (lv' := [(1, .int 0), (0, .ref mo)]) hx hb d_Mo_read_21 rfl hl (by decide) rfl (fun ls hl => ?_)
  refine ga_loop (α := Nat × (Nat → Nat) × (Nat → Bool)) (fun x => match x with | (i, mb1, ns1) => 492 - i) (fun x ls H locs => match x with | (i, mb1, ns1) => lv_has ls 3 [(1, .int (nI i)), (0, .ref mo)] ∧ va_P D vwCl [(mo, .inr (6, [.int 0, .ref m1, .int (nI n), .int 0, .int (-1), .int (nI ec), .ref m6, .ref m7, .ref m8, .ref m9, .ref mA, .int (nI w), .int 0, .ref mB, .ref mC, .ref mD, .int (nI kf), .ref mE, .ref mF])), (m1, .inl (cI, 600, .inl (nA sg))), (m6, .inl (cI, 4920, .inl (nA mb1))), (m7, .inl (cZ, 492, .inl (zA ms))), (m8, .inl (cZ, 492, .inl (zA ns1))), (m9, .inl (cI, 600, .inl (nA cd))), (mA, .inl (cI, 600, .inl (nA nc))), (mB, .inl (cI, 61, .inl (nA nx))), (mC, .inl (cI, 61, .inl (nA nn))), (mD, .inl (cZ, 41, .inl (zA he)))] H ∧ va_D A [(mo, .inr (6, [.int 0, .ref m1, .int (nI n), .int 0, .int (-1), .int (nI ec), .ref m6, .ref m7, .ref m8, .ref m9, .ref mA, .int (nI w), .int 0, .ref mB, .ref mC, .ref mD, .int (nI kf), .ref mE, .ref mF])), (m1, .inl (cI, 600, .inl (nA sg))), (m6, .inl (cI, 4920, .inl (nA mb1))), (m7, .inl (cZ, 492, .inl (zA ms))), (m8, .inl (cZ, 492, .inl (zA ns1))), (m9, .inl (cI, 600, .inl (nA cd))), (mA, .inl (cI, 600, .inl (nA nc))), (mB, .inl (cI, 61, .inl (nA nx))), (mC, .inl (cI, 61, .inl (nA nn))), (mD, .inl (cZ, 41, .inl (zA he)))] ∧ va_S A s.heap H locs ∧ i ≤ 492 ∧ mb1 = gm_cl mb i ∧ ns1 = gp_fl mns false i) ?_ (0, mb, mns) ⟨lv_sub hl [0, 1] rfl, hP, hD, hS, ⟨by decide, (gm_cl_0 _).symm, (gp_fl_0 _ _).symm⟩⟩
  intro x ls H locs hI ih1
  obtain ⟨i, mb1, ns1⟩ := x
  obtain ⟨hl, hP, hD, hS, ⟨h1a, h1b, h1c⟩⟩ := hI
  have hl : lv_has ls 3 [(1, .int (nI i)), (0, .ref mo)] := hl
  have hP : va_P D vwCl [(mo, .inr (6, [.int 0, .ref m1, .int (nI n), .int 0, .int (-1), .int (nI ec), .ref m6, .ref m7, .ref m8, .ref m9, .ref mA, .int (nI w), .int 0, .ref mB, .ref mC, .ref mD, .int (nI kf), .ref mE, .ref mF])), (m1, .inl (cI, 600, .inl (nA sg))), (m6, .inl (cI, 4920, .inl (nA mb1))), (m7, .inl (cZ, 492, .inl (zA ms))), (m8, .inl (cZ, 492, .inl (zA ns1))), (m9, .inl (cI, 600, .inl (nA cd))), (mA, .inl (cI, 600, .inl (nA nc))), (mB, .inl (cI, 61, .inl (nA nx))), (mC, .inl (cI, 61, .inl (nA nn))), (mD, .inl (cZ, 41, .inl (zA he)))] H := hP
  have hD : va_D A [(mo, .inr (6, [.int 0, .ref m1, .int (nI n), .int 0, .int (-1), .int (nI ec), .ref m6, .ref m7, .ref m8, .ref m9, .ref mA, .int (nI w), .int 0, .ref mB, .ref mC, .ref mD, .int (nI kf), .ref mE, .ref mF])), (m1, .inl (cI, 600, .inl (nA sg))), (m6, .inl (cI, 4920, .inl (nA mb1))), (m7, .inl (cZ, 492, .inl (zA ms))), (m8, .inl (cZ, 492, .inl (zA ns1))), (m9, .inl (cI, 600, .inl (nA cd))), (mA, .inl (cI, 600, .inl (nA nc))), (mB, .inl (cI, 61, .inl (nA nx))), (mC, .inl (cI, 61, .inl (nA nn))), (mD, .inl (cZ, 41, .inl (zA he)))] := hD
  refine lv_iload_n hx hb d_Mo_read_22 rfl (lv_at hl 0 rfl) ?_
  refine lv_sipush (v := 492) hx hb d_Mo_read_23 (by decide) ?_
  refine lv_icmp_ge (tgt := 53) hx hb d_Mo_read_26 (by decide) (fun c26 => ?_) (fun c26 => ?_)
  · have c26 : 492 ≤ i := (nI_leI (a := 492) (b := i) (by omega) (by omega)).mp c26
    refine lv_iconst (v := 0) hx hb d_Mo_read_53 (by decide) ?_
    refine lv_istore_n (lv' := [(1, .int 0), (0, .ref mo)]) hx hb d_Mo_read_54 rfl hl (by decide) rfl (fun ls hl => ?_)
    refine ga_loop (α := Nat × (Nat → Nat)) (fun x => match x with | (i2, nn1) => 61 - i2) (fun x ls H locs => match x with | (i2, nn1) => lv_has ls 3 [(1, .int (nI i2)), (0, .ref mo)] ∧ va_P D vwCl [(mo, .inr (6, [.int 0, .ref m1, .int (nI n), .int 0, .int (-1), .int (nI ec), .ref m6, .ref m7, .ref m8, .ref m9, .ref mA, .int (nI w), .int 0, .ref mB, .ref mC, .ref mD, .int (nI kf), .ref mE, .ref mF])), (m1, .inl (cI, 600, .inl (nA sg))), (m6, .inl (cI, 4920, .inl (nA mb1))), (m7, .inl (cZ, 492, .inl (zA ms))), (m8, .inl (cZ, 492, .inl (zA ns1))), (m9, .inl (cI, 600, .inl (nA cd))), (mA, .inl (cI, 600, .inl (nA nc))), (mB, .inl (cI, 61, .inl (nA nx))), (mC, .inl (cI, 61, .inl (nA nn1))), (mD, .inl (cZ, 41, .inl (zA he)))] H ∧ va_D A [(mo, .inr (6, [.int 0, .ref m1, .int (nI n), .int 0, .int (-1), .int (nI ec), .ref m6, .ref m7, .ref m8, .ref m9, .ref mA, .int (nI w), .int 0, .ref mB, .ref mC, .ref mD, .int (nI kf), .ref mE, .ref mF])), (m1, .inl (cI, 600, .inl (nA sg))), (m6, .inl (cI, 4920, .inl (nA mb1))), (m7, .inl (cZ, 492, .inl (zA ms))), (m8, .inl (cZ, 492, .inl (zA ns1))), (m9, .inl (cI, 600, .inl (nA cd))), (mA, .inl (cI, 600, .inl (nA nc))), (mB, .inl (cI, 61, .inl (nA nx))), (mC, .inl (cI, 61, .inl (nA nn1))), (mD, .inl (cZ, 41, .inl (zA he)))] ∧ va_S A s.heap H locs ∧ i2 ≤ 61 ∧ nn1 = gp_fl nn 0 i2) ?_ (0, nn) ⟨lv_sub hl [0, 1] rfl, hP, hD, hS, ⟨by decide, (gp_fl_0 _ _).symm⟩⟩
    intro x ls H locs hI ih2
    obtain ⟨i2, nn1⟩ := x
    obtain ⟨hl, hP, hD, hS, ⟨h2a, h2b⟩⟩ := hI
    have hl : lv_has ls 3 [(1, .int (nI i2)), (0, .ref mo)] := hl
    have hP : va_P D vwCl [(mo, .inr (6, [.int 0, .ref m1, .int (nI n), .int 0, .int (-1), .int (nI ec), .ref m6, .ref m7, .ref m8, .ref m9, .ref mA, .int (nI w), .int 0, .ref mB, .ref mC, .ref mD, .int (nI kf), .ref mE, .ref mF])), (m1, .inl (cI, 600, .inl (nA sg))), (m6, .inl (cI, 4920, .inl (nA mb1))), (m7, .inl (cZ, 492, .inl (zA ms))), (m8, .inl (cZ, 492, .inl (zA ns1))), (m9, .inl (cI, 600, .inl (nA cd))), (mA, .inl (cI, 600, .inl (nA nc))), (mB, .inl (cI, 61, .inl (nA nx))), (mC, .inl (cI, 61, .inl (nA nn1))), (mD, .inl (cZ, 41, .inl (zA he)))] H := hP
    have hD : va_D A [(mo, .inr (6, [.int 0, .ref m1, .int (nI n), .int 0, .int (-1), .int (nI ec), .ref m6, .ref m7, .ref m8, .ref m9, .ref mA, .int (nI w), .int 0, .ref mB, .ref mC, .ref mD, .int (nI kf), .ref mE, .ref mF])), (m1, .inl (cI, 600, .inl (nA sg))), (m6, .inl (cI, 4920, .inl (nA mb1))), (m7, .inl (cZ, 492, .inl (zA ms))), (m8, .inl (cZ, 492, .inl (zA ns1))), (m9, .inl (cI, 600, .inl (nA cd))), (mA, .inl (cI, 600, .inl (nA nc))), (mB, .inl (cI, 61, .inl (nA nx))), (mC, .inl (cI, 61, .inl (nA nn1))), (mD, .inl (cZ, 41, .inl (zA he)))] := hD
    refine lv_iload_n hx hb d_Mo_read_55 rfl (lv_at hl 0 rfl) ?_
    refine lv_bipush (v := 61) hx hb d_Mo_read_56 (by decide) ?_
    refine lv_icmp_ge (tgt := 74) hx hb d_Mo_read_58 (by decide) (fun c58 => ?_) (fun c58 => ?_)
    · have c58 : 61 ≤ i2 := (nI_leI (a := 61) (b := i2) (by omega) (by omega)).mp c58
      obtain ⟨hP, hD⟩ := ga_setf (q := 8) (g := nA (fun _ => 0)) (ws' := [(mo, .inr (6, [.int 0, .ref m1, .int (nI n), .int 0, .int (-1), .int (nI ec), .ref m6, .ref m7, .ref m8, .ref m9, .ref mA, .int (nI w), .int 0, .ref mB, .ref mC, .ref mD, .int (nI kf), .ref mE, .ref mF])), (m1, .inl (cI, 600, .inl (nA sg))), (m6, .inl (cI, 4920, .inl (nA mb1))), (m7, .inl (cZ, 492, .inl (zA ms))), (m8, .inl (cZ, 492, .inl (zA ns1))), (m9, .inl (cI, 600, .inl (nA cd))), (mA, .inl (cI, 600, .inl (nA nc))), (mB, .inl (cI, 61, .inl (nA nx))), (mC, .inl (cI, 61, .inl (nA (fun _ => 0)))), (mD, .inl (cZ, 41, .inl (zA he)))]) hP hD rfl (fun j hj => by simp only [nA, h2b, gp_fl]; rw [if_pos (by omega)]) rfl
      refine lv_aload_n hx hb d_Mo_read_74 rfl (lv_at hl 1 rfl) ?_
      refine ga_ji (wr := [(m7, .inl (cZ, 492, .inl (zA ms))), (m9, .inl (cI, 600, .inl (nA cd))), (mB, .inl (cI, 61, .inl (nA nx))), (mD, .inl (cZ, 41, .inl (zA he)))]) (ga_runV (As := []) (rest := []) S hK s_Mo_88 (gc_Mo_readAll l D cI cZ cC cG mo m1 m6 m7 m8 m9 mA mB mC mD mE mF n ec w 0 kf sg (fun _ => 0, dsh, fun _ => false, fun _ => 0, e1, e2, e3, e4, 0) mb1 ns1 nc (fun _ => 0) (by omega) hsg (by rw [h1b]; exact gm_cl_le hmb _) (fun _ => Nat.zero_le _) (gp_ok_0 _ _ _ _ _ _) (by rw [h1b, show i = 492 by omega]; exact gm_R_0 _ _ _ _ _ _ _ _ _) _) (ga_prV (y := y_Mo_readAll) (q0 := 0) hK hP hD [0, 1, 2, 4, 6, 8] rfl (by decide) rfl rfl) rfl hl.1 rfl (Nat.le_of_ble_eq_true rfl) ⟨Nat.le_of_ble_eq_true rfl, Nat.le_of_ble_eq_true rfl⟩ ⟨Nat.le_of_ble_eq_true rfl, Nat.le_of_ble_eq_true rfl⟩ d_Mo_read_75) hP hD hS hA [0, 1, 2, 4, 6, 8] [3, 5, 7, 9] rfl rfl (by decide) (by decide) [4, 5, 6, 0, 7, 1, 8, 2, 9, 3] (fun (x : Nat × Option Nat × (Nat → Nat) × (Nat → Bool) × (Nat → Nat) × Nat × (Nat → Nat)) => [(mo, .inr (6, [.int 0, .ref m1, .int (nI n), .int (nI x.1), .int (tI x.2.1), .int (nI ec), .ref m6, .ref m7, .ref m8, .ref m9, .ref mA, .int (nI w), .int (nI x.2.2.2.2.2.1), .ref mB, .ref mC, .ref mD, .int (nI kf), .ref mE, .ref mF])), (m1, .inl (cI, 600, .inl (nA sg))), (m6, .inl (cI, 4920, .inl (nA x.2.2.1))), (m7, .inl (cZ, 492, .inl (zA ms))), (m8, .inl (cZ, 492, .inl (zA x.2.2.2.1))), (m9, .inl (cI, 600, .inl (nA cd))), (mA, .inl (cI, 600, .inl (nA x.2.2.2.2.1))), (mB, .inl (cI, 61, .inl (nA nx))), (mC, .inl (cI, 61, .inl (nA x.2.2.2.2.2.2))), (mD, .inl (cZ, 41, .inl (zA he)))]) (fun _ => rfl) (by decide) (fun r x H locs hp75 hP hD hS => ?_)
      obtain ⟨po9, tq, mb9, ns9, nc9, nw9, nn9⟩ := x
      have hP : va_P D vwCl [(mo, .inr (6, [.int 0, .ref m1, .int (nI n), .int (nI po9), .int (tI tq), .int (nI ec), .ref m6, .ref m7, .ref m8, .ref m9, .ref mA, .int (nI w), .int (nI nw9), .ref mB, .ref mC, .ref mD, .int (nI kf), .ref mE, .ref mF])), (m1, .inl (cI, 600, .inl (nA sg))), (m6, .inl (cI, 4920, .inl (nA mb9))), (m7, .inl (cZ, 492, .inl (zA ms))), (m8, .inl (cZ, 492, .inl (zA ns9))), (m9, .inl (cI, 600, .inl (nA cd))), (mA, .inl (cI, 600, .inl (nA nc9))), (mB, .inl (cI, 61, .inl (nA nx))), (mC, .inl (cI, 61, .inl (nA nn9))), (mD, .inl (cZ, 41, .inl (zA he)))] H := hP
      have hD : va_D A [(mo, .inr (6, [.int 0, .ref m1, .int (nI n), .int (nI po9), .int (tI tq), .int (nI ec), .ref m6, .ref m7, .ref m8, .ref m9, .ref mA, .int (nI w), .int (nI nw9), .ref mB, .ref mC, .ref mD, .int (nI kf), .ref mE, .ref mF])), (m1, .inl (cI, 600, .inl (nA sg))), (m6, .inl (cI, 4920, .inl (nA mb9))), (m7, .inl (cZ, 492, .inl (zA ms))), (m8, .inl (cZ, 492, .inl (zA ns9))), (m9, .inl (cI, 600, .inl (nA cd))), (mA, .inl (cI, 600, .inl (nA nc9))), (mB, .inl (cI, 61, .inl (nA nx))), (mC, .inl (cI, 61, .inl (nA nn9))), (mD, .inl (cZ, 41, .inl (zA he)))] := hD
      obtain ⟨cnt, ⟨bn2, sh2, us2, ne2, a1, a2, a3, a4, rg2⟩, rfl, hall, hok, hRR, hfr, hb9⟩ := hp75
      simp only at hall hok hRR hfr hb9
      have hok2 := id hok
      obtain ⟨hpo, htr, -, -, hrg2, -, -⟩ := hok2
      have hfr2 : ∀ j, j < 4428 → mb9 j = mb j := fun j hj => by rw [hfr j hj, h1b]; unfold gm_cl; rw [if_neg (by omega)]
      refine lv_istore_n (lv' := [(1, .int (nI cnt)), (0, .ref mo)]) hx hb d_Mo_read_78 rfl hl (by decide) rfl (fun ls hl => ?_)
      refine lv_aload_n hx hb d_Mo_read_79 rfl (lv_at hl 1 rfl) ?_
      refine ga_get S hK hP 0 rfl f_Mo_54 rfl d_Mo_read_80 ?_
      refine lv_if_ge (tgt := 103) hx hb d_Mo_read_83 (by decide) (fun c83 => ?_) (fun c83 => ?_)
      · have hz83 := (tI_ge (fun t q => by have := htr t q; omega)).1 c83
        obtain ⟨tz, rfl⟩ := Option.ne_none_iff_exists'.mp hz83
        refine lv_aload_n hx hb d_Mo_read_103 rfl (lv_at hl 1 rfl) ?_
        refine lv_iconst (v := 0) hx hb d_Mo_read_104 (by decide) ?_
        refine ga_put (ws' := [(mo, .inr (6, [.int 0, .ref m1, .int 0, .int (nI po9), .int (tI (some tz)), .int (nI ec), .ref m6, .ref m7, .ref m8, .ref m9, .ref mA, .int (nI w), .int (nI nw9), .ref mB, .ref mC, .ref mD, .int (nI kf), .ref mE, .ref mF])), (m1, .inl (cI, 600, .inl (nA sg))), (m6, .inl (cI, 4920, .inl (nA mb9))), (m7, .inl (cZ, 492, .inl (zA ms))), (m8, .inl (cZ, 492, .inl (zA ns9))), (m9, .inl (cI, 600, .inl (nA cd))), (mA, .inl (cI, 600, .inl (nA nc9))), (mB, .inl (cI, 61, .inl (nA nx))), (mC, .inl (cI, 61, .inl (nA nn9))), (mD, .inl (cZ, 41, .inl (zA he)))]) S hK hP hD hS 0 rfl p_Mo_44 rfl rfl (Nat.le_of_ble_eq_true rfl) rfl d_Mo_read_105 (fun H locs hP hD hS => ?_)
        refine lv_aload_n hx hb d_Mo_read_108 rfl (lv_at hl 1 rfl) ?_
        refine ga_get S hK hP 0 rfl f_Mo_54 rfl d_Mo_read_109 ?_
        refine lv_if_lt (tgt := 122) hx hb d_Mo_read_112 (by decide) (fun c112 => ?_) (fun c112 => ?_)
        · exact absurd c112 (nI_pos (by have := htr _ rfl; omega))
        · refine lv_iconst (v := (-1)) hx hb d_Mo_read_115 (by decide) ?_
          refine lv_aload_n hx hb d_Mo_read_116 rfl (lv_at hl 1 rfl) ?_
          refine ga_get S hK hP 0 rfl f_Mo_54 rfl d_Mo_read_117 ?_
          refine lv_isub hx hb d_Mo_read_120 ?_
          refine lv_topi (fun v1 ev1 => ?_)
          exact ga_wi ((po9, some tz, ec, mb9, ms, ns9, cd, nc9, w, nw9, nx, nn9, he) : Nat × Option Nat × Nat × (Nat → Nat) × (Nat → Bool) × (Nat → Bool) × (Nat → Nat) × (Nat → Nat) × Nat × Nat × (Nat → Nat) × (Nat → Nat) × (Nat → Bool)) S hrt hlk hP hD hS ⟨cnt, po9, some tz, bn2, sh2, us2, ne2, a1, a2, a3, a4, rg2, hall, Or.inl ⟨tz, rfl, ev1, rfl, rfl, rfl, gm_S_keep hSS hec hfr2 hb9⟩⟩ d_Mo_read_121
      · have hz83 := (tI_ge (fun t q => by have := htr t q; omega)).2 c83
        subst hz83
        refine lv_aload_n hx hb d_Mo_read_86 rfl (lv_at hl 1 rfl) ?_
        refine ga_get S hK hP 0 rfl f_Mo_91 rfl d_Mo_read_87 ?_
        refine lv_bipush (v := 8) hx hb d_Mo_read_90 (by decide) ?_
        refine lv_icmp_ne (tgt := 103) hx hb d_Mo_read_92 (by decide) (fun c92 => ?_) (fun c92 => ?_)
        · have c92 : ¬ (ec = 8) := fun q => c92 ((nI_eq (a := ec) (b := 8) (by omega) (by omega)).mpr q)
          refine lv_aload_n hx hb d_Mo_read_103 rfl (lv_at hl 1 rfl) ?_
          refine lv_iconst (v := 0) hx hb d_Mo_read_104 (by decide) ?_
          refine ga_put (ws' := [(mo, .inr (6, [.int 0, .ref m1, .int 0, .int (nI po9), .int (tI none), .int (nI ec), .ref m6, .ref m7, .ref m8, .ref m9, .ref mA, .int (nI w), .int (nI nw9), .ref mB, .ref mC, .ref mD, .int (nI kf), .ref mE, .ref mF])), (m1, .inl (cI, 600, .inl (nA sg))), (m6, .inl (cI, 4920, .inl (nA mb9))), (m7, .inl (cZ, 492, .inl (zA ms))), (m8, .inl (cZ, 492, .inl (zA ns9))), (m9, .inl (cI, 600, .inl (nA cd))), (mA, .inl (cI, 600, .inl (nA nc9))), (mB, .inl (cI, 61, .inl (nA nx))), (mC, .inl (cI, 61, .inl (nA nn9))), (mD, .inl (cZ, 41, .inl (zA he)))]) S hK hP hD hS 0 rfl p_Mo_44 rfl rfl (Nat.le_of_ble_eq_true rfl) rfl d_Mo_read_105 (fun H locs hP hD hS => ?_)
          refine lv_aload_n hx hb d_Mo_read_108 rfl (lv_at hl 1 rfl) ?_
          refine ga_get S hK hP 0 rfl f_Mo_54 rfl d_Mo_read_109 ?_
          refine lv_if_lt (tgt := 122) hx hb d_Mo_read_112 (by decide) (fun c112 => ?_) (fun c112 => ?_)
          · refine lv_iconst (v := 0) hx hb d_Mo_read_122 (by decide) ?_
            refine lv_istore_n (lv' := [(2, .int 0), (1, .int (nI cnt)), (0, .ref mo)]) hx hb d_Mo_read_123 rfl hl (by decide) rfl (fun ls hl => ?_)
            refine ga_loop (α := Nat × (Nat → Nat) × (Nat → Bool)) (fun x => match x with | (i3, mb3, ms3) => 492 - i3) (fun x ls H locs => match x with | (i3, mb3, ms3) => lv_has ls 3 [(2, .int (nI i3)), (1, .int (nI cnt)), (0, .ref mo)] ∧ va_P D vwCl [(mo, .inr (6, [.int 0, .ref m1, .int 0, .int (nI po9), .int (tI none), .int (nI ec), .ref m6, .ref m7, .ref m8, .ref m9, .ref mA, .int (nI w), .int (nI nw9), .ref mB, .ref mC, .ref mD, .int (nI kf), .ref mE, .ref mF])), (m1, .inl (cI, 600, .inl (nA sg))), (m6, .inl (cI, 4920, .inl (nA mb3))), (m7, .inl (cZ, 492, .inl (zA ms3))), (m8, .inl (cZ, 492, .inl (zA ns9))), (m9, .inl (cI, 600, .inl (nA cd))), (mA, .inl (cI, 600, .inl (nA nc9))), (mB, .inl (cI, 61, .inl (nA nx))), (mC, .inl (cI, 61, .inl (nA nn9))), (mD, .inl (cZ, 41, .inl (zA he)))] H ∧ va_D A [(mo, .inr (6, [.int 0, .ref m1, .int 0, .int (nI po9), .int (tI none), .int (nI ec), .ref m6, .ref m7, .ref m8, .ref m9, .ref mA, .int (nI w), .int (nI nw9), .ref mB, .ref mC, .ref mD, .int (nI kf), .ref mE, .ref mF])), (m1, .inl (cI, 600, .inl (nA sg))), (m6, .inl (cI, 4920, .inl (nA mb3))), (m7, .inl (cZ, 492, .inl (zA ms3))), (m8, .inl (cZ, 492, .inl (zA ns9))), (m9, .inl (cI, 600, .inl (nA cd))), (mA, .inl (cI, 600, .inl (nA nc9))), (mB, .inl (cI, 61, .inl (nA nx))), (mC, .inl (cI, 61, .inl (nA nn9))), (mD, .inl (cZ, 41, .inl (zA he)))] ∧ va_S A s.heap H locs ∧ i3 ≤ 492 ∧ mb3 = gm_cp mb9 ec i3 ∧ ms3 = gp_cc ms ns9 i3) ?_ (0, mb9, ms) ⟨lv_sub hl [0, 1, 2] rfl, hP, hD, hS, ⟨by decide, (gm_cp_0 _ _).symm, (gp_cc_0 _ _).symm⟩⟩
            intro x ls H locs hI ih3
            obtain ⟨i3, mb3, ms3⟩ := x
            obtain ⟨hl, hP, hD, hS, ⟨h3a, h3b, h3c⟩⟩ := hI
            have hl : lv_has ls 3 [(2, .int (nI i3)), (1, .int (nI cnt)), (0, .ref mo)] := hl
            have hP : va_P D vwCl [(mo, .inr (6, [.int 0, .ref m1, .int 0, .int (nI po9), .int (tI none), .int (nI ec), .ref m6, .ref m7, .ref m8, .ref m9, .ref mA, .int (nI w), .int (nI nw9), .ref mB, .ref mC, .ref mD, .int (nI kf), .ref mE, .ref mF])), (m1, .inl (cI, 600, .inl (nA sg))), (m6, .inl (cI, 4920, .inl (nA mb3))), (m7, .inl (cZ, 492, .inl (zA ms3))), (m8, .inl (cZ, 492, .inl (zA ns9))), (m9, .inl (cI, 600, .inl (nA cd))), (mA, .inl (cI, 600, .inl (nA nc9))), (mB, .inl (cI, 61, .inl (nA nx))), (mC, .inl (cI, 61, .inl (nA nn9))), (mD, .inl (cZ, 41, .inl (zA he)))] H := hP
            have hD : va_D A [(mo, .inr (6, [.int 0, .ref m1, .int 0, .int (nI po9), .int (tI none), .int (nI ec), .ref m6, .ref m7, .ref m8, .ref m9, .ref mA, .int (nI w), .int (nI nw9), .ref mB, .ref mC, .ref mD, .int (nI kf), .ref mE, .ref mF])), (m1, .inl (cI, 600, .inl (nA sg))), (m6, .inl (cI, 4920, .inl (nA mb3))), (m7, .inl (cZ, 492, .inl (zA ms3))), (m8, .inl (cZ, 492, .inl (zA ns9))), (m9, .inl (cI, 600, .inl (nA cd))), (mA, .inl (cI, 600, .inl (nA nc9))), (mB, .inl (cI, 61, .inl (nA nx))), (mC, .inl (cI, 61, .inl (nA nn9))), (mD, .inl (cZ, 41, .inl (zA he)))] := hD
            have hR := hRR rfl
            have hnw9 := hR.1
            have hnn9 := hR.2.1
            refine lv_iload_n hx hb d_Mo_read_124 rfl (lv_at hl 0 rfl) ?_
            refine lv_sipush (v := 492) hx hb d_Mo_read_125 (by decide) ?_
            refine lv_icmp_ge (tgt := 194) hx hb d_Mo_read_128 (by decide) (fun c128 => ?_) (fun c128 => ?_)
            · have c128 : 492 ≤ i3 := (nI_leI (a := 492) (b := i3) (by omega) (by omega)).mp c128
              refine lv_aload_n hx hb d_Mo_read_194 rfl (lv_at hl 2 rfl) ?_
              refine lv_aload_n hx hb d_Mo_read_195 rfl (lv_at hl 2 rfl) ?_
              refine ga_get S hK hP 0 rfl f_Mo_72 rfl d_Mo_read_196 ?_
              refine ga_put (ws' := [(mo, .inr (6, [.int 0, .ref m1, .int 0, .int (nI po9), .int (tI none), .int (nI ec), .ref m6, .ref m7, .ref m8, .ref m9, .ref mA, .int (nI nw9), .int (nI nw9), .ref mB, .ref mC, .ref mD, .int (nI kf), .ref mE, .ref mF])), (m1, .inl (cI, 600, .inl (nA sg))), (m6, .inl (cI, 4920, .inl (nA mb3))), (m7, .inl (cZ, 492, .inl (zA ms3))), (m8, .inl (cZ, 492, .inl (zA ns9))), (m9, .inl (cI, 600, .inl (nA cd))), (mA, .inl (cI, 600, .inl (nA nc9))), (mB, .inl (cI, 61, .inl (nA nx))), (mC, .inl (cI, 61, .inl (nA nn9))), (mD, .inl (cZ, 41, .inl (zA he)))]) S hK hP hD hS 0 rfl p_Mo_94 rfl rfl (Nat.le_of_ble_eq_true rfl) rfl d_Mo_read_199 (fun H locs hP hD hS => ?_)
              refine lv_iconst (v := 0) hx hb d_Mo_read_202 (by decide) ?_
              refine lv_istore_n (lv' := [(2, .int 0), (1, .int (nI cnt)), (0, .ref mo)]) hx hb d_Mo_read_203 rfl hl (by decide) rfl (fun ls hl => ?_)
              refine ga_loop (α := Nat × (Nat → Nat)) (fun x => match x with | (i4, cd4) => 600 - i4) (fun x ls H locs => match x with | (i4, cd4) => lv_has ls 3 [(2, .int (nI i4)), (1, .int (nI cnt)), (0, .ref mo)] ∧ va_P D vwCl [(mo, .inr (6, [.int 0, .ref m1, .int 0, .int (nI po9), .int (tI none), .int (nI ec), .ref m6, .ref m7, .ref m8, .ref m9, .ref mA, .int (nI nw9), .int (nI nw9), .ref mB, .ref mC, .ref mD, .int (nI kf), .ref mE, .ref mF])), (m1, .inl (cI, 600, .inl (nA sg))), (m6, .inl (cI, 4920, .inl (nA mb3))), (m7, .inl (cZ, 492, .inl (zA ms3))), (m8, .inl (cZ, 492, .inl (zA ns9))), (m9, .inl (cI, 600, .inl (nA cd4))), (mA, .inl (cI, 600, .inl (nA nc9))), (mB, .inl (cI, 61, .inl (nA nx))), (mC, .inl (cI, 61, .inl (nA nn9))), (mD, .inl (cZ, 41, .inl (zA he)))] H ∧ va_D A [(mo, .inr (6, [.int 0, .ref m1, .int 0, .int (nI po9), .int (tI none), .int (nI ec), .ref m6, .ref m7, .ref m8, .ref m9, .ref mA, .int (nI nw9), .int (nI nw9), .ref mB, .ref mC, .ref mD, .int (nI kf), .ref mE, .ref mF])), (m1, .inl (cI, 600, .inl (nA sg))), (m6, .inl (cI, 4920, .inl (nA mb3))), (m7, .inl (cZ, 492, .inl (zA ms3))), (m8, .inl (cZ, 492, .inl (zA ns9))), (m9, .inl (cI, 600, .inl (nA cd4))), (mA, .inl (cI, 600, .inl (nA nc9))), (mB, .inl (cI, 61, .inl (nA nx))), (mC, .inl (cI, 61, .inl (nA nn9))), (mD, .inl (cZ, 41, .inl (zA he)))] ∧ va_S A s.heap H locs ∧ i4 ≤ 4 * nw9 ∧ cd4 = gp_cc cd nc9 i4) ?_ (0, cd) ⟨lv_sub hl [0, 1, 2] rfl, hP, hD, hS, ⟨Nat.zero_le _, (gp_cc_0 _ _).symm⟩⟩
              intro x ls H locs hI ih4
              obtain ⟨i4, cd4⟩ := x
              obtain ⟨hl, hP, hD, hS, ⟨h4a, h4b⟩⟩ := hI
              have hl : lv_has ls 3 [(2, .int (nI i4)), (1, .int (nI cnt)), (0, .ref mo)] := hl
              have hP : va_P D vwCl [(mo, .inr (6, [.int 0, .ref m1, .int 0, .int (nI po9), .int (tI none), .int (nI ec), .ref m6, .ref m7, .ref m8, .ref m9, .ref mA, .int (nI nw9), .int (nI nw9), .ref mB, .ref mC, .ref mD, .int (nI kf), .ref mE, .ref mF])), (m1, .inl (cI, 600, .inl (nA sg))), (m6, .inl (cI, 4920, .inl (nA mb3))), (m7, .inl (cZ, 492, .inl (zA ms3))), (m8, .inl (cZ, 492, .inl (zA ns9))), (m9, .inl (cI, 600, .inl (nA cd4))), (mA, .inl (cI, 600, .inl (nA nc9))), (mB, .inl (cI, 61, .inl (nA nx))), (mC, .inl (cI, 61, .inl (nA nn9))), (mD, .inl (cZ, 41, .inl (zA he)))] H := hP
              have hD : va_D A [(mo, .inr (6, [.int 0, .ref m1, .int 0, .int (nI po9), .int (tI none), .int (nI ec), .ref m6, .ref m7, .ref m8, .ref m9, .ref mA, .int (nI nw9), .int (nI nw9), .ref mB, .ref mC, .ref mD, .int (nI kf), .ref mE, .ref mF])), (m1, .inl (cI, 600, .inl (nA sg))), (m6, .inl (cI, 4920, .inl (nA mb3))), (m7, .inl (cZ, 492, .inl (zA ms3))), (m8, .inl (cZ, 492, .inl (zA ns9))), (m9, .inl (cI, 600, .inl (nA cd4))), (mA, .inl (cI, 600, .inl (nA nc9))), (mB, .inl (cI, 61, .inl (nA nx))), (mC, .inl (cI, 61, .inl (nA nn9))), (mD, .inl (cZ, 41, .inl (zA he)))] := hD
              refine lv_iload_n hx hb d_Mo_read_204 rfl (lv_at hl 0 rfl) ?_
              refine lv_iconst (v := 4) hx hb d_Mo_read_205 (by decide) ?_
              refine lv_aload_n hx hb d_Mo_read_206 rfl (lv_at hl 2 rfl) ?_
              refine ga_get S hK hP 0 rfl f_Mo_94 rfl d_Mo_read_207 ?_
              refine lv_imul hx hb d_Mo_read_210 ?_
              refine ga_top (nI (4 * nw9)) (pk_mul 4 nw9) ?_
              refine lv_icmp_ge (tgt := 232) hx hb d_Mo_read_211 (by decide) (fun c211 => ?_) (fun c211 => ?_)
              · have c211 : (4 * nw9) ≤ i4 := (nI_leI (a := (4 * nw9)) (b := i4) (by omega) (by omega)).mp c211
                refine lv_iconst (v := 0) hx hb d_Mo_read_232 (by decide) ?_
                refine lv_istore_n (lv' := [(2, .int 0), (1, .int (nI cnt)), (0, .ref mo)]) hx hb d_Mo_read_233 rfl hl (by decide) rfl (fun ls hl => ?_)
                refine ga_loop (α := Nat × (Nat → Nat)) (fun x => match x with | (i5, nx5) => 61 - i5) (fun x ls H locs => match x with | (i5, nx5) => lv_has ls 3 [(2, .int (nI i5)), (1, .int (nI cnt)), (0, .ref mo)] ∧ va_P D vwCl [(mo, .inr (6, [.int 0, .ref m1, .int 0, .int (nI po9), .int (tI none), .int (nI ec), .ref m6, .ref m7, .ref m8, .ref m9, .ref mA, .int (nI nw9), .int (nI nw9), .ref mB, .ref mC, .ref mD, .int (nI kf), .ref mE, .ref mF])), (m1, .inl (cI, 600, .inl (nA sg))), (m6, .inl (cI, 4920, .inl (nA mb3))), (m7, .inl (cZ, 492, .inl (zA ms3))), (m8, .inl (cZ, 492, .inl (zA ns9))), (m9, .inl (cI, 600, .inl (nA cd4))), (mA, .inl (cI, 600, .inl (nA nc9))), (mB, .inl (cI, 61, .inl (nA nx5))), (mC, .inl (cI, 61, .inl (nA nn9))), (mD, .inl (cZ, 41, .inl (zA he)))] H ∧ va_D A [(mo, .inr (6, [.int 0, .ref m1, .int 0, .int (nI po9), .int (tI none), .int (nI ec), .ref m6, .ref m7, .ref m8, .ref m9, .ref mA, .int (nI nw9), .int (nI nw9), .ref mB, .ref mC, .ref mD, .int (nI kf), .ref mE, .ref mF])), (m1, .inl (cI, 600, .inl (nA sg))), (m6, .inl (cI, 4920, .inl (nA mb3))), (m7, .inl (cZ, 492, .inl (zA ms3))), (m8, .inl (cZ, 492, .inl (zA ns9))), (m9, .inl (cI, 600, .inl (nA cd4))), (mA, .inl (cI, 600, .inl (nA nc9))), (mB, .inl (cI, 61, .inl (nA nx5))), (mC, .inl (cI, 61, .inl (nA nn9))), (mD, .inl (cZ, 41, .inl (zA he)))] ∧ va_S A s.heap H locs ∧ i5 ≤ 61 ∧ nx5 = gp_cc nx nn9 i5) ?_ (0, nx) ⟨lv_sub hl [0, 1, 2] rfl, hP, hD, hS, ⟨by decide, (gp_cc_0 _ _).symm⟩⟩
                intro x ls H locs hI ih5
                obtain ⟨i5, nx5⟩ := x
                obtain ⟨hl, hP, hD, hS, ⟨h5a, h5b⟩⟩ := hI
                have hl : lv_has ls 3 [(2, .int (nI i5)), (1, .int (nI cnt)), (0, .ref mo)] := hl
                have hP : va_P D vwCl [(mo, .inr (6, [.int 0, .ref m1, .int 0, .int (nI po9), .int (tI none), .int (nI ec), .ref m6, .ref m7, .ref m8, .ref m9, .ref mA, .int (nI nw9), .int (nI nw9), .ref mB, .ref mC, .ref mD, .int (nI kf), .ref mE, .ref mF])), (m1, .inl (cI, 600, .inl (nA sg))), (m6, .inl (cI, 4920, .inl (nA mb3))), (m7, .inl (cZ, 492, .inl (zA ms3))), (m8, .inl (cZ, 492, .inl (zA ns9))), (m9, .inl (cI, 600, .inl (nA cd4))), (mA, .inl (cI, 600, .inl (nA nc9))), (mB, .inl (cI, 61, .inl (nA nx5))), (mC, .inl (cI, 61, .inl (nA nn9))), (mD, .inl (cZ, 41, .inl (zA he)))] H := hP
                have hD : va_D A [(mo, .inr (6, [.int 0, .ref m1, .int 0, .int (nI po9), .int (tI none), .int (nI ec), .ref m6, .ref m7, .ref m8, .ref m9, .ref mA, .int (nI nw9), .int (nI nw9), .ref mB, .ref mC, .ref mD, .int (nI kf), .ref mE, .ref mF])), (m1, .inl (cI, 600, .inl (nA sg))), (m6, .inl (cI, 4920, .inl (nA mb3))), (m7, .inl (cZ, 492, .inl (zA ms3))), (m8, .inl (cZ, 492, .inl (zA ns9))), (m9, .inl (cI, 600, .inl (nA cd4))), (mA, .inl (cI, 600, .inl (nA nc9))), (mB, .inl (cI, 61, .inl (nA nx5))), (mC, .inl (cI, 61, .inl (nA nn9))), (mD, .inl (cZ, 41, .inl (zA he)))] := hD
                refine lv_iload_n hx hb d_Mo_read_234 rfl (lv_at hl 0 rfl) ?_
                refine lv_bipush (v := 61) hx hb d_Mo_read_235 (by decide) ?_
                refine lv_icmp_ge (tgt := 258) hx hb d_Mo_read_237 (by decide) (fun c237 => ?_) (fun c237 => ?_)
                · have c237 : 61 ≤ i5 := (nI_leI (a := 61) (b := i5) (by omega) (by omega)).mp c237
                  refine lv_iconst (v := 0) hx hb d_Mo_read_258 (by decide) ?_
                  refine lv_istore_n (lv' := [(2, .int 0), (1, .int (nI cnt)), (0, .ref mo)]) hx hb d_Mo_read_259 rfl hl (by decide) rfl (fun ls hl => ?_)
                  refine ga_loop (α := Nat × (Nat → Bool)) (fun x => match x with | (i6, he6) => 41 - i6) (fun x ls H locs => match x with | (i6, he6) => lv_has ls 3 [(2, .int (nI i6)), (1, .int (nI cnt)), (0, .ref mo)] ∧ va_P D vwCl [(mo, .inr (6, [.int 0, .ref m1, .int 0, .int (nI po9), .int (tI none), .int (nI ec), .ref m6, .ref m7, .ref m8, .ref m9, .ref mA, .int (nI nw9), .int (nI nw9), .ref mB, .ref mC, .ref mD, .int (nI kf), .ref mE, .ref mF])), (m1, .inl (cI, 600, .inl (nA sg))), (m6, .inl (cI, 4920, .inl (nA mb3))), (m7, .inl (cZ, 492, .inl (zA ms3))), (m8, .inl (cZ, 492, .inl (zA ns9))), (m9, .inl (cI, 600, .inl (nA cd4))), (mA, .inl (cI, 600, .inl (nA nc9))), (mB, .inl (cI, 61, .inl (nA nx5))), (mC, .inl (cI, 61, .inl (nA nn9))), (mD, .inl (cZ, 41, .inl (zA he6)))] H ∧ va_D A [(mo, .inr (6, [.int 0, .ref m1, .int 0, .int (nI po9), .int (tI none), .int (nI ec), .ref m6, .ref m7, .ref m8, .ref m9, .ref mA, .int (nI nw9), .int (nI nw9), .ref mB, .ref mC, .ref mD, .int (nI kf), .ref mE, .ref mF])), (m1, .inl (cI, 600, .inl (nA sg))), (m6, .inl (cI, 4920, .inl (nA mb3))), (m7, .inl (cZ, 492, .inl (zA ms3))), (m8, .inl (cZ, 492, .inl (zA ns9))), (m9, .inl (cI, 600, .inl (nA cd4))), (mA, .inl (cI, 600, .inl (nA nc9))), (mB, .inl (cI, 61, .inl (nA nx5))), (mC, .inl (cI, 61, .inl (nA nn9))), (mD, .inl (cZ, 41, .inl (zA he6)))] ∧ va_S A s.heap H locs ∧ i6 ≤ 41 ∧ he6 = gp_fl he false i6) ?_ (0, he) ⟨lv_sub hl [0, 1, 2] rfl, hP, hD, hS, ⟨by decide, (gp_fl_0 _ _).symm⟩⟩
                  intro x ls H locs hI ih6
                  obtain ⟨i6, he6⟩ := x
                  obtain ⟨hl, hP, hD, hS, ⟨h6a, h6b⟩⟩ := hI
                  have hl : lv_has ls 3 [(2, .int (nI i6)), (1, .int (nI cnt)), (0, .ref mo)] := hl
                  have hP : va_P D vwCl [(mo, .inr (6, [.int 0, .ref m1, .int 0, .int (nI po9), .int (tI none), .int (nI ec), .ref m6, .ref m7, .ref m8, .ref m9, .ref mA, .int (nI nw9), .int (nI nw9), .ref mB, .ref mC, .ref mD, .int (nI kf), .ref mE, .ref mF])), (m1, .inl (cI, 600, .inl (nA sg))), (m6, .inl (cI, 4920, .inl (nA mb3))), (m7, .inl (cZ, 492, .inl (zA ms3))), (m8, .inl (cZ, 492, .inl (zA ns9))), (m9, .inl (cI, 600, .inl (nA cd4))), (mA, .inl (cI, 600, .inl (nA nc9))), (mB, .inl (cI, 61, .inl (nA nx5))), (mC, .inl (cI, 61, .inl (nA nn9))), (mD, .inl (cZ, 41, .inl (zA he6)))] H := hP
                  have hD : va_D A [(mo, .inr (6, [.int 0, .ref m1, .int 0, .int (nI po9), .int (tI none), .int (nI ec), .ref m6, .ref m7, .ref m8, .ref m9, .ref mA, .int (nI nw9), .int (nI nw9), .ref mB, .ref mC, .ref mD, .int (nI kf), .ref mE, .ref mF])), (m1, .inl (cI, 600, .inl (nA sg))), (m6, .inl (cI, 4920, .inl (nA mb3))), (m7, .inl (cZ, 492, .inl (zA ms3))), (m8, .inl (cZ, 492, .inl (zA ns9))), (m9, .inl (cI, 600, .inl (nA cd4))), (mA, .inl (cI, 600, .inl (nA nc9))), (mB, .inl (cI, 61, .inl (nA nx5))), (mC, .inl (cI, 61, .inl (nA nn9))), (mD, .inl (cZ, 41, .inl (zA he6)))] := hD
                  refine lv_iload_n hx hb d_Mo_read_260 rfl (lv_at hl 0 rfl) ?_
                  refine lv_bipush (v := 41) hx hb d_Mo_read_261 (by decide) ?_
                  refine lv_icmp_ge (tgt := 279) hx hb d_Mo_read_263 (by decide) (fun c263 => ?_) (fun c263 => ?_)
                  · have c263 : 41 ≤ i6 := (nI_leI (a := 41) (b := i6) (by omega) (by omega)).mp c263
                    obtain ⟨hP, hD⟩ := ga_setf (q := 7) (g := nA (nn9)) (ws' := [(mo, .inr (6, [.int 0, .ref m1, .int 0, .int (nI po9), .int (tI none), .int (nI ec), .ref m6, .ref m7, .ref m8, .ref m9, .ref mA, .int (nI nw9), .int (nI nw9), .ref mB, .ref mC, .ref mD, .int (nI kf), .ref mE, .ref mF])), (m1, .inl (cI, 600, .inl (nA sg))), (m6, .inl (cI, 4920, .inl (nA mb3))), (m7, .inl (cZ, 492, .inl (zA ms3))), (m8, .inl (cZ, 492, .inl (zA ns9))), (m9, .inl (cI, 600, .inl (nA cd4))), (mA, .inl (cI, 600, .inl (nA nc9))), (mB, .inl (cI, 61, .inl (nA nn9))), (mC, .inl (cI, 61, .inl (nA nn9))), (mD, .inl (cZ, 41, .inl (zA he6)))]) hP hD rfl (fun j hj => by simp only [nA, h5b, gp_cc]; rw [if_pos (by omega)]) rfl
                    obtain ⟨hP, hD⟩ := ga_setf (q := 9) (g := zA (fun _ => false)) (ws' := [(mo, .inr (6, [.int 0, .ref m1, .int 0, .int (nI po9), .int (tI none), .int (nI ec), .ref m6, .ref m7, .ref m8, .ref m9, .ref mA, .int (nI nw9), .int (nI nw9), .ref mB, .ref mC, .ref mD, .int (nI kf), .ref mE, .ref mF])), (m1, .inl (cI, 600, .inl (nA sg))), (m6, .inl (cI, 4920, .inl (nA mb3))), (m7, .inl (cZ, 492, .inl (zA ms3))), (m8, .inl (cZ, 492, .inl (zA ns9))), (m9, .inl (cI, 600, .inl (nA cd4))), (mA, .inl (cI, 600, .inl (nA nc9))), (mB, .inl (cI, 61, .inl (nA nn9))), (mC, .inl (cI, 61, .inl (nA nn9))), (mD, .inl (cZ, 41, .inl (zA (fun _ => false))))]) hP hD rfl (fun j hj => by simp only [zA, h6b, gp_fl]; rw [if_pos (by omega)]) rfl
                    refine lv_aload_n hx hb d_Mo_read_279 rfl (lv_at hl 2 rfl) ?_
                    refine lv_dup hx hb d_Mo_read_280 rfl ?_
                    refine ga_get S hK hP 0 rfl f_Mo_91 rfl d_Mo_read_281 ?_
                    refine lv_iconst (v := 1) hx hb d_Mo_read_284 (by decide) ?_
                    refine lv_iadd hx hb d_Mo_read_285 ?_
                    refine ga_top (nI (ec + 1)) (nI_add ec 1) ?_
                    refine ga_put (ws' := [(mo, .inr (6, [.int 0, .ref m1, .int 0, .int (nI po9), .int (tI none), .int (nI (ec + 1)), .ref m6, .ref m7, .ref m8, .ref m9, .ref mA, .int (nI nw9), .int (nI nw9), .ref mB, .ref mC, .ref mD, .int (nI kf), .ref mE, .ref mF])), (m1, .inl (cI, 600, .inl (nA sg))), (m6, .inl (cI, 4920, .inl (nA mb3))), (m7, .inl (cZ, 492, .inl (zA ms3))), (m8, .inl (cZ, 492, .inl (zA ns9))), (m9, .inl (cI, 600, .inl (nA cd4))), (mA, .inl (cI, 600, .inl (nA nc9))), (mB, .inl (cI, 61, .inl (nA nn9))), (mC, .inl (cI, 61, .inl (nA nn9))), (mD, .inl (cZ, 41, .inl (zA (fun _ => false))))]) S hK hP hD hS 0 rfl p_Mo_91 rfl rfl (Nat.le_of_ble_eq_true rfl) rfl d_Mo_read_286 (fun H locs hP hD hS => ?_)
                    refine lv_iload_n hx hb d_Mo_read_289 rfl (lv_at hl 1 rfl) ?_
                    have e3 : i3 = 492 := by omega
                    have e4 : i4 = 4 * nw9 := by omega
                    subst e3
                    subst e4
                    exact ga_wi ((po9, none, ec + 1, mb3, ms3, ns9, cd4, nc9, nw9, nw9, nn9, nn9, fun _ => false) : Nat × Option Nat × Nat × (Nat → Nat) × (Nat → Bool) × (Nat → Bool) × (Nat → Nat) × (Nat → Nat) × Nat × Nat × (Nat → Nat) × (Nat → Nat) × (Nat → Bool)) S hrt hlk hP hD hS ⟨cnt, po9, none, bn2, sh2, us2, ne2, a1, a2, a3, a4, rg2, hall, Or.inr (Or.inr ⟨rfl, by omega, rfl, rfl, hnn9, rfl, by rw [h3b, h3c, h4b]; exact gm_S_new hSS (by omega) hfr2 hb9 hR⟩)⟩ d_Mo_read_290
                  · have c263 : ¬ (41 ≤ i6) := fun q => c263 ((nI_leI (a := 41) (b := i6) (by omega) (by omega)).mpr q)
                    refine lv_aload_n hx hb d_Mo_read_266 rfl (lv_at hl 2 rfl) ?_
                    refine ga_get S hK hP 0 rfl f_Mo_35 rfl d_Mo_read_267 ?_
                    refine lv_iload_n hx hb d_Mo_read_270 rfl (lv_at hl 0 rfl) ?_
                    refine lv_iconst (v := 0) hx hb d_Mo_read_271 (by decide) ?_
                    refine ga_zst (ws' := [(mo, .inr (6, [.int 0, .ref m1, .int 0, .int (nI po9), .int (tI none), .int (nI ec), .ref m6, .ref m7, .ref m8, .ref m9, .ref mA, .int (nI nw9), .int (nI nw9), .ref mB, .ref mC, .ref mD, .int (nI kf), .ref mE, .ref mF])), (m1, .inl (cI, 600, .inl (nA sg))), (m6, .inl (cI, 4920, .inl (nA mb3))), (m7, .inl (cZ, 492, .inl (zA ms3))), (m8, .inl (cZ, 492, .inl (zA ns9))), (m9, .inl (cI, 600, .inl (nA cd4))), (mA, .inl (cI, 600, .inl (nA nc9))), (mB, .inl (cI, 61, .inl (nA nx5))), (mC, .inl (cI, 61, .inl (nA nn9))), (mD, .inl (cZ, 41, .inl (zA (va_up he6 i6 false))))]) S hK hP hD hS 9 1 rfl rfl i6 false (by omega) (by decide) rfl d_Mo_read_272 (fun H locs hP hD hS => ?_)
                    refine lv_iinc (v := nI (i6 + 1)) (lv' := [(2, .int (nI (i6 + 1))), (1, .int (nI cnt)), (0, .ref mo)]) hx hb d_Mo_read_273 hl (k := 0) rfl (ga_inc i6) (by decide) rfl (fun ls hl => ?_)
                    refine lv_goto (tgt := 260) hx hb d_Mo_read_276 (by decide) ?_
                    exact ih6 (i6 + 1, va_up he6 i6 false) _ _ _ (by show (41 - (i6 + 1)) < (41 - i6); omega) ⟨lv_sub hl [0, 1, 2] rfl, hP, hD, hS, ⟨by omega, by rw [h6b, gp_fl_up]⟩⟩
                · have c237 : ¬ (61 ≤ i5) := fun q => c237 ((nI_leI (a := 61) (b := i5) (by omega) (by omega)).mpr q)
                  refine lv_aload_n hx hb d_Mo_read_240 rfl (lv_at hl 2 rfl) ?_
                  refine ga_get S hK hP 0 rfl f_Mo_29 rfl d_Mo_read_241 ?_
                  refine lv_iload_n hx hb d_Mo_read_244 rfl (lv_at hl 0 rfl) ?_
                  refine lv_aload_n hx hb d_Mo_read_245 rfl (lv_at hl 2 rfl) ?_
                  refine ga_get S hK hP 0 rfl f_Mo_32 rfl d_Mo_read_246 ?_
                  refine lv_iload_n hx hb d_Mo_read_249 rfl (lv_at hl 0 rfl) ?_
                  refine ga_ild S hK hP 8 0 rfl rfl i5 (by omega) (by decide) d_Mo_read_250 ?_
                  refine ga_ist (ws' := [(mo, .inr (6, [.int 0, .ref m1, .int 0, .int (nI po9), .int (tI none), .int (nI ec), .ref m6, .ref m7, .ref m8, .ref m9, .ref mA, .int (nI nw9), .int (nI nw9), .ref mB, .ref mC, .ref mD, .int (nI kf), .ref mE, .ref mF])), (m1, .inl (cI, 600, .inl (nA sg))), (m6, .inl (cI, 4920, .inl (nA mb3))), (m7, .inl (cZ, 492, .inl (zA ms3))), (m8, .inl (cZ, 492, .inl (zA ns9))), (m9, .inl (cI, 600, .inl (nA cd4))), (mA, .inl (cI, 600, .inl (nA nc9))), (mB, .inl (cI, 61, .inl (nA (va_up nx5 i5 (nn9 i5))))), (mC, .inl (cI, 61, .inl (nA nn9))), (mD, .inl (cZ, 41, .inl (zA he)))]) S hK hP hD hS 7 0 rfl rfl i5 (nn9 i5) (by omega) (by decide) rfl d_Mo_read_251 (fun H locs hP hD hS => ?_)
                  refine lv_iinc (v := nI (i5 + 1)) (lv' := [(2, .int (nI (i5 + 1))), (1, .int (nI cnt)), (0, .ref mo)]) hx hb d_Mo_read_252 hl (k := 0) rfl (ga_inc i5) (by decide) rfl (fun ls hl => ?_)
                  refine lv_goto (tgt := 234) hx hb d_Mo_read_255 (by decide) ?_
                  exact ih5 (i5 + 1, va_up nx5 i5 (nn9 i5)) _ _ _ (by show (61 - (i5 + 1)) < (61 - i5); omega) ⟨lv_sub hl [0, 1, 2] rfl, hP, hD, hS, ⟨by omega, by rw [h5b, gp_cc_up]⟩⟩
              · have c211 : ¬ ((4 * nw9) ≤ i4) := fun q => c211 ((nI_leI (a := (4 * nw9)) (b := i4) (by omega) (by omega)).mpr q)
                refine lv_aload_n hx hb d_Mo_read_214 rfl (lv_at hl 2 rfl) ?_
                refine ga_get S hK hP 0 rfl f_Mo_23 rfl d_Mo_read_215 ?_
                refine lv_iload_n hx hb d_Mo_read_218 rfl (lv_at hl 0 rfl) ?_
                refine lv_aload_n hx hb d_Mo_read_219 rfl (lv_at hl 2 rfl) ?_
                refine ga_get S hK hP 0 rfl f_Mo_26 rfl d_Mo_read_220 ?_
                refine lv_iload_n hx hb d_Mo_read_223 rfl (lv_at hl 0 rfl) ?_
                refine ga_ild S hK hP 6 0 rfl rfl i4 (by omega) (by decide) d_Mo_read_224 ?_
                refine ga_ist (ws' := [(mo, .inr (6, [.int 0, .ref m1, .int 0, .int (nI po9), .int (tI none), .int (nI ec), .ref m6, .ref m7, .ref m8, .ref m9, .ref mA, .int (nI nw9), .int (nI nw9), .ref mB, .ref mC, .ref mD, .int (nI kf), .ref mE, .ref mF])), (m1, .inl (cI, 600, .inl (nA sg))), (m6, .inl (cI, 4920, .inl (nA mb3))), (m7, .inl (cZ, 492, .inl (zA ms3))), (m8, .inl (cZ, 492, .inl (zA ns9))), (m9, .inl (cI, 600, .inl (nA (va_up cd4 i4 (nc9 i4))))), (mA, .inl (cI, 600, .inl (nA nc9))), (mB, .inl (cI, 61, .inl (nA nx))), (mC, .inl (cI, 61, .inl (nA nn9))), (mD, .inl (cZ, 41, .inl (zA he)))]) S hK hP hD hS 5 0 rfl rfl i4 (nc9 i4) (by omega) (by decide) rfl d_Mo_read_225 (fun H locs hP hD hS => ?_)
                refine lv_iinc (v := nI (i4 + 1)) (lv' := [(2, .int (nI (i4 + 1))), (1, .int (nI cnt)), (0, .ref mo)]) hx hb d_Mo_read_226 hl (k := 0) rfl (ga_inc i4) (by decide) rfl (fun ls hl => ?_)
                refine lv_goto (tgt := 204) hx hb d_Mo_read_229 (by decide) ?_
                exact ih4 (i4 + 1, va_up cd4 i4 (nc9 i4)) _ _ _ (by show (600 - (i4 + 1)) < (600 - i4); omega) ⟨lv_sub hl [0, 1, 2] rfl, hP, hD, hS, ⟨by omega, by rw [h4b, gp_cc_up]⟩⟩
            · have c128 : ¬ (492 ≤ i3) := fun q => c128 ((nI_leI (a := 492) (b := i3) (by omega) (by omega)).mpr q)
              refine lv_aload_n hx hb d_Mo_read_131 rfl (lv_at hl 2 rfl) ?_
              refine ga_get S hK hP 0 rfl f_Mo_13 rfl d_Mo_read_132 ?_
              refine lv_sipush (v := 492) hx hb d_Mo_read_135 (by decide) ?_
              refine lv_aload_n hx hb d_Mo_read_138 rfl (lv_at hl 2 rfl) ?_
              refine ga_get S hK hP 0 rfl f_Mo_91 rfl d_Mo_read_139 ?_
              refine lv_imul hx hb d_Mo_read_142 ?_
              refine ga_top (nI (492 * ec)) (pk_mul 492 ec) ?_
              refine lv_iload_n hx hb d_Mo_read_143 rfl (lv_at hl 0 rfl) ?_
              refine lv_iadd hx hb d_Mo_read_144 ?_
              refine ga_top (nI ((492 * ec) + i3)) (nI_add (492 * ec) i3) ?_
              refine lv_aload_n hx hb d_Mo_read_145 rfl (lv_at hl 2 rfl) ?_
              refine ga_get S hK hP 0 rfl f_Mo_13 rfl d_Mo_read_146 ?_
              refine lv_sipush (v := 4428) hx hb d_Mo_read_149 (by decide) ?_
              refine lv_iload_n hx hb d_Mo_read_152 rfl (lv_at hl 0 rfl) ?_
              refine lv_iadd hx hb d_Mo_read_153 ?_
              refine ga_top (nI (4428 + i3)) (nI_add 4428 i3) ?_
              refine ga_ild S hK hP 2 0 rfl rfl (4428 + i3) (by omega) (by decide) d_Mo_read_154 ?_
              refine ga_ist (ws' := [(mo, .inr (6, [.int 0, .ref m1, .int 0, .int (nI po9), .int (tI none), .int (nI ec), .ref m6, .ref m7, .ref m8, .ref m9, .ref mA, .int (nI w), .int (nI nw9), .ref mB, .ref mC, .ref mD, .int (nI kf), .ref mE, .ref mF])), (m1, .inl (cI, 600, .inl (nA sg))), (m6, .inl (cI, 4920, .inl (nA (va_up mb3 ((492 * ec) + i3) (mb3 (4428 + i3)))))), (m7, .inl (cZ, 492, .inl (zA ms3))), (m8, .inl (cZ, 492, .inl (zA ns9))), (m9, .inl (cI, 600, .inl (nA cd))), (mA, .inl (cI, 600, .inl (nA nc9))), (mB, .inl (cI, 61, .inl (nA nx))), (mC, .inl (cI, 61, .inl (nA nn9))), (mD, .inl (cZ, 41, .inl (zA he)))]) S hK hP hD hS 2 0 rfl rfl ((492 * ec) + i3) (mb3 (4428 + i3)) (by omega) (by decide) rfl d_Mo_read_155 (fun H locs hP hD hS => ?_)
              refine lv_aload_n hx hb d_Mo_read_156 rfl (lv_at hl 2 rfl) ?_
              refine ga_get S hK hP 0 rfl f_Mo_13 rfl d_Mo_read_157 ?_
              refine lv_sipush (v := 3936) hx hb d_Mo_read_160 (by decide) ?_
              refine lv_iload_n hx hb d_Mo_read_163 rfl (lv_at hl 0 rfl) ?_
              refine lv_iadd hx hb d_Mo_read_164 ?_
              refine ga_top (nI (3936 + i3)) (nI_add 3936 i3) ?_
              refine lv_aload_n hx hb d_Mo_read_165 rfl (lv_at hl 2 rfl) ?_
              refine ga_get S hK hP 0 rfl f_Mo_13 rfl d_Mo_read_166 ?_
              refine lv_sipush (v := 4428) hx hb d_Mo_read_169 (by decide) ?_
              refine lv_iload_n hx hb d_Mo_read_172 rfl (lv_at hl 0 rfl) ?_
              refine lv_iadd hx hb d_Mo_read_173 ?_
              refine ga_top (nI (4428 + i3)) (nI_add 4428 i3) ?_
              refine ga_ild S hK hP 2 0 rfl rfl (4428 + i3) (by omega) (by decide) d_Mo_read_174 ?_
              refine ga_ist (ws' := [(mo, .inr (6, [.int 0, .ref m1, .int 0, .int (nI po9), .int (tI none), .int (nI ec), .ref m6, .ref m7, .ref m8, .ref m9, .ref mA, .int (nI w), .int (nI nw9), .ref mB, .ref mC, .ref mD, .int (nI kf), .ref mE, .ref mF])), (m1, .inl (cI, 600, .inl (nA sg))), (m6, .inl (cI, 4920, .inl (nA (va_up (va_up mb3 ((492 * ec) + i3) (mb3 (4428 + i3))) (3936 + i3) ((va_up mb3 ((492 * ec) + i3) (mb3 (4428 + i3))) (4428 + i3)))))), (m7, .inl (cZ, 492, .inl (zA ms3))), (m8, .inl (cZ, 492, .inl (zA ns9))), (m9, .inl (cI, 600, .inl (nA cd))), (mA, .inl (cI, 600, .inl (nA nc9))), (mB, .inl (cI, 61, .inl (nA nx))), (mC, .inl (cI, 61, .inl (nA nn9))), (mD, .inl (cZ, 41, .inl (zA he)))]) S hK hP hD hS 2 0 rfl rfl (3936 + i3) ((va_up mb3 ((492 * ec) + i3) (mb3 (4428 + i3))) (4428 + i3)) (by omega) (by decide) rfl d_Mo_read_175 (fun H locs hP hD hS => ?_)
              refine lv_aload_n hx hb d_Mo_read_176 rfl (lv_at hl 2 rfl) ?_
              refine ga_get S hK hP 0 rfl f_Mo_16 rfl d_Mo_read_177 ?_
              refine lv_iload_n hx hb d_Mo_read_180 rfl (lv_at hl 0 rfl) ?_
              refine lv_aload_n hx hb d_Mo_read_181 rfl (lv_at hl 2 rfl) ?_
              refine ga_get S hK hP 0 rfl f_Mo_20 rfl d_Mo_read_182 ?_
              refine lv_iload_n hx hb d_Mo_read_185 rfl (lv_at hl 0 rfl) ?_
              refine ga_zld S hK hP 4 1 rfl rfl i3 (by omega) (by decide) d_Mo_read_186 ?_
              refine ga_zst (ws' := [(mo, .inr (6, [.int 0, .ref m1, .int 0, .int (nI po9), .int (tI none), .int (nI ec), .ref m6, .ref m7, .ref m8, .ref m9, .ref mA, .int (nI w), .int (nI nw9), .ref mB, .ref mC, .ref mD, .int (nI kf), .ref mE, .ref mF])), (m1, .inl (cI, 600, .inl (nA sg))), (m6, .inl (cI, 4920, .inl (nA (va_up (va_up mb3 ((492 * ec) + i3) (mb3 (4428 + i3))) (3936 + i3) ((va_up mb3 ((492 * ec) + i3) (mb3 (4428 + i3))) (4428 + i3)))))), (m7, .inl (cZ, 492, .inl (zA (va_up ms3 i3 (ns9 i3))))), (m8, .inl (cZ, 492, .inl (zA ns9))), (m9, .inl (cI, 600, .inl (nA cd))), (mA, .inl (cI, 600, .inl (nA nc9))), (mB, .inl (cI, 61, .inl (nA nx))), (mC, .inl (cI, 61, .inl (nA nn9))), (mD, .inl (cZ, 41, .inl (zA he)))]) S hK hP hD hS 3 1 rfl rfl i3 (ns9 i3) (by omega) (by decide) rfl d_Mo_read_187 (fun H locs hP hD hS => ?_)
              refine lv_iinc (v := nI (i3 + 1)) (lv' := [(2, .int (nI (i3 + 1))), (1, .int (nI cnt)), (0, .ref mo)]) hx hb d_Mo_read_188 hl (k := 0) rfl (ga_inc i3) (by decide) rfl (fun ls hl => ?_)
              refine lv_goto (tgt := 124) hx hb d_Mo_read_191 (by decide) ?_
              exact ih3 (i3 + 1, va_up (va_up mb3 ((492 * ec) + i3) (mb3 (4428 + i3))) (3936 + i3) ((va_up mb3 ((492 * ec) + i3) (mb3 (4428 + i3))) (4428 + i3)), va_up ms3 i3 (ns9 i3)) _ _ _ (by show (492 - (i3 + 1)) < (492 - i3); omega) ⟨lv_sub hl [0, 1, 2] rfl, hP, hD, hS, ⟨by omega, by rw [h3b]; exact gm_cp_up (by omega) (by omega), by rw [h3c, gp_cc_up]⟩⟩
          · exact absurd (show tI none < 0 by decide) c112
        · have c92 : ec = 8 := (nI_eq (a := ec) (b := 8) (by omega) (by omega)).mp c92
          refine lv_aload_n hx hb d_Mo_read_95 rfl (lv_at hl 1 rfl) ?_
          refine lv_aload_n hx hb d_Mo_read_96 rfl (lv_at hl 1 rfl) ?_
          refine ga_get S hK hP 0 rfl f_Mo_44 rfl d_Mo_read_97 ?_
          refine ga_put (ws' := [(mo, .inr (6, [.int 0, .ref m1, .int (nI n), .int (nI po9), .int (nI n), .int (nI ec), .ref m6, .ref m7, .ref m8, .ref m9, .ref mA, .int (nI w), .int (nI nw9), .ref mB, .ref mC, .ref mD, .int (nI kf), .ref mE, .ref mF])), (m1, .inl (cI, 600, .inl (nA sg))), (m6, .inl (cI, 4920, .inl (nA mb9))), (m7, .inl (cZ, 492, .inl (zA ms))), (m8, .inl (cZ, 492, .inl (zA ns9))), (m9, .inl (cI, 600, .inl (nA cd))), (mA, .inl (cI, 600, .inl (nA nc9))), (mB, .inl (cI, 61, .inl (nA nx))), (mC, .inl (cI, 61, .inl (nA nn9))), (mD, .inl (cZ, 41, .inl (zA he)))]) S hK hP hD hS 0 rfl p_Mo_54 rfl rfl (Nat.le_of_ble_eq_true rfl) rfl d_Mo_read_100 (fun H locs hP hD hS => ?_)
          refine lv_aload_n hx hb d_Mo_read_103 rfl (lv_at hl 1 rfl) ?_
          refine lv_iconst (v := 0) hx hb d_Mo_read_104 (by decide) ?_
          refine ga_put (ws' := [(mo, .inr (6, [.int 0, .ref m1, .int 0, .int (nI po9), .int (nI n), .int (nI ec), .ref m6, .ref m7, .ref m8, .ref m9, .ref mA, .int (nI w), .int (nI nw9), .ref mB, .ref mC, .ref mD, .int (nI kf), .ref mE, .ref mF])), (m1, .inl (cI, 600, .inl (nA sg))), (m6, .inl (cI, 4920, .inl (nA mb9))), (m7, .inl (cZ, 492, .inl (zA ms))), (m8, .inl (cZ, 492, .inl (zA ns9))), (m9, .inl (cI, 600, .inl (nA cd))), (mA, .inl (cI, 600, .inl (nA nc9))), (mB, .inl (cI, 61, .inl (nA nx))), (mC, .inl (cI, 61, .inl (nA nn9))), (mD, .inl (cZ, 41, .inl (zA he)))]) S hK hP hD hS 0 rfl p_Mo_44 rfl rfl (Nat.le_of_ble_eq_true rfl) rfl d_Mo_read_105 (fun H locs hP hD hS => ?_)
          refine lv_aload_n hx hb d_Mo_read_108 rfl (lv_at hl 1 rfl) ?_
          refine ga_get S hK hP 0 rfl f_Mo_54 rfl d_Mo_read_109 ?_
          refine lv_if_lt (tgt := 122) hx hb d_Mo_read_112 (by decide) (fun c112 => ?_) (fun c112 => ?_)
          · exact absurd c112 (nI_pos (by omega))
          · refine lv_iconst (v := (-1)) hx hb d_Mo_read_115 (by decide) ?_
            refine lv_aload_n hx hb d_Mo_read_116 rfl (lv_at hl 1 rfl) ?_
            refine ga_get S hK hP 0 rfl f_Mo_54 rfl d_Mo_read_117 ?_
            refine lv_isub hx hb d_Mo_read_120 ?_
            refine lv_topi (fun v1 ev1 => ?_)
            exact ga_wi ((po9, some n, ec, mb9, ms, ns9, cd, nc9, w, nw9, nx, nn9, he) : Nat × Option Nat × Nat × (Nat → Nat) × (Nat → Bool) × (Nat → Bool) × (Nat → Nat) × (Nat → Nat) × Nat × Nat × (Nat → Nat) × (Nat → Nat) × (Nat → Bool)) S hrt hlk hP hD hS ⟨cnt, po9, none, bn2, sh2, us2, ne2, a1, a2, a3, a4, rg2, hall, Or.inr (Or.inl ⟨rfl, by omega, ev1, rfl, rfl, rfl, gm_S_keep hSS hec hfr2 hb9⟩)⟩ d_Mo_read_121
    · have c58 : ¬ (61 ≤ i2) := fun q => c58 ((nI_leI (a := 61) (b := i2) (by omega) (by omega)).mpr q)
      refine lv_aload_n hx hb d_Mo_read_61 rfl (lv_at hl 1 rfl) ?_
      refine ga_get S hK hP 0 rfl f_Mo_32 rfl d_Mo_read_62 ?_
      refine lv_iload_n hx hb d_Mo_read_65 rfl (lv_at hl 0 rfl) ?_
      refine lv_iconst (v := 0) hx hb d_Mo_read_66 (by decide) ?_
      refine ga_ist (ws' := [(mo, .inr (6, [.int 0, .ref m1, .int (nI n), .int 0, .int (-1), .int (nI ec), .ref m6, .ref m7, .ref m8, .ref m9, .ref mA, .int (nI w), .int 0, .ref mB, .ref mC, .ref mD, .int (nI kf), .ref mE, .ref mF])), (m1, .inl (cI, 600, .inl (nA sg))), (m6, .inl (cI, 4920, .inl (nA mb1))), (m7, .inl (cZ, 492, .inl (zA ms))), (m8, .inl (cZ, 492, .inl (zA ns1))), (m9, .inl (cI, 600, .inl (nA cd))), (mA, .inl (cI, 600, .inl (nA nc))), (mB, .inl (cI, 61, .inl (nA nx))), (mC, .inl (cI, 61, .inl (nA (va_up nn1 i2 0)))), (mD, .inl (cZ, 41, .inl (zA he)))]) S hK hP hD hS 8 0 rfl rfl i2 0 (by omega) (by decide) rfl d_Mo_read_67 (fun H locs hP hD hS => ?_)
      refine lv_iinc (v := nI (i2 + 1)) (lv' := [(1, .int (nI (i2 + 1))), (0, .ref mo)]) hx hb d_Mo_read_68 hl (k := 0) rfl (ga_inc i2) (by decide) rfl (fun ls hl => ?_)
      refine lv_goto (tgt := 55) hx hb d_Mo_read_71 (by decide) ?_
      exact ih2 (i2 + 1, va_up nn1 i2 0) _ _ _ (by show (61 - (i2 + 1)) < (61 - i2); omega) ⟨lv_sub hl [0, 1] rfl, hP, hD, hS, ⟨by omega, by rw [h2b, gp_fl_up]⟩⟩
  · have c26 : ¬ (492 ≤ i) := fun q => c26 ((nI_leI (a := 492) (b := i) (by omega) (by omega)).mpr q)
    refine lv_aload_n hx hb d_Mo_read_29 rfl (lv_at hl 1 rfl) ?_
    refine ga_get S hK hP 0 rfl f_Mo_13 rfl d_Mo_read_30 ?_
    refine lv_sipush (v := 4428) hx hb d_Mo_read_33 (by decide) ?_
    refine lv_iload_n hx hb d_Mo_read_36 rfl (lv_at hl 0 rfl) ?_
    refine lv_iadd hx hb d_Mo_read_37 ?_
    refine ga_top (nI (4428 + i)) (nI_add 4428 i) ?_
    refine lv_iconst (v := 0) hx hb d_Mo_read_38 (by decide) ?_
    refine ga_ist (ws' := [(mo, .inr (6, [.int 0, .ref m1, .int (nI n), .int 0, .int (-1), .int (nI ec), .ref m6, .ref m7, .ref m8, .ref m9, .ref mA, .int (nI w), .int 0, .ref mB, .ref mC, .ref mD, .int (nI kf), .ref mE, .ref mF])), (m1, .inl (cI, 600, .inl (nA sg))), (m6, .inl (cI, 4920, .inl (nA (va_up mb1 (4428 + i) 0)))), (m7, .inl (cZ, 492, .inl (zA ms))), (m8, .inl (cZ, 492, .inl (zA ns1))), (m9, .inl (cI, 600, .inl (nA cd))), (mA, .inl (cI, 600, .inl (nA nc))), (mB, .inl (cI, 61, .inl (nA nx))), (mC, .inl (cI, 61, .inl (nA nn))), (mD, .inl (cZ, 41, .inl (zA he)))]) S hK hP hD hS 2 0 rfl rfl (4428 + i) 0 (by omega) (by decide) rfl d_Mo_read_39 (fun H locs hP hD hS => ?_)
    refine lv_aload_n hx hb d_Mo_read_40 rfl (lv_at hl 1 rfl) ?_
    refine ga_get S hK hP 0 rfl f_Mo_20 rfl d_Mo_read_41 ?_
    refine lv_iload_n hx hb d_Mo_read_44 rfl (lv_at hl 0 rfl) ?_
    refine lv_iconst (v := 0) hx hb d_Mo_read_45 (by decide) ?_
    refine ga_zst (ws' := [(mo, .inr (6, [.int 0, .ref m1, .int (nI n), .int 0, .int (-1), .int (nI ec), .ref m6, .ref m7, .ref m8, .ref m9, .ref mA, .int (nI w), .int 0, .ref mB, .ref mC, .ref mD, .int (nI kf), .ref mE, .ref mF])), (m1, .inl (cI, 600, .inl (nA sg))), (m6, .inl (cI, 4920, .inl (nA (va_up mb1 (4428 + i) 0)))), (m7, .inl (cZ, 492, .inl (zA ms))), (m8, .inl (cZ, 492, .inl (zA (va_up ns1 i false)))), (m9, .inl (cI, 600, .inl (nA cd))), (mA, .inl (cI, 600, .inl (nA nc))), (mB, .inl (cI, 61, .inl (nA nx))), (mC, .inl (cI, 61, .inl (nA nn))), (mD, .inl (cZ, 41, .inl (zA he)))]) S hK hP hD hS 4 1 rfl rfl i false (by omega) (by decide) rfl d_Mo_read_46 (fun H locs hP hD hS => ?_)
    refine lv_iinc (v := nI (i + 1)) (lv' := [(1, .int (nI (i + 1))), (0, .ref mo)]) hx hb d_Mo_read_47 hl (k := 0) rfl (ga_inc i) (by decide) rfl (fun ls hl => ?_)
    refine lv_goto (tgt := 22) hx hb d_Mo_read_50 (by decide) ?_
    exact ih1 (i + 1, va_up mb1 (4428 + i) 0, va_up ns1 i false) _ _ _ (by show (492 - (i + 1)) < (492 - i); omega) ⟨lv_sub hl [0, 1] rfl, hP, hD, hS, ⟨by omega, by rw [h1b, gm_cl_up], by rw [h1c, gp_fl_up]⟩⟩
