set_option maxHeartbeats 4000000 in
set_option maxRecDepth 100000 in
theorem gc_Mo_isIn (l : Launch) (D : va_G) (cI cZ cC cG : ClassId) (x lo hi : Int32) : ga_Mr l y_Mo_isIn b_Mo_isIn 3 (some .boolean) 0 D (ga_T cI cZ cC cG) [.int x, .int lo, .int hi] [] (fun r => (r = 1 ∧ (lo ≤ x ∧ x ≤ hi)) ∨ (r = 0 ∧ ¬ (lo ≤ x ∧ x ≤ hi))) := by
  refine ga_enR (by decide) (Nat.le_of_ble_eq_true rfl) ?_
  intro p e s m below meth c ls S hrt hlk hK hP hl
  obtain ⟨hx, hb, hml, hown, hts⟩ := id S
  have hl : lv_has ls 3 [(0, .int x), (1, .int lo), (2, .int hi)] := hl
  refine lv_iload_n hx hb d_Mo_isIn_0 rfl (lv_at hl 0 rfl) ?_
  refine lv_iload_n hx hb d_Mo_isIn_1 rfl (lv_at hl 1 rfl) ?_
  refine lv_icmp_lt (tgt := 14) hx hb d_Mo_isIn_2 (by decide) (fun c2 => ?_) (fun c2 => ?_)
  · refine lv_iconst (v := 0) hx hb d_Mo_isIn_14 (by decide) ?_
    exact ga_rz S hrt hlk (Or.inl rfl) (Or.inr ⟨rfl, fun q => by first | exact absurd q.1 (Int32.not_le.mpr c2) | exact absurd q.2 (Int32.not_le.mpr c7)⟩) d_Mo_isIn_15
  · refine lv_iload_n hx hb d_Mo_isIn_5 rfl (lv_at hl 0 rfl) ?_
    refine lv_iload_n hx hb d_Mo_isIn_6 rfl (lv_at hl 2 rfl) ?_
    refine lv_icmp_gt (tgt := 14) hx hb d_Mo_isIn_7 (by decide) (fun c7 => ?_) (fun c7 => ?_)
    · refine lv_iconst (v := 0) hx hb d_Mo_isIn_14 (by decide) ?_
      exact ga_rz S hrt hlk (Or.inl rfl) (Or.inr ⟨rfl, fun q => by first | exact absurd q.1 (Int32.not_le.mpr c2) | exact absurd q.2 (Int32.not_le.mpr c7)⟩) d_Mo_isIn_15
    · refine lv_iconst (v := 1) hx hb d_Mo_isIn_10 (by decide) ?_
      refine lv_goto (tgt := 15) hx hb d_Mo_isIn_11 (by decide) ?_
      exact ga_rz S hrt hlk (Or.inr rfl) (Or.inl ⟨rfl, Int32.not_lt.mp c2, Int32.not_lt.mp c7⟩) d_Mo_isIn_15
set_option maxHeartbeats 4000000 in
set_option maxRecDepth 100000 in
theorem gc_Mo_place (l : Launch) (D : va_G) (cI cZ cC cG : ClassId) (e9 t pa sh : Nat) : ga_Mr l y_Mo_place b_Mo_place 4 (some .int) 0 D (ga_T cI cZ cC cG) [.int (nI e9), .int (nI t), .int (nI pa), .int (nI sh)] [] (fun r => r = nI (gm_pl e9 t pa sh)) := by
  refine ga_enR (by decide) (Nat.le_of_ble_eq_true rfl) ?_
  intro p e s m below meth c ls S hrt hlk hK hP hl
  obtain ⟨hx, hb, hml, hown, hts⟩ := id S
  have hl : lv_has ls 4 [(0, .int (nI e9)), (1, .int (nI t)), (2, .int (nI pa)), (3, .int (nI sh))] := hl
  refine lv_sipush (v := 492) hx hb d_Mo_place_0 (by decide) ?_
  refine lv_iload_n hx hb d_Mo_place_3 rfl (lv_at hl 0 rfl) ?_
  refine lv_imul hx hb d_Mo_place_4 ?_
  refine ga_top (nI (492 * e9)) (pk_mul 492 e9) ?_
  refine lv_sipush (v := 164) hx hb d_Mo_place_5 (by decide) ?_
  refine lv_iload_n hx hb d_Mo_place_8 rfl (lv_at hl 3 rfl) ?_
  refine lv_imul hx hb d_Mo_place_9 ?_
  refine ga_top (nI (164 * sh)) (pk_mul 164 sh) ?_
  refine lv_iadd hx hb d_Mo_place_10 ?_
  refine ga_top (nI ((492 * e9) + (164 * sh))) (nI_add (492 * e9) (164 * sh)) ?_
  refine lv_bipush (v := 41) hx hb d_Mo_place_11 (by decide) ?_
  refine lv_iload_n hx hb d_Mo_place_13 rfl (lv_at hl 2 rfl) ?_
  refine lv_imul hx hb d_Mo_place_14 ?_
  refine ga_top (nI (41 * pa)) (pk_mul 41 pa) ?_
  refine lv_iadd hx hb d_Mo_place_15 ?_
  refine ga_top (nI (((492 * e9) + (164 * sh)) + (41 * pa))) (nI_add ((492 * e9) + (164 * sh)) (41 * pa)) ?_
  refine lv_iload_n hx hb d_Mo_place_16 rfl (lv_at hl 1 rfl) ?_
  refine lv_iadd hx hb d_Mo_place_17 ?_
  refine ga_top (nI ((((492 * e9) + (164 * sh)) + (41 * pa)) + t)) (nI_add (((492 * e9) + (164 * sh)) + (41 * pa)) t) ?_
  exact ga_ri S hrt hlk rfl d_Mo_place_18
set_option maxHeartbeats 4000000 in
set_option maxRecDepth 100000 in
theorem gc_Mo_sign (l : Launch) (D : va_G) (cI cZ cC cG : ClassId) (mo m1 m6 m7 m8 m9 mA mB mC mD mE mF n pos ec w nw kf : Nat) (wr : Option Nat) (sg : Nat → Nat) (ch : Int32) (hn : n ≤ 600) : ga_Mv l y_Mo_sign b_Mo_sign 2 6 0 0 D (ga_T cI cZ cC cG) [.ref mo, .int ch] [(mo, .inr (6, [.int 0, .ref m1, .int (nI n), .int (nI pos), .int (tI wr), .int (nI ec), .ref m6, .ref m7, .ref m8, .ref m9, .ref mA, .int (nI w), .int (nI nw), .ref mB, .ref mC, .ref mD, .int (nI kf), .ref mE, .ref mF])), (m1, .inl (cI, 600, .inl (nA sg)))] (fun (_ : Unit) => [(mo, .inr (6, [.int 0, .ref m1, .int (nI ((gp_put ch (sg, n)).2)), .int (nI pos), .int (tI wr), .int (nI ec), .ref m6, .ref m7, .ref m8, .ref m9, .ref mA, .int (nI w), .int (nI nw), .ref mB, .ref mC, .ref mD, .int (nI kf), .ref mE, .ref mF])), (m1, .inl (cI, 600, .inl (nA ((gp_put ch (sg, n)).1))))]) (fun _ => True) := by
  refine ga_enV (by decide) (Nat.le_of_ble_eq_true rfl) ?_
  intro p e s m below meth c ls A S hrt hlk hnm hK hP hD hA hl
  have hS : va_S A s.heap s.heap [] := va_S.rf
  obtain ⟨hx, hb, hml, hown, hts⟩ := id S
  have hl : lv_has ls 2 [(0, .ref mo), (1, .int ch)] := hl
  refine lv_aload_n hx hb d_Mo_sign_0 rfl (lv_at hl 0 rfl) ?_
  refine lv_iconst (v := 0) hx hb d_Mo_sign_1 (by decide) ?_
  refine ga_put (ws' := [(mo, .inr (6, [.int 0, .ref m1, .int (nI n), .int (nI pos), .int (tI wr), .int (nI ec), .ref m6, .ref m7, .ref m8, .ref m9, .ref mA, .int (nI w), .int (nI nw), .ref mB, .ref mC, .ref mD, .int (nI kf), .ref mE, .ref mF])), (m1, .inl (cI, 600, .inl (nA sg)))]) S hK hP hD hS 0 rfl p_Mo_48 rfl rfl (Nat.le_of_ble_eq_true rfl) rfl d_Mo_sign_2 (fun H locs hP hD hS => ?_)
  refine lv_aload_n hx hb d_Mo_sign_5 rfl (lv_at hl 0 rfl) ?_
  refine ga_get S hK hP 0 rfl f_Mo_44 rfl d_Mo_sign_6 ?_
  refine lv_sipush (v := 600) hx hb d_Mo_sign_9 (by decide) ?_
  refine lv_icmp_ge (tgt := 47) hx hb d_Mo_sign_12 (by decide) (fun c12 => ?_) (fun c12 => ?_)
  · have c12 : 600 ≤ n := (nI_leI (a := 600) (b := n) (by omega) (by omega)).mp c12
    have he : gp_put ch (sg, n) = (sg, n) := by rw [gp_put, if_neg (fun q => absurd q.2 (by simp only; omega))]
    exact ga_wv () S hrt hlk (by rw [he]; exact hP) (by rw [he]; exact hD) hS trivial d_Mo_sign_47
  · have c12 : ¬ (600 ≤ n) := fun q => c12 ((nI_leI (a := 600) (b := n) (by omega) (by omega)).mpr q)
    refine lv_iload_n hx hb d_Mo_sign_15 rfl (lv_at hl 1 rfl) ?_
    refine lv_bipush (v := 32) hx hb d_Mo_sign_16 (by decide) ?_
    refine lv_icmp_lt (tgt := 47) hx hb d_Mo_sign_18 (by decide) (fun c18 => ?_) (fun c18 => ?_)
    · have he : gp_put ch (sg, n) = (sg, n) := by rw [gp_put, if_neg (fun q => absurd q.1.1 (Int32.not_le.mpr c18))]
      exact ga_wv () S hrt hlk (by rw [he]; exact hP) (by rw [he]; exact hD) hS trivial d_Mo_sign_47
    · refine lv_iload_n hx hb d_Mo_sign_21 rfl (lv_at hl 1 rfl) ?_
      refine lv_bipush (v := 126) hx hb d_Mo_sign_22 (by decide) ?_
      refine lv_icmp_gt (tgt := 47) hx hb d_Mo_sign_24 (by decide) (fun c24 => ?_) (fun c24 => ?_)
      · have he : gp_put ch (sg, n) = (sg, n) := by rw [gp_put, if_neg (fun q => absurd q.1.2 (Int32.not_le.mpr c24))]
        exact ga_wv () S hrt hlk (by rw [he]; exact hP) (by rw [he]; exact hD) hS trivial d_Mo_sign_47
      · have hc1 := Int32.not_lt.mp c18
        have hc2 := Int32.not_lt.mp c24
        obtain ⟨k, hk, rfl⟩ := nI_of2 (M := 126) (n := 126) rfl (fun q => absurd (Int32.lt_of_le_of_lt hc1 q) (by decide)) hc2
        have he : gp_put (nI k) (sg, n) = (va_up sg n k, n + 1) := by rw [gp_put, if_pos ⟨⟨hc1, hc2⟩, by simp only; omega⟩, nI_clamp (by omega)]
        refine lv_aload_n hx hb d_Mo_sign_27 rfl (lv_at hl 0 rfl) ?_
        refine ga_get S hK hP 0 rfl f_Mo_7 rfl d_Mo_sign_28 ?_
        refine lv_aload_n hx hb d_Mo_sign_31 rfl (lv_at hl 0 rfl) ?_
        refine ga_get S hK hP 0 rfl f_Mo_44 rfl d_Mo_sign_32 ?_
        refine lv_iload_n hx hb d_Mo_sign_35 rfl (lv_at hl 1 rfl) ?_
        refine ga_ist (ws' := [(mo, .inr (6, [.int 0, .ref m1, .int (nI n), .int (nI pos), .int (tI wr), .int (nI ec), .ref m6, .ref m7, .ref m8, .ref m9, .ref mA, .int (nI w), .int (nI nw), .ref mB, .ref mC, .ref mD, .int (nI kf), .ref mE, .ref mF])), (m1, .inl (cI, 600, .inl (nA (va_up sg n k))))]) S hK hP hD hS 1 0 rfl rfl n k (by omega) (by decide) rfl d_Mo_sign_36 (fun H locs hP hD hS => ?_)
        refine lv_aload_n hx hb d_Mo_sign_37 rfl (lv_at hl 0 rfl) ?_
        refine lv_dup hx hb d_Mo_sign_38 rfl ?_
        refine ga_get S hK hP 0 rfl f_Mo_44 rfl d_Mo_sign_39 ?_
        refine lv_iconst (v := 1) hx hb d_Mo_sign_42 (by decide) ?_
        refine lv_iadd hx hb d_Mo_sign_43 ?_
        refine ga_top (nI (n + 1)) (nI_add n 1) ?_
        refine ga_put (ws' := [(mo, .inr (6, [.int 0, .ref m1, .int (nI (n + 1)), .int (nI pos), .int (tI wr), .int (nI ec), .ref m6, .ref m7, .ref m8, .ref m9, .ref mA, .int (nI w), .int (nI nw), .ref mB, .ref mC, .ref mD, .int (nI kf), .ref mE, .ref mF])), (m1, .inl (cI, 600, .inl (nA (va_up sg n k))))]) S hK hP hD hS 0 rfl p_Mo_44 rfl rfl (Nat.le_of_ble_eq_true rfl) rfl d_Mo_sign_44 (fun H locs hP hD hS => ?_)
        exact ga_wv () S hrt hlk (by rw [he]; exact hP) (by rw [he]; exact hD) hS trivial d_Mo_sign_47
set_option maxHeartbeats 4000000 in
set_option maxRecDepth 100000 in
theorem gc_Mo_look (l : Launch) (D : va_G) (cI cZ cC cG : ClassId) (mo m1 m6 m7 m8 m9 mA mB mC mD mE mF n pos ec w nw kf : Nat) (wr : Option Nat) (sg : Nat → Nat) (hn : n ≤ 600) (hpos : pos ≤ n) : ga_Mr l y_Mo_look b_Mo_look 1 (some .int) 0 D (ga_T cI cZ cC cG) [.ref mo] [(mo, .inr (6, [.int 0, .ref m1, .int (nI n), .int (nI pos), .int (tI wr), .int (nI ec), .ref m6, .ref m7, .ref m8, .ref m9, .ref mA, .int (nI w), .int (nI nw), .ref mB, .ref mC, .ref mD, .int (nI kf), .ref mE, .ref mF])), (m1, .inl (cI, 600, .inl (nA sg)))] (fun r => r = gm_lk sg n pos) := by
  refine ga_enR (by decide) (Nat.le_of_ble_eq_true rfl) ?_
  intro p e s m below meth c ls S hrt hlk hK hP hl
  obtain ⟨hx, hb, hml, hown, hts⟩ := id S
  have hl : lv_has ls 1 [(0, .ref mo)] := hl
  refine lv_aload_n hx hb d_Mo_look_0 rfl (lv_at hl 0 rfl) ?_
  refine ga_get S hK hP 0 rfl f_Mo_51 rfl d_Mo_look_1 ?_
  refine lv_aload_n hx hb d_Mo_look_4 rfl (lv_at hl 0 rfl) ?_
  refine ga_get S hK hP 0 rfl f_Mo_44 rfl d_Mo_look_5 ?_
  refine lv_icmp_ge (tgt := 23) hx hb d_Mo_look_8 (by decide) (fun c8 => ?_) (fun c8 => ?_)
  · have c8 : n ≤ pos := (nI_leI (a := n) (b := pos) (by omega) (by omega)).mp c8
    refine lv_iconst (v := (-1)) hx hb d_Mo_look_23 (by decide) ?_
    exact ga_ri S hrt hlk (by rw [gm_lk, if_neg (by omega)]) d_Mo_look_24
  · have c8 : ¬ (n ≤ pos) := fun q => c8 ((nI_leI (a := n) (b := pos) (by omega) (by omega)).mpr q)
    refine lv_aload_n hx hb d_Mo_look_11 rfl (lv_at hl 0 rfl) ?_
    refine ga_get S hK hP 0 rfl f_Mo_7 rfl d_Mo_look_12 ?_
    refine lv_aload_n hx hb d_Mo_look_15 rfl (lv_at hl 0 rfl) ?_
    refine ga_get S hK hP 0 rfl f_Mo_51 rfl d_Mo_look_16 ?_
    refine ga_ild S hK hP 1 0 rfl rfl pos (by omega) (by decide) d_Mo_look_19 ?_
    refine lv_goto (tgt := 24) hx hb d_Mo_look_20 (by decide) ?_
    exact ga_ri S hrt hlk (by rw [gm_lk, if_pos (by omega)]) d_Mo_look_24
set_option maxHeartbeats 4000000 in
set_option maxRecDepth 100000 in
theorem gc_Mo_fails (l : Launch) (D : va_G) (cI cZ cC cG : ClassId) (mo m1 m6 m7 m8 m9 mA mB mC mD mE mF n pos ec w nw kf : Nat) (wr : Option Nat) (wh : Nat) (hwr : ∀ t, wr = some t → t < 2 ^ 31) : ga_Mv l y_Mo_fails b_Mo_fails 2 0 0 0 D (ga_T cI cZ cC cG) [.ref mo, .int (nI wh)] [(mo, .inr (6, [.int 0, .ref m1, .int (nI n), .int (nI pos), .int (tI wr), .int (nI ec), .ref m6, .ref m7, .ref m8, .ref m9, .ref mA, .int (nI w), .int (nI nw), .ref mB, .ref mC, .ref mD, .int (nI kf), .ref mE, .ref mF]))] (fun (_ : Unit) => [(mo, .inr (6, [.int 0, .ref m1, .int (nI n), .int (nI pos), .int (tI (gm_fl wr wh)), .int (nI ec), .ref m6, .ref m7, .ref m8, .ref m9, .ref mA, .int (nI w), .int (nI nw), .ref mB, .ref mC, .ref mD, .int (nI kf), .ref mE, .ref mF]))]) (fun _ => True) := by
  refine ga_enV (by decide) (Nat.le_of_ble_eq_true rfl) ?_
  intro p e s m below meth c ls A S hrt hlk hnm hK hP hD hA hl
  have hS : va_S A s.heap s.heap [] := va_S.rf
  obtain ⟨hx, hb, hml, hown, hts⟩ := id S
  have hl : lv_has ls 2 [(0, .ref mo), (1, .int (nI wh))] := hl
  refine lv_aload_n hx hb d_Mo_fails_0 rfl (lv_at hl 0 rfl) ?_
  refine lv_aload_n hx hb d_Mo_fails_1 rfl (lv_at hl 0 rfl) ?_
  refine ga_get S hK hP 0 rfl f_Mo_54 rfl d_Mo_fails_2 ?_
  refine lv_if_ge (tgt := 12) hx hb d_Mo_fails_5 (by decide) (fun c5 => ?_) (fun c5 => ?_)
  · have he : gm_fl wr wh = wr := by rw [gm_fl, if_neg ((tI_ge hwr).1 c5)]
    refine lv_aload_n hx hb d_Mo_fails_12 rfl (lv_at hl 0 rfl) ?_
    refine ga_get S hK hP 0 rfl f_Mo_54 rfl d_Mo_fails_13 ?_
    refine ga_put (ws' := [(mo, .inr (6, [.int 0, .ref m1, .int (nI n), .int (nI pos), .int (tI wr), .int (nI ec), .ref m6, .ref m7, .ref m8, .ref m9, .ref mA, .int (nI w), .int (nI nw), .ref mB, .ref mC, .ref mD, .int (nI kf), .ref mE, .ref mF]))]) S hK hP hD hS 0 rfl p_Mo_54 rfl rfl (Nat.le_of_ble_eq_true rfl) rfl d_Mo_fails_16 (fun H locs hP hD hS => ?_)
    exact ga_wv () S hrt hlk (by rw [he]; exact hP) (by rw [he]; exact hD) hS trivial d_Mo_fails_19
  · have hz := (tI_ge hwr).2 c5
    subst hz
    have he : gm_fl none wh = some wh := by rw [gm_fl, if_pos rfl]
    refine lv_iload_n hx hb d_Mo_fails_8 rfl (lv_at hl 1 rfl) ?_
    refine lv_goto (tgt := 16) hx hb d_Mo_fails_9 (by decide) ?_
    refine ga_put (ws' := [(mo, .inr (6, [.int 0, .ref m1, .int (nI n), .int (nI pos), .int (nI wh), .int (nI ec), .ref m6, .ref m7, .ref m8, .ref m9, .ref mA, .int (nI w), .int (nI nw), .ref mB, .ref mC, .ref mD, .int (nI kf), .ref mE, .ref mF]))]) S hK hP hD hS 0 rfl p_Mo_54 rfl rfl (Nat.le_of_ble_eq_true rfl) rfl d_Mo_fails_16 (fun H locs hP hD hS => ?_)
    exact ga_wv () S hrt hlk (by rw [he]; exact hP) (by rw [he]; exact hD) hS trivial d_Mo_fails_19
set_option maxHeartbeats 4000000 in
set_option maxRecDepth 100000 in
theorem gc_Mo_sign1 (l : Launch) (D : va_G) (cI cZ cC cG : ClassId) (mo m1 m6 m7 m8 m9 mA mB mC mD mE mF n pos ec w nw kf : Nat) (wr : Option Nat) (sg : Nat → Nat) (hn : n ≤ 600) (hpos : pos ≤ n) (hsg : ∀ j, sg j < 2 ^ 31) (hwr : ∀ t, wr = some t → t ≤ n) (ch : Nat) (h1 : 1 ≤ ch) (hch : ch < 2 ^ 31) : ga_Mv l y_Mo_sign1 b_Mo_sign1 2 1 0 0 D (ga_T cI cZ cC cG) [.ref mo, .int (nI ch)] [(mo, .inr (6, [.int 0, .ref m1, .int (nI n), .int (nI pos), .int (tI wr), .int (nI ec), .ref m6, .ref m7, .ref m8, .ref m9, .ref mA, .int (nI w), .int (nI nw), .ref mB, .ref mC, .ref mD, .int (nI kf), .ref mE, .ref mF])), (m1, .inl (cI, 600, .inl (nA sg)))] (fun (x : Nat × Option Nat) => [(mo, .inr (6, [.int 0, .ref m1, .int (nI n), .int (nI x.1), .int (tI x.2), .int (nI ec), .ref m6, .ref m7, .ref m8, .ref m9, .ref mA, .int (nI w), .int (nI nw), .ref mB, .ref mC, .ref mD, .int (nI kf), .ref mE, .ref mF])), (m1, .inl (cI, 600, .inl (nA sg)))]) (fun x => x = gp_rs sg n ch (pos, wr)) := by
  refine ga_enV (by decide) (Nat.le_of_ble_eq_true rfl) ?_
  intro p e s m below meth c ls A S hrt hlk hnm hK hP hD hA hl
  have hS : va_S A s.heap s.heap [] := va_S.rf
  obtain ⟨hx, hb, hml, hown, hts⟩ := id S
  have hl : lv_has ls 2 [(0, .ref mo), (1, .int (nI ch))] := hl
  refine lv_aload_n hx hb d_Mo_sign1_0 rfl (lv_at hl 0 rfl) ?_
  refine ga_get S hK hP 0 rfl f_Mo_54 rfl d_Mo_sign1_1 ?_
  refine lv_if_ge (tgt := 28) hx hb d_Mo_sign1_4 (by decide) (fun c4 => ?_) (fun c4 => ?_)
  · have hz := (tI_ge (fun t q => by have := hwr t q; omega)).1 c4
    refine lv_aload_n hx hb d_Mo_sign1_28 rfl (lv_at hl 0 rfl) ?_
    refine lv_aload_n hx hb d_Mo_sign1_29 rfl (lv_at hl 0 rfl) ?_
    refine ga_get S hK hP 0 rfl f_Mo_51 rfl d_Mo_sign1_30 ?_
    refine ga_jv (wr := [(m1, .inl (cI, 600, .inl (nA sg)))]) (ga_runV (As := [.int (nI pos)]) (rest := []) S hK s_Mo_61 (gc_Mo_fails l D cI cZ cC cG mo m1 m6 m7 m8 m9 mA mB mC mD mE mF n pos ec w nw kf wr pos (fun t q => by have := hwr t q; omega) _) (ga_prV (y := y_Mo_fails) (q0 := 0) hK hP hD [0] rfl (by decide) rfl rfl) rfl hl.1 rfl (Nat.le_of_ble_eq_true rfl) ⟨Nat.le_of_ble_eq_true rfl, Nat.le_of_ble_eq_true rfl⟩ ⟨Nat.le_of_ble_eq_true rfl, Nat.le_of_ble_eq_true rfl⟩ d_Mo_sign1_33) hP hD hS hA [0] [1] rfl rfl (by decide) (by decide) [1, 0] (fun _ => [(mo, .inr (6, [.int 0, .ref m1, .int (nI n), .int (nI pos), .int (tI (gm_fl wr pos)), .int (nI ec), .ref m6, .ref m7, .ref m8, .ref m9, .ref mA, .int (nI w), .int (nI nw), .ref mB, .ref mC, .ref mD, .int (nI kf), .ref mE, .ref mF])), (m1, .inl (cI, 600, .inl (nA sg)))]) (fun _ => rfl) (by decide) (fun x H locs hp33 hP hD hS => ?_)
    exact ga_wv (pos, wr) S hrt hlk (by rw [gm_fl, if_neg hz] at hP; exact hP) (by rw [gm_fl, if_neg hz] at hD; exact hD) hS (by rw [gp_rs, if_neg hz]) d_Mo_sign1_36
  · have hz := (tI_ge (fun t q => by have := hwr t q; omega)).2 c4
    subst hz
    refine lv_aload_n hx hb d_Mo_sign1_7 rfl (lv_at hl 0 rfl) ?_
    refine ga_cr (As := []) (rest := []) (q0 := 0) S hK hP s_Mo_57 (gc_Mo_look l D cI cZ cC cG mo m1 m6 m7 m8 m9 mA mB mC mD mE mF n pos ec w nw kf none sg (by omega) (by omega)) [0, 1] rfl rfl rfl rfl hl.1 rfl (Nat.le_of_ble_eq_true rfl) ⟨Nat.le_of_ble_eq_true rfl, Nat.le_of_ble_eq_true rfl⟩ ⟨Nat.le_of_ble_eq_true rfl, Nat.le_of_ble_eq_true rfl⟩ d_Mo_sign1_8 (fun r hp8 => ?_)
    subst hp8
    refine lv_iload_n hx hb d_Mo_sign1_11 rfl (lv_at hl 1 rfl) ?_
    refine lv_icmp_ne (tgt := 28) hx hb d_Mo_sign1_12 (by decide) (fun c12 => ?_) (fun c12 => ?_)
    · have c12 : ¬ gp_sg sg n pos = ch := fun q => c12 ((gm_lk_eq hsg h1 hch).mpr q)
      refine lv_aload_n hx hb d_Mo_sign1_28 rfl (lv_at hl 0 rfl) ?_
      refine lv_aload_n hx hb d_Mo_sign1_29 rfl (lv_at hl 0 rfl) ?_
      refine ga_get S hK hP 0 rfl f_Mo_51 rfl d_Mo_sign1_30 ?_
      refine ga_jv (wr := [(m1, .inl (cI, 600, .inl (nA sg)))]) (ga_runV (As := [.int (nI pos)]) (rest := []) S hK s_Mo_61 (gc_Mo_fails l D cI cZ cC cG mo m1 m6 m7 m8 m9 mA mB mC mD mE mF n pos ec w nw kf none pos (fun t q => by have := hwr t q; omega) _) (ga_prV (y := y_Mo_fails) (q0 := 0) hK hP hD [0] rfl (by decide) rfl rfl) rfl hl.1 rfl (Nat.le_of_ble_eq_true rfl) ⟨Nat.le_of_ble_eq_true rfl, Nat.le_of_ble_eq_true rfl⟩ ⟨Nat.le_of_ble_eq_true rfl, Nat.le_of_ble_eq_true rfl⟩ d_Mo_sign1_33) hP hD hS hA [0] [1] rfl rfl (by decide) (by decide) [1, 0] (fun _ => [(mo, .inr (6, [.int 0, .ref m1, .int (nI n), .int (nI pos), .int (tI (some pos)), .int (nI ec), .ref m6, .ref m7, .ref m8, .ref m9, .ref mA, .int (nI w), .int (nI nw), .ref mB, .ref mC, .ref mD, .int (nI kf), .ref mE, .ref mF])), (m1, .inl (cI, 600, .inl (nA sg)))]) (fun _ => rfl) (by decide) (fun x H locs hp33 hP hD hS => ?_)
      exact ga_wv (pos, some pos) S hrt hlk hP hD hS (by rw [gp_rs, if_pos rfl, if_neg c12]) d_Mo_sign1_36
    · have c12 : gp_sg sg n pos = ch := (gm_lk_eq hsg h1 hch).mp c12
      refine lv_aload_n hx hb d_Mo_sign1_15 rfl (lv_at hl 0 rfl) ?_
      refine lv_dup hx hb d_Mo_sign1_16 rfl ?_
      refine ga_get S hK hP 0 rfl f_Mo_51 rfl d_Mo_sign1_17 ?_
      refine lv_iconst (v := 1) hx hb d_Mo_sign1_20 (by decide) ?_
      refine lv_iadd hx hb d_Mo_sign1_21 ?_
      refine ga_top (nI (pos + 1)) (nI_add pos 1) ?_
      refine ga_put (ws' := [(mo, .inr (6, [.int 0, .ref m1, .int (nI n), .int (nI (pos + 1)), .int (tI none), .int (nI ec), .ref m6, .ref m7, .ref m8, .ref m9, .ref mA, .int (nI w), .int (nI nw), .ref mB, .ref mC, .ref mD, .int (nI kf), .ref mE, .ref mF])), (m1, .inl (cI, 600, .inl (nA sg)))]) S hK hP hD hS 0 rfl p_Mo_51 rfl rfl (Nat.le_of_ble_eq_true rfl) rfl d_Mo_sign1_22 (fun H locs hP hD hS => ?_)
      refine lv_goto (tgt := 36) hx hb d_Mo_sign1_25 (by decide) ?_
      exact ga_wv (pos + 1, none) S hrt hlk hP hD hS (by rw [gp_rs, if_pos rfl, if_pos c12]) d_Mo_sign1_36
