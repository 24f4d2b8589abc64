set_option maxHeartbeats 4000000 in
set_option maxRecDepth 100000 in
theorem gc_Re_isFine (l : Launch) (D : va_G) (cI cZ cC cG : ClassId) (re te dr pos : Nat) (tr : Option Nat) (htr : ∀ t, tr = some t → t < 2 ^ 31) : ga_Mr l y_Re_isFine b_Re_isFine 1 (some .boolean) 0 D (ga_T cI cZ cC cG) [.ref re] [(re, .inr (2, [.ref te, .ref dr, .int (nI pos), .int (tI tr)]))] (fun r => (r = 1 ∧ tr = none) ∨ (r = 0 ∧ tr ≠ none)) := by
  refine ga_enR (by decide) (Nat.le_of_ble_eq_true rfl) ?_
  intro p e s m below meth c ls S hrt hlk hK hP hl
  obtain ⟨hx, hb, hml, hown, hts⟩ := id S
  have hl : lv_has ls 1 [(0, .ref re)] := hl
  refine lv_aload_n hx hb d_Re_isFine_0 rfl (lv_at hl 0 rfl) ?_
  refine ga_get S hK hP 0 rfl f_Re_25 rfl d_Re_isFine_1 ?_
  refine lv_iconst (v := (-1)) hx hb d_Re_isFine_4 (by decide) ?_
  refine lv_icmp_ne (tgt := 12) hx hb d_Re_isFine_5 (by decide) (fun c5 => ?_) (fun c5 => ?_)
  · have c5 : tr ≠ none := fun q => c5 (by rw [q]; rfl)
    refine lv_iconst (v := 0) hx hb d_Re_isFine_12 (by decide) ?_
    exact ga_rz S hrt hlk (Or.inl rfl) (Or.inr ⟨rfl, c5⟩) d_Re_isFine_13
  · have c5 : tr = none := tI_none htr c5
    refine lv_iconst (v := 1) hx hb d_Re_isFine_8 (by decide) ?_
    refine lv_goto (tgt := 13) hx hb d_Re_isFine_9 (by decide) ?_
    exact ga_rz S hrt hlk (Or.inr rfl) (Or.inl ⟨rfl, c5⟩) d_Re_isFine_13
set_option maxHeartbeats 4000000 in
set_option maxRecDepth 100000 in
theorem gc_Re_readSign (l : Launch) (D : va_G) (cI cZ cC cG : ClassId) (re te ta dr n pos : Nat) (sg : Nat → Nat) (tr : Option Nat) (hn : n ≤ 600) (hpos : pos ≤ n) (htr : ∀ t, tr = some t → t ≤ n) (ch : Nat) (hch : ch < 2 ^ 31) (hsg : ∀ j, sg j < 2 ^ 31) : ga_Mv l y_Re_readSign b_Re_readSign 2 1 0 0 D (ga_T cI cZ cC cG) [.ref re, .int (nI ch)] [(re, .inr (2, [.ref te, .ref dr, .int (nI pos), .int (tI tr)])), (te, .inr (4, [.ref ta, .int (nI n)])), (ta, .inl (cC, 600, .inl (nA sg)))] (fun (x : Nat × Option Nat) => [(re, .inr (2, [.ref te, .ref dr, .int (nI x.1), .int (tI x.2)])), (te, .inr (4, [.ref ta, .int (nI n)])), (ta, .inl (cC, 600, .inl (nA sg)))]) (fun x => x = gp_rs sg n ch (pos, tr)) := by
  refine ga_enV (by decide) (Nat.le_of_ble_eq_true rfl) ?_
  intro p e s m below meth c ls A S hrt hlk hnm hK hP hD hA hl
  have hS : va_S A s.heap s.heap [] := va_S.rf
  obtain ⟨hx, hb, hml, hown, hts⟩ := id S
  have hl : lv_has ls 2 [(0, .ref re), (1, .int (nI ch))] := hl
  refine lv_aload_n hx hb d_Re_readSign_0 rfl (lv_at hl 0 rfl) ?_
  refine ga_cr (As := []) (rest := []) (q0 := 0) S hK hP s_Re_38 (gc_Re_isFine l D cI cZ cC cG re te dr pos tr (fun t q => by have := htr t q; omega)) [0] rfl rfl rfl rfl hl.1 rfl (Nat.le_of_ble_eq_true rfl) ⟨Nat.le_of_ble_eq_true rfl, Nat.le_of_ble_eq_true rfl⟩ ⟨Nat.le_of_ble_eq_true rfl, Nat.le_of_ble_eq_true rfl⟩ d_Re_readSign_1 (fun r hp1 => ?_)
  rcases hp1 with ⟨rfl, hp1⟩ | ⟨rfl, hp1⟩
  · subst hp1
    refine lv_if_ne (tgt := 8) hx hb d_Re_readSign_4 (by decide) (fun c4 => ?_) (fun c4 => ?_)
    · refine lv_aload_n hx hb d_Re_readSign_8 rfl (lv_at hl 0 rfl) ?_
      refine ga_get S hK hP 0 rfl f_Re_12 rfl d_Re_readSign_9 ?_
      refine lv_aload_n hx hb d_Re_readSign_12 rfl (lv_at hl 0 rfl) ?_
      refine ga_get S hK hP 0 rfl f_Re_32 rfl d_Re_readSign_13 ?_
      refine ga_cr (As := [.int (nI pos)]) (rest := []) (q0 := 1) S hK hP s_Re_45 (gc_Te_signAt l D cI cZ cC cG te ta n pos sg (by omega) (by omega)) [1, 2] rfl rfl rfl rfl hl.1 rfl (Nat.le_of_ble_eq_true rfl) ⟨Nat.le_of_ble_eq_true rfl, Nat.le_of_ble_eq_true rfl⟩ ⟨Nat.le_of_ble_eq_true rfl, Nat.le_of_ble_eq_true rfl⟩ d_Re_readSign_16 (fun r hp16 => ?_)
      subst hp16
      have hg := gp_sg_lt hsg n pos
      refine lv_iload_n hx hb d_Re_readSign_19 rfl (lv_at hl 1 rfl) ?_
      refine lv_icmp_ne (tgt := 36) hx hb d_Re_readSign_20 (by decide) (fun c20 => ?_) (fun c20 => ?_)
      · have c20 : ¬ ((gp_sg sg n pos) = ch) := fun q => c20 ((nI_eq (a := (gp_sg sg n pos)) (b := ch) (by omega) (by omega)).mpr q)
        refine lv_aload_n hx hb d_Re_readSign_36 rfl (lv_at hl 0 rfl) ?_
        refine lv_aload_n hx hb d_Re_readSign_37 rfl (lv_at hl 0 rfl) ?_
        refine ga_get S hK hP 0 rfl f_Re_32 rfl d_Re_readSign_38 ?_
        refine ga_put (ws' := [(re, .inr (2, [.ref te, .ref dr, .int (nI pos), .int (nI pos)])), (te, .inr (4, [.ref ta, .int (nI n)])), (ta, .inl (cC, 600, .inl (nA sg)))]) S hK hP hD hS 0 rfl p_Re_25 rfl rfl (Nat.le_of_ble_eq_true rfl) rfl d_Re_readSign_41 (fun H locs hP hD hS => ?_)
        exact ga_wv (pos, some pos) S hrt hlk hP hD hS (by rw [gp_rs, if_pos rfl, if_neg c20]) d_Re_readSign_44
      · have c20 : (gp_sg sg n pos) = ch := (nI_eq (a := (gp_sg sg n pos)) (b := ch) (by omega) (by omega)).mp c20
        refine lv_aload_n hx hb d_Re_readSign_23 rfl (lv_at hl 0 rfl) ?_
        refine lv_dup hx hb d_Re_readSign_24 rfl ?_
        refine ga_get S hK hP 0 rfl f_Re_32 rfl d_Re_readSign_25 ?_
        refine lv_iconst (v := 1) hx hb d_Re_readSign_28 (by decide) ?_
        refine lv_iadd hx hb d_Re_readSign_29 ?_
        refine ga_top (nI (pos + 1)) (nI_add pos 1) ?_
        refine ga_put (ws' := [(re, .inr (2, [.ref te, .ref dr, .int (nI (pos + 1)), .int (tI none)])), (te, .inr (4, [.ref ta, .int (nI n)])), (ta, .inl (cC, 600, .inl (nA sg)))]) S hK hP hD hS 0 rfl p_Re_32 rfl rfl (Nat.le_of_ble_eq_true rfl) rfl d_Re_readSign_30 (fun H locs hP hD hS => ?_)
        refine lv_goto (tgt := 44) hx hb d_Re_readSign_33 (by decide) ?_
        exact ga_wv (pos + 1, none) S hrt hlk hP hD hS (by rw [gp_rs, if_pos rfl, if_pos c20]) d_Re_readSign_44
    · exact absurd c4 (by decide)
  · refine lv_if_ne (tgt := 8) hx hb d_Re_readSign_4 (by decide) (fun c4 => ?_) (fun c4 => ?_)
    · exact absurd c4 (by decide)
    · exact ga_wv (pos, tr) S hrt hlk hP hD hS (by rw [gp_rs, if_neg hp1]) d_Re_readSign_7
set_option maxHeartbeats 4000000 in
set_option maxRecDepth 100000 in
theorem gc_Re_readPlus (l : Launch) (D : va_G) (cI cZ cC cG : ClassId) (re te ta dr n pos : Nat) (sg : Nat → Nat) (tr : Option Nat) (hn : n ≤ 600) (hpos : pos ≤ n) (htr : ∀ t, tr = some t → t ≤ n) (hsg : ∀ j, sg j < 2 ^ 31) : ga_Mi l y_Re_readPlus b_Re_readPlus 1 (some .boolean) 1 0 0 D (ga_T cI cZ cC cG) [.ref re] [(re, .inr (2, [.ref te, .ref dr, .int (nI pos), .int (tI tr)])), (te, .inr (4, [.ref ta, .int (nI n)])), (ta, .inl (cC, 600, .inl (nA sg)))] (fun (x : Bool × Nat) => [(re, .inr (2, [.ref te, .ref dr, .int (nI x.2), .int (tI tr)])), (te, .inr (4, [.ref ta, .int (nI n)])), (ta, .inl (cC, 600, .inl (nA sg)))]) (fun r x => r = bI x.1 ∧ x = gp_rp sg n (pos, tr)) := by
  refine ga_enI (by decide) (Nat.le_of_ble_eq_true rfl) ?_
  intro p e s m below meth c ls A S hrt hlk hK hP hD hA hl
  have hS : va_S A s.heap s.heap [] := va_S.rf
  obtain ⟨hx, hb, hml, hown, hts⟩ := id S
  have hl : lv_has ls 1 [(0, .ref re)] := hl
  refine lv_aload_n hx hb d_Re_readPlus_0 rfl (lv_at hl 0 rfl) ?_
  refine ga_cr (As := []) (rest := []) (q0 := 0) S hK hP s_Re_38 (gc_Re_isFine l D cI cZ cC cG re te dr pos tr (fun t q => by have := htr t q; omega)) [0] rfl rfl rfl rfl hl.1 rfl (Nat.le_of_ble_eq_true rfl) ⟨Nat.le_of_ble_eq_true rfl, Nat.le_of_ble_eq_true rfl⟩ ⟨Nat.le_of_ble_eq_true rfl, Nat.le_of_ble_eq_true rfl⟩ d_Re_readPlus_1 (fun r hp1 => ?_)
  rcases hp1 with ⟨rfl, hp1⟩ | ⟨rfl, hp1⟩
  · subst hp1
    refine lv_if_eq (tgt := 23) hx hb d_Re_readPlus_4 (by decide) (fun c4 => ?_) (fun c4 => ?_)
    · exact absurd c4 (by decide)
    · refine lv_aload_n hx hb d_Re_readPlus_7 rfl (lv_at hl 0 rfl) ?_
      refine ga_get S hK hP 0 rfl f_Re_12 rfl d_Re_readPlus_8 ?_
      refine lv_aload_n hx hb d_Re_readPlus_11 rfl (lv_at hl 0 rfl) ?_
      refine ga_get S hK hP 0 rfl f_Re_32 rfl d_Re_readPlus_12 ?_
      refine ga_cr (As := [.int (nI pos)]) (rest := []) (q0 := 1) S hK hP s_Re_45 (gc_Te_signAt l D cI cZ cC cG te ta n pos sg (by omega) (by omega)) [1, 2] rfl rfl rfl rfl hl.1 rfl (Nat.le_of_ble_eq_true rfl) ⟨Nat.le_of_ble_eq_true rfl, Nat.le_of_ble_eq_true rfl⟩ ⟨Nat.le_of_ble_eq_true rfl, Nat.le_of_ble_eq_true rfl⟩ d_Re_readPlus_15 (fun r hp15 => ?_)
      subst hp15
      have hg := gp_sg_lt hsg n pos
      refine lv_bipush (v := 43) hx hb d_Re_readPlus_18 (by decide) ?_
      refine lv_icmp_eq (tgt := 25) hx hb d_Re_readPlus_20 (by decide) (fun c20 => ?_) (fun c20 => ?_)
      · have c20 : (gp_sg sg n pos) = 43 := (nI_eq (a := (gp_sg sg n pos)) (b := 43) (by omega) (by omega)).mp c20
        refine lv_aload_n hx hb d_Re_readPlus_25 rfl (lv_at hl 0 rfl) ?_
        refine lv_dup hx hb d_Re_readPlus_26 rfl ?_
        refine ga_get S hK hP 0 rfl f_Re_32 rfl d_Re_readPlus_27 ?_
        refine lv_iconst (v := 1) hx hb d_Re_readPlus_30 (by decide) ?_
        refine lv_iadd hx hb d_Re_readPlus_31 ?_
        refine ga_top (nI (pos + 1)) (nI_add pos 1) ?_
        refine ga_put (ws' := [(re, .inr (2, [.ref te, .ref dr, .int (nI (pos + 1)), .int (tI none)])), (te, .inr (4, [.ref ta, .int (nI n)])), (ta, .inl (cC, 600, .inl (nA sg)))]) S hK hP hD hS 0 rfl p_Re_32 rfl rfl (Nat.le_of_ble_eq_true rfl) rfl d_Re_readPlus_32 (fun H locs hP hD hS => ?_)
        refine lv_iconst (v := 1) hx hb d_Re_readPlus_35 (by decide) ?_
        exact ga_wz (true, pos + 1) S hrt hlk (Or.inr rfl) hP hD hS ⟨rfl, by rw [gp_rp, if_pos ⟨rfl, c20⟩]⟩ d_Re_readPlus_36
      · have c20 : ¬ ((gp_sg sg n pos) = 43) := fun q => c20 ((nI_eq (a := (gp_sg sg n pos)) (b := 43) (by omega) (by omega)).mpr q)
        refine lv_iconst (v := 0) hx hb d_Re_readPlus_23 (by decide) ?_
        exact ga_wz (false, pos) S hrt hlk (Or.inl rfl) hP hD hS ⟨rfl, by rw [gp_rp, if_neg (fun q => by first | exact hp1 q.1 | exact c20 q.2)]⟩ d_Re_readPlus_24
  · refine lv_if_eq (tgt := 23) hx hb d_Re_readPlus_4 (by decide) (fun c4 => ?_) (fun c4 => ?_)
    · refine lv_iconst (v := 0) hx hb d_Re_readPlus_23 (by decide) ?_
      exact ga_wz (false, pos) S hrt hlk (Or.inl rfl) hP hD hS ⟨rfl, by rw [gp_rp, if_neg (fun q => by first | exact hp1 q.1 | exact c20 q.2)]⟩ d_Re_readPlus_24
    · exact absurd c4 (by decide)
set_option maxHeartbeats 4000000 in
set_option maxRecDepth 100000 in
theorem gc_Re_readNumber (l : Launch) (D : va_G) (cI cZ cC cG : ClassId) (re te ta dr n pos : Nat) (sg : Nat → Nat) (tr : Option Nat) (hn : n ≤ 600) (hpos : pos ≤ n) (htr : ∀ t, tr = some t → t ≤ n) (lo hi : Nat) (hlo : lo < 2 ^ 31) (hhi : hi < 2 ^ 31) (hsg : ∀ j, sg j < 2 ^ 31) : ga_Mi l y_Re_readNumber b_Re_readNumber 6 (some .int) 2 0 0 D (ga_T cI cZ cC cG) [.ref re, .int (nI lo), .int (nI hi)] [(re, .inr (2, [.ref te, .ref dr, .int (nI pos), .int (tI tr)])), (te, .inr (4, [.ref ta, .int (nI n)])), (ta, .inl (cC, 600, .inl (nA sg)))] (fun (x : Nat × Nat × Option Nat) => [(re, .inr (2, [.ref te, .ref dr, .int (nI x.2.1), .int (tI x.2.2)])), (te, .inr (4, [.ref ta, .int (nI n)])), (ta, .inl (cC, 600, .inl (nA sg)))]) (fun r x => r = nI x.1 ∧ x = gp_rn sg n lo hi (pos, tr)) := by
  refine ga_enI (by decide) (Nat.le_of_ble_eq_true rfl) ?_
  intro p e s m below meth c ls A S hrt hlk hK hP hD hA hl
  have hS : va_S A s.heap s.heap [] := va_S.rf
  obtain ⟨hx, hb, hml, hown, hts⟩ := id S
  have hl : lv_has ls 6 [(0, .ref re), (1, .int (nI lo)), (2, .int (nI hi))] := hl
  refine lv_aload_n hx hb d_Re_readNumber_0 rfl (lv_at hl 0 rfl) ?_
  refine ga_cr (As := []) (rest := []) (q0 := 0) S hK hP s_Re_38 (gc_Re_isFine l D cI cZ cC cG re te dr pos tr (fun t q => by have := htr t q; omega)) [0] rfl rfl rfl rfl hl.1 rfl (Nat.le_of_ble_eq_true rfl) ⟨Nat.le_of_ble_eq_true rfl, Nat.le_of_ble_eq_true rfl⟩ ⟨Nat.le_of_ble_eq_true rfl, Nat.le_of_ble_eq_true rfl⟩ d_Re_readNumber_1 (fun r hp1 => ?_)
  rcases hp1 with ⟨rfl, hp1⟩ | ⟨rfl, hp1⟩
  · subst hp1
    refine lv_if_ne (tgt := 9) hx hb d_Re_readNumber_4 (by decide) (fun c4 => ?_) (fun c4 => ?_)
    · refine lv_aload_n hx hb d_Re_readNumber_9 rfl (lv_at hl 0 rfl) ?_
      refine ga_get S hK hP 0 rfl f_Re_32 rfl d_Re_readNumber_10 ?_
      refine lv_istore_n (lv' := [(3, .int (nI pos)), (0, .ref re), (1, .int (nI lo)), (2, .int (nI hi))]) hx hb d_Re_readNumber_13 rfl hl (by decide) rfl (fun ls hl => ?_)
      refine lv_iconst (v := 0) hx hb d_Re_readNumber_14 (by decide) ?_
      refine lv_istore (lv' := [(4, .int 0), (3, .int (nI pos)), (0, .ref re), (1, .int (nI lo)), (2, .int (nI hi))]) hx hb d_Re_readNumber_15 hl (by decide) rfl (fun ls hl => ?_)
      refine lv_iconst (v := 0) hx hb d_Re_readNumber_17 (by decide) ?_
      refine lv_istore (lv' := [(5, .int 0), (4, .int 0), (3, .int (nI pos)), (0, .ref re), (1, .int (nI lo)), (2, .int (nI hi))]) hx hb d_Re_readNumber_18 hl (by decide) rfl (fun ls hl => ?_)
      refine ga_loop (α := Nat × Nat × Nat) (fun x => match x with | (fg, nu, po) => 4 - fg) (fun x ls H locs => match x with | (fg, nu, po) => lv_has ls 6 [(5, .int (nI fg)), (4, .int (nI nu)), (3, .int (nI pos)), (0, .ref re), (1, .int (nI lo)), (2, .int (nI hi))] ∧ va_P D vwCl [(re, .inr (2, [.ref te, .ref dr, .int (nI po), .int (tI none)])), (te, .inr (4, [.ref ta, .int (nI n)])), (ta, .inl (cC, 600, .inl (nA sg)))] H ∧ va_D A [(re, .inr (2, [.ref te, .ref dr, .int (nI po), .int (tI none)])), (te, .inr (4, [.ref ta, .int (nI n)])), (ta, .inl (cC, 600, .inl (nA sg)))] ∧ va_S A s.heap H locs ∧ fg ≤ 4 ∧ po ≤ n ∧ nu < 10 ^ fg ∧ gp_dg sg n (4 - fg) po nu = gp_dg sg n 4 pos 0) ?_ (0, 0, pos) ⟨lv_sub hl [0, 1, 2, 3, 4, 5] rfl, hP, hD, hS, ⟨by decide, hpos, by decide, rfl⟩⟩
      intro x ls H locs hI ih
      obtain ⟨fg, nu, po⟩ := x
      obtain ⟨hl, hP, hD, hS, ⟨hfg, hpo, hnu, hiv⟩⟩ := hI
      have hl : lv_has ls 6 [(5, .int (nI fg)), (4, .int (nI nu)), (3, .int (nI pos)), (0, .ref re), (1, .int (nI lo)), (2, .int (nI hi))] := hl
      have hP : va_P D vwCl [(re, .inr (2, [.ref te, .ref dr, .int (nI po), .int (tI none)])), (te, .inr (4, [.ref ta, .int (nI n)])), (ta, .inl (cC, 600, .inl (nA sg)))] H := hP
      have hD : va_D A [(re, .inr (2, [.ref te, .ref dr, .int (nI po), .int (tI none)])), (te, .inr (4, [.ref ta, .int (nI n)])), (ta, .inl (cC, 600, .inl (nA sg)))] := hD
      have h10 := gp_p10 hfg
      refine lv_iload hx hb d_Re_readNumber_20 (lv_at hl 0 rfl) ?_
      refine lv_iconst (v := 4) hx hb d_Re_readNumber_22 (by decide) ?_
      refine lv_icmp_ge (tgt := 81) hx hb d_Re_readNumber_23 (by decide) (fun c23 => ?_) (fun c23 => ?_)
      · have c23 : 4 ≤ fg := (nI_leI (a := 4) (b := fg) (by omega) (by omega)).mp c23
        have hq : gp_dg sg n 4 pos 0 = (nu, po) := by rw [← hiv, show 4 - fg = 0 by omega]; rfl
        refine lv_aload_n hx hb d_Re_readNumber_81 rfl (lv_at hl 3 rfl) ?_
        refine ga_get S hK hP 0 rfl f_Re_32 rfl d_Re_readNumber_82 ?_
        refine lv_iload_n hx hb d_Re_readNumber_85 rfl (lv_at hl 2 rfl) ?_
        refine lv_icmp_eq (tgt := 99) hx hb d_Re_readNumber_86 (by decide) (fun c86 => ?_) (fun c86 => ?_)
        · have c86 : po = pos := (nI_eq (a := po) (b := pos) (by omega) (by omega)).mp c86
          refine lv_aload_n hx hb d_Re_readNumber_99 rfl (lv_at hl 3 rfl) ?_
          refine lv_iload_n hx hb d_Re_readNumber_100 rfl (lv_at hl 2 rfl) ?_
          refine ga_put (ws' := [(re, .inr (2, [.ref te, .ref dr, .int (nI po), .int (nI pos)])), (te, .inr (4, [.ref ta, .int (nI n)])), (ta, .inl (cC, 600, .inl (nA sg)))]) S hK hP hD hS 0 rfl p_Re_25 rfl rfl (Nat.le_of_ble_eq_true rfl) rfl d_Re_readNumber_101 (fun H locs hP hD hS => ?_)
          refine lv_iload_n hx hb d_Re_readNumber_104 rfl (lv_at hl 4 rfl) ?_
          exact ga_wi (lo, po, some pos) S hrt hlk hP hD hS ⟨rfl, (gp_rn_bad hq (by first | exact Or.inl c86 | exact Or.inr hp93)).symm⟩ d_Re_readNumber_105
        · have c86 : ¬ (po = pos) := fun q => c86 ((nI_eq (a := po) (b := pos) (by omega) (by omega)).mpr q)
          refine lv_iload hx hb d_Re_readNumber_89 (lv_at hl 1 rfl) ?_
          refine lv_iload_n hx hb d_Re_readNumber_91 rfl (lv_at hl 4 rfl) ?_
          refine lv_iload_n hx hb d_Re_readNumber_92 rfl (lv_at hl 5 rfl) ?_
          refine ga_cs (As := [.int (nI nu), .int (nI lo), .int (nI hi)]) (rest := []) S hK hP s_Re_90 (gc_SP_isWithin l D cI cZ cC cG (nI nu) (nI lo) (nI hi)) [] rfl rfl hl.1 rfl (Nat.le_of_ble_eq_true rfl) ⟨Nat.le_of_ble_eq_true rfl, Nat.le_of_ble_eq_true rfl⟩ ⟨Nat.le_of_ble_eq_true rfl, Nat.le_of_ble_eq_true rfl⟩ d_Re_readNumber_93 (fun r hp93 => ?_)
          rcases hp93 with ⟨rfl, hp93⟩ | ⟨rfl, hp93⟩
          · have hp93 : lo ≤ nu ∧ nu ≤ hi := ⟨(nI_leI (a := lo) (b := nu) (by omega) (by omega)).mp hp93.1, (nI_leI (a := nu) (b := hi) (by omega) (by omega)).mp hp93.2⟩
            refine lv_if_ne (tgt := 106) hx hb d_Re_readNumber_96 (by decide) (fun c96 => ?_) (fun c96 => ?_)
            · refine lv_iload hx hb d_Re_readNumber_106 (lv_at hl 1 rfl) ?_
              exact ga_wi (nu, po, none) S hrt hlk hP hD hS ⟨rfl, (gp_rn_ok hq c86 hp93).symm⟩ d_Re_readNumber_108
            · exact absurd c96 (by decide)
          · have hp93 : ¬ (lo ≤ nu ∧ nu ≤ hi) := fun q => hp93 ⟨(nI_leI (a := lo) (b := nu) (by omega) (by omega)).mpr q.1, (nI_leI (a := nu) (b := hi) (by omega) (by omega)).mpr q.2⟩
            refine lv_if_ne (tgt := 106) hx hb d_Re_readNumber_96 (by decide) (fun c96 => ?_) (fun c96 => ?_)
            · exact absurd c96 (by decide)
            · refine lv_aload_n hx hb d_Re_readNumber_99 rfl (lv_at hl 3 rfl) ?_
              refine lv_iload_n hx hb d_Re_readNumber_100 rfl (lv_at hl 2 rfl) ?_
              refine ga_put (ws' := [(re, .inr (2, [.ref te, .ref dr, .int (nI po), .int (nI pos)])), (te, .inr (4, [.ref ta, .int (nI n)])), (ta, .inl (cC, 600, .inl (nA sg)))]) S hK hP hD hS 0 rfl p_Re_25 rfl rfl (Nat.le_of_ble_eq_true rfl) rfl d_Re_readNumber_101 (fun H locs hP hD hS => ?_)
              refine lv_iload_n hx hb d_Re_readNumber_104 rfl (lv_at hl 4 rfl) ?_
              exact ga_wi (lo, po, some pos) S hrt hlk hP hD hS ⟨rfl, (gp_rn_bad hq (by first | exact Or.inl c86 | exact Or.inr hp93)).symm⟩ d_Re_readNumber_105
      · have c23 : ¬ (4 ≤ fg) := fun q => c23 ((nI_leI (a := 4) (b := fg) (by omega) (by omega)).mpr q)
        refine lv_aload_n hx hb d_Re_readNumber_26 rfl (lv_at hl 3 rfl) ?_
        refine ga_get S hK hP 0 rfl f_Re_12 rfl d_Re_readNumber_27 ?_
        refine lv_aload_n hx hb d_Re_readNumber_30 rfl (lv_at hl 3 rfl) ?_
        refine ga_get S hK hP 0 rfl f_Re_32 rfl d_Re_readNumber_31 ?_
        refine ga_cr (As := [.int (nI po)]) (rest := []) (q0 := 1) S hK hP s_Re_45 (gc_Te_signAt l D cI cZ cC cG te ta n po sg (by omega) (by omega)) [1, 2] rfl rfl rfl rfl hl.1 rfl (Nat.le_of_ble_eq_true rfl) ⟨Nat.le_of_ble_eq_true rfl, Nat.le_of_ble_eq_true rfl⟩ ⟨Nat.le_of_ble_eq_true rfl, Nat.le_of_ble_eq_true rfl⟩ d_Re_readNumber_34 (fun r hp34 => ?_)
        subst hp34
        have hg := gp_sg_lt hsg n po
        refine ga_cs (As := [.int (nI (gp_sg sg n po))]) (rest := []) S hK hP s_Re_86 (gc_Re_isFigure l D cI cZ cC cG (gp_sg sg n po) (by omega)) [] rfl rfl hl.1 rfl (Nat.le_of_ble_eq_true rfl) ⟨Nat.le_of_ble_eq_true rfl, Nat.le_of_ble_eq_true rfl⟩ ⟨Nat.le_of_ble_eq_true rfl, Nat.le_of_ble_eq_true rfl⟩ d_Re_readNumber_37 (fun r hp37 => ?_)
        rcases hp37 with ⟨rfl, hp37⟩ | ⟨rfl, hp37⟩
        · have hd : gp_dg sg n (4 - (fg + 1)) (po + 1) (((nu * 10) + (gp_sg sg n po)) - 48) = gp_dg sg n 4 pos 0 := by rw [← hiv, show 4 - fg = (4 - (fg + 1)) + 1 by omega, gp_dg, if_pos hp37]
          have hlt := gp_sg_pos (sg := sg) (n := n) (i := po) (by omega)
          refine lv_if_eq (tgt := 81) hx hb d_Re_readNumber_40 (by decide) (fun c40 => ?_) (fun c40 => ?_)
          · exact absurd c40 (by decide)
          · refine lv_iload hx hb d_Re_readNumber_43 (lv_at hl 1 rfl) ?_
            refine lv_bipush (v := 10) hx hb d_Re_readNumber_45 (by decide) ?_
            refine lv_imul hx hb d_Re_readNumber_47 ?_
            refine ga_top (nI (nu * 10)) (pk_mul nu 10) ?_
            refine lv_aload_n hx hb d_Re_readNumber_48 rfl (lv_at hl 3 rfl) ?_
            refine ga_get S hK hP 0 rfl f_Re_12 rfl d_Re_readNumber_49 ?_
            refine lv_aload_n hx hb d_Re_readNumber_52 rfl (lv_at hl 3 rfl) ?_
            refine ga_get S hK hP 0 rfl f_Re_32 rfl d_Re_readNumber_53 ?_
            refine ga_cr (As := [.int (nI po)]) (rest := [.int (nI (nu * 10))]) (q0 := 1) S hK hP s_Re_45 (gc_Te_signAt l D cI cZ cC cG te ta n po sg (by omega) (by omega)) [1, 2] rfl rfl rfl rfl hl.1 rfl (Nat.le_of_ble_eq_true rfl) ⟨Nat.le_of_ble_eq_true rfl, Nat.le_of_ble_eq_true rfl⟩ ⟨Nat.le_of_ble_eq_true rfl, Nat.le_of_ble_eq_true rfl⟩ d_Re_readNumber_56 (fun r hp56 => ?_)
            subst hp56
            refine lv_iadd hx hb d_Re_readNumber_59 ?_
            refine ga_top (nI ((nu * 10) + (gp_sg sg n po))) (nI_add (nu * 10) (gp_sg sg n po)) ?_
            refine lv_bipush (v := 48) hx hb d_Re_readNumber_60 (by decide) ?_
            refine lv_isub hx hb d_Re_readNumber_62 ?_
            refine ga_top (nI (((nu * 10) + (gp_sg sg n po)) - 48)) (pk_sub (a := ((nu * 10) + (gp_sg sg n po))) (b := 48) (by omega)) ?_
            refine lv_istore (lv' := [(4, .int (nI (((nu * 10) + (gp_sg sg n po)) - 48))), (5, .int (nI fg)), (3, .int (nI pos)), (0, .ref re), (1, .int (nI lo)), (2, .int (nI hi))]) hx hb d_Re_readNumber_63 hl (by decide) rfl (fun ls hl => ?_)
            refine lv_aload_n hx hb d_Re_readNumber_65 rfl (lv_at hl 3 rfl) ?_
            refine lv_dup hx hb d_Re_readNumber_66 rfl ?_
            refine ga_get S hK hP 0 rfl f_Re_32 rfl d_Re_readNumber_67 ?_
            refine lv_iconst (v := 1) hx hb d_Re_readNumber_70 (by decide) ?_
            refine lv_iadd hx hb d_Re_readNumber_71 ?_
            refine ga_top (nI (po + 1)) (nI_add po 1) ?_
            refine ga_put (ws' := [(re, .inr (2, [.ref te, .ref dr, .int (nI (po + 1)), .int (tI none)])), (te, .inr (4, [.ref ta, .int (nI n)])), (ta, .inl (cC, 600, .inl (nA sg)))]) S hK hP hD hS 0 rfl p_Re_32 rfl rfl (Nat.le_of_ble_eq_true rfl) rfl d_Re_readNumber_72 (fun H locs hP hD hS => ?_)
            refine lv_iinc (v := nI (fg + 1)) (lv' := [(5, .int (nI (fg + 1))), (4, .int (nI (((nu * 10) + (gp_sg sg n po)) - 48))), (3, .int (nI pos)), (0, .ref re), (1, .int (nI lo)), (2, .int (nI hi))]) hx hb d_Re_readNumber_75 hl (k := 1) rfl (ga_inc fg) (by decide) rfl (fun ls hl => ?_)
            refine lv_goto (tgt := 20) hx hb d_Re_readNumber_78 (by decide) ?_
            exact ih (fg + 1, ((nu * 10) + (gp_sg sg n po)) - 48, po + 1) _ _ _ (by show (4 - (fg + 1)) < (4 - fg); omega) ⟨lv_sub hl [0, 1, 2, 3, 4, 5] rfl, hP, hD, hS, by omega, by omega, by rw [Nat.pow_succ]; omega, hd⟩
        · have hq : gp_dg sg n 4 pos 0 = (nu, po) := by rw [← hiv, show 4 - fg = (4 - (fg + 1)) + 1 by omega, gp_dg, if_neg hp37]
          refine lv_if_eq (tgt := 81) hx hb d_Re_readNumber_40 (by decide) (fun c40 => ?_) (fun c40 => ?_)
          · refine lv_aload_n hx hb d_Re_readNumber_81 rfl (lv_at hl 3 rfl) ?_
            refine ga_get S hK hP 0 rfl f_Re_32 rfl d_Re_readNumber_82 ?_
            refine lv_iload_n hx hb d_Re_readNumber_85 rfl (lv_at hl 2 rfl) ?_
            refine lv_icmp_eq (tgt := 99) hx hb d_Re_readNumber_86 (by decide) (fun c86 => ?_) (fun c86 => ?_)
            · have c86 : po = pos := (nI_eq (a := po) (b := pos) (by omega) (by omega)).mp c86
              refine lv_aload_n hx hb d_Re_readNumber_99 rfl (lv_at hl 3 rfl) ?_
              refine lv_iload_n hx hb d_Re_readNumber_100 rfl (lv_at hl 2 rfl) ?_
              refine ga_put (ws' := [(re, .inr (2, [.ref te, .ref dr, .int (nI po), .int (nI pos)])), (te, .inr (4, [.ref ta, .int (nI n)])), (ta, .inl (cC, 600, .inl (nA sg)))]) S hK hP hD hS 0 rfl p_Re_25 rfl rfl (Nat.le_of_ble_eq_true rfl) rfl d_Re_readNumber_101 (fun H locs hP hD hS => ?_)
              refine lv_iload_n hx hb d_Re_readNumber_104 rfl (lv_at hl 4 rfl) ?_
              exact ga_wi (lo, po, some pos) S hrt hlk hP hD hS ⟨rfl, (gp_rn_bad hq (by first | exact Or.inl c86 | exact Or.inr hp93)).symm⟩ d_Re_readNumber_105
            · have c86 : ¬ (po = pos) := fun q => c86 ((nI_eq (a := po) (b := pos) (by omega) (by omega)).mpr q)
              refine lv_iload hx hb d_Re_readNumber_89 (lv_at hl 1 rfl) ?_
              refine lv_iload_n hx hb d_Re_readNumber_91 rfl (lv_at hl 4 rfl) ?_
              refine lv_iload_n hx hb d_Re_readNumber_92 rfl (lv_at hl 5 rfl) ?_
              refine ga_cs (As := [.int (nI nu), .int (nI lo), .int (nI hi)]) (rest := []) S hK hP s_Re_90 (gc_SP_isWithin l D cI cZ cC cG (nI nu) (nI lo) (nI hi)) [] rfl rfl hl.1 rfl (Nat.le_of_ble_eq_true rfl) ⟨Nat.le_of_ble_eq_true rfl, Nat.le_of_ble_eq_true rfl⟩ ⟨Nat.le_of_ble_eq_true rfl, Nat.le_of_ble_eq_true rfl⟩ d_Re_readNumber_93 (fun r hp93 => ?_)
              rcases hp93 with ⟨rfl, hp93⟩ | ⟨rfl, hp93⟩
              · have hp93 : lo ≤ nu ∧ nu ≤ hi := ⟨(nI_leI (a := lo) (b := nu) (by omega) (by omega)).mp hp93.1, (nI_leI (a := nu) (b := hi) (by omega) (by omega)).mp hp93.2⟩
                refine lv_if_ne (tgt := 106) hx hb d_Re_readNumber_96 (by decide) (fun c96 => ?_) (fun c96 => ?_)
                · refine lv_iload hx hb d_Re_readNumber_106 (lv_at hl 1 rfl) ?_
                  exact ga_wi (nu, po, none) S hrt hlk hP hD hS ⟨rfl, (gp_rn_ok hq c86 hp93).symm⟩ d_Re_readNumber_108
                · exact absurd c96 (by decide)
              · have hp93 : ¬ (lo ≤ nu ∧ nu ≤ hi) := fun q => hp93 ⟨(nI_leI (a := lo) (b := nu) (by omega) (by omega)).mpr q.1, (nI_leI (a := nu) (b := hi) (by omega) (by omega)).mpr q.2⟩
                refine lv_if_ne (tgt := 106) hx hb d_Re_readNumber_96 (by decide) (fun c96 => ?_) (fun c96 => ?_)
                · exact absurd c96 (by decide)
                · refine lv_aload_n hx hb d_Re_readNumber_99 rfl (lv_at hl 3 rfl) ?_
                  refine lv_iload_n hx hb d_Re_readNumber_100 rfl (lv_at hl 2 rfl) ?_
                  refine ga_put (ws' := [(re, .inr (2, [.ref te, .ref dr, .int (nI po), .int (nI pos)])), (te, .inr (4, [.ref ta, .int (nI n)])), (ta, .inl (cC, 600, .inl (nA sg)))]) S hK hP hD hS 0 rfl p_Re_25 rfl rfl (Nat.le_of_ble_eq_true rfl) rfl d_Re_readNumber_101 (fun H locs hP hD hS => ?_)
                  refine lv_iload_n hx hb d_Re_readNumber_104 rfl (lv_at hl 4 rfl) ?_
                  exact ga_wi (lo, po, some pos) S hrt hlk hP hD hS ⟨rfl, (gp_rn_bad hq (by first | exact Or.inl c86 | exact Or.inr hp93)).symm⟩ d_Re_readNumber_105
          · exact absurd c40 (by decide)
    · exact absurd c4 (by decide)
  · refine lv_if_ne (tgt := 9) hx hb d_Re_readNumber_4 (by decide) (fun c4 => ?_) (fun c4 => ?_)
    · exact absurd c4 (by decide)
    · refine lv_iload_n hx hb d_Re_readNumber_7 rfl (lv_at hl 1 rfl) ?_
      exact ga_wi (lo, pos, tr) S hrt hlk hP hD hS ⟨rfl, (gp_rn_some hp1).symm⟩ d_Re_readNumber_8
set_option maxHeartbeats 4000000 in
set_option maxRecDepth 100000 in
theorem gc_Re_readRange (l : Launch) (D : va_G) (cI cZ cC cG : ClassId) (re te ta dr n pos : Nat) (sg : Nat → Nat) (hn : n ≤ 600) (hpos : pos ≤ n) (q1 q2 q3 q4 q5 q6 q7 q8 q9 : Nat) (us : Nat → Bool) (r1 r2 r3 r4 : Nat → Nat) (rg : Nat) (hsg : ∀ j, sg j < 2 ^ 31) (hrg : 9 * rg + 1 ≤ pos) : ga_Mv l y_Re_readRange b_Re_readRange 5 3 0 0 D (ga_T cI cZ cC cG) [.ref re] [(re, .inr (2, [.ref te, .ref dr, .int (nI pos), .int (tI none)])), (te, .inr (4, [.ref ta, .int (nI n)])), (ta, .inl (cC, 600, .inl (nA sg))), (dr, .inr (1, [.ref q1, .ref q2, .ref q3, .ref q4, .ref q5, .ref q6, .ref q7, .ref q8, .ref q9, .int (nI rg)])), (q3, .inl (cZ, 41, .inl (zA us))), (q6, .inl (cI, 66, .inl (nA r1))), (q7, .inl (cI, 66, .inl (nA r2))), (q8, .inl (cI, 66, .inl (nA r3))), (q9, .inl (cI, 66, .inl (nA r4)))] (fun (x : Nat × Option Nat × (Nat → Bool) × (Nat → Nat) × (Nat → Nat) × (Nat → Nat) × (Nat → Nat) × Nat) => [(re, .inr (2, [.ref te, .ref dr, .int (nI x.1), .int (tI x.2.1)])), (te, .inr (4, [.ref ta, .int (nI n)])), (ta, .inl (cC, 600, .inl (nA sg))), (dr, .inr (1, [.ref q1, .ref q2, .ref q3, .ref q4, .ref q5, .ref q6, .ref q7, .ref q8, .ref q9, .int (nI x.2.2.2.2.2.2.2)])), (q3, .inl (cZ, 41, .inl (zA x.2.2.1))), (q6, .inl (cI, 66, .inl (nA x.2.2.2.1))), (q7, .inl (cI, 66, .inl (nA x.2.2.2.2.1))), (q8, .inl (cI, 66, .inl (nA x.2.2.2.2.2.1))), (q9, .inl (cI, 66, .inl (nA x.2.2.2.2.2.2.1)))]) (fun x => ∃ w1 w3 w5 w7, gp_T sg n pos = (w1, w3, w5, w7, x.1, x.2.1) ∧ ((x.2.1 = none ∧ x.2.2 = (va_up us w1 true, va_up r1 rg w1, va_up r2 rg w3, va_up r3 rg w5, va_up r4 rg w7, rg + 1)) ∨ (x.2.1 ≠ none ∧ x.2.2 = (us, r1, r2, r3, r4, rg)))) := by
  refine ga_enV (by decide) (Nat.le_of_ble_eq_true rfl) ?_
  intro p e s m below meth c ls A S hrt hlk hnm hK hP hD hA hl
  have hS : va_S A s.heap s.heap [] := va_S.rf
  obtain ⟨hx, hb, hml, hown, hts⟩ := id S
  have hl : lv_has ls 5 [(0, .ref re)] := hl
  have htr : ∀ t, (none : Option Nat) = some t → t ≤ n := (fun _ q => by cases q)
  refine lv_aload_n hx hb d_Re_readRange_0 rfl (lv_at hl 0 rfl) ?_
  refine lv_iconst (v := 1) hx hb d_Re_readRange_1 (by decide) ?_
  refine lv_bipush (v := 40) hx hb d_Re_readRange_2 (by decide) ?_
  refine ga_ji (wr := [(dr, .inr (1, [.ref q1, .ref q2, .ref q3, .ref q4, .ref q5, .ref q6, .ref q7, .ref q8, .ref q9, .int (nI rg)])), (q3, .inl (cZ, 41, .inl (zA us))), (q6, .inl (cI, 66, .inl (nA r1))), (q7, .inl (cI, 66, .inl (nA r2))), (q8, .inl (cI, 66, .inl (nA r3))), (q9, .inl (cI, 66, .inl (nA r4)))]) (ga_runV (As := [.int 1, .int 40]) (rest := []) S hK s_Re_59 (gc_Re_readNumber l D cI cZ cC cG re te ta dr n pos sg none (by omega) (by omega) htr 1 40 (by omega) (by omega) hsg _) (ga_prV (y := y_Re_readNumber) (q0 := 0) hK hP hD [0, 1, 2] rfl (by decide) rfl rfl) rfl hl.1 rfl (Nat.le_of_ble_eq_true rfl) ⟨Nat.le_of_ble_eq_true rfl, Nat.le_of_ble_eq_true rfl⟩ ⟨Nat.le_of_ble_eq_true rfl, Nat.le_of_ble_eq_true rfl⟩ d_Re_readRange_4) hP hD hS hA [0, 1, 2] [3, 4, 5, 6, 7, 8] rfl rfl (by decide) (by decide) [6, 7, 8, 0, 1, 2, 3, 4, 5] (fun (x : Nat × Nat × Option Nat) => [(re, .inr (2, [.ref te, .ref dr, .int (nI x.2.1), .int (tI x.2.2)])), (te, .inr (4, [.ref ta, .int (nI n)])), (ta, .inl (cC, 600, .inl (nA sg))), (dr, .inr (1, [.ref q1, .ref q2, .ref q3, .ref q4, .ref q5, .ref q6, .ref q7, .ref q8, .ref q9, .int (nI rg)])), (q3, .inl (cZ, 41, .inl (zA us))), (q6, .inl (cI, 66, .inl (nA r1))), (q7, .inl (cI, 66, .inl (nA r2))), (q8, .inl (cI, 66, .inl (nA r3))), (q9, .inl (cI, 66, .inl (nA r4)))]) (fun _ => rfl) (by decide) (fun r x H locs hp4 hP hD hS => ?_)
  obtain ⟨w1, po1, tr1⟩ := x
  have hP : va_P D vwCl [(re, .inr (2, [.ref te, .ref dr, .int (nI po1), .int (tI tr1)])), (te, .inr (4, [.ref ta, .int (nI n)])), (ta, .inl (cC, 600, .inl (nA sg))), (dr, .inr (1, [.ref q1, .ref q2, .ref q3, .ref q4, .ref q5, .ref q6, .ref q7, .ref q8, .ref q9, .int (nI rg)])), (q3, .inl (cZ, 41, .inl (zA us))), (q6, .inl (cI, 66, .inl (nA r1))), (q7, .inl (cI, 66, .inl (nA r2))), (q8, .inl (cI, 66, .inl (nA r3))), (q9, .inl (cI, 66, .inl (nA r4)))] H := hP
  have hD : va_D A [(re, .inr (2, [.ref te, .ref dr, .int (nI po1), .int (tI tr1)])), (te, .inr (4, [.ref ta, .int (nI n)])), (ta, .inl (cC, 600, .inl (nA sg))), (dr, .inr (1, [.ref q1, .ref q2, .ref q3, .ref q4, .ref q5, .ref q6, .ref q7, .ref q8, .ref q9, .int (nI rg)])), (q3, .inl (cZ, 41, .inl (zA us))), (q6, .inl (cI, 66, .inl (nA r1))), (q7, .inl (cI, 66, .inl (nA r2))), (q8, .inl (cI, 66, .inl (nA r3))), (q9, .inl (cI, 66, .inl (nA r4)))] := hD
  obtain ⟨rfl, hp4⟩ := hp4
  obtain ⟨ha1, hb1, hc1, hd1, he1, hf1⟩ := gp_rn_bd hp4 (by omega) (by omega) htr
  refine lv_istore_n (lv' := [(1, .int (nI w1)), (0, .ref re)]) hx hb d_Re_readRange_7 rfl hl (by decide) rfl (fun ls hl => ?_)
  refine lv_aload_n hx hb d_Re_readRange_8 rfl (lv_at hl 1 rfl) ?_
  refine lv_bipush (v := 44) hx hb d_Re_readRange_9 (by decide) ?_
  refine ga_jv (wr := [(dr, .inr (1, [.ref q1, .ref q2, .ref q3, .ref q4, .ref q5, .ref q6, .ref q7, .ref q8, .ref q9, .int (nI rg)])), (q3, .inl (cZ, 41, .inl (zA us))), (q6, .inl (cI, 66, .inl (nA r1))), (q7, .inl (cI, 66, .inl (nA r2))), (q8, .inl (cI, 66, .inl (nA r3))), (q9, .inl (cI, 66, .inl (nA r4)))]) (ga_runV (As := [.int 44]) (rest := []) S hK s_Re_63 (gc_Re_readSign l D cI cZ cC cG re te ta dr n po1 sg tr1 (by omega) (by omega) hf1 44 (by omega) hsg _) (ga_prV (y := y_Re_readSign) (q0 := 0) hK hP hD [0, 1, 2] rfl (by decide) rfl rfl) rfl hl.1 rfl (Nat.le_of_ble_eq_true rfl) ⟨Nat.le_of_ble_eq_true rfl, Nat.le_of_ble_eq_true rfl⟩ ⟨Nat.le_of_ble_eq_true rfl, Nat.le_of_ble_eq_true rfl⟩ d_Re_readRange_11) hP hD hS hA [0, 1, 2] [3, 4, 5, 6, 7, 8] rfl rfl (by decide) (by decide) [6, 7, 8, 0, 1, 2, 3, 4, 5] (fun (x : Nat × Option Nat) => [(re, .inr (2, [.ref te, .ref dr, .int (nI x.1), .int (tI x.2)])), (te, .inr (4, [.ref ta, .int (nI n)])), (ta, .inl (cC, 600, .inl (nA sg))), (dr, .inr (1, [.ref q1, .ref q2, .ref q3, .ref q4, .ref q5, .ref q6, .ref q7, .ref q8, .ref q9, .int (nI rg)])), (q3, .inl (cZ, 41, .inl (zA us))), (q6, .inl (cI, 66, .inl (nA r1))), (q7, .inl (cI, 66, .inl (nA r2))), (q8, .inl (cI, 66, .inl (nA r3))), (q9, .inl (cI, 66, .inl (nA r4)))]) (fun _ => rfl) (by decide) (fun x H locs hp11 hP hD hS => ?_)
  obtain ⟨po2, tr2⟩ := x
  have hP : va_P D vwCl [(re, .inr (2, [.ref te, .ref dr, .int (nI po2), .int (tI tr2)])), (te, .inr (4, [.ref ta, .int (nI n)])), (ta, .inl (cC, 600, .inl (nA sg))), (dr, .inr (1, [.ref q1, .ref q2, .ref q3, .ref q4, .ref q5, .ref q6, .ref q7, .ref q8, .ref q9, .int (nI rg)])), (q3, .inl (cZ, 41, .inl (zA us))), (q6, .inl (cI, 66, .inl (nA r1))), (q7, .inl (cI, 66, .inl (nA r2))), (q8, .inl (cI, 66, .inl (nA r3))), (q9, .inl (cI, 66, .inl (nA r4)))] H := hP
  have hD : va_D A [(re, .inr (2, [.ref te, .ref dr, .int (nI po2), .int (tI tr2)])), (te, .inr (4, [.ref ta, .int (nI n)])), (ta, .inl (cC, 600, .inl (nA sg))), (dr, .inr (1, [.ref q1, .ref q2, .ref q3, .ref q4, .ref q5, .ref q6, .ref q7, .ref q8, .ref q9, .int (nI rg)])), (q3, .inl (cZ, 41, .inl (zA us))), (q6, .inl (cI, 66, .inl (nA r1))), (q7, .inl (cI, 66, .inl (nA r2))), (q8, .inl (cI, 66, .inl (nA r3))), (q9, .inl (cI, 66, .inl (nA r4)))] := hD
  obtain ⟨hc2, hd2, he2, hf2⟩ := gp_rs_bd hp11 (by omega) (by omega) hf1
  refine lv_aload_n hx hb d_Re_readRange_14 rfl (lv_at hl 1 rfl) ?_
  refine lv_iconst (v := 0) hx hb d_Re_readRange_15 (by decide) ?_
  refine lv_sipush (v := 9999) hx hb d_Re_readRange_16 (by decide) ?_
  refine ga_ji (wr := [(dr, .inr (1, [.ref q1, .ref q2, .ref q3, .ref q4, .ref q5, .ref q6, .ref q7, .ref q8, .ref q9, .int (nI rg)])), (q3, .inl (cZ, 41, .inl (zA us))), (q6, .inl (cI, 66, .inl (nA r1))), (q7, .inl (cI, 66, .inl (nA r2))), (q8, .inl (cI, 66, .inl (nA r3))), (q9, .inl (cI, 66, .inl (nA r4)))]) (ga_runV (As := [.int 0, .int 9999]) (rest := []) S hK s_Re_59 (gc_Re_readNumber l D cI cZ cC cG re te ta dr n po2 sg tr2 (by omega) (by omega) hf2 0 9999 (by omega) (by omega) hsg _) (ga_prV (y := y_Re_readNumber) (q0 := 0) hK hP hD [0, 1, 2] rfl (by decide) rfl rfl) rfl hl.1 rfl (Nat.le_of_ble_eq_true rfl) ⟨Nat.le_of_ble_eq_true rfl, Nat.le_of_ble_eq_true rfl⟩ ⟨Nat.le_of_ble_eq_true rfl, Nat.le_of_ble_eq_true rfl⟩ d_Re_readRange_19) hP hD hS hA [0, 1, 2] [3, 4, 5, 6, 7, 8] rfl rfl (by decide) (by decide) [6, 7, 8, 0, 1, 2, 3, 4, 5] (fun (x : Nat × Nat × Option Nat) => [(re, .inr (2, [.ref te, .ref dr, .int (nI x.2.1), .int (tI x.2.2)])), (te, .inr (4, [.ref ta, .int (nI n)])), (ta, .inl (cC, 600, .inl (nA sg))), (dr, .inr (1, [.ref q1, .ref q2, .ref q3, .ref q4, .ref q5, .ref q6, .ref q7, .ref q8, .ref q9, .int (nI rg)])), (q3, .inl (cZ, 41, .inl (zA us))), (q6, .inl (cI, 66, .inl (nA r1))), (q7, .inl (cI, 66, .inl (nA r2))), (q8, .inl (cI, 66, .inl (nA r3))), (q9, .inl (cI, 66, .inl (nA r4)))]) (fun _ => rfl) (by decide) (fun r x H locs hp19 hP hD hS => ?_)
  obtain ⟨w3, po3, tr3⟩ := x
  have hP : va_P D vwCl [(re, .inr (2, [.ref te, .ref dr, .int (nI po3), .int (tI tr3)])), (te, .inr (4, [.ref ta, .int (nI n)])), (ta, .inl (cC, 600, .inl (nA sg))), (dr, .inr (1, [.ref q1, .ref q2, .ref q3, .ref q4, .ref q5, .ref q6, .ref q7, .ref q8, .ref q9, .int (nI rg)])), (q3, .inl (cZ, 41, .inl (zA us))), (q6, .inl (cI, 66, .inl (nA r1))), (q7, .inl (cI, 66, .inl (nA r2))), (q8, .inl (cI, 66, .inl (nA r3))), (q9, .inl (cI, 66, .inl (nA r4)))] H := hP
  have hD : va_D A [(re, .inr (2, [.ref te, .ref dr, .int (nI po3), .int (tI tr3)])), (te, .inr (4, [.ref ta, .int (nI n)])), (ta, .inl (cC, 600, .inl (nA sg))), (dr, .inr (1, [.ref q1, .ref q2, .ref q3, .ref q4, .ref q5, .ref q6, .ref q7, .ref q8, .ref q9, .int (nI rg)])), (q3, .inl (cZ, 41, .inl (zA us))), (q6, .inl (cI, 66, .inl (nA r1))), (q7, .inl (cI, 66, .inl (nA r2))), (q8, .inl (cI, 66, .inl (nA r3))), (q9, .inl (cI, 66, .inl (nA r4)))] := hD
  obtain ⟨rfl, hp19⟩ := hp19
  obtain ⟨ha3, hb3, hc3, hd3, he3, hf3⟩ := gp_rn_bd hp19 (by omega) (by omega) hf2
  refine lv_istore_n (lv' := [(2, .int (nI w3)), (1, .int (nI w1)), (0, .ref re)]) hx hb d_Re_readRange_22 rfl hl (by decide) rfl (fun ls hl => ?_)
  refine lv_aload_n hx hb d_Re_readRange_23 rfl (lv_at hl 2 rfl) ?_
  refine lv_bipush (v := 45) hx hb d_Re_readRange_24 (by decide) ?_
  refine ga_jv (wr := [(dr, .inr (1, [.ref q1, .ref q2, .ref q3, .ref q4, .ref q5, .ref q6, .ref q7, .ref q8, .ref q9, .int (nI rg)])), (q3, .inl (cZ, 41, .inl (zA us))), (q6, .inl (cI, 66, .inl (nA r1))), (q7, .inl (cI, 66, .inl (nA r2))), (q8, .inl (cI, 66, .inl (nA r3))), (q9, .inl (cI, 66, .inl (nA r4)))]) (ga_runV (As := [.int 45]) (rest := []) S hK s_Re_63 (gc_Re_readSign l D cI cZ cC cG re te ta dr n po3 sg tr3 (by omega) (by omega) hf3 45 (by omega) hsg _) (ga_prV (y := y_Re_readSign) (q0 := 0) hK hP hD [0, 1, 2] rfl (by decide) rfl rfl) rfl hl.1 rfl (Nat.le_of_ble_eq_true rfl) ⟨Nat.le_of_ble_eq_true rfl, Nat.le_of_ble_eq_true rfl⟩ ⟨Nat.le_of_ble_eq_true rfl, Nat.le_of_ble_eq_true rfl⟩ d_Re_readRange_26) hP hD hS hA [0, 1, 2] [3, 4, 5, 6, 7, 8] rfl rfl (by decide) (by decide) [6, 7, 8, 0, 1, 2, 3, 4, 5] (fun (x : Nat × Option Nat) => [(re, .inr (2, [.ref te, .ref dr, .int (nI x.1), .int (tI x.2)])), (te, .inr (4, [.ref ta, .int (nI n)])), (ta, .inl (cC, 600, .inl (nA sg))), (dr, .inr (1, [.ref q1, .ref q2, .ref q3, .ref q4, .ref q5, .ref q6, .ref q7, .ref q8, .ref q9, .int (nI rg)])), (q3, .inl (cZ, 41, .inl (zA us))), (q6, .inl (cI, 66, .inl (nA r1))), (q7, .inl (cI, 66, .inl (nA r2))), (q8, .inl (cI, 66, .inl (nA r3))), (q9, .inl (cI, 66, .inl (nA r4)))]) (fun _ => rfl) (by decide) (fun x H locs hp26 hP hD hS => ?_)
  obtain ⟨po4, tr4⟩ := x
  have hP : va_P D vwCl [(re, .inr (2, [.ref te, .ref dr, .int (nI po4), .int (tI tr4)])), (te, .inr (4, [.ref ta, .int (nI n)])), (ta, .inl (cC, 600, .inl (nA sg))), (dr, .inr (1, [.ref q1, .ref q2, .ref q3, .ref q4, .ref q5, .ref q6, .ref q7, .ref q8, .ref q9, .int (nI rg)])), (q3, .inl (cZ, 41, .inl (zA us))), (q6, .inl (cI, 66, .inl (nA r1))), (q7, .inl (cI, 66, .inl (nA r2))), (q8, .inl (cI, 66, .inl (nA r3))), (q9, .inl (cI, 66, .inl (nA r4)))] H := hP
  have hD : va_D A [(re, .inr (2, [.ref te, .ref dr, .int (nI po4), .int (tI tr4)])), (te, .inr (4, [.ref ta, .int (nI n)])), (ta, .inl (cC, 600, .inl (nA sg))), (dr, .inr (1, [.ref q1, .ref q2, .ref q3, .ref q4, .ref q5, .ref q6, .ref q7, .ref q8, .ref q9, .int (nI rg)])), (q3, .inl (cZ, 41, .inl (zA us))), (q6, .inl (cI, 66, .inl (nA r1))), (q7, .inl (cI, 66, .inl (nA r2))), (q8, .inl (cI, 66, .inl (nA r3))), (q9, .inl (cI, 66, .inl (nA r4)))] := hD
  obtain ⟨hc4, hd4, he4, hf4⟩ := gp_rs_bd hp26 (by omega) (by omega) hf3
  refine lv_aload_n hx hb d_Re_readRange_29 rfl (lv_at hl 2 rfl) ?_
  refine lv_iload_n hx hb d_Re_readRange_30 rfl (lv_at hl 0 rfl) ?_
  refine lv_sipush (v := 9999) hx hb d_Re_readRange_31 (by decide) ?_
  refine ga_ji (wr := [(dr, .inr (1, [.ref q1, .ref q2, .ref q3, .ref q4, .ref q5, .ref q6, .ref q7, .ref q8, .ref q9, .int (nI rg)])), (q3, .inl (cZ, 41, .inl (zA us))), (q6, .inl (cI, 66, .inl (nA r1))), (q7, .inl (cI, 66, .inl (nA r2))), (q8, .inl (cI, 66, .inl (nA r3))), (q9, .inl (cI, 66, .inl (nA r4)))]) (ga_runV (As := [.int (nI w3), .int 9999]) (rest := []) S hK s_Re_59 (gc_Re_readNumber l D cI cZ cC cG re te ta dr n po4 sg tr4 (by omega) (by omega) hf4 w3 9999 (by omega) (by omega) hsg _) (ga_prV (y := y_Re_readNumber) (q0 := 0) hK hP hD [0, 1, 2] rfl (by decide) rfl rfl) rfl hl.1 rfl (Nat.le_of_ble_eq_true rfl) ⟨Nat.le_of_ble_eq_true rfl, Nat.le_of_ble_eq_true rfl⟩ ⟨Nat.le_of_ble_eq_true rfl, Nat.le_of_ble_eq_true rfl⟩ d_Re_readRange_34) hP hD hS hA [0, 1, 2] [3, 4, 5, 6, 7, 8] rfl rfl (by decide) (by decide) [6, 7, 8, 0, 1, 2, 3, 4, 5] (fun (x : Nat × Nat × Option Nat) => [(re, .inr (2, [.ref te, .ref dr, .int (nI x.2.1), .int (tI x.2.2)])), (te, .inr (4, [.ref ta, .int (nI n)])), (ta, .inl (cC, 600, .inl (nA sg))), (dr, .inr (1, [.ref q1, .ref q2, .ref q3, .ref q4, .ref q5, .ref q6, .ref q7, .ref q8, .ref q9, .int (nI rg)])), (q3, .inl (cZ, 41, .inl (zA us))), (q6, .inl (cI, 66, .inl (nA r1))), (q7, .inl (cI, 66, .inl (nA r2))), (q8, .inl (cI, 66, .inl (nA r3))), (q9, .inl (cI, 66, .inl (nA r4)))]) (fun _ => rfl) (by decide) (fun r x H locs hp34 hP hD hS => ?_)
  obtain ⟨w5, po5, tr5⟩ := x
  have hP : va_P D vwCl [(re, .inr (2, [.ref te, .ref dr, .int (nI po5), .int (tI tr5)])), (te, .inr (4, [.ref ta, .int (nI n)])), (ta, .inl (cC, 600, .inl (nA sg))), (dr, .inr (1, [.ref q1, .ref q2, .ref q3, .ref q4, .ref q5, .ref q6, .ref q7, .ref q8, .ref q9, .int (nI rg)])), (q3, .inl (cZ, 41, .inl (zA us))), (q6, .inl (cI, 66, .inl (nA r1))), (q7, .inl (cI, 66, .inl (nA r2))), (q8, .inl (cI, 66, .inl (nA r3))), (q9, .inl (cI, 66, .inl (nA r4)))] H := hP
  have hD : va_D A [(re, .inr (2, [.ref te, .ref dr, .int (nI po5), .int (tI tr5)])), (te, .inr (4, [.ref ta, .int (nI n)])), (ta, .inl (cC, 600, .inl (nA sg))), (dr, .inr (1, [.ref q1, .ref q2, .ref q3, .ref q4, .ref q5, .ref q6, .ref q7, .ref q8, .ref q9, .int (nI rg)])), (q3, .inl (cZ, 41, .inl (zA us))), (q6, .inl (cI, 66, .inl (nA r1))), (q7, .inl (cI, 66, .inl (nA r2))), (q8, .inl (cI, 66, .inl (nA r3))), (q9, .inl (cI, 66, .inl (nA r4)))] := hD
  obtain ⟨rfl, hp34⟩ := hp34
  obtain ⟨ha5, hb5, hc5, hd5, he5, hf5⟩ := gp_rn_bd hp34 (by omega) (by omega) hf4
  refine lv_istore_n (lv' := [(3, .int (nI w5)), (2, .int (nI w3)), (1, .int (nI w1)), (0, .ref re)]) hx hb d_Re_readRange_37 rfl hl (by decide) rfl (fun ls hl => ?_)
  refine lv_aload_n hx hb d_Re_readRange_38 rfl (lv_at hl 3 rfl) ?_
  refine lv_bipush (v := 44) hx hb d_Re_readRange_39 (by decide) ?_
  refine ga_jv (wr := [(dr, .inr (1, [.ref q1, .ref q2, .ref q3, .ref q4, .ref q5, .ref q6, .ref q7, .ref q8, .ref q9, .int (nI rg)])), (q3, .inl (cZ, 41, .inl (zA us))), (q6, .inl (cI, 66, .inl (nA r1))), (q7, .inl (cI, 66, .inl (nA r2))), (q8, .inl (cI, 66, .inl (nA r3))), (q9, .inl (cI, 66, .inl (nA r4)))]) (ga_runV (As := [.int 44]) (rest := []) S hK s_Re_63 (gc_Re_readSign l D cI cZ cC cG re te ta dr n po5 sg tr5 (by omega) (by omega) hf5 44 (by omega) hsg _) (ga_prV (y := y_Re_readSign) (q0 := 0) hK hP hD [0, 1, 2] rfl (by decide) rfl rfl) rfl hl.1 rfl (Nat.le_of_ble_eq_true rfl) ⟨Nat.le_of_ble_eq_true rfl, Nat.le_of_ble_eq_true rfl⟩ ⟨Nat.le_of_ble_eq_true rfl, Nat.le_of_ble_eq_true rfl⟩ d_Re_readRange_41) hP hD hS hA [0, 1, 2] [3, 4, 5, 6, 7, 8] rfl rfl (by decide) (by decide) [6, 7, 8, 0, 1, 2, 3, 4, 5] (fun (x : Nat × Option Nat) => [(re, .inr (2, [.ref te, .ref dr, .int (nI x.1), .int (tI x.2)])), (te, .inr (4, [.ref ta, .int (nI n)])), (ta, .inl (cC, 600, .inl (nA sg))), (dr, .inr (1, [.ref q1, .ref q2, .ref q3, .ref q4, .ref q5, .ref q6, .ref q7, .ref q8, .ref q9, .int (nI rg)])), (q3, .inl (cZ, 41, .inl (zA us))), (q6, .inl (cI, 66, .inl (nA r1))), (q7, .inl (cI, 66, .inl (nA r2))), (q8, .inl (cI, 66, .inl (nA r3))), (q9, .inl (cI, 66, .inl (nA r4)))]) (fun _ => rfl) (by decide) (fun x H locs hp41 hP hD hS => ?_)
  obtain ⟨po6, tr6⟩ := x
  have hP : va_P D vwCl [(re, .inr (2, [.ref te, .ref dr, .int (nI po6), .int (tI tr6)])), (te, .inr (4, [.ref ta, .int (nI n)])), (ta, .inl (cC, 600, .inl (nA sg))), (dr, .inr (1, [.ref q1, .ref q2, .ref q3, .ref q4, .ref q5, .ref q6, .ref q7, .ref q8, .ref q9, .int (nI rg)])), (q3, .inl (cZ, 41, .inl (zA us))), (q6, .inl (cI, 66, .inl (nA r1))), (q7, .inl (cI, 66, .inl (nA r2))), (q8, .inl (cI, 66, .inl (nA r3))), (q9, .inl (cI, 66, .inl (nA r4)))] H := hP
  have hD : va_D A [(re, .inr (2, [.ref te, .ref dr, .int (nI po6), .int (tI tr6)])), (te, .inr (4, [.ref ta, .int (nI n)])), (ta, .inl (cC, 600, .inl (nA sg))), (dr, .inr (1, [.ref q1, .ref q2, .ref q3, .ref q4, .ref q5, .ref q6, .ref q7, .ref q8, .ref q9, .int (nI rg)])), (q3, .inl (cZ, 41, .inl (zA us))), (q6, .inl (cI, 66, .inl (nA r1))), (q7, .inl (cI, 66, .inl (nA r2))), (q8, .inl (cI, 66, .inl (nA r3))), (q9, .inl (cI, 66, .inl (nA r4)))] := hD
  obtain ⟨hc6, hd6, he6, hf6⟩ := gp_rs_bd hp41 (by omega) (by omega) hf5
  refine lv_aload_n hx hb d_Re_readRange_44 rfl (lv_at hl 3 rfl) ?_
  refine lv_iconst (v := 0) hx hb d_Re_readRange_45 (by decide) ?_
  refine lv_bipush (v := 9) hx hb d_Re_readRange_46 (by decide) ?_
  refine ga_ji (wr := [(dr, .inr (1, [.ref q1, .ref q2, .ref q3, .ref q4, .ref q5, .ref q6, .ref q7, .ref q8, .ref q9, .int (nI rg)])), (q3, .inl (cZ, 41, .inl (zA us))), (q6, .inl (cI, 66, .inl (nA r1))), (q7, .inl (cI, 66, .inl (nA r2))), (q8, .inl (cI, 66, .inl (nA r3))), (q9, .inl (cI, 66, .inl (nA r4)))]) (ga_runV (As := [.int 0, .int 9]) (rest := []) S hK s_Re_59 (gc_Re_readNumber l D cI cZ cC cG re te ta dr n po6 sg tr6 (by omega) (by omega) hf6 0 9 (by omega) (by omega) hsg _) (ga_prV (y := y_Re_readNumber) (q0 := 0) hK hP hD [0, 1, 2] rfl (by decide) rfl rfl) rfl hl.1 rfl (Nat.le_of_ble_eq_true rfl) ⟨Nat.le_of_ble_eq_true rfl, Nat.le_of_ble_eq_true rfl⟩ ⟨Nat.le_of_ble_eq_true rfl, Nat.le_of_ble_eq_true rfl⟩ d_Re_readRange_48) hP hD hS hA [0, 1, 2] [3, 4, 5, 6, 7, 8] rfl rfl (by decide) (by decide) [6, 7, 8, 0, 1, 2, 3, 4, 5] (fun (x : Nat × Nat × Option Nat) => [(re, .inr (2, [.ref te, .ref dr, .int (nI x.2.1), .int (tI x.2.2)])), (te, .inr (4, [.ref ta, .int (nI n)])), (ta, .inl (cC, 600, .inl (nA sg))), (dr, .inr (1, [.ref q1, .ref q2, .ref q3, .ref q4, .ref q5, .ref q6, .ref q7, .ref q8, .ref q9, .int (nI rg)])), (q3, .inl (cZ, 41, .inl (zA us))), (q6, .inl (cI, 66, .inl (nA r1))), (q7, .inl (cI, 66, .inl (nA r2))), (q8, .inl (cI, 66, .inl (nA r3))), (q9, .inl (cI, 66, .inl (nA r4)))]) (fun _ => rfl) (by decide) (fun r x H locs hp48 hP hD hS => ?_)
  obtain ⟨w7, po7, tr7⟩ := x
  have hP : va_P D vwCl [(re, .inr (2, [.ref te, .ref dr, .int (nI po7), .int (tI tr7)])), (te, .inr (4, [.ref ta, .int (nI n)])), (ta, .inl (cC, 600, .inl (nA sg))), (dr, .inr (1, [.ref q1, .ref q2, .ref q3, .ref q4, .ref q5, .ref q6, .ref q7, .ref q8, .ref q9, .int (nI rg)])), (q3, .inl (cZ, 41, .inl (zA us))), (q6, .inl (cI, 66, .inl (nA r1))), (q7, .inl (cI, 66, .inl (nA r2))), (q8, .inl (cI, 66, .inl (nA r3))), (q9, .inl (cI, 66, .inl (nA r4)))] H := hP
  have hD : va_D A [(re, .inr (2, [.ref te, .ref dr, .int (nI po7), .int (tI tr7)])), (te, .inr (4, [.ref ta, .int (nI n)])), (ta, .inl (cC, 600, .inl (nA sg))), (dr, .inr (1, [.ref q1, .ref q2, .ref q3, .ref q4, .ref q5, .ref q6, .ref q7, .ref q8, .ref q9, .int (nI rg)])), (q3, .inl (cZ, 41, .inl (zA us))), (q6, .inl (cI, 66, .inl (nA r1))), (q7, .inl (cI, 66, .inl (nA r2))), (q8, .inl (cI, 66, .inl (nA r3))), (q9, .inl (cI, 66, .inl (nA r4)))] := hD
  obtain ⟨rfl, hp48⟩ := hp48
  obtain ⟨ha7, hb7, hc7, hd7, he7, hf7⟩ := gp_rn_bd hp48 (by omega) (by omega) hf6
  refine lv_istore (lv' := [(4, .int (nI w7)), (3, .int (nI w5)), (2, .int (nI w3)), (1, .int (nI w1)), (0, .ref re)]) hx hb d_Re_readRange_51 hl (by decide) rfl (fun ls hl => ?_)
  refine lv_aload_n hx hb d_Re_readRange_53 rfl (lv_at hl 4 rfl) ?_
  refine lv_bipush (v := 59) hx hb d_Re_readRange_54 (by decide) ?_
  refine ga_jv (wr := [(dr, .inr (1, [.ref q1, .ref q2, .ref q3, .ref q4, .ref q5, .ref q6, .ref q7, .ref q8, .ref q9, .int (nI rg)])), (q3, .inl (cZ, 41, .inl (zA us))), (q6, .inl (cI, 66, .inl (nA r1))), (q7, .inl (cI, 66, .inl (nA r2))), (q8, .inl (cI, 66, .inl (nA r3))), (q9, .inl (cI, 66, .inl (nA r4)))]) (ga_runV (As := [.int 59]) (rest := []) S hK s_Re_63 (gc_Re_readSign l D cI cZ cC cG re te ta dr n po7 sg tr7 (by omega) (by omega) hf7 59 (by omega) hsg _) (ga_prV (y := y_Re_readSign) (q0 := 0) hK hP hD [0, 1, 2] rfl (by decide) rfl rfl) rfl hl.1 rfl (Nat.le_of_ble_eq_true rfl) ⟨Nat.le_of_ble_eq_true rfl, Nat.le_of_ble_eq_true rfl⟩ ⟨Nat.le_of_ble_eq_true rfl, Nat.le_of_ble_eq_true rfl⟩ d_Re_readRange_56) hP hD hS hA [0, 1, 2] [3, 4, 5, 6, 7, 8] rfl rfl (by decide) (by decide) [6, 7, 8, 0, 1, 2, 3, 4, 5] (fun (x : Nat × Option Nat) => [(re, .inr (2, [.ref te, .ref dr, .int (nI x.1), .int (tI x.2)])), (te, .inr (4, [.ref ta, .int (nI n)])), (ta, .inl (cC, 600, .inl (nA sg))), (dr, .inr (1, [.ref q1, .ref q2, .ref q3, .ref q4, .ref q5, .ref q6, .ref q7, .ref q8, .ref q9, .int (nI rg)])), (q3, .inl (cZ, 41, .inl (zA us))), (q6, .inl (cI, 66, .inl (nA r1))), (q7, .inl (cI, 66, .inl (nA r2))), (q8, .inl (cI, 66, .inl (nA r3))), (q9, .inl (cI, 66, .inl (nA r4)))]) (fun _ => rfl) (by decide) (fun x H locs hp56 hP hD hS => ?_)
  obtain ⟨po8, tr8⟩ := x
  have hP : va_P D vwCl [(re, .inr (2, [.ref te, .ref dr, .int (nI po8), .int (tI tr8)])), (te, .inr (4, [.ref ta, .int (nI n)])), (ta, .inl (cC, 600, .inl (nA sg))), (dr, .inr (1, [.ref q1, .ref q2, .ref q3, .ref q4, .ref q5, .ref q6, .ref q7, .ref q8, .ref q9, .int (nI rg)])), (q3, .inl (cZ, 41, .inl (zA us))), (q6, .inl (cI, 66, .inl (nA r1))), (q7, .inl (cI, 66, .inl (nA r2))), (q8, .inl (cI, 66, .inl (nA r3))), (q9, .inl (cI, 66, .inl (nA r4)))] H := hP
  have hD : va_D A [(re, .inr (2, [.ref te, .ref dr, .int (nI po8), .int (tI tr8)])), (te, .inr (4, [.ref ta, .int (nI n)])), (ta, .inl (cC, 600, .inl (nA sg))), (dr, .inr (1, [.ref q1, .ref q2, .ref q3, .ref q4, .ref q5, .ref q6, .ref q7, .ref q8, .ref q9, .int (nI rg)])), (q3, .inl (cZ, 41, .inl (zA us))), (q6, .inl (cI, 66, .inl (nA r1))), (q7, .inl (cI, 66, .inl (nA r2))), (q8, .inl (cI, 66, .inl (nA r3))), (q9, .inl (cI, 66, .inl (nA r4)))] := hD
  obtain ⟨hc8, hd8, he8, hf8⟩ := gp_rs_bd hp56 (by omega) (by omega) hf7
  refine lv_aload_n hx hb d_Re_readRange_59 rfl (lv_at hl 4 rfl) ?_
  refine ga_cr (As := []) (rest := []) (q0 := 0) S hK hP s_Re_38 (gc_Re_isFine l D cI cZ cC cG re te dr po8 tr8 (fun t q => by have := hf8 t q; omega)) [0] rfl rfl rfl rfl hl.1 rfl (Nat.le_of_ble_eq_true rfl) ⟨Nat.le_of_ble_eq_true rfl, Nat.le_of_ble_eq_true rfl⟩ ⟨Nat.le_of_ble_eq_true rfl, Nat.le_of_ble_eq_true rfl⟩ d_Re_readRange_60 (fun r hp60 => ?_)
  rcases hp60 with ⟨rfl, hp60⟩ | ⟨rfl, hp60⟩
  · subst hp60
    have hq1 := he8 rfl
    have hq2 := he7 hq1.1
    have hq3 := he6 hq2.1
    have hq4 := he5 hq3.1
    have hq5 := he4 hq4.1
    have hq6 := he3 hq5.1
    have hq7 := he2 hq6.1
    have hq8 := he1 hq7.1
    refine lv_if_eq (tgt := 78) hx hb d_Re_readRange_63 (by decide) (fun c63 => ?_) (fun c63 => ?_)
    · exact absurd c63 (by decide)
    · refine lv_aload_n hx hb d_Re_readRange_66 rfl (lv_at hl 4 rfl) ?_
      refine ga_get S hK hP 0 rfl f_Re_21 rfl d_Re_readRange_67 ?_
      refine lv_iload_n hx hb d_Re_readRange_70 rfl (lv_at hl 3 rfl) ?_
      refine lv_iload_n hx hb d_Re_readRange_71 rfl (lv_at hl 2 rfl) ?_
      refine lv_iload_n hx hb d_Re_readRange_72 rfl (lv_at hl 1 rfl) ?_
      refine lv_iload hx hb d_Re_readRange_73 (lv_at hl 0 rfl) ?_
      refine ga_jv (wr := [(re, .inr (2, [.ref te, .ref dr, .int (nI po8), .int (tI none)])), (te, .inr (4, [.ref ta, .int (nI n)])), (ta, .inl (cC, 600, .inl (nA sg)))]) (ga_runV (As := [.int (nI w1), .int (nI w3), .int (nI w5), .int (nI w7)]) (rest := []) S hK s_Re_67 (gc_Pl_addRange l D cI cZ cC cG dr q1 q2 q3 q4 q5 q6 q7 q8 q9 rg w1 w3 w5 w7 us r1 r2 r3 r4 (by omega) (by omega) _) (ga_prV (y := y_Pl_addRange) (q0 := 3) hK hP hD [3, 4, 5, 6, 7, 8] rfl (by decide) rfl rfl) rfl hl.1 rfl (Nat.le_of_ble_eq_true rfl) ⟨Nat.le_of_ble_eq_true rfl, Nat.le_of_ble_eq_true rfl⟩ ⟨Nat.le_of_ble_eq_true rfl, Nat.le_of_ble_eq_true rfl⟩ d_Re_readRange_75) hP hD hS hA [3, 4, 5, 6, 7, 8] [0, 1, 2] rfl rfl (by decide) (by decide) [0, 1, 2, 3, 4, 5, 6, 7, 8] (fun _ => [(re, .inr (2, [.ref te, .ref dr, .int (nI po8), .int (tI none)])), (te, .inr (4, [.ref ta, .int (nI n)])), (ta, .inl (cC, 600, .inl (nA sg))), (dr, .inr (1, [.ref q1, .ref q2, .ref q3, .ref q4, .ref q5, .ref q6, .ref q7, .ref q8, .ref q9, .int (nI (rg + 1))])), (q3, .inl (cZ, 41, .inl (zA (va_up us w1 true)))), (q6, .inl (cI, 66, .inl (nA (va_up r1 rg w1)))), (q7, .inl (cI, 66, .inl (nA (va_up r2 rg w3)))), (q8, .inl (cI, 66, .inl (nA (va_up r3 rg w5)))), (q9, .inl (cI, 66, .inl (nA (va_up r4 rg w7))))]) (fun _ => rfl) (by decide) (fun x H locs hp75 hP hD hS => ?_)
      exact ga_wv (po8, none, va_up us w1 true, va_up r1 rg w1, va_up r2 rg w3, va_up r3 rg w5, va_up r4 rg w7, rg + 1) S hrt hlk hP hD hS ⟨w1, w3, w5, w7, gp_T_eq hp4 hp11 hp19 hp26 hp34 hp41 hp48 hp56, Or.inl ⟨rfl, rfl⟩⟩ d_Re_readRange_78
  · refine lv_if_eq (tgt := 78) hx hb d_Re_readRange_63 (by decide) (fun c63 => ?_) (fun c63 => ?_)
    · exact ga_wv (po8, tr8, us, r1, r2, r3, r4, rg) S hrt hlk hP hD hS ⟨w1, w3, w5, w7, gp_T_eq hp4 hp11 hp19 hp26 hp34 hp41 hp48 hp56, Or.inr ⟨hp60, rfl⟩⟩ d_Re_readRange_78
    · exact absurd c63 (by decide)
set_option maxHeartbeats 4000000 in
set_option maxRecDepth 100000 in
theorem gc_Re_readBin (l : Launch) (D : va_G) (cI cZ cC cG : ClassId) (re te ta dr n pos : Nat) (sg : Nat → Nat) (hn : n ≤ 600) (hpos : pos ≤ n) (q1 q2 q3 q4 q5 q6 q7 q8 q9 : Nat) (rg st : Nat) (bn : Nat → Nat) (shr : Nat → Bool) (hsg : ∀ j, sg j < 2 ^ 31) (hbn : ∀ j, bn j < 2 ^ 31) : ga_Mv l y_Re_readBin b_Re_readBin 7 3 0 0 D (ga_T cI cZ cC cG) [.ref re, .int (nI st)] [(re, .inr (2, [.ref te, .ref dr, .int (nI pos), .int (tI none)])), (te, .inr (4, [.ref ta, .int (nI n)])), (ta, .inl (cC, 600, .inl (nA sg))), (dr, .inr (1, [.ref q1, .ref q2, .ref q3, .ref q4, .ref q5, .ref q6, .ref q7, .ref q8, .ref q9, .int (nI rg)])), (q1, .inl (cI, 480, .inl (nA bn))), (q2, .inl (cZ, 480, .inl (zA shr)))] (fun (x : Nat × Option Nat × (Nat → Nat) × (Nat → Bool)) => [(re, .inr (2, [.ref te, .ref dr, .int (nI x.1), .int (tI x.2.1)])), (te, .inr (4, [.ref ta, .int (nI n)])), (ta, .inl (cC, 600, .inl (nA sg))), (dr, .inr (1, [.ref q1, .ref q2, .ref q3, .ref q4, .ref q5, .ref q6, .ref q7, .ref q8, .ref q9, .int (nI rg)])), (q1, .inl (cI, 480, .inl (nA x.2.2.1))), (q2, .inl (cZ, 480, .inl (zA x.2.2.2)))]) (fun x => ∃ w1 w3 w5 w7 b8 t, gp_B sg n pos = (w1, w3, w5, w7, b8, x.1, t) ∧ ((t = none ∧ bn (gp_sl w1 w3 w5) = 0 ∧ x.2.1 = none ∧ x.2.2 = (va_up bn (gp_sl w1 w3 w5) w7, va_up shr (gp_sl w1 w3 w5) b8)) ∨ (t = none ∧ bn (gp_sl w1 w3 w5) ≠ 0 ∧ x.2.1 = some st ∧ x.2.2 = (bn, shr)) ∨ (t ≠ none ∧ x.2.1 = t ∧ x.2.2 = (bn, shr)))) := by
  refine ga_enV (by decide) (Nat.le_of_ble_eq_true rfl) ?_
  intro p e s m below meth c ls A S hrt hlk hnm hK hP hD hA hl
  have hS : va_S A s.heap s.heap [] := va_S.rf
  obtain ⟨hx, hb, hml, hown, hts⟩ := id S
  have hl : lv_has ls 7 [(0, .ref re), (1, .int (nI st))] := hl
  have htr : ∀ t, (none : Option Nat) = some t → t ≤ n := (fun _ q => by cases q)
  refine lv_aload_n hx hb d_Re_readBin_0 rfl (lv_at hl 0 rfl) ?_
  refine lv_iconst (v := 1) hx hb d_Re_readBin_1 (by decide) ?_
  refine lv_bipush (v := 40) hx hb d_Re_readBin_2 (by decide) ?_
  refine ga_ji (wr := [(dr, .inr (1, [.ref q1, .ref q2, .ref q3, .ref q4, .ref q5, .ref q6, .ref q7, .ref q8, .ref q9, .int (nI rg)])), (q1, .inl (cI, 480, .inl (nA bn))), (q2, .inl (cZ, 480, .inl (zA shr)))]) (ga_runV (As := [.int 1, .int 40]) (rest := []) S hK s_Re_59 (gc_Re_readNumber l D cI cZ cC cG re te ta dr n pos sg none (by omega) (by omega) htr 1 40 (by omega) (by omega) hsg _) (ga_prV (y := y_Re_readNumber) (q0 := 0) hK hP hD [0, 1, 2] rfl (by decide) rfl rfl) rfl hl.1 rfl (Nat.le_of_ble_eq_true rfl) ⟨Nat.le_of_ble_eq_true rfl, Nat.le_of_ble_eq_true rfl⟩ ⟨Nat.le_of_ble_eq_true rfl, Nat.le_of_ble_eq_true rfl⟩ d_Re_readBin_4) hP hD hS hA [0, 1, 2] [3, 4, 5] rfl rfl (by decide) (by decide) [3, 4, 5, 0, 1, 2] (fun (x : Nat × Nat × Option Nat) => [(re, .inr (2, [.ref te, .ref dr, .int (nI x.2.1), .int (tI x.2.2)])), (te, .inr (4, [.ref ta, .int (nI n)])), (ta, .inl (cC, 600, .inl (nA sg))), (dr, .inr (1, [.ref q1, .ref q2, .ref q3, .ref q4, .ref q5, .ref q6, .ref q7, .ref q8, .ref q9, .int (nI rg)])), (q1, .inl (cI, 480, .inl (nA bn))), (q2, .inl (cZ, 480, .inl (zA shr)))]) (fun _ => rfl) (by decide) (fun r x H locs hp4 hP hD hS => ?_)
  obtain ⟨w1, po1, tr1⟩ := x
  have hP : va_P D vwCl [(re, .inr (2, [.ref te, .ref dr, .int (nI po1), .int (tI tr1)])), (te, .inr (4, [.ref ta, .int (nI n)])), (ta, .inl (cC, 600, .inl (nA sg))), (dr, .inr (1, [.ref q1, .ref q2, .ref q3, .ref q4, .ref q5, .ref q6, .ref q7, .ref q8, .ref q9, .int (nI rg)])), (q1, .inl (cI, 480, .inl (nA bn))), (q2, .inl (cZ, 480, .inl (zA shr)))] H := hP
  have hD : va_D A [(re, .inr (2, [.ref te, .ref dr, .int (nI po1), .int (tI tr1)])), (te, .inr (4, [.ref ta, .int (nI n)])), (ta, .inl (cC, 600, .inl (nA sg))), (dr, .inr (1, [.ref q1, .ref q2, .ref q3, .ref q4, .ref q5, .ref q6, .ref q7, .ref q8, .ref q9, .int (nI rg)])), (q1, .inl (cI, 480, .inl (nA bn))), (q2, .inl (cZ, 480, .inl (zA shr)))] := hD
  obtain ⟨rfl, hp4⟩ := hp4
  obtain ⟨ha1, hb1, hc1, hd1, he1, hf1⟩ := gp_rn_bd hp4 (by omega) (by omega) htr
  refine lv_istore_n (lv' := [(2, .int (nI w1)), (0, .ref re), (1, .int (nI st))]) hx hb d_Re_readBin_7 rfl hl (by decide) rfl (fun ls hl => ?_)
  refine lv_aload_n hx hb d_Re_readBin_8 rfl (lv_at hl 1 rfl) ?_
  refine lv_bipush (v := 44) hx hb d_Re_readBin_9 (by decide) ?_
  refine ga_jv (wr := [(dr, .inr (1, [.ref q1, .ref q2, .ref q3, .ref q4, .ref q5, .ref q6, .ref q7, .ref q8, .ref q9, .int (nI rg)])), (q1, .inl (cI, 480, .inl (nA bn))), (q2, .inl (cZ, 480, .inl (zA shr)))]) (ga_runV (As := [.int 44]) (rest := []) S hK s_Re_63 (gc_Re_readSign l D cI cZ cC cG re te ta dr n po1 sg tr1 (by omega) (by omega) hf1 44 (by omega) hsg _) (ga_prV (y := y_Re_readSign) (q0 := 0) hK hP hD [0, 1, 2] rfl (by decide) rfl rfl) rfl hl.1 rfl (Nat.le_of_ble_eq_true rfl) ⟨Nat.le_of_ble_eq_true rfl, Nat.le_of_ble_eq_true rfl⟩ ⟨Nat.le_of_ble_eq_true rfl, Nat.le_of_ble_eq_true rfl⟩ d_Re_readBin_11) hP hD hS hA [0, 1, 2] [3, 4, 5] rfl rfl (by decide) (by decide) [3, 4, 5, 0, 1, 2] (fun (x : Nat × Option Nat) => [(re, .inr (2, [.ref te, .ref dr, .int (nI x.1), .int (tI x.2)])), (te, .inr (4, [.ref ta, .int (nI n)])), (ta, .inl (cC, 600, .inl (nA sg))), (dr, .inr (1, [.ref q1, .ref q2, .ref q3, .ref q4, .ref q5, .ref q6, .ref q7, .ref q8, .ref q9, .int (nI rg)])), (q1, .inl (cI, 480, .inl (nA bn))), (q2, .inl (cZ, 480, .inl (zA shr)))]) (fun _ => rfl) (by decide) (fun x H locs hp11 hP hD hS => ?_)
  obtain ⟨po2, tr2⟩ := x
  have hP : va_P D vwCl [(re, .inr (2, [.ref te, .ref dr, .int (nI po2), .int (tI tr2)])), (te, .inr (4, [.ref ta, .int (nI n)])), (ta, .inl (cC, 600, .inl (nA sg))), (dr, .inr (1, [.ref q1, .ref q2, .ref q3, .ref q4, .ref q5, .ref q6, .ref q7, .ref q8, .ref q9, .int (nI rg)])), (q1, .inl (cI, 480, .inl (nA bn))), (q2, .inl (cZ, 480, .inl (zA shr)))] H := hP
  have hD : va_D A [(re, .inr (2, [.ref te, .ref dr, .int (nI po2), .int (tI tr2)])), (te, .inr (4, [.ref ta, .int (nI n)])), (ta, .inl (cC, 600, .inl (nA sg))), (dr, .inr (1, [.ref q1, .ref q2, .ref q3, .ref q4, .ref q5, .ref q6, .ref q7, .ref q8, .ref q9, .int (nI rg)])), (q1, .inl (cI, 480, .inl (nA bn))), (q2, .inl (cZ, 480, .inl (zA shr)))] := hD
  obtain ⟨hc2, hd2, he2, hf2⟩ := gp_rs_bd hp11 (by omega) (by omega) hf1
  refine lv_aload_n hx hb d_Re_readBin_14 rfl (lv_at hl 1 rfl) ?_
  refine lv_iconst (v := 0) hx hb d_Re_readBin_15 (by decide) ?_
  refine lv_iconst (v := 3) hx hb d_Re_readBin_16 (by decide) ?_
  refine ga_ji (wr := [(dr, .inr (1, [.ref q1, .ref q2, .ref q3, .ref q4, .ref q5, .ref q6, .ref q7, .ref q8, .ref q9, .int (nI rg)])), (q1, .inl (cI, 480, .inl (nA bn))), (q2, .inl (cZ, 480, .inl (zA shr)))]) (ga_runV (As := [.int 0, .int 3]) (rest := []) S hK s_Re_59 (gc_Re_readNumber l D cI cZ cC cG re te ta dr n po2 sg tr2 (by omega) (by omega) hf2 0 3 (by omega) (by omega) hsg _) (ga_prV (y := y_Re_readNumber) (q0 := 0) hK hP hD [0, 1, 2] rfl (by decide) rfl rfl) rfl hl.1 rfl (Nat.le_of_ble_eq_true rfl) ⟨Nat.le_of_ble_eq_true rfl, Nat.le_of_ble_eq_true rfl⟩ ⟨Nat.le_of_ble_eq_true rfl, Nat.le_of_ble_eq_true rfl⟩ d_Re_readBin_17) hP hD hS hA [0, 1, 2] [3, 4, 5] rfl rfl (by decide) (by decide) [3, 4, 5, 0, 1, 2] (fun (x : Nat × Nat × Option Nat) => [(re, .inr (2, [.ref te, .ref dr, .int (nI x.2.1), .int (tI x.2.2)])), (te, .inr (4, [.ref ta, .int (nI n)])), (ta, .inl (cC, 600, .inl (nA sg))), (dr, .inr (1, [.ref q1, .ref q2, .ref q3, .ref q4, .ref q5, .ref q6, .ref q7, .ref q8, .ref q9, .int (nI rg)])), (q1, .inl (cI, 480, .inl (nA bn))), (q2, .inl (cZ, 480, .inl (zA shr)))]) (fun _ => rfl) (by decide) (fun r x H locs hp17 hP hD hS => ?_)
  obtain ⟨w3, po3, tr3⟩ := x
  have hP : va_P D vwCl [(re, .inr (2, [.ref te, .ref dr, .int (nI po3), .int (tI tr3)])), (te, .inr (4, [.ref ta, .int (nI n)])), (ta, .inl (cC, 600, .inl (nA sg))), (dr, .inr (1, [.ref q1, .ref q2, .ref q3, .ref q4, .ref q5, .ref q6, .ref q7, .ref q8, .ref q9, .int (nI rg)])), (q1, .inl (cI, 480, .inl (nA bn))), (q2, .inl (cZ, 480, .inl (zA shr)))] H := hP
  have hD : va_D A [(re, .inr (2, [.ref te, .ref dr, .int (nI po3), .int (tI tr3)])), (te, .inr (4, [.ref ta, .int (nI n)])), (ta, .inl (cC, 600, .inl (nA sg))), (dr, .inr (1, [.ref q1, .ref q2, .ref q3, .ref q4, .ref q5, .ref q6, .ref q7, .ref q8, .ref q9, .int (nI rg)])), (q1, .inl (cI, 480, .inl (nA bn))), (q2, .inl (cZ, 480, .inl (zA shr)))] := hD
  obtain ⟨rfl, hp17⟩ := hp17
  obtain ⟨ha3, hb3, hc3, hd3, he3, hf3⟩ := gp_rn_bd hp17 (by omega) (by omega) hf2
  refine lv_istore_n (lv' := [(3, .int (nI w3)), (2, .int (nI w1)), (0, .ref re), (1, .int (nI st))]) hx hb d_Re_readBin_20 rfl hl (by decide) rfl (fun ls hl => ?_)
  refine lv_aload_n hx hb d_Re_readBin_21 rfl (lv_at hl 2 rfl) ?_
  refine lv_bipush (v := 44) hx hb d_Re_readBin_22 (by decide) ?_
  refine ga_jv (wr := [(dr, .inr (1, [.ref q1, .ref q2, .ref q3, .ref q4, .ref q5, .ref q6, .ref q7, .ref q8, .ref q9, .int (nI rg)])), (q1, .inl (cI, 480, .inl (nA bn))), (q2, .inl (cZ, 480, .inl (zA shr)))]) (ga_runV (As := [.int 44]) (rest := []) S hK s_Re_63 (gc_Re_readSign l D cI cZ cC cG re te ta dr n po3 sg tr3 (by omega) (by omega) hf3 44 (by omega) hsg _) (ga_prV (y := y_Re_readSign) (q0 := 0) hK hP hD [0, 1, 2] rfl (by decide) rfl rfl) rfl hl.1 rfl (Nat.le_of_ble_eq_true rfl) ⟨Nat.le_of_ble_eq_true rfl, Nat.le_of_ble_eq_true rfl⟩ ⟨Nat.le_of_ble_eq_true rfl, Nat.le_of_ble_eq_true rfl⟩ d_Re_readBin_24) hP hD hS hA [0, 1, 2] [3, 4, 5] rfl rfl (by decide) (by decide) [3, 4, 5, 0, 1, 2] (fun (x : Nat × Option Nat) => [(re, .inr (2, [.ref te, .ref dr, .int (nI x.1), .int (tI x.2)])), (te, .inr (4, [.ref ta, .int (nI n)])), (ta, .inl (cC, 600, .inl (nA sg))), (dr, .inr (1, [.ref q1, .ref q2, .ref q3, .ref q4, .ref q5, .ref q6, .ref q7, .ref q8, .ref q9, .int (nI rg)])), (q1, .inl (cI, 480, .inl (nA bn))), (q2, .inl (cZ, 480, .inl (zA shr)))]) (fun _ => rfl) (by decide) (fun x H locs hp24 hP hD hS => ?_)
  obtain ⟨po4, tr4⟩ := x
  have hP : va_P D vwCl [(re, .inr (2, [.ref te, .ref dr, .int (nI po4), .int (tI tr4)])), (te, .inr (4, [.ref ta, .int (nI n)])), (ta, .inl (cC, 600, .inl (nA sg))), (dr, .inr (1, [.ref q1, .ref q2, .ref q3, .ref q4, .ref q5, .ref q6, .ref q7, .ref q8, .ref q9, .int (nI rg)])), (q1, .inl (cI, 480, .inl (nA bn))), (q2, .inl (cZ, 480, .inl (zA shr)))] H := hP
  have hD : va_D A [(re, .inr (2, [.ref te, .ref dr, .int (nI po4), .int (tI tr4)])), (te, .inr (4, [.ref ta, .int (nI n)])), (ta, .inl (cC, 600, .inl (nA sg))), (dr, .inr (1, [.ref q1, .ref q2, .ref q3, .ref q4, .ref q5, .ref q6, .ref q7, .ref q8, .ref q9, .int (nI rg)])), (q1, .inl (cI, 480, .inl (nA bn))), (q2, .inl (cZ, 480, .inl (zA shr)))] := hD
  obtain ⟨hc4, hd4, he4, hf4⟩ := gp_rs_bd hp24 (by omega) (by omega) hf3
  refine lv_aload_n hx hb d_Re_readBin_27 rfl (lv_at hl 2 rfl) ?_
  refine lv_iconst (v := 0) hx hb d_Re_readBin_28 (by decide) ?_
  refine lv_iconst (v := 2) hx hb d_Re_readBin_29 (by decide) ?_
  refine ga_ji (wr := [(dr, .inr (1, [.ref q1, .ref q2, .ref q3, .ref q4, .ref q5, .ref q6, .ref q7, .ref q8, .ref q9, .int (nI rg)])), (q1, .inl (cI, 480, .inl (nA bn))), (q2, .inl (cZ, 480, .inl (zA shr)))]) (ga_runV (As := [.int 0, .int 2]) (rest := []) S hK s_Re_59 (gc_Re_readNumber l D cI cZ cC cG re te ta dr n po4 sg tr4 (by omega) (by omega) hf4 0 2 (by omega) (by omega) hsg _) (ga_prV (y := y_Re_readNumber) (q0 := 0) hK hP hD [0, 1, 2] rfl (by decide) rfl rfl) rfl hl.1 rfl (Nat.le_of_ble_eq_true rfl) ⟨Nat.le_of_ble_eq_true rfl, Nat.le_of_ble_eq_true rfl⟩ ⟨Nat.le_of_ble_eq_true rfl, Nat.le_of_ble_eq_true rfl⟩ d_Re_readBin_30) hP hD hS hA [0, 1, 2] [3, 4, 5] rfl rfl (by decide) (by decide) [3, 4, 5, 0, 1, 2] (fun (x : Nat × Nat × Option Nat) => [(re, .inr (2, [.ref te, .ref dr, .int (nI x.2.1), .int (tI x.2.2)])), (te, .inr (4, [.ref ta, .int (nI n)])), (ta, .inl (cC, 600, .inl (nA sg))), (dr, .inr (1, [.ref q1, .ref q2, .ref q3, .ref q4, .ref q5, .ref q6, .ref q7, .ref q8, .ref q9, .int (nI rg)])), (q1, .inl (cI, 480, .inl (nA bn))), (q2, .inl (cZ, 480, .inl (zA shr)))]) (fun _ => rfl) (by decide) (fun r x H locs hp30 hP hD hS => ?_)
  obtain ⟨w5, po5, tr5⟩ := x
  have hP : va_P D vwCl [(re, .inr (2, [.ref te, .ref dr, .int (nI po5), .int (tI tr5)])), (te, .inr (4, [.ref ta, .int (nI n)])), (ta, .inl (cC, 600, .inl (nA sg))), (dr, .inr (1, [.ref q1, .ref q2, .ref q3, .ref q4, .ref q5, .ref q6, .ref q7, .ref q8, .ref q9, .int (nI rg)])), (q1, .inl (cI, 480, .inl (nA bn))), (q2, .inl (cZ, 480, .inl (zA shr)))] H := hP
  have hD : va_D A [(re, .inr (2, [.ref te, .ref dr, .int (nI po5), .int (tI tr5)])), (te, .inr (4, [.ref ta, .int (nI n)])), (ta, .inl (cC, 600, .inl (nA sg))), (dr, .inr (1, [.ref q1, .ref q2, .ref q3, .ref q4, .ref q5, .ref q6, .ref q7, .ref q8, .ref q9, .int (nI rg)])), (q1, .inl (cI, 480, .inl (nA bn))), (q2, .inl (cZ, 480, .inl (zA shr)))] := hD
  obtain ⟨rfl, hp30⟩ := hp30
  obtain ⟨ha5, hb5, hc5, hd5, he5, hf5⟩ := gp_rn_bd hp30 (by omega) (by omega) hf4
  refine lv_istore (lv' := [(4, .int (nI w5)), (3, .int (nI w3)), (2, .int (nI w1)), (0, .ref re), (1, .int (nI st))]) hx hb d_Re_readBin_33 hl (by decide) rfl (fun ls hl => ?_)
  refine lv_aload_n hx hb d_Re_readBin_35 rfl (lv_at hl 3 rfl) ?_
  refine lv_bipush (v := 44) hx hb d_Re_readBin_36 (by decide) ?_
  refine ga_jv (wr := [(dr, .inr (1, [.ref q1, .ref q2, .ref q3, .ref q4, .ref q5, .ref q6, .ref q7, .ref q8, .ref q9, .int (nI rg)])), (q1, .inl (cI, 480, .inl (nA bn))), (q2, .inl (cZ, 480, .inl (zA shr)))]) (ga_runV (As := [.int 44]) (rest := []) S hK s_Re_63 (gc_Re_readSign l D cI cZ cC cG re te ta dr n po5 sg tr5 (by omega) (by omega) hf5 44 (by omega) hsg _) (ga_prV (y := y_Re_readSign) (q0 := 0) hK hP hD [0, 1, 2] rfl (by decide) rfl rfl) rfl hl.1 rfl (Nat.le_of_ble_eq_true rfl) ⟨Nat.le_of_ble_eq_true rfl, Nat.le_of_ble_eq_true rfl⟩ ⟨Nat.le_of_ble_eq_true rfl, Nat.le_of_ble_eq_true rfl⟩ d_Re_readBin_38) hP hD hS hA [0, 1, 2] [3, 4, 5] rfl rfl (by decide) (by decide) [3, 4, 5, 0, 1, 2] (fun (x : Nat × Option Nat) => [(re, .inr (2, [.ref te, .ref dr, .int (nI x.1), .int (tI x.2)])), (te, .inr (4, [.ref ta, .int (nI n)])), (ta, .inl (cC, 600, .inl (nA sg))), (dr, .inr (1, [.ref q1, .ref q2, .ref q3, .ref q4, .ref q5, .ref q6, .ref q7, .ref q8, .ref q9, .int (nI rg)])), (q1, .inl (cI, 480, .inl (nA bn))), (q2, .inl (cZ, 480, .inl (zA shr)))]) (fun _ => rfl) (by decide) (fun x H locs hp38 hP hD hS => ?_)
  obtain ⟨po6, tr6⟩ := x
  have hP : va_P D vwCl [(re, .inr (2, [.ref te, .ref dr, .int (nI po6), .int (tI tr6)])), (te, .inr (4, [.ref ta, .int (nI n)])), (ta, .inl (cC, 600, .inl (nA sg))), (dr, .inr (1, [.ref q1, .ref q2, .ref q3, .ref q4, .ref q5, .ref q6, .ref q7, .ref q8, .ref q9, .int (nI rg)])), (q1, .inl (cI, 480, .inl (nA bn))), (q2, .inl (cZ, 480, .inl (zA shr)))] H := hP
  have hD : va_D A [(re, .inr (2, [.ref te, .ref dr, .int (nI po6), .int (tI tr6)])), (te, .inr (4, [.ref ta, .int (nI n)])), (ta, .inl (cC, 600, .inl (nA sg))), (dr, .inr (1, [.ref q1, .ref q2, .ref q3, .ref q4, .ref q5, .ref q6, .ref q7, .ref q8, .ref q9, .int (nI rg)])), (q1, .inl (cI, 480, .inl (nA bn))), (q2, .inl (cZ, 480, .inl (zA shr)))] := hD
  obtain ⟨hc6, hd6, he6, hf6⟩ := gp_rs_bd hp38 (by omega) (by omega) hf5
  refine lv_aload_n hx hb d_Re_readBin_41 rfl (lv_at hl 3 rfl) ?_
  refine lv_iconst (v := 1) hx hb d_Re_readBin_42 (by decide) ?_
  refine lv_bipush (v := 60) hx hb d_Re_readBin_43 (by decide) ?_
  refine ga_ji (wr := [(dr, .inr (1, [.ref q1, .ref q2, .ref q3, .ref q4, .ref q5, .ref q6, .ref q7, .ref q8, .ref q9, .int (nI rg)])), (q1, .inl (cI, 480, .inl (nA bn))), (q2, .inl (cZ, 480, .inl (zA shr)))]) (ga_runV (As := [.int 1, .int 60]) (rest := []) S hK s_Re_59 (gc_Re_readNumber l D cI cZ cC cG re te ta dr n po6 sg tr6 (by omega) (by omega) hf6 1 60 (by omega) (by omega) hsg _) (ga_prV (y := y_Re_readNumber) (q0 := 0) hK hP hD [0, 1, 2] rfl (by decide) rfl rfl) rfl hl.1 rfl (Nat.le_of_ble_eq_true rfl) ⟨Nat.le_of_ble_eq_true rfl, Nat.le_of_ble_eq_true rfl⟩ ⟨Nat.le_of_ble_eq_true rfl, Nat.le_of_ble_eq_true rfl⟩ d_Re_readBin_45) hP hD hS hA [0, 1, 2] [3, 4, 5] rfl rfl (by decide) (by decide) [3, 4, 5, 0, 1, 2] (fun (x : Nat × Nat × Option Nat) => [(re, .inr (2, [.ref te, .ref dr, .int (nI x.2.1), .int (tI x.2.2)])), (te, .inr (4, [.ref ta, .int (nI n)])), (ta, .inl (cC, 600, .inl (nA sg))), (dr, .inr (1, [.ref q1, .ref q2, .ref q3, .ref q4, .ref q5, .ref q6, .ref q7, .ref q8, .ref q9, .int (nI rg)])), (q1, .inl (cI, 480, .inl (nA bn))), (q2, .inl (cZ, 480, .inl (zA shr)))]) (fun _ => rfl) (by decide) (fun r x H locs hp45 hP hD hS => ?_)
  obtain ⟨w7, po7, tr7⟩ := x
  have hP : va_P D vwCl [(re, .inr (2, [.ref te, .ref dr, .int (nI po7), .int (tI tr7)])), (te, .inr (4, [.ref ta, .int (nI n)])), (ta, .inl (cC, 600, .inl (nA sg))), (dr, .inr (1, [.ref q1, .ref q2, .ref q3, .ref q4, .ref q5, .ref q6, .ref q7, .ref q8, .ref q9, .int (nI rg)])), (q1, .inl (cI, 480, .inl (nA bn))), (q2, .inl (cZ, 480, .inl (zA shr)))] H := hP
  have hD : va_D A [(re, .inr (2, [.ref te, .ref dr, .int (nI po7), .int (tI tr7)])), (te, .inr (4, [.ref ta, .int (nI n)])), (ta, .inl (cC, 600, .inl (nA sg))), (dr, .inr (1, [.ref q1, .ref q2, .ref q3, .ref q4, .ref q5, .ref q6, .ref q7, .ref q8, .ref q9, .int (nI rg)])), (q1, .inl (cI, 480, .inl (nA bn))), (q2, .inl (cZ, 480, .inl (zA shr)))] := hD
  obtain ⟨rfl, hp45⟩ := hp45
  obtain ⟨ha7, hb7, hc7, hd7, he7, hf7⟩ := gp_rn_bd hp45 (by omega) (by omega) hf6
  refine lv_istore (lv' := [(5, .int (nI w7)), (4, .int (nI w5)), (3, .int (nI w3)), (2, .int (nI w1)), (0, .ref re), (1, .int (nI st))]) hx hb d_Re_readBin_48 hl (by decide) rfl (fun ls hl => ?_)
  refine lv_aload_n hx hb d_Re_readBin_50 rfl (lv_at hl 4 rfl) ?_
  refine ga_ji (wr := [(dr, .inr (1, [.ref q1, .ref q2, .ref q3, .ref q4, .ref q5, .ref q6, .ref q7, .ref q8, .ref q9, .int (nI rg)])), (q1, .inl (cI, 480, .inl (nA bn))), (q2, .inl (cZ, 480, .inl (zA shr)))]) (ga_runV (As := []) (rest := []) S hK s_Re_71 (gc_Re_readPlus l D cI cZ cC cG re te ta dr n po7 sg tr7 (by omega) (by omega) hf7 hsg _) (ga_prV (y := y_Re_readPlus) (q0 := 0) hK hP hD [0, 1, 2] rfl (by decide) rfl rfl) rfl hl.1 rfl (Nat.le_of_ble_eq_true rfl) ⟨Nat.le_of_ble_eq_true rfl, Nat.le_of_ble_eq_true rfl⟩ ⟨Nat.le_of_ble_eq_true rfl, Nat.le_of_ble_eq_true rfl⟩ d_Re_readBin_51) hP hD hS hA [0, 1, 2] [3, 4, 5] rfl rfl (by decide) (by decide) [3, 4, 5, 0, 1, 2] (fun (x : Bool × Nat) => [(re, .inr (2, [.ref te, .ref dr, .int (nI x.2), .int (tI tr7)])), (te, .inr (4, [.ref ta, .int (nI n)])), (ta, .inl (cC, 600, .inl (nA sg))), (dr, .inr (1, [.ref q1, .ref q2, .ref q3, .ref q4, .ref q5, .ref q6, .ref q7, .ref q8, .ref q9, .int (nI rg)])), (q1, .inl (cI, 480, .inl (nA bn))), (q2, .inl (cZ, 480, .inl (zA shr)))]) (fun _ => rfl) (by decide) (fun r x H locs hp51 hP hD hS => ?_)
  obtain ⟨pb8, po8⟩ := x
  have hP : va_P D vwCl [(re, .inr (2, [.ref te, .ref dr, .int (nI po8), .int (tI tr7)])), (te, .inr (4, [.ref ta, .int (nI n)])), (ta, .inl (cC, 600, .inl (nA sg))), (dr, .inr (1, [.ref q1, .ref q2, .ref q3, .ref q4, .ref q5, .ref q6, .ref q7, .ref q8, .ref q9, .int (nI rg)])), (q1, .inl (cI, 480, .inl (nA bn))), (q2, .inl (cZ, 480, .inl (zA shr)))] H := hP
  have hD : va_D A [(re, .inr (2, [.ref te, .ref dr, .int (nI po8), .int (tI tr7)])), (te, .inr (4, [.ref ta, .int (nI n)])), (ta, .inl (cC, 600, .inl (nA sg))), (dr, .inr (1, [.ref q1, .ref q2, .ref q3, .ref q4, .ref q5, .ref q6, .ref q7, .ref q8, .ref q9, .int (nI rg)])), (q1, .inl (cI, 480, .inl (nA bn))), (q2, .inl (cZ, 480, .inl (zA shr)))] := hD
  obtain ⟨rfl, hp51⟩ := hp51
  obtain ⟨hc8, hd8⟩ := gp_rp_bd hp51 (by omega)
  refine lv_istore (lv' := [(6, .int (bI pb8)), (5, .int (nI w7)), (4, .int (nI w5)), (3, .int (nI w3)), (2, .int (nI w1)), (0, .ref re), (1, .int (nI st))]) hx hb d_Re_readBin_54 hl (by decide) rfl (fun ls hl => ?_)
  refine lv_aload_n hx hb d_Re_readBin_56 rfl (lv_at hl 5 rfl) ?_
  refine lv_bipush (v := 59) hx hb d_Re_readBin_57 (by decide) ?_
  refine ga_jv (wr := [(dr, .inr (1, [.ref q1, .ref q2, .ref q3, .ref q4, .ref q5, .ref q6, .ref q7, .ref q8, .ref q9, .int (nI rg)])), (q1, .inl (cI, 480, .inl (nA bn))), (q2, .inl (cZ, 480, .inl (zA shr)))]) (ga_runV (As := [.int 59]) (rest := []) S hK s_Re_63 (gc_Re_readSign l D cI cZ cC cG re te ta dr n po8 sg tr7 (by omega) (by omega) hf7 59 (by omega) hsg _) (ga_prV (y := y_Re_readSign) (q0 := 0) hK hP hD [0, 1, 2] rfl (by decide) rfl rfl) rfl hl.1 rfl (Nat.le_of_ble_eq_true rfl) ⟨Nat.le_of_ble_eq_true rfl, Nat.le_of_ble_eq_true rfl⟩ ⟨Nat.le_of_ble_eq_true rfl, Nat.le_of_ble_eq_true rfl⟩ d_Re_readBin_59) hP hD hS hA [0, 1, 2] [3, 4, 5] rfl rfl (by decide) (by decide) [3, 4, 5, 0, 1, 2] (fun (x : Nat × Option Nat) => [(re, .inr (2, [.ref te, .ref dr, .int (nI x.1), .int (tI x.2)])), (te, .inr (4, [.ref ta, .int (nI n)])), (ta, .inl (cC, 600, .inl (nA sg))), (dr, .inr (1, [.ref q1, .ref q2, .ref q3, .ref q4, .ref q5, .ref q6, .ref q7, .ref q8, .ref q9, .int (nI rg)])), (q1, .inl (cI, 480, .inl (nA bn))), (q2, .inl (cZ, 480, .inl (zA shr)))]) (fun _ => rfl) (by decide) (fun x H locs hp59 hP hD hS => ?_)
  obtain ⟨po9, tr9⟩ := x
  have hP : va_P D vwCl [(re, .inr (2, [.ref te, .ref dr, .int (nI po9), .int (tI tr9)])), (te, .inr (4, [.ref ta, .int (nI n)])), (ta, .inl (cC, 600, .inl (nA sg))), (dr, .inr (1, [.ref q1, .ref q2, .ref q3, .ref q4, .ref q5, .ref q6, .ref q7, .ref q8, .ref q9, .int (nI rg)])), (q1, .inl (cI, 480, .inl (nA bn))), (q2, .inl (cZ, 480, .inl (zA shr)))] H := hP
  have hD : va_D A [(re, .inr (2, [.ref te, .ref dr, .int (nI po9), .int (tI tr9)])), (te, .inr (4, [.ref ta, .int (nI n)])), (ta, .inl (cC, 600, .inl (nA sg))), (dr, .inr (1, [.ref q1, .ref q2, .ref q3, .ref q4, .ref q5, .ref q6, .ref q7, .ref q8, .ref q9, .int (nI rg)])), (q1, .inl (cI, 480, .inl (nA bn))), (q2, .inl (cZ, 480, .inl (zA shr)))] := hD
  obtain ⟨hc9, hd9, he9, hf9⟩ := gp_rs_bd hp59 (by omega) (by omega) hf7
  refine lv_aload_n hx hb d_Re_readBin_62 rfl (lv_at hl 5 rfl) ?_
  refine ga_cr (As := []) (rest := []) (q0 := 0) S hK hP s_Re_38 (gc_Re_isFine l D cI cZ cC cG re te dr po9 tr9 (fun t q => by have := hf9 t q; omega)) [0] rfl rfl rfl rfl hl.1 rfl (Nat.le_of_ble_eq_true rfl) ⟨Nat.le_of_ble_eq_true rfl, Nat.le_of_ble_eq_true rfl⟩ ⟨Nat.le_of_ble_eq_true rfl, Nat.le_of_ble_eq_true rfl⟩ d_Re_readBin_63 (fun r hp63 => ?_)
  rcases hp63 with ⟨rfl, hp63⟩ | ⟨rfl, hp63⟩
  · subst hp63
    refine lv_if_eq (tgt := 95) hx hb d_Re_readBin_66 (by decide) (fun c66 => ?_) (fun c66 => ?_)
    · exact absurd c66 (by decide)
    · refine lv_aload_n hx hb d_Re_readBin_69 rfl (lv_at hl 5 rfl) ?_
      refine ga_get S hK hP 0 rfl f_Re_21 rfl d_Re_readBin_70 ?_
      refine lv_iload_n hx hb d_Re_readBin_73 rfl (lv_at hl 4 rfl) ?_
      refine lv_iload_n hx hb d_Re_readBin_74 rfl (lv_at hl 3 rfl) ?_
      refine lv_iload hx hb d_Re_readBin_75 (lv_at hl 2 rfl) ?_
      refine ga_cs (As := [.int (nI w1), .int (nI w3), .int (nI w5)]) (rest := [.ref dr]) S hK hP s_Re_74 (gc_SP_slot l D cI cZ cC cG w1 w3 w5 (by omega)) [] rfl rfl hl.1 rfl (Nat.le_of_ble_eq_true rfl) ⟨Nat.le_of_ble_eq_true rfl, Nat.le_of_ble_eq_true rfl⟩ ⟨Nat.le_of_ble_eq_true rfl, Nat.le_of_ble_eq_true rfl⟩ d_Re_readBin_77 (fun r hp77 => ?_)
      subst hp77
      have hsl := gp_sl_lt (t := w1) (p := w3) (s := w5) (by omega) (by omega) (by omega) (by omega)
      refine lv_iload hx hb d_Re_readBin_80 (lv_at hl 1 rfl) ?_
      refine lv_iload hx hb d_Re_readBin_82 (lv_at hl 0 rfl) ?_
      refine ga_ji (wr := [(re, .inr (2, [.ref te, .ref dr, .int (nI po9), .int (tI none)])), (te, .inr (4, [.ref ta, .int (nI n)])), (ta, .inl (cC, 600, .inl (nA sg)))]) (ga_runV (As := [.int (nI (gp_sl w1 w3 w5)), .int (nI w7), .int (bI pb8)]) (rest := []) S hK s_Re_78 (gc_Pl_addBin l D cI cZ cC cG dr q1 q2 q3 q4 q5 q6 q7 q8 q9 rg (gp_sl w1 w3 w5) w7 bn shr pb8 (by omega) hbn _) (ga_prV (y := y_Pl_addBin) (q0 := 3) hK hP hD [3, 4, 5] rfl (by decide) rfl rfl) rfl hl.1 rfl (Nat.le_of_ble_eq_true rfl) ⟨Nat.le_of_ble_eq_true rfl, Nat.le_of_ble_eq_true rfl⟩ ⟨Nat.le_of_ble_eq_true rfl, Nat.le_of_ble_eq_true rfl⟩ d_Re_readBin_84) hP hD hS hA [3, 4, 5] [0, 1, 2] rfl rfl (by decide) (by decide) [0, 1, 2, 3, 4, 5] (fun (x : (Nat → Nat) × (Nat → Bool)) => [(re, .inr (2, [.ref te, .ref dr, .int (nI po9), .int (tI none)])), (te, .inr (4, [.ref ta, .int (nI n)])), (ta, .inl (cC, 600, .inl (nA sg))), (dr, .inr (1, [.ref q1, .ref q2, .ref q3, .ref q4, .ref q5, .ref q6, .ref q7, .ref q8, .ref q9, .int (nI rg)])), (q1, .inl (cI, 480, .inl (nA x.1))), (q2, .inl (cZ, 480, .inl (zA x.2)))]) (fun _ => rfl) (by decide) (fun r x H locs hp84 hP hD hS => ?_)
      rcases hp84 with ⟨rfl, hp84, hx9⟩ | ⟨rfl, hp84, hx9⟩
      · rw [hx9] at hP hD
        have hP : va_P D vwCl [(re, .inr (2, [.ref te, .ref dr, .int (nI po9), .int (tI none)])), (te, .inr (4, [.ref ta, .int (nI n)])), (ta, .inl (cC, 600, .inl (nA sg))), (dr, .inr (1, [.ref q1, .ref q2, .ref q3, .ref q4, .ref q5, .ref q6, .ref q7, .ref q8, .ref q9, .int (nI rg)])), (q1, .inl (cI, 480, .inl (nA (va_up bn (gp_sl w1 w3 w5) w7)))), (q2, .inl (cZ, 480, .inl (zA (va_up shr (gp_sl w1 w3 w5) pb8))))] H := hP
        have hD : va_D A [(re, .inr (2, [.ref te, .ref dr, .int (nI po9), .int (tI none)])), (te, .inr (4, [.ref ta, .int (nI n)])), (ta, .inl (cC, 600, .inl (nA sg))), (dr, .inr (1, [.ref q1, .ref q2, .ref q3, .ref q4, .ref q5, .ref q6, .ref q7, .ref q8, .ref q9, .int (nI rg)])), (q1, .inl (cI, 480, .inl (nA (va_up bn (gp_sl w1 w3 w5) w7)))), (q2, .inl (cZ, 480, .inl (zA (va_up shr (gp_sl w1 w3 w5) pb8))))] := hD
        refine lv_if_ne (tgt := 95) hx hb d_Re_readBin_87 (by decide) (fun c87 => ?_) (fun c87 => ?_)
        · exact ga_wv (po9, none, va_up bn (gp_sl w1 w3 w5) w7, va_up shr (gp_sl w1 w3 w5) pb8) S hrt hlk hP hD hS ⟨w1, w3, w5, w7, pb8, none, gp_B_eq hp4 hp11 hp17 hp24 hp30 hp38 hp45 hp51 hp59, Or.inl ⟨rfl, hp84, rfl, rfl⟩⟩ d_Re_readBin_95
        · exact absurd c87 (by decide)
      · rw [hx9] at hP hD
        have hP : va_P D vwCl [(re, .inr (2, [.ref te, .ref dr, .int (nI po9), .int (tI none)])), (te, .inr (4, [.ref ta, .int (nI n)])), (ta, .inl (cC, 600, .inl (nA sg))), (dr, .inr (1, [.ref q1, .ref q2, .ref q3, .ref q4, .ref q5, .ref q6, .ref q7, .ref q8, .ref q9, .int (nI rg)])), (q1, .inl (cI, 480, .inl (nA bn))), (q2, .inl (cZ, 480, .inl (zA shr)))] H := hP
        have hD : va_D A [(re, .inr (2, [.ref te, .ref dr, .int (nI po9), .int (tI none)])), (te, .inr (4, [.ref ta, .int (nI n)])), (ta, .inl (cC, 600, .inl (nA sg))), (dr, .inr (1, [.ref q1, .ref q2, .ref q3, .ref q4, .ref q5, .ref q6, .ref q7, .ref q8, .ref q9, .int (nI rg)])), (q1, .inl (cI, 480, .inl (nA bn))), (q2, .inl (cZ, 480, .inl (zA shr)))] := hD
        refine lv_if_ne (tgt := 95) hx hb d_Re_readBin_87 (by decide) (fun c87 => ?_) (fun c87 => ?_)
        · exact absurd c87 (by decide)
        · refine lv_aload_n hx hb d_Re_readBin_90 rfl (lv_at hl 5 rfl) ?_
          refine lv_iload_n hx hb d_Re_readBin_91 rfl (lv_at hl 6 rfl) ?_
          refine ga_put (ws' := [(re, .inr (2, [.ref te, .ref dr, .int (nI po9), .int (nI st)])), (te, .inr (4, [.ref ta, .int (nI n)])), (ta, .inl (cC, 600, .inl (nA sg))), (dr, .inr (1, [.ref q1, .ref q2, .ref q3, .ref q4, .ref q5, .ref q6, .ref q7, .ref q8, .ref q9, .int (nI rg)])), (q1, .inl (cI, 480, .inl (nA bn))), (q2, .inl (cZ, 480, .inl (zA shr)))]) S hK hP hD hS 0 rfl p_Re_25 rfl rfl (Nat.le_of_ble_eq_true rfl) rfl d_Re_readBin_92 (fun H locs hP hD hS => ?_)
          exact ga_wv (po9, some st, bn, shr) S hrt hlk hP hD hS ⟨w1, w3, w5, w7, pb8, none, gp_B_eq hp4 hp11 hp17 hp24 hp30 hp38 hp45 hp51 hp59, Or.inr (Or.inl ⟨rfl, hp84, rfl, rfl⟩)⟩ d_Re_readBin_95
  · refine lv_if_eq (tgt := 95) hx hb d_Re_readBin_66 (by decide) (fun c66 => ?_) (fun c66 => ?_)
    · exact ga_wv (po9, tr9, bn, shr) S hrt hlk hP hD hS ⟨w1, w3, w5, w7, pb8, tr9, gp_B_eq hp4 hp11 hp17 hp24 hp30 hp38 hp45 hp51 hp59, Or.inr (Or.inr ⟨hp63, rfl, rfl⟩)⟩ d_Re_readBin_95
    · exact absurd c66 (by decide)
set_option maxHeartbeats 4000000 in
set_option maxRecDepth 100000 in
theorem gc_Re_readGoingOn (l : Launch) (D : va_G) (cI cZ cC cG : ClassId) (re te ta dr n pos : Nat) (sg : Nat → Nat) (hn : n ≤ 600) (hpos : pos ≤ n) (q1 q2 q3 q4 q5 q6 q7 q8 q9 : Nat) (rg st : Nat) (ne : Nat → Nat) (hsg : ∀ j, sg j < 2 ^ 31) (hne : ∀ j, ne j < 2 ^ 31) : ga_Mv l y_Re_readGoingOn b_Re_readGoingOn 4 3 0 0 D (ga_T cI cZ cC cG) [.ref re, .int (nI st)] [(re, .inr (2, [.ref te, .ref dr, .int (nI pos), .int (tI none)])), (te, .inr (4, [.ref ta, .int (nI n)])), (ta, .inl (cC, 600, .inl (nA sg))), (dr, .inr (1, [.ref q1, .ref q2, .ref q3, .ref q4, .ref q5, .ref q6, .ref q7, .ref q8, .ref q9, .int (nI rg)])), (q5, .inl (cI, 61, .inl (nA ne)))] (fun (x : Nat × Option Nat × (Nat → Nat)) => [(re, .inr (2, [.ref te, .ref dr, .int (nI x.1), .int (tI x.2.1)])), (te, .inr (4, [.ref ta, .int (nI n)])), (ta, .inl (cC, 600, .inl (nA sg))), (dr, .inr (1, [.ref q1, .ref q2, .ref q3, .ref q4, .ref q5, .ref q6, .ref q7, .ref q8, .ref q9, .int (nI rg)])), (q5, .inl (cI, 61, .inl (nA x.2.2)))]) (fun x => ∃ w1 w3 t, gp_O sg n pos = (w1, w3, x.1, t) ∧ ((t = none ∧ ne w1 = 0 ∧ x.2.1 = none ∧ x.2.2 = va_up ne w1 w3) ∨ (t = none ∧ ne w1 ≠ 0 ∧ x.2.1 = some st ∧ x.2.2 = ne) ∨ (t ≠ none ∧ x.2.1 = t ∧ x.2.2 = ne))) := by
  refine ga_enV (by decide) (Nat.le_of_ble_eq_true rfl) ?_
  intro p e s m below meth c ls A S hrt hlk hnm hK hP hD hA hl
  have hS : va_S A s.heap s.heap [] := va_S.rf
  obtain ⟨hx, hb, hml, hown, hts⟩ := id S
  have hl : lv_has ls 4 [(0, .ref re), (1, .int (nI st))] := hl
  have htr : ∀ t, (none : Option Nat) = some t → t ≤ n := (fun _ q => by cases q)
  refine lv_aload_n hx hb d_Re_readGoingOn_0 rfl (lv_at hl 0 rfl) ?_
  refine lv_iconst (v := 1) hx hb d_Re_readGoingOn_1 (by decide) ?_
  refine lv_bipush (v := 60) hx hb d_Re_readGoingOn_2 (by decide) ?_
  refine ga_ji (wr := [(dr, .inr (1, [.ref q1, .ref q2, .ref q3, .ref q4, .ref q5, .ref q6, .ref q7, .ref q8, .ref q9, .int (nI rg)])), (q5, .inl (cI, 61, .inl (nA ne)))]) (ga_runV (As := [.int 1, .int 60]) (rest := []) S hK s_Re_59 (gc_Re_readNumber l D cI cZ cC cG re te ta dr n pos sg none (by omega) (by omega) htr 1 60 (by omega) (by omega) hsg _) (ga_prV (y := y_Re_readNumber) (q0 := 0) hK hP hD [0, 1, 2] rfl (by decide) rfl rfl) rfl hl.1 rfl (Nat.le_of_ble_eq_true rfl) ⟨Nat.le_of_ble_eq_true rfl, Nat.le_of_ble_eq_true rfl⟩ ⟨Nat.le_of_ble_eq_true rfl, Nat.le_of_ble_eq_true rfl⟩ d_Re_readGoingOn_4) hP hD hS hA [0, 1, 2] [3, 4] rfl rfl (by decide) (by decide) [2, 3, 4, 0, 1] (fun (x : Nat × Nat × Option Nat) => [(re, .inr (2, [.ref te, .ref dr, .int (nI x.2.1), .int (tI x.2.2)])), (te, .inr (4, [.ref ta, .int (nI n)])), (ta, .inl (cC, 600, .inl (nA sg))), (dr, .inr (1, [.ref q1, .ref q2, .ref q3, .ref q4, .ref q5, .ref q6, .ref q7, .ref q8, .ref q9, .int (nI rg)])), (q5, .inl (cI, 61, .inl (nA ne)))]) (fun _ => rfl) (by decide) (fun r x H locs hp4 hP hD hS => ?_)
  obtain ⟨w1, po1, tr1⟩ := x
  have hP : va_P D vwCl [(re, .inr (2, [.ref te, .ref dr, .int (nI po1), .int (tI tr1)])), (te, .inr (4, [.ref ta, .int (nI n)])), (ta, .inl (cC, 600, .inl (nA sg))), (dr, .inr (1, [.ref q1, .ref q2, .ref q3, .ref q4, .ref q5, .ref q6, .ref q7, .ref q8, .ref q9, .int (nI rg)])), (q5, .inl (cI, 61, .inl (nA ne)))] H := hP
  have hD : va_D A [(re, .inr (2, [.ref te, .ref dr, .int (nI po1), .int (tI tr1)])), (te, .inr (4, [.ref ta, .int (nI n)])), (ta, .inl (cC, 600, .inl (nA sg))), (dr, .inr (1, [.ref q1, .ref q2, .ref q3, .ref q4, .ref q5, .ref q6, .ref q7, .ref q8, .ref q9, .int (nI rg)])), (q5, .inl (cI, 61, .inl (nA ne)))] := hD
  obtain ⟨rfl, hp4⟩ := hp4
  obtain ⟨ha1, hb1, hc1, hd1, he1, hf1⟩ := gp_rn_bd hp4 (by omega) (by omega) htr
  refine lv_istore_n (lv' := [(2, .int (nI w1)), (0, .ref re), (1, .int (nI st))]) hx hb d_Re_readGoingOn_7 rfl hl (by decide) rfl (fun ls hl => ?_)
  refine lv_aload_n hx hb d_Re_readGoingOn_8 rfl (lv_at hl 1 rfl) ?_
  refine lv_bipush (v := 44) hx hb d_Re_readGoingOn_9 (by decide) ?_
  refine ga_jv (wr := [(dr, .inr (1, [.ref q1, .ref q2, .ref q3, .ref q4, .ref q5, .ref q6, .ref q7, .ref q8, .ref q9, .int (nI rg)])), (q5, .inl (cI, 61, .inl (nA ne)))]) (ga_runV (As := [.int 44]) (rest := []) S hK s_Re_63 (gc_Re_readSign l D cI cZ cC cG re te ta dr n po1 sg tr1 (by omega) (by omega) hf1 44 (by omega) hsg _) (ga_prV (y := y_Re_readSign) (q0 := 0) hK hP hD [0, 1, 2] rfl (by decide) rfl rfl) rfl hl.1 rfl (Nat.le_of_ble_eq_true rfl) ⟨Nat.le_of_ble_eq_true rfl, Nat.le_of_ble_eq_true rfl⟩ ⟨Nat.le_of_ble_eq_true rfl, Nat.le_of_ble_eq_true rfl⟩ d_Re_readGoingOn_11) hP hD hS hA [0, 1, 2] [3, 4] rfl rfl (by decide) (by decide) [2, 3, 4, 0, 1] (fun (x : Nat × Option Nat) => [(re, .inr (2, [.ref te, .ref dr, .int (nI x.1), .int (tI x.2)])), (te, .inr (4, [.ref ta, .int (nI n)])), (ta, .inl (cC, 600, .inl (nA sg))), (dr, .inr (1, [.ref q1, .ref q2, .ref q3, .ref q4, .ref q5, .ref q6, .ref q7, .ref q8, .ref q9, .int (nI rg)])), (q5, .inl (cI, 61, .inl (nA ne)))]) (fun _ => rfl) (by decide) (fun x H locs hp11 hP hD hS => ?_)
  obtain ⟨po2, tr2⟩ := x
  have hP : va_P D vwCl [(re, .inr (2, [.ref te, .ref dr, .int (nI po2), .int (tI tr2)])), (te, .inr (4, [.ref ta, .int (nI n)])), (ta, .inl (cC, 600, .inl (nA sg))), (dr, .inr (1, [.ref q1, .ref q2, .ref q3, .ref q4, .ref q5, .ref q6, .ref q7, .ref q8, .ref q9, .int (nI rg)])), (q5, .inl (cI, 61, .inl (nA ne)))] H := hP
  have hD : va_D A [(re, .inr (2, [.ref te, .ref dr, .int (nI po2), .int (tI tr2)])), (te, .inr (4, [.ref ta, .int (nI n)])), (ta, .inl (cC, 600, .inl (nA sg))), (dr, .inr (1, [.ref q1, .ref q2, .ref q3, .ref q4, .ref q5, .ref q6, .ref q7, .ref q8, .ref q9, .int (nI rg)])), (q5, .inl (cI, 61, .inl (nA ne)))] := hD
  obtain ⟨hc2, hd2, he2, hf2⟩ := gp_rs_bd hp11 (by omega) (by omega) hf1
  refine lv_aload_n hx hb d_Re_readGoingOn_14 rfl (lv_at hl 1 rfl) ?_
  refine lv_iconst (v := 1) hx hb d_Re_readGoingOn_15 (by decide) ?_
  refine lv_bipush (v := 60) hx hb d_Re_readGoingOn_16 (by decide) ?_
  refine ga_ji (wr := [(dr, .inr (1, [.ref q1, .ref q2, .ref q3, .ref q4, .ref q5, .ref q6, .ref q7, .ref q8, .ref q9, .int (nI rg)])), (q5, .inl (cI, 61, .inl (nA ne)))]) (ga_runV (As := [.int 1, .int 60]) (rest := []) S hK s_Re_59 (gc_Re_readNumber l D cI cZ cC cG re te ta dr n po2 sg tr2 (by omega) (by omega) hf2 1 60 (by omega) (by omega) hsg _) (ga_prV (y := y_Re_readNumber) (q0 := 0) hK hP hD [0, 1, 2] rfl (by decide) rfl rfl) rfl hl.1 rfl (Nat.le_of_ble_eq_true rfl) ⟨Nat.le_of_ble_eq_true rfl, Nat.le_of_ble_eq_true rfl⟩ ⟨Nat.le_of_ble_eq_true rfl, Nat.le_of_ble_eq_true rfl⟩ d_Re_readGoingOn_18) hP hD hS hA [0, 1, 2] [3, 4] rfl rfl (by decide) (by decide) [2, 3, 4, 0, 1] (fun (x : Nat × Nat × Option Nat) => [(re, .inr (2, [.ref te, .ref dr, .int (nI x.2.1), .int (tI x.2.2)])), (te, .inr (4, [.ref ta, .int (nI n)])), (ta, .inl (cC, 600, .inl (nA sg))), (dr, .inr (1, [.ref q1, .ref q2, .ref q3, .ref q4, .ref q5, .ref q6, .ref q7, .ref q8, .ref q9, .int (nI rg)])), (q5, .inl (cI, 61, .inl (nA ne)))]) (fun _ => rfl) (by decide) (fun r x H locs hp18 hP hD hS => ?_)
  obtain ⟨w3, po3, tr3⟩ := x
  have hP : va_P D vwCl [(re, .inr (2, [.ref te, .ref dr, .int (nI po3), .int (tI tr3)])), (te, .inr (4, [.ref ta, .int (nI n)])), (ta, .inl (cC, 600, .inl (nA sg))), (dr, .inr (1, [.ref q1, .ref q2, .ref q3, .ref q4, .ref q5, .ref q6, .ref q7, .ref q8, .ref q9, .int (nI rg)])), (q5, .inl (cI, 61, .inl (nA ne)))] H := hP
  have hD : va_D A [(re, .inr (2, [.ref te, .ref dr, .int (nI po3), .int (tI tr3)])), (te, .inr (4, [.ref ta, .int (nI n)])), (ta, .inl (cC, 600, .inl (nA sg))), (dr, .inr (1, [.ref q1, .ref q2, .ref q3, .ref q4, .ref q5, .ref q6, .ref q7, .ref q8, .ref q9, .int (nI rg)])), (q5, .inl (cI, 61, .inl (nA ne)))] := hD
  obtain ⟨rfl, hp18⟩ := hp18
  obtain ⟨ha3, hb3, hc3, hd3, he3, hf3⟩ := gp_rn_bd hp18 (by omega) (by omega) hf2
  refine lv_istore_n (lv' := [(3, .int (nI w3)), (2, .int (nI w1)), (0, .ref re), (1, .int (nI st))]) hx hb d_Re_readGoingOn_21 rfl hl (by decide) rfl (fun ls hl => ?_)
  refine lv_aload_n hx hb d_Re_readGoingOn_22 rfl (lv_at hl 2 rfl) ?_
  refine lv_bipush (v := 59) hx hb d_Re_readGoingOn_23 (by decide) ?_
  refine ga_jv (wr := [(dr, .inr (1, [.ref q1, .ref q2, .ref q3, .ref q4, .ref q5, .ref q6, .ref q7, .ref q8, .ref q9, .int (nI rg)])), (q5, .inl (cI, 61, .inl (nA ne)))]) (ga_runV (As := [.int 59]) (rest := []) S hK s_Re_63 (gc_Re_readSign l D cI cZ cC cG re te ta dr n po3 sg tr3 (by omega) (by omega) hf3 59 (by omega) hsg _) (ga_prV (y := y_Re_readSign) (q0 := 0) hK hP hD [0, 1, 2] rfl (by decide) rfl rfl) rfl hl.1 rfl (Nat.le_of_ble_eq_true rfl) ⟨Nat.le_of_ble_eq_true rfl, Nat.le_of_ble_eq_true rfl⟩ ⟨Nat.le_of_ble_eq_true rfl, Nat.le_of_ble_eq_true rfl⟩ d_Re_readGoingOn_25) hP hD hS hA [0, 1, 2] [3, 4] rfl rfl (by decide) (by decide) [2, 3, 4, 0, 1] (fun (x : Nat × Option Nat) => [(re, .inr (2, [.ref te, .ref dr, .int (nI x.1), .int (tI x.2)])), (te, .inr (4, [.ref ta, .int (nI n)])), (ta, .inl (cC, 600, .inl (nA sg))), (dr, .inr (1, [.ref q1, .ref q2, .ref q3, .ref q4, .ref q5, .ref q6, .ref q7, .ref q8, .ref q9, .int (nI rg)])), (q5, .inl (cI, 61, .inl (nA ne)))]) (fun _ => rfl) (by decide) (fun x H locs hp25 hP hD hS => ?_)
  obtain ⟨po4, tr4⟩ := x
  have hP : va_P D vwCl [(re, .inr (2, [.ref te, .ref dr, .int (nI po4), .int (tI tr4)])), (te, .inr (4, [.ref ta, .int (nI n)])), (ta, .inl (cC, 600, .inl (nA sg))), (dr, .inr (1, [.ref q1, .ref q2, .ref q3, .ref q4, .ref q5, .ref q6, .ref q7, .ref q8, .ref q9, .int (nI rg)])), (q5, .inl (cI, 61, .inl (nA ne)))] H := hP
  have hD : va_D A [(re, .inr (2, [.ref te, .ref dr, .int (nI po4), .int (tI tr4)])), (te, .inr (4, [.ref ta, .int (nI n)])), (ta, .inl (cC, 600, .inl (nA sg))), (dr, .inr (1, [.ref q1, .ref q2, .ref q3, .ref q4, .ref q5, .ref q6, .ref q7, .ref q8, .ref q9, .int (nI rg)])), (q5, .inl (cI, 61, .inl (nA ne)))] := hD
  obtain ⟨hc4, hd4, he4, hf4⟩ := gp_rs_bd hp25 (by omega) (by omega) hf3
  refine lv_aload_n hx hb d_Re_readGoingOn_28 rfl (lv_at hl 2 rfl) ?_
  refine ga_cr (As := []) (rest := []) (q0 := 0) S hK hP s_Re_38 (gc_Re_isFine l D cI cZ cC cG re te dr po4 tr4 (fun t q => by have := hf4 t q; omega)) [0] rfl rfl rfl rfl hl.1 rfl (Nat.le_of_ble_eq_true rfl) ⟨Nat.le_of_ble_eq_true rfl, Nat.le_of_ble_eq_true rfl⟩ ⟨Nat.le_of_ble_eq_true rfl, Nat.le_of_ble_eq_true rfl⟩ d_Re_readGoingOn_29 (fun r hp29 => ?_)
  rcases hp29 with ⟨rfl, hp29⟩ | ⟨rfl, hp29⟩
  · subst hp29
    refine lv_if_eq (tgt := 52) hx hb d_Re_readGoingOn_32 (by decide) (fun c32 => ?_) (fun c32 => ?_)
    · exact absurd c32 (by decide)
    · refine lv_aload_n hx hb d_Re_readGoingOn_35 rfl (lv_at hl 2 rfl) ?_
      refine ga_get S hK hP 0 rfl f_Re_21 rfl d_Re_readGoingOn_36 ?_
      refine lv_iload_n hx hb d_Re_readGoingOn_39 rfl (lv_at hl 1 rfl) ?_
      refine lv_iload_n hx hb d_Re_readGoingOn_40 rfl (lv_at hl 0 rfl) ?_
      refine ga_ji (wr := [(re, .inr (2, [.ref te, .ref dr, .int (nI po4), .int (tI none)])), (te, .inr (4, [.ref ta, .int (nI n)])), (ta, .inl (cC, 600, .inl (nA sg)))]) (ga_runV (As := [.int (nI w1), .int (nI w3)]) (rest := []) S hK s_Re_82 (gc_Pl_addGoingOn l D cI cZ cC cG dr q1 q2 q3 q4 q5 q6 q7 q8 q9 rg w1 w3 ne (by omega) hne _) (ga_prV (y := y_Pl_addGoingOn) (q0 := 3) hK hP hD [3, 4] rfl (by decide) rfl rfl) rfl hl.1 rfl (Nat.le_of_ble_eq_true rfl) ⟨Nat.le_of_ble_eq_true rfl, Nat.le_of_ble_eq_true rfl⟩ ⟨Nat.le_of_ble_eq_true rfl, Nat.le_of_ble_eq_true rfl⟩ d_Re_readGoingOn_41) hP hD hS hA [3, 4] [0, 1, 2] rfl rfl (by decide) (by decide) [0, 1, 2, 3, 4] (fun (x : Nat → Nat) => [(re, .inr (2, [.ref te, .ref dr, .int (nI po4), .int (tI none)])), (te, .inr (4, [.ref ta, .int (nI n)])), (ta, .inl (cC, 600, .inl (nA sg))), (dr, .inr (1, [.ref q1, .ref q2, .ref q3, .ref q4, .ref q5, .ref q6, .ref q7, .ref q8, .ref q9, .int (nI rg)])), (q5, .inl (cI, 61, .inl (nA x)))]) (fun _ => rfl) (by decide) (fun r x H locs hp41 hP hD hS => ?_)
      rcases hp41 with ⟨rfl, hp41, hx9⟩ | ⟨rfl, hp41, hx9⟩
      · rw [hx9] at hP hD
        have hP : va_P D vwCl [(re, .inr (2, [.ref te, .ref dr, .int (nI po4), .int (tI none)])), (te, .inr (4, [.ref ta, .int (nI n)])), (ta, .inl (cC, 600, .inl (nA sg))), (dr, .inr (1, [.ref q1, .ref q2, .ref q3, .ref q4, .ref q5, .ref q6, .ref q7, .ref q8, .ref q9, .int (nI rg)])), (q5, .inl (cI, 61, .inl (nA (va_up ne w1 w3))))] H := hP
        have hD : va_D A [(re, .inr (2, [.ref te, .ref dr, .int (nI po4), .int (tI none)])), (te, .inr (4, [.ref ta, .int (nI n)])), (ta, .inl (cC, 600, .inl (nA sg))), (dr, .inr (1, [.ref q1, .ref q2, .ref q3, .ref q4, .ref q5, .ref q6, .ref q7, .ref q8, .ref q9, .int (nI rg)])), (q5, .inl (cI, 61, .inl (nA (va_up ne w1 w3))))] := hD
        refine lv_if_ne (tgt := 52) hx hb d_Re_readGoingOn_44 (by decide) (fun c44 => ?_) (fun c44 => ?_)
        · exact ga_wv (po4, none, va_up ne w1 w3) S hrt hlk hP hD hS ⟨w1, w3, none, gp_O_eq hp4 hp11 hp18 hp25, Or.inl ⟨rfl, hp41, rfl, rfl⟩⟩ d_Re_readGoingOn_52
        · exact absurd c44 (by decide)
      · rw [hx9] at hP hD
        have hP : va_P D vwCl [(re, .inr (2, [.ref te, .ref dr, .int (nI po4), .int (tI none)])), (te, .inr (4, [.ref ta, .int (nI n)])), (ta, .inl (cC, 600, .inl (nA sg))), (dr, .inr (1, [.ref q1, .ref q2, .ref q3, .ref q4, .ref q5, .ref q6, .ref q7, .ref q8, .ref q9, .int (nI rg)])), (q5, .inl (cI, 61, .inl (nA ne)))] H := hP
        have hD : va_D A [(re, .inr (2, [.ref te, .ref dr, .int (nI po4), .int (tI none)])), (te, .inr (4, [.ref ta, .int (nI n)])), (ta, .inl (cC, 600, .inl (nA sg))), (dr, .inr (1, [.ref q1, .ref q2, .ref q3, .ref q4, .ref q5, .ref q6, .ref q7, .ref q8, .ref q9, .int (nI rg)])), (q5, .inl (cI, 61, .inl (nA ne)))] := hD
        refine lv_if_ne (tgt := 52) hx hb d_Re_readGoingOn_44 (by decide) (fun c44 => ?_) (fun c44 => ?_)
        · exact absurd c44 (by decide)
        · refine lv_aload_n hx hb d_Re_readGoingOn_47 rfl (lv_at hl 2 rfl) ?_
          refine lv_iload_n hx hb d_Re_readGoingOn_48 rfl (lv_at hl 3 rfl) ?_
          refine ga_put (ws' := [(re, .inr (2, [.ref te, .ref dr, .int (nI po4), .int (nI st)])), (te, .inr (4, [.ref ta, .int (nI n)])), (ta, .inl (cC, 600, .inl (nA sg))), (dr, .inr (1, [.ref q1, .ref q2, .ref q3, .ref q4, .ref q5, .ref q6, .ref q7, .ref q8, .ref q9, .int (nI rg)])), (q5, .inl (cI, 61, .inl (nA ne)))]) S hK hP hD hS 0 rfl p_Re_25 rfl rfl (Nat.le_of_ble_eq_true rfl) rfl d_Re_readGoingOn_49 (fun H locs hP hD hS => ?_)
          exact ga_wv (po4, some st, ne) S hrt hlk hP hD hS ⟨w1, w3, none, gp_O_eq hp4 hp11 hp18 hp25, Or.inr (Or.inl ⟨rfl, hp41, rfl, rfl⟩)⟩ d_Re_readGoingOn_52
  · refine lv_if_eq (tgt := 52) hx hb d_Re_readGoingOn_32 (by decide) (fun c32 => ?_) (fun c32 => ?_)
    · exact ga_wv (po4, tr4, ne) S hrt hlk hP hD hS ⟨w1, w3, tr4, gp_O_eq hp4 hp11 hp18 hp25, Or.inr (Or.inr ⟨hp29, rfl, rfl⟩)⟩ d_Re_readGoingOn_52
    · exact absurd c32 (by decide)
