set_option maxHeartbeats 4000000 in
set_option maxRecDepth 100000 in
theorem gc_Re_isFine (l : Launch) (D : va_G) (cI cZ cC cG : ClassId) (re te dr pos : Nat) (tr : Option Nat) (htr : ∀ t, tr = some t → t < 2 ^ 31) : ga_Mr l y_Re_isFine b_Re_isFine 1 (some .boolean) 0 D (ga_T cI cZ cC cG) [.ref re] [(re, .inr (2, [.ref te, .ref dr, .int (nI pos), .int (tI tr)]))] (fun r => (r = 1 ∧ tr = none) ∨ (r = 0 ∧ tr ≠ none)) := by
  refine ga_enR (by decide) (Nat.le_of_ble_eq_true rfl) ?_
  intro p e s m below meth c ls S hr hlk hK hP hl
  obtain ⟨hx, hb, hml, hown, hts⟩ := id S
  have hl : lv_has ls 1 [(0, .ref re)] := hl
  refine lv_aload_n hx hb d_Re_isFine_0 rfl (lv_at hl 0 rfl) ?_
  refine ga_get S hK hP 0 rfl f_Re_25 rfl d_Re_isFine_1 ?_
  refine lv_iconst (v := (-1)) hx hb d_Re_isFine_4 (by decide) ?_
  refine lv_icmp_ne (tgt := 12) hx hb d_Re_isFine_5 (by decide) (fun c5 => ?_) (fun c5 => ?_)
  · have c5 : tr ≠ none := fun q => c5 (by rw [q]; rfl)
    refine lv_iconst (v := 0) hx hb d_Re_isFine_12 (by decide) ?_
    exact ga_rz S hr hlk (Or.inl rfl) (Or.inr ⟨rfl, c5⟩) d_Re_isFine_13
  · have c5 : tr = none := tI_none htr c5
    refine lv_iconst (v := 1) hx hb d_Re_isFine_8 (by decide) ?_
    refine lv_goto (tgt := 13) hx hb d_Re_isFine_9 (by decide) ?_
    exact ga_rz S hr hlk (Or.inr rfl) (Or.inl ⟨rfl, c5⟩) d_Re_isFine_13
set_option maxHeartbeats 4000000 in
set_option maxRecDepth 100000 in
theorem gc_Re_readSign (l : Launch) (D : va_G) (cI cZ cC cG : ClassId) (re te ta dr n pos : Nat) (sg : Nat → Nat) (tr : Option Nat) (hn : n ≤ 600) (hpos : pos ≤ n) (htr : ∀ t, tr = some t → t ≤ n) (ch : Nat) (hch : ch < 2 ^ 31) (hsg : ∀ j, sg j < 2 ^ 31) : ga_Mv l y_Re_readSign b_Re_readSign 2 1 0 0 D (ga_T cI cZ cC cG) [.ref re, .int (nI ch)] [(re, .inr (2, [.ref te, .ref dr, .int (nI pos), .int (tI tr)])), (te, .inr (4, [.ref ta, .int (nI n)])), (ta, .inl (cC, 600, .inl (nA sg)))] (fun (x : Nat × Option Nat) => [(re, .inr (2, [.ref te, .ref dr, .int (nI x.1), .int (tI x.2)])), (te, .inr (4, [.ref ta, .int (nI n)])), (ta, .inl (cC, 600, .inl (nA sg)))]) (fun x => x = gp_rs sg n ch (pos, tr)) := by
  refine ga_enV (by decide) (Nat.le_of_ble_eq_true rfl) ?_
  intro p e s m below meth c ls A S hr hlk hnm hK hP hD hA hl
  have hS : va_S A s.heap s.heap [] := va_S.rf
  obtain ⟨hx, hb, hml, hown, hts⟩ := id S
  have hl : lv_has ls 2 [(0, .ref re), (1, .int (nI ch))] := hl
  refine lv_aload_n hx hb d_Re_readSign_0 rfl (lv_at hl 0 rfl) ?_
  refine ga_cr (As := []) (rest := []) (q0 := 0) S hK hP s_Re_38 (gc_Re_isFine l D cI cZ cC cG re te dr pos tr (fun t q => by have := htr t q; omega)) [0] rfl rfl rfl rfl hl.1 rfl (Nat.le_of_ble_eq_true rfl) ⟨Nat.le_of_ble_eq_true rfl, Nat.le_of_ble_eq_true rfl⟩ ⟨Nat.le_of_ble_eq_true rfl, Nat.le_of_ble_eq_true rfl⟩ d_Re_readSign_1 (fun r hp1 => ?_)
  rcases hp1 with ⟨rfl, hp1⟩ | ⟨rfl, hp1⟩
  · subst hp1
    refine lv_if_ne (tgt := 8) hx hb d_Re_readSign_4 (by decide) (fun c4 => ?_) (fun c4 => ?_)
    · refine lv_aload_n hx hb d_Re_readSign_8 rfl (lv_at hl 0 rfl) ?_
      refine ga_get S hK hP 0 rfl f_Re_12 rfl d_Re_readSign_9 ?_
      refine lv_aload_n hx hb d_Re_readSign_12 rfl (lv_at hl 0 rfl) ?_
      refine ga_get S hK hP 0 rfl f_Re_32 rfl d_Re_readSign_13 ?_
      refine ga_cr (As := [.int (nI pos)]) (rest := []) (q0 := 1) S hK hP s_Re_45 (gc_Te_signAt l D cI cZ cC cG te ta n pos sg (by omega) (by omega)) [1, 2] rfl rfl rfl rfl hl.1 rfl (Nat.le_of_ble_eq_true rfl) ⟨Nat.le_of_ble_eq_true rfl, Nat.le_of_ble_eq_true rfl⟩ ⟨Nat.le_of_ble_eq_true rfl, Nat.le_of_ble_eq_true rfl⟩ d_Re_readSign_16 (fun r hp16 => ?_)
      subst hp16
      have hg := gp_sg_lt hsg n pos
      refine lv_iload_n hx hb d_Re_readSign_19 rfl (lv_at hl 1 rfl) ?_
      refine lv_icmp_ne (tgt := 36) hx hb d_Re_readSign_20 (by decide) (fun c20 => ?_) (fun c20 => ?_)
      · have c20 : ¬ ((gp_sg sg n pos) = ch) := fun q => c20 ((nI_eq (a := (gp_sg sg n pos)) (b := ch) (by omega) (by omega)).mpr q)
        refine lv_aload_n hx hb d_Re_readSign_36 rfl (lv_at hl 0 rfl) ?_
        refine lv_aload_n hx hb d_Re_readSign_37 rfl (lv_at hl 0 rfl) ?_
        refine ga_get S hK hP 0 rfl f_Re_32 rfl d_Re_readSign_38 ?_
        refine ga_put (ws' := [(re, .inr (2, [.ref te, .ref dr, .int (nI pos), .int (nI pos)])), (te, .inr (4, [.ref ta, .int (nI n)])), (ta, .inl (cC, 600, .inl (nA sg)))]) S hK hP hD hS 0 rfl p_Re_25 rfl rfl (Nat.le_of_ble_eq_true rfl) rfl d_Re_readSign_41 (fun H locs hP hD hS => ?_)
        exact ga_wv (pos, some pos) S hr hlk hP hD hS (by rw [gp_rs, if_pos rfl, if_neg c20]) d_Re_readSign_44
      · have c20 : (gp_sg sg n pos) = ch := (nI_eq (a := (gp_sg sg n pos)) (b := ch) (by omega) (by omega)).mp c20
        refine lv_aload_n hx hb d_Re_readSign_23 rfl (lv_at hl 0 rfl) ?_
        refine lv_dup hx hb d_Re_readSign_24 rfl ?_
        refine ga_get S hK hP 0 rfl f_Re_32 rfl d_Re_readSign_25 ?_
        refine lv_iconst (v := 1) hx hb d_Re_readSign_28 (by decide) ?_
        refine lv_iadd hx hb d_Re_readSign_29 ?_
        refine ga_top (nI (pos + 1)) (nI_add pos 1) ?_
        refine ga_put (ws' := [(re, .inr (2, [.ref te, .ref dr, .int (nI (pos + 1)), .int (tI none)])), (te, .inr (4, [.ref ta, .int (nI n)])), (ta, .inl (cC, 600, .inl (nA sg)))]) S hK hP hD hS 0 rfl p_Re_32 rfl rfl (Nat.le_of_ble_eq_true rfl) rfl d_Re_readSign_30 (fun H locs hP hD hS => ?_)
        refine lv_goto (tgt := 44) hx hb d_Re_readSign_33 (by decide) ?_
        exact ga_wv (pos + 1, none) S hr hlk hP hD hS (by rw [gp_rs, if_pos rfl, if_pos c20]) d_Re_readSign_44
    · exact absurd c4 (by decide)
  · refine lv_if_ne (tgt := 8) hx hb d_Re_readSign_4 (by decide) (fun c4 => ?_) (fun c4 => ?_)
    · exact absurd c4 (by decide)
    · exact ga_wv (pos, tr) S hr hlk hP hD hS (by rw [gp_rs, if_neg hp1]) d_Re_readSign_7
set_option maxHeartbeats 4000000 in
set_option maxRecDepth 100000 in
theorem gc_Re_readPlus (l : Launch) (D : va_G) (cI cZ cC cG : ClassId) (re te ta dr n pos : Nat) (sg : Nat → Nat) (tr : Option Nat) (hn : n ≤ 600) (hpos : pos ≤ n) (htr : ∀ t, tr = some t → t ≤ n) (hsg : ∀ j, sg j < 2 ^ 31) : ga_Mi l y_Re_readPlus b_Re_readPlus 1 (some .boolean) 1 0 0 D (ga_T cI cZ cC cG) [.ref re] [(re, .inr (2, [.ref te, .ref dr, .int (nI pos), .int (tI tr)])), (te, .inr (4, [.ref ta, .int (nI n)])), (ta, .inl (cC, 600, .inl (nA sg)))] (fun (x : Bool × Nat) => [(re, .inr (2, [.ref te, .ref dr, .int (nI x.2), .int (tI tr)])), (te, .inr (4, [.ref ta, .int (nI n)])), (ta, .inl (cC, 600, .inl (nA sg)))]) (fun r x => r = bI x.1 ∧ x = gp_rp sg n (pos, tr)) := by
  refine ga_enI (by decide) (Nat.le_of_ble_eq_true rfl) ?_
  intro p e s m below meth c ls A S hr hlk hK hP hD hA hl
  have hS : va_S A s.heap s.heap [] := va_S.rf
  obtain ⟨hx, hb, hml, hown, hts⟩ := id S
  have hl : lv_has ls 1 [(0, .ref re)] := hl
  refine lv_aload_n hx hb d_Re_readPlus_0 rfl (lv_at hl 0 rfl) ?_
  refine ga_cr (As := []) (rest := []) (q0 := 0) S hK hP s_Re_38 (gc_Re_isFine l D cI cZ cC cG re te dr pos tr (fun t q => by have := htr t q; omega)) [0] rfl rfl rfl rfl hl.1 rfl (Nat.le_of_ble_eq_true rfl) ⟨Nat.le_of_ble_eq_true rfl, Nat.le_of_ble_eq_true rfl⟩ ⟨Nat.le_of_ble_eq_true rfl, Nat.le_of_ble_eq_true rfl⟩ d_Re_readPlus_1 (fun r hp1 => ?_)
  rcases hp1 with ⟨rfl, hp1⟩ | ⟨rfl, hp1⟩
  · subst hp1
    refine lv_if_eq (tgt := 23) hx hb d_Re_readPlus_4 (by decide) (fun c4 => ?_) (fun c4 => ?_)
    · exact absurd c4 (by decide)
    · refine lv_aload_n hx hb d_Re_readPlus_7 rfl (lv_at hl 0 rfl) ?_
      refine ga_get S hK hP 0 rfl f_Re_12 rfl d_Re_readPlus_8 ?_
      refine lv_aload_n hx hb d_Re_readPlus_11 rfl (lv_at hl 0 rfl) ?_
      refine ga_get S hK hP 0 rfl f_Re_32 rfl d_Re_readPlus_12 ?_
      refine ga_cr (As := [.int (nI pos)]) (rest := []) (q0 := 1) S hK hP s_Re_45 (gc_Te_signAt l D cI cZ cC cG te ta n pos sg (by omega) (by omega)) [1, 2] rfl rfl rfl rfl hl.1 rfl (Nat.le_of_ble_eq_true rfl) ⟨Nat.le_of_ble_eq_true rfl, Nat.le_of_ble_eq_true rfl⟩ ⟨Nat.le_of_ble_eq_true rfl, Nat.le_of_ble_eq_true rfl⟩ d_Re_readPlus_15 (fun r hp15 => ?_)
      subst hp15
      have hg := gp_sg_lt hsg n pos
      refine lv_bipush (v := 43) hx hb d_Re_readPlus_18 (by decide) ?_
      refine lv_icmp_eq (tgt := 25) hx hb d_Re_readPlus_20 (by decide) (fun c20 => ?_) (fun c20 => ?_)
      · have c20 : (gp_sg sg n pos) = 43 := (nI_eq (a := (gp_sg sg n pos)) (b := 43) (by omega) (by omega)).mp c20
        refine lv_aload_n hx hb d_Re_readPlus_25 rfl (lv_at hl 0 rfl) ?_
        refine lv_dup hx hb d_Re_readPlus_26 rfl ?_
        refine ga_get S hK hP 0 rfl f_Re_32 rfl d_Re_readPlus_27 ?_
        refine lv_iconst (v := 1) hx hb d_Re_readPlus_30 (by decide) ?_
        refine lv_iadd hx hb d_Re_readPlus_31 ?_
        refine ga_top (nI (pos + 1)) (nI_add pos 1) ?_
        refine ga_put (ws' := [(re, .inr (2, [.ref te, .ref dr, .int (nI (pos + 1)), .int (tI none)])), (te, .inr (4, [.ref ta, .int (nI n)])), (ta, .inl (cC, 600, .inl (nA sg)))]) S hK hP hD hS 0 rfl p_Re_32 rfl rfl (Nat.le_of_ble_eq_true rfl) rfl d_Re_readPlus_32 (fun H locs hP hD hS => ?_)
        refine lv_iconst (v := 1) hx hb d_Re_readPlus_35 (by decide) ?_
        exact ga_wz (true, pos + 1) S hr hlk (Or.inr rfl) hP hD hS ⟨rfl, by rw [gp_rp, if_pos ⟨rfl, c20⟩]⟩ d_Re_readPlus_36
      · have c20 : ¬ ((gp_sg sg n pos) = 43) := fun q => c20 ((nI_eq (a := (gp_sg sg n pos)) (b := 43) (by omega) (by omega)).mpr q)
        refine lv_iconst (v := 0) hx hb d_Re_readPlus_23 (by decide) ?_
        exact ga_wz (false, pos) S hr hlk (Or.inl rfl) hP hD hS ⟨rfl, by rw [gp_rp, if_neg (fun q => by first | exact hp1 q.1 | exact c20 q.2)]⟩ d_Re_readPlus_24
  · refine lv_if_eq (tgt := 23) hx hb d_Re_readPlus_4 (by decide) (fun c4 => ?_) (fun c4 => ?_)
    · refine lv_iconst (v := 0) hx hb d_Re_readPlus_23 (by decide) ?_
      exact ga_wz (false, pos) S hr hlk (Or.inl rfl) hP hD hS ⟨rfl, by rw [gp_rp, if_neg (fun q => by first | exact hp1 q.1 | exact c20 q.2)]⟩ d_Re_readPlus_24
    · exact absurd c4 (by decide)
set_option maxHeartbeats 4000000 in
set_option maxRecDepth 100000 in
theorem gc_Re_readNumber (l : Launch) (D : va_G) (cI cZ cC cG : ClassId) (re te ta dr n pos : Nat) (sg : Nat → Nat) (tr : Option Nat) (hn : n ≤ 600) (hpos : pos ≤ n) (htr : ∀ t, tr = some t → t ≤ n) (lo hi : Nat) (hlo : lo < 2 ^ 31) (hhi : hi < 2 ^ 31) (hsg : ∀ j, sg j < 2 ^ 31) : ga_Mi l y_Re_readNumber b_Re_readNumber 6 (some .int) 2 0 0 D (ga_T cI cZ cC cG) [.ref re, .int (nI lo), .int (nI hi)] [(re, .inr (2, [.ref te, .ref dr, .int (nI pos), .int (tI tr)])), (te, .inr (4, [.ref ta, .int (nI n)])), (ta, .inl (cC, 600, .inl (nA sg)))] (fun (x : Nat × Nat × Option Nat) => [(re, .inr (2, [.ref te, .ref dr, .int (nI x.2.1), .int (tI x.2.2)])), (te, .inr (4, [.ref ta, .int (nI n)])), (ta, .inl (cC, 600, .inl (nA sg)))]) (fun r x => r = nI x.1 ∧ x = gp_rn sg n lo hi (pos, tr)) := by
  refine ga_enI (by decide) (Nat.le_of_ble_eq_true rfl) ?_
  intro p e s m below meth c ls A S hr hlk hK hP hD hA hl
  have hS : va_S A s.heap s.heap [] := va_S.rf
  obtain ⟨hx, hb, hml, hown, hts⟩ := id S
  have hl : lv_has ls 6 [(0, .ref re), (1, .int (nI lo)), (2, .int (nI hi))] := hl
  refine lv_aload_n hx hb d_Re_readNumber_0 rfl (lv_at hl 0 rfl) ?_
  refine ga_cr (As := []) (rest := []) (q0 := 0) S hK hP s_Re_38 (gc_Re_isFine l D cI cZ cC cG re te dr pos tr (fun t q => by have := htr t q; omega)) [0] rfl rfl rfl rfl hl.1 rfl (Nat.le_of_ble_eq_true rfl) ⟨Nat.le_of_ble_eq_true rfl, Nat.le_of_ble_eq_true rfl⟩ ⟨Nat.le_of_ble_eq_true rfl, Nat.le_of_ble_eq_true rfl⟩ d_Re_readNumber_1 (fun r hp1 => ?_)
  rcases hp1 with ⟨rfl, hp1⟩ | ⟨rfl, hp1⟩
  · subst hp1
    refine lv_if_ne (tgt := 9) hx hb d_Re_readNumber_4 (by decide) (fun c4 => ?_) (fun c4 => ?_)
    · refine lv_aload_n hx hb d_Re_readNumber_9 rfl (lv_at hl 0 rfl) ?_
      refine ga_get S hK hP 0 rfl f_Re_32 rfl d_Re_readNumber_10 ?_
      refine lv_istore_n (lv' := [(3, .int (nI pos)), (0, .ref re), (1, .int (nI lo)), (2, .int (nI hi))]) hx hb d_Re_readNumber_13 rfl hl (by decide) rfl (fun ls hl => ?_)
      refine lv_iconst (v := 0) hx hb d_Re_readNumber_14 (by decide) ?_
      refine lv_istore (lv' := [(4, .int 0), (3, .int (nI pos)), (0, .ref re), (1, .int (nI lo)), (2, .int (nI hi))]) hx hb d_Re_readNumber_15 hl (by decide) rfl (fun ls hl => ?_)
      refine lv_iconst (v := 0) hx hb d_Re_readNumber_17 (by decide) ?_
      refine lv_istore (lv' := [(5, .int 0), (4, .int 0), (3, .int (nI pos)), (0, .ref re), (1, .int (nI lo)), (2, .int (nI hi))]) hx hb d_Re_readNumber_18 hl (by decide) rfl (fun ls hl => ?_)
      refine ga_loop (α := Nat × Nat × Nat) (fun x => match x with | (fg, nu, po) => 4 - fg) (fun x ls H locs => match x with | (fg, nu, po) => lv_has ls 6 [(5, .int (nI fg)), (4, .int (nI nu)), (3, .int (nI pos)), (0, .ref re), (1, .int (nI lo)), (2, .int (nI hi))] ∧ va_P D vwCl [(re, .inr (2, [.ref te, .ref dr, .int (nI po), .int (tI none)])), (te, .inr (4, [.ref ta, .int (nI n)])), (ta, .inl (cC, 600, .inl (nA sg)))] H ∧ va_D A [(re, .inr (2, [.ref te, .ref dr, .int (nI po), .int (tI none)])), (te, .inr (4, [.ref ta, .int (nI n)])), (ta, .inl (cC, 600, .inl (nA sg)))] ∧ va_S A s.heap H locs ∧ fg ≤ 4 ∧ po ≤ n ∧ nu < 10 ^ fg ∧ gp_dg sg n (4 - fg) po nu = gp_dg sg n 4 pos 0) ?_ (0, 0, pos) ⟨lv_sub hl [0, 1, 2, 3, 4, 5] rfl, hP, hD, hS, ⟨by decide, hpos, by decide, rfl⟩⟩
      intro x ls H locs hI ih
      obtain ⟨fg, nu, po⟩ := x
      obtain ⟨hl, hP, hD, hS, ⟨hfg, hpo, hnu, hiv⟩⟩ := hI
      have hl : lv_has ls 6 [(5, .int (nI fg)), (4, .int (nI nu)), (3, .int (nI pos)), (0, .ref re), (1, .int (nI lo)), (2, .int (nI hi))] := hl
      have hP : va_P D vwCl [(re, .inr (2, [.ref te, .ref dr, .int (nI po), .int (tI none)])), (te, .inr (4, [.ref ta, .int (nI n)])), (ta, .inl (cC, 600, .inl (nA sg)))] H := hP
      have hD : va_D A [(re, .inr (2, [.ref te, .ref dr, .int (nI po), .int (tI none)])), (te, .inr (4, [.ref ta, .int (nI n)])), (ta, .inl (cC, 600, .inl (nA sg)))] := hD
      have h10 := gp_p10 hfg
      refine lv_iload hx hb d_Re_readNumber_20 (lv_at hl 0 rfl) ?_
      refine lv_iconst (v := 4) hx hb d_Re_readNumber_22 (by decide) ?_
      refine lv_icmp_ge (tgt := 81) hx hb d_Re_readNumber_23 (by decide) (fun c23 => ?_) (fun c23 => ?_)
      · have c23 : 4 ≤ fg := (nI_leI (a := 4) (b := fg) (by omega) (by omega)).mp c23
        have hq : gp_dg sg n 4 pos 0 = (nu, po) := by rw [← hiv, show 4 - fg = 0 by omega]; rfl
        refine lv_aload_n hx hb d_Re_readNumber_81 rfl (lv_at hl 3 rfl) ?_
        refine ga_get S hK hP 0 rfl f_Re_32 rfl d_Re_readNumber_82 ?_
        refine lv_iload_n hx hb d_Re_readNumber_85 rfl (lv_at hl 2 rfl) ?_
        refine lv_icmp_eq (tgt := 99) hx hb d_Re_readNumber_86 (by decide) (fun c86 => ?_) (fun c86 => ?_)
        · have c86 : po = pos := (nI_eq (a := po) (b := pos) (by omega) (by omega)).mp c86
          refine lv_aload_n hx hb d_Re_readNumber_99 rfl (lv_at hl 3 rfl) ?_
          refine lv_iload_n hx hb d_Re_readNumber_100 rfl (lv_at hl 2 rfl) ?_
          refine ga_put (ws' := [(re, .inr (2, [.ref te, .ref dr, .int (nI po), .int (nI pos)])), (te, .inr (4, [.ref ta, .int (nI n)])), (ta, .inl (cC, 600, .inl (nA sg)))]) S hK hP hD hS 0 rfl p_Re_25 rfl rfl (Nat.le_of_ble_eq_true rfl) rfl d_Re_readNumber_101 (fun H locs hP hD hS => ?_)
          refine lv_iload_n hx hb d_Re_readNumber_104 rfl (lv_at hl 4 rfl) ?_
          exact ga_wi (lo, po, some pos) S hr hlk hP hD hS ⟨rfl, (gp_rn_bad hq (by first | exact Or.inl c86 | exact Or.inr hp93)).symm⟩ d_Re_readNumber_105
        · have c86 : ¬ (po = pos) := fun q => c86 ((nI_eq (a := po) (b := pos) (by omega) (by omega)).mpr q)
          refine lv_iload hx hb d_Re_readNumber_89 (lv_at hl 1 rfl) ?_
          refine lv_iload_n hx hb d_Re_readNumber_91 rfl (lv_at hl 4 rfl) ?_
          refine lv_iload_n hx hb d_Re_readNumber_92 rfl (lv_at hl 5 rfl) ?_
          refine ga_cs (As := [.int (nI nu), .int (nI lo), .int (nI hi)]) (rest := []) S hK hP s_Re_90 (gc_SP_isWithin l D cI cZ cC cG (nI nu) (nI lo) (nI hi)) [] rfl rfl hl.1 rfl (Nat.le_of_ble_eq_true rfl) ⟨Nat.le_of_ble_eq_true rfl, Nat.le_of_ble_eq_true rfl⟩ ⟨Nat.le_of_ble_eq_true rfl, Nat.le_of_ble_eq_true rfl⟩ d_Re_readNumber_93 (fun r hp93 => ?_)
          rcases hp93 with ⟨rfl, hp93⟩ | ⟨rfl, hp93⟩
          · have hp93 : lo ≤ nu ∧ nu ≤ hi := ⟨(nI_leI (a := lo) (b := nu) (by omega) (by omega)).mp hp93.1, (nI_leI (a := nu) (b := hi) (by omega) (by omega)).mp hp93.2⟩
            refine lv_if_ne (tgt := 106) hx hb d_Re_readNumber_96 (by decide) (fun c96 => ?_) (fun c96 => ?_)
            · refine lv_iload hx hb d_Re_readNumber_106 (lv_at hl 1 rfl) ?_
              exact ga_wi (nu, po, none) S hr hlk hP hD hS ⟨rfl, (gp_rn_ok hq c86 hp93).symm⟩ d_Re_readNumber_108
            · exact absurd c96 (by decide)
          · have hp93 : ¬ (lo ≤ nu ∧ nu ≤ hi) := fun q => hp93 ⟨(nI_leI (a := lo) (b := nu) (by omega) (by omega)).mpr q.1, (nI_leI (a := nu) (b := hi) (by omega) (by omega)).mpr q.2⟩
            refine lv_if_ne (tgt := 106) hx hb d_Re_readNumber_96 (by decide) (fun c96 => ?_) (fun c96 => ?_)
            · exact absurd c96 (by decide)
            · refine lv_aload_n hx hb d_Re_readNumber_99 rfl (lv_at hl 3 rfl) ?_
              refine lv_iload_n hx hb d_Re_readNumber_100 rfl (lv_at hl 2 rfl) ?_
              refine ga_put (ws' := [(re, .inr (2, [.ref te, .ref dr, .int (nI po), .int (nI pos)])), (te, .inr (4, [.ref ta, .int (nI n)])), (ta, .inl (cC, 600, .inl (nA sg)))]) S hK hP hD hS 0 rfl p_Re_25 rfl rfl (Nat.le_of_ble_eq_true rfl) rfl d_Re_readNumber_101 (fun H locs hP hD hS => ?_)
              refine lv_iload_n hx hb d_Re_readNumber_104 rfl (lv_at hl 4 rfl) ?_
              exact ga_wi (lo, po, some pos) S hr hlk hP hD hS ⟨rfl, (gp_rn_bad hq (by first | exact Or.inl c86 | exact Or.inr hp93)).symm⟩ d_Re_readNumber_105
      · have c23 : ¬ (4 ≤ fg) := fun q => c23 ((nI_leI (a := 4) (b := fg) (by omega) (by omega)).mpr q)
        refine lv_aload_n hx hb d_Re_readNumber_26 rfl (lv_at hl 3 rfl) ?_
        refine ga_get S hK hP 0 rfl f_Re_12 rfl d_Re_readNumber_27 ?_
        refine lv_aload_n hx hb d_Re_readNumber_30 rfl (lv_at hl 3 rfl) ?_
        refine ga_get S hK hP 0 rfl f_Re_32 rfl d_Re_readNumber_31 ?_
        refine ga_cr (As := [.int (nI po)]) (rest := []) (q0 := 1) S hK hP s_Re_45 (gc_Te_signAt l D cI cZ cC cG te ta n po sg (by omega) (by omega)) [1, 2] rfl rfl rfl rfl hl.1 rfl (Nat.le_of_ble_eq_true rfl) ⟨Nat.le_of_ble_eq_true rfl, Nat.le_of_ble_eq_true rfl⟩ ⟨Nat.le_of_ble_eq_true rfl, Nat.le_of_ble_eq_true rfl⟩ d_Re_readNumber_34 (fun r hp34 => ?_)
        subst hp34
        have hg := gp_sg_lt hsg n po
        refine ga_cs (As := [.int (nI (gp_sg sg n po))]) (rest := []) S hK hP s_Re_86 (gc_Re_isFigure l D cI cZ cC cG (gp_sg sg n po) (by omega)) [] rfl rfl hl.1 rfl (Nat.le_of_ble_eq_true rfl) ⟨Nat.le_of_ble_eq_true rfl, Nat.le_of_ble_eq_true rfl⟩ ⟨Nat.le_of_ble_eq_true rfl, Nat.le_of_ble_eq_true rfl⟩ d_Re_readNumber_37 (fun r hp37 => ?_)
        rcases hp37 with ⟨rfl, hp37⟩ | ⟨rfl, hp37⟩
        · have hd : gp_dg sg n (4 - (fg + 1)) (po + 1) (((nu * 10) + (gp_sg sg n po)) - 48) = gp_dg sg n 4 pos 0 := by rw [← hiv, show 4 - fg = (4 - (fg + 1)) + 1 by omega, gp_dg, if_pos hp37]
          have hlt := gp_sg_pos (sg := sg) (n := n) (i := po) (by omega)
          refine lv_if_eq (tgt := 81) hx hb d_Re_readNumber_40 (by decide) (fun c40 => ?_) (fun c40 => ?_)
          · exact absurd c40 (by decide)
          · refine lv_iload hx hb d_Re_readNumber_43 (lv_at hl 1 rfl) ?_
            refine lv_bipush (v := 10) hx hb d_Re_readNumber_45 (by decide) ?_
            refine lv_imul hx hb d_Re_readNumber_47 ?_
            refine ga_top (nI (nu * 10)) (pk_mul nu 10) ?_
            refine lv_aload_n hx hb d_Re_readNumber_48 rfl (lv_at hl 3 rfl) ?_
            refine ga_get S hK hP 0 rfl f_Re_12 rfl d_Re_readNumber_49 ?_
            refine lv_aload_n hx hb d_Re_readNumber_52 rfl (lv_at hl 3 rfl) ?_
            refine ga_get S hK hP 0 rfl f_Re_32 rfl d_Re_readNumber_53 ?_
            refine ga_cr (As := [.int (nI po)]) (rest := [.int (nI (nu * 10))]) (q0 := 1) S hK hP s_Re_45 (gc_Te_signAt l D cI cZ cC cG te ta n po sg (by omega) (by omega)) [1, 2] rfl rfl rfl rfl hl.1 rfl (Nat.le_of_ble_eq_true rfl) ⟨Nat.le_of_ble_eq_true rfl, Nat.le_of_ble_eq_true rfl⟩ ⟨Nat.le_of_ble_eq_true rfl, Nat.le_of_ble_eq_true rfl⟩ d_Re_readNumber_56 (fun r hp56 => ?_)
            subst hp56
            refine lv_iadd hx hb d_Re_readNumber_59 ?_
            refine ga_top (nI ((nu * 10) + (gp_sg sg n po))) (nI_add (nu * 10) (gp_sg sg n po)) ?_
            refine lv_bipush (v := 48) hx hb d_Re_readNumber_60 (by decide) ?_
            refine lv_isub hx hb d_Re_readNumber_62 ?_
            refine ga_top (nI (((nu * 10) + (gp_sg sg n po)) - 48)) (pk_sub (a := ((nu * 10) + (gp_sg sg n po))) (b := 48) (by omega)) ?_
            refine lv_istore (lv' := [(4, .int (nI (((nu * 10) + (gp_sg sg n po)) - 48))), (5, .int (nI fg)), (3, .int (nI pos)), (0, .ref re), (1, .int (nI lo)), (2, .int (nI hi))]) hx hb d_Re_readNumber_63 hl (by decide) rfl (fun ls hl => ?_)
            refine lv_aload_n hx hb d_Re_readNumber_65 rfl (lv_at hl 3 rfl) ?_
            refine lv_dup hx hb d_Re_readNumber_66 rfl ?_
            refine ga_get S hK hP 0 rfl f_Re_32 rfl d_Re_readNumber_67 ?_
            refine lv_iconst (v := 1) hx hb d_Re_readNumber_70 (by decide) ?_
            refine lv_iadd hx hb d_Re_readNumber_71 ?_
            refine ga_top (nI (po + 1)) (nI_add po 1) ?_
            refine ga_put (ws' := [(re, .inr (2, [.ref te, .ref dr, .int (nI (po + 1)), .int (tI none)])), (te, .inr (4, [.ref ta, .int (nI n)])), (ta, .inl (cC, 600, .inl (nA sg)))]) S hK hP hD hS 0 rfl p_Re_32 rfl rfl (Nat.le_of_ble_eq_true rfl) rfl d_Re_readNumber_72 (fun H locs hP hD hS => ?_)
            refine lv_iinc (v := nI (fg + 1)) (lv' := [(5, .int (nI (fg + 1))), (4, .int (nI (((nu * 10) + (gp_sg sg n po)) - 48))), (3, .int (nI pos)), (0, .ref re), (1, .int (nI lo)), (2, .int (nI hi))]) hx hb d_Re_readNumber_75 hl (k := 1) rfl (ga_inc fg) (by decide) rfl (fun ls hl => ?_)
            refine lv_goto (tgt := 20) hx hb d_Re_readNumber_78 (by decide) ?_
            exact ih (fg + 1, ((nu * 10) + (gp_sg sg n po)) - 48, po + 1) _ _ _ (by show (4 - (fg + 1)) < (4 - fg); omega) ⟨lv_sub hl [0, 1, 2, 3, 4, 5] rfl, hP, hD, hS, by omega, by omega, by rw [Nat.pow_succ]; omega, hd⟩
        · have hq : gp_dg sg n 4 pos 0 = (nu, po) := by rw [← hiv, show 4 - fg = (4 - (fg + 1)) + 1 by omega, gp_dg, if_neg hp37]
          refine lv_if_eq (tgt := 81) hx hb d_Re_readNumber_40 (by decide) (fun c40 => ?_) (fun c40 => ?_)
          · refine lv_aload_n hx hb d_Re_readNumber_81 rfl (lv_at hl 3 rfl) ?_
            refine ga_get S hK hP 0 rfl f_Re_32 rfl d_Re_readNumber_82 ?_
            refine lv_iload_n hx hb d_Re_readNumber_85 rfl (lv_at hl 2 rfl) ?_
            refine lv_icmp_eq (tgt := 99) hx hb d_Re_readNumber_86 (by decide) (fun c86 => ?_) (fun c86 => ?_)
            · have c86 : po = pos := (nI_eq (a := po) (b := pos) (by omega) (by omega)).mp c86
              refine lv_aload_n hx hb d_Re_readNumber_99 rfl (lv_at hl 3 rfl) ?_
              refine lv_iload_n hx hb d_Re_readNumber_100 rfl (lv_at hl 2 rfl) ?_
              refine ga_put (ws' := [(re, .inr (2, [.ref te, .ref dr, .int (nI po), .int (nI pos)])), (te, .inr (4, [.ref ta, .int (nI n)])), (ta, .inl (cC, 600, .inl (nA sg)))]) S hK hP hD hS 0 rfl p_Re_25 rfl rfl (Nat.le_of_ble_eq_true rfl) rfl d_Re_readNumber_101 (fun H locs hP hD hS => ?_)
              refine lv_iload_n hx hb d_Re_readNumber_104 rfl (lv_at hl 4 rfl) ?_
              exact ga_wi (lo, po, some pos) S hr hlk hP hD hS ⟨rfl, (gp_rn_bad hq (by first | exact Or.inl c86 | exact Or.inr hp93)).symm⟩ d_Re_readNumber_105
            · have c86 : ¬ (po = pos) := fun q => c86 ((nI_eq (a := po) (b := pos) (by omega) (by omega)).mpr q)
              refine lv_iload hx hb d_Re_readNumber_89 (lv_at hl 1 rfl) ?_
              refine lv_iload_n hx hb d_Re_readNumber_91 rfl (lv_at hl 4 rfl) ?_
              refine lv_iload_n hx hb d_Re_readNumber_92 rfl (lv_at hl 5 rfl) ?_
              refine ga_cs (As := [.int (nI nu), .int (nI lo), .int (nI hi)]) (rest := []) S hK hP s_Re_90 (gc_SP_isWithin l D cI cZ cC cG (nI nu) (nI lo) (nI hi)) [] rfl rfl hl.1 rfl (Nat.le_of_ble_eq_true rfl) ⟨Nat.le_of_ble_eq_true rfl, Nat.le_of_ble_eq_true rfl⟩ ⟨Nat.le_of_ble_eq_true rfl, Nat.le_of_ble_eq_true rfl⟩ d_Re_readNumber_93 (fun r hp93 => ?_)
              rcases hp93 with ⟨rfl, hp93⟩ | ⟨rfl, hp93⟩
              · have hp93 : lo ≤ nu ∧ nu ≤ hi := ⟨(nI_leI (a := lo) (b := nu) (by omega) (by omega)).mp hp93.1, (nI_leI (a := nu) (b := hi) (by omega) (by omega)).mp hp93.2⟩
                refine lv_if_ne (tgt := 106) hx hb d_Re_readNumber_96 (by decide) (fun c96 => ?_) (fun c96 => ?_)
                · refine lv_iload hx hb d_Re_readNumber_106 (lv_at hl 1 rfl) ?_
                  exact ga_wi (nu, po, none) S hr hlk hP hD hS ⟨rfl, (gp_rn_ok hq c86 hp93).symm⟩ d_Re_readNumber_108
                · exact absurd c96 (by decide)
              · have hp93 : ¬ (lo ≤ nu ∧ nu ≤ hi) := fun q => hp93 ⟨(nI_leI (a := lo) (b := nu) (by omega) (by omega)).mpr q.1, (nI_leI (a := nu) (b := hi) (by omega) (by omega)).mpr q.2⟩
                refine lv_if_ne (tgt := 106) hx hb d_Re_readNumber_96 (by decide) (fun c96 => ?_) (fun c96 => ?_)
                · exact absurd c96 (by decide)
                · refine lv_aload_n hx hb d_Re_readNumber_99 rfl (lv_at hl 3 rfl) ?_
                  refine lv_iload_n hx hb d_Re_readNumber_100 rfl (lv_at hl 2 rfl) ?_
                  refine ga_put (ws' := [(re, .inr (2, [.ref te, .ref dr, .int (nI po), .int (nI pos)])), (te, .inr (4, [.ref ta, .int (nI n)])), (ta, .inl (cC, 600, .inl (nA sg)))]) S hK hP hD hS 0 rfl p_Re_25 rfl rfl (Nat.le_of_ble_eq_true rfl) rfl d_Re_readNumber_101 (fun H locs hP hD hS => ?_)
                  refine lv_iload_n hx hb d_Re_readNumber_104 rfl (lv_at hl 4 rfl) ?_
                  exact ga_wi (lo, po, some pos) S hr hlk hP hD hS ⟨rfl, (gp_rn_bad hq (by first | exact Or.inl c86 | exact Or.inr hp93)).symm⟩ d_Re_readNumber_105
          · exact absurd c40 (by decide)
    · exact absurd c4 (by decide)
  · refine lv_if_ne (tgt := 9) hx hb d_Re_readNumber_4 (by decide) (fun c4 => ?_) (fun c4 => ?_)
    · exact absurd c4 (by decide)
    · refine lv_iload_n hx hb d_Re_readNumber_7 rfl (lv_at hl 1 rfl) ?_
      exact ga_wi (lo, pos, tr) S hr hlk hP hD hS ⟨rfl, (gp_rn_some hp1).symm⟩ d_Re_readNumber_8
