set_option maxHeartbeats 4000000 in
set_option maxRecDepth 100000 in
theorem gc_Sh_putNumber (l : Launch) (D : va_G) (cI cZ cC cG : ClassId) (shh sha n k : Nat) (sg : Nat → Nat) (L : List Nat) (hk : k ≤ 99) (hL : gp_hs sg n L) (hlen : L.length + 2 ≤ 240) : ga_Mv l y_Sh_putNumber b_Sh_putNumber 2 1 0 0 D (ga_T cI cZ cC cG) [.ref shh, .int (nI k)] [(shh, .inr (3, [.ref sha, .int (nI n)])), (sha, .inl (cC, 240, .inl (nA sg)))] (fun (x : (Nat → Nat) × Nat) => [(shh, .inr (3, [.ref sha, .int (nI x.2)])), (sha, .inl (cC, 240, .inl (nA x.1)))]) (fun x => gp_hs x.1 x.2 (L ++ gp_dl k)) := by
  refine ga_enV (by decide) (Nat.le_of_ble_eq_true rfl) ?_
  intro p e s m below meth c ls A S hrt hlk hnm hK hP hD hA hl
  have hS : va_S A s.heap s.heap [] := va_S.rf
  obtain ⟨hx, hb, hml, hown, hts⟩ := id S
  have hl : lv_has ls 2 [(0, .ref shh), (1, .int (nI k))] := hl
  refine lv_iload_n hx hb d_Sh_putNumber_0 rfl (lv_at hl 1 rfl) ?_
  refine lv_bipush (v := 10) hx hb d_Sh_putNumber_1 (by decide) ?_
  refine lv_icmp_lt (tgt := 18) hx hb d_Sh_putNumber_3 (by decide) (fun c3 => ?_) (fun c3 => ?_)
  · have c3 : k < 10 := (nI_ltI (a := k) (b := 10) (by omega) (by omega)).mp c3
    refine lv_aload_n hx hb d_Sh_putNumber_18 rfl (lv_at hl 0 rfl) ?_
    refine lv_bipush (v := 48) hx hb d_Sh_putNumber_19 (by decide) ?_
    refine lv_iload_n hx hb d_Sh_putNumber_21 rfl (lv_at hl 1 rfl) ?_
    refine lv_bipush (v := 10) hx hb d_Sh_putNumber_22 (by decide) ?_
    refine lv_irem hx hb d_Sh_putNumber_24 (by decide) ?_
    refine ga_top (nI (k % 10)) (pk_rem (a := k) (d := 10) (by omega) (by decide) (by decide)) ?_
    refine lv_iadd hx hb d_Sh_putNumber_25 ?_
    refine ga_top (nI (48 + (k % 10))) (nI_add 48 (k % 10)) ?_
    refine lv_i2c hx hb d_Sh_putNumber_26 rfl ?_
    refine ga_top (nI (48 + (k % 10))) (ga_c16 (q := (48 + (k % 10))) (by omega)) ?_
    refine ga_jv (wr := []) (ga_runV (As := [.int (nI (48 + (k % 10)))]) (rest := []) S hK s_Sh_33 (gc_Sh_put l D cI cZ cC cG shh sha n (48 + (k % 10)) sg (by have h0 := hL.1; have h9 := hlen; (try simp only [List.length_append, List.length_singleton, List.length_cons, List.length_nil] at h9 h0); (try simp only [List.length_append, List.length_singleton, List.length_cons, List.length_nil]); omega) (by omega) _) (ga_prV (y := y_Sh_put) (q0 := 0) hK hP hD [0, 1] rfl (by decide) rfl rfl) rfl hl.1 rfl (Nat.le_of_ble_eq_true rfl) ⟨Nat.le_of_ble_eq_true rfl, Nat.le_of_ble_eq_true rfl⟩ ⟨Nat.le_of_ble_eq_true rfl, Nat.le_of_ble_eq_true rfl⟩ d_Sh_putNumber_27) hP hD hS hA [0, 1] [] rfl rfl (by decide) (by decide) [0, 1] (fun _ => [(shh, .inr (3, [.ref sha, .int (nI ((gp_sp (sg, n) (48 + (k % 10))).2))])), (sha, .inl (cC, 240, .inl (nA ((gp_sp (sg, n) (48 + (k % 10))).1))))]) (fun _ => rfl) (by decide) (fun x H locs hp27 hP hD hS => ?_)
    obtain ⟨⟨g1, n1⟩, hg1⟩ : ∃ z, z = gp_sp (sg, n) (48 + (k % 10)) := ⟨_, rfl⟩
    rw [← hg1] at hP hD
    have hP : va_P D vwCl [(shh, .inr (3, [.ref sha, .int (nI n1)])), (sha, .inl (cC, 240, .inl (nA g1)))] H := hP
    have hD : va_D A [(shh, .inr (3, [.ref sha, .int (nI n1)])), (sha, .inl (cC, 240, .inl (nA g1)))] := hD
    have hg1z : gp_hs g1 n1 (L ++ [48 + (k % 10)]) := gp_hs_put hL (by have h9 := hlen; (try simp only [List.length_append, List.length_singleton, List.length_cons, List.length_nil] at h9); (try simp only [List.length_append, List.length_singleton, List.length_cons, List.length_nil]); omega) hg1
    exact ga_wv (g1, n1) S hrt hlk hP hD hS (by rw [gp_dl, if_neg (by omega)]; simpa using hg1z) d_Sh_putNumber_30
  · have c3 : ¬ (k < 10) := fun q => c3 ((nI_ltI (a := k) (b := 10) (by omega) (by omega)).mpr q)
    refine lv_aload_n hx hb d_Sh_putNumber_6 rfl (lv_at hl 0 rfl) ?_
    refine lv_bipush (v := 48) hx hb d_Sh_putNumber_7 (by decide) ?_
    refine lv_iload_n hx hb d_Sh_putNumber_9 rfl (lv_at hl 1 rfl) ?_
    refine lv_bipush (v := 10) hx hb d_Sh_putNumber_10 (by decide) ?_
    refine lv_idiv hx hb d_Sh_putNumber_12 (by decide) ?_
    refine ga_top (nI (k / 10)) (pk_div (a := k) (d := 10) (by omega) (by decide) (by decide)) ?_
    refine lv_iadd hx hb d_Sh_putNumber_13 ?_
    refine ga_top (nI (48 + (k / 10))) (nI_add 48 (k / 10)) ?_
    refine lv_i2c hx hb d_Sh_putNumber_14 rfl ?_
    refine ga_top (nI (48 + (k / 10))) (ga_c16 (q := (48 + (k / 10))) (by omega)) ?_
    refine ga_jv (wr := []) (ga_runV (As := [.int (nI (48 + (k / 10)))]) (rest := []) S hK s_Sh_33 (gc_Sh_put l D cI cZ cC cG shh sha n (48 + (k / 10)) sg (by have h0 := hL.1; have h9 := hlen; (try simp only [List.length_append, List.length_singleton, List.length_cons, List.length_nil] at h9 h0); (try simp only [List.length_append, List.length_singleton, List.length_cons, List.length_nil]); omega) (by omega) _) (ga_prV (y := y_Sh_put) (q0 := 0) hK hP hD [0, 1] rfl (by decide) rfl rfl) rfl hl.1 rfl (Nat.le_of_ble_eq_true rfl) ⟨Nat.le_of_ble_eq_true rfl, Nat.le_of_ble_eq_true rfl⟩ ⟨Nat.le_of_ble_eq_true rfl, Nat.le_of_ble_eq_true rfl⟩ d_Sh_putNumber_15) hP hD hS hA [0, 1] [] rfl rfl (by decide) (by decide) [0, 1] (fun _ => [(shh, .inr (3, [.ref sha, .int (nI ((gp_sp (sg, n) (48 + (k / 10))).2))])), (sha, .inl (cC, 240, .inl (nA ((gp_sp (sg, n) (48 + (k / 10))).1))))]) (fun _ => rfl) (by decide) (fun x H locs hp15 hP hD hS => ?_)
    obtain ⟨⟨g1, n1⟩, hg1⟩ : ∃ z, z = gp_sp (sg, n) (48 + (k / 10)) := ⟨_, rfl⟩
    rw [← hg1] at hP hD
    have hP : va_P D vwCl [(shh, .inr (3, [.ref sha, .int (nI n1)])), (sha, .inl (cC, 240, .inl (nA g1)))] H := hP
    have hD : va_D A [(shh, .inr (3, [.ref sha, .int (nI n1)])), (sha, .inl (cC, 240, .inl (nA g1)))] := hD
    have hg1z : gp_hs g1 n1 (L ++ [48 + (k / 10)]) := gp_hs_put hL (by have h9 := hlen; (try simp only [List.length_append, List.length_singleton, List.length_cons, List.length_nil] at h9); (try simp only [List.length_append, List.length_singleton, List.length_cons, List.length_nil]); omega) hg1
    refine lv_aload_n hx hb d_Sh_putNumber_18 rfl (lv_at hl 0 rfl) ?_
    refine lv_bipush (v := 48) hx hb d_Sh_putNumber_19 (by decide) ?_
    refine lv_iload_n hx hb d_Sh_putNumber_21 rfl (lv_at hl 1 rfl) ?_
    refine lv_bipush (v := 10) hx hb d_Sh_putNumber_22 (by decide) ?_
    refine lv_irem hx hb d_Sh_putNumber_24 (by decide) ?_
    refine ga_top (nI (k % 10)) (pk_rem (a := k) (d := 10) (by omega) (by decide) (by decide)) ?_
    refine lv_iadd hx hb d_Sh_putNumber_25 ?_
    refine ga_top (nI (48 + (k % 10))) (nI_add 48 (k % 10)) ?_
    refine lv_i2c hx hb d_Sh_putNumber_26 rfl ?_
    refine ga_top (nI (48 + (k % 10))) (ga_c16 (q := (48 + (k % 10))) (by omega)) ?_
    refine ga_jv (wr := []) (ga_runV (As := [.int (nI (48 + (k % 10)))]) (rest := []) S hK s_Sh_33 (gc_Sh_put l D cI cZ cC cG shh sha n1 (48 + (k % 10)) g1 (by have h0 := hg1z.1; have h9 := hlen; (try simp only [List.length_append, List.length_singleton, List.length_cons, List.length_nil] at h9 h0); (try simp only [List.length_append, List.length_singleton, List.length_cons, List.length_nil]); omega) (by omega) _) (ga_prV (y := y_Sh_put) (q0 := 0) hK hP hD [0, 1] rfl (by decide) rfl rfl) rfl hl.1 rfl (Nat.le_of_ble_eq_true rfl) ⟨Nat.le_of_ble_eq_true rfl, Nat.le_of_ble_eq_true rfl⟩ ⟨Nat.le_of_ble_eq_true rfl, Nat.le_of_ble_eq_true rfl⟩ d_Sh_putNumber_27) hP hD hS hA [0, 1] [] rfl rfl (by decide) (by decide) [0, 1] (fun _ => [(shh, .inr (3, [.ref sha, .int (nI ((gp_sp (g1, n1) (48 + (k % 10))).2))])), (sha, .inl (cC, 240, .inl (nA ((gp_sp (g1, n1) (48 + (k % 10))).1))))]) (fun _ => rfl) (by decide) (fun x H locs hp27 hP hD hS => ?_)
    obtain ⟨⟨g2, n2⟩, hg2⟩ : ∃ z, z = gp_sp (g1, n1) (48 + (k % 10)) := ⟨_, rfl⟩
    rw [← hg2] at hP hD
    have hP : va_P D vwCl [(shh, .inr (3, [.ref sha, .int (nI n2)])), (sha, .inl (cC, 240, .inl (nA g2)))] H := hP
    have hD : va_D A [(shh, .inr (3, [.ref sha, .int (nI n2)])), (sha, .inl (cC, 240, .inl (nA g2)))] := hD
    have hg2z : gp_hs g2 n2 ((L ++ [48 + (k / 10)]) ++ [48 + (k % 10)]) := gp_hs_put hg1z (by have h9 := hlen; (try simp only [List.length_append, List.length_singleton, List.length_cons, List.length_nil] at h9); (try simp only [List.length_append, List.length_singleton, List.length_cons, List.length_nil]); omega) hg2
    exact ga_wv (g2, n2) S hrt hlk hP hD hS (by rw [gp_dl, if_pos (by omega)]; simpa using hg2z) d_Sh_putNumber_30
set_option maxHeartbeats 4000000 in
set_option maxRecDepth 100000 in
theorem gc_Sh_writeBin (l : Launch) (D : va_G) (cI cZ cC cG : ClassId) (shh sha n b : Nat) (sg : Nat → Nat) (L : List Nat) (pl q1 q2 q3 q4 q5 q6 q7 q8 q9 : Nat) (rg : Nat) (bn : Nat → Nat) (hb60 : b ≤ 60) (hbn : ∀ j, bn j ≤ 60) (hL : gp_hs sg n L) (hroom : L.length + 6 * gp_ht (fun j => bn (gp_sl (j + 1) 0 0)) b 40 ≤ 240) : ga_Mv l y_Sh_writeBin b_Sh_writeBin 5 2 0 0 D (ga_T cI cZ cC cG) [.ref shh, .ref pl, .int (nI b)] [(shh, .inr (3, [.ref sha, .int (nI n)])), (sha, .inl (cC, 240, .inl (nA sg))), (pl, .inr (1, [.ref q1, .ref q2, .ref q3, .ref q4, .ref q5, .ref q6, .ref q7, .ref q8, .ref q9, .int (nI rg)])), (q1, .inl (cI, 480, .inl (nA bn)))] (fun (x : (Nat → Nat) × Nat) => [(shh, .inr (3, [.ref sha, .int (nI x.2)])), (sha, .inl (cC, 240, .inl (nA x.1))), (pl, .inr (1, [.ref q1, .ref q2, .ref q3, .ref q4, .ref q5, .ref q6, .ref q7, .ref q8, .ref q9, .int (nI rg)])), (q1, .inl (cI, 480, .inl (nA bn)))]) (fun x => gp_hs x.1 x.2 (L ++ gp_ln (fun j => bn (gp_sl (j + 1) 0 0)) b)) := by
  refine ga_enV (by decide) (Nat.le_of_ble_eq_true rfl) ?_
  intro p e s m below meth c ls A S hrt hlk hnm hK hP hD hA hl
  have hS : va_S A s.heap s.heap [] := va_S.rf
  obtain ⟨hx, hb, hml, hown, hts⟩ := id S
  have hl : lv_has ls 5 [(0, .ref shh), (1, .ref pl), (2, .int (nI b))] := hl
  refine lv_iconst (v := 0) hx hb d_Sh_writeBin_0 (by decide) ?_
  refine lv_istore_n (lv' := [(3, .int 0), (0, .ref shh), (1, .ref pl), (2, .int (nI b))]) hx hb d_Sh_writeBin_1 rfl hl (by decide) rfl (fun ls hl => ?_)
  refine lv_iconst (v := 1) hx hb d_Sh_writeBin_2 (by decide) ?_
  refine lv_istore (lv' := [(4, .int 1), (3, .int 0), (0, .ref shh), (1, .ref pl), (2, .int (nI b))]) hx hb d_Sh_writeBin_3 hl (by decide) rfl (fun ls hl => ?_)
  refine ga_loop (α := Nat × Bool × (Nat → Nat) × Nat) (fun x => match x with | (t, bg, g, nn) => 41 - t) (fun x ls H locs => match x with | (t, bg, g, nn) => lv_has ls 5 [(4, .int (nI t)), (3, .int (bI bg)), (0, .ref shh), (1, .ref pl), (2, .int (nI b))] ∧ va_P D vwCl [(shh, .inr (3, [.ref sha, .int (nI nn)])), (sha, .inl (cC, 240, .inl (nA g))), (pl, .inr (1, [.ref q1, .ref q2, .ref q3, .ref q4, .ref q5, .ref q6, .ref q7, .ref q8, .ref q9, .int (nI rg)])), (q1, .inl (cI, 480, .inl (nA bn)))] H ∧ va_D A [(shh, .inr (3, [.ref sha, .int (nI nn)])), (sha, .inl (cC, 240, .inl (nA g))), (pl, .inr (1, [.ref q1, .ref q2, .ref q3, .ref q4, .ref q5, .ref q6, .ref q7, .ref q8, .ref q9, .int (nI rg)])), (q1, .inl (cI, 480, .inl (nA bn)))] ∧ va_S A s.heap H locs ∧ 1 ≤ t ∧ t ≤ 41 ∧ bg = decide ((gp_rw (fun j => bn (gp_sl (j + 1) 0 0)) b (t - 1)) ≠ []) ∧ gp_hs g nn (L ++ (gp_rw (fun j => bn (gp_sl (j + 1) 0 0)) b (t - 1)))) ?_ (1, false, sg, n) ⟨lv_sub hl [0, 1, 2, 3, 4] rfl, hP, hD, hS, ⟨by decide, by decide, rfl, by rw [show 1 - 1 = 0 from rfl]; simpa [gp_rw] using hL⟩⟩
  intro x ls H locs hI ih
  obtain ⟨t, bg, g, nn⟩ := x
  obtain ⟨hl, hP, hD, hS, ⟨h1, h2, hbg, hz⟩⟩ := hI
  have hl : lv_has ls 5 [(4, .int (nI t)), (3, .int (bI bg)), (0, .ref shh), (1, .ref pl), (2, .int (nI b))] := hl
  have hP : va_P D vwCl [(shh, .inr (3, [.ref sha, .int (nI nn)])), (sha, .inl (cC, 240, .inl (nA g))), (pl, .inr (1, [.ref q1, .ref q2, .ref q3, .ref q4, .ref q5, .ref q6, .ref q7, .ref q8, .ref q9, .int (nI rg)])), (q1, .inl (cI, 480, .inl (nA bn)))] H := hP
  have hD : va_D A [(shh, .inr (3, [.ref sha, .int (nI nn)])), (sha, .inl (cC, 240, .inl (nA g))), (pl, .inr (1, [.ref q1, .ref q2, .ref q3, .ref q4, .ref q5, .ref q6, .ref q7, .ref q8, .ref q9, .int (nI rg)])), (q1, .inl (cI, 480, .inl (nA bn)))] := hD
  refine lv_iload hx hb d_Sh_writeBin_5 (lv_at hl 0 rfl) ?_
  refine lv_bipush (v := 40) hx hb d_Sh_writeBin_7 (by decide) ?_
  refine lv_icmp_gt (tgt := 69) hx hb d_Sh_writeBin_9 (by decide) (fun c9 => ?_) (fun c9 => ?_)
  · have c9 : 40 < t := (nI_ltI (a := 40) (b := t) (by omega) (by omega)).mp c9
    refine lv_iload_n hx hb d_Sh_writeBin_69 rfl (lv_at hl 1 rfl) ?_
    refine lv_if_eq (tgt := 79) hx hb d_Sh_writeBin_70 (by decide) (fun c70 => ?_) (fun c70 => ?_)
    · have c70 : bg = false := bI_0 c70
      have hem : gp_rw (fun j => bn (gp_sl (j + 1) 0 0)) b 40 = [] := by rw [hbg, show t - 1 = 40 by omega] at c70; simpa using c70
      exact ga_wv (g, nn) S hrt hlk hP hD hS (by rw [gp_ln, if_pos hem]; rw [show t - 1 = 40 by omega, hem] at hz; exact hz) d_Sh_writeBin_79
    · have c70 : bg = true := bI_1 c70
      have hne : gp_rw (fun j => bn (gp_sl (j + 1) 0 0)) b 40 ≠ [] := by rw [hbg, show t - 1 = 40 by omega] at c70; simpa using c70
      have hlen := gp_rw_room2 (L := L) hne hroom
      rw [show t - 1 = 40 by omega] at hz
      refine lv_aload_n hx hb d_Sh_writeBin_73 rfl (lv_at hl 2 rfl) ?_
      refine lv_bipush (v := 59) hx hb d_Sh_writeBin_74 (by decide) ?_
      refine ga_jv (wr := [(pl, .inr (1, [.ref q1, .ref q2, .ref q3, .ref q4, .ref q5, .ref q6, .ref q7, .ref q8, .ref q9, .int (nI rg)])), (q1, .inl (cI, 480, .inl (nA bn)))]) (ga_runV (As := [.int 59]) (rest := []) S hK s_Sh_33 (gc_Sh_put l D cI cZ cC cG shh sha nn 59 g (by have h0 := hz.1; have h9 := hlen; have h8 := gp_dl_le b; (try simp only [List.length_append, List.length_singleton, List.length_cons, List.length_nil] at h9 h0); (try simp only [List.length_append, List.length_singleton, List.length_cons, List.length_nil]); omega) (by omega) _) (ga_prV (y := y_Sh_put) (q0 := 0) hK hP hD [0, 1] rfl (by decide) rfl rfl) rfl hl.1 rfl (Nat.le_of_ble_eq_true rfl) ⟨Nat.le_of_ble_eq_true rfl, Nat.le_of_ble_eq_true rfl⟩ ⟨Nat.le_of_ble_eq_true rfl, Nat.le_of_ble_eq_true rfl⟩ d_Sh_writeBin_76) hP hD hS hA [0, 1] [2, 3] rfl rfl (by decide) (by decide) [2, 3, 0, 1] (fun _ => [(shh, .inr (3, [.ref sha, .int (nI ((gp_sp (g, nn) 59).2))])), (sha, .inl (cC, 240, .inl (nA ((gp_sp (g, nn) 59).1)))), (pl, .inr (1, [.ref q1, .ref q2, .ref q3, .ref q4, .ref q5, .ref q6, .ref q7, .ref q8, .ref q9, .int (nI rg)])), (q1, .inl (cI, 480, .inl (nA bn)))]) (fun _ => rfl) (by decide) (fun x H locs hp76 hP hD hS => ?_)
      obtain ⟨⟨g1, n1⟩, hg1⟩ : ∃ z, z = gp_sp (g, nn) 59 := ⟨_, rfl⟩
      rw [← hg1] at hP hD
      have hP : va_P D vwCl [(shh, .inr (3, [.ref sha, .int (nI n1)])), (sha, .inl (cC, 240, .inl (nA g1))), (pl, .inr (1, [.ref q1, .ref q2, .ref q3, .ref q4, .ref q5, .ref q6, .ref q7, .ref q8, .ref q9, .int (nI rg)])), (q1, .inl (cI, 480, .inl (nA bn)))] H := hP
      have hD : va_D A [(shh, .inr (3, [.ref sha, .int (nI n1)])), (sha, .inl (cC, 240, .inl (nA g1))), (pl, .inr (1, [.ref q1, .ref q2, .ref q3, .ref q4, .ref q5, .ref q6, .ref q7, .ref q8, .ref q9, .int (nI rg)])), (q1, .inl (cI, 480, .inl (nA bn)))] := hD
      have hg1z : gp_hs g1 n1 ((L ++ gp_rw (fun j => bn (gp_sl (j + 1) 0 0)) b 40) ++ [59]) := gp_hs_put hz (by have h9 := hlen; have h8 := gp_dl_le b; (try simp only [List.length_append, List.length_singleton, List.length_cons, List.length_nil] at h9); (try simp only [List.length_append, List.length_singleton, List.length_cons, List.length_nil]); omega) hg1
      exact ga_wv (g1, n1) S hrt hlk hP hD hS (by rw [gp_ln, if_neg hne]; simpa [List.append_assoc] using hg1z) d_Sh_writeBin_79
  · have c9 : ¬ (40 < t) := fun q => c9 ((nI_ltI (a := 40) (b := t) (by omega) (by omega)).mpr q)
    refine lv_aload_n hx hb d_Sh_writeBin_12 rfl (lv_at hl 3 rfl) ?_
    refine ga_get S hK hP 2 rfl f_Sh_23 rfl d_Sh_writeBin_13 ?_
    refine lv_iload hx hb d_Sh_writeBin_16 (lv_at hl 0 rfl) ?_
    refine lv_iconst (v := 0) hx hb d_Sh_writeBin_18 (by decide) ?_
    refine lv_iconst (v := 0) hx hb d_Sh_writeBin_19 (by decide) ?_
    refine ga_cs (As := [.int (nI t), .int 0, .int 0]) (rest := [.ref q1]) S hK hP s_Sh_29 (gc_SP_slot l D cI cZ cC cG t 0 0 (by omega)) [] rfl rfl hl.1 rfl (Nat.le_of_ble_eq_true rfl) ⟨Nat.le_of_ble_eq_true rfl, Nat.le_of_ble_eq_true rfl⟩ ⟨Nat.le_of_ble_eq_true rfl, Nat.le_of_ble_eq_true rfl⟩ d_Sh_writeBin_20 (fun r hp20 => ?_)
    subst hp20
    have hsl := gp_sl_lt (t := t) (p := 0) (s := 0) (by omega) (by omega) (by omega) (by omega)
    refine ga_ild S hK hP 3 0 rfl rfl (gp_sl t 0 0) (by omega) (by decide) d_Sh_writeBin_23 ?_
    have hb1 := hbn (gp_sl t 0 0)
    refine lv_iload_n hx hb d_Sh_writeBin_24 rfl (lv_at hl 4 rfl) ?_
    refine lv_icmp_eq (tgt := 31) hx hb d_Sh_writeBin_25 (by decide) (fun c25 => ?_) (fun c25 => ?_)
    · have c25 : (bn (gp_sl t 0 0)) = b := (nI_eq (a := (bn (gp_sl t 0 0))) (b := b) (by omega) (by omega)).mp c25
      have hlen := gp_rw_room (f := (fun j => bn (gp_sl (j + 1) 0 0))) (i := t - 1) (L := L) (by omega) (show bn (gp_sl (t - 1 + 1) 0 0) = b by rw [show t - 1 + 1 = t by omega]; exact c25) hroom
      refine lv_iload_n hx hb d_Sh_writeBin_31 rfl (lv_at hl 1 rfl) ?_
      refine lv_if_eq (tgt := 44) hx hb d_Sh_writeBin_32 (by decide) (fun c32 => ?_) (fun c32 => ?_)
      · have c32 : bg = false := bI_0 c32
        have hem : (gp_rw (fun j => bn (gp_sl (j + 1) 0 0)) b (t - 1)) = [] := by rw [hbg] at c32; simpa using c32
        refine lv_aload_n hx hb d_Sh_writeBin_44 rfl (lv_at hl 2 rfl) ?_
        refine lv_iload_n hx hb d_Sh_writeBin_45 rfl (lv_at hl 4 rfl) ?_
        refine ga_jv (wr := [(pl, .inr (1, [.ref q1, .ref q2, .ref q3, .ref q4, .ref q5, .ref q6, .ref q7, .ref q8, .ref q9, .int (nI rg)])), (q1, .inl (cI, 480, .inl (nA bn)))]) (ga_runV (As := [.int (nI b)]) (rest := []) S hK s_Sh_37 (gc_Sh_putNumber l D cI cZ cC cG shh sha nn b g (L ++ (gp_rw (fun j => bn (gp_sl (j + 1) 0 0)) b (t - 1))) (by omega) hz (by have h9 := hlen; have h8 := gp_dl_le b; (try simp only [List.length_append, List.length_singleton, List.length_cons, List.length_nil] at h9); (try simp only [List.length_append, List.length_singleton, List.length_cons, List.length_nil]); omega) _) (ga_prV (y := y_Sh_putNumber) (q0 := 0) hK hP hD [0, 1] rfl (by decide) rfl rfl) rfl hl.1 rfl (Nat.le_of_ble_eq_true rfl) ⟨Nat.le_of_ble_eq_true rfl, Nat.le_of_ble_eq_true rfl⟩ ⟨Nat.le_of_ble_eq_true rfl, Nat.le_of_ble_eq_true rfl⟩ d_Sh_writeBin_46) hP hD hS hA [0, 1] [2, 3] rfl rfl (by decide) (by decide) [2, 3, 0, 1] (fun (x : (Nat → Nat) × Nat) => [(shh, .inr (3, [.ref sha, .int (nI x.2)])), (sha, .inl (cC, 240, .inl (nA x.1))), (pl, .inr (1, [.ref q1, .ref q2, .ref q3, .ref q4, .ref q5, .ref q6, .ref q7, .ref q8, .ref q9, .int (nI rg)])), (q1, .inl (cI, 480, .inl (nA bn)))]) (fun _ => rfl) (by decide) (fun x H locs hp46 hP hD hS => ?_)
        obtain ⟨g2, n2⟩ := x
        have hP : va_P D vwCl [(shh, .inr (3, [.ref sha, .int (nI n2)])), (sha, .inl (cC, 240, .inl (nA g2))), (pl, .inr (1, [.ref q1, .ref q2, .ref q3, .ref q4, .ref q5, .ref q6, .ref q7, .ref q8, .ref q9, .int (nI rg)])), (q1, .inl (cI, 480, .inl (nA bn)))] H := hP
        have hD : va_D A [(shh, .inr (3, [.ref sha, .int (nI n2)])), (sha, .inl (cC, 240, .inl (nA g2))), (pl, .inr (1, [.ref q1, .ref q2, .ref q3, .ref q4, .ref q5, .ref q6, .ref q7, .ref q8, .ref q9, .int (nI rg)])), (q1, .inl (cI, 480, .inl (nA bn)))] := hD
        have hz2 : gp_hs g2 n2 ((L ++ (gp_rw (fun j => bn (gp_sl (j + 1) 0 0)) b (t - 1))) ++ gp_dl b) := hp46
        refine lv_aload_n hx hb d_Sh_writeBin_49 rfl (lv_at hl 2 rfl) ?_
        refine lv_bipush (v := 58) hx hb d_Sh_writeBin_50 (by decide) ?_
        refine ga_jv (wr := [(pl, .inr (1, [.ref q1, .ref q2, .ref q3, .ref q4, .ref q5, .ref q6, .ref q7, .ref q8, .ref q9, .int (nI rg)])), (q1, .inl (cI, 480, .inl (nA bn)))]) (ga_runV (As := [.int 58]) (rest := []) S hK s_Sh_33 (gc_Sh_put l D cI cZ cC cG shh sha n2 58 g2 (by have h0 := hz2.1; have h9 := hlen; have h8 := gp_dl_le b; (try simp only [List.length_append, List.length_singleton, List.length_cons, List.length_nil] at h9 h0); (try simp only [List.length_append, List.length_singleton, List.length_cons, List.length_nil]); omega) (by omega) _) (ga_prV (y := y_Sh_put) (q0 := 0) hK hP hD [0, 1] rfl (by decide) rfl rfl) rfl hl.1 rfl (Nat.le_of_ble_eq_true rfl) ⟨Nat.le_of_ble_eq_true rfl, Nat.le_of_ble_eq_true rfl⟩ ⟨Nat.le_of_ble_eq_true rfl, Nat.le_of_ble_eq_true rfl⟩ d_Sh_writeBin_52) hP hD hS hA [0, 1] [2, 3] rfl rfl (by decide) (by decide) [2, 3, 0, 1] (fun _ => [(shh, .inr (3, [.ref sha, .int (nI ((gp_sp (g2, n2) 58).2))])), (sha, .inl (cC, 240, .inl (nA ((gp_sp (g2, n2) 58).1)))), (pl, .inr (1, [.ref q1, .ref q2, .ref q3, .ref q4, .ref q5, .ref q6, .ref q7, .ref q8, .ref q9, .int (nI rg)])), (q1, .inl (cI, 480, .inl (nA bn)))]) (fun _ => rfl) (by decide) (fun x H locs hp52 hP hD hS => ?_)
        obtain ⟨⟨g3, n3⟩, hg3⟩ : ∃ z, z = gp_sp (g2, n2) 58 := ⟨_, rfl⟩
        rw [← hg3] at hP hD
        have hP : va_P D vwCl [(shh, .inr (3, [.ref sha, .int (nI n3)])), (sha, .inl (cC, 240, .inl (nA g3))), (pl, .inr (1, [.ref q1, .ref q2, .ref q3, .ref q4, .ref q5, .ref q6, .ref q7, .ref q8, .ref q9, .int (nI rg)])), (q1, .inl (cI, 480, .inl (nA bn)))] H := hP
        have hD : va_D A [(shh, .inr (3, [.ref sha, .int (nI n3)])), (sha, .inl (cC, 240, .inl (nA g3))), (pl, .inr (1, [.ref q1, .ref q2, .ref q3, .ref q4, .ref q5, .ref q6, .ref q7, .ref q8, .ref q9, .int (nI rg)])), (q1, .inl (cI, 480, .inl (nA bn)))] := hD
        have hg3z : gp_hs g3 n3 (((L ++ (gp_rw (fun j => bn (gp_sl (j + 1) 0 0)) b (t - 1))) ++ gp_dl b) ++ [58]) := gp_hs_put hz2 (by have h9 := hlen; have h8 := gp_dl_le b; (try simp only [List.length_append, List.length_singleton, List.length_cons, List.length_nil] at h9); (try simp only [List.length_append, List.length_singleton, List.length_cons, List.length_nil]); omega) hg3
        refine lv_iconst (v := 1) hx hb d_Sh_writeBin_55 (by decide) ?_
        refine lv_istore_n (lv' := [(3, .int 1), (4, .int (nI t)), (0, .ref shh), (1, .ref pl), (2, .int (nI b))]) hx hb d_Sh_writeBin_56 rfl hl (by decide) rfl (fun ls hl => ?_)
        refine lv_aload_n hx hb d_Sh_writeBin_57 rfl (lv_at hl 2 rfl) ?_
        refine lv_iload hx hb d_Sh_writeBin_58 (lv_at hl 1 rfl) ?_
        refine ga_jv (wr := [(pl, .inr (1, [.ref q1, .ref q2, .ref q3, .ref q4, .ref q5, .ref q6, .ref q7, .ref q8, .ref q9, .int (nI rg)])), (q1, .inl (cI, 480, .inl (nA bn)))]) (ga_runV (As := [.int (nI t)]) (rest := []) S hK s_Sh_37 (gc_Sh_putNumber l D cI cZ cC cG shh sha n3 t g3 (((L ++ (gp_rw (fun j => bn (gp_sl (j + 1) 0 0)) b (t - 1))) ++ gp_dl b) ++ [58]) (by omega) hg3z (by have h9 := hlen; have h8 := gp_dl_le b; (try simp only [List.length_append, List.length_singleton, List.length_cons, List.length_nil] at h9); (try simp only [List.length_append, List.length_singleton, List.length_cons, List.length_nil]); omega) _) (ga_prV (y := y_Sh_putNumber) (q0 := 0) hK hP hD [0, 1] rfl (by decide) rfl rfl) rfl hl.1 rfl (Nat.le_of_ble_eq_true rfl) ⟨Nat.le_of_ble_eq_true rfl, Nat.le_of_ble_eq_true rfl⟩ ⟨Nat.le_of_ble_eq_true rfl, Nat.le_of_ble_eq_true rfl⟩ d_Sh_writeBin_60) hP hD hS hA [0, 1] [2, 3] rfl rfl (by decide) (by decide) [2, 3, 0, 1] (fun (x : (Nat → Nat) × Nat) => [(shh, .inr (3, [.ref sha, .int (nI x.2)])), (sha, .inl (cC, 240, .inl (nA x.1))), (pl, .inr (1, [.ref q1, .ref q2, .ref q3, .ref q4, .ref q5, .ref q6, .ref q7, .ref q8, .ref q9, .int (nI rg)])), (q1, .inl (cI, 480, .inl (nA bn)))]) (fun _ => rfl) (by decide) (fun x H locs hp60 hP hD hS => ?_)
        obtain ⟨g4, n4⟩ := x
        have hP : va_P D vwCl [(shh, .inr (3, [.ref sha, .int (nI n4)])), (sha, .inl (cC, 240, .inl (nA g4))), (pl, .inr (1, [.ref q1, .ref q2, .ref q3, .ref q4, .ref q5, .ref q6, .ref q7, .ref q8, .ref q9, .int (nI rg)])), (q1, .inl (cI, 480, .inl (nA bn)))] H := hP
        have hD : va_D A [(shh, .inr (3, [.ref sha, .int (nI n4)])), (sha, .inl (cC, 240, .inl (nA g4))), (pl, .inr (1, [.ref q1, .ref q2, .ref q3, .ref q4, .ref q5, .ref q6, .ref q7, .ref q8, .ref q9, .int (nI rg)])), (q1, .inl (cI, 480, .inl (nA bn)))] := hD
        have hz4 : gp_hs g4 n4 ((((L ++ (gp_rw (fun j => bn (gp_sl (j + 1) 0 0)) b (t - 1))) ++ gp_dl b) ++ [58]) ++ gp_dl t) := hp60
        refine lv_iinc (v := nI (t + 1)) (lv' := [(4, .int (nI (t + 1))), (3, .int 1), (0, .ref shh), (1, .ref pl), (2, .int (nI b))]) hx hb d_Sh_writeBin_63 hl (k := 1) rfl (ga_inc t) (by decide) rfl (fun ls hl => ?_)
        refine lv_goto (tgt := 5) hx hb d_Sh_writeBin_66 (by decide) ?_
        exact ih (t + 1, true, g4, n4) _ _ _ (by show (41 - (t + 1)) < (41 - t); omega) ⟨lv_sub hl [0, 1, 2, 3, 4] rfl, hP, hD, hS, ⟨by omega, by omega, by rw [show t + 1 - 1 = (t - 1) + 1 by omega]; rw [gp_rw_h0 (f := (fun j => bn (gp_sl (j + 1) 0 0))) (i := t - 1) (show (fun j => bn (gp_sl (j + 1) 0 0)) (t - 1) = b by show bn (gp_sl (t - 1 + 1) 0 0) = b; rw [show t - 1 + 1 = t by omega]; exact c25) hem]; simp, by rw [show t + 1 - 1 = (t - 1) + 1 by omega]; rw [gp_rw_h0 (f := (fun j => bn (gp_sl (j + 1) 0 0))) (i := t - 1) (show (fun j => bn (gp_sl (j + 1) 0 0)) (t - 1) = b by show bn (gp_sl (t - 1 + 1) 0 0) = b; rw [show t - 1 + 1 = t by omega]; exact c25) hem, show t - 1 + 1 = t by omega]; simpa [List.append_assoc, hem] using hz4⟩⟩
      · have c32 : bg = true := bI_1 c32
        have hne : (gp_rw (fun j => bn (gp_sl (j + 1) 0 0)) b (t - 1)) ≠ [] := by rw [hbg] at c32; simpa using c32
        refine lv_aload_n hx hb d_Sh_writeBin_35 rfl (lv_at hl 2 rfl) ?_
        refine lv_bipush (v := 44) hx hb d_Sh_writeBin_36 (by decide) ?_
        refine ga_jv (wr := [(pl, .inr (1, [.ref q1, .ref q2, .ref q3, .ref q4, .ref q5, .ref q6, .ref q7, .ref q8, .ref q9, .int (nI rg)])), (q1, .inl (cI, 480, .inl (nA bn)))]) (ga_runV (As := [.int 44]) (rest := []) S hK s_Sh_33 (gc_Sh_put l D cI cZ cC cG shh sha nn 44 g (by have h0 := hz.1; have h9 := hlen; have h8 := gp_dl_le b; (try simp only [List.length_append, List.length_singleton, List.length_cons, List.length_nil] at h9 h0); (try simp only [List.length_append, List.length_singleton, List.length_cons, List.length_nil]); omega) (by omega) _) (ga_prV (y := y_Sh_put) (q0 := 0) hK hP hD [0, 1] rfl (by decide) rfl rfl) rfl hl.1 rfl (Nat.le_of_ble_eq_true rfl) ⟨Nat.le_of_ble_eq_true rfl, Nat.le_of_ble_eq_true rfl⟩ ⟨Nat.le_of_ble_eq_true rfl, Nat.le_of_ble_eq_true rfl⟩ d_Sh_writeBin_38) hP hD hS hA [0, 1] [2, 3] rfl rfl (by decide) (by decide) [2, 3, 0, 1] (fun _ => [(shh, .inr (3, [.ref sha, .int (nI ((gp_sp (g, nn) 44).2))])), (sha, .inl (cC, 240, .inl (nA ((gp_sp (g, nn) 44).1)))), (pl, .inr (1, [.ref q1, .ref q2, .ref q3, .ref q4, .ref q5, .ref q6, .ref q7, .ref q8, .ref q9, .int (nI rg)])), (q1, .inl (cI, 480, .inl (nA bn)))]) (fun _ => rfl) (by decide) (fun x H locs hp38 hP hD hS => ?_)
        obtain ⟨⟨g2, n2⟩, hg2⟩ : ∃ z, z = gp_sp (g, nn) 44 := ⟨_, rfl⟩
        rw [← hg2] at hP hD
        have hP : va_P D vwCl [(shh, .inr (3, [.ref sha, .int (nI n2)])), (sha, .inl (cC, 240, .inl (nA g2))), (pl, .inr (1, [.ref q1, .ref q2, .ref q3, .ref q4, .ref q5, .ref q6, .ref q7, .ref q8, .ref q9, .int (nI rg)])), (q1, .inl (cI, 480, .inl (nA bn)))] H := hP
        have hD : va_D A [(shh, .inr (3, [.ref sha, .int (nI n2)])), (sha, .inl (cC, 240, .inl (nA g2))), (pl, .inr (1, [.ref q1, .ref q2, .ref q3, .ref q4, .ref q5, .ref q6, .ref q7, .ref q8, .ref q9, .int (nI rg)])), (q1, .inl (cI, 480, .inl (nA bn)))] := hD
        have hg2z : gp_hs g2 n2 ((L ++ (gp_rw (fun j => bn (gp_sl (j + 1) 0 0)) b (t - 1))) ++ [44]) := gp_hs_put hz (by have h9 := hlen; have h8 := gp_dl_le b; (try simp only [List.length_append, List.length_singleton, List.length_cons, List.length_nil] at h9); (try simp only [List.length_append, List.length_singleton, List.length_cons, List.length_nil]); omega) hg2
        refine lv_goto (tgt := 57) hx hb d_Sh_writeBin_41 (by decide) ?_
        refine lv_aload_n hx hb d_Sh_writeBin_57 rfl (lv_at hl 2 rfl) ?_
        refine lv_iload hx hb d_Sh_writeBin_58 (lv_at hl 0 rfl) ?_
        refine ga_jv (wr := [(pl, .inr (1, [.ref q1, .ref q2, .ref q3, .ref q4, .ref q5, .ref q6, .ref q7, .ref q8, .ref q9, .int (nI rg)])), (q1, .inl (cI, 480, .inl (nA bn)))]) (ga_runV (As := [.int (nI t)]) (rest := []) S hK s_Sh_37 (gc_Sh_putNumber l D cI cZ cC cG shh sha n2 t g2 ((L ++ (gp_rw (fun j => bn (gp_sl (j + 1) 0 0)) b (t - 1))) ++ [44]) (by omega) hg2z (by have h9 := hlen; have h8 := gp_dl_le b; (try simp only [List.length_append, List.length_singleton, List.length_cons, List.length_nil] at h9); (try simp only [List.length_append, List.length_singleton, List.length_cons, List.length_nil]); omega) _) (ga_prV (y := y_Sh_putNumber) (q0 := 0) hK hP hD [0, 1] rfl (by decide) rfl rfl) rfl hl.1 rfl (Nat.le_of_ble_eq_true rfl) ⟨Nat.le_of_ble_eq_true rfl, Nat.le_of_ble_eq_true rfl⟩ ⟨Nat.le_of_ble_eq_true rfl, Nat.le_of_ble_eq_true rfl⟩ d_Sh_writeBin_60) hP hD hS hA [0, 1] [2, 3] rfl rfl (by decide) (by decide) [2, 3, 0, 1] (fun (x : (Nat → Nat) × Nat) => [(shh, .inr (3, [.ref sha, .int (nI x.2)])), (sha, .inl (cC, 240, .inl (nA x.1))), (pl, .inr (1, [.ref q1, .ref q2, .ref q3, .ref q4, .ref q5, .ref q6, .ref q7, .ref q8, .ref q9, .int (nI rg)])), (q1, .inl (cI, 480, .inl (nA bn)))]) (fun _ => rfl) (by decide) (fun x H locs hp60 hP hD hS => ?_)
        obtain ⟨g3, n3⟩ := x
        have hP : va_P D vwCl [(shh, .inr (3, [.ref sha, .int (nI n3)])), (sha, .inl (cC, 240, .inl (nA g3))), (pl, .inr (1, [.ref q1, .ref q2, .ref q3, .ref q4, .ref q5, .ref q6, .ref q7, .ref q8, .ref q9, .int (nI rg)])), (q1, .inl (cI, 480, .inl (nA bn)))] H := hP
        have hD : va_D A [(shh, .inr (3, [.ref sha, .int (nI n3)])), (sha, .inl (cC, 240, .inl (nA g3))), (pl, .inr (1, [.ref q1, .ref q2, .ref q3, .ref q4, .ref q5, .ref q6, .ref q7, .ref q8, .ref q9, .int (nI rg)])), (q1, .inl (cI, 480, .inl (nA bn)))] := hD
        have hz3 : gp_hs g3 n3 (((L ++ (gp_rw (fun j => bn (gp_sl (j + 1) 0 0)) b (t - 1))) ++ [44]) ++ gp_dl t) := hp60
        refine lv_iinc (v := nI (t + 1)) (lv' := [(4, .int (nI (t + 1))), (3, .int (bI bg)), (0, .ref shh), (1, .ref pl), (2, .int (nI b))]) hx hb d_Sh_writeBin_63 hl (k := 0) rfl (ga_inc t) (by decide) rfl (fun ls hl => ?_)
        refine lv_goto (tgt := 5) hx hb d_Sh_writeBin_66 (by decide) ?_
        exact ih (t + 1, bg, g3, n3) _ _ _ (by show (41 - (t + 1)) < (41 - t); omega) ⟨lv_sub hl [0, 1, 2, 3, 4] rfl, hP, hD, hS, ⟨by omega, by omega, by rw [show t + 1 - 1 = (t - 1) + 1 by omega]; rw [gp_rw_h1 (f := (fun j => bn (gp_sl (j + 1) 0 0))) (i := t - 1) (show (fun j => bn (gp_sl (j + 1) 0 0)) (t - 1) = b by show bn (gp_sl (t - 1 + 1) 0 0) = b; rw [show t - 1 + 1 = t by omega]; exact c25) hne, c32]; simp, by rw [show t + 1 - 1 = (t - 1) + 1 by omega]; rw [gp_rw_h1 (f := (fun j => bn (gp_sl (j + 1) 0 0))) (i := t - 1) (show (fun j => bn (gp_sl (j + 1) 0 0)) (t - 1) = b by show bn (gp_sl (t - 1 + 1) 0 0) = b; rw [show t - 1 + 1 = t by omega]; exact c25) hne, show t - 1 + 1 = t by omega]; simpa [List.append_assoc] using hz3⟩⟩
    · have c25 : ¬ ((bn (gp_sl t 0 0)) = b) := fun q => c25 ((nI_eq (a := (bn (gp_sl t 0 0))) (b := b) (by omega) (by omega)).mpr q)
      refine lv_goto (tgt := 63) hx hb d_Sh_writeBin_28 (by decide) ?_
      refine lv_iinc (v := nI (t + 1)) (lv' := [(4, .int (nI (t + 1))), (3, .int (bI bg)), (0, .ref shh), (1, .ref pl), (2, .int (nI b))]) hx hb d_Sh_writeBin_63 hl (k := 0) rfl (ga_inc t) (by decide) rfl (fun ls hl => ?_)
      refine lv_goto (tgt := 5) hx hb d_Sh_writeBin_66 (by decide) ?_
      exact ih (t + 1, bg, g, nn) _ _ _ (by show (41 - (t + 1)) < (41 - t); omega) ⟨lv_sub hl [0, 1, 2, 3, 4] rfl, hP, hD, hS, ⟨by omega, by omega, by rw [show t + 1 - 1 = (t - 1) + 1 by omega]; rw [gp_rw_no (f := (fun j => bn (gp_sl (j + 1) 0 0))) (i := t - 1) (show (fun j => bn (gp_sl (j + 1) 0 0)) (t - 1) ≠ b by show bn (gp_sl (t - 1 + 1) 0 0) ≠ b; rw [show t - 1 + 1 = t by omega]; exact c25)]; exact hbg, by rw [show t + 1 - 1 = (t - 1) + 1 by omega]; rw [gp_rw_no (f := (fun j => bn (gp_sl (j + 1) 0 0))) (i := t - 1) (show (fun j => bn (gp_sl (j + 1) 0 0)) (t - 1) ≠ b by show bn (gp_sl (t - 1 + 1) 0 0) ≠ b; rw [show t - 1 + 1 = t by omega]; exact c25)]; exact hz⟩⟩
set_option maxHeartbeats 4000000 in
set_option maxRecDepth 100000 in
theorem gc_Sh_write (l : Launch) (D : va_G) (cI cZ cC cG : ClassId) (shh sha n : Nat) (sg : Nat → Nat) (pl q1 q2 q3 q4 q5 q6 q7 q8 q9 : Nat) (rg : Nat) (bn : Nat → Nat) (hbn : ∀ j, bn j ≤ 60) : ga_Mv l y_Sh_write b_Sh_write 3 3 0 0 D (ga_T cI cZ cC cG) [.ref shh, .ref pl] [(shh, .inr (3, [.ref sha, .int (nI n)])), (sha, .inl (cC, 240, .inl (nA sg))), (pl, .inr (1, [.ref q1, .ref q2, .ref q3, .ref q4, .ref q5, .ref q6, .ref q7, .ref q8, .ref q9, .int (nI rg)])), (q1, .inl (cI, 480, .inl (nA bn)))] (fun (x : (Nat → Nat) × Nat) => [(shh, .inr (3, [.ref sha, .int (nI x.2)])), (sha, .inl (cC, 240, .inl (nA x.1))), (pl, .inr (1, [.ref q1, .ref q2, .ref q3, .ref q4, .ref q5, .ref q6, .ref q7, .ref q8, .ref q9, .int (nI rg)])), (q1, .inl (cI, 480, .inl (nA bn)))]) (fun x => gp_hs x.1 x.2 (gp_ou (fun j => bn (gp_sl (j + 1) 0 0)) 60)) := by
  refine ga_enV (by decide) (Nat.le_of_ble_eq_true rfl) ?_
  intro p e s m below meth c ls A S hrt hlk hnm hK hP hD hA hl
  have hS : va_S A s.heap s.heap [] := va_S.rf
  obtain ⟨hx, hb, hml, hown, hts⟩ := id S
  have hl : lv_has ls 3 [(0, .ref shh), (1, .ref pl)] := hl
  refine lv_aload_n hx hb d_Sh_write_0 rfl (lv_at hl 0 rfl) ?_
  refine lv_iconst (v := 0) hx hb d_Sh_write_1 (by decide) ?_
  refine ga_put (ws' := [(shh, .inr (3, [.ref sha, .int 0])), (sha, .inl (cC, 240, .inl (nA sg))), (pl, .inr (1, [.ref q1, .ref q2, .ref q3, .ref q4, .ref q5, .ref q6, .ref q7, .ref q8, .ref q9, .int (nI rg)])), (q1, .inl (cI, 480, .inl (nA bn)))]) S hK hP hD hS 0 rfl p_Sh_15 rfl rfl (Nat.le_of_ble_eq_true rfl) rfl d_Sh_write_2 (fun H locs hP hD hS => ?_)
  refine lv_iconst (v := 1) hx hb d_Sh_write_5 (by decide) ?_
  refine lv_istore_n (lv' := [(2, .int 1), (0, .ref shh), (1, .ref pl)]) hx hb d_Sh_write_6 rfl hl (by decide) rfl (fun ls hl => ?_)
  refine ga_loop (α := Nat × (Nat → Nat) × Nat) (fun x => match x with | (b, g, nn) => 61 - b) (fun x ls H locs => match x with | (b, g, nn) => lv_has ls 3 [(2, .int (nI b)), (0, .ref shh), (1, .ref pl)] ∧ va_P D vwCl [(shh, .inr (3, [.ref sha, .int (nI nn)])), (sha, .inl (cC, 240, .inl (nA g))), (pl, .inr (1, [.ref q1, .ref q2, .ref q3, .ref q4, .ref q5, .ref q6, .ref q7, .ref q8, .ref q9, .int (nI rg)])), (q1, .inl (cI, 480, .inl (nA bn)))] H ∧ va_D A [(shh, .inr (3, [.ref sha, .int (nI nn)])), (sha, .inl (cC, 240, .inl (nA g))), (pl, .inr (1, [.ref q1, .ref q2, .ref q3, .ref q4, .ref q5, .ref q6, .ref q7, .ref q8, .ref q9, .int (nI rg)])), (q1, .inl (cI, 480, .inl (nA bn)))] ∧ va_S A s.heap H locs ∧ 1 ≤ b ∧ b ≤ 61 ∧ gp_hs g nn (gp_ou (fun j => bn (gp_sl (j + 1) 0 0)) (b - 1))) ?_ (1, sg, 0) ⟨lv_sub hl [0, 1, 2] rfl, hP, hD, hS, ⟨by decide, by decide, gp_hs_0 _⟩⟩
  intro x ls H locs hI ih
  obtain ⟨b, g, nn⟩ := x
  obtain ⟨hl, hP, hD, hS, ⟨h1, h2, hz⟩⟩ := hI
  have hl : lv_has ls 3 [(2, .int (nI b)), (0, .ref shh), (1, .ref pl)] := hl
  have hP : va_P D vwCl [(shh, .inr (3, [.ref sha, .int (nI nn)])), (sha, .inl (cC, 240, .inl (nA g))), (pl, .inr (1, [.ref q1, .ref q2, .ref q3, .ref q4, .ref q5, .ref q6, .ref q7, .ref q8, .ref q9, .int (nI rg)])), (q1, .inl (cI, 480, .inl (nA bn)))] H := hP
  have hD : va_D A [(shh, .inr (3, [.ref sha, .int (nI nn)])), (sha, .inl (cC, 240, .inl (nA g))), (pl, .inr (1, [.ref q1, .ref q2, .ref q3, .ref q4, .ref q5, .ref q6, .ref q7, .ref q8, .ref q9, .int (nI rg)])), (q1, .inl (cI, 480, .inl (nA bn)))] := hD
  refine lv_iload_n hx hb d_Sh_write_7 rfl (lv_at hl 0 rfl) ?_
  refine lv_bipush (v := 60) hx hb d_Sh_write_8 (by decide) ?_
  refine lv_icmp_gt (tgt := 25) hx hb d_Sh_write_10 (by decide) (fun c10 => ?_) (fun c10 => ?_)
  · have c10 : 60 < b := (nI_ltI (a := 60) (b := b) (by omega) (by omega)).mp c10
    exact ga_wv (g, nn) S hrt hlk hP hD hS (by rw [show 60 = b - 1 by omega]; exact hz) d_Sh_write_25
  · have c10 : ¬ (60 < b) := fun q => c10 ((nI_ltI (a := 60) (b := b) (by omega) (by omega)).mpr q)
    refine lv_aload_n hx hb d_Sh_write_13 rfl (lv_at hl 1 rfl) ?_
    refine lv_aload_n hx hb d_Sh_write_14 rfl (lv_at hl 2 rfl) ?_
    refine lv_iload_n hx hb d_Sh_write_15 rfl (lv_at hl 0 rfl) ?_
    refine ga_jv (wr := []) (ga_runV (As := [.ref pl, .int (nI b)]) (rest := []) S hK s_Sh_19 (gc_Sh_writeBin l D cI cZ cC cG shh sha nn b g (gp_ou (fun j => bn (gp_sl (j + 1) 0 0)) (b - 1)) pl q1 q2 q3 q4 q5 q6 q7 q8 q9 rg bn (by omega) hbn hz (by have := gp_ou_room (fun j => bn (gp_sl (j + 1) 0 0)) (b - 1); rw [show b - 1 + 1 = b by omega] at this; exact this) _) (ga_prV (y := y_Sh_writeBin) (q0 := 0) hK hP hD [0, 1, 2, 3] rfl (by decide) rfl rfl) rfl hl.1 rfl (Nat.le_of_ble_eq_true rfl) ⟨Nat.le_of_ble_eq_true rfl, Nat.le_of_ble_eq_true rfl⟩ ⟨Nat.le_of_ble_eq_true rfl, Nat.le_of_ble_eq_true rfl⟩ d_Sh_write_16) hP hD hS hA [0, 1, 2, 3] [] rfl rfl (by decide) (by decide) [0, 1, 2, 3] (fun (x : (Nat → Nat) × Nat) => [(shh, .inr (3, [.ref sha, .int (nI x.2)])), (sha, .inl (cC, 240, .inl (nA x.1))), (pl, .inr (1, [.ref q1, .ref q2, .ref q3, .ref q4, .ref q5, .ref q6, .ref q7, .ref q8, .ref q9, .int (nI rg)])), (q1, .inl (cI, 480, .inl (nA bn)))]) (fun _ => rfl) (by decide) (fun x H locs hp16 hP hD hS => ?_)
    obtain ⟨g1, n1⟩ := x
    have hP : va_P D vwCl [(shh, .inr (3, [.ref sha, .int (nI n1)])), (sha, .inl (cC, 240, .inl (nA g1))), (pl, .inr (1, [.ref q1, .ref q2, .ref q3, .ref q4, .ref q5, .ref q6, .ref q7, .ref q8, .ref q9, .int (nI rg)])), (q1, .inl (cI, 480, .inl (nA bn)))] H := hP
    have hD : va_D A [(shh, .inr (3, [.ref sha, .int (nI n1)])), (sha, .inl (cC, 240, .inl (nA g1))), (pl, .inr (1, [.ref q1, .ref q2, .ref q3, .ref q4, .ref q5, .ref q6, .ref q7, .ref q8, .ref q9, .int (nI rg)])), (q1, .inl (cI, 480, .inl (nA bn)))] := hD
    refine lv_iinc (v := nI (b + 1)) (lv' := [(2, .int (nI (b + 1))), (0, .ref shh), (1, .ref pl)]) hx hb d_Sh_write_19 hl (k := 0) rfl (ga_inc b) (by decide) rfl (fun ls hl => ?_)
    refine lv_goto (tgt := 7) hx hb d_Sh_write_22 (by decide) ?_
    exact ih (b + 1, g1, n1) _ _ _ (by show (61 - (b + 1)) < (61 - b); omega) ⟨lv_sub hl [0, 1, 2] rfl, hP, hD, hS, ⟨by omega, by omega, by rw [show b + 1 - 1 = (b - 1) + 1 by omega, gp_ou, show b - 1 + 1 = b by omega]; exact hp16⟩⟩
