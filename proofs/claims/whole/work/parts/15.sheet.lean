set_option maxHeartbeats 4000000 in
set_option maxRecDepth 100000 in
theorem gc_Sh_signAt (l : Launch) (D : va_G) (cI cZ cC cG : ClassId) (shh sha n : Nat) (sg : Nat → Nat) (i : Int32) (hn : n ≤ 240) : ga_Mr l y_Sh_signAt b_Sh_signAt 2 (some .int) 0 D (ga_T cI cZ cC cG) [.ref shh, .int i] [(shh, .inr (3, [.ref sha, .int (nI n)])), (sha, .inl (cC, 240, .inl (nA sg)))] (fun r => r = gp_si sg n i) := by
  refine ga_enR (by decide) (Nat.le_of_ble_eq_true rfl) ?_
  intro p e s m below meth c ls S hrt hlk hK hP hl
  obtain ⟨hx, hb, hml, hown, hts⟩ := id S
  have hl : lv_has ls 2 [(0, .ref shh), (1, .int i)] := hl
  refine lv_iload_n hx hb d_Sh_signAt_0 rfl (lv_at hl 1 rfl) ?_
  refine lv_if_lt (tgt := 21) hx hb d_Sh_signAt_1 (by decide) (fun c1 => ?_) (fun c1 => ?_)
  · have he : gp_si sg n i = 0 := by rw [gp_si, if_neg (fun q => absurd q.1 (gp_ltz c1))]
    refine lv_iconst (v := 0) hx hb d_Sh_signAt_21 (by decide) ?_
    exact ga_ri S hrt hlk he.symm d_Sh_signAt_22
  · obtain ⟨i, hi, rfl⟩ := nI_of c1
    refine lv_iload_n hx hb d_Sh_signAt_4 rfl (lv_at hl 1 rfl) ?_
    refine lv_aload_n hx hb d_Sh_signAt_5 rfl (lv_at hl 0 rfl) ?_
    refine ga_get S hK hP 0 rfl f_Sh_15 rfl d_Sh_signAt_6 ?_
    refine lv_icmp_ge (tgt := 21) hx hb d_Sh_signAt_9 (by decide) (fun c9 => ?_) (fun c9 => ?_)
    · have c9 : n ≤ i := (nI_leI (a := n) (b := i) (by omega) (by omega)).mp c9
      have he : gp_si sg n (nI i) = 0 := by rw [gp_si, nI_toInt hi, if_neg (by omega)]
      refine lv_iconst (v := 0) hx hb d_Sh_signAt_21 (by decide) ?_
      exact ga_ri S hrt hlk he.symm d_Sh_signAt_22
    · have c9 : ¬ (n ≤ i) := fun q => c9 ((nI_leI (a := n) (b := i) (by omega) (by omega)).mpr q)
      have he : gp_si sg n (nI i) = nI (sg i) := by rw [gp_si, nI_toInt hi, if_pos (by omega)]; rfl
      refine lv_aload_n hx hb d_Sh_signAt_12 rfl (lv_at hl 0 rfl) ?_
      refine ga_get S hK hP 0 rfl f_Sh_11 rfl d_Sh_signAt_13 ?_
      refine lv_iload_n hx hb d_Sh_signAt_16 rfl (lv_at hl 1 rfl) ?_
      refine ga_cld S hK hP 1 2 rfl rfl i (by omega) (by decide) d_Sh_signAt_17 ?_
      refine lv_goto (tgt := 22) hx hb d_Sh_signAt_18 (by decide) ?_
      exact ga_ri S hrt hlk he.symm d_Sh_signAt_22
set_option maxHeartbeats 4000000 in
set_option maxRecDepth 100000 in
theorem gc_Sh_put (l : Launch) (D : va_G) (cI cZ cC cG : ClassId) (shh sha n ch : Nat) (sg : Nat → Nat) (hn : n ≤ 240) (hch : ch < 65536) : ga_Mv l y_Sh_put b_Sh_put 2 0 0 0 D (ga_T cI cZ cC cG) [.ref shh, .int (nI ch)] [(shh, .inr (3, [.ref sha, .int (nI n)])), (sha, .inl (cC, 240, .inl (nA sg)))] (fun (_ : Unit) => [(shh, .inr (3, [.ref sha, .int (nI ((gp_sp (sg, n) ch).2))])), (sha, .inl (cC, 240, .inl (nA ((gp_sp (sg, n) ch).1))))]) (fun _ => True) := by
  refine ga_enV (by decide) (Nat.le_of_ble_eq_true rfl) ?_
  intro p e s m below meth c ls A S hrt hlk hnm hK hP hD hA hl
  have hS : va_S A s.heap s.heap [] := va_S.rf
  obtain ⟨hx, hb, hml, hown, hts⟩ := id S
  have hl : lv_has ls 2 [(0, .ref shh), (1, .int (nI ch))] := hl
  refine lv_aload_n hx hb d_Sh_put_0 rfl (lv_at hl 0 rfl) ?_
  refine ga_get S hK hP 0 rfl f_Sh_15 rfl d_Sh_put_1 ?_
  refine lv_sipush (v := 240) hx hb d_Sh_put_4 (by decide) ?_
  refine lv_icmp_ge (tgt := 30) hx hb d_Sh_put_7 (by decide) (fun c7 => ?_) (fun c7 => ?_)
  · have c7 : 240 ≤ n := (nI_leI (a := 240) (b := n) (by omega) (by omega)).mp c7
    have he : gp_sp (sg, n) ch = (sg, n) := by rw [gp_sp, if_neg (by simp only; omega)]
    exact ga_wv () S hrt hlk (by rw [he]; exact hP) (by rw [he]; exact hD) hS trivial d_Sh_put_30
  · have c7 : ¬ (240 ≤ n) := fun q => c7 ((nI_leI (a := 240) (b := n) (by omega) (by omega)).mpr q)
    have he : gp_sp (sg, n) ch = (va_up sg n ch, n + 1) := by rw [gp_sp, if_pos (by simp only; omega)]
    refine lv_aload_n hx hb d_Sh_put_10 rfl (lv_at hl 0 rfl) ?_
    refine ga_get S hK hP 0 rfl f_Sh_11 rfl d_Sh_put_11 ?_
    refine lv_aload_n hx hb d_Sh_put_14 rfl (lv_at hl 0 rfl) ?_
    refine ga_get S hK hP 0 rfl f_Sh_15 rfl d_Sh_put_15 ?_
    refine lv_iload_n hx hb d_Sh_put_18 rfl (lv_at hl 1 rfl) ?_
    refine ga_cst (ws' := [(shh, .inr (3, [.ref sha, .int (nI n)])), (sha, .inl (cC, 240, .inl (nA (va_up sg n ch))))]) S hK hP hD hS 1 2 rfl rfl n ch (by omega) (by decide) (by omega) rfl d_Sh_put_19 (fun H locs hP hD hS => ?_)
    refine lv_aload_n hx hb d_Sh_put_20 rfl (lv_at hl 0 rfl) ?_
    refine lv_dup hx hb d_Sh_put_21 rfl ?_
    refine ga_get S hK hP 0 rfl f_Sh_15 rfl d_Sh_put_22 ?_
    refine lv_iconst (v := 1) hx hb d_Sh_put_25 (by decide) ?_
    refine lv_iadd hx hb d_Sh_put_26 ?_
    refine ga_top (nI (n + 1)) (nI_add n 1) ?_
    refine ga_put (ws' := [(shh, .inr (3, [.ref sha, .int (nI (n + 1))])), (sha, .inl (cC, 240, .inl (nA (va_up sg n ch))))]) S hK hP hD hS 0 rfl p_Sh_15 rfl rfl (Nat.le_of_ble_eq_true rfl) rfl d_Sh_put_27 (fun H locs hP hD hS => ?_)
    exact ga_wv () S hrt hlk (by rw [he]; exact hP) (by rw [he]; exact hD) hS trivial d_Sh_put_30
