set_option maxHeartbeats 4000000 in
set_option maxRecDepth 100000 in
theorem gc_Te_signAt (l : Launch) (D : va_G) (cI cZ cC cG : ClassId) (te ta n i : Nat) (sg : Nat → Nat) (hn : n ≤ 600) (hi : i < 2 ^ 31) : ga_Mr l y_Te_signAt b_Te_signAt 2 (some .int) 0 D (ga_T cI cZ cC cG) [.ref te, .int (nI i)] [(te, .inr (4, [.ref ta, .int (nI n)])), (ta, .inl (cC, 600, .inl (nA sg)))] (fun r => r = nI (gp_sg sg n i)) := by
  refine ga_enR (by decide) (Nat.le_of_ble_eq_true rfl) ?_
  intro p e s m below meth c ls S hrt hlk hK hP hl
  obtain ⟨hx, hb, hml, hown, hts⟩ := id S
  have hl : lv_has ls 2 [(0, .ref te), (1, .int (nI i))] := hl
  refine lv_iload_n hx hb d_Te_signAt_0 rfl (lv_at hl 1 rfl) ?_
  refine lv_if_lt (tgt := 21) hx hb d_Te_signAt_1 (by decide) (fun c1 => ?_) (fun c1 => ?_)
  · exact absurd c1 (nI_pos hi)
  · have c1 : ¬ (i < 0) := fun q => c1 ((nI_ltI (a := i) (b := 0) (by omega) (by omega)).mpr q)
    refine lv_iload_n hx hb d_Te_signAt_4 rfl (lv_at hl 1 rfl) ?_
    refine lv_aload_n hx hb d_Te_signAt_5 rfl (lv_at hl 0 rfl) ?_
    refine ga_get S hK hP 0 rfl f_Te_19 rfl d_Te_signAt_6 ?_
    refine lv_icmp_ge (tgt := 21) hx hb d_Te_signAt_9 (by decide) (fun c9 => ?_) (fun c9 => ?_)
    · have c9 : n ≤ i := (nI_leI (a := n) (b := i) (by omega) (by omega)).mp c9
      refine lv_iconst (v := 0) hx hb d_Te_signAt_21 (by decide) ?_
      exact ga_ri S hrt hlk (by rw [gp_sg, if_neg (by omega)]; rfl) d_Te_signAt_22
    · have c9 : ¬ (n ≤ i) := fun q => c9 ((nI_leI (a := n) (b := i) (by omega) (by omega)).mpr q)
      refine lv_aload_n hx hb d_Te_signAt_12 rfl (lv_at hl 0 rfl) ?_
      refine ga_get S hK hP 0 rfl f_Te_9 rfl d_Te_signAt_13 ?_
      refine lv_iload_n hx hb d_Te_signAt_16 rfl (lv_at hl 1 rfl) ?_
      refine ga_cld S hK hP 1 2 rfl rfl i (by omega) (by decide) d_Te_signAt_17 ?_
      refine lv_goto (tgt := 22) hx hb d_Te_signAt_18 (by decide) ?_
      exact ga_ri S hrt hlk (by rw [gp_sg, if_pos (by omega)]) d_Te_signAt_22
set_option maxHeartbeats 4000000 in
set_option maxRecDepth 100000 in
theorem gc_Te_put (l : Launch) (D : va_G) (cI cZ cC cG : ClassId) (te ta n : Nat) (sg : Nat → Nat) (ch : Int32) (hn : n ≤ 600) : ga_Mv l y_Te_put b_Te_put 2 1 0 0 D (ga_T cI cZ cC cG) [.ref te, .int ch] [(te, .inr (4, [.ref ta, .int (nI n)])), (ta, .inl (cC, 600, .inl (nA sg)))] (fun (_ : Unit) => [(te, .inr (4, [.ref ta, .int (nI ((gp_put ch (sg, n)).2))])), (ta, .inl (cC, 600, .inl (nA ((gp_put ch (sg, n)).1))))]) (fun _ => True) := by
  refine ga_enV (by decide) (Nat.le_of_ble_eq_true rfl) ?_
  intro p e s m below meth c ls A S hrt hlk hnm hK hP hD hA hl
  have hS : va_S A s.heap s.heap [] := va_S.rf
  obtain ⟨hx, hb, hml, hown, hts⟩ := id S
  have hl : lv_has ls 2 [(0, .ref te), (1, .int ch)] := hl
  refine lv_iload_n hx hb d_Te_put_0 rfl (lv_at hl 1 rfl) ?_
  refine lv_bipush (v := 32) hx hb d_Te_put_1 (by decide) ?_
  refine lv_bipush (v := 126) hx hb d_Te_put_3 (by decide) ?_
  refine ga_cs (As := [.int ch, .int 32, .int 126]) (rest := []) S hK hP s_Te_13 (gc_SP_isWithin l D cI cZ cC cG ch 32 126) [] rfl rfl hl.1 rfl (Nat.le_of_ble_eq_true rfl) ⟨Nat.le_of_ble_eq_true rfl, Nat.le_of_ble_eq_true rfl⟩ ⟨Nat.le_of_ble_eq_true rfl, Nat.le_of_ble_eq_true rfl⟩ d_Te_put_5 (fun r hp5 => ?_)
  rcases hp5 with ⟨rfl, hp5⟩ | ⟨rfl, hp5⟩
  · obtain ⟨k, hk, rfl⟩ := nI_of2 (M := 126) (n := 126) rfl (fun q => absurd (Int32.lt_of_le_of_lt hp5.1 q) (by decide)) hp5.2
    refine lv_if_eq (tgt := 42) hx hb d_Te_put_8 (by decide) (fun c8 => ?_) (fun c8 => ?_)
    · exact absurd c8 (by decide)
    · refine lv_aload_n hx hb d_Te_put_11 rfl (lv_at hl 0 rfl) ?_
      refine ga_get S hK hP 0 rfl f_Te_19 rfl d_Te_put_12 ?_
      refine lv_sipush (v := 600) hx hb d_Te_put_15 (by decide) ?_
      refine lv_icmp_ge (tgt := 42) hx hb d_Te_put_18 (by decide) (fun c18 => ?_) (fun c18 => ?_)
      · have c18 : 600 ≤ n := (nI_leI (a := 600) (b := n) (by omega) (by omega)).mp c18
        have he : gp_put (nI k) (sg, n) = (sg, n) := by rw [gp_put, if_neg (fun q => absurd q.2 (by simp only; omega))]
        exact ga_wv () S hrt hlk (by rw [he]; exact hP) (by rw [he]; exact hD) hS trivial d_Te_put_42
      · have c18 : ¬ (600 ≤ n) := fun q => c18 ((nI_leI (a := 600) (b := n) (by omega) (by omega)).mpr q)
        have he : gp_put (nI k) (sg, n) = (va_up sg n k, n + 1) := by rw [gp_put, if_pos ⟨hp5, by simp only; omega⟩, nI_clamp (by omega)]
        refine lv_aload_n hx hb d_Te_put_21 rfl (lv_at hl 0 rfl) ?_
        refine ga_get S hK hP 0 rfl f_Te_9 rfl d_Te_put_22 ?_
        refine lv_aload_n hx hb d_Te_put_25 rfl (lv_at hl 0 rfl) ?_
        refine ga_get S hK hP 0 rfl f_Te_19 rfl d_Te_put_26 ?_
        refine lv_iload_n hx hb d_Te_put_29 rfl (lv_at hl 1 rfl) ?_
        refine lv_i2c hx hb d_Te_put_30 rfl ?_
        refine ga_top (nI k) (ga_c16 (q := k) (by omega)) ?_
        refine ga_cst (ws' := [(te, .inr (4, [.ref ta, .int (nI n)])), (ta, .inl (cC, 600, .inl (nA (va_up sg n k))))]) S hK hP hD hS 1 2 rfl rfl n k (by omega) (by decide) (by omega) rfl d_Te_put_31 (fun H locs hP hD hS => ?_)
        refine lv_aload_n hx hb d_Te_put_32 rfl (lv_at hl 0 rfl) ?_
        refine lv_dup hx hb d_Te_put_33 rfl ?_
        refine ga_get S hK hP 0 rfl f_Te_19 rfl d_Te_put_34 ?_
        refine lv_iconst (v := 1) hx hb d_Te_put_37 (by decide) ?_
        refine lv_iadd hx hb d_Te_put_38 ?_
        refine ga_top (nI (n + 1)) (nI_add n 1) ?_
        refine ga_put (ws' := [(te, .inr (4, [.ref ta, .int (nI (n + 1))])), (ta, .inl (cC, 600, .inl (nA (va_up sg n k))))]) S hK hP hD hS 0 rfl p_Te_19 rfl rfl (Nat.le_of_ble_eq_true rfl) rfl d_Te_put_39 (fun H locs hP hD hS => ?_)
        exact ga_wv () S hrt hlk (by rw [he]; exact hP) (by rw [he]; exact hD) hS trivial d_Te_put_42
  · have he : gp_put ch (sg, n) = (sg, n) := by rw [gp_put, if_neg (fun q => hp5 q.1)]
    refine lv_if_eq (tgt := 42) hx hb d_Te_put_8 (by decide) (fun c8 => ?_) (fun c8 => ?_)
    · exact ga_wv () S hrt hlk (by rw [he]; exact hP) (by rw [he]; exact hD) hS trivial d_Te_put_42
    · exact absurd c8 (by decide)
