theorem gl_and (x : Int32) : ∃ k, k < 16 ∧ x &&& 15 = nI k := by
  refine ⟨(x &&& 15).toBitVec.toNat, ?_, ?_⟩
  · rw [Int32.toBitVec_and, BitVec.toNat_and]
    exact Nat.lt_of_le_of_lt Nat.and_le_right (by decide)
  · apply Int32.toBitVec_inj.mp
    show _ = (Int32.ofNat _).toBitVec
    simp
theorem gl_cmp {L i : Nat} (hL : L ≤ 2048) (hi : i ≤ L) : nI L - 4 < nI i ↔ L < i + 4 := by
  rcases Nat.lt_or_ge L 4 with h | h
  · rcases (show L = 0 ∨ L = 1 ∨ L = 2 ∨ L = 3 by omega) with rfl | rfl | rfl | rfl <;> rcases (show i = 0 ∨ i = 1 ∨ i = 2 ∨ i = 3 by omega) with rfl | rfl | rfl | rfl <;> first | (exfalso; omega) | decide
  · rw [show nI L - 4 = nI (L - 4) from pk_sub (a := L) (b := 4) h, nI_ltI (by omega) (by omega)]
    omega
set_option maxHeartbeats 4000000 in
set_option maxRecDepth 100000 in
theorem gl_loop {p : Program} {l : Launch} {e : Env} {s : State} {m : MethodId} {below : List Frame} {meth : Method} {c : Code} {D : va_G} {cI cZ cC cG : ClassId} {A : Nat → Prop} {b L : Nat} {xs : Nat → Int32} {spo re fa shh eo te ta fo sha : Nat} {ea : Nat → Nat} {mo m1 m6 m7 m8 m9 mA mB mC mD mE mF : Nat} (S : CallFix p m c code 4 s #[Value.ref b] gw "SortPlansLaw") (hK : ga_K D (ga_T cI cZ cC cG) s) (hX : va_X b L xs s s.heap) (hbl : b < s.heap.size) (hbA : ¬ A b) (hA : ∀ q, s.heap.size ≤ q → A q) (hL : L ≤ 2048) (hret : meth.sig.returnType = ret) (hlocks : meth.locks = false) (hAs : ∀ q, A q → s.heap.size ≤ q) : ∀ (k i : Nat) (ls : Array Slot) (H : Heap) (locs : List Loc), i ≤ L → L + 4 ≤ i + 4 * k → gl_J D A s cI cZ cC cG b spo re fa shh eo te ta fo sha ea mo m1 m6 m7 m8 m9 mA mB mC mD mE mF i ls H locs → W p l e room_1 s m #[Value.ref b] below meth c H locs 49 18344 (lw_Z below #[Value.ref b] s) (F0 m 18 ls []) := by
  obtain ⟨hx, hb, hml, hown, hts⟩ := id S
  intro k
  induction k with
  | zero => exact fun i ls H locs h1 h2 => absurd h2 (by omega)
  | succ k ih =>
    intro i ls H locs hi hm hJ
    obtain ⟨n, ec, pos, kf, rg, drg, mpos, mnw, shn, pa, da, tr, mwr, sg, dbn, dne, e1, e2, e3, e4, bn, ne, r1, r2, r3, r4, told, shg, mb, cd, nc, nn, mg, dsh, dus, dhe, shr, us, he, ms, mns, ed, hl, hP, hD, hS, hB, hSS⟩ := id hJ
    have hl : lv_has ls 4 [(0, .ref b), (1, .ref spo), (2, .ref mo), (3, .int (nI i))] := hl
    refine lv_iload_n hx hb d_La_law_18 rfl (lv_at hl 3 rfl) ?_
    refine lv_aload_n hx hb d_La_law_19 rfl (lv_at hl 0 rfl) ?_
    refine va_slen hx hb hX hbl hbA hS d_La_law_20 ?_
    refine lv_iconst (v := 4) hx hb d_La_law_21 (by decide) ?_
    refine lv_isub hx hb d_La_law_22 ?_
    have hcm := gl_cmp hL hi
    refine lv_icmp_gt (tgt := 405) hx hb d_La_law_23 (by decide) (fun c23 => ?_) (fun c23 => ?_)
    · refine lv_iconst (v := 1) hx hb d_La_law_405 (by decide) ?_
      refine va_forget (fun q hq => hAs _ (hS.2.2 q hq)) ?_
      refine W.widen (k := 600000) (n := 7302250) (Nat.le_of_ble_eq_true rfl) (Nat.le_of_ble_eq_true rfl) ?_
      exact lw_ret hx hb hret hlocks d_La_law_406
    · have hi4 : i + 4 ≤ L := by
        rcases Nat.lt_or_ge L (i + 4) with q | q
        · exact absurd (hcm.mpr q) c23
        · exact q
      have kk : ∀ (ls : Array Slot) (H : Heap) (locs : List Loc), gl_J D A s cI cZ cC cG b spo re fa shh eo te ta fo sha ea mo m1 m6 m7 m8 m9 mA mB mC mD mE mF i ls H locs → W p l e room_1 s m #[Value.ref b] below meth c H locs 49 18344 (lw_Z below #[Value.ref b] s) (F0 m 399 ls []) := by
        intro ls H locs hJ2
        obtain ⟨n, ec, pos, kf, rg, drg, mpos, mnw, shn, pa, da, tr, mwr, sg, dbn, dne, e1, e2, e3, e4, bn, ne, r1, r2, r3, r4, told, shg, mb, cd, nc, nn, mg, dsh, dus, dhe, shr, us, he, ms, mns, ed, hl, hP, hD, hS, hB, hSS⟩ := hJ2
        have hl : lv_has ls 4 [(0, .ref b), (1, .ref spo), (2, .ref mo), (3, .int (nI i))] := hl
        refine lv_iinc (v := nI (i + 4)) (lv' := [(3, .int (nI (i + 4))), (0, .ref b), (1, .ref spo), (2, .ref mo)]) hx hb d_La_law_399 hl (k := 3) rfl (nI_add i 4) (by decide) rfl (fun ls hl => ?_)
        refine lv_goto (tgt := 18) hx hb d_La_law_402 (by decide) ?_
        exact ih (i + 4) ls H locs hi4 (by omega) ⟨n, ec, pos, kf, rg, drg, mpos, mnw, shn, pa, da, tr, mwr, sg, dbn, dne, e1, e2, e3, e4, bn, ne, r1, r2, r3, r4, told, shg, mb, cd, nc, nn, mg, dsh, dus, dhe, shr, us, he, ms, mns, ed, lv_sub hl [1, 2, 3, 0] rfl, hP, hD, hS, hB, hSS⟩
      refine lv_aload_n hx hb d_La_law_26 rfl (lv_at hl 0 rfl) ?_
      refine lv_iload_n hx hb d_La_law_27 rfl (lv_at hl 3 rfl) ?_
      refine va_sld hx hb hX hbl hbA hS (vp_in_nI (n := i) (by omega) (by omega)) d_La_law_28 ?_
      refine lv_bipush (v := 15) hx hb d_La_law_29 (by decide) ?_
      refine lv_iand hx hb d_La_law_31 ?_
      obtain ⟨z, hz, ez⟩ := gl_and (xs (nI i).toNatClampNeg)
      rw [ez]
      rcases (show z = 0 ∨ z = 1 ∨ z = 2 ∨ z = 3 ∨ z = 4 ∨ z = 5 ∨ z = 6 ∨ z = 7 ∨ z = 8 ∨ z = 9 ∨ z = 10 ∨ 11 ≤ z by omega) with rfl | rfl | rfl | rfl | rfl | rfl | rfl | rfl | rfl | rfl | rfl | hz2
      · exact lv_tableIn (off := 60) (tgt := 92) hx hb d_La_law_32 (by decide) (by decide) (by decide) (by decide) (gl_case0 S hK hX hbl hbA hA hL hi4 hJ kk)
      · exact lv_tableIn (off := 81) (tgt := 113) hx hb d_La_law_32 (by decide) (by decide) (by decide) (by decide) (gl_case1 S hK hX hbl hbA hA hL hi4 hJ kk)
      · exact lv_tableIn (off := 94) (tgt := 126) hx hb d_La_law_32 (by decide) (by decide) (by decide) (by decide) (gl_case2 S hK hX hbl hbA hA hL hi4 hJ kk)
      · exact lv_tableIn (off := 127) (tgt := 159) hx hb d_La_law_32 (by decide) (by decide) (by decide) (by decide) (gl_case3 S hK hX hbl hbA hA hL hi4 hJ kk)
      · exact lv_tableIn (off := 170) (tgt := 202) hx hb d_La_law_32 (by decide) (by decide) (by decide) (by decide) (gl_case4 S hK hX hbl hbA hA hL hi4 hJ kk)
      · exact lv_tableIn (off := 183) (tgt := 215) hx hb d_La_law_32 (by decide) (by decide) (by decide) (by decide) (gl_case5 S hK hX hbl hbA hA hL hi4 hJ kk)
      · exact lv_tableIn (off := 216) (tgt := 248) hx hb d_La_law_32 (by decide) (by decide) (by decide) (by decide) (gl_case6 S hK hX hbl hbA hA hL hi4 hJ kk)
      · exact lv_tableIn (off := 265) (tgt := 297) hx hb d_La_law_32 (by decide) (by decide) (by decide) (by decide) (gl_case7 S hK hX hbl hbA hA hL hi4 hJ kk)
      · exact lv_tableIn (off := 288) (tgt := 320) hx hb d_La_law_32 (by decide) (by decide) (by decide) (by decide) (gl_case8 S hK hX hbl hbA hA hL hi4 hJ kk)
      · exact lv_tableIn (off := 321) (tgt := 353) hx hb d_La_law_32 (by decide) (by decide) (by decide) (by decide) (gl_case9 S hK hX hbl hbA hA hL hi4 hJ kk)
      · exact lv_tableIn (off := 344) (tgt := 376) hx hb d_La_law_32 (by decide) (by decide) (by decide) (by decide) (gl_case10 S hK hX hbl hbA hA hL hi4 hJ kk)
      · exact lv_tableOut (tgt := 399) hx hb d_La_law_32 (Or.inr (by rw [nI_toInt (by omega)]; omega)) (by decide) (kk ls H locs hJ)
