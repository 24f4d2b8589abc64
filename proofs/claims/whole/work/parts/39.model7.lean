set_option maxHeartbeats 4000000 in
set_option maxRecDepth 100000 in
theorem gc_Mo_isUsed (l : Launch) (D : va_G) (cI cZ cC cG : ClassId) (mo m1 m6 m7 m8 m9 mA mB mC mD mE mF n pos ec w nw kf : Nat) (wr : Option Nat) (cd r1 : Nat → Nat) (us : Nat → Bool) (t : Nat) (ht : t ≤ 40) (hw : w ≤ 66) (hcd : ∀ k, k < w → cd (4 * k) = r1 k ∧ r1 k ≤ 40) (hus : us t = true ↔ ∃ k, k < w ∧ r1 k = t) : ga_Mr l y_Mo_isUsed b_Mo_isUsed 4 (some .boolean) 0 D (ga_T cI cZ cC cG) [.ref mo, .int (nI t)] [(mo, .inr (6, [.int 0, .ref m1, .int (nI n), .int (nI pos), .int (tI wr), .int (nI ec), .ref m6, .ref m7, .ref m8, .ref m9, .ref mA, .int (nI w), .int (nI nw), .ref mB, .ref mC, .ref mD, .int (nI kf), .ref mE, .ref mF])), (m9, .inl (cI, 600, .inl (nA cd)))] (fun r => (r = 1 ∧ us t = true) ∨ (r = 0 ∧ us t = false)) := by
  refine ga_enR (by decide) (Nat.le_of_ble_eq_true rfl) ?_
  intro p e s m below meth c ls S hrt hlk hK hP hl
  obtain ⟨hx, hb, hml, hown, hts⟩ := id S
  have hl : lv_has ls 4 [(0, .ref mo), (1, .int (nI t))] := hl
  refine lv_iconst (v := 0) hx hb d_Mo_isUsed_0 (by decide) ?_
  refine lv_istore_n (lv' := [(2, .int 0), (0, .ref mo), (1, .int (nI t))]) hx hb d_Mo_isUsed_1 rfl hl (by decide) rfl (fun ls hl => ?_)
  refine lv_iconst (v := 0) hx hb d_Mo_isUsed_2 (by decide) ?_
  refine lv_istore_n (lv' := [(3, .int 0), (2, .int 0), (0, .ref mo), (1, .int (nI t))]) hx hb d_Mo_isUsed_3 rfl hl (by decide) rfl (fun ls hl => ?_)
  refine ga_loopR (α := Nat × Bool) (fun x => match x with | (k, ud) => w - k) (fun x ls => match x with | (k, ud) => lv_has ls 4 [(3, .int (nI k)), (2, .int (bI ud)), (0, .ref mo), (1, .int (nI t))] ∧ k ≤ w ∧ (ud = true ↔ ∃ j, j < k ∧ r1 j = t)) ?_ (0, false) ⟨lv_sub hl [0, 1, 2, 3] rfl, ⟨Nat.zero_le _, (fun q => by cases q), fun ⟨j, hj, _⟩ => absurd hj (Nat.not_lt_zero _)⟩⟩
  intro x ls hI ih
  obtain ⟨k, ud⟩ := x
  obtain ⟨hl, ⟨h1, h2⟩⟩ := hI
  have hl : lv_has ls 4 [(3, .int (nI k)), (2, .int (bI ud)), (0, .ref mo), (1, .int (nI t))] := hl
  refine lv_iload_n hx hb d_Mo_isUsed_4 rfl (lv_at hl 0 rfl) ?_
  refine lv_aload_n hx hb d_Mo_isUsed_5 rfl (lv_at hl 2 rfl) ?_
  refine ga_get S hK hP 0 rfl f_Mo_94 rfl d_Mo_isUsed_6 ?_
  refine lv_icmp_ge (tgt := 40) hx hb d_Mo_isUsed_9 (by decide) (fun c9 => ?_) (fun c9 => ?_)
  · have c9 : w ≤ k := (nI_leI (a := w) (b := k) (by omega) (by omega)).mp c9
    refine lv_iload_n hx hb d_Mo_isUsed_40 rfl (lv_at hl 1 rfl) ?_
    obtain rfl : k = w := by omega
    cases ud
    · exact ga_rz S hrt hlk (Or.inl rfl) (Or.inr ⟨rfl, by cases hu : us t with | false => rfl | true => exact absurd (h2.mpr (hus.mp hu)) (by decide)⟩) d_Mo_isUsed_41
    · exact ga_rz S hrt hlk (Or.inr rfl) (Or.inl ⟨rfl, hus.mpr (h2.mp rfl)⟩) d_Mo_isUsed_41
  · have c9 : ¬ (w ≤ k) := fun q => c9 ((nI_leI (a := w) (b := k) (by omega) (by omega)).mpr q)
    obtain ⟨e1, e2⟩ := hcd k (by omega)
    refine lv_iload_n hx hb d_Mo_isUsed_12 rfl (lv_at hl 1 rfl) ?_
    refine lv_if_ne (tgt := 28) hx hb d_Mo_isUsed_13 (by decide) (fun c13 => ?_) (fun c13 => ?_)
    · have c13 : ud = true := bI_1 c13
      refine lv_iconst (v := 1) hx hb d_Mo_isUsed_28 (by decide) ?_
      refine lv_goto (tgt := 33) hx hb d_Mo_isUsed_29 (by decide) ?_
      refine lv_istore_n (lv' := [(2, .int 1), (3, .int (nI k)), (0, .ref mo), (1, .int (nI t))]) hx hb d_Mo_isUsed_33 rfl hl (by decide) rfl (fun ls hl => ?_)
      refine lv_iinc (v := nI (k + 1)) (lv' := [(3, .int (nI (k + 1))), (2, .int 1), (0, .ref mo), (1, .int (nI t))]) hx hb d_Mo_isUsed_34 hl (k := 1) rfl (ga_inc k) (by decide) rfl (fun ls hl => ?_)
      refine lv_goto (tgt := 4) hx hb d_Mo_isUsed_37 (by decide) ?_
      exact ih (k + 1, true) _ (by show (w - (k + 1)) < (w - k); omega) ⟨lv_sub hl [0, 1, 2, 3] rfl, ⟨by omega, (fun _ => by first | exact ⟨k, by omega, by omega⟩ | (obtain ⟨j, hj, ej⟩ := h2.mp c13; exact ⟨j, by omega, ej⟩)), fun _ => rfl⟩⟩
    · have c13 : ud = false := bI_0 c13
      refine lv_aload_n hx hb d_Mo_isUsed_16 rfl (lv_at hl 2 rfl) ?_
      refine ga_get S hK hP 0 rfl f_Mo_23 rfl d_Mo_isUsed_17 ?_
      refine lv_iconst (v := 4) hx hb d_Mo_isUsed_20 (by decide) ?_
      refine lv_iload_n hx hb d_Mo_isUsed_21 rfl (lv_at hl 0 rfl) ?_
      refine lv_imul hx hb d_Mo_isUsed_22 ?_
      refine ga_top (nI (4 * k)) (pk_mul 4 k) ?_
      refine ga_ild S hK hP 1 0 rfl rfl (4 * k) (by omega) (by decide) d_Mo_isUsed_23 ?_
      refine lv_iload_n hx hb d_Mo_isUsed_24 rfl (lv_at hl 3 rfl) ?_
      refine lv_icmp_ne (tgt := 32) hx hb d_Mo_isUsed_25 (by decide) (fun c25 => ?_) (fun c25 => ?_)
      · have c25 : ¬ ((cd (4 * k)) = t) := fun q => c25 ((nI_eq (a := (cd (4 * k))) (b := t) (by omega) (by omega)).mpr q)
        refine lv_iconst (v := 0) hx hb d_Mo_isUsed_32 (by decide) ?_
        refine lv_istore_n (lv' := [(2, .int 0), (3, .int (nI k)), (0, .ref mo), (1, .int (nI t))]) hx hb d_Mo_isUsed_33 rfl hl (by decide) rfl (fun ls hl => ?_)
        refine lv_iinc (v := nI (k + 1)) (lv' := [(3, .int (nI (k + 1))), (2, .int 0), (0, .ref mo), (1, .int (nI t))]) hx hb d_Mo_isUsed_34 hl (k := 1) rfl (ga_inc k) (by decide) rfl (fun ls hl => ?_)
        refine lv_goto (tgt := 4) hx hb d_Mo_isUsed_37 (by decide) ?_
        exact ih (k + 1, false) _ (by show (w - (k + 1)) < (w - k); omega) ⟨lv_sub hl [0, 1, 2, 3] rfl, ⟨by omega, (fun q => by cases q), fun ⟨j, hj, ej⟩ => by rcases (show j < k ∨ j = k by omega) with z | z; (have := h2.mpr ⟨j, z, ej⟩; rw [c13] at this; exact this); (subst z; exact absurd (by omega) c25)⟩⟩
      · have c25 : (cd (4 * k)) = t := (nI_eq (a := (cd (4 * k))) (b := t) (by omega) (by omega)).mp c25
        refine lv_iconst (v := 1) hx hb d_Mo_isUsed_28 (by decide) ?_
        refine lv_goto (tgt := 33) hx hb d_Mo_isUsed_29 (by decide) ?_
        refine lv_istore_n (lv' := [(2, .int 1), (3, .int (nI k)), (0, .ref mo), (1, .int (nI t))]) hx hb d_Mo_isUsed_33 rfl hl (by decide) rfl (fun ls hl => ?_)
        refine lv_iinc (v := nI (k + 1)) (lv' := [(3, .int (nI (k + 1))), (2, .int 1), (0, .ref mo), (1, .int (nI t))]) hx hb d_Mo_isUsed_34 hl (k := 1) rfl (ga_inc k) (by decide) rfl (fun ls hl => ?_)
        refine lv_goto (tgt := 4) hx hb d_Mo_isUsed_37 (by decide) ?_
        exact ih (k + 1, true) _ (by show (w - (k + 1)) < (w - k); omega) ⟨lv_sub hl [0, 1, 2, 3] rfl, ⟨by omega, (fun _ => by first | exact ⟨k, by omega, by omega⟩ | (obtain ⟨j, hj, ej⟩ := h2.mp c13; exact ⟨j, by omega, ej⟩)), fun _ => rfl⟩⟩
set_option maxHeartbeats 4000000 in
set_option maxRecDepth 100000 in
theorem gc_Mo_isPass (l : Launch) (D : va_G) (cI cZ cC cG : ClassId) (mo m1 m6 m7 m8 m9 mA mB mC mD mE mF n pos ec w nw kf : Nat) (wr : Option Nat) (mb bn : Nat → Nat) (pa sh q : Nat) (hpa : pa < 4) (hsh : sh < 3) (hq : gp_isP bn sh q) (h8 : ∀ t p s, 1 ≤ t → t ≤ 40 → p < 4 → s < 3 → mb (gm_pl 8 t p s) = bn (gp_sl t p s)) (hbn : ∀ j, bn j ≤ 60) : ga_Mr l y_Mo_isPass b_Mo_isPass 6 (some .boolean) 1 D (ga_T cI cZ cC cG) [.ref mo, .int (nI pa), .int (nI sh)] [(mo, .inr (6, [.int 0, .ref m1, .int (nI n), .int (nI pos), .int (tI wr), .int (nI ec), .ref m6, .ref m7, .ref m8, .ref m9, .ref mA, .int (nI w), .int (nI nw), .ref mB, .ref mC, .ref mD, .int (nI kf), .ref mE, .ref mF])), (m6, .inl (cI, 4920, .inl (nA mb)))] (fun r => (r = 1 ∧ pa < q) ∨ (r = 0 ∧ ¬ pa < q)) := by
  refine ga_enR (by decide) (Nat.le_of_ble_eq_true rfl) ?_
  intro p e s m below meth c ls S hrt hlk hK hP hl
  obtain ⟨hx, hb, hml, hown, hts⟩ := id S
  have hl : lv_has ls 6 [(0, .ref mo), (1, .int (nI pa)), (2, .int (nI sh))] := hl
  refine lv_iconst (v := 0) hx hb d_Mo_isPass_0 (by decide) ?_
  refine lv_istore_n (lv' := [(3, .int 0), (0, .ref mo), (1, .int (nI pa)), (2, .int (nI sh))]) hx hb d_Mo_isPass_1 rfl hl (by decide) rfl (fun ls hl => ?_)
  refine lv_iload_n hx hb d_Mo_isPass_2 rfl (lv_at hl 2 rfl) ?_
  refine lv_istore (lv' := [(4, .int (nI pa)), (3, .int 0), (0, .ref mo), (1, .int (nI pa)), (2, .int (nI sh))]) hx hb d_Mo_isPass_3 hl (by decide) rfl (fun ls hl => ?_)
  refine ga_loopR (α := Nat × Bool) (fun x => match x with | (v, z1) => 4 - v) (fun x ls => match x with | (v, z1) => lv_has ls 6 [(4, .int (nI v)), (3, .int (bI z1)), (0, .ref mo), (1, .int (nI pa)), (2, .int (nI sh))] ∧ pa ≤ v ∧ v ≤ 4 ∧ (z1 = true ↔ ∃ y9 u, pa ≤ y9 ∧ y9 < v ∧ 1 ≤ u ∧ u ≤ 40 ∧ bn (gp_sl u y9 sh) ≠ 0)) ?_ (pa, false) ⟨lv_sub hl [0, 1, 2, 3, 4] rfl, ⟨Nat.le_refl _, by omega, (fun q => by cases q), fun ⟨_, _, _, _, _⟩ => by omega⟩⟩
  intro x ls hI ih1
  obtain ⟨v, z1⟩ := x
  obtain ⟨hl, ⟨h1, h2, h3⟩⟩ := hI
  have hl : lv_has ls 6 [(4, .int (nI v)), (3, .int (bI z1)), (0, .ref mo), (1, .int (nI pa)), (2, .int (nI sh))] := hl
  refine lv_iload hx hb d_Mo_isPass_5 (lv_at hl 0 rfl) ?_
  refine lv_iconst (v := 4) hx hb d_Mo_isPass_7 (by decide) ?_
  refine lv_icmp_ge (tgt := 61) hx hb d_Mo_isPass_8 (by decide) (fun c8 => ?_) (fun c8 => ?_)
  · have c8 : 4 ≤ v := (nI_leI (a := 4) (b := v) (by omega) (by omega)).mp c8
    refine lv_iload_n hx hb d_Mo_isPass_61 rfl (lv_at hl 1 rfl) ?_
    obtain rfl : v = 4 := by omega
    cases z1
    · exact ga_rz S hrt hlk (Or.inl rfl) (Or.inr ⟨rfl, fun hlt => by obtain ⟨u, b1, b2, b3⟩ := hq.2.2 (by omega); have hq4 := hq.1; exact absurd (h3.mpr ⟨q - 1, u, by omega, by omega, b1, b2, b3⟩) (by decide)⟩) d_Mo_isPass_62
    · exact ga_rz S hrt hlk (Or.inr rfl) (Or.inl ⟨rfl, by obtain ⟨a1, u, b1, b2, b3, b4, b5⟩ := h3.mp rfl; have := hq.2.1 u a1 b3 b4 b2 b5; omega⟩) d_Mo_isPass_62
  · have c8 : ¬ (4 ≤ v) := fun q => c8 ((nI_leI (a := 4) (b := v) (by omega) (by omega)).mpr q)
    refine lv_iconst (v := 1) hx hb d_Mo_isPass_11 (by decide) ?_
    refine lv_istore (lv' := [(5, .int 1), (4, .int (nI v)), (3, .int (bI z1)), (0, .ref mo), (1, .int (nI pa)), (2, .int (nI sh))]) hx hb d_Mo_isPass_12 hl (by decide) rfl (fun ls hl => ?_)
    refine ga_loopR (α := Nat × Bool) (fun x => match x with | (t, z2) => 41 - t) (fun x ls => match x with | (t, z2) => lv_has ls 6 [(5, .int (nI t)), (4, .int (nI v)), (3, .int (bI z2)), (0, .ref mo), (1, .int (nI pa)), (2, .int (nI sh))] ∧ 1 ≤ t ∧ t ≤ 41 ∧ (z2 = true ↔ (∃ y9 u, pa ≤ y9 ∧ y9 < v ∧ 1 ≤ u ∧ u ≤ 40 ∧ bn (gp_sl u y9 sh) ≠ 0) ∨ ∃ u, 1 ≤ u ∧ u < t ∧ bn (gp_sl u v sh) ≠ 0)) ?_ (1, z1) ⟨lv_sub hl [0, 1, 2, 3, 4, 5] rfl, ⟨by decide, by decide, (fun q => Or.inl (h3.mp q)), fun q => by rcases q with q | ⟨u, b1, b2, _⟩; exact h3.mpr q; omega⟩⟩
    intro x ls hI ih2
    obtain ⟨t, z2⟩ := x
    obtain ⟨hl, ⟨g1, g2, g3⟩⟩ := hI
    have hl : lv_has ls 6 [(5, .int (nI t)), (4, .int (nI v)), (3, .int (bI z2)), (0, .ref mo), (1, .int (nI pa)), (2, .int (nI sh))] := hl
    refine lv_iload hx hb d_Mo_isPass_14 (lv_at hl 0 rfl) ?_
    refine lv_bipush (v := 41) hx hb d_Mo_isPass_16 (by decide) ?_
    refine lv_icmp_ge (tgt := 55) hx hb d_Mo_isPass_18 (by decide) (fun c18 => ?_) (fun c18 => ?_)
    · have c18 : 41 ≤ t := (nI_leI (a := 41) (b := t) (by omega) (by omega)).mp c18
      refine lv_iinc (v := nI (v + 1)) (lv' := [(4, .int (nI (v + 1))), (5, .int (nI t)), (3, .int (bI z2)), (0, .ref mo), (1, .int (nI pa)), (2, .int (nI sh))]) hx hb d_Mo_isPass_55 hl (k := 1) rfl (ga_inc v) (by decide) rfl (fun ls hl => ?_)
      refine lv_goto (tgt := 5) hx hb d_Mo_isPass_58 (by decide) ?_
      exact ih1 (v + 1, z2) _ (by show (4 - (v + 1)) < (4 - v); omega) ⟨lv_sub hl [0, 2, 3, 4, 5] rfl, ⟨by omega, by omega, (fun q => by rcases g3.mp q with ⟨a1, u, b1, b2, b3⟩ | ⟨u, b1, b2, b3⟩; exact ⟨a1, u, b1, by omega, b3⟩; exact ⟨v, u, h1, by omega, b1, by omega, b3⟩), fun ⟨a1, u, b1, b2, b3, b4, b5⟩ => g3.mpr (by rcases (show a1 < v ∨ a1 = v by omega) with z | z; exact Or.inl ⟨a1, u, b1, z, b3, b4, b5⟩; subst z; exact Or.inr ⟨u, b3, by omega, b5⟩)⟩⟩
    · have c18 : ¬ (41 ≤ t) := fun q => c18 ((nI_leI (a := 41) (b := t) (by omega) (by omega)).mpr q)
      refine lv_iload_n hx hb d_Mo_isPass_21 rfl (lv_at hl 2 rfl) ?_
      refine lv_if_ne (tgt := 43) hx hb d_Mo_isPass_22 (by decide) (fun c22 => ?_) (fun c22 => ?_)
      · have c22 : z2 = true := bI_1 c22
        refine lv_iconst (v := 1) hx hb d_Mo_isPass_43 (by decide) ?_
        refine lv_goto (tgt := 48) hx hb d_Mo_isPass_44 (by decide) ?_
        refine lv_istore_n (lv' := [(3, .int 1), (5, .int (nI t)), (4, .int (nI v)), (0, .ref mo), (1, .int (nI pa)), (2, .int (nI sh))]) hx hb d_Mo_isPass_48 rfl hl (by decide) rfl (fun ls hl => ?_)
        refine lv_iinc (v := nI (t + 1)) (lv' := [(5, .int (nI (t + 1))), (3, .int 1), (4, .int (nI v)), (0, .ref mo), (1, .int (nI pa)), (2, .int (nI sh))]) hx hb d_Mo_isPass_49 hl (k := 1) rfl (ga_inc t) (by decide) rfl (fun ls hl => ?_)
        refine lv_goto (tgt := 14) hx hb d_Mo_isPass_52 (by decide) ?_
        exact ih2 (t + 1, true) _ (by show (41 - (t + 1)) < (41 - t); omega) ⟨lv_sub hl [0, 2, 1, 3, 4, 5] rfl, ⟨by omega, by omega, (fun _ => by first | exact Or.inr ⟨t, g1, by omega, by omega⟩ | (rcases g3.mp c22 with q | ⟨u, b1, b2, b3⟩; exact Or.inl q; exact Or.inr ⟨u, b1, by omega, b3⟩)), fun _ => rfl⟩⟩
      · have c22 : z2 = false := bI_0 c22
        refine lv_aload_n hx hb d_Mo_isPass_25 rfl (lv_at hl 3 rfl) ?_
        refine ga_get S hK hP 0 rfl f_Mo_13 rfl d_Mo_isPass_26 ?_
        refine lv_bipush (v := 8) hx hb d_Mo_isPass_29 (by decide) ?_
        refine lv_iload hx hb d_Mo_isPass_31 (lv_at hl 0 rfl) ?_
        refine lv_iload hx hb d_Mo_isPass_33 (lv_at hl 1 rfl) ?_
        refine lv_iload_n hx hb d_Mo_isPass_35 rfl (lv_at hl 5 rfl) ?_
        refine ga_cs (As := [.int 8, .int (nI t), .int (nI v), .int (nI sh)]) (rest := [.ref m6]) S hK hP s_Mo_75 (gc_Mo_place l D cI cZ cC cG 8 t v sh) [] rfl rfl hl.1 rfl (Nat.le_of_ble_eq_true rfl) ⟨Nat.le_of_ble_eq_true rfl, Nat.le_of_ble_eq_true rfl⟩ ⟨Nat.le_of_ble_eq_true rfl, Nat.le_of_ble_eq_true rfl⟩ d_Mo_isPass_36 (fun r hp36 => ?_)
        subst hp36
        refine ga_ild S hK hP 1 0 rfl rfl (gm_pl 8 t v sh) (gm_pl_lt (by decide) (by omega) (by omega) (by omega)) (by decide) d_Mo_isPass_39 ?_
        have e8 := h8 t v sh (by omega) (by omega) (by omega) hsh
        have e9 := hbn (gp_sl t v sh)
        refine lv_if_le (tgt := 47) hx hb d_Mo_isPass_40 (by decide) (fun c40 => ?_) (fun c40 => ?_)
        · have c40 : (mb (gm_pl 8 t v sh)) ≤ 0 := (nI_leI (a := (mb (gm_pl 8 t v sh))) (b := 0) (by omega) (by omega)).mp c40
          refine lv_iconst (v := 0) hx hb d_Mo_isPass_47 (by decide) ?_
          refine lv_istore_n (lv' := [(3, .int 0), (5, .int (nI t)), (4, .int (nI v)), (0, .ref mo), (1, .int (nI pa)), (2, .int (nI sh))]) hx hb d_Mo_isPass_48 rfl hl (by decide) rfl (fun ls hl => ?_)
          refine lv_iinc (v := nI (t + 1)) (lv' := [(5, .int (nI (t + 1))), (3, .int 0), (4, .int (nI v)), (0, .ref mo), (1, .int (nI pa)), (2, .int (nI sh))]) hx hb d_Mo_isPass_49 hl (k := 1) rfl (ga_inc t) (by decide) rfl (fun ls hl => ?_)
          refine lv_goto (tgt := 14) hx hb d_Mo_isPass_52 (by decide) ?_
          exact ih2 (t + 1, false) _ (by show (41 - (t + 1)) < (41 - t); omega) ⟨lv_sub hl [0, 2, 1, 3, 4, 5] rfl, ⟨by omega, by omega, (fun q => by cases q), fun q => by rcases q with q | ⟨u, b1, b2, b3⟩; (have := g3.mpr (Or.inl q); rw [c22] at this; exact this); (rcases (show u < t ∨ u = t by omega) with z | z; (have := g3.mpr (Or.inr ⟨u, b1, z, b3⟩); rw [c22] at this; exact this); (subst z; omega))⟩⟩
        · have c40 : ¬ ((mb (gm_pl 8 t v sh)) ≤ 0) := fun q => c40 ((nI_leI (a := (mb (gm_pl 8 t v sh))) (b := 0) (by omega) (by omega)).mpr q)
          refine lv_iconst (v := 1) hx hb d_Mo_isPass_43 (by decide) ?_
          refine lv_goto (tgt := 48) hx hb d_Mo_isPass_44 (by decide) ?_
          refine lv_istore_n (lv' := [(3, .int 1), (5, .int (nI t)), (4, .int (nI v)), (0, .ref mo), (1, .int (nI pa)), (2, .int (nI sh))]) hx hb d_Mo_isPass_48 rfl hl (by decide) rfl (fun ls hl => ?_)
          refine lv_iinc (v := nI (t + 1)) (lv' := [(5, .int (nI (t + 1))), (3, .int 1), (4, .int (nI v)), (0, .ref mo), (1, .int (nI pa)), (2, .int (nI sh))]) hx hb d_Mo_isPass_49 hl (k := 1) rfl (ga_inc t) (by decide) rfl (fun ls hl => ?_)
          refine lv_goto (tgt := 14) hx hb d_Mo_isPass_52 (by decide) ?_
          exact ih2 (t + 1, true) _ (by show (41 - (t + 1)) < (41 - t); omega) ⟨lv_sub hl [0, 2, 1, 3, 4, 5] rfl, ⟨by omega, by omega, (fun _ => by first | exact Or.inr ⟨t, g1, by omega, by omega⟩ | (rcases g3.mp c22 with q | ⟨u, b1, b2, b3⟩; exact Or.inl q; exact Or.inr ⟨u, b1, by omega, b3⟩)), fun _ => rfl⟩⟩
set_option maxHeartbeats 4000000 in
set_option maxRecDepth 100000 in
theorem gc_Mo_tell (l : Launch) (D : va_G) (cI cZ cC cG : ClassId) (mo m1 m6 m7 m8 m9 mA mB mC mD mE mF n pos ec w nw kf : Nat) (wr : Option Nat) (sh pa t o b : Nat) (told : Nat → Nat) (hk : kf < 2 ^ 30) : ga_Mv l y_Mo_tell b_Mo_tell 6 0 0 0 D (ga_T cI cZ cC cG) [.ref mo, .int (nI sh), .int (nI pa), .int (nI t), .int (nI o), .int (nI b)] [(mo, .inr (6, [.int 0, .ref m1, .int (nI n), .int (nI pos), .int (tI wr), .int (nI ec), .ref m6, .ref m7, .ref m8, .ref m9, .ref mA, .int (nI w), .int (nI nw), .ref mB, .ref mC, .ref mD, .int (nI kf), .ref mE, .ref mF])), (mE, .inl (cI, 500, .inl (nA told)))] (fun (_ : Unit) => [(mo, .inr (6, [.int 0, .ref m1, .int (nI n), .int (nI pos), .int (tI wr), .int (nI ec), .ref m6, .ref m7, .ref m8, .ref m9, .ref mA, .int (nI w), .int (nI nw), .ref mB, .ref mC, .ref mD, .int (nI ((gp_add (told, kf) sh pa t o b).2)), .ref mE, .ref mF])), (mE, .inl (cI, 500, .inl (nA ((gp_add (told, kf) sh pa t o b).1))))]) (fun _ => True) := by
  refine ga_enV (by decide) (Nat.le_of_ble_eq_true rfl) ?_
  intro p e s m below meth c ls A S hrt hlk hnm hK hP hD hA hl
  have hS : va_S A s.heap s.heap [] := va_S.rf
  obtain ⟨hx, hb, hml, hown, hts⟩ := id S
  have hl : lv_has ls 6 [(0, .ref mo), (1, .int (nI sh)), (2, .int (nI pa)), (3, .int (nI t)), (4, .int (nI o)), (5, .int (nI b))] := hl
  refine lv_aload_n hx hb d_Mo_tell_0 rfl (lv_at hl 0 rfl) ?_
  refine ga_get S hK hP 0 rfl f_Mo_101 rfl d_Mo_tell_1 ?_
  refine lv_bipush (v := 100) hx hb d_Mo_tell_4 (by decide) ?_
  refine lv_icmp_ge (tgt := 79) hx hb d_Mo_tell_6 (by decide) (fun c6 => ?_) (fun c6 => ?_)
  · have c6 : 100 ≤ kf := (nI_leI (a := 100) (b := kf) (by omega) (by omega)).mp c6
    have he : gp_add (told, kf) sh pa t o b = (told, kf + 1) := by rw [gp_add, if_neg (by simp only; omega)]
    refine lv_aload_n hx hb d_Mo_tell_79 rfl (lv_at hl 0 rfl) ?_
    refine lv_dup hx hb d_Mo_tell_80 rfl ?_
    refine ga_get S hK hP 0 rfl f_Mo_101 rfl d_Mo_tell_81 ?_
    refine lv_iconst (v := 1) hx hb d_Mo_tell_84 (by decide) ?_
    refine lv_iadd hx hb d_Mo_tell_85 ?_
    refine ga_top (nI (kf + 1)) (nI_add kf 1) ?_
    refine ga_put (ws' := [(mo, .inr (6, [.int 0, .ref m1, .int (nI n), .int (nI pos), .int (tI wr), .int (nI ec), .ref m6, .ref m7, .ref m8, .ref m9, .ref mA, .int (nI w), .int (nI nw), .ref mB, .ref mC, .ref mD, .int (nI (kf + 1)), .ref mE, .ref mF])), (mE, .inl (cI, 500, .inl (nA told)))]) S hK hP hD hS 0 rfl p_Mo_101 rfl rfl (Nat.le_of_ble_eq_true rfl) rfl d_Mo_tell_86 (fun H locs hP hD hS => ?_)
    exact ga_wv () S hrt hlk (by rw [he]; exact hP) (by rw [he]; exact hD) hS trivial d_Mo_tell_89
  · have c6 : ¬ (100 ≤ kf) := fun q => c6 ((nI_leI (a := 100) (b := kf) (by omega) (by omega)).mpr q)
    have he : gp_add (told, kf) sh pa t o b = (va_up (va_up (va_up (va_up (va_up told (5 * kf) sh) (5 * kf + 1) pa) (5 * kf + 2) t) (5 * kf + 3) o) (5 * kf + 4) b, kf + 1) := gp_add_c (by simp only; omega)
    refine lv_aload_n hx hb d_Mo_tell_9 rfl (lv_at hl 0 rfl) ?_
    refine ga_get S hK hP 0 rfl f_Mo_38 rfl d_Mo_tell_10 ?_
    refine lv_iconst (v := 5) hx hb d_Mo_tell_13 (by decide) ?_
    refine lv_aload_n hx hb d_Mo_tell_14 rfl (lv_at hl 0 rfl) ?_
    refine ga_get S hK hP 0 rfl f_Mo_101 rfl d_Mo_tell_15 ?_
    refine lv_imul hx hb d_Mo_tell_18 ?_
    refine ga_top (nI (5 * kf)) (pk_mul 5 kf) ?_
    refine lv_iload_n hx hb d_Mo_tell_19 rfl (lv_at hl 1 rfl) ?_
    refine ga_ist (ws' := [(mo, .inr (6, [.int 0, .ref m1, .int (nI n), .int (nI pos), .int (tI wr), .int (nI ec), .ref m6, .ref m7, .ref m8, .ref m9, .ref mA, .int (nI w), .int (nI nw), .ref mB, .ref mC, .ref mD, .int (nI kf), .ref mE, .ref mF])), (mE, .inl (cI, 500, .inl (nA (va_up told (5 * kf) sh))))]) S hK hP hD hS 1 0 rfl rfl (5 * kf) sh (by omega) (by decide) rfl d_Mo_tell_20 (fun H locs hP hD hS => ?_)
    refine lv_aload_n hx hb d_Mo_tell_21 rfl (lv_at hl 0 rfl) ?_
    refine ga_get S hK hP 0 rfl f_Mo_38 rfl d_Mo_tell_22 ?_
    refine lv_iconst (v := 5) hx hb d_Mo_tell_25 (by decide) ?_
    refine lv_aload_n hx hb d_Mo_tell_26 rfl (lv_at hl 0 rfl) ?_
    refine ga_get S hK hP 0 rfl f_Mo_101 rfl d_Mo_tell_27 ?_
    refine lv_imul hx hb d_Mo_tell_30 ?_
    refine ga_top (nI (5 * kf)) (pk_mul 5 kf) ?_
    refine lv_iconst (v := 1) hx hb d_Mo_tell_31 (by decide) ?_
    refine lv_iadd hx hb d_Mo_tell_32 ?_
    refine ga_top (nI ((5 * kf) + 1)) (nI_add (5 * kf) 1) ?_
    refine lv_iload_n hx hb d_Mo_tell_33 rfl (lv_at hl 2 rfl) ?_
    refine ga_ist (ws' := [(mo, .inr (6, [.int 0, .ref m1, .int (nI n), .int (nI pos), .int (tI wr), .int (nI ec), .ref m6, .ref m7, .ref m8, .ref m9, .ref mA, .int (nI w), .int (nI nw), .ref mB, .ref mC, .ref mD, .int (nI kf), .ref mE, .ref mF])), (mE, .inl (cI, 500, .inl (nA (va_up (va_up told (5 * kf) sh) ((5 * kf) + 1) pa))))]) S hK hP hD hS 1 0 rfl rfl ((5 * kf) + 1) pa (by omega) (by decide) rfl d_Mo_tell_34 (fun H locs hP hD hS => ?_)
    refine lv_aload_n hx hb d_Mo_tell_35 rfl (lv_at hl 0 rfl) ?_
    refine ga_get S hK hP 0 rfl f_Mo_38 rfl d_Mo_tell_36 ?_
    refine lv_iconst (v := 5) hx hb d_Mo_tell_39 (by decide) ?_
    refine lv_aload_n hx hb d_Mo_tell_40 rfl (lv_at hl 0 rfl) ?_
    refine ga_get S hK hP 0 rfl f_Mo_101 rfl d_Mo_tell_41 ?_
    refine lv_imul hx hb d_Mo_tell_44 ?_
    refine ga_top (nI (5 * kf)) (pk_mul 5 kf) ?_
    refine lv_iconst (v := 2) hx hb d_Mo_tell_45 (by decide) ?_
    refine lv_iadd hx hb d_Mo_tell_46 ?_
    refine ga_top (nI ((5 * kf) + 2)) (nI_add (5 * kf) 2) ?_
    refine lv_iload_n hx hb d_Mo_tell_47 rfl (lv_at hl 3 rfl) ?_
    refine ga_ist (ws' := [(mo, .inr (6, [.int 0, .ref m1, .int (nI n), .int (nI pos), .int (tI wr), .int (nI ec), .ref m6, .ref m7, .ref m8, .ref m9, .ref mA, .int (nI w), .int (nI nw), .ref mB, .ref mC, .ref mD, .int (nI kf), .ref mE, .ref mF])), (mE, .inl (cI, 500, .inl (nA (va_up (va_up (va_up told (5 * kf) sh) ((5 * kf) + 1) pa) ((5 * kf) + 2) t))))]) S hK hP hD hS 1 0 rfl rfl ((5 * kf) + 2) t (by omega) (by decide) rfl d_Mo_tell_48 (fun H locs hP hD hS => ?_)
    refine lv_aload_n hx hb d_Mo_tell_49 rfl (lv_at hl 0 rfl) ?_
    refine ga_get S hK hP 0 rfl f_Mo_38 rfl d_Mo_tell_50 ?_
    refine lv_iconst (v := 5) hx hb d_Mo_tell_53 (by decide) ?_
    refine lv_aload_n hx hb d_Mo_tell_54 rfl (lv_at hl 0 rfl) ?_
    refine ga_get S hK hP 0 rfl f_Mo_101 rfl d_Mo_tell_55 ?_
    refine lv_imul hx hb d_Mo_tell_58 ?_
    refine ga_top (nI (5 * kf)) (pk_mul 5 kf) ?_
    refine lv_iconst (v := 3) hx hb d_Mo_tell_59 (by decide) ?_
    refine lv_iadd hx hb d_Mo_tell_60 ?_
    refine ga_top (nI ((5 * kf) + 3)) (nI_add (5 * kf) 3) ?_
    refine lv_iload hx hb d_Mo_tell_61 (lv_at hl 4 rfl) ?_
    refine ga_ist (ws' := [(mo, .inr (6, [.int 0, .ref m1, .int (nI n), .int (nI pos), .int (tI wr), .int (nI ec), .ref m6, .ref m7, .ref m8, .ref m9, .ref mA, .int (nI w), .int (nI nw), .ref mB, .ref mC, .ref mD, .int (nI kf), .ref mE, .ref mF])), (mE, .inl (cI, 500, .inl (nA (va_up (va_up (va_up (va_up told (5 * kf) sh) ((5 * kf) + 1) pa) ((5 * kf) + 2) t) ((5 * kf) + 3) o))))]) S hK hP hD hS 1 0 rfl rfl ((5 * kf) + 3) o (by omega) (by decide) rfl d_Mo_tell_63 (fun H locs hP hD hS => ?_)
    refine lv_aload_n hx hb d_Mo_tell_64 rfl (lv_at hl 0 rfl) ?_
    refine ga_get S hK hP 0 rfl f_Mo_38 rfl d_Mo_tell_65 ?_
    refine lv_iconst (v := 5) hx hb d_Mo_tell_68 (by decide) ?_
    refine lv_aload_n hx hb d_Mo_tell_69 rfl (lv_at hl 0 rfl) ?_
    refine ga_get S hK hP 0 rfl f_Mo_101 rfl d_Mo_tell_70 ?_
    refine lv_imul hx hb d_Mo_tell_73 ?_
    refine ga_top (nI (5 * kf)) (pk_mul 5 kf) ?_
    refine lv_iconst (v := 4) hx hb d_Mo_tell_74 (by decide) ?_
    refine lv_iadd hx hb d_Mo_tell_75 ?_
    refine ga_top (nI ((5 * kf) + 4)) (nI_add (5 * kf) 4) ?_
    refine lv_iload hx hb d_Mo_tell_76 (lv_at hl 5 rfl) ?_
    refine ga_ist (ws' := [(mo, .inr (6, [.int 0, .ref m1, .int (nI n), .int (nI pos), .int (tI wr), .int (nI ec), .ref m6, .ref m7, .ref m8, .ref m9, .ref mA, .int (nI w), .int (nI nw), .ref mB, .ref mC, .ref mD, .int (nI kf), .ref mE, .ref mF])), (mE, .inl (cI, 500, .inl (nA (va_up (va_up (va_up (va_up (va_up told (5 * kf) sh) ((5 * kf) + 1) pa) ((5 * kf) + 2) t) ((5 * kf) + 3) o) ((5 * kf) + 4) b))))]) S hK hP hD hS 1 0 rfl rfl ((5 * kf) + 4) b (by omega) (by decide) rfl d_Mo_tell_78 (fun H locs hP hD hS => ?_)
    refine lv_aload_n hx hb d_Mo_tell_79 rfl (lv_at hl 0 rfl) ?_
    refine lv_dup hx hb d_Mo_tell_80 rfl ?_
    refine ga_get S hK hP 0 rfl f_Mo_101 rfl d_Mo_tell_81 ?_
    refine lv_iconst (v := 1) hx hb d_Mo_tell_84 (by decide) ?_
    refine lv_iadd hx hb d_Mo_tell_85 ?_
    refine ga_top (nI (kf + 1)) (nI_add kf 1) ?_
    refine ga_put (ws' := [(mo, .inr (6, [.int 0, .ref m1, .int (nI n), .int (nI pos), .int (tI wr), .int (nI ec), .ref m6, .ref m7, .ref m8, .ref m9, .ref mA, .int (nI w), .int (nI nw), .ref mB, .ref mC, .ref mD, .int (nI (kf + 1)), .ref mE, .ref mF])), (mE, .inl (cI, 500, .inl (nA (va_up (va_up (va_up (va_up (va_up told (5 * kf) sh) ((5 * kf) + 1) pa) ((5 * kf) + 2) t) ((5 * kf) + 3) o) ((5 * kf) + 4) b))))]) S hK hP hD hS 0 rfl p_Mo_101 rfl rfl (Nat.le_of_ble_eq_true rfl) rfl d_Mo_tell_86 (fun H locs hP hD hS => ?_)
    exact ga_wv () S hrt hlk (by rw [he]; exact hP) (by rw [he]; exact hD) hS trivial d_Mo_tell_89
set_option maxHeartbeats 4000000 in
set_option maxRecDepth 100000 in
theorem gc_Mo_target (l : Launch) (D : va_G) (cI cZ cC cG : ClassId) (mo m1 m6 m7 m8 m9 mA mB mC mD mE mF n pos ec w nw kf : Nat) (wr : Option Nat) (cd r1 r2 r3 r4 : Nat → Nat) (code kind : Int32) (hec : ec ≤ 8) (hw : w ≤ 66) (hr : ∀ k, k < w → 1 ≤ r1 k ∧ r1 k ≤ 40 ∧ r2 k ≤ 9999 ∧ r3 k ≤ 9999 ∧ r4 k ≤ 9) (hcd : ∀ k, k < w → cd (4 * k) = r1 k ∧ cd (4 * k + 1) = r2 k ∧ cd (4 * k + 2) = r3 k ∧ cd (4 * k + 3) = r4 k) : ga_Mi l y_Mo_target b_Mo_target 5 (some .int) 6 0 0 D (ga_T cI cZ cC cG) [.ref mo, .int code, .int kind] [(mo, .inr (6, [.int 0, .ref m1, .int (nI n), .int (nI pos), .int (tI wr), .int (nI ec), .ref m6, .ref m7, .ref m8, .ref m9, .ref mA, .int (nI w), .int (nI nw), .ref mB, .ref mC, .ref mD, .int (nI kf), .ref mE, .ref mF])), (m9, .inl (cI, 600, .inl (nA cd)))] (fun (_ : Unit) => [(mo, .inr (6, [.int 0, .ref m1, .int (nI n), .int (nI pos), .int (tI wr), .int (nI ec), .ref m6, .ref m7, .ref m8, .ref m9, .ref mA, .int (nI w), .int (nI nw), .ref mB, .ref mC, .ref mD, .int (nI kf), .ref mE, .ref mF])), (m9, .inl (cI, 600, .inl (nA cd)))]) (fun r _ => (¬ ((0 ≤ code ∧ code ≤ 9999) ∧ (0 ≤ kind ∧ kind ≤ 9)) ∧ r = -102) ∨ (((0 ≤ code ∧ code ≤ 9999) ∧ (0 ≤ kind ∧ kind ≤ 9)) ∧ ec = 0 ∧ r = -103) ∨ (((0 ≤ code ∧ code ≤ 9999) ∧ (0 ≤ kind ∧ kind ≤ 9)) ∧ ec ≠ 0 ∧ ∃ q, r = nI q ∧ gp_isL r1 r2 r3 r4 w code.toNatClampNeg kind.toNatClampNeg q)) := by
  refine ga_enI (by decide) (Nat.le_of_ble_eq_true rfl) ?_
  intro p e s m below meth c ls A S hrt hlk hK hP hD hA hl
  have hS : va_S A s.heap s.heap [] := va_S.rf
  obtain ⟨hx, hb, hml, hown, hts⟩ := id S
  have hl : lv_has ls 5 [(0, .ref mo), (1, .int code), (2, .int kind)] := hl
  refine lv_aload_n hx hb d_Mo_target_0 rfl (lv_at hl 0 rfl) ?_
  refine lv_iconst (v := 0) hx hb d_Mo_target_1 (by decide) ?_
  refine ga_put (ws' := [(mo, .inr (6, [.int 0, .ref m1, .int (nI n), .int (nI pos), .int (tI wr), .int (nI ec), .ref m6, .ref m7, .ref m8, .ref m9, .ref mA, .int (nI w), .int (nI nw), .ref mB, .ref mC, .ref mD, .int (nI kf), .ref mE, .ref mF])), (m9, .inl (cI, 600, .inl (nA cd)))]) S hK hP hD hS 0 rfl p_Mo_48 rfl rfl (Nat.le_of_ble_eq_true rfl) rfl d_Mo_target_2 (fun H locs hP hD hS => ?_)
  refine lv_iload_n hx hb d_Mo_target_5 rfl (lv_at hl 1 rfl) ?_
  refine lv_iconst (v := 0) hx hb d_Mo_target_6 (by decide) ?_
  refine lv_sipush (v := 9999) hx hb d_Mo_target_7 (by decide) ?_
  refine ga_cs (As := [.int code, .int 0, .int 9999]) (rest := []) S hK hP s_Mo_97 (gc_Mo_isIn l D cI cZ cC cG code 0 9999) [] rfl rfl hl.1 rfl (Nat.le_of_ble_eq_true rfl) ⟨Nat.le_of_ble_eq_true rfl, Nat.le_of_ble_eq_true rfl⟩ ⟨Nat.le_of_ble_eq_true rfl, Nat.le_of_ble_eq_true rfl⟩ d_Mo_target_10 (fun r hp10 => ?_)
  rcases hp10 with ⟨rfl, hp10⟩ | ⟨rfl, hp10⟩
  · obtain ⟨cN, hcN, rfl⟩ := nI_of2 (M := 9999) (n := 9999) rfl (fun q => absurd (Int32.lt_of_le_of_lt hp10.1 q) (by decide)) hp10.2
    refine lv_if_eq (tgt := 26) hx hb d_Mo_target_13 (by decide) (fun c13 => ?_) (fun c13 => ?_)
    · exact absurd c13 (by decide)
    · refine lv_iload_n hx hb d_Mo_target_16 rfl (lv_at hl 2 rfl) ?_
      refine lv_iconst (v := 0) hx hb d_Mo_target_17 (by decide) ?_
      refine lv_bipush (v := 9) hx hb d_Mo_target_18 (by decide) ?_
      refine ga_cs (As := [.int kind, .int 0, .int 9]) (rest := []) S hK hP s_Mo_97 (gc_Mo_isIn l D cI cZ cC cG kind 0 9) [] rfl rfl hl.1 rfl (Nat.le_of_ble_eq_true rfl) ⟨Nat.le_of_ble_eq_true rfl, Nat.le_of_ble_eq_true rfl⟩ ⟨Nat.le_of_ble_eq_true rfl, Nat.le_of_ble_eq_true rfl⟩ d_Mo_target_20 (fun r hp20 => ?_)
      rcases hp20 with ⟨rfl, hp20⟩ | ⟨rfl, hp20⟩
      · obtain ⟨kN, hkN, rfl⟩ := nI_of2 (M := 9) (n := 9) rfl (fun q => absurd (Int32.lt_of_le_of_lt hp20.1 q) (by decide)) hp20.2
        refine lv_if_ne (tgt := 29) hx hb d_Mo_target_23 (by decide) (fun c23 => ?_) (fun c23 => ?_)
        · refine lv_aload_n hx hb d_Mo_target_29 rfl (lv_at hl 0 rfl) ?_
          refine ga_get S hK hP 0 rfl f_Mo_91 rfl d_Mo_target_30 ?_
          refine lv_if_ne (tgt := 39) hx hb d_Mo_target_33 (by decide) (fun c33 => ?_) (fun c33 => ?_)
          · have c33 : ¬ (ec = 0) := fun q => c33 ((nI_eq (a := ec) (b := 0) (by omega) (by omega)).mpr q)
            refine lv_iconst (v := 1) hx hb d_Mo_target_39 (by decide) ?_
            refine lv_istore_n (lv' := [(3, .int 1), (0, .ref mo), (1, .int (nI cN)), (2, .int (nI kN))]) hx hb d_Mo_target_40 rfl hl (by decide) rfl (fun ls hl => ?_)
            refine ga_loop (α := Nat) (fun t => 41 - t) (fun t ls H locs => lv_has ls 5 [(3, .int (nI t)), (0, .ref mo), (1, .int (nI cN)), (2, .int (nI kN))] ∧ va_P D vwCl [(mo, .inr (6, [.int 0, .ref m1, .int (nI n), .int (nI pos), .int (tI wr), .int (nI ec), .ref m6, .ref m7, .ref m8, .ref m9, .ref mA, .int (nI w), .int (nI nw), .ref mB, .ref mC, .ref mD, .int (nI kf), .ref mE, .ref mF])), (m9, .inl (cI, 600, .inl (nA cd)))] H ∧ va_D A [(mo, .inr (6, [.int 0, .ref m1, .int (nI n), .int (nI pos), .int (tI wr), .int (nI ec), .ref m6, .ref m7, .ref m8, .ref m9, .ref mA, .int (nI w), .int (nI nw), .ref mB, .ref mC, .ref mD, .int (nI kf), .ref mE, .ref mF])), (m9, .inl (cI, 600, .inl (nA cd)))] ∧ va_S A s.heap H locs ∧ 1 ≤ t ∧ t ≤ 41 ∧ ∀ k, k < w → r1 k < t → ¬ gp_ft r2 r3 r4 cN kN k) ?_ 1 ⟨lv_sub hl [0, 1, 2, 3] rfl, hP, hD, hS, ⟨by decide, by decide, fun k hk q => absurd q (by have := (hr k hk).1; omega)⟩⟩
            intro x ls H locs hI ih1
            obtain ⟨t, rfl⟩ : ∃ z, z = x := ⟨_, rfl⟩
            obtain ⟨hl, hP, hD, hS, ⟨h1, h2, h3⟩⟩ := hI
            refine lv_iload_n hx hb d_Mo_target_41 rfl (lv_at hl 0 rfl) ?_
            refine lv_bipush (v := 41) hx hb d_Mo_target_42 (by decide) ?_
            refine lv_icmp_ge (tgt := 130) hx hb d_Mo_target_44 (by decide) (fun c44 => ?_) (fun c44 => ?_)
            · have c44 : 41 ≤ t := (nI_leI (a := 41) (b := t) (by omega) (by omega)).mp c44
              refine lv_iconst (v := 0) hx hb d_Mo_target_130 (by decide) ?_
              exact ga_wi () S hrt hlk hP hD hS (Or.inr (Or.inr ⟨⟨hp10, hp20⟩, c33, 0, rfl, by rw [nI_clamp (by omega), nI_clamp (by omega)]; exact Or.inl ⟨rfl, fun j hj => h3 j hj (by have := hr j hj; omega)⟩⟩)) d_Mo_target_131
            · have c44 : ¬ (41 ≤ t) := fun q => c44 ((nI_leI (a := 41) (b := t) (by omega) (by omega)).mpr q)
              refine lv_iconst (v := 0) hx hb d_Mo_target_47 (by decide) ?_
              refine lv_istore (lv' := [(4, .int 0), (3, .int (nI t)), (0, .ref mo), (1, .int (nI cN)), (2, .int (nI kN))]) hx hb d_Mo_target_48 hl (by decide) rfl (fun ls hl => ?_)
              refine ga_loop (α := Nat) (fun k => w - k) (fun k ls H locs => lv_has ls 5 [(4, .int (nI k)), (3, .int (nI t)), (0, .ref mo), (1, .int (nI cN)), (2, .int (nI kN))] ∧ va_P D vwCl [(mo, .inr (6, [.int 0, .ref m1, .int (nI n), .int (nI pos), .int (tI wr), .int (nI ec), .ref m6, .ref m7, .ref m8, .ref m9, .ref mA, .int (nI w), .int (nI nw), .ref mB, .ref mC, .ref mD, .int (nI kf), .ref mE, .ref mF])), (m9, .inl (cI, 600, .inl (nA cd)))] H ∧ va_D A [(mo, .inr (6, [.int 0, .ref m1, .int (nI n), .int (nI pos), .int (tI wr), .int (nI ec), .ref m6, .ref m7, .ref m8, .ref m9, .ref mA, .int (nI w), .int (nI nw), .ref mB, .ref mC, .ref mD, .int (nI kf), .ref mE, .ref mF])), (m9, .inl (cI, 600, .inl (nA cd)))] ∧ va_S A s.heap H locs ∧ k ≤ w ∧ ∀ j, j < k → r1 j = t → ¬ gp_ft r2 r3 r4 cN kN j) ?_ 0 ⟨lv_sub hl [0, 1, 2, 3, 4] rfl, hP, hD, hS, ⟨Nat.zero_le _, fun j hj => absurd hj (Nat.not_lt_zero _)⟩⟩
              intro x ls H locs hI ih2
              obtain ⟨k, rfl⟩ : ∃ z, z = x := ⟨_, rfl⟩
              obtain ⟨hl, hP, hD, hS, ⟨g1, g2⟩⟩ := hI
              refine lv_iload hx hb d_Mo_target_50 (lv_at hl 0 rfl) ?_
              refine lv_aload_n hx hb d_Mo_target_52 rfl (lv_at hl 2 rfl) ?_
              refine ga_get S hK hP 0 rfl f_Mo_94 rfl d_Mo_target_53 ?_
              refine lv_icmp_ge (tgt := 124) hx hb d_Mo_target_56 (by decide) (fun c56 => ?_) (fun c56 => ?_)
              · have c56 : w ≤ k := (nI_leI (a := w) (b := k) (by omega) (by omega)).mp c56
                refine lv_iinc (v := nI (t + 1)) (lv' := [(3, .int (nI (t + 1))), (4, .int (nI k)), (0, .ref mo), (1, .int (nI cN)), (2, .int (nI kN))]) hx hb d_Mo_target_124 hl (k := 1) rfl (ga_inc t) (by decide) rfl (fun ls hl => ?_)
                refine lv_goto (tgt := 41) hx hb d_Mo_target_127 (by decide) ?_
                exact ih1 (t + 1) _ _ _ (by show (41 - (t + 1)) < (41 - t); omega) ⟨lv_sub hl [0, 2, 3, 4] rfl, hP, hD, hS, ⟨by omega, by omega, fun j hj q => by rcases (show r1 j < t ∨ r1 j = t by omega) with z | z; exact h3 j hj z; exact g2 j (by omega) z⟩⟩
              · have c56 : ¬ (w ≤ k) := fun q => c56 ((nI_leI (a := w) (b := k) (by omega) (by omega)).mpr q)
                obtain ⟨e1, e2, e3, e4⟩ := hcd k (by omega)
                have hrk := hr k (by omega)
                refine lv_aload_n hx hb d_Mo_target_59 rfl (lv_at hl 2 rfl) ?_
                refine ga_get S hK hP 0 rfl f_Mo_23 rfl d_Mo_target_60 ?_
                refine lv_iconst (v := 4) hx hb d_Mo_target_63 (by decide) ?_
                refine lv_iload hx hb d_Mo_target_64 (lv_at hl 0 rfl) ?_
                refine lv_imul hx hb d_Mo_target_66 ?_
                refine ga_top (nI (4 * k)) (pk_mul 4 k) ?_
                refine ga_ild S hK hP 1 0 rfl rfl (4 * k) (by omega) (by decide) d_Mo_target_67 ?_
                refine lv_iload_n hx hb d_Mo_target_68 rfl (lv_at hl 1 rfl) ?_
                refine lv_icmp_ne (tgt := 118) hx hb d_Mo_target_69 (by decide) (fun c69 => ?_) (fun c69 => ?_)
                · have c69 : ¬ ((cd (4 * k)) = t) := fun q => c69 ((nI_eq (a := (cd (4 * k))) (b := t) (by omega) (by omega)).mpr q)
                  refine lv_iinc (v := nI (k + 1)) (lv' := [(4, .int (nI (k + 1))), (3, .int (nI t)), (0, .ref mo), (1, .int (nI cN)), (2, .int (nI kN))]) hx hb d_Mo_target_118 hl (k := 0) rfl (ga_inc k) (by decide) rfl (fun ls hl => ?_)
                  refine lv_goto (tgt := 50) hx hb d_Mo_target_121 (by decide) ?_
                  exact ih2 (k + 1) _ _ _ (by show (w - (k + 1)) < (w - k); omega) ⟨lv_sub hl [0, 1, 2, 3, 4] rfl, hP, hD, hS, ⟨by omega, lt_s g2 (fun q f => by obtain ⟨f1, f2, f3⟩ := f; first | exact c69 (by omega) | exact c84 (by omega) | exact hp110 ⟨by omega, by omega⟩)⟩⟩
                · have c69 : (cd (4 * k)) = t := (nI_eq (a := (cd (4 * k))) (b := t) (by omega) (by omega)).mp c69
                  refine lv_aload_n hx hb d_Mo_target_72 rfl (lv_at hl 2 rfl) ?_
                  refine ga_get S hK hP 0 rfl f_Mo_23 rfl d_Mo_target_73 ?_
                  refine lv_iconst (v := 4) hx hb d_Mo_target_76 (by decide) ?_
                  refine lv_iload hx hb d_Mo_target_77 (lv_at hl 0 rfl) ?_
                  refine lv_imul hx hb d_Mo_target_79 ?_
                  refine ga_top (nI (4 * k)) (pk_mul 4 k) ?_
                  refine lv_iconst (v := 3) hx hb d_Mo_target_80 (by decide) ?_
                  refine lv_iadd hx hb d_Mo_target_81 ?_
                  refine ga_top (nI ((4 * k) + 3)) (nI_add (4 * k) 3) ?_
                  refine ga_ild S hK hP 1 0 rfl rfl ((4 * k) + 3) (by omega) (by decide) d_Mo_target_82 ?_
                  refine lv_iload_n hx hb d_Mo_target_83 rfl (lv_at hl 4 rfl) ?_
                  refine lv_icmp_ne (tgt := 118) hx hb d_Mo_target_84 (by decide) (fun c84 => ?_) (fun c84 => ?_)
                  · have c84 : ¬ ((cd ((4 * k) + 3)) = kN) := fun q => c84 ((nI_eq (a := (cd ((4 * k) + 3))) (b := kN) (by omega) (by omega)).mpr q)
                    refine lv_iinc (v := nI (k + 1)) (lv' := [(4, .int (nI (k + 1))), (3, .int (nI t)), (0, .ref mo), (1, .int (nI cN)), (2, .int (nI kN))]) hx hb d_Mo_target_118 hl (k := 0) rfl (ga_inc k) (by decide) rfl (fun ls hl => ?_)
                    refine lv_goto (tgt := 50) hx hb d_Mo_target_121 (by decide) ?_
                    exact ih2 (k + 1) _ _ _ (by show (w - (k + 1)) < (w - k); omega) ⟨lv_sub hl [0, 1, 2, 3, 4] rfl, hP, hD, hS, ⟨by omega, lt_s g2 (fun q f => by obtain ⟨f1, f2, f3⟩ := f; first | exact c69 (by omega) | exact c84 (by omega) | exact hp110 ⟨by omega, by omega⟩)⟩⟩
                  · have c84 : (cd ((4 * k) + 3)) = kN := (nI_eq (a := (cd ((4 * k) + 3))) (b := kN) (by omega) (by omega)).mp c84
                    refine lv_iload_n hx hb d_Mo_target_87 rfl (lv_at hl 3 rfl) ?_
                    refine lv_aload_n hx hb d_Mo_target_88 rfl (lv_at hl 2 rfl) ?_
                    refine ga_get S hK hP 0 rfl f_Mo_23 rfl d_Mo_target_89 ?_
                    refine lv_iconst (v := 4) hx hb d_Mo_target_92 (by decide) ?_
                    refine lv_iload hx hb d_Mo_target_93 (lv_at hl 0 rfl) ?_
                    refine lv_imul hx hb d_Mo_target_95 ?_
                    refine ga_top (nI (4 * k)) (pk_mul 4 k) ?_
                    refine lv_iconst (v := 1) hx hb d_Mo_target_96 (by decide) ?_
                    refine lv_iadd hx hb d_Mo_target_97 ?_
                    refine ga_top (nI ((4 * k) + 1)) (nI_add (4 * k) 1) ?_
                    refine ga_ild S hK hP 1 0 rfl rfl ((4 * k) + 1) (by omega) (by decide) d_Mo_target_98 ?_
                    refine lv_aload_n hx hb d_Mo_target_99 rfl (lv_at hl 2 rfl) ?_
                    refine ga_get S hK hP 0 rfl f_Mo_23 rfl d_Mo_target_100 ?_
                    refine lv_iconst (v := 4) hx hb d_Mo_target_103 (by decide) ?_
                    refine lv_iload hx hb d_Mo_target_104 (lv_at hl 0 rfl) ?_
                    refine lv_imul hx hb d_Mo_target_106 ?_
                    refine ga_top (nI (4 * k)) (pk_mul 4 k) ?_
                    refine lv_iconst (v := 2) hx hb d_Mo_target_107 (by decide) ?_
                    refine lv_iadd hx hb d_Mo_target_108 ?_
                    refine ga_top (nI ((4 * k) + 2)) (nI_add (4 * k) 2) ?_
                    refine ga_ild S hK hP 1 0 rfl rfl ((4 * k) + 2) (by omega) (by decide) d_Mo_target_109 ?_
                    refine ga_cs (As := [.int (nI cN), .int (nI (cd ((4 * k) + 1))), .int (nI (cd ((4 * k) + 2)))]) (rest := []) S hK hP s_Mo_97 (gc_Mo_isIn l D cI cZ cC cG (nI cN) (nI (cd ((4 * k) + 1))) (nI (cd ((4 * k) + 2)))) [] rfl rfl hl.1 rfl (Nat.le_of_ble_eq_true rfl) ⟨Nat.le_of_ble_eq_true rfl, Nat.le_of_ble_eq_true rfl⟩ ⟨Nat.le_of_ble_eq_true rfl, Nat.le_of_ble_eq_true rfl⟩ d_Mo_target_110 (fun r hp110 => ?_)
                    rcases hp110 with ⟨rfl, hp110⟩ | ⟨rfl, hp110⟩
                    · have hp110 : (cd ((4 * k) + 1)) ≤ cN ∧ cN ≤ (cd ((4 * k) + 2)) := ⟨(nI_leI (a := (cd ((4 * k) + 1))) (b := cN) (by omega) (by omega)).mp hp110.1, (nI_leI (a := cN) (b := (cd ((4 * k) + 2))) (by omega) (by omega)).mp hp110.2⟩
                      refine lv_if_eq (tgt := 118) hx hb d_Mo_target_113 (by decide) (fun c113 => ?_) (fun c113 => ?_)
                      · exact absurd c113 (by decide)
                      · refine lv_iload_n hx hb d_Mo_target_116 rfl (lv_at hl 1 rfl) ?_
                        exact ga_wi () S hrt hlk hP hD hS (Or.inr (Or.inr ⟨⟨hp10, hp20⟩, c33, t, rfl, by rw [nI_clamp (by omega), nI_clamp (by omega)]; exact Or.inr ⟨k, by omega, ⟨by omega, by omega, by omega⟩, by omega, fun j hj f => Nat.le_of_not_lt (fun q => h3 j hj (by omega) f)⟩⟩)) d_Mo_target_117
                    · have hp110 : ¬ ((cd ((4 * k) + 1)) ≤ cN ∧ cN ≤ (cd ((4 * k) + 2))) := fun q => hp110 ⟨(nI_leI (a := (cd ((4 * k) + 1))) (b := cN) (by omega) (by omega)).mpr q.1, (nI_leI (a := cN) (b := (cd ((4 * k) + 2))) (by omega) (by omega)).mpr q.2⟩
                      refine lv_if_eq (tgt := 118) hx hb d_Mo_target_113 (by decide) (fun c113 => ?_) (fun c113 => ?_)
                      · refine lv_iinc (v := nI (k + 1)) (lv' := [(4, .int (nI (k + 1))), (3, .int (nI t)), (0, .ref mo), (1, .int (nI cN)), (2, .int (nI kN))]) hx hb d_Mo_target_118 hl (k := 0) rfl (ga_inc k) (by decide) rfl (fun ls hl => ?_)
                        refine lv_goto (tgt := 50) hx hb d_Mo_target_121 (by decide) ?_
                        exact ih2 (k + 1) _ _ _ (by show (w - (k + 1)) < (w - k); omega) ⟨lv_sub hl [0, 1, 2, 3, 4] rfl, hP, hD, hS, ⟨by omega, lt_s g2 (fun q f => by obtain ⟨f1, f2, f3⟩ := f; first | exact c69 (by omega) | exact c84 (by omega) | exact hp110 ⟨by omega, by omega⟩)⟩⟩
                      · exact absurd c113 (by decide)
          · have c33 : ec = 0 := (nI_eq (a := ec) (b := 0) (by omega) (by omega)).mp c33
            refine lv_bipush (v := (-103)) hx hb d_Mo_target_36 (by decide) ?_
            exact ga_wi () S hrt hlk hP hD hS (Or.inr (Or.inl ⟨⟨hp10, hp20⟩, c33, rfl⟩)) d_Mo_target_38
        · exact absurd c23 (by decide)
      · refine lv_if_ne (tgt := 29) hx hb d_Mo_target_23 (by decide) (fun c23 => ?_) (fun c23 => ?_)
        · exact absurd c23 (by decide)
        · refine lv_bipush (v := (-102)) hx hb d_Mo_target_26 (by decide) ?_
          exact ga_wi () S hrt hlk hP hD hS (Or.inl ⟨(fun q => by first | exact hp10 q.1 | exact hp20 q.2), rfl⟩) d_Mo_target_28
  · refine lv_if_eq (tgt := 26) hx hb d_Mo_target_13 (by decide) (fun c13 => ?_) (fun c13 => ?_)
    · refine lv_bipush (v := (-102)) hx hb d_Mo_target_26 (by decide) ?_
      exact ga_wi () S hrt hlk hP hD hS (Or.inl ⟨(fun q => by first | exact hp10 q.1 | exact hp20 q.2), rfl⟩) d_Mo_target_28
    · exact absurd c13 (by decide)
set_option maxHeartbeats 4000000 in
set_option maxRecDepth 100000 in
theorem gc_Mo_bin (l : Launch) (D : va_G) (cI cZ cC cG : ClassId) (mo m1 m6 m7 m8 m9 mA mB mC mD mE mF n pos ec w nw kf : Nat) (wr : Option Nat) (mb bn : Nat → Nat) (he : Nat → Bool) (t pa sh : Int32) (hec : ec ≤ 8) (h8 : ∀ t p s, 1 ≤ t → t ≤ 40 → p < 4 → s < 3 → mb (gm_pl 8 t p s) = bn (gp_sl t p s)) (hbn : ∀ j, bn j ≤ 60) : ga_Mi l y_Mo_bin b_Mo_bin 4 (some .int) 6 0 0 D (ga_T cI cZ cC cG) [.ref mo, .int t, .int pa, .int sh] [(mo, .inr (6, [.int 0, .ref m1, .int (nI n), .int (nI pos), .int (tI wr), .int (nI ec), .ref m6, .ref m7, .ref m8, .ref m9, .ref mA, .int (nI w), .int (nI nw), .ref mB, .ref mC, .ref mD, .int (nI kf), .ref mE, .ref mF])), (m6, .inl (cI, 4920, .inl (nA mb))), (mD, .inl (cZ, 41, .inl (zA he)))] (fun (_ : Unit) => [(mo, .inr (6, [.int 0, .ref m1, .int (nI n), .int (nI pos), .int (tI wr), .int (nI ec), .ref m6, .ref m7, .ref m8, .ref m9, .ref mA, .int (nI w), .int (nI nw), .ref mB, .ref mC, .ref mD, .int (nI kf), .ref mE, .ref mF])), (m6, .inl (cI, 4920, .inl (nA mb))), (mD, .inl (cZ, 41, .inl (zA he)))]) (fun r _ => (¬ (1 ≤ t ∧ t ≤ 40) ∧ r = -101) ∨ ((1 ≤ t ∧ t ≤ 40) ∧ ¬ ((0 ≤ pa ∧ pa ≤ 3) ∧ (0 ≤ sh ∧ sh ≤ 2)) ∧ r = -102) ∨ ((1 ≤ t ∧ t ≤ 40) ∧ ((0 ≤ pa ∧ pa ≤ 3) ∧ (0 ≤ sh ∧ sh ≤ 2)) ∧ ec = 0 ∧ r = -103) ∨ ((1 ≤ t ∧ t ≤ 40) ∧ ((0 ≤ pa ∧ pa ≤ 3) ∧ (0 ≤ sh ∧ sh ≤ 2)) ∧ ec ≠ 0 ∧ r = nI (if he t.toNatClampNeg = true then 0 else bn (gp_sl t.toNatClampNeg pa.toNatClampNeg sh.toNatClampNeg)))) := by
  refine ga_enI (by decide) (Nat.le_of_ble_eq_true rfl) ?_
  intro p e s m below meth c ls A S hrt hlk hK hP hD hA hl
  have hS : va_S A s.heap s.heap [] := va_S.rf
  obtain ⟨hx, hb, hml, hown, hts⟩ := id S
  have hl : lv_has ls 4 [(0, .ref mo), (1, .int t), (2, .int pa), (3, .int sh)] := hl
  refine lv_aload_n hx hb d_Mo_bin_0 rfl (lv_at hl 0 rfl) ?_
  refine lv_iconst (v := 0) hx hb d_Mo_bin_1 (by decide) ?_
  refine ga_put (ws' := [(mo, .inr (6, [.int 0, .ref m1, .int (nI n), .int (nI pos), .int (tI wr), .int (nI ec), .ref m6, .ref m7, .ref m8, .ref m9, .ref mA, .int (nI w), .int (nI nw), .ref mB, .ref mC, .ref mD, .int (nI kf), .ref mE, .ref mF])), (m6, .inl (cI, 4920, .inl (nA mb))), (mD, .inl (cZ, 41, .inl (zA he)))]) S hK hP hD hS 0 rfl p_Mo_48 rfl rfl (Nat.le_of_ble_eq_true rfl) rfl d_Mo_bin_2 (fun H locs hP hD hS => ?_)
  refine lv_iload_n hx hb d_Mo_bin_5 rfl (lv_at hl 1 rfl) ?_
  refine lv_iconst (v := 1) hx hb d_Mo_bin_6 (by decide) ?_
  refine lv_bipush (v := 40) hx hb d_Mo_bin_7 (by decide) ?_
  refine ga_cs (As := [.int t, .int 1, .int 40]) (rest := []) S hK hP s_Mo_97 (gc_Mo_isIn l D cI cZ cC cG t 1 40) [] rfl rfl hl.1 rfl (Nat.le_of_ble_eq_true rfl) ⟨Nat.le_of_ble_eq_true rfl, Nat.le_of_ble_eq_true rfl⟩ ⟨Nat.le_of_ble_eq_true rfl, Nat.le_of_ble_eq_true rfl⟩ d_Mo_bin_9 (fun r hp9 => ?_)
  rcases hp9 with ⟨rfl, hp9⟩ | ⟨rfl, hp9⟩
  · obtain ⟨tN, htN, rfl⟩ := nI_of2 (M := 40) (n := 40) rfl (fun q => absurd (Int32.lt_of_le_of_lt hp9.1 q) (by decide)) hp9.2
    have ht1 : 1 ≤ tN := (nI_leI (a := 1) (b := tN) (by omega) (by omega)).mp hp9.1
    refine lv_if_ne (tgt := 18) hx hb d_Mo_bin_12 (by decide) (fun c12 => ?_) (fun c12 => ?_)
    · refine lv_iload_n hx hb d_Mo_bin_18 rfl (lv_at hl 2 rfl) ?_
      refine lv_iconst (v := 0) hx hb d_Mo_bin_19 (by decide) ?_
      refine lv_iconst (v := 3) hx hb d_Mo_bin_20 (by decide) ?_
      refine ga_cs (As := [.int pa, .int 0, .int 3]) (rest := []) S hK hP s_Mo_97 (gc_Mo_isIn l D cI cZ cC cG pa 0 3) [] rfl rfl hl.1 rfl (Nat.le_of_ble_eq_true rfl) ⟨Nat.le_of_ble_eq_true rfl, Nat.le_of_ble_eq_true rfl⟩ ⟨Nat.le_of_ble_eq_true rfl, Nat.le_of_ble_eq_true rfl⟩ d_Mo_bin_21 (fun r hp21 => ?_)
      rcases hp21 with ⟨rfl, hp21⟩ | ⟨rfl, hp21⟩
      · obtain ⟨pN, hpN, rfl⟩ := nI_of2 (M := 3) (n := 3) rfl (fun q => absurd (Int32.lt_of_le_of_lt hp21.1 q) (by decide)) hp21.2
        refine lv_if_eq (tgt := 36) hx hb d_Mo_bin_24 (by decide) (fun c24 => ?_) (fun c24 => ?_)
        · exact absurd c24 (by decide)
        · refine lv_iload_n hx hb d_Mo_bin_27 rfl (lv_at hl 3 rfl) ?_
          refine lv_iconst (v := 0) hx hb d_Mo_bin_28 (by decide) ?_
          refine lv_iconst (v := 2) hx hb d_Mo_bin_29 (by decide) ?_
          refine ga_cs (As := [.int sh, .int 0, .int 2]) (rest := []) S hK hP s_Mo_97 (gc_Mo_isIn l D cI cZ cC cG sh 0 2) [] rfl rfl hl.1 rfl (Nat.le_of_ble_eq_true rfl) ⟨Nat.le_of_ble_eq_true rfl, Nat.le_of_ble_eq_true rfl⟩ ⟨Nat.le_of_ble_eq_true rfl, Nat.le_of_ble_eq_true rfl⟩ d_Mo_bin_30 (fun r hp30 => ?_)
          rcases hp30 with ⟨rfl, hp30⟩ | ⟨rfl, hp30⟩
          · obtain ⟨sN, hsN, rfl⟩ := nI_of2 (M := 2) (n := 2) rfl (fun q => absurd (Int32.lt_of_le_of_lt hp30.1 q) (by decide)) hp30.2
            refine lv_if_ne (tgt := 39) hx hb d_Mo_bin_33 (by decide) (fun c33 => ?_) (fun c33 => ?_)
            · refine lv_aload_n hx hb d_Mo_bin_39 rfl (lv_at hl 0 rfl) ?_
              refine ga_get S hK hP 0 rfl f_Mo_91 rfl d_Mo_bin_40 ?_
              refine lv_if_ne (tgt := 51) hx hb d_Mo_bin_43 (by decide) (fun c43 => ?_) (fun c43 => ?_)
              · have c43 : ¬ (ec = 0) := fun q => c43 ((nI_eq (a := ec) (b := 0) (by omega) (by omega)).mpr q)
                refine lv_aload_n hx hb d_Mo_bin_51 rfl (lv_at hl 0 rfl) ?_
                refine ga_get S hK hP 0 rfl f_Mo_35 rfl d_Mo_bin_52 ?_
                refine lv_iload_n hx hb d_Mo_bin_55 rfl (lv_at hl 1 rfl) ?_
                refine ga_zld S hK hP 2 1 rfl rfl tN (by omega) (by decide) d_Mo_bin_56 ?_
                refine lv_if_eq (tgt := 64) hx hb d_Mo_bin_57 (by decide) (fun c57 => ?_) (fun c57 => ?_)
                · have c57 : he tN = false := bI_0 c57
                  refine lv_aload_n hx hb d_Mo_bin_64 rfl (lv_at hl 0 rfl) ?_
                  refine ga_get S hK hP 0 rfl f_Mo_13 rfl d_Mo_bin_65 ?_
                  refine lv_bipush (v := 8) hx hb d_Mo_bin_68 (by decide) ?_
                  refine lv_iload_n hx hb d_Mo_bin_70 rfl (lv_at hl 1 rfl) ?_
                  refine lv_iload_n hx hb d_Mo_bin_71 rfl (lv_at hl 2 rfl) ?_
                  refine lv_iload_n hx hb d_Mo_bin_72 rfl (lv_at hl 3 rfl) ?_
                  refine ga_cs (As := [.int 8, .int (nI tN), .int (nI pN), .int (nI sN)]) (rest := [.ref m6]) S hK hP s_Mo_75 (gc_Mo_place l D cI cZ cC cG 8 tN pN sN) [] rfl rfl hl.1 rfl (Nat.le_of_ble_eq_true rfl) ⟨Nat.le_of_ble_eq_true rfl, Nat.le_of_ble_eq_true rfl⟩ ⟨Nat.le_of_ble_eq_true rfl, Nat.le_of_ble_eq_true rfl⟩ d_Mo_bin_73 (fun r hp73 => ?_)
                  subst hp73
                  refine ga_ild S hK hP 1 0 rfl rfl (gm_pl 8 tN pN sN) (gm_pl_lt (by decide) (by omega) (by omega) (by omega)) (by decide) d_Mo_bin_76 ?_
                  exact ga_wi () S hrt hlk hP hD hS (Or.inr (Or.inr (Or.inr ⟨hp9, ⟨hp21, hp30⟩, c43, by rw [nI_clamp (by omega), nI_clamp (by omega), nI_clamp (by omega), c57]; first | rfl | (rw [if_neg (by decide), h8 tN pN sN (by omega) (by omega) (by omega) (by omega)])⟩))) d_Mo_bin_77
                · have c57 : he tN = true := bI_1 c57
                  refine lv_iconst (v := 0) hx hb d_Mo_bin_60 (by decide) ?_
                  refine lv_goto (tgt := 77) hx hb d_Mo_bin_61 (by decide) ?_
                  exact ga_wi () S hrt hlk hP hD hS (Or.inr (Or.inr (Or.inr ⟨hp9, ⟨hp21, hp30⟩, c43, by rw [nI_clamp (by omega), nI_clamp (by omega), nI_clamp (by omega), c57]; first | rfl | (rw [if_neg (by decide), h8 tN pN sN (by omega) (by omega) (by omega) (by omega)])⟩))) d_Mo_bin_77
              · have c43 : ec = 0 := (nI_eq (a := ec) (b := 0) (by omega) (by omega)).mp c43
                refine lv_bipush (v := (-103)) hx hb d_Mo_bin_46 (by decide) ?_
                refine lv_goto (tgt := 77) hx hb d_Mo_bin_48 (by decide) ?_
                exact ga_wi () S hrt hlk hP hD hS (Or.inr (Or.inr (Or.inl ⟨hp9, ⟨hp21, hp30⟩, c43, rfl⟩))) d_Mo_bin_77
            · exact absurd c33 (by decide)
          · refine lv_if_ne (tgt := 39) hx hb d_Mo_bin_33 (by decide) (fun c33 => ?_) (fun c33 => ?_)
            · exact absurd c33 (by decide)
            · refine lv_bipush (v := (-102)) hx hb d_Mo_bin_36 (by decide) ?_
              exact ga_wi () S hrt hlk hP hD hS (Or.inr (Or.inl ⟨hp9, (fun q => by first | exact hp21 q.1 | exact hp30 q.2), rfl⟩)) d_Mo_bin_38
      · refine lv_if_eq (tgt := 36) hx hb d_Mo_bin_24 (by decide) (fun c24 => ?_) (fun c24 => ?_)
        · refine lv_bipush (v := (-102)) hx hb d_Mo_bin_36 (by decide) ?_
          exact ga_wi () S hrt hlk hP hD hS (Or.inr (Or.inl ⟨hp9, (fun q => by first | exact hp21 q.1 | exact hp30 q.2), rfl⟩)) d_Mo_bin_38
        · exact absurd c24 (by decide)
    · exact absurd c12 (by decide)
  · refine lv_if_ne (tgt := 18) hx hb d_Mo_bin_12 (by decide) (fun c12 => ?_) (fun c12 => ?_)
    · exact absurd c12 (by decide)
    · refine lv_bipush (v := (-101)) hx hb d_Mo_bin_15 (by decide) ?_
      exact ga_wi () S hrt hlk hP hD hS (Or.inl ⟨hp9, rfl⟩) d_Mo_bin_17
set_option maxHeartbeats 4000000 in
set_option maxRecDepth 100000 in
theorem gc_Mo_fault (l : Launch) (D : va_G) (cI cZ cC cG : ClassId) (mo m1 m6 m7 m8 m9 mA mB mC mD mE mF n pos ec w nw kf : Nat) (wr : Option Nat) (told : Nat → Nat) (i v : Int32) (hk : kf < 2 ^ 30) : ga_Mi l y_Mo_fault b_Mo_fault 3 (some .int) 6 0 0 D (ga_T cI cZ cC cG) [.ref mo, .int i, .int v] [(mo, .inr (6, [.int 0, .ref m1, .int (nI n), .int (nI pos), .int (tI wr), .int (nI ec), .ref m6, .ref m7, .ref m8, .ref m9, .ref mA, .int (nI w), .int (nI nw), .ref mB, .ref mC, .ref mD, .int (nI kf), .ref mE, .ref mF])), (mE, .inl (cI, 500, .inl (nA told)))] (fun (_ : Unit) => [(mo, .inr (6, [.int 0, .ref m1, .int (nI n), .int (nI pos), .int (tI wr), .int (nI ec), .ref m6, .ref m7, .ref m8, .ref m9, .ref mA, .int (nI w), .int (nI nw), .ref mB, .ref mC, .ref mD, .int (nI kf), .ref mE, .ref mF])), (mE, .inl (cI, 500, .inl (nA told)))]) (fun r _ => r = gp_tell told kf i v) := by
  refine ga_enI (by decide) (Nat.le_of_ble_eq_true rfl) ?_
  intro p e s m below meth c ls A S hrt hlk hK hP hD hA hl
  have hS : va_S A s.heap s.heap [] := va_S.rf
  obtain ⟨hx, hb, hml, hown, hts⟩ := id S
  have hl : lv_has ls 3 [(0, .ref mo), (1, .int i), (2, .int v)] := hl
  refine lv_aload_n hx hb d_Mo_fault_0 rfl (lv_at hl 0 rfl) ?_
  refine lv_iconst (v := 0) hx hb d_Mo_fault_1 (by decide) ?_
  refine ga_put (ws' := [(mo, .inr (6, [.int 0, .ref m1, .int (nI n), .int (nI pos), .int (tI wr), .int (nI ec), .ref m6, .ref m7, .ref m8, .ref m9, .ref mA, .int (nI w), .int (nI nw), .ref mB, .ref mC, .ref mD, .int (nI kf), .ref mE, .ref mF])), (mE, .inl (cI, 500, .inl (nA told)))]) S hK hP hD hS 0 rfl p_Mo_48 rfl rfl (Nat.le_of_ble_eq_true rfl) rfl d_Mo_fault_2 (fun H locs hP hD hS => ?_)
  refine lv_iload_n hx hb d_Mo_fault_5 rfl (lv_at hl 1 rfl) ?_
  refine lv_if_lt (tgt := 32) hx hb d_Mo_fault_6 (by decide) (fun c6 => ?_) (fun c6 => ?_)
  · have he : gp_tell told kf i v = -1 := by rw [gp_tell, if_neg (fun q => absurd q.1 (gp_ltz c6))]
    refine lv_iconst (v := (-1)) hx hb d_Mo_fault_32 (by decide) ?_
    refine lv_goto (tgt := 46) hx hb d_Mo_fault_33 (by decide) ?_
    exact ga_wi () S hrt hlk hP hD hS he.symm d_Mo_fault_46
  · obtain ⟨i, hi, rfl⟩ := nI_of c6
    refine lv_iload_n hx hb d_Mo_fault_9 rfl (lv_at hl 1 rfl) ?_
    refine lv_aload_n hx hb d_Mo_fault_10 rfl (lv_at hl 0 rfl) ?_
    refine ga_get S hK hP 0 rfl f_Mo_101 rfl d_Mo_fault_11 ?_
    refine lv_icmp_ge (tgt := 32) hx hb d_Mo_fault_14 (by decide) (fun c14 => ?_) (fun c14 => ?_)
    · have c14 : kf ≤ i := (nI_leI (a := kf) (b := i) (by omega) (by omega)).mp c14
      have he : gp_tell told kf (nI i) v = -1 := by rw [gp_tell, nI_toInt hi, if_neg (by omega)]
      refine lv_iconst (v := (-1)) hx hb d_Mo_fault_32 (by decide) ?_
      refine lv_goto (tgt := 46) hx hb d_Mo_fault_33 (by decide) ?_
      exact ga_wi () S hrt hlk hP hD hS he.symm d_Mo_fault_46
    · have c14 : ¬ (kf ≤ i) := fun q => c14 ((nI_leI (a := kf) (b := i) (by omega) (by omega)).mpr q)
      refine lv_iload_n hx hb d_Mo_fault_17 rfl (lv_at hl 1 rfl) ?_
      refine lv_bipush (v := 99) hx hb d_Mo_fault_18 (by decide) ?_
      refine lv_icmp_gt (tgt := 32) hx hb d_Mo_fault_20 (by decide) (fun c20 => ?_) (fun c20 => ?_)
      · have c20 : 99 < i := (nI_ltI (a := 99) (b := i) (by omega) (by omega)).mp c20
        have he : gp_tell told kf (nI i) v = -1 := by rw [gp_tell, nI_toInt hi, if_neg (by omega)]
        refine lv_iconst (v := (-1)) hx hb d_Mo_fault_32 (by decide) ?_
        refine lv_goto (tgt := 46) hx hb d_Mo_fault_33 (by decide) ?_
        exact ga_wi () S hrt hlk hP hD hS he.symm d_Mo_fault_46
      · have c20 : ¬ (99 < i) := fun q => c20 ((nI_ltI (a := 99) (b := i) (by omega) (by omega)).mpr q)
        refine lv_iload_n hx hb d_Mo_fault_23 rfl (lv_at hl 2 rfl) ?_
        refine lv_if_lt (tgt := 32) hx hb d_Mo_fault_24 (by decide) (fun c24 => ?_) (fun c24 => ?_)
        · have he : gp_tell told kf (nI i) v = -1 := by rw [gp_tell, if_neg (fun q => absurd q.2.2.2.1 (gp_ltz c24))]
          refine lv_iconst (v := (-1)) hx hb d_Mo_fault_32 (by decide) ?_
          refine lv_goto (tgt := 46) hx hb d_Mo_fault_33 (by decide) ?_
          exact ga_wi () S hrt hlk hP hD hS he.symm d_Mo_fault_46
        · obtain ⟨v, hv, rfl⟩ := nI_of c24
          refine lv_iload_n hx hb d_Mo_fault_27 rfl (lv_at hl 2 rfl) ?_
          refine lv_iconst (v := 4) hx hb d_Mo_fault_28 (by decide) ?_
          refine lv_icmp_le (tgt := 36) hx hb d_Mo_fault_29 (by decide) (fun c29 => ?_) (fun c29 => ?_)
          · have c29 : v ≤ 4 := (nI_leI (a := v) (b := 4) (by omega) (by omega)).mp c29
            have he : gp_tell told kf (nI i) (nI v) = nI (told (5 * i + v)) := by rw [gp_tell, nI_toInt hi, nI_toInt hv, if_pos (by omega), Nat.mul_comm 5 i]; rfl
            refine lv_aload_n hx hb d_Mo_fault_36 rfl (lv_at hl 0 rfl) ?_
            refine ga_get S hK hP 0 rfl f_Mo_38 rfl d_Mo_fault_37 ?_
            refine lv_iconst (v := 5) hx hb d_Mo_fault_40 (by decide) ?_
            refine lv_iload_n hx hb d_Mo_fault_41 rfl (lv_at hl 1 rfl) ?_
            refine lv_imul hx hb d_Mo_fault_42 ?_
            refine ga_top (nI (5 * i)) (pk_mul 5 i) ?_
            refine lv_iload_n hx hb d_Mo_fault_43 rfl (lv_at hl 2 rfl) ?_
            refine lv_iadd hx hb d_Mo_fault_44 ?_
            refine ga_top (nI ((5 * i) + v)) (nI_add (5 * i) v) ?_
            refine ga_ild S hK hP 1 0 rfl rfl ((5 * i) + v) (by omega) (by decide) d_Mo_fault_45 ?_
            exact ga_wi () S hrt hlk hP hD hS he.symm d_Mo_fault_46
          · have c29 : ¬ (v ≤ 4) := fun q => c29 ((nI_leI (a := v) (b := 4) (by omega) (by omega)).mpr q)
            have he : gp_tell told kf (nI i) (nI v) = -1 := by rw [gp_tell, nI_toInt hi, nI_toInt hv, if_neg (by omega)]
            refine lv_iconst (v := (-1)) hx hb d_Mo_fault_32 (by decide) ?_
            refine lv_goto (tgt := 46) hx hb d_Mo_fault_33 (by decide) ?_
            exact ga_wi () S hrt hlk hP hD hS he.symm d_Mo_fault_46
set_option maxHeartbeats 4000000 in
set_option maxRecDepth 100000 in
theorem gc_Mo_hold (l : Launch) (D : va_G) (cI cZ cC cG : ClassId) (mo m1 m6 m7 m8 m9 mA mB mC mD mE mF n pos ec w nw kf : Nat) (wr : Option Nat) (he : Nat → Bool) (t : Int32) (on : Bool) (hec : ec ≤ 8) : ga_Mi l y_Mo_hold b_Mo_hold 4 (some .int) 6 0 0 D (ga_T cI cZ cC cG) [.ref mo, .int t, .int (bI on)] [(mo, .inr (6, [.int 0, .ref m1, .int (nI n), .int (nI pos), .int (tI wr), .int (nI ec), .ref m6, .ref m7, .ref m8, .ref m9, .ref mA, .int (nI w), .int (nI nw), .ref mB, .ref mC, .ref mD, .int (nI kf), .ref mE, .ref mF])), (mD, .inl (cZ, 41, .inl (zA he)))] (fun (x : Nat → Bool) => [(mo, .inr (6, [.int 0, .ref m1, .int (nI n), .int (nI pos), .int (tI wr), .int (nI ec), .ref m6, .ref m7, .ref m8, .ref m9, .ref mA, .int (nI w), .int (nI nw), .ref mB, .ref mC, .ref mD, .int (nI kf), .ref mE, .ref mF])), (mD, .inl (cZ, 41, .inl (zA x)))]) (fun r x => (¬ (1 ≤ t ∧ t ≤ 40) ∧ r = -101 ∧ x = he) ∨ ((1 ≤ t ∧ t ≤ 40) ∧ ec = 0 ∧ r = -103 ∧ x = he) ∨ ((1 ≤ t ∧ t ≤ 40) ∧ ec ≠ 0 ∧ he t.toNatClampNeg = on ∧ r = 0 ∧ x = he) ∨ ((1 ≤ t ∧ t ≤ 40) ∧ ec ≠ 0 ∧ he t.toNatClampNeg ≠ on ∧ r = 1 ∧ x = va_up he t.toNatClampNeg on)) := by
  refine ga_enI (by decide) (Nat.le_of_ble_eq_true rfl) ?_
  intro p e s m below meth c ls A S hrt hlk hK hP hD hA hl
  have hS : va_S A s.heap s.heap [] := va_S.rf
  obtain ⟨hx, hb, hml, hown, hts⟩ := id S
  have hl : lv_has ls 4 [(0, .ref mo), (1, .int t), (2, .int (bI on))] := hl
  refine lv_aload_n hx hb d_Mo_hold_0 rfl (lv_at hl 0 rfl) ?_
  refine lv_iconst (v := 0) hx hb d_Mo_hold_1 (by decide) ?_
  refine ga_put (ws' := [(mo, .inr (6, [.int 0, .ref m1, .int (nI n), .int (nI pos), .int (tI wr), .int (nI ec), .ref m6, .ref m7, .ref m8, .ref m9, .ref mA, .int (nI w), .int (nI nw), .ref mB, .ref mC, .ref mD, .int (nI kf), .ref mE, .ref mF])), (mD, .inl (cZ, 41, .inl (zA he)))]) S hK hP hD hS 0 rfl p_Mo_48 rfl rfl (Nat.le_of_ble_eq_true rfl) rfl d_Mo_hold_2 (fun H locs hP hD hS => ?_)
  refine lv_iload_n hx hb d_Mo_hold_5 rfl (lv_at hl 1 rfl) ?_
  refine lv_iconst (v := 1) hx hb d_Mo_hold_6 (by decide) ?_
  refine lv_bipush (v := 40) hx hb d_Mo_hold_7 (by decide) ?_
  refine ga_cs (As := [.int t, .int 1, .int 40]) (rest := []) S hK hP s_Mo_97 (gc_Mo_isIn l D cI cZ cC cG t 1 40) [] rfl rfl hl.1 rfl (Nat.le_of_ble_eq_true rfl) ⟨Nat.le_of_ble_eq_true rfl, Nat.le_of_ble_eq_true rfl⟩ ⟨Nat.le_of_ble_eq_true rfl, Nat.le_of_ble_eq_true rfl⟩ d_Mo_hold_9 (fun r hp9 => ?_)
  rcases hp9 with ⟨rfl, hp9⟩ | ⟨rfl, hp9⟩
  · obtain ⟨tN, htN, rfl⟩ := nI_of2 (M := 40) (n := 40) rfl (fun q => absurd (Int32.lt_of_le_of_lt hp9.1 q) (by decide)) hp9.2
    have ht1 : 1 ≤ tN := (nI_leI (a := 1) (b := tN) (by omega) (by omega)).mp hp9.1
    refine lv_if_ne (tgt := 18) hx hb d_Mo_hold_12 (by decide) (fun c12 => ?_) (fun c12 => ?_)
    · refine lv_aload_n hx hb d_Mo_hold_18 rfl (lv_at hl 0 rfl) ?_
      refine ga_get S hK hP 0 rfl f_Mo_91 rfl d_Mo_hold_19 ?_
      refine lv_if_ne (tgt := 28) hx hb d_Mo_hold_22 (by decide) (fun c22 => ?_) (fun c22 => ?_)
      · have c22 : ¬ (ec = 0) := fun q => c22 ((nI_eq (a := ec) (b := 0) (by omega) (by omega)).mpr q)
        refine lv_aload_n hx hb d_Mo_hold_28 rfl (lv_at hl 0 rfl) ?_
        refine ga_get S hK hP 0 rfl f_Mo_35 rfl d_Mo_hold_29 ?_
        refine lv_iload_n hx hb d_Mo_hold_32 rfl (lv_at hl 1 rfl) ?_
        refine ga_zld S hK hP 1 1 rfl rfl tN (by omega) (by decide) d_Mo_hold_33 ?_
        refine lv_iload_n hx hb d_Mo_hold_34 rfl (lv_at hl 2 rfl) ?_
        refine lv_icmp_ne (tgt := 42) hx hb d_Mo_hold_35 (by decide) (fun c35 => ?_) (fun c35 => ?_)
        · have c35 : he tN ≠ on := fun q => c35 (by rw [q])
          refine lv_iconst (v := 1) hx hb d_Mo_hold_42 (by decide) ?_
          refine lv_istore_n (lv' := [(3, .int 1), (0, .ref mo), (1, .int (nI tN)), (2, .int (bI on))]) hx hb d_Mo_hold_43 rfl hl (by decide) rfl (fun ls hl => ?_)
          refine lv_aload_n hx hb d_Mo_hold_44 rfl (lv_at hl 1 rfl) ?_
          refine ga_get S hK hP 0 rfl f_Mo_35 rfl d_Mo_hold_45 ?_
          refine lv_iload_n hx hb d_Mo_hold_48 rfl (lv_at hl 2 rfl) ?_
          refine lv_iload_n hx hb d_Mo_hold_49 rfl (lv_at hl 3 rfl) ?_
          refine ga_zst (ws' := [(mo, .inr (6, [.int 0, .ref m1, .int (nI n), .int (nI pos), .int (tI wr), .int (nI ec), .ref m6, .ref m7, .ref m8, .ref m9, .ref mA, .int (nI w), .int (nI nw), .ref mB, .ref mC, .ref mD, .int (nI kf), .ref mE, .ref mF])), (mD, .inl (cZ, 41, .inl (zA (va_up he tN on))))]) S hK hP hD hS 1 1 rfl rfl tN on (by omega) (by decide) rfl d_Mo_hold_50 (fun H locs hP hD hS => ?_)
          refine lv_iload_n hx hb d_Mo_hold_51 rfl (lv_at hl 0 rfl) ?_
          exact ga_wi (va_up he tN on) S hrt hlk hP hD hS (Or.inr (Or.inr (Or.inr ⟨hp9, c22, by rw [nI_clamp (by omega)]; exact c35, rfl, by rw [nI_clamp (by omega)]⟩))) d_Mo_hold_52
        · have c35 : he tN = on := bI_inj c35
          refine lv_iconst (v := 0) hx hb d_Mo_hold_38 (by decide) ?_
          refine lv_goto (tgt := 43) hx hb d_Mo_hold_39 (by decide) ?_
          refine lv_istore_n (lv' := [(3, .int 0), (0, .ref mo), (1, .int (nI tN)), (2, .int (bI on))]) hx hb d_Mo_hold_43 rfl hl (by decide) rfl (fun ls hl => ?_)
          refine lv_aload_n hx hb d_Mo_hold_44 rfl (lv_at hl 1 rfl) ?_
          refine ga_get S hK hP 0 rfl f_Mo_35 rfl d_Mo_hold_45 ?_
          refine lv_iload_n hx hb d_Mo_hold_48 rfl (lv_at hl 2 rfl) ?_
          refine lv_iload_n hx hb d_Mo_hold_49 rfl (lv_at hl 3 rfl) ?_
          refine ga_zst (ws' := [(mo, .inr (6, [.int 0, .ref m1, .int (nI n), .int (nI pos), .int (tI wr), .int (nI ec), .ref m6, .ref m7, .ref m8, .ref m9, .ref mA, .int (nI w), .int (nI nw), .ref mB, .ref mC, .ref mD, .int (nI kf), .ref mE, .ref mF])), (mD, .inl (cZ, 41, .inl (zA (va_up he tN on))))]) S hK hP hD hS 1 1 rfl rfl tN on (by omega) (by decide) rfl d_Mo_hold_50 (fun H locs hP hD hS => ?_)
          refine lv_iload_n hx hb d_Mo_hold_51 rfl (lv_at hl 0 rfl) ?_
          rw [gp_up_id c35] at hP hD
          exact ga_wi he S hrt hlk hP hD hS (Or.inr (Or.inr (Or.inl ⟨hp9, c22, by rw [nI_clamp (by omega)]; exact c35, rfl, rfl⟩))) d_Mo_hold_52
      · have c22 : ec = 0 := (nI_eq (a := ec) (b := 0) (by omega) (by omega)).mp c22
        refine lv_bipush (v := (-103)) hx hb d_Mo_hold_25 (by decide) ?_
        exact ga_wi he S hrt hlk hP hD hS (Or.inr (Or.inl ⟨hp9, c22, rfl, rfl⟩)) d_Mo_hold_27
    · exact absurd c12 (by decide)
  · refine lv_if_ne (tgt := 18) hx hb d_Mo_hold_12 (by decide) (fun c12 => ?_) (fun c12 => ?_)
    · exact absurd c12 (by decide)
    · refine lv_bipush (v := (-101)) hx hb d_Mo_hold_15 (by decide) ?_
      exact ga_wi he S hrt hlk hP hD hS (Or.inl ⟨hp9, rfl, rfl⟩) d_Mo_hold_17
set_option maxHeartbeats 4000000 in
set_option maxRecDepth 100000 in
theorem gc_Mo_overflow (l : Launch) (D : va_G) (cI cZ cC cG : ClassId) (mo m1 m6 m7 m8 m9 mA mB mC mD mE mF n pos ec w nw kf : Nat) (wr : Option Nat) (nx : Nat → Nat) (b : Int32) (hec : ec ≤ 8) (hne : ∀ j, nx j ≤ 60) : ga_Mi l y_Mo_overflow b_Mo_overflow 4 (some .int) 6 0 0 D (ga_T cI cZ cC cG) [.ref mo, .int b] [(mo, .inr (6, [.int 0, .ref m1, .int (nI n), .int (nI pos), .int (tI wr), .int (nI ec), .ref m6, .ref m7, .ref m8, .ref m9, .ref mA, .int (nI w), .int (nI nw), .ref mB, .ref mC, .ref mD, .int (nI kf), .ref mE, .ref mF])), (mB, .inl (cI, 61, .inl (nA nx)))] (fun (_ : Unit) => [(mo, .inr (6, [.int 0, .ref m1, .int (nI n), .int (nI pos), .int (tI wr), .int (nI ec), .ref m6, .ref m7, .ref m8, .ref m9, .ref mA, .int (nI w), .int (nI nw), .ref mB, .ref mC, .ref mD, .int (nI kf), .ref mE, .ref mF])), (mB, .inl (cI, 61, .inl (nA nx)))]) (fun r _ => (¬ (1 ≤ b ∧ b ≤ 60) ∧ r = -101) ∨ ((1 ≤ b ∧ b ≤ 60) ∧ ec = 0 ∧ r = -103) ∨ ((1 ≤ b ∧ b ≤ 60) ∧ ec ≠ 0 ∧ ((∃ j, (∀ i, i < j → nx (gp_it nx b.toNatClampNeg i) ≠ 0) ∧ nx (gp_it nx b.toNatClampNeg j) = 0 ∧ r = nI (gp_it nx b.toNatClampNeg j)) ∨ ((∀ i, i < 61 → nx (gp_it nx b.toNatClampNeg i) ≠ 0) ∧ r = -1)))) := by
  refine ga_enI (by decide) (Nat.le_of_ble_eq_true rfl) ?_
  intro p e s m below meth c ls A S hrt hlk hK hP hD hA hl
  have hS : va_S A s.heap s.heap [] := va_S.rf
  obtain ⟨hx, hb, hml, hown, hts⟩ := id S
  have hl : lv_has ls 4 [(0, .ref mo), (1, .int b)] := hl
  refine lv_aload_n hx hb d_Mo_overflow_0 rfl (lv_at hl 0 rfl) ?_
  refine lv_iconst (v := 0) hx hb d_Mo_overflow_1 (by decide) ?_
  refine ga_put (ws' := [(mo, .inr (6, [.int 0, .ref m1, .int (nI n), .int (nI pos), .int (tI wr), .int (nI ec), .ref m6, .ref m7, .ref m8, .ref m9, .ref mA, .int (nI w), .int (nI nw), .ref mB, .ref mC, .ref mD, .int (nI kf), .ref mE, .ref mF])), (mB, .inl (cI, 61, .inl (nA nx)))]) S hK hP hD hS 0 rfl p_Mo_48 rfl rfl (Nat.le_of_ble_eq_true rfl) rfl d_Mo_overflow_2 (fun H locs hP hD hS => ?_)
  refine lv_iload_n hx hb d_Mo_overflow_5 rfl (lv_at hl 1 rfl) ?_
  refine lv_iconst (v := 1) hx hb d_Mo_overflow_6 (by decide) ?_
  refine lv_bipush (v := 60) hx hb d_Mo_overflow_7 (by decide) ?_
  refine ga_cs (As := [.int b, .int 1, .int 60]) (rest := []) S hK hP s_Mo_97 (gc_Mo_isIn l D cI cZ cC cG b 1 60) [] rfl rfl hl.1 rfl (Nat.le_of_ble_eq_true rfl) ⟨Nat.le_of_ble_eq_true rfl, Nat.le_of_ble_eq_true rfl⟩ ⟨Nat.le_of_ble_eq_true rfl, Nat.le_of_ble_eq_true rfl⟩ d_Mo_overflow_9 (fun r hp9 => ?_)
  rcases hp9 with ⟨rfl, hp9⟩ | ⟨rfl, hp9⟩
  · obtain ⟨bN, hbN, rfl⟩ := nI_of2 (M := 60) (n := 60) rfl (fun q => absurd (Int32.lt_of_le_of_lt hp9.1 q) (by decide)) hp9.2
    refine lv_if_ne (tgt := 18) hx hb d_Mo_overflow_12 (by decide) (fun c12 => ?_) (fun c12 => ?_)
    · refine lv_aload_n hx hb d_Mo_overflow_18 rfl (lv_at hl 0 rfl) ?_
      refine ga_get S hK hP 0 rfl f_Mo_91 rfl d_Mo_overflow_19 ?_
      refine lv_if_ne (tgt := 28) hx hb d_Mo_overflow_22 (by decide) (fun c22 => ?_) (fun c22 => ?_)
      · have c22 : ¬ (ec = 0) := fun q => c22 ((nI_eq (a := ec) (b := 0) (by omega) (by omega)).mpr q)
        refine lv_iload_n hx hb d_Mo_overflow_28 rfl (lv_at hl 1 rfl) ?_
        refine lv_istore_n (lv' := [(2, .int (nI bN)), (0, .ref mo), (1, .int (nI bN))]) hx hb d_Mo_overflow_29 rfl hl (by decide) rfl (fun ls hl => ?_)
        refine lv_iconst (v := 0) hx hb d_Mo_overflow_30 (by decide) ?_
        refine lv_istore_n (lv' := [(3, .int 0), (2, .int (nI bN)), (0, .ref mo), (1, .int (nI bN))]) hx hb d_Mo_overflow_31 rfl hl (by decide) rfl (fun ls hl => ?_)
        refine ga_loop (α := Nat × Nat) (fun x => match x with | (sp, cu) => 61 - sp) (fun x ls H locs => match x with | (sp, cu) => lv_has ls 4 [(3, .int (nI sp)), (2, .int (nI cu)), (0, .ref mo), (1, .int (nI bN))] ∧ va_P D vwCl [(mo, .inr (6, [.int 0, .ref m1, .int (nI n), .int (nI pos), .int (tI wr), .int (nI ec), .ref m6, .ref m7, .ref m8, .ref m9, .ref mA, .int (nI w), .int (nI nw), .ref mB, .ref mC, .ref mD, .int (nI kf), .ref mE, .ref mF])), (mB, .inl (cI, 61, .inl (nA nx)))] H ∧ va_D A [(mo, .inr (6, [.int 0, .ref m1, .int (nI n), .int (nI pos), .int (tI wr), .int (nI ec), .ref m6, .ref m7, .ref m8, .ref m9, .ref mA, .int (nI w), .int (nI nw), .ref mB, .ref mC, .ref mD, .int (nI kf), .ref mE, .ref mF])), (mB, .inl (cI, 61, .inl (nA nx)))] ∧ va_S A s.heap H locs ∧ sp ≤ 61 ∧ cu ≤ 60 ∧ cu = gp_it nx bN sp ∧ ∀ i, i < sp → nx (gp_it nx bN i) ≠ 0) ?_ (0, bN) ⟨lv_sub hl [0, 1, 2, 3] rfl, hP, hD, hS, ⟨by decide, hbN, rfl, fun i h => absurd h (Nat.not_lt_zero _)⟩⟩
        intro x ls H locs hI ih
        obtain ⟨sp, cu⟩ := x
        obtain ⟨hl, hP, hD, hS, ⟨h1, h2, h3, h4⟩⟩ := hI
        have hl : lv_has ls 4 [(3, .int (nI sp)), (2, .int (nI cu)), (0, .ref mo), (1, .int (nI bN))] := hl
        have hP : va_P D vwCl [(mo, .inr (6, [.int 0, .ref m1, .int (nI n), .int (nI pos), .int (tI wr), .int (nI ec), .ref m6, .ref m7, .ref m8, .ref m9, .ref mA, .int (nI w), .int (nI nw), .ref mB, .ref mC, .ref mD, .int (nI kf), .ref mE, .ref mF])), (mB, .inl (cI, 61, .inl (nA nx)))] H := hP
        have hD : va_D A [(mo, .inr (6, [.int 0, .ref m1, .int (nI n), .int (nI pos), .int (tI wr), .int (nI ec), .ref m6, .ref m7, .ref m8, .ref m9, .ref mA, .int (nI w), .int (nI nw), .ref mB, .ref mC, .ref mD, .int (nI kf), .ref mE, .ref mF])), (mB, .inl (cI, 61, .inl (nA nx)))] := hD
        have h5 := hne cu
        refine lv_aload_n hx hb d_Mo_overflow_32 rfl (lv_at hl 2 rfl) ?_
        refine ga_get S hK hP 0 rfl f_Mo_29 rfl d_Mo_overflow_33 ?_
        refine lv_iload_n hx hb d_Mo_overflow_36 rfl (lv_at hl 1 rfl) ?_
        refine ga_ild S hK hP 1 0 rfl rfl cu (by omega) (by decide) d_Mo_overflow_37 ?_
        refine lv_if_le (tgt := 60) hx hb d_Mo_overflow_38 (by decide) (fun c38 => ?_) (fun c38 => ?_)
        · have c38 : (nx cu) ≤ 0 := (nI_leI (a := (nx cu)) (b := 0) (by omega) (by omega)).mp c38
          refine lv_aload_n hx hb d_Mo_overflow_60 rfl (lv_at hl 2 rfl) ?_
          refine ga_get S hK hP 0 rfl f_Mo_29 rfl d_Mo_overflow_61 ?_
          refine lv_iload_n hx hb d_Mo_overflow_64 rfl (lv_at hl 1 rfl) ?_
          refine ga_ild S hK hP 1 0 rfl rfl cu (by omega) (by decide) d_Mo_overflow_65 ?_
          refine lv_if_le (tgt := 73) hx hb d_Mo_overflow_66 (by decide) (fun c66 => ?_) (fun c66 => ?_)
          · have c66 : (nx cu) ≤ 0 := (nI_leI (a := (nx cu)) (b := 0) (by omega) (by omega)).mp c66
            have hz : nx cu = 0 := by omega
            refine lv_iload_n hx hb d_Mo_overflow_73 rfl (lv_at hl 1 rfl) ?_
            exact ga_wi () S hrt hlk hP hD hS (Or.inr (Or.inr ⟨hp9, c22, Or.inl ⟨sp, by rw [nI_clamp (by omega)]; exact h4, by rw [nI_clamp (by omega), ← h3]; exact hz, by rw [nI_clamp (by omega), ← h3]⟩⟩)) d_Mo_overflow_74
          · have c66 : ¬ ((nx cu) ≤ 0) := fun q => c66 ((nI_leI (a := (nx cu)) (b := 0) (by omega) (by omega)).mpr q)
            have hz : 61 ≤ sp := by omega
            refine lv_iconst (v := (-1)) hx hb d_Mo_overflow_69 (by decide) ?_
            refine lv_goto (tgt := 74) hx hb d_Mo_overflow_70 (by decide) ?_
            exact ga_wi () S hrt hlk hP hD hS (Or.inr (Or.inr ⟨hp9, c22, Or.inr ⟨by rw [nI_clamp (by omega)]; exact fun i hi => h4 i (by omega), rfl⟩⟩)) d_Mo_overflow_74
        · have c38 : ¬ ((nx cu) ≤ 0) := fun q => c38 ((nI_leI (a := (nx cu)) (b := 0) (by omega) (by omega)).mpr q)
          refine lv_iload_n hx hb d_Mo_overflow_41 rfl (lv_at hl 0 rfl) ?_
          refine lv_bipush (v := 61) hx hb d_Mo_overflow_42 (by decide) ?_
          refine lv_icmp_ge (tgt := 60) hx hb d_Mo_overflow_44 (by decide) (fun c44 => ?_) (fun c44 => ?_)
          · have c44 : 61 ≤ sp := (nI_leI (a := 61) (b := sp) (by omega) (by omega)).mp c44
            refine lv_aload_n hx hb d_Mo_overflow_60 rfl (lv_at hl 2 rfl) ?_
            refine ga_get S hK hP 0 rfl f_Mo_29 rfl d_Mo_overflow_61 ?_
            refine lv_iload_n hx hb d_Mo_overflow_64 rfl (lv_at hl 1 rfl) ?_
            refine ga_ild S hK hP 1 0 rfl rfl cu (by omega) (by decide) d_Mo_overflow_65 ?_
            refine lv_if_le (tgt := 73) hx hb d_Mo_overflow_66 (by decide) (fun c66 => ?_) (fun c66 => ?_)
            · have c66 : (nx cu) ≤ 0 := (nI_leI (a := (nx cu)) (b := 0) (by omega) (by omega)).mp c66
              have hz : nx cu = 0 := by omega
              refine lv_iload_n hx hb d_Mo_overflow_73 rfl (lv_at hl 1 rfl) ?_
              exact ga_wi () S hrt hlk hP hD hS (Or.inr (Or.inr ⟨hp9, c22, Or.inl ⟨sp, by rw [nI_clamp (by omega)]; exact h4, by rw [nI_clamp (by omega), ← h3]; exact hz, by rw [nI_clamp (by omega), ← h3]⟩⟩)) d_Mo_overflow_74
            · have c66 : ¬ ((nx cu) ≤ 0) := fun q => c66 ((nI_leI (a := (nx cu)) (b := 0) (by omega) (by omega)).mpr q)
              have hz : 61 ≤ sp := by omega
              refine lv_iconst (v := (-1)) hx hb d_Mo_overflow_69 (by decide) ?_
              refine lv_goto (tgt := 74) hx hb d_Mo_overflow_70 (by decide) ?_
              exact ga_wi () S hrt hlk hP hD hS (Or.inr (Or.inr ⟨hp9, c22, Or.inr ⟨by rw [nI_clamp (by omega)]; exact fun i hi => h4 i (by omega), rfl⟩⟩)) d_Mo_overflow_74
          · have c44 : ¬ (61 ≤ sp) := fun q => c44 ((nI_leI (a := 61) (b := sp) (by omega) (by omega)).mpr q)
            refine lv_aload_n hx hb d_Mo_overflow_47 rfl (lv_at hl 2 rfl) ?_
            refine ga_get S hK hP 0 rfl f_Mo_29 rfl d_Mo_overflow_48 ?_
            refine lv_iload_n hx hb d_Mo_overflow_51 rfl (lv_at hl 1 rfl) ?_
            refine ga_ild S hK hP 1 0 rfl rfl cu (by omega) (by decide) d_Mo_overflow_52 ?_
            refine lv_istore_n (lv' := [(2, .int (nI (nx cu))), (3, .int (nI sp)), (0, .ref mo), (1, .int (nI bN))]) hx hb d_Mo_overflow_53 rfl hl (by decide) rfl (fun ls hl => ?_)
            refine lv_iinc (v := nI (sp + 1)) (lv' := [(3, .int (nI (sp + 1))), (2, .int (nI (nx cu))), (0, .ref mo), (1, .int (nI bN))]) hx hb d_Mo_overflow_54 hl (k := 1) rfl (ga_inc sp) (by decide) rfl (fun ls hl => ?_)
            refine lv_goto (tgt := 32) hx hb d_Mo_overflow_57 (by decide) ?_
            exact ih (sp + 1, nx cu) _ _ _ (by show (61 - (sp + 1)) < (61 - sp); omega) ⟨lv_sub hl [0, 1, 2, 3] rfl, hP, hD, hS, ⟨by omega, by omega, by rw [gp_it, h3], lt_s h4 (by rw [← h3]; omega)⟩⟩
      · have c22 : ec = 0 := (nI_eq (a := ec) (b := 0) (by omega) (by omega)).mp c22
        refine lv_bipush (v := (-103)) hx hb d_Mo_overflow_25 (by decide) ?_
        exact ga_wi () S hrt hlk hP hD hS (Or.inr (Or.inl ⟨hp9, c22, rfl⟩)) d_Mo_overflow_27
    · exact absurd c12 (by decide)
  · refine lv_if_ne (tgt := 18) hx hb d_Mo_overflow_12 (by decide) (fun c12 => ?_) (fun c12 => ?_)
    · exact absurd c12 (by decide)
    · refine lv_bipush (v := (-101)) hx hb d_Mo_overflow_15 (by decide) ?_
      exact ga_wi () S hrt hlk hP hD hS (Or.inl ⟨hp9, rfl⟩) d_Mo_overflow_17
