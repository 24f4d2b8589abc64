set_option maxHeartbeats 4000000 in
set_option maxRecDepth 100000 in
theorem gc_Re_giveDraftFor (l : Launch) (D : va_G) (cI cZ cC cG : ClassId) (re te dr pos pl : Nat) (tr : Option Nat) : ga_Mq l y_Re_giveDraftFor b_Re_giveDraftFor 3 (some (.object "SortPlans$Plan")) 0 0 0 D (ga_T cI cZ cC cG) [.ref re, .ref pl] [(re, .inr (2, [.ref te, .ref dr, .int (nI pos), .int (tI tr)]))] (fun (_ : Unit) => [(re, .inr (2, [.ref te, .ref pl, .int (nI pos), .int (tI tr)]))]) (fun _ => dr) (fun _ => True) := by
  refine ga_enQ (by decide) (Nat.le_of_ble_eq_true rfl) ?_
  intro p e s m below meth c ls A S hrt hlk hK hP hD hA hl
  have hS : va_S A s.heap s.heap [] := va_S.rf
  obtain ⟨hx, hb, hml, hown, hts⟩ := id S
  have hl : lv_has ls 3 [(0, .ref re), (1, .ref pl)] := hl
  refine lv_aload_n hx hb d_Re_giveDraftFor_0 rfl (lv_at hl 0 rfl) ?_
  refine ga_get S hK hP 0 rfl f_Re_21 rfl d_Re_giveDraftFor_1 ?_
  refine lv_astore_n (lv' := [(2, .ref dr), (0, .ref re), (1, .ref pl)]) hx hb d_Re_giveDraftFor_4 rfl hl (by decide) rfl (fun ls hl => ?_)
  refine lv_aload_n hx hb d_Re_giveDraftFor_5 rfl (lv_at hl 1 rfl) ?_
  refine lv_aload_n hx hb d_Re_giveDraftFor_6 rfl (lv_at hl 2 rfl) ?_
  refine ga_put (ws' := [(re, .inr (2, [.ref te, .ref pl, .int (nI pos), .int (tI tr)]))]) S hK hP hD hS 0 rfl p_Re_21 rfl rfl (Nat.le_of_ble_eq_true rfl) rfl d_Re_giveDraftFor_7 (fun H locs hP hD hS => ?_)
  refine lv_aload_n hx hb d_Re_giveDraftFor_10 rfl (lv_at hl 0 rfl) ?_
  exact ga_wq () S hrt (Or.inl ⟨_, rfl⟩) hlk hP hD hS trivial d_Re_giveDraftFor_11
set_option maxHeartbeats 4000000 in
set_option maxRecDepth 100000 in
theorem gc_SP_addEdition (l : Launch) (D : va_G) (cI cZ cC cG : ClassId) (spo re fa shh eo ec pl : Nat) (hec : ec ≤ 8) (te dr pos : Nat) (tr : Option Nat) (d1 d2 d3 d4 d5 d6 d7 d8 d9 drg : Nat) (ea : Nat → Nat) (ed : Nat → Nat → Nat) (bn : Nat → Nat) (h8 : ec < 8) : ga_Mv l y_SP_addEdition b_SP_addEdition 1 1 0 0 D (ga_T cI cZ cC cG) [.ref spo] [(spo, .inr (5, [.ref re, .ref fa, .ref shh, .ref eo, .int (nI ec), .ref pl])), (re, .inr (2, [.ref te, .ref dr, .int (nI pos), .int (tI tr)])), (dr, .inr (1, [.ref d1, .ref d2, .ref d3, .ref d4, .ref d5, .ref d6, .ref d7, .ref d8, .ref d9, .int (nI drg)])), (d1, .inl (cI, 480, .inl (nA bn))), (eo, .inl (cG, 8, .inr (.inr (.inr (.inr (fun i => if i < 8 then some (ea i) else none)))))), ((ea 0), .inl (cI, 480, .inl (nA (ed 0)))), ((ea 1), .inl (cI, 480, .inl (nA (ed 1)))), ((ea 2), .inl (cI, 480, .inl (nA (ed 2)))), ((ea 3), .inl (cI, 480, .inl (nA (ed 3)))), ((ea 4), .inl (cI, 480, .inl (nA (ed 4)))), ((ea 5), .inl (cI, 480, .inl (nA (ed 5)))), ((ea 6), .inl (cI, 480, .inl (nA (ed 6)))), ((ea 7), .inl (cI, 480, .inl (nA (ed 7))))] (fun (_ : Unit) => [(spo, .inr (5, [.ref re, .ref fa, .ref shh, .ref eo, .int (nI (ec + 1)), .ref dr])), (re, .inr (2, [.ref te, .ref pl, .int (nI pos), .int (tI tr)])), (dr, .inr (1, [.ref d1, .ref d2, .ref d3, .ref d4, .ref d5, .ref d6, .ref d7, .ref d8, .ref d9, .int (nI drg)])), (d1, .inl (cI, 480, .inl (nA bn))), (eo, .inl (cG, 8, .inr (.inr (.inr (.inr (fun i => if i < 8 then some (ea i) else none)))))), ((ea 0), .inl (cI, 480, .inl (nA (va_up ed ec bn 0)))), ((ea 1), .inl (cI, 480, .inl (nA (va_up ed ec bn 1)))), ((ea 2), .inl (cI, 480, .inl (nA (va_up ed ec bn 2)))), ((ea 3), .inl (cI, 480, .inl (nA (va_up ed ec bn 3)))), ((ea 4), .inl (cI, 480, .inl (nA (va_up ed ec bn 4)))), ((ea 5), .inl (cI, 480, .inl (nA (va_up ed ec bn 5)))), ((ea 6), .inl (cI, 480, .inl (nA (va_up ed ec bn 6)))), ((ea 7), .inl (cI, 480, .inl (nA (va_up ed ec bn 7))))]) (fun _ => True) := by
  refine ga_enV (by decide) (Nat.le_of_ble_eq_true rfl) ?_
  intro p e s m below meth c ls A S hrt hlk hnm hK hP hD hA hl
  have hS : va_S A s.heap s.heap [] := va_S.rf
  obtain ⟨hx, hb, hml, hown, hts⟩ := id S
  have hl : lv_has ls 1 [(0, .ref spo)] := hl
  rcases (show ec = 0 ∨ ec = 1 ∨ ec = 2 ∨ ec = 3 ∨ ec = 4 ∨ ec = 5 ∨ ec = 6 ∨ ec = 7 by omega) with rfl | rfl | rfl | rfl | rfl | rfl | rfl | rfl
  · refine lv_aload_n hx hb d_SP_addEdition_0 rfl (lv_at hl 0 rfl) ?_
    refine lv_aload_n hx hb d_SP_addEdition_1 rfl (lv_at hl 0 rfl) ?_
    refine ga_get S hK hP 0 rfl f_SP_12 rfl d_SP_addEdition_2 ?_
    refine lv_aload_n hx hb d_SP_addEdition_5 rfl (lv_at hl 0 rfl) ?_
    refine ga_get S hK hP 0 rfl f_SP_38 rfl d_SP_addEdition_6 ?_
    refine ga_jq (wr := [(spo, .inr (5, [.ref re, .ref fa, .ref shh, .ref eo, .int (nI 0), .ref pl])), (dr, .inr (1, [.ref d1, .ref d2, .ref d3, .ref d4, .ref d5, .ref d6, .ref d7, .ref d8, .ref d9, .int (nI drg)])), (d1, .inl (cI, 480, .inl (nA bn))), (eo, .inl (cG, 8, .inr (.inr (.inr (.inr (fun i => if i < 8 then some (ea i) else none)))))), ((ea 0), .inl (cI, 480, .inl (nA (ed 0)))), ((ea 1), .inl (cI, 480, .inl (nA (ed 1)))), ((ea 2), .inl (cI, 480, .inl (nA (ed 2)))), ((ea 3), .inl (cI, 480, .inl (nA (ed 3)))), ((ea 4), .inl (cI, 480, .inl (nA (ed 4)))), ((ea 5), .inl (cI, 480, .inl (nA (ed 5)))), ((ea 6), .inl (cI, 480, .inl (nA (ed 6)))), ((ea 7), .inl (cI, 480, .inl (nA (ed 7))))]) (ga_runV (As := [.ref pl]) (rest := [.ref spo]) S hK s_SP_130 (gc_Re_giveDraftFor l D cI cZ cC cG re te dr pos pl tr _) (ga_prV (y := y_Re_giveDraftFor) (q0 := 1) hK hP hD [1] rfl (by decide) rfl rfl) rfl hl.1 rfl (Nat.le_of_ble_eq_true rfl) ⟨Nat.le_of_ble_eq_true rfl, Nat.le_of_ble_eq_true rfl⟩ ⟨Nat.le_of_ble_eq_true rfl, Nat.le_of_ble_eq_true rfl⟩ d_SP_addEdition_9) hP hD hS hA [1] [0, 2, 3, 4, 5, 6, 7, 8, 9, 10, 11, 12] rfl rfl (by decide) (by decide) [0, 12, 1, 2, 3, 4, 5, 6, 7, 8, 9, 10, 11] (fun _ => [(spo, .inr (5, [.ref re, .ref fa, .ref shh, .ref eo, .int (nI 0), .ref pl])), (re, .inr (2, [.ref te, .ref pl, .int (nI pos), .int (tI tr)])), (dr, .inr (1, [.ref d1, .ref d2, .ref d3, .ref d4, .ref d5, .ref d6, .ref d7, .ref d8, .ref d9, .int (nI drg)])), (d1, .inl (cI, 480, .inl (nA bn))), (eo, .inl (cG, 8, .inr (.inr (.inr (.inr (fun i => if i < 8 then some (ea i) else none)))))), ((ea 0), .inl (cI, 480, .inl (nA (ed 0)))), ((ea 1), .inl (cI, 480, .inl (nA (ed 1)))), ((ea 2), .inl (cI, 480, .inl (nA (ed 2)))), ((ea 3), .inl (cI, 480, .inl (nA (ed 3)))), ((ea 4), .inl (cI, 480, .inl (nA (ed 4)))), ((ea 5), .inl (cI, 480, .inl (nA (ed 5)))), ((ea 6), .inl (cI, 480, .inl (nA (ed 6)))), ((ea 7), .inl (cI, 480, .inl (nA (ed 7))))]) (fun _ => rfl) (by decide) (fun x H locs hp9 hP hD hS => ?_)
    refine ga_put (ws' := [(spo, .inr (5, [.ref re, .ref fa, .ref shh, .ref eo, .int (nI 0), .ref dr])), (re, .inr (2, [.ref te, .ref pl, .int (nI pos), .int (tI tr)])), (dr, .inr (1, [.ref d1, .ref d2, .ref d3, .ref d4, .ref d5, .ref d6, .ref d7, .ref d8, .ref d9, .int (nI drg)])), (d1, .inl (cI, 480, .inl (nA bn))), (eo, .inl (cG, 8, .inr (.inr (.inr (.inr (fun i => if i < 8 then some (ea i) else none)))))), ((ea 0), .inl (cI, 480, .inl (nA (ed 0)))), ((ea 1), .inl (cI, 480, .inl (nA (ed 1)))), ((ea 2), .inl (cI, 480, .inl (nA (ed 2)))), ((ea 3), .inl (cI, 480, .inl (nA (ed 3)))), ((ea 4), .inl (cI, 480, .inl (nA (ed 4)))), ((ea 5), .inl (cI, 480, .inl (nA (ed 5)))), ((ea 6), .inl (cI, 480, .inl (nA (ed 6)))), ((ea 7), .inl (cI, 480, .inl (nA (ed 7))))]) S hK hP hD hS 0 rfl p_SP_38 rfl rfl (Nat.le_of_ble_eq_true rfl) rfl d_SP_addEdition_12 (fun H locs hP hD hS => ?_)
    refine lv_aload_n hx hb d_SP_addEdition_15 rfl (lv_at hl 0 rfl) ?_
    refine ga_get S hK hP 0 rfl f_SP_38 rfl d_SP_addEdition_16 ?_
    refine ga_get S hK hP 2 rfl f_SP_92 rfl d_SP_addEdition_19 ?_
    refine lv_iconst (v := 0) hx hb d_SP_addEdition_22 (by decide) ?_
    refine lv_aload_n hx hb d_SP_addEdition_23 rfl (lv_at hl 0 rfl) ?_
    refine ga_get S hK hP 0 rfl f_SP_32 rfl d_SP_addEdition_24 ?_
    refine lv_aload_n hx hb d_SP_addEdition_27 rfl (lv_at hl 0 rfl) ?_
    refine ga_get S hK hP 0 rfl f_SP_67 rfl d_SP_addEdition_28 ?_
    refine ga_aaN S hK hP 4 3 rfl rfl 0 (by decide) (by decide) (a1 := ea 0) rfl d_SP_addEdition_31 ?_
    refine lv_iconst (v := 0) hx hb d_SP_addEdition_32 (by decide) ?_
    refine lv_sipush (v := 480) hx hb d_SP_addEdition_33 (by decide) ?_
    refine ga_copy (ws' := [(spo, .inr (5, [.ref re, .ref fa, .ref shh, .ref eo, .int (nI 0), .ref dr])), (re, .inr (2, [.ref te, .ref pl, .int (nI pos), .int (tI tr)])), (dr, .inr (1, [.ref d1, .ref d2, .ref d3, .ref d4, .ref d5, .ref d6, .ref d7, .ref d8, .ref d9, .int (nI drg)])), (d1, .inl (cI, 480, .inl (nA bn))), (eo, .inl (cG, 8, .inr (.inr (.inr (.inr (fun i => if i < 8 then some (ea i) else none)))))), ((ea 0), .inl (cI, 480, .inl (nA bn))), ((ea 1), .inl (cI, 480, .inl (nA (ed 1)))), ((ea 2), .inl (cI, 480, .inl (nA (ed 2)))), ((ea 3), .inl (cI, 480, .inl (nA (ed 3)))), ((ea 4), .inl (cI, 480, .inl (nA (ed 4)))), ((ea 5), .inl (cI, 480, .inl (nA (ed 5)))), ((ea 6), .inl (cI, 480, .inl (nA (ed 6)))), ((ea 7), .inl (cI, 480, .inl (nA (ed 7))))]) S hl.1 sy_SP_134 hK hP hD hS 3 5 rfl rfl rfl (Nat.le_of_ble_eq_true rfl) (by decide +kernel) rfl d_SP_addEdition_36 (fun H locs hP hD hS => ?_)
    refine lv_aload_n hx hb d_SP_addEdition_39 rfl (lv_at hl 0 rfl) ?_
    refine lv_dup hx hb d_SP_addEdition_40 rfl ?_
    refine ga_get S hK hP 0 rfl f_SP_67 rfl d_SP_addEdition_41 ?_
    refine lv_iconst (v := 1) hx hb d_SP_addEdition_44 (by decide) ?_
    refine lv_iadd hx hb d_SP_addEdition_45 ?_
    refine ga_top (nI (0 + 1)) (nI_add 0 1) ?_
    refine ga_put (ws' := [(spo, .inr (5, [.ref re, .ref fa, .ref shh, .ref eo, .int (nI (0 + 1)), .ref dr])), (re, .inr (2, [.ref te, .ref pl, .int (nI pos), .int (tI tr)])), (dr, .inr (1, [.ref d1, .ref d2, .ref d3, .ref d4, .ref d5, .ref d6, .ref d7, .ref d8, .ref d9, .int (nI drg)])), (d1, .inl (cI, 480, .inl (nA bn))), (eo, .inl (cG, 8, .inr (.inr (.inr (.inr (fun i => if i < 8 then some (ea i) else none)))))), ((ea 0), .inl (cI, 480, .inl (nA bn))), ((ea 1), .inl (cI, 480, .inl (nA (ed 1)))), ((ea 2), .inl (cI, 480, .inl (nA (ed 2)))), ((ea 3), .inl (cI, 480, .inl (nA (ed 3)))), ((ea 4), .inl (cI, 480, .inl (nA (ed 4)))), ((ea 5), .inl (cI, 480, .inl (nA (ed 5)))), ((ea 6), .inl (cI, 480, .inl (nA (ed 6)))), ((ea 7), .inl (cI, 480, .inl (nA (ed 7))))]) S hK hP hD hS 0 rfl p_SP_67 rfl rfl (Nat.le_of_ble_eq_true rfl) rfl d_SP_addEdition_46 (fun H locs hP hD hS => ?_)
    exact ga_wv () S hrt hlk hP hD hS trivial d_SP_addEdition_49
  · refine lv_aload_n hx hb d_SP_addEdition_0 rfl (lv_at hl 0 rfl) ?_
    refine lv_aload_n hx hb d_SP_addEdition_1 rfl (lv_at hl 0 rfl) ?_
    refine ga_get S hK hP 0 rfl f_SP_12 rfl d_SP_addEdition_2 ?_
    refine lv_aload_n hx hb d_SP_addEdition_5 rfl (lv_at hl 0 rfl) ?_
    refine ga_get S hK hP 0 rfl f_SP_38 rfl d_SP_addEdition_6 ?_
    refine ga_jq (wr := [(spo, .inr (5, [.ref re, .ref fa, .ref shh, .ref eo, .int (nI 1), .ref pl])), (dr, .inr (1, [.ref d1, .ref d2, .ref d3, .ref d4, .ref d5, .ref d6, .ref d7, .ref d8, .ref d9, .int (nI drg)])), (d1, .inl (cI, 480, .inl (nA bn))), (eo, .inl (cG, 8, .inr (.inr (.inr (.inr (fun i => if i < 8 then some (ea i) else none)))))), ((ea 0), .inl (cI, 480, .inl (nA (ed 0)))), ((ea 1), .inl (cI, 480, .inl (nA (ed 1)))), ((ea 2), .inl (cI, 480, .inl (nA (ed 2)))), ((ea 3), .inl (cI, 480, .inl (nA (ed 3)))), ((ea 4), .inl (cI, 480, .inl (nA (ed 4)))), ((ea 5), .inl (cI, 480, .inl (nA (ed 5)))), ((ea 6), .inl (cI, 480, .inl (nA (ed 6)))), ((ea 7), .inl (cI, 480, .inl (nA (ed 7))))]) (ga_runV (As := [.ref pl]) (rest := [.ref spo]) S hK s_SP_130 (gc_Re_giveDraftFor l D cI cZ cC cG re te dr pos pl tr _) (ga_prV (y := y_Re_giveDraftFor) (q0 := 1) hK hP hD [1] rfl (by decide) rfl rfl) rfl hl.1 rfl (Nat.le_of_ble_eq_true rfl) ⟨Nat.le_of_ble_eq_true rfl, Nat.le_of_ble_eq_true rfl⟩ ⟨Nat.le_of_ble_eq_true rfl, Nat.le_of_ble_eq_true rfl⟩ d_SP_addEdition_9) hP hD hS hA [1] [0, 2, 3, 4, 5, 6, 7, 8, 9, 10, 11, 12] rfl rfl (by decide) (by decide) [0, 12, 1, 2, 3, 4, 5, 6, 7, 8, 9, 10, 11] (fun _ => [(spo, .inr (5, [.ref re, .ref fa, .ref shh, .ref eo, .int (nI 1), .ref pl])), (re, .inr (2, [.ref te, .ref pl, .int (nI pos), .int (tI tr)])), (dr, .inr (1, [.ref d1, .ref d2, .ref d3, .ref d4, .ref d5, .ref d6, .ref d7, .ref d8, .ref d9, .int (nI drg)])), (d1, .inl (cI, 480, .inl (nA bn))), (eo, .inl (cG, 8, .inr (.inr (.inr (.inr (fun i => if i < 8 then some (ea i) else none)))))), ((ea 0), .inl (cI, 480, .inl (nA (ed 0)))), ((ea 1), .inl (cI, 480, .inl (nA (ed 1)))), ((ea 2), .inl (cI, 480, .inl (nA (ed 2)))), ((ea 3), .inl (cI, 480, .inl (nA (ed 3)))), ((ea 4), .inl (cI, 480, .inl (nA (ed 4)))), ((ea 5), .inl (cI, 480, .inl (nA (ed 5)))), ((ea 6), .inl (cI, 480, .inl (nA (ed 6)))), ((ea 7), .inl (cI, 480, .inl (nA (ed 7))))]) (fun _ => rfl) (by decide) (fun x H locs hp9 hP hD hS => ?_)
    refine ga_put (ws' := [(spo, .inr (5, [.ref re, .ref fa, .ref shh, .ref eo, .int (nI 1), .ref dr])), (re, .inr (2, [.ref te, .ref pl, .int (nI pos), .int (tI tr)])), (dr, .inr (1, [.ref d1, .ref d2, .ref d3, .ref d4, .ref d5, .ref d6, .ref d7, .ref d8, .ref d9, .int (nI drg)])), (d1, .inl (cI, 480, .inl (nA bn))), (eo, .inl (cG, 8, .inr (.inr (.inr (.inr (fun i => if i < 8 then some (ea i) else none)))))), ((ea 0), .inl (cI, 480, .inl (nA (ed 0)))), ((ea 1), .inl (cI, 480, .inl (nA (ed 1)))), ((ea 2), .inl (cI, 480, .inl (nA (ed 2)))), ((ea 3), .inl (cI, 480, .inl (nA (ed 3)))), ((ea 4), .inl (cI, 480, .inl (nA (ed 4)))), ((ea 5), .inl (cI, 480, .inl (nA (ed 5)))), ((ea 6), .inl (cI, 480, .inl (nA (ed 6)))), ((ea 7), .inl (cI, 480, .inl (nA (ed 7))))]) S hK hP hD hS 0 rfl p_SP_38 rfl rfl (Nat.le_of_ble_eq_true rfl) rfl d_SP_addEdition_12 (fun H locs hP hD hS => ?_)
    refine lv_aload_n hx hb d_SP_addEdition_15 rfl (lv_at hl 0 rfl) ?_
    refine ga_get S hK hP 0 rfl f_SP_38 rfl d_SP_addEdition_16 ?_
    refine ga_get S hK hP 2 rfl f_SP_92 rfl d_SP_addEdition_19 ?_
    refine lv_iconst (v := 0) hx hb d_SP_addEdition_22 (by decide) ?_
    refine lv_aload_n hx hb d_SP_addEdition_23 rfl (lv_at hl 0 rfl) ?_
    refine ga_get S hK hP 0 rfl f_SP_32 rfl d_SP_addEdition_24 ?_
    refine lv_aload_n hx hb d_SP_addEdition_27 rfl (lv_at hl 0 rfl) ?_
    refine ga_get S hK hP 0 rfl f_SP_67 rfl d_SP_addEdition_28 ?_
    refine ga_aaN S hK hP 4 3 rfl rfl 1 (by decide) (by decide) (a1 := ea 1) rfl d_SP_addEdition_31 ?_
    refine lv_iconst (v := 0) hx hb d_SP_addEdition_32 (by decide) ?_
    refine lv_sipush (v := 480) hx hb d_SP_addEdition_33 (by decide) ?_
    refine ga_copy (ws' := [(spo, .inr (5, [.ref re, .ref fa, .ref shh, .ref eo, .int (nI 1), .ref dr])), (re, .inr (2, [.ref te, .ref pl, .int (nI pos), .int (tI tr)])), (dr, .inr (1, [.ref d1, .ref d2, .ref d3, .ref d4, .ref d5, .ref d6, .ref d7, .ref d8, .ref d9, .int (nI drg)])), (d1, .inl (cI, 480, .inl (nA bn))), (eo, .inl (cG, 8, .inr (.inr (.inr (.inr (fun i => if i < 8 then some (ea i) else none)))))), ((ea 0), .inl (cI, 480, .inl (nA (ed 0)))), ((ea 1), .inl (cI, 480, .inl (nA bn))), ((ea 2), .inl (cI, 480, .inl (nA (ed 2)))), ((ea 3), .inl (cI, 480, .inl (nA (ed 3)))), ((ea 4), .inl (cI, 480, .inl (nA (ed 4)))), ((ea 5), .inl (cI, 480, .inl (nA (ed 5)))), ((ea 6), .inl (cI, 480, .inl (nA (ed 6)))), ((ea 7), .inl (cI, 480, .inl (nA (ed 7))))]) S hl.1 sy_SP_134 hK hP hD hS 3 6 rfl rfl rfl (Nat.le_of_ble_eq_true rfl) (by decide +kernel) rfl d_SP_addEdition_36 (fun H locs hP hD hS => ?_)
    refine lv_aload_n hx hb d_SP_addEdition_39 rfl (lv_at hl 0 rfl) ?_
    refine lv_dup hx hb d_SP_addEdition_40 rfl ?_
    refine ga_get S hK hP 0 rfl f_SP_67 rfl d_SP_addEdition_41 ?_
    refine lv_iconst (v := 1) hx hb d_SP_addEdition_44 (by decide) ?_
    refine lv_iadd hx hb d_SP_addEdition_45 ?_
    refine ga_top (nI (1 + 1)) (nI_add 1 1) ?_
    refine ga_put (ws' := [(spo, .inr (5, [.ref re, .ref fa, .ref shh, .ref eo, .int (nI (1 + 1)), .ref dr])), (re, .inr (2, [.ref te, .ref pl, .int (nI pos), .int (tI tr)])), (dr, .inr (1, [.ref d1, .ref d2, .ref d3, .ref d4, .ref d5, .ref d6, .ref d7, .ref d8, .ref d9, .int (nI drg)])), (d1, .inl (cI, 480, .inl (nA bn))), (eo, .inl (cG, 8, .inr (.inr (.inr (.inr (fun i => if i < 8 then some (ea i) else none)))))), ((ea 0), .inl (cI, 480, .inl (nA (ed 0)))), ((ea 1), .inl (cI, 480, .inl (nA bn))), ((ea 2), .inl (cI, 480, .inl (nA (ed 2)))), ((ea 3), .inl (cI, 480, .inl (nA (ed 3)))), ((ea 4), .inl (cI, 480, .inl (nA (ed 4)))), ((ea 5), .inl (cI, 480, .inl (nA (ed 5)))), ((ea 6), .inl (cI, 480, .inl (nA (ed 6)))), ((ea 7), .inl (cI, 480, .inl (nA (ed 7))))]) S hK hP hD hS 0 rfl p_SP_67 rfl rfl (Nat.le_of_ble_eq_true rfl) rfl d_SP_addEdition_46 (fun H locs hP hD hS => ?_)
    exact ga_wv () S hrt hlk hP hD hS trivial d_SP_addEdition_49
  · refine lv_aload_n hx hb d_SP_addEdition_0 rfl (lv_at hl 0 rfl) ?_
    refine lv_aload_n hx hb d_SP_addEdition_1 rfl (lv_at hl 0 rfl) ?_
    refine ga_get S hK hP 0 rfl f_SP_12 rfl d_SP_addEdition_2 ?_
    refine lv_aload_n hx hb d_SP_addEdition_5 rfl (lv_at hl 0 rfl) ?_
    refine ga_get S hK hP 0 rfl f_SP_38 rfl d_SP_addEdition_6 ?_
    refine ga_jq (wr := [(spo, .inr (5, [.ref re, .ref fa, .ref shh, .ref eo, .int (nI 2), .ref pl])), (dr, .inr (1, [.ref d1, .ref d2, .ref d3, .ref d4, .ref d5, .ref d6, .ref d7, .ref d8, .ref d9, .int (nI drg)])), (d1, .inl (cI, 480, .inl (nA bn))), (eo, .inl (cG, 8, .inr (.inr (.inr (.inr (fun i => if i < 8 then some (ea i) else none)))))), ((ea 0), .inl (cI, 480, .inl (nA (ed 0)))), ((ea 1), .inl (cI, 480, .inl (nA (ed 1)))), ((ea 2), .inl (cI, 480, .inl (nA (ed 2)))), ((ea 3), .inl (cI, 480, .inl (nA (ed 3)))), ((ea 4), .inl (cI, 480, .inl (nA (ed 4)))), ((ea 5), .inl (cI, 480, .inl (nA (ed 5)))), ((ea 6), .inl (cI, 480, .inl (nA (ed 6)))), ((ea 7), .inl (cI, 480, .inl (nA (ed 7))))]) (ga_runV (As := [.ref pl]) (rest := [.ref spo]) S hK s_SP_130 (gc_Re_giveDraftFor l D cI cZ cC cG re te dr pos pl tr _) (ga_prV (y := y_Re_giveDraftFor) (q0 := 1) hK hP hD [1] rfl (by decide) rfl rfl) rfl hl.1 rfl (Nat.le_of_ble_eq_true rfl) ⟨Nat.le_of_ble_eq_true rfl, Nat.le_of_ble_eq_true rfl⟩ ⟨Nat.le_of_ble_eq_true rfl, Nat.le_of_ble_eq_true rfl⟩ d_SP_addEdition_9) hP hD hS hA [1] [0, 2, 3, 4, 5, 6, 7, 8, 9, 10, 11, 12] rfl rfl (by decide) (by decide) [0, 12, 1, 2, 3, 4, 5, 6, 7, 8, 9, 10, 11] (fun _ => [(spo, .inr (5, [.ref re, .ref fa, .ref shh, .ref eo, .int (nI 2), .ref pl])), (re, .inr (2, [.ref te, .ref pl, .int (nI pos), .int (tI tr)])), (dr, .inr (1, [.ref d1, .ref d2, .ref d3, .ref d4, .ref d5, .ref d6, .ref d7, .ref d8, .ref d9, .int (nI drg)])), (d1, .inl (cI, 480, .inl (nA bn))), (eo, .inl (cG, 8, .inr (.inr (.inr (.inr (fun i => if i < 8 then some (ea i) else none)))))), ((ea 0), .inl (cI, 480, .inl (nA (ed 0)))), ((ea 1), .inl (cI, 480, .inl (nA (ed 1)))), ((ea 2), .inl (cI, 480, .inl (nA (ed 2)))), ((ea 3), .inl (cI, 480, .inl (nA (ed 3)))), ((ea 4), .inl (cI, 480, .inl (nA (ed 4)))), ((ea 5), .inl (cI, 480, .inl (nA (ed 5)))), ((ea 6), .inl (cI, 480, .inl (nA (ed 6)))), ((ea 7), .inl (cI, 480, .inl (nA (ed 7))))]) (fun _ => rfl) (by decide) (fun x H locs hp9 hP hD hS => ?_)
    refine ga_put (ws' := [(spo, .inr (5, [.ref re, .ref fa, .ref shh, .ref eo, .int (nI 2), .ref dr])), (re, .inr (2, [.ref te, .ref pl, .int (nI pos), .int (tI tr)])), (dr, .inr (1, [.ref d1, .ref d2, .ref d3, .ref d4, .ref d5, .ref d6, .ref d7, .ref d8, .ref d9, .int (nI drg)])), (d1, .inl (cI, 480, .inl (nA bn))), (eo, .inl (cG, 8, .inr (.inr (.inr (.inr (fun i => if i < 8 then some (ea i) else none)))))), ((ea 0), .inl (cI, 480, .inl (nA (ed 0)))), ((ea 1), .inl (cI, 480, .inl (nA (ed 1)))), ((ea 2), .inl (cI, 480, .inl (nA (ed 2)))), ((ea 3), .inl (cI, 480, .inl (nA (ed 3)))), ((ea 4), .inl (cI, 480, .inl (nA (ed 4)))), ((ea 5), .inl (cI, 480, .inl (nA (ed 5)))), ((ea 6), .inl (cI, 480, .inl (nA (ed 6)))), ((ea 7), .inl (cI, 480, .inl (nA (ed 7))))]) S hK hP hD hS 0 rfl p_SP_38 rfl rfl (Nat.le_of_ble_eq_true rfl) rfl d_SP_addEdition_12 (fun H locs hP hD hS => ?_)
    refine lv_aload_n hx hb d_SP_addEdition_15 rfl (lv_at hl 0 rfl) ?_
    refine ga_get S hK hP 0 rfl f_SP_38 rfl d_SP_addEdition_16 ?_
    refine ga_get S hK hP 2 rfl f_SP_92 rfl d_SP_addEdition_19 ?_
    refine lv_iconst (v := 0) hx hb d_SP_addEdition_22 (by decide) ?_
    refine lv_aload_n hx hb d_SP_addEdition_23 rfl (lv_at hl 0 rfl) ?_
    refine ga_get S hK hP 0 rfl f_SP_32 rfl d_SP_addEdition_24 ?_
    refine lv_aload_n hx hb d_SP_addEdition_27 rfl (lv_at hl 0 rfl) ?_
    refine ga_get S hK hP 0 rfl f_SP_67 rfl d_SP_addEdition_28 ?_
    refine ga_aaN S hK hP 4 3 rfl rfl 2 (by decide) (by decide) (a1 := ea 2) rfl d_SP_addEdition_31 ?_
    refine lv_iconst (v := 0) hx hb d_SP_addEdition_32 (by decide) ?_
    refine lv_sipush (v := 480) hx hb d_SP_addEdition_33 (by decide) ?_
    refine ga_copy (ws' := [(spo, .inr (5, [.ref re, .ref fa, .ref shh, .ref eo, .int (nI 2), .ref dr])), (re, .inr (2, [.ref te, .ref pl, .int (nI pos), .int (tI tr)])), (dr, .inr (1, [.ref d1, .ref d2, .ref d3, .ref d4, .ref d5, .ref d6, .ref d7, .ref d8, .ref d9, .int (nI drg)])), (d1, .inl (cI, 480, .inl (nA bn))), (eo, .inl (cG, 8, .inr (.inr (.inr (.inr (fun i => if i < 8 then some (ea i) else none)))))), ((ea 0), .inl (cI, 480, .inl (nA (ed 0)))), ((ea 1), .inl (cI, 480, .inl (nA (ed 1)))), ((ea 2), .inl (cI, 480, .inl (nA bn))), ((ea 3), .inl (cI, 480, .inl (nA (ed 3)))), ((ea 4), .inl (cI, 480, .inl (nA (ed 4)))), ((ea 5), .inl (cI, 480, .inl (nA (ed 5)))), ((ea 6), .inl (cI, 480, .inl (nA (ed 6)))), ((ea 7), .inl (cI, 480, .inl (nA (ed 7))))]) S hl.1 sy_SP_134 hK hP hD hS 3 7 rfl rfl rfl (Nat.le_of_ble_eq_true rfl) (by decide +kernel) rfl d_SP_addEdition_36 (fun H locs hP hD hS => ?_)
    refine lv_aload_n hx hb d_SP_addEdition_39 rfl (lv_at hl 0 rfl) ?_
    refine lv_dup hx hb d_SP_addEdition_40 rfl ?_
    refine ga_get S hK hP 0 rfl f_SP_67 rfl d_SP_addEdition_41 ?_
    refine lv_iconst (v := 1) hx hb d_SP_addEdition_44 (by decide) ?_
    refine lv_iadd hx hb d_SP_addEdition_45 ?_
    refine ga_top (nI (2 + 1)) (nI_add 2 1) ?_
    refine ga_put (ws' := [(spo, .inr (5, [.ref re, .ref fa, .ref shh, .ref eo, .int (nI (2 + 1)), .ref dr])), (re, .inr (2, [.ref te, .ref pl, .int (nI pos), .int (tI tr)])), (dr, .inr (1, [.ref d1, .ref d2, .ref d3, .ref d4, .ref d5, .ref d6, .ref d7, .ref d8, .ref d9, .int (nI drg)])), (d1, .inl (cI, 480, .inl (nA bn))), (eo, .inl (cG, 8, .inr (.inr (.inr (.inr (fun i => if i < 8 then some (ea i) else none)))))), ((ea 0), .inl (cI, 480, .inl (nA (ed 0)))), ((ea 1), .inl (cI, 480, .inl (nA (ed 1)))), ((ea 2), .inl (cI, 480, .inl (nA bn))), ((ea 3), .inl (cI, 480, .inl (nA (ed 3)))), ((ea 4), .inl (cI, 480, .inl (nA (ed 4)))), ((ea 5), .inl (cI, 480, .inl (nA (ed 5)))), ((ea 6), .inl (cI, 480, .inl (nA (ed 6)))), ((ea 7), .inl (cI, 480, .inl (nA (ed 7))))]) S hK hP hD hS 0 rfl p_SP_67 rfl rfl (Nat.le_of_ble_eq_true rfl) rfl d_SP_addEdition_46 (fun H locs hP hD hS => ?_)
    exact ga_wv () S hrt hlk hP hD hS trivial d_SP_addEdition_49
  · refine lv_aload_n hx hb d_SP_addEdition_0 rfl (lv_at hl 0 rfl) ?_
    refine lv_aload_n hx hb d_SP_addEdition_1 rfl (lv_at hl 0 rfl) ?_
    refine ga_get S hK hP 0 rfl f_SP_12 rfl d_SP_addEdition_2 ?_
    refine lv_aload_n hx hb d_SP_addEdition_5 rfl (lv_at hl 0 rfl) ?_
    refine ga_get S hK hP 0 rfl f_SP_38 rfl d_SP_addEdition_6 ?_
    refine ga_jq (wr := [(spo, .inr (5, [.ref re, .ref fa, .ref shh, .ref eo, .int (nI 3), .ref pl])), (dr, .inr (1, [.ref d1, .ref d2, .ref d3, .ref d4, .ref d5, .ref d6, .ref d7, .ref d8, .ref d9, .int (nI drg)])), (d1, .inl (cI, 480, .inl (nA bn))), (eo, .inl (cG, 8, .inr (.inr (.inr (.inr (fun i => if i < 8 then some (ea i) else none)))))), ((ea 0), .inl (cI, 480, .inl (nA (ed 0)))), ((ea 1), .inl (cI, 480, .inl (nA (ed 1)))), ((ea 2), .inl (cI, 480, .inl (nA (ed 2)))), ((ea 3), .inl (cI, 480, .inl (nA (ed 3)))), ((ea 4), .inl (cI, 480, .inl (nA (ed 4)))), ((ea 5), .inl (cI, 480, .inl (nA (ed 5)))), ((ea 6), .inl (cI, 480, .inl (nA (ed 6)))), ((ea 7), .inl (cI, 480, .inl (nA (ed 7))))]) (ga_runV (As := [.ref pl]) (rest := [.ref spo]) S hK s_SP_130 (gc_Re_giveDraftFor l D cI cZ cC cG re te dr pos pl tr _) (ga_prV (y := y_Re_giveDraftFor) (q0 := 1) hK hP hD [1] rfl (by decide) rfl rfl) rfl hl.1 rfl (Nat.le_of_ble_eq_true rfl) ⟨Nat.le_of_ble_eq_true rfl, Nat.le_of_ble_eq_true rfl⟩ ⟨Nat.le_of_ble_eq_true rfl, Nat.le_of_ble_eq_true rfl⟩ d_SP_addEdition_9) hP hD hS hA [1] [0, 2, 3, 4, 5, 6, 7, 8, 9, 10, 11, 12] rfl rfl (by decide) (by decide) [0, 12, 1, 2, 3, 4, 5, 6, 7, 8, 9, 10, 11] (fun _ => [(spo, .inr (5, [.ref re, .ref fa, .ref shh, .ref eo, .int (nI 3), .ref pl])), (re, .inr (2, [.ref te, .ref pl, .int (nI pos), .int (tI tr)])), (dr, .inr (1, [.ref d1, .ref d2, .ref d3, .ref d4, .ref d5, .ref d6, .ref d7, .ref d8, .ref d9, .int (nI drg)])), (d1, .inl (cI, 480, .inl (nA bn))), (eo, .inl (cG, 8, .inr (.inr (.inr (.inr (fun i => if i < 8 then some (ea i) else none)))))), ((ea 0), .inl (cI, 480, .inl (nA (ed 0)))), ((ea 1), .inl (cI, 480, .inl (nA (ed 1)))), ((ea 2), .inl (cI, 480, .inl (nA (ed 2)))), ((ea 3), .inl (cI, 480, .inl (nA (ed 3)))), ((ea 4), .inl (cI, 480, .inl (nA (ed 4)))), ((ea 5), .inl (cI, 480, .inl (nA (ed 5)))), ((ea 6), .inl (cI, 480, .inl (nA (ed 6)))), ((ea 7), .inl (cI, 480, .inl (nA (ed 7))))]) (fun _ => rfl) (by decide) (fun x H locs hp9 hP hD hS => ?_)
    refine ga_put (ws' := [(spo, .inr (5, [.ref re, .ref fa, .ref shh, .ref eo, .int (nI 3), .ref dr])), (re, .inr (2, [.ref te, .ref pl, .int (nI pos), .int (tI tr)])), (dr, .inr (1, [.ref d1, .ref d2, .ref d3, .ref d4, .ref d5, .ref d6, .ref d7, .ref d8, .ref d9, .int (nI drg)])), (d1, .inl (cI, 480, .inl (nA bn))), (eo, .inl (cG, 8, .inr (.inr (.inr (.inr (fun i => if i < 8 then some (ea i) else none)))))), ((ea 0), .inl (cI, 480, .inl (nA (ed 0)))), ((ea 1), .inl (cI, 480, .inl (nA (ed 1)))), ((ea 2), .inl (cI, 480, .inl (nA (ed 2)))), ((ea 3), .inl (cI, 480, .inl (nA (ed 3)))), ((ea 4), .inl (cI, 480, .inl (nA (ed 4)))), ((ea 5), .inl (cI, 480, .inl (nA (ed 5)))), ((ea 6), .inl (cI, 480, .inl (nA (ed 6)))), ((ea 7), .inl (cI, 480, .inl (nA (ed 7))))]) S hK hP hD hS 0 rfl p_SP_38 rfl rfl (Nat.le_of_ble_eq_true rfl) rfl d_SP_addEdition_12 (fun H locs hP hD hS => ?_)
    refine lv_aload_n hx hb d_SP_addEdition_15 rfl (lv_at hl 0 rfl) ?_
    refine ga_get S hK hP 0 rfl f_SP_38 rfl d_SP_addEdition_16 ?_
    refine ga_get S hK hP 2 rfl f_SP_92 rfl d_SP_addEdition_19 ?_
    refine lv_iconst (v := 0) hx hb d_SP_addEdition_22 (by decide) ?_
    refine lv_aload_n hx hb d_SP_addEdition_23 rfl (lv_at hl 0 rfl) ?_
    refine ga_get S hK hP 0 rfl f_SP_32 rfl d_SP_addEdition_24 ?_
    refine lv_aload_n hx hb d_SP_addEdition_27 rfl (lv_at hl 0 rfl) ?_
    refine ga_get S hK hP 0 rfl f_SP_67 rfl d_SP_addEdition_28 ?_
    refine ga_aaN S hK hP 4 3 rfl rfl 3 (by decide) (by decide) (a1 := ea 3) rfl d_SP_addEdition_31 ?_
    refine lv_iconst (v := 0) hx hb d_SP_addEdition_32 (by decide) ?_
    refine lv_sipush (v := 480) hx hb d_SP_addEdition_33 (by decide) ?_
    refine ga_copy (ws' := [(spo, .inr (5, [.ref re, .ref fa, .ref shh, .ref eo, .int (nI 3), .ref dr])), (re, .inr (2, [.ref te, .ref pl, .int (nI pos), .int (tI tr)])), (dr, .inr (1, [.ref d1, .ref d2, .ref d3, .ref d4, .ref d5, .ref d6, .ref d7, .ref d8, .ref d9, .int (nI drg)])), (d1, .inl (cI, 480, .inl (nA bn))), (eo, .inl (cG, 8, .inr (.inr (.inr (.inr (fun i => if i < 8 then some (ea i) else none)))))), ((ea 0), .inl (cI, 480, .inl (nA (ed 0)))), ((ea 1), .inl (cI, 480, .inl (nA (ed 1)))), ((ea 2), .inl (cI, 480, .inl (nA (ed 2)))), ((ea 3), .inl (cI, 480, .inl (nA bn))), ((ea 4), .inl (cI, 480, .inl (nA (ed 4)))), ((ea 5), .inl (cI, 480, .inl (nA (ed 5)))), ((ea 6), .inl (cI, 480, .inl (nA (ed 6)))), ((ea 7), .inl (cI, 480, .inl (nA (ed 7))))]) S hl.1 sy_SP_134 hK hP hD hS 3 8 rfl rfl rfl (Nat.le_of_ble_eq_true rfl) (by decide +kernel) rfl d_SP_addEdition_36 (fun H locs hP hD hS => ?_)
    refine lv_aload_n hx hb d_SP_addEdition_39 rfl (lv_at hl 0 rfl) ?_
    refine lv_dup hx hb d_SP_addEdition_40 rfl ?_
    refine ga_get S hK hP 0 rfl f_SP_67 rfl d_SP_addEdition_41 ?_
    refine lv_iconst (v := 1) hx hb d_SP_addEdition_44 (by decide) ?_
    refine lv_iadd hx hb d_SP_addEdition_45 ?_
    refine ga_top (nI (3 + 1)) (nI_add 3 1) ?_
    refine ga_put (ws' := [(spo, .inr (5, [.ref re, .ref fa, .ref shh, .ref eo, .int (nI (3 + 1)), .ref dr])), (re, .inr (2, [.ref te, .ref pl, .int (nI pos), .int (tI tr)])), (dr, .inr (1, [.ref d1, .ref d2, .ref d3, .ref d4, .ref d5, .ref d6, .ref d7, .ref d8, .ref d9, .int (nI drg)])), (d1, .inl (cI, 480, .inl (nA bn))), (eo, .inl (cG, 8, .inr (.inr (.inr (.inr (fun i => if i < 8 then some (ea i) else none)))))), ((ea 0), .inl (cI, 480, .inl (nA (ed 0)))), ((ea 1), .inl (cI, 480, .inl (nA (ed 1)))), ((ea 2), .inl (cI, 480, .inl (nA (ed 2)))), ((ea 3), .inl (cI, 480, .inl (nA bn))), ((ea 4), .inl (cI, 480, .inl (nA (ed 4)))), ((ea 5), .inl (cI, 480, .inl (nA (ed 5)))), ((ea 6), .inl (cI, 480, .inl (nA (ed 6)))), ((ea 7), .inl (cI, 480, .inl (nA (ed 7))))]) S hK hP hD hS 0 rfl p_SP_67 rfl rfl (Nat.le_of_ble_eq_true rfl) rfl d_SP_addEdition_46 (fun H locs hP hD hS => ?_)
    exact ga_wv () S hrt hlk hP hD hS trivial d_SP_addEdition_49
  · refine lv_aload_n hx hb d_SP_addEdition_0 rfl (lv_at hl 0 rfl) ?_
    refine lv_aload_n hx hb d_SP_addEdition_1 rfl (lv_at hl 0 rfl) ?_
    refine ga_get S hK hP 0 rfl f_SP_12 rfl d_SP_addEdition_2 ?_
    refine lv_aload_n hx hb d_SP_addEdition_5 rfl (lv_at hl 0 rfl) ?_
    refine ga_get S hK hP 0 rfl f_SP_38 rfl d_SP_addEdition_6 ?_
    refine ga_jq (wr := [(spo, .inr (5, [.ref re, .ref fa, .ref shh, .ref eo, .int (nI 4), .ref pl])), (dr, .inr (1, [.ref d1, .ref d2, .ref d3, .ref d4, .ref d5, .ref d6, .ref d7, .ref d8, .ref d9, .int (nI drg)])), (d1, .inl (cI, 480, .inl (nA bn))), (eo, .inl (cG, 8, .inr (.inr (.inr (.inr (fun i => if i < 8 then some (ea i) else none)))))), ((ea 0), .inl (cI, 480, .inl (nA (ed 0)))), ((ea 1), .inl (cI, 480, .inl (nA (ed 1)))), ((ea 2), .inl (cI, 480, .inl (nA (ed 2)))), ((ea 3), .inl (cI, 480, .inl (nA (ed 3)))), ((ea 4), .inl (cI, 480, .inl (nA (ed 4)))), ((ea 5), .inl (cI, 480, .inl (nA (ed 5)))), ((ea 6), .inl (cI, 480, .inl (nA (ed 6)))), ((ea 7), .inl (cI, 480, .inl (nA (ed 7))))]) (ga_runV (As := [.ref pl]) (rest := [.ref spo]) S hK s_SP_130 (gc_Re_giveDraftFor l D cI cZ cC cG re te dr pos pl tr _) (ga_prV (y := y_Re_giveDraftFor) (q0 := 1) hK hP hD [1] rfl (by decide) rfl rfl) rfl hl.1 rfl (Nat.le_of_ble_eq_true rfl) ⟨Nat.le_of_ble_eq_true rfl, Nat.le_of_ble_eq_true rfl⟩ ⟨Nat.le_of_ble_eq_true rfl, Nat.le_of_ble_eq_true rfl⟩ d_SP_addEdition_9) hP hD hS hA [1] [0, 2, 3, 4, 5, 6, 7, 8, 9, 10, 11, 12] rfl rfl (by decide) (by decide) [0, 12, 1, 2, 3, 4, 5, 6, 7, 8, 9, 10, 11] (fun _ => [(spo, .inr (5, [.ref re, .ref fa, .ref shh, .ref eo, .int (nI 4), .ref pl])), (re, .inr (2, [.ref te, .ref pl, .int (nI pos), .int (tI tr)])), (dr, .inr (1, [.ref d1, .ref d2, .ref d3, .ref d4, .ref d5, .ref d6, .ref d7, .ref d8, .ref d9, .int (nI drg)])), (d1, .inl (cI, 480, .inl (nA bn))), (eo, .inl (cG, 8, .inr (.inr (.inr (.inr (fun i => if i < 8 then some (ea i) else none)))))), ((ea 0), .inl (cI, 480, .inl (nA (ed 0)))), ((ea 1), .inl (cI, 480, .inl (nA (ed 1)))), ((ea 2), .inl (cI, 480, .inl (nA (ed 2)))), ((ea 3), .inl (cI, 480, .inl (nA (ed 3)))), ((ea 4), .inl (cI, 480, .inl (nA (ed 4)))), ((ea 5), .inl (cI, 480, .inl (nA (ed 5)))), ((ea 6), .inl (cI, 480, .inl (nA (ed 6)))), ((ea 7), .inl (cI, 480, .inl (nA (ed 7))))]) (fun _ => rfl) (by decide) (fun x H locs hp9 hP hD hS => ?_)
    refine ga_put (ws' := [(spo, .inr (5, [.ref re, .ref fa, .ref shh, .ref eo, .int (nI 4), .ref dr])), (re, .inr (2, [.ref te, .ref pl, .int (nI pos), .int (tI tr)])), (dr, .inr (1, [.ref d1, .ref d2, .ref d3, .ref d4, .ref d5, .ref d6, .ref d7, .ref d8, .ref d9, .int (nI drg)])), (d1, .inl (cI, 480, .inl (nA bn))), (eo, .inl (cG, 8, .inr (.inr (.inr (.inr (fun i => if i < 8 then some (ea i) else none)))))), ((ea 0), .inl (cI, 480, .inl (nA (ed 0)))), ((ea 1), .inl (cI, 480, .inl (nA (ed 1)))), ((ea 2), .inl (cI, 480, .inl (nA (ed 2)))), ((ea 3), .inl (cI, 480, .inl (nA (ed 3)))), ((ea 4), .inl (cI, 480, .inl (nA (ed 4)))), ((ea 5), .inl (cI, 480, .inl (nA (ed 5)))), ((ea 6), .inl (cI, 480, .inl (nA (ed 6)))), ((ea 7), .inl (cI, 480, .inl (nA (ed 7))))]) S hK hP hD hS 0 rfl p_SP_38 rfl rfl (Nat.le_of_ble_eq_true rfl) rfl d_SP_addEdition_12 (fun H locs hP hD hS => ?_)
    refine lv_aload_n hx hb d_SP_addEdition_15 rfl (lv_at hl 0 rfl) ?_
    refine ga_get S hK hP 0 rfl f_SP_38 rfl d_SP_addEdition_16 ?_
    refine ga_get S hK hP 2 rfl f_SP_92 rfl d_SP_addEdition_19 ?_
    refine lv_iconst (v := 0) hx hb d_SP_addEdition_22 (by decide) ?_
    refine lv_aload_n hx hb d_SP_addEdition_23 rfl (lv_at hl 0 rfl) ?_
    refine ga_get S hK hP 0 rfl f_SP_32 rfl d_SP_addEdition_24 ?_
    refine lv_aload_n hx hb d_SP_addEdition_27 rfl (lv_at hl 0 rfl) ?_
    refine ga_get S hK hP 0 rfl f_SP_67 rfl d_SP_addEdition_28 ?_
    refine ga_aaN S hK hP 4 3 rfl rfl 4 (by decide) (by decide) (a1 := ea 4) rfl d_SP_addEdition_31 ?_
    refine lv_iconst (v := 0) hx hb d_SP_addEdition_32 (by decide) ?_
    refine lv_sipush (v := 480) hx hb d_SP_addEdition_33 (by decide) ?_
    refine ga_copy (ws' := [(spo, .inr (5, [.ref re, .ref fa, .ref shh, .ref eo, .int (nI 4), .ref dr])), (re, .inr (2, [.ref te, .ref pl, .int (nI pos), .int (tI tr)])), (dr, .inr (1, [.ref d1, .ref d2, .ref d3, .ref d4, .ref d5, .ref d6, .ref d7, .ref d8, .ref d9, .int (nI drg)])), (d1, .inl (cI, 480, .inl (nA bn))), (eo, .inl (cG, 8, .inr (.inr (.inr (.inr (fun i => if i < 8 then some (ea i) else none)))))), ((ea 0), .inl (cI, 480, .inl (nA (ed 0)))), ((ea 1), .inl (cI, 480, .inl (nA (ed 1)))), ((ea 2), .inl (cI, 480, .inl (nA (ed 2)))), ((ea 3), .inl (cI, 480, .inl (nA (ed 3)))), ((ea 4), .inl (cI, 480, .inl (nA bn))), ((ea 5), .inl (cI, 480, .inl (nA (ed 5)))), ((ea 6), .inl (cI, 480, .inl (nA (ed 6)))), ((ea 7), .inl (cI, 480, .inl (nA (ed 7))))]) S hl.1 sy_SP_134 hK hP hD hS 3 9 rfl rfl rfl (Nat.le_of_ble_eq_true rfl) (by decide +kernel) rfl d_SP_addEdition_36 (fun H locs hP hD hS => ?_)
    refine lv_aload_n hx hb d_SP_addEdition_39 rfl (lv_at hl 0 rfl) ?_
    refine lv_dup hx hb d_SP_addEdition_40 rfl ?_
    refine ga_get S hK hP 0 rfl f_SP_67 rfl d_SP_addEdition_41 ?_
    refine lv_iconst (v := 1) hx hb d_SP_addEdition_44 (by decide) ?_
    refine lv_iadd hx hb d_SP_addEdition_45 ?_
    refine ga_top (nI (4 + 1)) (nI_add 4 1) ?_
    refine ga_put (ws' := [(spo, .inr (5, [.ref re, .ref fa, .ref shh, .ref eo, .int (nI (4 + 1)), .ref dr])), (re, .inr (2, [.ref te, .ref pl, .int (nI pos), .int (tI tr)])), (dr, .inr (1, [.ref d1, .ref d2, .ref d3, .ref d4, .ref d5, .ref d6, .ref d7, .ref d8, .ref d9, .int (nI drg)])), (d1, .inl (cI, 480, .inl (nA bn))), (eo, .inl (cG, 8, .inr (.inr (.inr (.inr (fun i => if i < 8 then some (ea i) else none)))))), ((ea 0), .inl (cI, 480, .inl (nA (ed 0)))), ((ea 1), .inl (cI, 480, .inl (nA (ed 1)))), ((ea 2), .inl (cI, 480, .inl (nA (ed 2)))), ((ea 3), .inl (cI, 480, .inl (nA (ed 3)))), ((ea 4), .inl (cI, 480, .inl (nA bn))), ((ea 5), .inl (cI, 480, .inl (nA (ed 5)))), ((ea 6), .inl (cI, 480, .inl (nA (ed 6)))), ((ea 7), .inl (cI, 480, .inl (nA (ed 7))))]) S hK hP hD hS 0 rfl p_SP_67 rfl rfl (Nat.le_of_ble_eq_true rfl) rfl d_SP_addEdition_46 (fun H locs hP hD hS => ?_)
    exact ga_wv () S hrt hlk hP hD hS trivial d_SP_addEdition_49
  · refine lv_aload_n hx hb d_SP_addEdition_0 rfl (lv_at hl 0 rfl) ?_
    refine lv_aload_n hx hb d_SP_addEdition_1 rfl (lv_at hl 0 rfl) ?_
    refine ga_get S hK hP 0 rfl f_SP_12 rfl d_SP_addEdition_2 ?_
    refine lv_aload_n hx hb d_SP_addEdition_5 rfl (lv_at hl 0 rfl) ?_
    refine ga_get S hK hP 0 rfl f_SP_38 rfl d_SP_addEdition_6 ?_
    refine ga_jq (wr := [(spo, .inr (5, [.ref re, .ref fa, .ref shh, .ref eo, .int (nI 5), .ref pl])), (dr, .inr (1, [.ref d1, .ref d2, .ref d3, .ref d4, .ref d5, .ref d6, .ref d7, .ref d8, .ref d9, .int (nI drg)])), (d1, .inl (cI, 480, .inl (nA bn))), (eo, .inl (cG, 8, .inr (.inr (.inr (.inr (fun i => if i < 8 then some (ea i) else none)))))), ((ea 0), .inl (cI, 480, .inl (nA (ed 0)))), ((ea 1), .inl (cI, 480, .inl (nA (ed 1)))), ((ea 2), .inl (cI, 480, .inl (nA (ed 2)))), ((ea 3), .inl (cI, 480, .inl (nA (ed 3)))), ((ea 4), .inl (cI, 480, .inl (nA (ed 4)))), ((ea 5), .inl (cI, 480, .inl (nA (ed 5)))), ((ea 6), .inl (cI, 480, .inl (nA (ed 6)))), ((ea 7), .inl (cI, 480, .inl (nA (ed 7))))]) (ga_runV (As := [.ref pl]) (rest := [.ref spo]) S hK s_SP_130 (gc_Re_giveDraftFor l D cI cZ cC cG re te dr pos pl tr _) (ga_prV (y := y_Re_giveDraftFor) (q0 := 1) hK hP hD [1] rfl (by decide) rfl rfl) rfl hl.1 rfl (Nat.le_of_ble_eq_true rfl) ⟨Nat.le_of_ble_eq_true rfl, Nat.le_of_ble_eq_true rfl⟩ ⟨Nat.le_of_ble_eq_true rfl, Nat.le_of_ble_eq_true rfl⟩ d_SP_addEdition_9) hP hD hS hA [1] [0, 2, 3, 4, 5, 6, 7, 8, 9, 10, 11, 12] rfl rfl (by decide) (by decide) [0, 12, 1, 2, 3, 4, 5, 6, 7, 8, 9, 10, 11] (fun _ => [(spo, .inr (5, [.ref re, .ref fa, .ref shh, .ref eo, .int (nI 5), .ref pl])), (re, .inr (2, [.ref te, .ref pl, .int (nI pos), .int (tI tr)])), (dr, .inr (1, [.ref d1, .ref d2, .ref d3, .ref d4, .ref d5, .ref d6, .ref d7, .ref d8, .ref d9, .int (nI drg)])), (d1, .inl (cI, 480, .inl (nA bn))), (eo, .inl (cG, 8, .inr (.inr (.inr (.inr (fun i => if i < 8 then some (ea i) else none)))))), ((ea 0), .inl (cI, 480, .inl (nA (ed 0)))), ((ea 1), .inl (cI, 480, .inl (nA (ed 1)))), ((ea 2), .inl (cI, 480, .inl (nA (ed 2)))), ((ea 3), .inl (cI, 480, .inl (nA (ed 3)))), ((ea 4), .inl (cI, 480, .inl (nA (ed 4)))), ((ea 5), .inl (cI, 480, .inl (nA (ed 5)))), ((ea 6), .inl (cI, 480, .inl (nA (ed 6)))), ((ea 7), .inl (cI, 480, .inl (nA (ed 7))))]) (fun _ => rfl) (by decide) (fun x H locs hp9 hP hD hS => ?_)
    refine ga_put (ws' := [(spo, .inr (5, [.ref re, .ref fa, .ref shh, .ref eo, .int (nI 5), .ref dr])), (re, .inr (2, [.ref te, .ref pl, .int (nI pos), .int (tI tr)])), (dr, .inr (1, [.ref d1, .ref d2, .ref d3, .ref d4, .ref d5, .ref d6, .ref d7, .ref d8, .ref d9, .int (nI drg)])), (d1, .inl (cI, 480, .inl (nA bn))), (eo, .inl (cG, 8, .inr (.inr (.inr (.inr (fun i => if i < 8 then some (ea i) else none)))))), ((ea 0), .inl (cI, 480, .inl (nA (ed 0)))), ((ea 1), .inl (cI, 480, .inl (nA (ed 1)))), ((ea 2), .inl (cI, 480, .inl (nA (ed 2)))), ((ea 3), .inl (cI, 480, .inl (nA (ed 3)))), ((ea 4), .inl (cI, 480, .inl (nA (ed 4)))), ((ea 5), .inl (cI, 480, .inl (nA (ed 5)))), ((ea 6), .inl (cI, 480, .inl (nA (ed 6)))), ((ea 7), .inl (cI, 480, .inl (nA (ed 7))))]) S hK hP hD hS 0 rfl p_SP_38 rfl rfl (Nat.le_of_ble_eq_true rfl) rfl d_SP_addEdition_12 (fun H locs hP hD hS => ?_)
    refine lv_aload_n hx hb d_SP_addEdition_15 rfl (lv_at hl 0 rfl) ?_
    refine ga_get S hK hP 0 rfl f_SP_38 rfl d_SP_addEdition_16 ?_
    refine ga_get S hK hP 2 rfl f_SP_92 rfl d_SP_addEdition_19 ?_
    refine lv_iconst (v := 0) hx hb d_SP_addEdition_22 (by decide) ?_
    refine lv_aload_n hx hb d_SP_addEdition_23 rfl (lv_at hl 0 rfl) ?_
    refine ga_get S hK hP 0 rfl f_SP_32 rfl d_SP_addEdition_24 ?_
    refine lv_aload_n hx hb d_SP_addEdition_27 rfl (lv_at hl 0 rfl) ?_
    refine ga_get S hK hP 0 rfl f_SP_67 rfl d_SP_addEdition_28 ?_
    refine ga_aaN S hK hP 4 3 rfl rfl 5 (by decide) (by decide) (a1 := ea 5) rfl d_SP_addEdition_31 ?_
    refine lv_iconst (v := 0) hx hb d_SP_addEdition_32 (by decide) ?_
    refine lv_sipush (v := 480) hx hb d_SP_addEdition_33 (by decide) ?_
    refine ga_copy (ws' := [(spo, .inr (5, [.ref re, .ref fa, .ref shh, .ref eo, .int (nI 5), .ref dr])), (re, .inr (2, [.ref te, .ref pl, .int (nI pos), .int (tI tr)])), (dr, .inr (1, [.ref d1, .ref d2, .ref d3, .ref d4, .ref d5, .ref d6, .ref d7, .ref d8, .ref d9, .int (nI drg)])), (d1, .inl (cI, 480, .inl (nA bn))), (eo, .inl (cG, 8, .inr (.inr (.inr (.inr (fun i => if i < 8 then some (ea i) else none)))))), ((ea 0), .inl (cI, 480, .inl (nA (ed 0)))), ((ea 1), .inl (cI, 480, .inl (nA (ed 1)))), ((ea 2), .inl (cI, 480, .inl (nA (ed 2)))), ((ea 3), .inl (cI, 480, .inl (nA (ed 3)))), ((ea 4), .inl (cI, 480, .inl (nA (ed 4)))), ((ea 5), .inl (cI, 480, .inl (nA bn))), ((ea 6), .inl (cI, 480, .inl (nA (ed 6)))), ((ea 7), .inl (cI, 480, .inl (nA (ed 7))))]) S hl.1 sy_SP_134 hK hP hD hS 3 10 rfl rfl rfl (Nat.le_of_ble_eq_true rfl) (by decide +kernel) rfl d_SP_addEdition_36 (fun H locs hP hD hS => ?_)
    refine lv_aload_n hx hb d_SP_addEdition_39 rfl (lv_at hl 0 rfl) ?_
    refine lv_dup hx hb d_SP_addEdition_40 rfl ?_
    refine ga_get S hK hP 0 rfl f_SP_67 rfl d_SP_addEdition_41 ?_
    refine lv_iconst (v := 1) hx hb d_SP_addEdition_44 (by decide) ?_
    refine lv_iadd hx hb d_SP_addEdition_45 ?_
    refine ga_top (nI (5 + 1)) (nI_add 5 1) ?_
    refine ga_put (ws' := [(spo, .inr (5, [.ref re, .ref fa, .ref shh, .ref eo, .int (nI (5 + 1)), .ref dr])), (re, .inr (2, [.ref te, .ref pl, .int (nI pos), .int (tI tr)])), (dr, .inr (1, [.ref d1, .ref d2, .ref d3, .ref d4, .ref d5, .ref d6, .ref d7, .ref d8, .ref d9, .int (nI drg)])), (d1, .inl (cI, 480, .inl (nA bn))), (eo, .inl (cG, 8, .inr (.inr (.inr (.inr (fun i => if i < 8 then some (ea i) else none)))))), ((ea 0), .inl (cI, 480, .inl (nA (ed 0)))), ((ea 1), .inl (cI, 480, .inl (nA (ed 1)))), ((ea 2), .inl (cI, 480, .inl (nA (ed 2)))), ((ea 3), .inl (cI, 480, .inl (nA (ed 3)))), ((ea 4), .inl (cI, 480, .inl (nA (ed 4)))), ((ea 5), .inl (cI, 480, .inl (nA bn))), ((ea 6), .inl (cI, 480, .inl (nA (ed 6)))), ((ea 7), .inl (cI, 480, .inl (nA (ed 7))))]) S hK hP hD hS 0 rfl p_SP_67 rfl rfl (Nat.le_of_ble_eq_true rfl) rfl d_SP_addEdition_46 (fun H locs hP hD hS => ?_)
    exact ga_wv () S hrt hlk hP hD hS trivial d_SP_addEdition_49
  · refine lv_aload_n hx hb d_SP_addEdition_0 rfl (lv_at hl 0 rfl) ?_
    refine lv_aload_n hx hb d_SP_addEdition_1 rfl (lv_at hl 0 rfl) ?_
    refine ga_get S hK hP 0 rfl f_SP_12 rfl d_SP_addEdition_2 ?_
    refine lv_aload_n hx hb d_SP_addEdition_5 rfl (lv_at hl 0 rfl) ?_
    refine ga_get S hK hP 0 rfl f_SP_38 rfl d_SP_addEdition_6 ?_
    refine ga_jq (wr := [(spo, .inr (5, [.ref re, .ref fa, .ref shh, .ref eo, .int (nI 6), .ref pl])), (dr, .inr (1, [.ref d1, .ref d2, .ref d3, .ref d4, .ref d5, .ref d6, .ref d7, .ref d8, .ref d9, .int (nI drg)])), (d1, .inl (cI, 480, .inl (nA bn))), (eo, .inl (cG, 8, .inr (.inr (.inr (.inr (fun i => if i < 8 then some (ea i) else none)))))), ((ea 0), .inl (cI, 480, .inl (nA (ed 0)))), ((ea 1), .inl (cI, 480, .inl (nA (ed 1)))), ((ea 2), .inl (cI, 480, .inl (nA (ed 2)))), ((ea 3), .inl (cI, 480, .inl (nA (ed 3)))), ((ea 4), .inl (cI, 480, .inl (nA (ed 4)))), ((ea 5), .inl (cI, 480, .inl (nA (ed 5)))), ((ea 6), .inl (cI, 480, .inl (nA (ed 6)))), ((ea 7), .inl (cI, 480, .inl (nA (ed 7))))]) (ga_runV (As := [.ref pl]) (rest := [.ref spo]) S hK s_SP_130 (gc_Re_giveDraftFor l D cI cZ cC cG re te dr pos pl tr _) (ga_prV (y := y_Re_giveDraftFor) (q0 := 1) hK hP hD [1] rfl (by decide) rfl rfl) rfl hl.1 rfl (Nat.le_of_ble_eq_true rfl) ⟨Nat.le_of_ble_eq_true rfl, Nat.le_of_ble_eq_true rfl⟩ ⟨Nat.le_of_ble_eq_true rfl, Nat.le_of_ble_eq_true rfl⟩ d_SP_addEdition_9) hP hD hS hA [1] [0, 2, 3, 4, 5, 6, 7, 8, 9, 10, 11, 12] rfl rfl (by decide) (by decide) [0, 12, 1, 2, 3, 4, 5, 6, 7, 8, 9, 10, 11] (fun _ => [(spo, .inr (5, [.ref re, .ref fa, .ref shh, .ref eo, .int (nI 6), .ref pl])), (re, .inr (2, [.ref te, .ref pl, .int (nI pos), .int (tI tr)])), (dr, .inr (1, [.ref d1, .ref d2, .ref d3, .ref d4, .ref d5, .ref d6, .ref d7, .ref d8, .ref d9, .int (nI drg)])), (d1, .inl (cI, 480, .inl (nA bn))), (eo, .inl (cG, 8, .inr (.inr (.inr (.inr (fun i => if i < 8 then some (ea i) else none)))))), ((ea 0), .inl (cI, 480, .inl (nA (ed 0)))), ((ea 1), .inl (cI, 480, .inl (nA (ed 1)))), ((ea 2), .inl (cI, 480, .inl (nA (ed 2)))), ((ea 3), .inl (cI, 480, .inl (nA (ed 3)))), ((ea 4), .inl (cI, 480, .inl (nA (ed 4)))), ((ea 5), .inl (cI, 480, .inl (nA (ed 5)))), ((ea 6), .inl (cI, 480, .inl (nA (ed 6)))), ((ea 7), .inl (cI, 480, .inl (nA (ed 7))))]) (fun _ => rfl) (by decide) (fun x H locs hp9 hP hD hS => ?_)
    refine ga_put (ws' := [(spo, .inr (5, [.ref re, .ref fa, .ref shh, .ref eo, .int (nI 6), .ref dr])), (re, .inr (2, [.ref te, .ref pl, .int (nI pos), .int (tI tr)])), (dr, .inr (1, [.ref d1, .ref d2, .ref d3, .ref d4, .ref d5, .ref d6, .ref d7, .ref d8, .ref d9, .int (nI drg)])), (d1, .inl (cI, 480, .inl (nA bn))), (eo, .inl (cG, 8, .inr (.inr (.inr (.inr (fun i => if i < 8 then some (ea i) else none)))))), ((ea 0), .inl (cI, 480, .inl (nA (ed 0)))), ((ea 1), .inl (cI, 480, .inl (nA (ed 1)))), ((ea 2), .inl (cI, 480, .inl (nA (ed 2)))), ((ea 3), .inl (cI, 480, .inl (nA (ed 3)))), ((ea 4), .inl (cI, 480, .inl (nA (ed 4)))), ((ea 5), .inl (cI, 480, .inl (nA (ed 5)))), ((ea 6), .inl (cI, 480, .inl (nA (ed 6)))), ((ea 7), .inl (cI, 480, .inl (nA (ed 7))))]) S hK hP hD hS 0 rfl p_SP_38 rfl rfl (Nat.le_of_ble_eq_true rfl) rfl d_SP_addEdition_12 (fun H locs hP hD hS => ?_)
    refine lv_aload_n hx hb d_SP_addEdition_15 rfl (lv_at hl 0 rfl) ?_
    refine ga_get S hK hP 0 rfl f_SP_38 rfl d_SP_addEdition_16 ?_
    refine ga_get S hK hP 2 rfl f_SP_92 rfl d_SP_addEdition_19 ?_
    refine lv_iconst (v := 0) hx hb d_SP_addEdition_22 (by decide) ?_
    refine lv_aload_n hx hb d_SP_addEdition_23 rfl (lv_at hl 0 rfl) ?_
    refine ga_get S hK hP 0 rfl f_SP_32 rfl d_SP_addEdition_24 ?_
    refine lv_aload_n hx hb d_SP_addEdition_27 rfl (lv_at hl 0 rfl) ?_
    refine ga_get S hK hP 0 rfl f_SP_67 rfl d_SP_addEdition_28 ?_
    refine ga_aaN S hK hP 4 3 rfl rfl 6 (by decide) (by decide) (a1 := ea 6) rfl d_SP_addEdition_31 ?_
    refine lv_iconst (v := 0) hx hb d_SP_addEdition_32 (by decide) ?_
    refine lv_sipush (v := 480) hx hb d_SP_addEdition_33 (by decide) ?_
    refine ga_copy (ws' := [(spo, .inr (5, [.ref re, .ref fa, .ref shh, .ref eo, .int (nI 6), .ref dr])), (re, .inr (2, [.ref te, .ref pl, .int (nI pos), .int (tI tr)])), (dr, .inr (1, [.ref d1, .ref d2, .ref d3, .ref d4, .ref d5, .ref d6, .ref d7, .ref d8, .ref d9, .int (nI drg)])), (d1, .inl (cI, 480, .inl (nA bn))), (eo, .inl (cG, 8, .inr (.inr (.inr (.inr (fun i => if i < 8 then some (ea i) else none)))))), ((ea 0), .inl (cI, 480, .inl (nA (ed 0)))), ((ea 1), .inl (cI, 480, .inl (nA (ed 1)))), ((ea 2), .inl (cI, 480, .inl (nA (ed 2)))), ((ea 3), .inl (cI, 480, .inl (nA (ed 3)))), ((ea 4), .inl (cI, 480, .inl (nA (ed 4)))), ((ea 5), .inl (cI, 480, .inl (nA (ed 5)))), ((ea 6), .inl (cI, 480, .inl (nA bn))), ((ea 7), .inl (cI, 480, .inl (nA (ed 7))))]) S hl.1 sy_SP_134 hK hP hD hS 3 11 rfl rfl rfl (Nat.le_of_ble_eq_true rfl) (by decide +kernel) rfl d_SP_addEdition_36 (fun H locs hP hD hS => ?_)
    refine lv_aload_n hx hb d_SP_addEdition_39 rfl (lv_at hl 0 rfl) ?_
    refine lv_dup hx hb d_SP_addEdition_40 rfl ?_
    refine ga_get S hK hP 0 rfl f_SP_67 rfl d_SP_addEdition_41 ?_
    refine lv_iconst (v := 1) hx hb d_SP_addEdition_44 (by decide) ?_
    refine lv_iadd hx hb d_SP_addEdition_45 ?_
    refine ga_top (nI (6 + 1)) (nI_add 6 1) ?_
    refine ga_put (ws' := [(spo, .inr (5, [.ref re, .ref fa, .ref shh, .ref eo, .int (nI (6 + 1)), .ref dr])), (re, .inr (2, [.ref te, .ref pl, .int (nI pos), .int (tI tr)])), (dr, .inr (1, [.ref d1, .ref d2, .ref d3, .ref d4, .ref d5, .ref d6, .ref d7, .ref d8, .ref d9, .int (nI drg)])), (d1, .inl (cI, 480, .inl (nA bn))), (eo, .inl (cG, 8, .inr (.inr (.inr (.inr (fun i => if i < 8 then some (ea i) else none)))))), ((ea 0), .inl (cI, 480, .inl (nA (ed 0)))), ((ea 1), .inl (cI, 480, .inl (nA (ed 1)))), ((ea 2), .inl (cI, 480, .inl (nA (ed 2)))), ((ea 3), .inl (cI, 480, .inl (nA (ed 3)))), ((ea 4), .inl (cI, 480, .inl (nA (ed 4)))), ((ea 5), .inl (cI, 480, .inl (nA (ed 5)))), ((ea 6), .inl (cI, 480, .inl (nA bn))), ((ea 7), .inl (cI, 480, .inl (nA (ed 7))))]) S hK hP hD hS 0 rfl p_SP_67 rfl rfl (Nat.le_of_ble_eq_true rfl) rfl d_SP_addEdition_46 (fun H locs hP hD hS => ?_)
    exact ga_wv () S hrt hlk hP hD hS trivial d_SP_addEdition_49
  · refine lv_aload_n hx hb d_SP_addEdition_0 rfl (lv_at hl 0 rfl) ?_
    refine lv_aload_n hx hb d_SP_addEdition_1 rfl (lv_at hl 0 rfl) ?_
    refine ga_get S hK hP 0 rfl f_SP_12 rfl d_SP_addEdition_2 ?_
    refine lv_aload_n hx hb d_SP_addEdition_5 rfl (lv_at hl 0 rfl) ?_
    refine ga_get S hK hP 0 rfl f_SP_38 rfl d_SP_addEdition_6 ?_
    refine ga_jq (wr := [(spo, .inr (5, [.ref re, .ref fa, .ref shh, .ref eo, .int (nI 7), .ref pl])), (dr, .inr (1, [.ref d1, .ref d2, .ref d3, .ref d4, .ref d5, .ref d6, .ref d7, .ref d8, .ref d9, .int (nI drg)])), (d1, .inl (cI, 480, .inl (nA bn))), (eo, .inl (cG, 8, .inr (.inr (.inr (.inr (fun i => if i < 8 then some (ea i) else none)))))), ((ea 0), .inl (cI, 480, .inl (nA (ed 0)))), ((ea 1), .inl (cI, 480, .inl (nA (ed 1)))), ((ea 2), .inl (cI, 480, .inl (nA (ed 2)))), ((ea 3), .inl (cI, 480, .inl (nA (ed 3)))), ((ea 4), .inl (cI, 480, .inl (nA (ed 4)))), ((ea 5), .inl (cI, 480, .inl (nA (ed 5)))), ((ea 6), .inl (cI, 480, .inl (nA (ed 6)))), ((ea 7), .inl (cI, 480, .inl (nA (ed 7))))]) (ga_runV (As := [.ref pl]) (rest := [.ref spo]) S hK s_SP_130 (gc_Re_giveDraftFor l D cI cZ cC cG re te dr pos pl tr _) (ga_prV (y := y_Re_giveDraftFor) (q0 := 1) hK hP hD [1] rfl (by decide) rfl rfl) rfl hl.1 rfl (Nat.le_of_ble_eq_true rfl) ⟨Nat.le_of_ble_eq_true rfl, Nat.le_of_ble_eq_true rfl⟩ ⟨Nat.le_of_ble_eq_true rfl, Nat.le_of_ble_eq_true rfl⟩ d_SP_addEdition_9) hP hD hS hA [1] [0, 2, 3, 4, 5, 6, 7, 8, 9, 10, 11, 12] rfl rfl (by decide) (by decide) [0, 12, 1, 2, 3, 4, 5, 6, 7, 8, 9, 10, 11] (fun _ => [(spo, .inr (5, [.ref re, .ref fa, .ref shh, .ref eo, .int (nI 7), .ref pl])), (re, .inr (2, [.ref te, .ref pl, .int (nI pos), .int (tI tr)])), (dr, .inr (1, [.ref d1, .ref d2, .ref d3, .ref d4, .ref d5, .ref d6, .ref d7, .ref d8, .ref d9, .int (nI drg)])), (d1, .inl (cI, 480, .inl (nA bn))), (eo, .inl (cG, 8, .inr (.inr (.inr (.inr (fun i => if i < 8 then some (ea i) else none)))))), ((ea 0), .inl (cI, 480, .inl (nA (ed 0)))), ((ea 1), .inl (cI, 480, .inl (nA (ed 1)))), ((ea 2), .inl (cI, 480, .inl (nA (ed 2)))), ((ea 3), .inl (cI, 480, .inl (nA (ed 3)))), ((ea 4), .inl (cI, 480, .inl (nA (ed 4)))), ((ea 5), .inl (cI, 480, .inl (nA (ed 5)))), ((ea 6), .inl (cI, 480, .inl (nA (ed 6)))), ((ea 7), .inl (cI, 480, .inl (nA (ed 7))))]) (fun _ => rfl) (by decide) (fun x H locs hp9 hP hD hS => ?_)
    refine ga_put (ws' := [(spo, .inr (5, [.ref re, .ref fa, .ref shh, .ref eo, .int (nI 7), .ref dr])), (re, .inr (2, [.ref te, .ref pl, .int (nI pos), .int (tI tr)])), (dr, .inr (1, [.ref d1, .ref d2, .ref d3, .ref d4, .ref d5, .ref d6, .ref d7, .ref d8, .ref d9, .int (nI drg)])), (d1, .inl (cI, 480, .inl (nA bn))), (eo, .inl (cG, 8, .inr (.inr (.inr (.inr (fun i => if i < 8 then some (ea i) else none)))))), ((ea 0), .inl (cI, 480, .inl (nA (ed 0)))), ((ea 1), .inl (cI, 480, .inl (nA (ed 1)))), ((ea 2), .inl (cI, 480, .inl (nA (ed 2)))), ((ea 3), .inl (cI, 480, .inl (nA (ed 3)))), ((ea 4), .inl (cI, 480, .inl (nA (ed 4)))), ((ea 5), .inl (cI, 480, .inl (nA (ed 5)))), ((ea 6), .inl (cI, 480, .inl (nA (ed 6)))), ((ea 7), .inl (cI, 480, .inl (nA (ed 7))))]) S hK hP hD hS 0 rfl p_SP_38 rfl rfl (Nat.le_of_ble_eq_true rfl) rfl d_SP_addEdition_12 (fun H locs hP hD hS => ?_)
    refine lv_aload_n hx hb d_SP_addEdition_15 rfl (lv_at hl 0 rfl) ?_
    refine ga_get S hK hP 0 rfl f_SP_38 rfl d_SP_addEdition_16 ?_
    refine ga_get S hK hP 2 rfl f_SP_92 rfl d_SP_addEdition_19 ?_
    refine lv_iconst (v := 0) hx hb d_SP_addEdition_22 (by decide) ?_
    refine lv_aload_n hx hb d_SP_addEdition_23 rfl (lv_at hl 0 rfl) ?_
    refine ga_get S hK hP 0 rfl f_SP_32 rfl d_SP_addEdition_24 ?_
    refine lv_aload_n hx hb d_SP_addEdition_27 rfl (lv_at hl 0 rfl) ?_
    refine ga_get S hK hP 0 rfl f_SP_67 rfl d_SP_addEdition_28 ?_
    refine ga_aaN S hK hP 4 3 rfl rfl 7 (by decide) (by decide) (a1 := ea 7) rfl d_SP_addEdition_31 ?_
    refine lv_iconst (v := 0) hx hb d_SP_addEdition_32 (by decide) ?_
    refine lv_sipush (v := 480) hx hb d_SP_addEdition_33 (by decide) ?_
    refine ga_copy (ws' := [(spo, .inr (5, [.ref re, .ref fa, .ref shh, .ref eo, .int (nI 7), .ref dr])), (re, .inr (2, [.ref te, .ref pl, .int (nI pos), .int (tI tr)])), (dr, .inr (1, [.ref d1, .ref d2, .ref d3, .ref d4, .ref d5, .ref d6, .ref d7, .ref d8, .ref d9, .int (nI drg)])), (d1, .inl (cI, 480, .inl (nA bn))), (eo, .inl (cG, 8, .inr (.inr (.inr (.inr (fun i => if i < 8 then some (ea i) else none)))))), ((ea 0), .inl (cI, 480, .inl (nA (ed 0)))), ((ea 1), .inl (cI, 480, .inl (nA (ed 1)))), ((ea 2), .inl (cI, 480, .inl (nA (ed 2)))), ((ea 3), .inl (cI, 480, .inl (nA (ed 3)))), ((ea 4), .inl (cI, 480, .inl (nA (ed 4)))), ((ea 5), .inl (cI, 480, .inl (nA (ed 5)))), ((ea 6), .inl (cI, 480, .inl (nA (ed 6)))), ((ea 7), .inl (cI, 480, .inl (nA bn)))]) S hl.1 sy_SP_134 hK hP hD hS 3 12 rfl rfl rfl (Nat.le_of_ble_eq_true rfl) (by decide +kernel) rfl d_SP_addEdition_36 (fun H locs hP hD hS => ?_)
    refine lv_aload_n hx hb d_SP_addEdition_39 rfl (lv_at hl 0 rfl) ?_
    refine lv_dup hx hb d_SP_addEdition_40 rfl ?_
    refine ga_get S hK hP 0 rfl f_SP_67 rfl d_SP_addEdition_41 ?_
    refine lv_iconst (v := 1) hx hb d_SP_addEdition_44 (by decide) ?_
    refine lv_iadd hx hb d_SP_addEdition_45 ?_
    refine ga_top (nI (7 + 1)) (nI_add 7 1) ?_
    refine ga_put (ws' := [(spo, .inr (5, [.ref re, .ref fa, .ref shh, .ref eo, .int (nI (7 + 1)), .ref dr])), (re, .inr (2, [.ref te, .ref pl, .int (nI pos), .int (tI tr)])), (dr, .inr (1, [.ref d1, .ref d2, .ref d3, .ref d4, .ref d5, .ref d6, .ref d7, .ref d8, .ref d9, .int (nI drg)])), (d1, .inl (cI, 480, .inl (nA bn))), (eo, .inl (cG, 8, .inr (.inr (.inr (.inr (fun i => if i < 8 then some (ea i) else none)))))), ((ea 0), .inl (cI, 480, .inl (nA (ed 0)))), ((ea 1), .inl (cI, 480, .inl (nA (ed 1)))), ((ea 2), .inl (cI, 480, .inl (nA (ed 2)))), ((ea 3), .inl (cI, 480, .inl (nA (ed 3)))), ((ea 4), .inl (cI, 480, .inl (nA (ed 4)))), ((ea 5), .inl (cI, 480, .inl (nA (ed 5)))), ((ea 6), .inl (cI, 480, .inl (nA (ed 6)))), ((ea 7), .inl (cI, 480, .inl (nA bn)))]) S hK hP hD hS 0 rfl p_SP_67 rfl rfl (Nat.le_of_ble_eq_true rfl) rfl d_SP_addEdition_46 (fun H locs hP hD hS => ?_)
    exact ga_wv () S hrt hlk hP hD hS trivial d_SP_addEdition_49
set_option maxHeartbeats 4000000 in
set_option maxRecDepth 100000 in
theorem gc_SP_compare (l : Launch) (D : va_G) (cI cZ cC cG : ClassId) (spo re fa shh eo ec pl : Nat) (hec : ec ≤ 8) (q1 q2 q3 q4 q5 q6 q7 q8 q9 rg : Nat) (ea : Nat → Nat) (ed : Nat → Nat → Nat) (bn : Nat → Nat) (e9 : Int32) (hbn : ∀ j, bn j ≤ 60) (hed : ∀ i j, ed i j ≤ 60) : ga_Mr l y_SP_compare b_SP_compare 3 (some .int) 6 D (ga_T cI cZ cC cG) [.ref spo, .int e9] [(spo, .inr (5, [.ref re, .ref fa, .ref shh, .ref eo, .int (nI ec), .ref pl])), (pl, .inr (1, [.ref q1, .ref q2, .ref q3, .ref q4, .ref q5, .ref q6, .ref q7, .ref q8, .ref q9, .int (nI rg)])), (q1, .inl (cI, 480, .inl (nA bn))), (eo, .inl (cG, 8, .inr (.inr (.inr (.inr (fun i => if i < 8 then some (ea i) else none)))))), ((ea 0), .inl (cI, 480, .inl (nA (ed 0)))), ((ea 1), .inl (cI, 480, .inl (nA (ed 1)))), ((ea 2), .inl (cI, 480, .inl (nA (ed 2)))), ((ea 3), .inl (cI, 480, .inl (nA (ed 3)))), ((ea 4), .inl (cI, 480, .inl (nA (ed 4)))), ((ea 5), .inl (cI, 480, .inl (nA (ed 5)))), ((ea 6), .inl (cI, 480, .inl (nA (ed 6)))), ((ea 7), .inl (cI, 480, .inl (nA (ed 7))))] (fun r => (ec = 0 ∧ ¬ (0 ≤ e9 ∧ e9 ≤ 7) ∧ r = -101) ∨ (ec = 0 ∧ (0 ≤ e9 ∧ e9 ≤ 7) ∧ r = -103) ∨ (ec ≠ 0 ∧ ¬ (0 ≤ e9 ∧ e9 ≤ nI (ec - 1)) ∧ r = -101) ∨ (ec ≠ 0 ∧ (0 ≤ e9 ∧ e9 ≤ nI (ec - 1)) ∧ r = nI (gp_cn (fun k => gp_otn bn (ed e9.toNatClampNeg) (gp_sl (k + 1) 0 0) 12) 40))) := by
  refine ga_enR (by decide) (Nat.le_of_ble_eq_true rfl) ?_
  intro p e s m below meth c ls S hrt hlk hK hP hl
  obtain ⟨hx, hb, hml, hown, hts⟩ := id S
  have hl : lv_has ls 3 [(0, .ref spo), (1, .int e9)] := hl
  refine lv_aload_n hx hb d_SP_compare_0 rfl (lv_at hl 0 rfl) ?_
  refine ga_cr (As := []) (rest := []) (q0 := 0) S hK hP s_SP_77 (gc_SP_hasPlan l D cI cZ cC cG spo re fa shh eo ec pl (by omega)) [0] rfl rfl rfl rfl hl.1 rfl (Nat.le_of_ble_eq_true rfl) ⟨Nat.le_of_ble_eq_true rfl, Nat.le_of_ble_eq_true rfl⟩ ⟨Nat.le_of_ble_eq_true rfl, Nat.le_of_ble_eq_true rfl⟩ d_SP_compare_1 (fun r hp1 => ?_)
  rcases hp1 with ⟨rfl, hp1⟩ | ⟨rfl, hp1⟩
  · refine lv_if_eq (tgt := 14) hx hb d_SP_compare_4 (by decide) (fun c4 => ?_) (fun c4 => ?_)
    · exact absurd c4 (by decide)
    · refine lv_aload_n hx hb d_SP_compare_7 rfl (lv_at hl 0 rfl) ?_
      refine ga_get S hK hP 0 rfl f_SP_67 rfl d_SP_compare_8 ?_
      refine lv_goto (tgt := 16) hx hb d_SP_compare_11 (by decide) ?_
      refine lv_istore_n (lv' := [(2, .int (nI ec)), (0, .ref spo), (1, .int e9)]) hx hb d_SP_compare_16 rfl hl (by decide) rfl (fun ls hl => ?_)
      refine lv_iload_n hx hb d_SP_compare_17 rfl (lv_at hl 2 rfl) ?_
      refine lv_iconst (v := 0) hx hb d_SP_compare_18 (by decide) ?_
      refine lv_iload_n hx hb d_SP_compare_19 rfl (lv_at hl 0 rfl) ?_
      refine lv_iconst (v := 1) hx hb d_SP_compare_20 (by decide) ?_
      refine lv_isub hx hb d_SP_compare_21 ?_
      refine ga_top (nI (ec - 1)) (pk_sub (a := ec) (b := 1) (by omega)) ?_
      refine ga_cs (As := [.int e9, .int 0, .int (nI (ec - 1))]) (rest := []) S hK hP s_SP_73 (gc_SP_isWithin l D cI cZ cC cG e9 0 (nI (ec - 1))) [] rfl rfl hl.1 rfl (Nat.le_of_ble_eq_true rfl) ⟨Nat.le_of_ble_eq_true rfl, Nat.le_of_ble_eq_true rfl⟩ ⟨Nat.le_of_ble_eq_true rfl, Nat.le_of_ble_eq_true rfl⟩ d_SP_compare_22 (fun r hp22 => ?_)
      rcases hp22 with ⟨rfl, hp22⟩ | ⟨rfl, hp22⟩
      · refine lv_if_ne (tgt := 31) hx hb d_SP_compare_25 (by decide) (fun c25 => ?_) (fun c25 => ?_)
        · refine lv_aload_n hx hb d_SP_compare_31 rfl (lv_at hl 1 rfl) ?_
          refine ga_cr (As := []) (rest := []) (q0 := 0) S hK hP s_SP_77 (gc_SP_hasPlan l D cI cZ cC cG spo re fa shh eo ec pl (by omega)) [0] rfl rfl rfl rfl hl.1 rfl (Nat.le_of_ble_eq_true rfl) ⟨Nat.le_of_ble_eq_true rfl, Nat.le_of_ble_eq_true rfl⟩ ⟨Nat.le_of_ble_eq_true rfl, Nat.le_of_ble_eq_true rfl⟩ d_SP_compare_32 (fun r hp32 => ?_)
          rcases hp32 with ⟨rfl, hp32⟩ | ⟨rfl, hp32⟩
          · refine lv_if_eq (tgt := 54) hx hb d_SP_compare_35 (by decide) (fun c35 => ?_) (fun c35 => ?_)
            · exact absurd c35 (by decide)
            · obtain ⟨eN, he7, rfl⟩ := nI_of (x := e9) (fun q => absurd (Int32.lt_of_le_of_lt hp22.1 q) (by decide))
              have he8 : eN ≤ ec - 1 := (nI_leI (a := eN) (b := ec - 1) (by omega) (by omega)).mp hp22.2
              rcases (show eN = 0 ∨ eN = 1 ∨ eN = 2 ∨ eN = 3 ∨ eN = 4 ∨ eN = 5 ∨ eN = 6 ∨ eN = 7 by omega) with rfl | rfl | rfl | rfl | rfl | rfl | rfl | rfl
              · refine lv_aload_n hx hb d_SP_compare_38 rfl (lv_at hl 1 rfl) ?_
                refine ga_get S hK hP 0 rfl f_SP_38 rfl d_SP_compare_39 ?_
                refine lv_aload_n hx hb d_SP_compare_42 rfl (lv_at hl 1 rfl) ?_
                refine ga_get S hK hP 0 rfl f_SP_32 rfl d_SP_compare_43 ?_
                refine lv_iload_n hx hb d_SP_compare_46 rfl (lv_at hl 2 rfl) ?_
                refine ga_aaN S hK hP 3 3 rfl rfl 0 (by decide) (by decide) (a1 := ea 0) rfl d_SP_compare_47 ?_
                refine ga_cr (As := [.ref ((ea 0))]) (rest := []) (q0 := 1) S hK hP s_SP_110 (gc_Pl_countTargetsOtherThan l D cI cZ cC cG pl q1 q2 q3 q4 q5 q6 q7 q8 q9 rg (ea 0) bn (ed 0) hbn (hed _)) [1, 2, 4] rfl rfl rfl rfl hl.1 rfl (Nat.le_of_ble_eq_true rfl) ⟨Nat.le_of_ble_eq_true rfl, Nat.le_of_ble_eq_true rfl⟩ ⟨Nat.le_of_ble_eq_true rfl, Nat.le_of_ble_eq_true rfl⟩ d_SP_compare_48 (fun r hp48 => ?_)
                refine lv_goto (tgt := 56) hx hb d_SP_compare_51 (by decide) ?_
                exact ga_ri S hrt hlk (Or.inr (Or.inr (Or.inr ⟨hp1, hp22, by rw [hp48, nI_clamp (by decide)]⟩))) d_SP_compare_56
              · refine lv_aload_n hx hb d_SP_compare_38 rfl (lv_at hl 1 rfl) ?_
                refine ga_get S hK hP 0 rfl f_SP_38 rfl d_SP_compare_39 ?_
                refine lv_aload_n hx hb d_SP_compare_42 rfl (lv_at hl 1 rfl) ?_
                refine ga_get S hK hP 0 rfl f_SP_32 rfl d_SP_compare_43 ?_
                refine lv_iload_n hx hb d_SP_compare_46 rfl (lv_at hl 2 rfl) ?_
                refine ga_aaN S hK hP 3 3 rfl rfl 1 (by decide) (by decide) (a1 := ea 1) rfl d_SP_compare_47 ?_
                refine ga_cr (As := [.ref ((ea 1))]) (rest := []) (q0 := 1) S hK hP s_SP_110 (gc_Pl_countTargetsOtherThan l D cI cZ cC cG pl q1 q2 q3 q4 q5 q6 q7 q8 q9 rg (ea 1) bn (ed 1) hbn (hed _)) [1, 2, 5] rfl rfl rfl rfl hl.1 rfl (Nat.le_of_ble_eq_true rfl) ⟨Nat.le_of_ble_eq_true rfl, Nat.le_of_ble_eq_true rfl⟩ ⟨Nat.le_of_ble_eq_true rfl, Nat.le_of_ble_eq_true rfl⟩ d_SP_compare_48 (fun r hp48 => ?_)
                refine lv_goto (tgt := 56) hx hb d_SP_compare_51 (by decide) ?_
                exact ga_ri S hrt hlk (Or.inr (Or.inr (Or.inr ⟨hp1, hp22, by rw [hp48, nI_clamp (by decide)]⟩))) d_SP_compare_56
              · refine lv_aload_n hx hb d_SP_compare_38 rfl (lv_at hl 1 rfl) ?_
                refine ga_get S hK hP 0 rfl f_SP_38 rfl d_SP_compare_39 ?_
                refine lv_aload_n hx hb d_SP_compare_42 rfl (lv_at hl 1 rfl) ?_
                refine ga_get S hK hP 0 rfl f_SP_32 rfl d_SP_compare_43 ?_
                refine lv_iload_n hx hb d_SP_compare_46 rfl (lv_at hl 2 rfl) ?_
                refine ga_aaN S hK hP 3 3 rfl rfl 2 (by decide) (by decide) (a1 := ea 2) rfl d_SP_compare_47 ?_
                refine ga_cr (As := [.ref ((ea 2))]) (rest := []) (q0 := 1) S hK hP s_SP_110 (gc_Pl_countTargetsOtherThan l D cI cZ cC cG pl q1 q2 q3 q4 q5 q6 q7 q8 q9 rg (ea 2) bn (ed 2) hbn (hed _)) [1, 2, 6] rfl rfl rfl rfl hl.1 rfl (Nat.le_of_ble_eq_true rfl) ⟨Nat.le_of_ble_eq_true rfl, Nat.le_of_ble_eq_true rfl⟩ ⟨Nat.le_of_ble_eq_true rfl, Nat.le_of_ble_eq_true rfl⟩ d_SP_compare_48 (fun r hp48 => ?_)
                refine lv_goto (tgt := 56) hx hb d_SP_compare_51 (by decide) ?_
                exact ga_ri S hrt hlk (Or.inr (Or.inr (Or.inr ⟨hp1, hp22, by rw [hp48, nI_clamp (by decide)]⟩))) d_SP_compare_56
              · refine lv_aload_n hx hb d_SP_compare_38 rfl (lv_at hl 1 rfl) ?_
                refine ga_get S hK hP 0 rfl f_SP_38 rfl d_SP_compare_39 ?_
                refine lv_aload_n hx hb d_SP_compare_42 rfl (lv_at hl 1 rfl) ?_
                refine ga_get S hK hP 0 rfl f_SP_32 rfl d_SP_compare_43 ?_
                refine lv_iload_n hx hb d_SP_compare_46 rfl (lv_at hl 2 rfl) ?_
                refine ga_aaN S hK hP 3 3 rfl rfl 3 (by decide) (by decide) (a1 := ea 3) rfl d_SP_compare_47 ?_
                refine ga_cr (As := [.ref ((ea 3))]) (rest := []) (q0 := 1) S hK hP s_SP_110 (gc_Pl_countTargetsOtherThan l D cI cZ cC cG pl q1 q2 q3 q4 q5 q6 q7 q8 q9 rg (ea 3) bn (ed 3) hbn (hed _)) [1, 2, 7] rfl rfl rfl rfl hl.1 rfl (Nat.le_of_ble_eq_true rfl) ⟨Nat.le_of_ble_eq_true rfl, Nat.le_of_ble_eq_true rfl⟩ ⟨Nat.le_of_ble_eq_true rfl, Nat.le_of_ble_eq_true rfl⟩ d_SP_compare_48 (fun r hp48 => ?_)
                refine lv_goto (tgt := 56) hx hb d_SP_compare_51 (by decide) ?_
                exact ga_ri S hrt hlk (Or.inr (Or.inr (Or.inr ⟨hp1, hp22, by rw [hp48, nI_clamp (by decide)]⟩))) d_SP_compare_56
              · refine lv_aload_n hx hb d_SP_compare_38 rfl (lv_at hl 1 rfl) ?_
                refine ga_get S hK hP 0 rfl f_SP_38 rfl d_SP_compare_39 ?_
                refine lv_aload_n hx hb d_SP_compare_42 rfl (lv_at hl 1 rfl) ?_
                refine ga_get S hK hP 0 rfl f_SP_32 rfl d_SP_compare_43 ?_
                refine lv_iload_n hx hb d_SP_compare_46 rfl (lv_at hl 2 rfl) ?_
                refine ga_aaN S hK hP 3 3 rfl rfl 4 (by decide) (by decide) (a1 := ea 4) rfl d_SP_compare_47 ?_
                refine ga_cr (As := [.ref ((ea 4))]) (rest := []) (q0 := 1) S hK hP s_SP_110 (gc_Pl_countTargetsOtherThan l D cI cZ cC cG pl q1 q2 q3 q4 q5 q6 q7 q8 q9 rg (ea 4) bn (ed 4) hbn (hed _)) [1, 2, 8] rfl rfl rfl rfl hl.1 rfl (Nat.le_of_ble_eq_true rfl) ⟨Nat.le_of_ble_eq_true rfl, Nat.le_of_ble_eq_true rfl⟩ ⟨Nat.le_of_ble_eq_true rfl, Nat.le_of_ble_eq_true rfl⟩ d_SP_compare_48 (fun r hp48 => ?_)
                refine lv_goto (tgt := 56) hx hb d_SP_compare_51 (by decide) ?_
                exact ga_ri S hrt hlk (Or.inr (Or.inr (Or.inr ⟨hp1, hp22, by rw [hp48, nI_clamp (by decide)]⟩))) d_SP_compare_56
              · refine lv_aload_n hx hb d_SP_compare_38 rfl (lv_at hl 1 rfl) ?_
                refine ga_get S hK hP 0 rfl f_SP_38 rfl d_SP_compare_39 ?_
                refine lv_aload_n hx hb d_SP_compare_42 rfl (lv_at hl 1 rfl) ?_
                refine ga_get S hK hP 0 rfl f_SP_32 rfl d_SP_compare_43 ?_
                refine lv_iload_n hx hb d_SP_compare_46 rfl (lv_at hl 2 rfl) ?_
                refine ga_aaN S hK hP 3 3 rfl rfl 5 (by decide) (by decide) (a1 := ea 5) rfl d_SP_compare_47 ?_
                refine ga_cr (As := [.ref ((ea 5))]) (rest := []) (q0 := 1) S hK hP s_SP_110 (gc_Pl_countTargetsOtherThan l D cI cZ cC cG pl q1 q2 q3 q4 q5 q6 q7 q8 q9 rg (ea 5) bn (ed 5) hbn (hed _)) [1, 2, 9] rfl rfl rfl rfl hl.1 rfl (Nat.le_of_ble_eq_true rfl) ⟨Nat.le_of_ble_eq_true rfl, Nat.le_of_ble_eq_true rfl⟩ ⟨Nat.le_of_ble_eq_true rfl, Nat.le_of_ble_eq_true rfl⟩ d_SP_compare_48 (fun r hp48 => ?_)
                refine lv_goto (tgt := 56) hx hb d_SP_compare_51 (by decide) ?_
                exact ga_ri S hrt hlk (Or.inr (Or.inr (Or.inr ⟨hp1, hp22, by rw [hp48, nI_clamp (by decide)]⟩))) d_SP_compare_56
              · refine lv_aload_n hx hb d_SP_compare_38 rfl (lv_at hl 1 rfl) ?_
                refine ga_get S hK hP 0 rfl f_SP_38 rfl d_SP_compare_39 ?_
                refine lv_aload_n hx hb d_SP_compare_42 rfl (lv_at hl 1 rfl) ?_
                refine ga_get S hK hP 0 rfl f_SP_32 rfl d_SP_compare_43 ?_
                refine lv_iload_n hx hb d_SP_compare_46 rfl (lv_at hl 2 rfl) ?_
                refine ga_aaN S hK hP 3 3 rfl rfl 6 (by decide) (by decide) (a1 := ea 6) rfl d_SP_compare_47 ?_
                refine ga_cr (As := [.ref ((ea 6))]) (rest := []) (q0 := 1) S hK hP s_SP_110 (gc_Pl_countTargetsOtherThan l D cI cZ cC cG pl q1 q2 q3 q4 q5 q6 q7 q8 q9 rg (ea 6) bn (ed 6) hbn (hed _)) [1, 2, 10] rfl rfl rfl rfl hl.1 rfl (Nat.le_of_ble_eq_true rfl) ⟨Nat.le_of_ble_eq_true rfl, Nat.le_of_ble_eq_true rfl⟩ ⟨Nat.le_of_ble_eq_true rfl, Nat.le_of_ble_eq_true rfl⟩ d_SP_compare_48 (fun r hp48 => ?_)
                refine lv_goto (tgt := 56) hx hb d_SP_compare_51 (by decide) ?_
                exact ga_ri S hrt hlk (Or.inr (Or.inr (Or.inr ⟨hp1, hp22, by rw [hp48, nI_clamp (by decide)]⟩))) d_SP_compare_56
              · refine lv_aload_n hx hb d_SP_compare_38 rfl (lv_at hl 1 rfl) ?_
                refine ga_get S hK hP 0 rfl f_SP_38 rfl d_SP_compare_39 ?_
                refine lv_aload_n hx hb d_SP_compare_42 rfl (lv_at hl 1 rfl) ?_
                refine ga_get S hK hP 0 rfl f_SP_32 rfl d_SP_compare_43 ?_
                refine lv_iload_n hx hb d_SP_compare_46 rfl (lv_at hl 2 rfl) ?_
                refine ga_aaN S hK hP 3 3 rfl rfl 7 (by decide) (by decide) (a1 := ea 7) rfl d_SP_compare_47 ?_
                refine ga_cr (As := [.ref ((ea 7))]) (rest := []) (q0 := 1) S hK hP s_SP_110 (gc_Pl_countTargetsOtherThan l D cI cZ cC cG pl q1 q2 q3 q4 q5 q6 q7 q8 q9 rg (ea 7) bn (ed 7) hbn (hed _)) [1, 2, 11] rfl rfl rfl rfl hl.1 rfl (Nat.le_of_ble_eq_true rfl) ⟨Nat.le_of_ble_eq_true rfl, Nat.le_of_ble_eq_true rfl⟩ ⟨Nat.le_of_ble_eq_true rfl, Nat.le_of_ble_eq_true rfl⟩ d_SP_compare_48 (fun r hp48 => ?_)
                refine lv_goto (tgt := 56) hx hb d_SP_compare_51 (by decide) ?_
                exact ga_ri S hrt hlk (Or.inr (Or.inr (Or.inr ⟨hp1, hp22, by rw [hp48, nI_clamp (by decide)]⟩))) d_SP_compare_56
          · exact absurd hp32 hp1
        · exact absurd c25 (by decide)
      · refine lv_if_ne (tgt := 31) hx hb d_SP_compare_25 (by decide) (fun c25 => ?_) (fun c25 => ?_)
        · exact absurd c25 (by decide)
        · refine lv_bipush (v := (-101)) hx hb d_SP_compare_28 (by decide) ?_
          first | exact ga_ri S hrt hlk (Or.inl ⟨hp1, hp22, rfl⟩) d_SP_compare_30 | exact ga_ri S hrt hlk (Or.inr (Or.inr (Or.inl ⟨hp1, hp22, rfl⟩))) d_SP_compare_30
  · refine lv_if_eq (tgt := 14) hx hb d_SP_compare_4 (by decide) (fun c4 => ?_) (fun c4 => ?_)
    · refine lv_bipush (v := 8) hx hb d_SP_compare_14 (by decide) ?_
      refine lv_istore_n (lv' := [(2, .int 8), (0, .ref spo), (1, .int e9)]) hx hb d_SP_compare_16 rfl hl (by decide) rfl (fun ls hl => ?_)
      refine lv_iload_n hx hb d_SP_compare_17 rfl (lv_at hl 2 rfl) ?_
      refine lv_iconst (v := 0) hx hb d_SP_compare_18 (by decide) ?_
      refine lv_iload_n hx hb d_SP_compare_19 rfl (lv_at hl 0 rfl) ?_
      refine lv_iconst (v := 1) hx hb d_SP_compare_20 (by decide) ?_
      refine lv_isub hx hb d_SP_compare_21 ?_
      refine ga_top (7) (by decide) ?_
      refine ga_cs (As := [.int e9, .int 0, .int 7]) (rest := []) S hK hP s_SP_73 (gc_SP_isWithin l D cI cZ cC cG e9 0 7) [] rfl rfl hl.1 rfl (Nat.le_of_ble_eq_true rfl) ⟨Nat.le_of_ble_eq_true rfl, Nat.le_of_ble_eq_true rfl⟩ ⟨Nat.le_of_ble_eq_true rfl, Nat.le_of_ble_eq_true rfl⟩ d_SP_compare_22 (fun r hp22 => ?_)
      rcases hp22 with ⟨rfl, hp22⟩ | ⟨rfl, hp22⟩
      · refine lv_if_ne (tgt := 31) hx hb d_SP_compare_25 (by decide) (fun c25 => ?_) (fun c25 => ?_)
        · refine lv_aload_n hx hb d_SP_compare_31 rfl (lv_at hl 1 rfl) ?_
          refine ga_cr (As := []) (rest := []) (q0 := 0) S hK hP s_SP_77 (gc_SP_hasPlan l D cI cZ cC cG spo re fa shh eo ec pl (by omega)) [0] rfl rfl rfl rfl hl.1 rfl (Nat.le_of_ble_eq_true rfl) ⟨Nat.le_of_ble_eq_true rfl, Nat.le_of_ble_eq_true rfl⟩ ⟨Nat.le_of_ble_eq_true rfl, Nat.le_of_ble_eq_true rfl⟩ d_SP_compare_32 (fun r hp32 => ?_)
          rcases hp32 with ⟨rfl, hp32⟩ | ⟨rfl, hp32⟩
          · exact absurd hp1 hp32
          · refine lv_if_eq (tgt := 54) hx hb d_SP_compare_35 (by decide) (fun c35 => ?_) (fun c35 => ?_)
            · refine lv_bipush (v := (-103)) hx hb d_SP_compare_54 (by decide) ?_
              exact ga_ri S hrt hlk (Or.inr (Or.inl ⟨hp1, hp22, rfl⟩)) d_SP_compare_56
            · exact absurd c35 (by decide)
        · exact absurd c25 (by decide)
      · refine lv_if_ne (tgt := 31) hx hb d_SP_compare_25 (by decide) (fun c25 => ?_) (fun c25 => ?_)
        · exact absurd c25 (by decide)
        · refine lv_bipush (v := (-101)) hx hb d_SP_compare_28 (by decide) ?_
          first | exact ga_ri S hrt hlk (Or.inl ⟨hp1, hp22, rfl⟩) d_SP_compare_30 | exact ga_ri S hrt hlk (Or.inr (Or.inr (Or.inl ⟨hp1, hp22, rfl⟩))) d_SP_compare_30
    · exact absurd c4 (by decide)
