theorem ko_i : Cond.instanceMethod objectInit ∈ gw := gw_at 46 (by decide +kernel) (by decide +kernel)
theorem ko_c : Cond.code objectInit ⟨#[0xb1]⟩ 1 none ∈ gw := gw_at 47 (by decide +kernel) (by decide +kernel)
theorem oi_SP_3 : Cond.methodLink "SortPlans" 3 objectInit ∈ gw := gw_at 45 (by decide +kernel) (by decide +kernel)
theorem oi_Re_3 : Cond.methodLink "SortPlans$Reading" 3 objectInit ∈ gw := gw_at 53 (by decide +kernel) (by decide +kernel)
theorem oi_Te_1 : Cond.methodLink "SortPlans$Text" 1 objectInit ∈ gw := gw_at 59 (by decide +kernel) (by decide +kernel)
theorem ac_char : Cond.arrayClass .char ∈ gw := gw_at 69 (by decide +kernel) (by decide +kernel)
theorem oi_Pl_5 : Cond.methodLink "SortPlans$Plan" 5 objectInit ∈ gw := gw_at 75 (by decide +kernel) (by decide +kernel)
theorem ac_int : Cond.arrayClass .int ∈ gw := gw_at 113 (by decide +kernel) (by decide +kernel)
theorem ac_boolean : Cond.arrayClass .boolean ∈ gw := gw_at 114 (by decide +kernel) (by decide +kernel)
theorem oi_Fa_3 : Cond.methodLink "SortPlans$Faults" 3 objectInit ∈ gw := gw_at 135 (by decide +kernel) (by decide +kernel)
theorem oi_Sh_3 : Cond.methodLink "SortPlans$Sheet" 3 objectInit ∈ gw := gw_at 149 (by decide +kernel) (by decide +kernel)
theorem cl_SP_30 : Cond.classLink "SortPlans" 30 "[[I" ∈ gw := gw_at 157 (by decide +kernel) (by decide +kernel)
theorem sy_SP_134 : Cond.methodLink "SortPlans" 134 arraycopyName ∈ gw := gw_at 270 (by decide +kernel) (by decide +kernel)
theorem oi_Mo_1 : Cond.methodLink "SortPlansModel" 1 objectInit ∈ gw := gw_at 398 (by decide +kernel) (by decide +kernel)
theorem sy_n : Cond.native arraycopyName ∈ gw := gw_at 272 (by decide +kernel) (by decide +kernel)
theorem sy_s : Cond.static arraycopyName ∈ gw := gw_at 271 (by decide +kernel) (by decide +kernel)
theorem sy_i : Cond.initialized "java/lang/System" ∈ gw := gw_at 39 (by decide +kernel) (by decide +kernel)
section GM
variable {p : Program} {l : Launch} {e : Env} {R : Room} {s : State} {m : MethodId} {args : Array Value} {below : List Frame} {meth : Method} {c : Code} {H : Heap} {locs : List Loc} {cells slots : Nat} {Q : State → Prop}
variable {cc : ByteArray} {nL pc : Nat} {own : String} {ls : Array Slot} {rest st0 : List Value} {D : va_G} {tys : List (ClassId × FieldType)} {ws ws' : va_W} {A : Nat → Prop} {a : Nat}
theorem ga_oi {index o : Nat} (S : CallFix p m c cc nL s args gw own) (hl : ls.size = nL) (h : Cond.methodLink own index objectInit ∈ gw) (hd : decode cc pc = .ok (.invokespecial index, 3)) (hf : 1 ≤ R.frames) (hlo : 2 * (F0 m pc ls (.ref o :: rest)).monitorRoom + (rest.map fun v => v.category).sum + 12 ≤ R.locals) (kk : W p l e R s m args below meth c H locs cells slots Q (F0 m (pc + 3) ls rest)) : W p l e R s m args below meth c H locs cells slots Q (F0 m pc ls (.ref o :: rest)) :=
  W.objInit S.1 S.2.1 S.2.2.2.1 (S.2.2.2.2 _ h) (S.2.2.2.2 _ ko_i) (S.2.2.2.2 _ ko_c) rfl (by rw [S.2.2.1]; exact hl) rfl hd hf hlo kk
theorem ga_zd : ∀ c : ClassId, Jvm.Free.Multi.innerC c 480 (defaultValue .int) = vp_cell c (480, .inl (nA (fun _ => 0))) := fun c => arrV_new c 480 (.int 0)
set_option maxRecDepth 20000 in
/-- new int[8][480] -/
theorem ga_mna {cI cG : ClassId} {index : Nat} (S : CallFix p m c cc nL s args gw own) (hK : ga_K D tys s) (hP : va_P D vwCl ws H) (hD : va_D A ws) (hS : va_S A s.heap H locs) (hA : ∀ q, s.heap.size ≤ q → A q) (ht0 : tys[0]? = some (cI, .int)) (ht3 : tys[3]? = some (cG, .array .int)) (hcl : Cond.classLink own index "[[I" ∈ gw) (hcells : cells + (1 + 8) ≤ R.cells) (hslots : slots + (8 + 8 * 480) ≤ R.slots) (hdg : decode cc pc = .ok (.multianewarray index 2, 4))
    (kk : ∀ (q : Nat) (r : Nat → Nat) (H1 : Heap), va_P D vwCl (ws ++ ((q, .inl (cG, 8, .inr (.inr (.inr (.inr (fun i => if i < 8 then some (r i) else none)))))) :: (List.range 8).map (fun i => (r i, .inl (cI, 480, .inl (nA (fun _ => 0))))))) H1 → va_D A (ws ++ ((q, .inl (cG, 8, .inr (.inr (.inr (.inr (fun i => if i < 8 then some (r i) else none)))))) :: (List.range 8).map (fun i => (r i, .inl (cI, 480, .inl (nA (fun _ => 0))))))) → va_S A s.heap H1 locs → W p l e R s m args below meth c H1 locs (cells + 1 + 8) (slots + 8 + 8 * 480) Q (F0 m (pc + 4) ls (.ref q :: rest))) : W p l e R s m args below meth c H locs cells slots Q (F0 m pc ls (.int 480 :: .int 8 :: rest)) := by
  have e1 : "[" ++ (FieldType.array .int).toString = "[[I" := by decide
  have hc1 := S.2.2.2.2 _ hcl
  rw [← e1] at hc1
  have hI : s.vm.findClass (FieldType.array .int).toString = some cI := (hK.1.2 0 _ ht0).2
  have hG : s.vm.findClass ("[" ++ (FieldType.array .int).toString) = some cG := (hK.1.2 3 _ ht3).2
  refine va_mna (X := ws) (L := []) (f := fun _ => .inl (cI, 480, .inl (nA (fun _ => 0)))) (N' := 8) (K' := 480) (ty := .int) S.1 S.2.1 S.2.2.2.1 hc1 hK.2.2 (S.2.2.2.2 _ ac_int) hI hK.1 (by simpa [va_pl] using hP) (by simpa [va_pl] using hD) hS hA (by decide) (by decide) (by decide) (by decide) (by decide) (by decide) (by decide) rfl rfl hcells hslots ga_zd hdg (fun q r cA H1 _ _ hK1 hP1 hD1 hS1 => ?_)
  have hA2 : s.vm.findClass ("[" ++ (FieldType.array .int).toString) = some cA := (hK1.2 tys.length (cA, .array .int) (by simp)).2
  obtain rfl : cA = cG := Option.some.inj (hA2.symm.trans hG)
  have ew : va_pl ([] ++ (List.range 8).map r) (vr_up (fun _ => .inl (cI, 480, .inl (nA (fun _ => 0)))) ((List.range 8).map r) (.inl (cI, 480, .inl (nA (fun _ => 0))))) = (List.range 8).map (fun i => (r i, .inl (cI, 480, .inl (nA (fun _ => 0))))) := by
    unfold va_pl
    rw [List.nil_append, List.map_map]
    apply List.map_congr_left
    intro i hi
    show (r i, vr_up _ _ _ (r i)) = _
    rw [vr_up_in (List.mem_map.mpr ⟨i, hi, rfl⟩)]
  rw [ew, List.append_assoc] at hP1 hD1
  exact kk q r H1 hP1 hD1 hS1
end GM
