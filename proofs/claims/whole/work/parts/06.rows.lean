theorem ga_fm {ws w : va_W} {is : List Nat} (h : is.map (fun i => ws[i]?) = w.map some) : is.filterMap (fun i => ws[i]?) = w := by
  induction is generalizing w with
  | nil =>
    cases w with
    | nil => rfl
    | cons x t => cases h
  | cons i is ih =>
    cases w with
    | nil => cases h
    | cons x t =>
      simp only [List.map_cons, List.cons.injEq] at h
      rw [List.filterMap_cons, h.1]
      simp only
      rw [ih h.2]
section GR
variable {p : Program} {l : Launch} {e : Env} {R : Room} {s : State} {m : MethodId} {args : Array Value} {below : List Frame} {meth : Method} {c : Code} {H : Heap} {locs : List Loc} {cells slots : Nat} {Q : State → Prop}
variable {cc : ByteArray} {nL pc : Nat} {own : String} {ls : Array Slot} {rest st0 : List Value} {D : va_G} {tys : List (ClassId × FieldType)} {ws ws' wc wr : va_W} {A : Nat → Prop} {a : Nat}
theorem ga_get (S : CallFix p m c cc nL s args gw own) (hK : ga_K D tys s) (hP : va_P D vwCl ws H) (q0 : Nat) {ci k index : Nat} {fs : List Value} {v : Value} (he : ws[q0]? = some (a, .inr (ci, fs))) (F : ga_FG own index ci k) (hv : fs[k]? = some v) (hdg : decode cc pc = .ok (.getfield index, 3)) (kk : W p l e R s m args below meth c H locs cells slots Q (F0 m (pc + 3) ls (v :: rest))) : W p l e R s m args below meth c H locs cells slots Q (F0 m pc ls (.ref a :: rest)) := by
  obtain ⟨hx, hb, -, hown, hts⟩ := S
  obtain ⟨C, T, N, hc, hin, hk, hl | ⟨host, hl⟩⟩ := F
  · exact va_get hx hb hts hin hown hK.1 hP q0 he hc k hk (hts _ hl) (fun _ h => h) hv hdg kk
  · exact va_getN hx hb hts hin hown hK.1 hP q0 he hc k hk (va_Nw.use rfl (hK.2.1 _ hl)) (fun _ h => h) hv hdg kk
theorem ga_put (S : CallFix p m c cc nL s args gw own) (hK : ga_K D tys s) (hP : va_P D vwCl ws H) (hD : va_D A ws) (hS : va_S A s.heap H locs) (q0 : Nat) {ci k index : Nat} {fs : List Value} {v : Value} {ty : FieldType} (he : ws[q0]? = some (a, .inr (ci, fs))) (F : ga_FP own index ci k ty false) (hn : narrow ty v = v) (hfit : fits ty v = true) (hl : k < fs.length) (hw : ws.set q0 (a, .inr (ci, fs.set k v)) = ws') (hdg : decode cc pc = .ok (.putfield index, 3)) (kk : ∀ (H1 : Heap) (locs1 : List Loc), va_P D vwCl ws' H1 → va_D A ws' → va_S A s.heap H1 locs1 → W p l e R s m args below meth c H1 locs1 cells slots Q (F0 m (pc + 3) ls rest)) : W p l e R s m args below meth c H locs cells slots Q (F0 m pc ls (v :: .ref a :: rest)) := by
  obtain ⟨hx, hb, -, hown, hts⟩ := S
  subst hw
  obtain ⟨C, T, N, ty0, hc, hin, hk, hty, hnm, hfin, hd, -, hl2 | ⟨-, host, hl2⟩⟩ := F
  · exact va_put hx hb hts hin ty0 hty hnm hown hK.1 hP hD hS q0 he hc k hk (hts _ hl2) (fun _ h => h) hfin hd hn hfit hl hdg kk
  · exact va_putN hx hb hts hin ty0 hty hnm hown hK.1 hP hD hS q0 he hc k hk (va_Nw.use rfl (hK.2.1 _ hl2)) (fun _ h => h) hfin hd hn hfit hl hdg kk
theorem ga_putF (S : CallFix p m c cc nL s args gw own) (hin2 : meth.name = "<init>") (hK : ga_K D tys s) (hP : va_P D vwCl ws H) (hD : va_D A ws) (hS : va_S A s.heap H locs) (q0 : Nat) {ci k index : Nat} {fs : List Value} {v : Value} {ty : FieldType} (he : ws[q0]? = some (a, .inr (ci, fs))) (F : ga_FP own index ci k ty true) (hn : narrow ty v = v) (hfit : fits ty v = true) (hl : k < fs.length) (hw : ws.set q0 (a, .inr (ci, fs.set k v)) = ws') (hdg : decode cc pc = .ok (.putfield index, 3)) (kk : ∀ (H1 : Heap) (locs1 : List Loc), va_P D vwCl ws' H1 → va_D A ws' → va_S A s.heap H1 locs1 → W p l e R s m args below meth c H1 locs1 cells slots Q (F0 m (pc + 3) ls rest)) : W p l e R s m args below meth c H locs cells slots Q (F0 m pc ls (v :: .ref a :: rest)) := by
  obtain ⟨hx, hb, -, hown, hts⟩ := S
  subst hw
  obtain ⟨C, T, N, ty0, hc, hin, hk, hty, hnm, hfin, hd, hdecl, hl2 | ⟨hf, -⟩⟩ := F
  · exact va_putF hx hb hts hin ty0 hty hnm hown hK.1 hP hD hS q0 he hc k hk (hts _ hl2) (fun _ h => h) hfin hin2 (hdecl rfl) hd hn hfit hl hdg kk
  · cases hf
theorem ga_iast (S : CallFix p m c cc nL s args gw own) (hK : ga_K D tys s) (hP : va_P D vwCl ws H) (hD : va_D A ws) (hS : va_S A s.heap H locs) (q0 t0 : Nat) {cA : ClassId} {n : Nat} {f : Nat → Int32} (ha : ws[q0]? = some (a, .inl (cA, n, .inl f))) (ht : tys[t0]? = some (cA, .int)) {i x : Int32} (hin : vp_in i n) (hw : ws.set q0 (a, .inl (cA, n, .inl (upd f i.toNatClampNeg x))) = ws') (hdg : decode cc pc = .ok (.iastore, 1)) (kk : ∀ (H1 : Heap) (locs1 : List Loc), va_P D vwCl ws' H1 → va_D A ws' → va_S A s.heap H1 locs1 → W p l e R s m args below meth c H1 locs1 cells slots Q (F0 m (pc + 1) ls rest)) : W p l e R s m args below meth c H locs cells slots Q (F0 m pc ls (.int x :: .int i :: .ref a :: rest)) := by
  subst hw
  exact va_iast S.1 S.2.1 hK.1 hP hD hS q0 t0 ha ht hin hdg kk
theorem ga_zast (S : CallFix p m c cc nL s args gw own) (hK : ga_K D tys s) (hP : va_P D vwCl ws H) (hD : va_D A ws) (hS : va_S A s.heap H locs) (q0 t0 : Nat) {cA : ClassId} {n : Nat} {f : Nat → Int32} (ha : ws[q0]? = some (a, .inl (cA, n, .inl f))) (ht : tys[t0]? = some (cA, .boolean)) {i x : Int32} (hin : vp_in i n) (hx01 : x = 0 ∨ x = 1) (hw : ws.set q0 (a, .inl (cA, n, .inl (upd f i.toNatClampNeg x))) = ws') (hdg : decode cc pc = .ok (.bastore, 1)) (kk : ∀ (H1 : Heap) (locs1 : List Loc), va_P D vwCl ws' H1 → va_D A ws' → va_S A s.heap H1 locs1 → W p l e R s m args below meth c H1 locs1 cells slots Q (F0 m (pc + 1) ls rest)) : W p l e R s m args below meth c H locs cells slots Q (F0 m pc ls (.int x :: .int i :: .ref a :: rest)) := by
  have hnx : vp_nar .boolean x = x := by rcases hx01 with rfl | rfl <;> rfl
  subst hw
  refine va_zast S.1 S.2.1 hK.1 hP hD hS q0 t0 ha ht hin hdg ?_
  rw [hnx]
  exact kk
theorem ga_cast (S : CallFix p m c cc nL s args gw own) (hK : ga_K D tys s) (hP : va_P D vwCl ws H) (hD : va_D A ws) (hS : va_S A s.heap H locs) (q0 t0 : Nat) {cA : ClassId} {n : Nat} {f : Nat → Int32} (ha : ws[q0]? = some (a, .inl (cA, n, .inl f))) (ht : tys[t0]? = some (cA, .char)) {i x : Int32} (hin : vp_in i n) (hnx : vp_nar .char x = x) (hw : ws.set q0 (a, .inl (cA, n, .inl (upd f i.toNatClampNeg x))) = ws') (hdg : decode cc pc = .ok (.castore, 1)) (kk : ∀ (H1 : Heap) (locs1 : List Loc), va_P D vwCl ws' H1 → va_D A ws' → va_S A s.heap H1 locs1 → W p l e R s m args below meth c H1 locs1 cells slots Q (F0 m (pc + 1) ls rest)) : W p l e R s m args below meth c H locs cells slots Q (F0 m pc ls (.int x :: .int i :: .ref a :: rest)) := by
  subst hw
  refine va_cast S.1 S.2.1 hK.1 hP hD hS q0 t0 ha ht hin hdg ?_
  rw [hnx]
  exact kk
/-- an element of an array of int arrays -/
theorem ga_aald (S : CallFix p m c cc nL s args gw own) (hK : ga_K D tys s) (hP : va_P D vwCl ws H) (q0 t0 : Nat) {cA : ClassId} {n : Nat} {f : Nat → Option Nat} (ha : ws[q0]? = some (a, .inl (cA, n, .inr (.inr (.inr (.inr f)))))) (ht : tys[t0]? = some (cA, .array .int)) {i : Int32} (hin : vp_in i n) (hdg : decode cc pc = .ok (.aaload, 1)) (kk : W p l e R s m args below meth c H locs cells slots Q (F0 m (pc + 1) ls (va_rf (f i.toNatClampNeg) :: rest))) : W p l e R s m args below meth c H locs cells slots Q (F0 m pc ls (.int i :: .ref a :: rest)) := by
  have hlt : i.toNatClampNeg < n := Nat.not_le.mp fun q => hin (Or.inr q)
  exact W.aald (v := va_rf (f i.toNatClampNeg)) (ty := .array .int) S.1 S.2.1 (hP q0 _ ha) ((hK.1.2 t0 _ ht).1 n (fun j => va_rf (f j))) rfl (fun q => by cases q) (by show ¬ (i < 0 ∨ (arrV _ _ _).slots.size ≤ _); rw [arrV_size]; exact hin) (by show (arrV _ _ _).slots[_]? = _; rw [arrV_read _ _ hlt]) rfl rfl hdg kk
theorem ga_new {ci N index : Nat} {fs : List Value} (S : CallFix p m c cc nL s args gw own) (hK : ga_K D tys s) (hP : va_P D vwCl ws H) (hD : va_D A ws) (hS : va_S A s.heap H locs) (hA : ∀ q, s.heap.size ≤ q → A q) (F : ga_CN own index ci N fs) (hcells : cells + 1 ≤ R.cells) (hslots : slots + N ≤ R.slots) (hdg : decode cc pc = .ok (.new index, 3)) (kk : ∀ (q : Nat) (H1 : Heap), va_P D vwCl (ws ++ [(q, .inr (ci, fs))]) H1 → va_D A (ws ++ [(q, .inr (ci, fs))]) → va_S A s.heap H1 locs → W p l e R s m args below meth c H1 locs (cells + 1) (slots + N) Q (F0 m (pc + 3) ls (.ref q :: rest))) : W p l e R s m args below meth c H locs cells slots Q (F0 m pc ls rest) := by
  obtain ⟨hx, hb, -, hown, hts⟩ := S
  obtain ⟨C, T, ty0, hc, hin, hty, hl, hi, hn, hfs⟩ := F
  exact va_new hx hb hts hin ty0 hty hown (hts _ hl) (hts _ hi) (hts _ hn) hK.1 hP hD hS hA hc hfs hcells hslots hdg kk
theorem ga_newa {atype : ArrayType} {ty : FieldType} (S : CallFix p m c cc nL s args gw own) (hK : ga_K D tys s) (hP : va_P D vwCl ws H) (hD : va_D A ws) (hS : va_S A s.heap H locs) (hA : ∀ q, s.heap.size ≤ q → A q) (harr : Cond.arrayClass (newarray.typeOf atype) ∈ gw) (hty : newarray.typeOf atype = ty) (hra : ∀ (U : State) (k : ClassId), va_RA U k ty → U.vm.findClass ("[" ++ ty.toString) = some k) (t0 : Nat) {cA : ClassId} (ht : tys[t0]? = some (cA, ty)) {n : Int32} {N' : Nat} {a0 : vp_A} (ha : ∀ k : ClassId, vp_cell k a0 = arrV k N' (fun _ => defaultValue ty)) (hn : ¬ n < 0) (hN : n.toNatClampNeg = N') (hbytes : N' * componentBytes ty ≤ 536870912) (hcells : cells + 1 ≤ R.cells) (hslots : slots + N' ≤ R.slots) (hdg : decode cc pc = .ok (.newarray atype, 2)) (kk : ∀ (q : Nat) (H1 : Heap), va_P D vwCl (ws ++ [(q, .inl (cA, a0))]) H1 → va_D A (ws ++ [(q, .inl (cA, a0))]) → va_S A s.heap H1 locs → W p l e R s m args below meth c H1 locs (cells + 1) (slots + N') Q (F0 m (pc + 2) ls (.ref q :: rest))) : W p l e R s m args below meth c H locs cells slots Q (F0 m pc ls (.int n :: rest)) := by
  refine va_newa S.1 S.2.1 (S.2.2.2.2 _ harr) hty hK.1 hP hD hS hA ha hn hN hbytes hcells hslots hdg (fun q k H1 hK1 hP1 hD1 hS1 => ?_)
  have e1 := hra s cA (hK.1.2 t0 _ ht).2
  have e2 := hra s k (hK1.2 tys.length (k, ty) (by simp)).2
  obtain rfl : k = cA := Option.some.inj (e2.symm.trans e1)
  exact kk q H1 hP1 hD1 hS1
theorem ga_runV {y : MethodName} {b : ByteArray} {n k d mc ms index : Nat} {r : Option FieldType} {Pc : Array Value → State → Prop} {Qc : Array Value → State → Outcome → State → Prop} {free : Addr → Prop} {As : List Value} {o : Nat} (S : CallFix p m c cc nL s args gw own) (hK : ga_K D tys s) (site : ga_SV own index y b n r k) (hM : Met l y (.code y b n r :: gw) (ga_rm d mc ms) Pc Qc mc ms free) (hp : PreV s H y.cls o Pc As) (hn : As.length = k) (hsz : ls.size = nL) (hst : st0 = As.reverse ++ .ref o :: rest) (hw : (rest.map fun v => v.category).sum ≤ 8) (hR : d + 1 ≤ R.frames ∧ 8 + (n + 11) + 40 * d ≤ R.locals) (hf : cells + mc ≤ R.cells ∧ slots + ms ≤ R.slots) (hdg : decode cc pc = .ok (.invokevirtual index, 3)) : va_Run p l e R s m args below meth c H locs cells slots mc ms (F0 m pc ls st0) rest (Qc (Value.ref o :: As).toArray) free := by
  obtain ⟨hl, hi, hse, hini, hcd, hd⟩ := site
  have hts := S.2.2.2.2
  rcases hl with hl | ⟨host, hl⟩
  · exact va_runV S hM ⟨callB_of k hts (gw_c hcd) rfl rfl rfl (hts _ hini) (hts _ hl) hd hR, hts _ hi, hts _ hse⟩ hp rfl hn hsz hst (lv_room hw) hdg hf
  · exact va_runVN S hM ⟨va_cnB k hts (gw_c hcd) rfl rfl rfl (hK.2.1 _ hl) (hts _ hini) hd hR, hts _ hi, hts _ hse⟩ hp rfl hn hsz hst (lv_room hw) hdg hf
theorem ga_runS {y : MethodName} {b : ByteArray} {n k d mc ms index : Nat} {r : Option FieldType} {Pc : Array Value → State → Prop} {Qc : Array Value → State → Outcome → State → Prop} {free : Addr → Prop} {As : List Value} (S : CallFix p m c cc nL s args gw own) (hK : ga_K D tys s) (site : ga_SS own index y b n r k) (hM : Met l y (.code y b n r :: gw) (ga_rm d mc ms) Pc Qc mc ms free) (hp : PreS s H Pc As) (hn : As.length = k) (hsz : ls.size = nL) (hst : st0 = As.reverse ++ rest) (hw : (rest.map fun v => v.category).sum ≤ 8) (hR : d + 1 ≤ R.frames ∧ 8 + (n + 11) + 40 * d ≤ R.locals) (hf : cells + mc ≤ R.cells ∧ slots + ms ≤ R.slots) (hdg : decode cc pc = .ok (.invokestatic index, 3)) : va_Run p l e R s m args below meth c H locs cells slots mc ms (F0 m pc ls st0) rest (Qc As.toArray) free := by
  obtain ⟨hl, hi, hini, hcd, hd⟩ := site
  have hts := S.2.2.2.2
  rcases hl with hl | ⟨host, hl⟩
  · exact va_runS S hM ⟨callB_of k hts (gw_c hcd) rfl rfl rfl (hts _ hini) (hts _ hl) hd hR, hts _ hi⟩ hp rfl hn hsz hst (lv_room hw) hdg hf
  · exact va_runSN S hM ⟨va_cnB k hts (gw_c hcd) rfl rfl rfl (hK.2.1 _ hl) (hts _ hini) hd hR, hts _ hi, trivial⟩ hp rfl hn hsz hst (lv_room hw) hdg hf
theorem ga_runI {y : MethodName} {b : ByteArray} {n k d mc ms index : Nat} {Pc : Array Value → State → Prop} {Qc : Array Value → State → Outcome → State → Prop} {free : Addr → Prop} {As : List Value} {o : Nat} (S : CallFix p m c cc nL s args gw own) (hK : ga_K D tys s) (site : ga_SI own index y b n k) (hM : Met l y (.code y b n none :: gw) (ga_rm d mc ms) Pc Qc mc ms free) (hp : PreS s H Pc (.ref o :: As)) (hn : As.length = k) (hsz : ls.size = nL) (hst : st0 = As.reverse ++ .ref o :: rest) (hw : (rest.map fun v => v.category).sum ≤ 8) (hR : d + 1 ≤ R.frames ∧ 8 + (n + 11) + 40 * d ≤ R.locals) (hf : cells + mc ≤ R.cells ∧ slots + ms ≤ R.slots) (hdg : decode cc pc = .ok (.invokespecial index, 3)) : va_Run p l e R s m args below meth c H locs cells slots mc ms (F0 m pc ls st0) rest (Qc (Value.ref o :: As).toArray) free := by
  obtain ⟨hl, hi, hnm, hini, hcd, hd⟩ := site
  have hts := S.2.2.2.2
  rcases hl with hl | ⟨host, hl⟩
  · exact va_runI S hM ⟨callB_of k hts (gw_c hcd) rfl rfl rfl (hts _ hini) (hts _ hl) hd hR, hnm, hts _ hi⟩ hp rfl hn hsz hst (lv_room hw) hdg hf
  · exact va_runIN S hM ⟨va_cnB k hts (gw_c hcd) rfl rfl rfl (hK.2.1 _ hl) (hts _ hini) hd hR, hnm, hts _ hi⟩ hp rfl hn hsz hst (lv_room hw) hdg hf
/-- behind a call that changed its world: the world in the caller's own order -/
theorem ga_ji {α : Type} {wf : α → va_W} {post : Int32 → α → Prop} {aa : Array Value} {mc ms : Nat} (hr : va_Run p l e R s m args below meth c H locs cells slots mc ms (F0 m pc ls st0) rest (va_Qi post (ga_B D (va_A wc H.size) wf) (va_A wc H.size) aa) (va_A wc H.size)) (hP : va_P D vwCl ws H) (hD : va_D A ws) (hS : va_S A s.heap H locs) (hA : ∀ q, s.heap.size ≤ q → A q) (isC isR : List Nat) (hC : isC.map (fun i => ws[i]?) = wc.map some) (hR' : isR.map (fun i => ws[i]?) = wr.map some) (hnd : va_nd isR = true) (hdis : ∀ i ∈ isR, i ∉ isC) (pm : List Nat) (wf' : α → va_W) (hpm : ∀ x, pm.map (fun i => (wr ++ wf x)[i]?) = (wf' x).map some) (hpn : va_nd pm = true) (kk : ∀ (r : Int32) (x : α) (H1 : Heap) (locs1 : List Loc), post r x → va_P D vwCl (wf' x) H1 → va_D A (wf' x) → va_S A s.heap H1 locs1 → W p l e R s m args below meth c H1 locs1 (cells + mc) (slots + ms) Q (F0 m (pc + 3) ls (.int r :: rest))) : W p l e R s m args below meth c H locs cells slots Q (F0 m pc ls st0) := by
  have hFc := va_free hD hS hA isC hC
  refine va_calli hr hS (fun q _ h => hFc q h) hFc (fun r x t H1 locs1 ht hvm hp hB hz hk hS1 => ?_)
  obtain ⟨hP1, hD1⟩ := hB
  rw [ht] at hP1
  obtain ⟨hP2, hD2⟩ := va_join hP hD isC isR hC hR' hnd hdis hk hFc hP1 hD1
  exact kk r x H1 locs1 hp (hP2.sub pm (ga_fm (hpm x))) (hD2.sub pm hpn (hpm x)) hS1
theorem ga_jv {α : Type} {wf : α → va_W} {post : α → Prop} {aa : Array Value} {mc ms : Nat} (hr : va_Run p l e R s m args below meth c H locs cells slots mc ms (F0 m pc ls st0) rest (va_Qv post (ga_B D (va_A wc H.size) wf) (va_A wc H.size) aa) (va_A wc H.size)) (hP : va_P D vwCl ws H) (hD : va_D A ws) (hS : va_S A s.heap H locs) (hA : ∀ q, s.heap.size ≤ q → A q) (isC isR : List Nat) (hC : isC.map (fun i => ws[i]?) = wc.map some) (hR' : isR.map (fun i => ws[i]?) = wr.map some) (hnd : va_nd isR = true) (hdis : ∀ i ∈ isR, i ∉ isC) (pm : List Nat) (wf' : α → va_W) (hpm : ∀ x, pm.map (fun i => (wr ++ wf x)[i]?) = (wf' x).map some) (hpn : va_nd pm = true) (kk : ∀ (x : α) (H1 : Heap) (locs1 : List Loc), post x → va_P D vwCl (wf' x) H1 → va_D A (wf' x) → va_S A s.heap H1 locs1 → W p l e R s m args below meth c H1 locs1 (cells + mc) (slots + ms) Q (F0 m (pc + 3) ls rest)) : W p l e R s m args below meth c H locs cells slots Q (F0 m pc ls st0) := by
  have hFc := va_free hD hS hA isC hC
  refine va_callv hr hS (fun q _ h => hFc q h) hFc (fun x t H1 locs1 ht hvm hp hB hz hk hS1 => ?_)
  obtain ⟨hP1, hD1⟩ := hB
  rw [ht] at hP1
  obtain ⟨hP2, hD2⟩ := va_join hP hD isC isR hC hR' hnd hdis hk hFc hP1 hD1
  exact kk x H1 locs1 hp (hP2.sub pm (ga_fm (hpm x))) (hD2.sub pm hpn (hpm x)) hS1
theorem ga_jq {α : Type} {wf : α → va_W} {ra : α → Nat} {post : α → Prop} {aa : Array Value} {mc ms : Nat} (hr : va_Run p l e R s m args below meth c H locs cells slots mc ms (F0 m pc ls st0) rest (va_Qr post (ga_Bq D (va_A wc H.size) wf ra) (va_A wc H.size) aa) (va_A wc H.size)) (hP : va_P D vwCl ws H) (hD : va_D A ws) (hS : va_S A s.heap H locs) (hA : ∀ q, s.heap.size ≤ q → A q) (isC isR : List Nat) (hC : isC.map (fun i => ws[i]?) = wc.map some) (hR' : isR.map (fun i => ws[i]?) = wr.map some) (hnd : va_nd isR = true) (hdis : ∀ i ∈ isR, i ∉ isC) (pm : List Nat) (wf' : α → va_W) (hpm : ∀ x, pm.map (fun i => (wr ++ wf x)[i]?) = (wf' x).map some) (hpn : va_nd pm = true) (kk : ∀ (x : α) (H1 : Heap) (locs1 : List Loc), post x → va_P D vwCl (wf' x) H1 → va_D A (wf' x) → va_S A s.heap H1 locs1 → W p l e R s m args below meth c H1 locs1 (cells + mc) (slots + ms) Q (F0 m (pc + 3) ls (.ref (ra x) :: rest))) : W p l e R s m args below meth c H locs cells slots Q (F0 m pc ls st0) := by
  have hFc := va_free hD hS hA isC hC
  refine va_callr hr hS (fun q _ h => hFc q h) hFc (fun x a t H1 locs1 ht hvm hp hB hz hk hS1 => ?_)
  obtain ⟨ha, hP1, hD1⟩ := hB
  subst ha
  rw [ht] at hP1
  obtain ⟨hP2, hD2⟩ := va_join hP hD isC isR hC hR' hnd hdis hk hFc hP1 hD1
  exact kk x H1 locs1 hp (hP2.sub pm (ga_fm (hpm x))) (hD2.sub pm hpn (hpm x)) hS1
/-- what a call that changes its world asks at its start -/
theorem ga_prV {y : MethodName} {o q0 ci N : Nat} {fs As : List Value} {T : u_T} (hK : ga_K D tys s) (hP : va_P D vwCl ws H) (hD : va_D A ws) (isC : List Nat) (hC : isC.map (fun i => ws[i]?) = wc.map some) (hnc : va_nd isC = true) (hq : ws[q0]? = some (o, .inr (ci, fs))) (hc : vwCl[ci]? = some (y.cls, T, N)) : PreV s H y.cls o (ga_pw D tys (.ref o :: As) wc H.size) As :=
  ⟨ga_pw_blind, va_recv hK.1 hP hc hq, fun U hU hW => ⟨rfl, by rw [hU], by rw [hU]; exact hP.sub isC (ga_fm hC), hK.warm hW, (hD.sub isC hnc hC).weaken (fun _ _ _ _ => trivial)⟩⟩
theorem ga_prS {As : List Value} (hK : ga_K D tys s) (hP : va_P D vwCl ws H) (hD : va_D A ws) (isC : List Nat) (hC : isC.map (fun i => ws[i]?) = wc.map some) (hnc : va_nd isC = true) : PreS s H (ga_pw D tys As wc H.size) As :=
  ⟨ga_pw_blind, fun U hU hW => ⟨rfl, by rw [hU], by rw [hU]; exact hP.sub isC (ga_fm hC), hK.warm hW, (hD.sub isC hnc hC).weaken (fun _ _ _ _ => trivial)⟩⟩
/-- a call of an instance method that only reads -/
theorem ga_cr {y : MethodName} {b : ByteArray} {n k d index q0 ci N : Nat} {r : Option FieldType} {As fs : List Value} {o : Nat} {T : u_T} {post : Int32 → Prop} (S : CallFix p m c cc nL s args gw own) (hK : ga_K D tys s) (hP : va_P D vwCl ws H) (site : ga_SV own index y b n r k) (hM : ga_Mr l y b n r d D tys (.ref o :: As) wc post) (is : List Nat) (his : is.filterMap (fun i => ws[i]?) = wc) (hq : ws[q0]? = some (o, .inr (ci, fs))) (hc : vwCl[ci]? = some (y.cls, T, N)) (hn : As.length = k) (hsz : ls.size = nL) (hst : st0 = As.reverse ++ .ref o :: rest) (hw : (rest.map fun v => v.category).sum ≤ 8) (hR : d + 1 ≤ R.frames ∧ 8 + (n + 11) + 40 * d ≤ R.locals) (hf : cells + 0 ≤ R.cells ∧ slots + 0 ≤ R.slots) (hdg : decode cc pc = .ok (.invokevirtual index, 3)) (kk : ∀ r : Int32, post r → W p l e R s m args below meth c H locs cells slots Q (F0 m (pc + 3) ls (.int r :: rest))) : W p l e R s m args below meth c H locs cells slots Q (F0 m pc ls st0) :=
  vp_callSi (ga_runV S hK site hM ⟨ga_pr_blind, va_recv hK.1 hP hc hq, fun U hU hW => ⟨rfl, by rw [hU]; exact hP.sub is his, hK.warm hW⟩⟩ hn hsz hst hw hR hf hdg).run kk
/-- .. of a static one -/
theorem ga_cs {y : MethodName} {b : ByteArray} {n k d index : Nat} {r : Option FieldType} {As : List Value} {post : Int32 → Prop} (S : CallFix p m c cc nL s args gw own) (hK : ga_K D tys s) (hP : va_P D vwCl ws H) (site : ga_SS own index y b n r k) (hM : ga_Mr l y b n r d D tys As wc post) (is : List Nat) (his : is.filterMap (fun i => ws[i]?) = wc) (hn : As.length = k) (hsz : ls.size = nL) (hst : st0 = As.reverse ++ rest) (hw : (rest.map fun v => v.category).sum ≤ 8) (hR : d + 1 ≤ R.frames ∧ 8 + (n + 11) + 40 * d ≤ R.locals) (hf : cells + 0 ≤ R.cells ∧ slots + 0 ≤ R.slots) (hdg : decode cc pc = .ok (.invokestatic index, 3)) (kk : ∀ r : Int32, post r → W p l e R s m args below meth c H locs cells slots Q (F0 m (pc + 3) ls (.int r :: rest))) : W p l e R s m args below meth c H locs cells slots Q (F0 m pc ls st0) :=
  vp_callSi (ga_runS S hK site hM ⟨ga_pr_blind, fun U hU hW => ⟨rfl, by rw [hU]; exact hP.sub is his, hK.warm hW⟩⟩ hn hsz hst hw hR hf hdg).run kk
/-- a loop: a measure falls at each turn -/
theorem ga_loop {α : Type} (μ : α → Nat) (I : α → Array Slot → Heap → List Loc → Prop)
    (hs : ∀ (x : α) (ls : Array Slot) (H : Heap) (locs : List Loc), I x ls H locs → (∀ (z : α) (ls' : Array Slot) (H' : Heap) (locs' : List Loc), μ z < μ x → I z ls' H' locs' → W p l e R s m args below meth c H' locs' cells slots Q (F0 m pc ls' [])) → W p l e R s m args below meth c H locs cells slots Q (F0 m pc ls []))
    (x0 : α) (h0 : I x0 ls H locs) : W p l e R s m args below meth c H locs cells slots Q (F0 m pc ls []) := by
  have key : ∀ (k : Nat) (x : α) (ls : Array Slot) (H : Heap) (locs : List Loc), μ x < k → I x ls H locs → W p l e R s m args below meth c H locs cells slots Q (F0 m pc ls []) := by
    intro k
    induction k with
    | zero => intro x ls H locs h; exact absurd h (Nat.not_lt_zero _)
    | succ k ih =>
      intro x ls H locs h hI
      exact hs x ls H locs hI (fun z ls' H' locs' hz hI' => ih z ls' H' locs' (Nat.lt_of_lt_of_le hz (Nat.le_of_lt_succ h)) hI')
  exact key (μ x0 + 1) x0 ls H locs (Nat.lt_succ_self _) h0
/-- returns -/
theorem ga_ri {post : Int32 → Prop} {v : Int32} (S : CallFix p m c cc nL s args gw own) (hr : meth.sig.returnType = some .int) (hlk : meth.locks = false) (hp : post v) (hdg : decode cc pc = .ok (.ireturn, 1)) : W p l e R s m args below meth c s.heap [] 0 0 (MQ below (vp_Si post) args s 0 0 (fun _ => False)) (F0 m pc ls [.int v]) :=
  W.iret S.1 S.2.1 hr (fun t ht _ => ⟨v, rfl, hp, ht⟩) (fun q h => by cases h) hdg hlk
theorem ga_rz {post : Int32 → Prop} {v : Int32} (S : CallFix p m c cc nL s args gw own) (hr : meth.sig.returnType = some .boolean) (hlk : meth.locks = false) (hv : v = 0 ∨ v = 1) (hp : post v) (hdg : decode cc pc = .ok (.ireturn, 1)) : W p l e R s m args below meth c s.heap [] 0 0 (MQ below (vp_Si post) args s 0 0 (fun _ => False)) (F0 m pc ls [.int v]) :=
  W.zret S.1 S.2.1 hr (by rcases hv with rfl | rfl <;> rfl) (fun t ht _ => ⟨v, rfl, hp, ht⟩) (fun q h => by cases h) hdg hlk
theorem ga_wi {α : Type} {wf : α → va_W} {post : Int32 → α → Prop} {v : Int32} (x : α) (S : CallFix p m c cc nL s args gw own) (hr : meth.sig.returnType = some .int) (hlk : meth.locks = false) (hP : va_P D vwCl (wf x) H) (hD : va_D A (wf x)) (hS : va_S A s.heap H locs) (hp : post v x) (hdg : decode cc pc = .ok (.ireturn, 1)) : W p l e R s m args below meth c H locs cells slots (MQ below (va_Qi post (ga_B D A wf) A) args s cells slots A) (F0 m pc ls [.int v]) :=
  W.iret S.1 S.2.1 hr (fun t ht _ => ⟨⟨v, x, rfl, hp, by rw [ht]; exact hP, hD⟩, hS.F ht⟩) hS.2.2 hdg hlk
theorem ga_wz {α : Type} {wf : α → va_W} {post : Int32 → α → Prop} {v : Int32} (x : α) (S : CallFix p m c cc nL s args gw own) (hr : meth.sig.returnType = some .boolean) (hlk : meth.locks = false) (hv : v = 0 ∨ v = 1) (hP : va_P D vwCl (wf x) H) (hD : va_D A (wf x)) (hS : va_S A s.heap H locs) (hp : post v x) (hdg : decode cc pc = .ok (.ireturn, 1)) : W p l e R s m args below meth c H locs cells slots (MQ below (va_Qi post (ga_B D A wf) A) args s cells slots A) (F0 m pc ls [.int v]) :=
  W.zret S.1 S.2.1 hr (by rcases hv with rfl | rfl <;> rfl) (fun t ht _ => ⟨⟨v, x, rfl, hp, by rw [ht]; exact hP, hD⟩, hS.F ht⟩) hS.2.2 hdg hlk
theorem ga_wv {α : Type} {wf : α → va_W} {post : α → Prop} (x : α) (S : CallFix p m c cc nL s args gw own) (hr : meth.sig.returnType = none) (hlk : meth.locks = false) (hP : va_P D vwCl (wf x) H) (hD : va_D A (wf x)) (hS : va_S A s.heap H locs) (hp : post x) (hdg : decode cc pc = .ok (.return_, 1)) : W p l e R s m args below meth c H locs cells slots (MQ below (va_Qv post (ga_B D A wf) A) args s cells slots A) (F0 m pc ls []) :=
  W.vret S.1 S.2.1 hr (fun t ht _ => ⟨⟨x, rfl, hp, by rw [ht]; exact hP, hD⟩, hS.F ht⟩) hS.2.2 hdg hlk
theorem ga_wq {α : Type} {wf : α → va_W} {ra : α → Nat} {post : α → Prop} {rt : FieldType} (x : α) (S : CallFix p m c cc nL s args gw own) (hr : meth.sig.returnType = some rt) (hrt : (∃ n, rt = .object n) ∨ ∃ t, rt = .array t) (hlk : meth.locks = false) (hP : va_P D vwCl (wf x) H) (hD : va_D A (wf x)) (hS : va_S A s.heap H locs) (hp : post x) (hdg : decode cc pc = .ok (.areturn, 1)) : W p l e R s m args below meth c H locs cells slots (MQ below (va_Qr post (ga_Bq D A wf ra) A) args s cells slots A) (F0 m pc ls [.ref (ra x)]) :=
  W.aret S.1 S.2.1 hr hrt (Or.inr ⟨_, rfl⟩) (fun t ht _ => ⟨⟨x, ra x, rfl, hp, rfl, by rw [ht]; exact hP, hD⟩, hS.F ht⟩) hS.2.2 hdg hlk
end GR
/-! numbers as naturals, truth values as Bool -/
def nA (f : Nat → Nat) : Nat → Int32 := fun j => nI (f j)
def bI : Bool → Int32
  | true => 1
  | false => 0
def zA (f : Nat → Bool) : Nat → Int32 := fun j => bI (f j)
theorem bI_01 (b : Bool) : bI b = 0 ∨ bI b = 1 := by cases b <;> simp [bI]
theorem bI_0 {b : Bool} (h : bI b = 0) : b = false := by cases b; rfl; exact absurd h (by decide)
theorem bI_1 {b : Bool} (h : ¬ bI b = 0) : b = true := by cases b; exact absurd rfl h; rfl
theorem nA_upd (f : Nat → Nat) (k v : Nat) : upd (nA f) k (nI v) = nA (va_up f k v) := by
  funext j
  by_cases h : j = k <;> simp [upd, nA, va_up, h]
theorem zA_upd (f : Nat → Bool) (k : Nat) (v : Bool) : upd (zA f) k (bI v) = zA (va_up f k v) := by
  funext j
  by_cases h : j = k <;> simp [upd, zA, va_up, h]
theorem ga_inc (a : Nat) : nI a + Int32.ofInt 1 = nI (a + 1) := nI_1 a
theorem ga_c16 {q : Nat} (h : q < 65536) : ((nI q).toUInt32 % 65536).toInt32 = nI q := by
  rw [pk_char, pk_tn (Nat.lt_trans h (by decide)), Nat.mod_eq_of_lt h]
theorem ga_nc {q : Nat} (h : q < 65536) : vp_nar .char (nI q) = nI q := by
  have := (pk_charN h).1
  unfold vp_nar
  rw [this]
section GN
variable {p : Program} {l : Launch} {e : Env} {R : Room} {s : State} {m : MethodId} {args : Array Value} {below : List Frame} {meth : Method} {c : Code} {H : Heap} {locs : List Loc} {cells slots : Nat} {Q : State → Prop}
variable {cc : ByteArray} {nL pc : Nat} {own : String} {ls : Array Slot} {rest st0 : List Value} {D : va_G} {tys : List (ClassId × FieldType)} {ws ws' : va_W} {A : Nat → Prop} {a : Nat}
theorem ga_top {x : Int32} (y : Int32) (h : x = y) (k : W p l e R s m args below meth c H locs cells slots Q (F0 m pc ls (.int y :: rest))) : W p l e R s m args below meth c H locs cells slots Q (F0 m pc ls (.int x :: rest)) := h ▸ k
theorem ga_ild (S : CallFix p m c cc nL s args gw own) (hK : ga_K D tys s) (hP : va_P D vwCl ws H) (q0 t0 : Nat) {cA : ClassId} {n : Nat} {f : Nat → Nat} (ha : ws[q0]? = some (a, .inl (cA, n, .inl (nA f)))) (ht : tys[t0]? = some (cA, .int)) (j : Nat) (hj : j < n) (hn : n < 2 ^ 31) (hdg : decode cc pc = .ok (.iaload, 1)) (kk : W p l e R s m args below meth c H locs cells slots Q (F0 m (pc + 1) ls (.int (nI (f j)) :: rest))) : W p l e R s m args below meth c H locs cells slots Q (F0 m pc ls (.int (nI j) :: .ref a :: rest)) := by
  refine va_iald S.1 S.2.1 hK.1 hP q0 t0 ha ht (vp_in_nI hj hn) hdg ?_
  rw [nI_clamp (Nat.lt_trans hj hn)]
  exact kk
theorem ga_cld (S : CallFix p m c cc nL s args gw own) (hK : ga_K D tys s) (hP : va_P D vwCl ws H) (q0 t0 : Nat) {cA : ClassId} {n : Nat} {f : Nat → Nat} (ha : ws[q0]? = some (a, .inl (cA, n, .inl (nA f)))) (ht : tys[t0]? = some (cA, .char)) (j : Nat) (hj : j < n) (hn : n < 2 ^ 31) (hdg : decode cc pc = .ok (.caload, 1)) (kk : W p l e R s m args below meth c H locs cells slots Q (F0 m (pc + 1) ls (.int (nI (f j)) :: rest))) : W p l e R s m args below meth c H locs cells slots Q (F0 m pc ls (.int (nI j) :: .ref a :: rest)) := by
  refine va_cald S.1 S.2.1 hK.1 hP q0 t0 ha ht (vp_in_nI hj hn) hdg ?_
  rw [nI_clamp (Nat.lt_trans hj hn)]
  exact kk
theorem ga_zld (S : CallFix p m c cc nL s args gw own) (hK : ga_K D tys s) (hP : va_P D vwCl ws H) (q0 t0 : Nat) {cA : ClassId} {n : Nat} {f : Nat → Bool} (ha : ws[q0]? = some (a, .inl (cA, n, .inl (zA f)))) (ht : tys[t0]? = some (cA, .boolean)) (j : Nat) (hj : j < n) (hn : n < 2 ^ 31) (hdg : decode cc pc = .ok (.baload, 1)) (kk : W p l e R s m args below meth c H locs cells slots Q (F0 m (pc + 1) ls (.int (bI (f j)) :: rest))) : W p l e R s m args below meth c H locs cells slots Q (F0 m pc ls (.int (nI j) :: .ref a :: rest)) := by
  refine va_zald S.1 S.2.1 hK.1 hP q0 t0 ha ht (vp_in_nI hj hn) hdg ?_
  rw [nI_clamp (Nat.lt_trans hj hn)]
  exact kk
theorem ga_ist (S : CallFix p m c cc nL s args gw own) (hK : ga_K D tys s) (hP : va_P D vwCl ws H) (hD : va_D A ws) (hS : va_S A s.heap H locs) (q0 t0 : Nat) {cA : ClassId} {n : Nat} {f : Nat → Nat} (ha : ws[q0]? = some (a, .inl (cA, n, .inl (nA f)))) (ht : tys[t0]? = some (cA, .int)) (j v : Nat) (hj : j < n) (hn : n < 2 ^ 31) (hw : ws.set q0 (a, .inl (cA, n, .inl (nA (va_up f j v)))) = ws') (hdg : decode cc pc = .ok (.iastore, 1)) (kk : ∀ (H1 : Heap) (locs1 : List Loc), va_P D vwCl ws' H1 → va_D A ws' → va_S A s.heap H1 locs1 → W p l e R s m args below meth c H1 locs1 cells slots Q (F0 m (pc + 1) ls rest)) : W p l e R s m args below meth c H locs cells slots Q (F0 m pc ls (.int (nI v) :: .int (nI j) :: .ref a :: rest)) :=
  ga_iast S hK hP hD hS q0 t0 ha ht (vp_in_nI hj hn) (by rw [nI_clamp (Nat.lt_trans hj hn), nA_upd]; exact hw) hdg kk
theorem ga_cst (S : CallFix p m c cc nL s args gw own) (hK : ga_K D tys s) (hP : va_P D vwCl ws H) (hD : va_D A ws) (hS : va_S A s.heap H locs) (q0 t0 : Nat) {cA : ClassId} {n : Nat} {f : Nat → Nat} (ha : ws[q0]? = some (a, .inl (cA, n, .inl (nA f)))) (ht : tys[t0]? = some (cA, .char)) (j v : Nat) (hj : j < n) (hn : n < 2 ^ 31) (hv : v < 65536) (hw : ws.set q0 (a, .inl (cA, n, .inl (nA (va_up f j v)))) = ws') (hdg : decode cc pc = .ok (.castore, 1)) (kk : ∀ (H1 : Heap) (locs1 : List Loc), va_P D vwCl ws' H1 → va_D A ws' → va_S A s.heap H1 locs1 → W p l e R s m args below meth c H1 locs1 cells slots Q (F0 m (pc + 1) ls rest)) : W p l e R s m args below meth c H locs cells slots Q (F0 m pc ls (.int (nI v) :: .int (nI j) :: .ref a :: rest)) :=
  ga_cast S hK hP hD hS q0 t0 ha ht (vp_in_nI hj hn) (ga_nc hv) (by rw [nI_clamp (Nat.lt_trans hj hn), nA_upd]; exact hw) hdg kk
theorem ga_zst (S : CallFix p m c cc nL s args gw own) (hK : ga_K D tys s) (hP : va_P D vwCl ws H) (hD : va_D A ws) (hS : va_S A s.heap H locs) (q0 t0 : Nat) {cA : ClassId} {n : Nat} {f : Nat → Bool} (ha : ws[q0]? = some (a, .inl (cA, n, .inl (zA f)))) (ht : tys[t0]? = some (cA, .boolean)) (j : Nat) (v : Bool) (hj : j < n) (hn : n < 2 ^ 31) (hw : ws.set q0 (a, .inl (cA, n, .inl (zA (va_up f j v)))) = ws') (hdg : decode cc pc = .ok (.bastore, 1)) (kk : ∀ (H1 : Heap) (locs1 : List Loc), va_P D vwCl ws' H1 → va_D A ws' → va_S A s.heap H1 locs1 → W p l e R s m args below meth c H1 locs1 cells slots Q (F0 m (pc + 1) ls rest)) : W p l e R s m args below meth c H locs cells slots Q (F0 m pc ls (.int (bI v) :: .int (nI j) :: .ref a :: rest)) :=
  ga_zast S hK hP hD hS q0 t0 ha ht (vp_in_nI hj hn) (bI_01 v) (by rw [nI_clamp (Nat.lt_trans hj hn), zA_upd]; exact hw) hdg kk
theorem ga_loopR {α : Type} (μ : α → Nat) (I : α → Array Slot → Prop)
    (hs : ∀ (x : α) (ls : Array Slot), I x ls → (∀ (z : α) (ls' : Array Slot), μ z < μ x → I z ls' → W p l e R s m args below meth c H locs cells slots Q (F0 m pc ls' [])) → W p l e R s m args below meth c H locs cells slots Q (F0 m pc ls []))
    (x0 : α) (h0 : I x0 ls) : W p l e R s m args below meth c H locs cells slots Q (F0 m pc ls []) :=
  ga_loop μ (fun x ls H' locs' => H' = H ∧ locs' = locs ∧ I x ls) (fun x ls H' locs' hI ih => by
    obtain ⟨rfl, rfl, hI⟩ := hI
    exact hs x ls hI (fun z ls' hz hz' => ih z ls' _ _ hz ⟨rfl, rfl, hz'⟩)) x0 ⟨rfl, rfl, h0⟩
end GN
