/-! One list of words for all methods (gw), one list of nest words (ga_nl); contracts in three shapes; rows that take them. -/
def ga_gd (w : Cond) : Bool := (w.onTables && w.keeps) || (match w with | .arrayClass _ => true | _ => false)
theorem ga_gd_ok {w : Cond} (h : ga_gd w = true) : (w.onTables && w.keeps) = true ∨ ∃ ty, w = .arrayClass ty := by
  cases w with
  | arrayClass ty => exact Or.inr ⟨ty, rfl⟩
  | _ => exact Or.inl ((Bool.or_false _).symm.trans h)
def gw : List Cond := lw_tbl.filter ga_gd
theorem gw_at {w : Cond} (i : Nat) (h : lw_tbl[i]? = some w) (hg : ga_gd w = true) : w ∈ gw := List.mem_filter.mpr ⟨List.mem_of_getElem? h, hg⟩
theorem gw_tbl {w : Cond} (h : w ∈ gw) : w ∈ lw_tbl := (List.mem_filter.mp h).1
theorem gw_ok {w : Cond} (h : w ∈ gw) : (w.onTables && w.keeps) = true ∨ ∃ ty, w = .arrayClass ty := ga_gd_ok (List.mem_filter.mp h).2
theorem gw_good {ws : List Cond} (h : ∀ w ∈ ws, w ∈ gw) : GoodIn gw ws := fun w hw => ⟨h w hw, gw_ok (h w hw)⟩
theorem gw_c {b : Cond} (h : b ∈ gw) : GoodIn gw (b :: gw) := gw_good (fun w hw => by
  rcases List.mem_cons.mp hw with rfl | hw
  · exact h
  · exact hw)
def ga_isN : Cond → Bool
  | .fieldLinkNest _ _ _ _ _ _ => true
  | .methodLinkNest _ _ _ _ => true
  | _ => false
theorem ga_isN_on {w : Cond} (h : ga_isN w = true) : w.onTables = true := by
  cases w with
  | fieldLinkNest a i b n d h => rfl
  | methodLinkNest a i x h => rfl
  | _ => cases h
theorem ga_Nw_warm {w : Cond} (h : ga_isN w = true) {s U : State} (hW : s.WarmedH U.vm) (hZ : va_Nw w s) : va_Nw w U := by
  cases w with
  | fieldLinkNest a i b n d h => exact va_Nw.warmF hW hZ
  | methodLinkNest a i x h => exact va_Nw.warmM hW hZ
  | _ => cases h
def ga_K (D : va_G) (tys : List (ClassId × FieldType)) (U : State) : Prop := va_K D vwCl tys U ∧ (∀ w ∈ ga_nl, va_Nw w U) ∧ va_AOA .int U
abbrev ga_T (cI cZ cC cG : ClassId) : List (ClassId × FieldType) := [(cI, .int), (cZ, .boolean), (cC, .char), (cG, .array .int)]
theorem ga_nl_ok : ∀ w ∈ ga_nl, ga_isN w = true := by decide +kernel
theorem ga_K.warm {D : va_G} {tys : List (ClassId × FieldType)} {s U : State} (hW : s.WarmedH U.vm) (h : ga_K D tys s) : ga_K D tys U := ⟨va_K.moved hW.alike h.1, fun w hw => ga_Nw_warm (ga_nl_ok w hw) hW (h.2.1 w hw), h.2.2.moved hW.alike⟩
theorem ga_K.calling {D : va_G} {tys : List (ClassId × FieldType)} {U : State} {g : JFrame} {mk : MethodId} {a : Array Value} (h : ga_K D tys U) : ga_K D tys (U.calling g mk a) := ⟨va_K.moved (u := U) (U := U.calling g mk a) (Vm.Alike.refl U.vm) h.1, fun w hw => va_Nw.same (u := U) (U := U.calling g mk a) (ga_isN_on (ga_nl_ok w hw)) rfl (h.2.1 w hw), va_AOA.moved (u := U) (U := U.calling g mk a) (Vm.Alike.refl U.vm) h.2.2⟩
abbrev ga_rm (d mc ms : Nat) : Room := { frames := d, cells := mc, slots := ms, locals := 40 * d }
def ga_pr (D : va_G) (tys : List (ClassId × FieldType)) (av : List Value) (w : va_W) : Array Value → State → Prop := va_Pc av (fun U => va_P D vwCl w U.heap ∧ ga_K D tys U)
def ga_pw (D : va_G) (tys : List (ClassId × FieldType)) (av : List Value) (w : va_W) (sz : Nat) : Array Value → State → Prop := va_Pc av (fun U => U.heap.size = sz ∧ va_P D vwCl w U.heap ∧ ga_K D tys U ∧ va_D (fun _ => True) w)
def ga_B {α : Type} (D : va_G) (A : Nat → Prop) (wf : α → va_W) : α → State → Prop := fun x t => va_P D vwCl (wf x) t.heap ∧ va_D A (wf x)
def ga_Bq {α : Type} (D : va_G) (A : Nat → Prop) (wf : α → va_W) (ra : α → Nat) : α → Nat → State → Prop := fun x a t => a = ra x ∧ va_P D vwCl (wf x) t.heap ∧ va_D A (wf x)
/-- a method that only reads: its answer -/
def ga_Mr (l : Launch) (y : MethodName) (b : ByteArray) (n : Nat) (ret : Option FieldType) (d : Nat) (D : va_G) (tys : List (ClassId × FieldType)) (av : List Value) (w : va_W) (post : Int32 → Prop) : Prop :=
  Met l y (.code y b n ret :: gw) (ga_rm d 0 0) (ga_pr D tys av w) (vp_Si post) 0 0 (fun _ => False)
/-- a method that answers an int and changes its world -/
def ga_Mi {α : Type} (l : Launch) (y : MethodName) (b : ByteArray) (n : Nat) (ret : Option FieldType) (d mc ms : Nat) (D : va_G) (tys : List (ClassId × FieldType)) (av : List Value) (w : va_W) (wf : α → va_W) (post : Int32 → α → Prop) : Prop :=
  ∀ sz, Met l y (.code y b n ret :: gw) (ga_rm d mc ms) (ga_pw D tys av w sz) (va_Qi post (ga_B D (va_A w sz) wf) (va_A w sz)) mc ms (va_A w sz)
/-- .. and answers nothing -/
def ga_Mv {α : Type} (l : Launch) (y : MethodName) (b : ByteArray) (n : Nat) (d mc ms : Nat) (D : va_G) (tys : List (ClassId × FieldType)) (av : List Value) (w : va_W) (wf : α → va_W) (post : α → Prop) : Prop :=
  ∀ sz, Met l y (.code y b n none :: gw) (ga_rm d mc ms) (ga_pw D tys av w sz) (va_Qv post (ga_B D (va_A w sz) wf) (va_A w sz)) mc ms (va_A w sz)
/-- .. and answers a cell -/
def ga_Mq {α : Type} (l : Launch) (y : MethodName) (b : ByteArray) (n : Nat) (ret : Option FieldType) (d mc ms : Nat) (D : va_G) (tys : List (ClassId × FieldType)) (av : List Value) (w : va_W) (wf : α → va_W) (ra : α → Nat) (post : α → Prop) : Prop :=
  ∀ sz, Met l y (.code y b n ret :: gw) (ga_rm d mc ms) (ga_pw D tys av w sz) (va_Qr post (ga_Bq D (va_A w sz) wf ra) (va_A w sz)) mc ms (va_A w sz)
theorem ga_pr_blind {D : va_G} {tys : List (ClassId × FieldType)} {av : List Value} {w : va_W} : FrameBlind (ga_pr D tys av w) := fun _ _ _ _ h => ⟨h.1, h.2.1, h.2.2.calling⟩
theorem ga_pw_blind {D : va_G} {tys : List (ClassId × FieldType)} {av : List Value} {w : va_W} {sz : Nat} : FrameBlind (ga_pw D tys av w sz) := fun _ _ _ _ h => ⟨h.1, h.2.1, h.2.2.1, h.2.2.2.1.calling, h.2.2.2.2⟩
section GE
variable {l : Launch} {y : MethodName} {b : ByteArray} {n : Nat} {ret : Option FieldType} {d mc ms : Nat} {D : va_G} {tys : List (ClassId × FieldType)} {av : List Value} {w : va_W}
theorem ga_enR {post : Int32 → Prop} (hy : plainName y.cls = true) (hn : (lg_sl av).length ≤ n)
    (body : ∀ (p : Program) (e : Env) (s : State) (m : MethodId) (below : List Frame) (meth : Method) (c : Code) (ls : Array Slot), CallFix p m c b n s av.toArray gw y.cls → meth.sig.returnType = ret → meth.locks = false → ga_K D tys s → va_P D vwCl w s.heap → lv_has ls n (lv_args 0 av) → W p l e (ga_rm d 0 0) s m av.toArray below meth c s.heap [] 0 0 (MQ below (vp_Si post) av.toArray s 0 0 (fun _ => False)) (F0 m 0 ls [])) : ga_Mr l y b n ret d D tys av w post := by
  unfold ga_Mr
  refine Met.ofW (cc := b) (maxL := n) (ret := ret) hy rfl ?_
  intro p e s m args below meth c s₁ B hml hv
  obtain ⟨rfl, hP, hK⟩ := hv
  have hts := atoms_spec (ws := .code y b n ret :: gw) B.pre
  rw [lg_entry_eq]
  exact body p e s m below meth c _ ⟨B.exec, B.bytes, hml, findClass_of_methodNamed B.named, fun w h => hts w (List.mem_cons_of_mem _ h)⟩ B.returns B.notSynchronized hK hP (lv_entry av hn)
theorem ga_enI {α : Type} {wf : α → va_W} {post : Int32 → α → Prop} (hy : plainName y.cls = true) (hn : (lg_sl av).length ≤ n)
    (body : ∀ (p : Program) (e : Env) (s : State) (m : MethodId) (below : List Frame) (meth : Method) (c : Code) (ls : Array Slot) (A : Nat → Prop), CallFix p m c b n s av.toArray gw y.cls → meth.sig.returnType = ret → meth.locks = false → ga_K D tys s → va_P D vwCl w s.heap → va_D A w → (∀ q, s.heap.size ≤ q → A q) → lv_has ls n (lv_args 0 av) → W p l e (ga_rm d mc ms) s m av.toArray below meth c s.heap [] 0 0 (MQ below (va_Qi post (ga_B D A wf) A) av.toArray s mc ms A) (F0 m 0 ls [])) : ga_Mi l y b n ret d mc ms D tys av w wf post := by
  intro sz
  refine Met.ofW (cc := b) (maxL := n) (ret := ret) hy rfl ?_
  intro p e s m args below meth c s₁ B hml hv
  obtain ⟨rfl, hsz, hP, hK, hD⟩ := hv
  subst hsz
  have hts := atoms_spec (ws := .code y b n ret :: gw) B.pre
  rw [lg_entry_eq]
  exact body p e s m below meth c _ (va_A w s.heap.size) ⟨B.exec, B.bytes, hml, findClass_of_methodNamed B.named, fun w h => hts w (List.mem_cons_of_mem _ h)⟩ B.returns B.notSynchronized hK hP hD.self (fun q h => Or.inr h) (lv_entry av hn)
theorem ga_enV {α : Type} {wf : α → va_W} {post : α → Prop} (hy : plainName y.cls = true) (hn : (lg_sl av).length ≤ n)
    (body : ∀ (p : Program) (e : Env) (s : State) (m : MethodId) (below : List Frame) (meth : Method) (c : Code) (ls : Array Slot) (A : Nat → Prop), CallFix p m c b n s av.toArray gw y.cls → meth.sig.returnType = none → meth.locks = false → meth.name = y.name → ga_K D tys s → va_P D vwCl w s.heap → va_D A w → (∀ q, s.heap.size ≤ q → A q) → lv_has ls n (lv_args 0 av) → W p l e (ga_rm d mc ms) s m av.toArray below meth c s.heap [] 0 0 (MQ below (va_Qv post (ga_B D A wf) A) av.toArray s mc ms A) (F0 m 0 ls [])) : ga_Mv l y b n d mc ms D tys av w wf post := by
  intro sz
  refine Met.ofW (cc := b) (maxL := n) (ret := none) hy rfl ?_
  intro p e s m args below meth c s₁ B hml hv
  obtain ⟨rfl, hsz, hP, hK, hD⟩ := hv
  subst hsz
  have hts := atoms_spec (ws := .code y b n none :: gw) B.pre
  rw [lg_entry_eq]
  exact body p e s m below meth c _ (va_A w s.heap.size) ⟨B.exec, B.bytes, hml, findClass_of_methodNamed B.named, fun w h => hts w (List.mem_cons_of_mem _ h)⟩ B.returns B.notSynchronized (name_of_methodNamed B.named B.method).1 hK hP hD.self (fun q h => Or.inr h) (lv_entry av hn)
theorem ga_enQ {α : Type} {wf : α → va_W} {ra : α → Nat} {post : α → Prop} (hy : plainName y.cls = true) (hn : (lg_sl av).length ≤ n)
    (body : ∀ (p : Program) (e : Env) (s : State) (m : MethodId) (below : List Frame) (meth : Method) (c : Code) (ls : Array Slot) (A : Nat → Prop), CallFix p m c b n s av.toArray gw y.cls → meth.sig.returnType = ret → meth.locks = false → ga_K D tys s → va_P D vwCl w s.heap → va_D A w → (∀ q, s.heap.size ≤ q → A q) → lv_has ls n (lv_args 0 av) → W p l e (ga_rm d mc ms) s m av.toArray below meth c s.heap [] 0 0 (MQ below (va_Qr post (ga_Bq D A wf ra) A) av.toArray s mc ms A) (F0 m 0 ls [])) : ga_Mq l y b n ret d mc ms D tys av w wf ra post := by
  intro sz
  refine Met.ofW (cc := b) (maxL := n) (ret := ret) hy rfl ?_
  intro p e s m args below meth c s₁ B hml hv
  obtain ⟨rfl, hsz, hP, hK, hD⟩ := hv
  subst hsz
  have hts := atoms_spec (ws := .code y b n ret :: gw) B.pre
  rw [lg_entry_eq]
  exact body p e s m below meth c _ (va_A w s.heap.size) ⟨B.exec, B.bytes, hml, findClass_of_methodNamed B.named, fun w h => hts w (List.mem_cons_of_mem _ h)⟩ B.returns B.notSynchronized hK hP hD.self (fun q h => Or.inr h) (lv_entry av hn)
end GE
/-- what a call site's row of the pool says: an instance method, by its own class or a nest mate -/
def ga_SV (own : String) (idx : Nat) (y : MethodName) (b : ByteArray) (n : Nat) (r : Option FieldType) (k : Nat) : Prop :=
  (Cond.methodLink own idx y ∈ gw ∨ ∃ host, Cond.methodLinkNest own idx y host ∈ ga_nl) ∧ Cond.instanceMethod y ∈ gw ∧ Cond.selects y.cls y y ∈ gw ∧ Cond.initialized y.cls ∈ gw ∧ Cond.code y b n r ∈ gw ∧ (y.cls ≠ "java/lang/invoke/MethodHandle" ∧ y.cls ≠ "java/lang/invoke/VarHandle" ∧ (parseMethodDescriptor y.desc).map (fun d => d.parameters.length) = some k)
/-- .. a static one -/
def ga_SS (own : String) (idx : Nat) (y : MethodName) (b : ByteArray) (n : Nat) (r : Option FieldType) (k : Nat) : Prop :=
  (Cond.methodLink own idx y ∈ gw ∨ ∃ host, Cond.methodLinkNest own idx y host ∈ ga_nl) ∧ Cond.static y ∈ gw ∧ Cond.initialized y.cls ∈ gw ∧ Cond.code y b n r ∈ gw ∧ (y.cls ≠ "java/lang/invoke/MethodHandle" ∧ y.cls ≠ "java/lang/invoke/VarHandle" ∧ (parseMethodDescriptor y.desc).map (fun d => d.parameters.length) = some k)
/-- .. a constructor -/
def ga_SI (own : String) (idx : Nat) (y : MethodName) (b : ByteArray) (n : Nat) (k : Nat) : Prop :=
  (Cond.methodLink own idx y ∈ gw ∨ ∃ host, Cond.methodLinkNest own idx y host ∈ ga_nl) ∧ Cond.instanceMethod y ∈ gw ∧ y.name = "<init>" ∧ Cond.initialized y.cls ∈ gw ∧ Cond.code y b n none ∈ gw ∧ (y.cls ≠ "java/lang/invoke/MethodHandle" ∧ y.cls ≠ "java/lang/invoke/VarHandle" ∧ (parseMethodDescriptor y.desc).map (fun d => d.parameters.length) = some k)
/-- .. a field that is read -/
def ga_FG (own : String) (idx ci k : Nat) : Prop := ∃ (C : String) (T : u_T) (N : Nat), vwCl[ci]? = some (C, T, N) ∧ (∀ w ∈ u_ws C T N, w ∈ gw) ∧ k < N ∧ (Cond.fieldLink own idx (T k).1 (T k).2.1 (T k).2.2.1 ∈ gw ∨ ∃ host, Cond.fieldLinkNest own idx (T k).1 (T k).2.1 (T k).2.2.1 host ∈ ga_nl)
/-- .. a field that is written: of the type ty, final or not -/
def ga_FP (own : String) (idx ci k : Nat) (ty : FieldType) (fin : Bool) : Prop := ∃ (C : String) (T : u_T) (N : Nat) (ty0 : Nat → FieldType), vwCl[ci]? = some (C, T, N) ∧ (∀ w ∈ u_ws C T N, w ∈ gw) ∧ k < N ∧ (∀ k, k < N → parseFieldDescriptor (T k).2.2.1 = some (ty0 k)) ∧ (∀ a, a < N → ∀ b, b < N → a ≠ b → (T a).2.1 ≠ (T b).2.1) ∧ (T k).2.2.2 = fin ∧ parseFieldDescriptor (T k).2.2.1 = some ty ∧ (fin = true → (T k).1 = own) ∧ (Cond.fieldLink own idx (T k).1 (T k).2.1 (T k).2.2.1 ∈ gw ∨ (fin = false ∧ ∃ host, Cond.fieldLinkNest own idx (T k).1 (T k).2.1 (T k).2.2.1 host ∈ ga_nl))
/-- .. a class that is made -/
def ga_CN (own : String) (idx ci N : Nat) (fs : List Value) : Prop := ∃ (C : String) (T : u_T) (ty0 : Nat → FieldType), vwCl[ci]? = some (C, T, N) ∧ (∀ w ∈ u_ws C T N, w ∈ gw) ∧ (∀ k, k < N → parseFieldDescriptor (T k).2.2.1 = some (ty0 k)) ∧ Cond.classLink own idx C ∈ gw ∧ Cond.instantiable C N ∈ gw ∧ Cond.initialized C ∈ gw ∧ ∀ j, j < N → defaultValue (ty0 j) = vp_V fs j
