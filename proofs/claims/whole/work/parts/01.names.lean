-- ===== PART A: goes FIRST, ahead of the names: the tables' words, and 'selects' of the private methods out of them =====
/-- a private method of a class that the tables say can be made, by its rows of tables_1 -/
def lw_okq (q : MethodName × Nat) : Prop := (q.1.cls ≠ "java/lang/invoke/MethodHandle" ∧ q.1.cls ≠ "java/lang/invoke/VarHandle") ∧ Cond.instantiable q.1.cls q.2 ∈ tables_1 ∧ Cond.privateMethod q.1 ∈ tables_1 ∧ Cond.instanceMethod q.1 ∈ tables_1
theorem lw_p0 : lw_okq (⟨"SortPlans$Reading", "readSentence", "()V"⟩, 4) := ⟨⟨by decide +kernel, by decide +kernel⟩, List.mem_of_getElem? (i := 19) (by decide +kernel), List.mem_of_getElem? (i := 181) (by decide +kernel), List.mem_of_getElem? (i := 182) (by decide +kernel)⟩
theorem lw_p1 : lw_okq (⟨"SortPlans$Reading", "readRange", "()V"⟩, 4) := ⟨⟨by decide +kernel, by decide +kernel⟩, List.mem_of_getElem? (i := 19) (by decide +kernel), List.mem_of_getElem? (i := 189) (by decide +kernel), List.mem_of_getElem? (i := 190) (by decide +kernel)⟩
theorem lw_p2 : lw_okq (⟨"SortPlans$Reading", "readNumber", "(II)I"⟩, 4) := ⟨⟨by decide +kernel, by decide +kernel⟩, List.mem_of_getElem? (i := 19) (by decide +kernel), List.mem_of_getElem? (i := 193) (by decide +kernel), List.mem_of_getElem? (i := 194) (by decide +kernel)⟩
theorem lw_p3 : lw_okq (⟨"SortPlans$Reading", "readSign", "(C)V"⟩, 4) := ⟨⟨by decide +kernel, by decide +kernel⟩, List.mem_of_getElem? (i := 19) (by decide +kernel), List.mem_of_getElem? (i := 201) (by decide +kernel), List.mem_of_getElem? (i := 202) (by decide +kernel)⟩
theorem lw_p4 : lw_okq (⟨"SortPlans$Reading", "readBin", "(I)V"⟩, 4) := ⟨⟨by decide +kernel, by decide +kernel⟩, List.mem_of_getElem? (i := 19) (by decide +kernel), List.mem_of_getElem? (i := 209) (by decide +kernel), List.mem_of_getElem? (i := 210) (by decide +kernel)⟩
theorem lw_p5 : lw_okq (⟨"SortPlans$Reading", "readPlus", "()Z"⟩, 4) := ⟨⟨by decide +kernel, by decide +kernel⟩, List.mem_of_getElem? (i := 19) (by decide +kernel), List.mem_of_getElem? (i := 213) (by decide +kernel), List.mem_of_getElem? (i := 214) (by decide +kernel)⟩
theorem lw_p6 : lw_okq (⟨"SortPlans$Reading", "readGoingOn", "(I)V"⟩, 4) := ⟨⟨by decide +kernel, by decide +kernel⟩, List.mem_of_getElem? (i := 19) (by decide +kernel), List.mem_of_getElem? (i := 224) (by decide +kernel), List.mem_of_getElem? (i := 225) (by decide +kernel)⟩
theorem lw_p7 : lw_okq (⟨"SortPlans", "addEdition", "()V"⟩, 6) := ⟨⟨by decide +kernel, by decide +kernel⟩, List.mem_of_getElem? (i := 11) (by decide +kernel), List.mem_of_getElem? (i := 233) (by decide +kernel), List.mem_of_getElem? (i := 234) (by decide +kernel)⟩
theorem lw_p8 : lw_okq (⟨"SortPlans", "hasPlan", "()Z"⟩, 6) := ⟨⟨by decide +kernel, by decide +kernel⟩, List.mem_of_getElem? (i := 11) (by decide +kernel), List.mem_of_getElem? (i := 249) (by decide +kernel), List.mem_of_getElem? (i := 250) (by decide +kernel)⟩
theorem lw_p9 : lw_okq (⟨"SortPlans$Faults", "findHoles", "(LSortPlans$Plan;II)V"⟩, 2) := ⟨⟨by decide +kernel, by decide +kernel⟩, List.mem_of_getElem? (i := 101) (by decide +kernel), List.mem_of_getElem? (i := 279) (by decide +kernel), List.mem_of_getElem? (i := 280) (by decide +kernel)⟩
theorem lw_p10 : lw_okq (⟨"SortPlans$Faults", "add", "(IIIII)V"⟩, 2) := ⟨⟨by decide +kernel, by decide +kernel⟩, List.mem_of_getElem? (i := 101) (by decide +kernel), List.mem_of_getElem? (i := 284) (by decide +kernel), List.mem_of_getElem? (i := 285) (by decide +kernel)⟩
theorem lw_p11 : lw_okq (⟨"SortPlans$Faults", "findDoubles", "(LSortPlans$Plan;II)V"⟩, 2) := ⟨⟨by decide +kernel, by decide +kernel⟩, List.mem_of_getElem? (i := 101) (by decide +kernel), List.mem_of_getElem? (i := 288) (by decide +kernel), List.mem_of_getElem? (i := 289) (by decide +kernel)⟩
theorem lw_p12 : lw_okq (⟨"SortPlans$Faults", "findDoublesOf", "(LSortPlans$Plan;IIII)V"⟩, 2) := ⟨⟨by decide +kernel, by decide +kernel⟩, List.mem_of_getElem? (i := 101) (by decide +kernel), List.mem_of_getElem? (i := 292) (by decide +kernel), List.mem_of_getElem? (i := 293) (by decide +kernel)⟩
theorem lw_p13 : lw_okq (⟨"SortPlans$Plan", "isOtherThan", "([II)Z"⟩, 10) := ⟨⟨by decide +kernel, by decide +kernel⟩, List.mem_of_getElem? (i := 41) (by decide +kernel), List.mem_of_getElem? (i := 316) (by decide +kernel), List.mem_of_getElem? (i := 317) (by decide +kernel)⟩
theorem lw_p14 : lw_okq (⟨"SortPlans$Sheet", "writeBin", "(LSortPlans$Plan;I)V"⟩, 2) := ⟨⟨by decide +kernel, by decide +kernel⟩, List.mem_of_getElem? (i := 115) (by decide +kernel), List.mem_of_getElem? (i := 347) (by decide +kernel), List.mem_of_getElem? (i := 348) (by decide +kernel)⟩
theorem lw_p15 : lw_okq (⟨"SortPlans$Sheet", "put", "(C)V"⟩, 2) := ⟨⟨by decide +kernel, by decide +kernel⟩, List.mem_of_getElem? (i := 115) (by decide +kernel), List.mem_of_getElem? (i := 352) (by decide +kernel), List.mem_of_getElem? (i := 353) (by decide +kernel)⟩
def lw_privs_1 : List (MethodName × Nat) := [(⟨"SortPlans$Reading", "readSentence", "()V"⟩, 4), (⟨"SortPlans$Reading", "readRange", "()V"⟩, 4), (⟨"SortPlans$Reading", "readNumber", "(II)I"⟩, 4), (⟨"SortPlans$Reading", "readSign", "(C)V"⟩, 4), (⟨"SortPlans$Reading", "readBin", "(I)V"⟩, 4), (⟨"SortPlans$Reading", "readPlus", "()Z"⟩, 4), (⟨"SortPlans$Reading", "readGoingOn", "(I)V"⟩, 4), (⟨"SortPlans", "addEdition", "()V"⟩, 6), (⟨"SortPlans", "hasPlan", "()Z"⟩, 6), (⟨"SortPlans$Faults", "findHoles", "(LSortPlans$Plan;II)V"⟩, 2), (⟨"SortPlans$Faults", "add", "(IIIII)V"⟩, 2), (⟨"SortPlans$Faults", "findDoubles", "(LSortPlans$Plan;II)V"⟩, 2), (⟨"SortPlans$Faults", "findDoublesOf", "(LSortPlans$Plan;IIII)V"⟩, 2), (⟨"SortPlans$Plan", "isOtherThan", "([II)Z"⟩, 10), (⟨"SortPlans$Sheet", "writeBin", "(LSortPlans$Plan;I)V"⟩, 2), (⟨"SortPlans$Sheet", "put", "(C)V"⟩, 2)]
theorem lw_r1 : ∀ q ∈ lw_privs_1, lw_okq q := List.forall_mem_cons.mpr ⟨lw_p0, List.forall_mem_cons.mpr ⟨lw_p1, List.forall_mem_cons.mpr ⟨lw_p2, List.forall_mem_cons.mpr ⟨lw_p3, List.forall_mem_cons.mpr ⟨lw_p4, List.forall_mem_cons.mpr ⟨lw_p5, List.forall_mem_cons.mpr ⟨lw_p6, List.forall_mem_cons.mpr ⟨lw_p7, List.forall_mem_cons.mpr ⟨lw_p8, List.forall_mem_cons.mpr ⟨lw_p9, List.forall_mem_cons.mpr ⟨lw_p10, List.forall_mem_cons.mpr ⟨lw_p11, List.forall_mem_cons.mpr ⟨lw_p12, List.forall_mem_cons.mpr ⟨lw_p13, List.forall_mem_cons.mpr ⟨lw_p14, List.forall_mem_cons.mpr ⟨lw_p15, fun _ h => absurd h List.not_mem_nil⟩⟩⟩⟩⟩⟩⟩⟩⟩⟩⟩⟩⟩⟩⟩⟩
theorem lw_p16 : lw_okq (⟨"SortPlans$Sheet", "putNumber", "(I)V"⟩, 2) := ⟨⟨by decide +kernel, by decide +kernel⟩, List.mem_of_getElem? (i := 115) (by decide +kernel), List.mem_of_getElem? (i := 356) (by decide +kernel), List.mem_of_getElem? (i := 357) (by decide +kernel)⟩
theorem lw_p17 : lw_okq (⟨"SortPlansModel", "readAll", "()I"⟩, 19) := ⟨⟨by decide +kernel, by decide +kernel⟩, List.mem_of_getElem? (i := 364) (by decide +kernel), List.mem_of_getElem? (i := 436) (by decide +kernel), List.mem_of_getElem? (i := 437) (by decide +kernel)⟩
theorem lw_p18 : lw_okq (⟨"SortPlansModel", "look", "()I"⟩, 19) := ⟨⟨by decide +kernel, by decide +kernel⟩, List.mem_of_getElem? (i := 364) (by decide +kernel), List.mem_of_getElem? (i := 440) (by decide +kernel), List.mem_of_getElem? (i := 441) (by decide +kernel)⟩
theorem lw_p19 : lw_okq (⟨"SortPlansModel", "readTarget", "()V"⟩, 19) := ⟨⟨by decide +kernel, by decide +kernel⟩, List.mem_of_getElem? (i := 364) (by decide +kernel), List.mem_of_getElem? (i := 444) (by decide +kernel), List.mem_of_getElem? (i := 445) (by decide +kernel)⟩
theorem lw_p20 : lw_okq (⟨"SortPlansModel", "number", "(III)I"⟩, 19) := ⟨⟨by decide +kernel, by decide +kernel⟩, List.mem_of_getElem? (i := 364) (by decide +kernel), List.mem_of_getElem? (i := 448) (by decide +kernel), List.mem_of_getElem? (i := 449) (by decide +kernel)⟩
theorem lw_p21 : lw_okq (⟨"SortPlansModel", "fails", "(I)V"⟩, 19) := ⟨⟨by decide +kernel, by decide +kernel⟩, List.mem_of_getElem? (i := 364) (by decide +kernel), List.mem_of_getElem? (i := 452) (by decide +kernel), List.mem_of_getElem? (i := 453) (by decide +kernel)⟩
theorem lw_p22 : lw_okq (⟨"SortPlansModel", "sign1", "(I)V"⟩, 19) := ⟨⟨by decide +kernel, by decide +kernel⟩, List.mem_of_getElem? (i := 364) (by decide +kernel), List.mem_of_getElem? (i := 456) (by decide +kernel), List.mem_of_getElem? (i := 457) (by decide +kernel)⟩
theorem lw_p23 : lw_okq (⟨"SortPlansModel", "readBin", "(I)V"⟩, 19) := ⟨⟨by decide +kernel, by decide +kernel⟩, List.mem_of_getElem? (i := 364) (by decide +kernel), List.mem_of_getElem? (i := 460) (by decide +kernel), List.mem_of_getElem? (i := 461) (by decide +kernel)⟩
theorem lw_p24 : lw_okq (⟨"SortPlansModel", "readOverflow", "(I)V"⟩, 19) := ⟨⟨by decide +kernel, by decide +kernel⟩, List.mem_of_getElem? (i := 364) (by decide +kernel), List.mem_of_getElem? (i := 467) (by decide +kernel), List.mem_of_getElem? (i := 468) (by decide +kernel)⟩
theorem lw_p25 : lw_okq (⟨"SortPlansModel", "isPass", "(II)Z"⟩, 19) := ⟨⟨by decide +kernel, by decide +kernel⟩, List.mem_of_getElem? (i := 364) (by decide +kernel), List.mem_of_getElem? (i := 486) (by decide +kernel), List.mem_of_getElem? (i := 487) (by decide +kernel)⟩
theorem lw_p26 : lw_okq (⟨"SortPlansModel", "isUsed", "(I)Z"⟩, 19) := ⟨⟨by decide +kernel, by decide +kernel⟩, List.mem_of_getElem? (i := 364) (by decide +kernel), List.mem_of_getElem? (i := 490) (by decide +kernel), List.mem_of_getElem? (i := 491) (by decide +kernel)⟩
theorem lw_p27 : lw_okq (⟨"SortPlansModel", "tell", "(IIIII)V"⟩, 19) := ⟨⟨by decide +kernel, by decide +kernel⟩, List.mem_of_getElem? (i := 364) (by decide +kernel), List.mem_of_getElem? (i := 494) (by decide +kernel), List.mem_of_getElem? (i := 495) (by decide +kernel)⟩
theorem lw_p28 : lw_okq (⟨"SortPlansModel", "write", "(II)I"⟩, 19) := ⟨⟨by decide +kernel, by decide +kernel⟩, List.mem_of_getElem? (i := 364) (by decide +kernel), List.mem_of_getElem? (i := 522) (by decide +kernel), List.mem_of_getElem? (i := 523) (by decide +kernel)⟩
theorem lw_p29 : lw_okq (⟨"SortPlansModel", "has", "(III)Z"⟩, 19) := ⟨⟨by decide +kernel, by decide +kernel⟩, List.mem_of_getElem? (i := 364) (by decide +kernel), List.mem_of_getElem? (i := 526) (by decide +kernel), List.mem_of_getElem? (i := 527) (by decide +kernel)⟩
def lw_privs_2 : List (MethodName × Nat) := [(⟨"SortPlans$Sheet", "putNumber", "(I)V"⟩, 2), (⟨"SortPlansModel", "readAll", "()I"⟩, 19), (⟨"SortPlansModel", "look", "()I"⟩, 19), (⟨"SortPlansModel", "readTarget", "()V"⟩, 19), (⟨"SortPlansModel", "number", "(III)I"⟩, 19), (⟨"SortPlansModel", "fails", "(I)V"⟩, 19), (⟨"SortPlansModel", "sign1", "(I)V"⟩, 19), (⟨"SortPlansModel", "readBin", "(I)V"⟩, 19), (⟨"SortPlansModel", "readOverflow", "(I)V"⟩, 19), (⟨"SortPlansModel", "isPass", "(II)Z"⟩, 19), (⟨"SortPlansModel", "isUsed", "(I)Z"⟩, 19), (⟨"SortPlansModel", "tell", "(IIIII)V"⟩, 19), (⟨"SortPlansModel", "write", "(II)I"⟩, 19), (⟨"SortPlansModel", "has", "(III)Z"⟩, 19)]
theorem lw_r2 : ∀ q ∈ lw_privs_2, lw_okq q := List.forall_mem_cons.mpr ⟨lw_p16, List.forall_mem_cons.mpr ⟨lw_p17, List.forall_mem_cons.mpr ⟨lw_p18, List.forall_mem_cons.mpr ⟨lw_p19, List.forall_mem_cons.mpr ⟨lw_p20, List.forall_mem_cons.mpr ⟨lw_p21, List.forall_mem_cons.mpr ⟨lw_p22, List.forall_mem_cons.mpr ⟨lw_p23, List.forall_mem_cons.mpr ⟨lw_p24, List.forall_mem_cons.mpr ⟨lw_p25, List.forall_mem_cons.mpr ⟨lw_p26, List.forall_mem_cons.mpr ⟨lw_p27, List.forall_mem_cons.mpr ⟨lw_p28, List.forall_mem_cons.mpr ⟨lw_p29, fun _ h => absurd h List.not_mem_nil⟩⟩⟩⟩⟩⟩⟩⟩⟩⟩⟩⟩⟩⟩
def lw_privs : List (MethodName × Nat) := lw_privs_1 ++ (lw_privs_2)
def lw_tbl : List Cond := k2_sels lw_privs ++ tables_1
theorem lw_privs_ok : ∀ q ∈ lw_privs, lw_okq q := by
  show ∀ q ∈ lw_privs_1 ++ (lw_privs_2), lw_okq q
  exact List.forall_mem_append.mpr ⟨lw_r1, lw_r2⟩
/-- an array of int arrays is known: carried beside the steady words -/
def va_AOA (t : FieldType) (U : State) : Prop := (Cond.arrayOver (.array t)).before #[] U = true
theorem va_AOA.of {t : FieldType} {A : Array Value} {U : State} (h : (Cond.arrayOver (.array t)).before A U = true) : va_AOA t U := h
theorem va_AOA.use {t : FieldType} {A : Array Value} {U : State} (h : va_AOA t U) : (Cond.arrayOver (.array t)).before A U = true := h
theorem va_AOA.moved {t : FieldType} {u U : State} (hvm : u.vm.Alike U.vm) (h : va_AOA t u) : va_AOA t U := by
  obtain ⟨comp, c, k, h1, h2, h3, h4, h5⟩ := arrayOverA_spec h
  obtain ⟨k', hk', he⟩ := hvm.2.2 _ _ h3
  have hi : (U.vm.classes.findIdx? fun (x : Class) => match x.kind with | .array component _ => component == comp | _ => false) = some c := by
    rw [hvm.findIdx?_eq _ (fun _ => rfl)]
    exact h2
  have hkind : k'.kind = .array comp (.array t) := by rw [he]; exact h4
  have f1 : U.vm.findClass (FieldType.array t).toString = some comp := by rw [hvm.findClass]; exact h1
  have f2 : U.vm.findClass ("[" ++ (FieldType.array t).toString) = some c := by rw [hvm.findClass]; exact h5
  unfold va_AOA Cond.before Cond.holds
  simp only [Cond.value]
  rw [f1, Option.bind_some]
  refine (congrArg (fun o : Option Nat => (o.bind (fun c => (U.vm.classes[c]?).map fun (k : Class) => match k.kind with | .array _ ty => decide (ty = FieldType.array t) && decide (U.vm.findClass ("[" ++ (FieldType.array t).toString) = some c) | _ => false) == some true)) hi).trans ?_
  simp [hk', hkind, f2]
/-! ===== BEGIN new T[n][m]: the outer array a place, the inner ones among the pooled ===== -/
/-- f, but v at every address of l -/
def vr_up {α : Type} (f : Nat → α) (l : List Nat) (v : α) : Nat → α := fun a => if a ∈ l then v else f a
theorem vr_up_in {α : Type} {f : Nat → α} {l : List Nat} {v : α} {a : Nat} (h : a ∈ l) : vr_up f l v a = v := if_pos h
theorem vr_up_ne {α : Type} {f : Nat → α} {l : List Nat} {v : α} {a : Nat} (h : a ∉ l) : vr_up f l v a = f a := if_neg h
theorem vr_rows {L l : List Nat} {f : Nat → va_E} {e : va_E} (h : ∀ a, a ∈ l → a ∉ L) : va_pl L f ++ l.map (fun a => (a, e)) = va_pl (L ++ l) (vr_up f l e) := by
  unfold va_pl
  rw [List.map_append]
  congr 1
  · apply List.map_congr_left
    intro a ha
    rw [vr_up_ne (fun q => h a q ha)]
  · apply List.map_congr_left
    intro a ha
    rw [vr_up_in ha]
theorem vr_lay {X rows : va_W} {x : Nat × va_E} {pl : va_W} {D : va_G} {cl : List vw_C} {H : Heap} (hP : va_P D cl (((X ++ pl) ++ [x]) ++ rows) H) : va_P D cl ((X ++ [x]) ++ (pl ++ rows)) H := by
  rw [List.append_assoc (X ++ pl)] at hP
  have h := va_P.swap hP
  rw [← List.append_assoc X] at h
  have h2 := va_P.swap h
  rw [List.append_assoc (X ++ [x])] at h2
  exact h2
theorem vr_layD {X rows : va_W} {x : Nat × va_E} {pl : va_W} {A : Nat → Prop} (hD : va_D A (((X ++ pl) ++ [x]) ++ rows)) : va_D A ((X ++ [x]) ++ (pl ++ rows)) := by
  rw [List.append_assoc (X ++ pl)] at hD
  have h := va_D.swap hD
  rw [← List.append_assoc X] at h
  have h2 := va_D.swap h
  rw [List.append_assoc (X ++ [x])] at h2
  exact h2
theorem vr_outer (c : ClassId) (N h0 : Nat) : ∀ i : Nat, Jvm.Free.Multi.outerC c N h0 i = arrV c N (fun j => va_rf (if j < i then some (h0 + 1 + j) else none))
  | 0 => by
    show ({ cls := c, slots := Array.replicate N .null, vm := .none } : Cell) = _
    rw [arrV_new]
    refine congrArg (arrV c N) (funext fun j => ?_)
    simp [va_rf]
  | i + 1 => by
    show (Jvm.Free.Multi.outerC c N h0 i).setSlot i (.ref (h0 + 1 + i)) = _
    rw [vr_outer c N h0 i, arrV_store]
    refine congrArg (arrV c N) (funext fun j => ?_)
    by_cases e : j = i
    · subst e
      simp [updV, va_rf]
    · by_cases h : j < i
      · simp [updV, e, h, Nat.lt_succ_of_lt h]
      · simp [updV, e, h, show ¬ j < i + 1 by omega]
section VGM
variable {p : Program} {l : Launch} {e : Env} {R : Room} {s : State} {m : MethodId} {args : Array Value} {below : List Frame} {meth : Method} {c : Code} {H : Heap} {locs : List Loc} {cells slots : Nat} {Q : State → Prop}
variable {cc : ByteArray} {pc : Nat} {ls : Array Slot} {rest : List Value} {D : va_G} {cl : List vw_C} {A : Nat → Prop} {a : Nat} {tys : List (ClassId × FieldType)} {ws : va_W} {H0 : Heap}
theorem va_mna {X : va_W} {L : List Nat} {f : Nat → va_E} {cc : ByteArray} (hexec : p.tables.exec = Jvm.exec) (hb : c.code = cc) {own : String} {index : Nat} {ty : FieldType} {cy : ClassId} (hown : s.vm.findClass own = some m.cls) (hclink : (Cond.classLink own index ("[" ++ (FieldType.array ty).toString)).before args s = true) (hover : va_AOA ty s) (harr : (Cond.arrayClass ty).before args s = true) (hcy : s.vm.findClass (FieldType.array ty).toString = some cy)
    (hK : va_K D cl tys s) (hP : va_P D cl (X ++ va_pl L f) H) (hD : va_D A (X ++ va_pl L f)) (hS : va_S A H0 H locs) (hA : ∀ q, H0.size ≤ q → A q) {n k : Int32} {N' K' : Nat} {z : vp_A} (hn : ¬ n < 0) (hk : ¬ k < 0) (hN : n.toNatClampNeg = N') (hM : k.toNatClampNeg = K')
    (hb1 : N' * 4 ≤ 536870912) (hb2 : K' * componentBytes ty ≤ 536870912) (hb3 : K' ≤ 536870912) (hdf : fits ty (defaultValue ty) = true) (hdd : (defaultValue ty).isDefault = true) (hcells : cells + (1 + N') ≤ R.cells) (hslots : slots + (N' + N' * K') ≤ R.slots) (hz : ∀ c : ClassId, Jvm.Free.Multi.innerC c K' (defaultValue ty) = vp_cell c z) (hdg : decode cc pc = .ok (.multianewarray index 2, 4))
    (kk : ∀ (q : Nat) (r : Nat → Nat) (cA : ClassId) (H1 : Heap), (∀ i j : Nat, i < N' → j < N' → r i = r j → i = j) → (∀ i : Nat, i < N' → r i ∉ L) → va_K D cl (tys ++ [(cA, .array ty)]) s →
      va_P D cl ((X ++ [(q, .inl (cA, N', .inr (.inr (.inr (.inr (fun i => if i < N' then some (r i) else none))))))]) ++ va_pl (L ++ (List.range N').map r) (vr_up f ((List.range N').map r) (.inl (cy, z)))) H1 → va_D A ((X ++ [(q, .inl (cA, N', .inr (.inr (.inr (.inr (fun i => if i < N' then some (r i) else none))))))]) ++ va_pl (L ++ (List.range N').map r) (vr_up f ((List.range N').map r) (.inl (cy, z)))) → va_S A H0 H1 locs →
      W p l e R s m args below meth c H1 locs (cells + 1 + N') (slots + N' + N' * K') Q (F0 m (pc + 4) ls (.ref q :: rest))) : W p l e R s m args below meth c H locs cells slots Q (F0 m pc ls (.int k :: .int n :: rest)) := by
  subst hN
  subst hM
  intro T hT Xs
  obtain ⟨vm₁, cA, comp, -, fA, fC, hO, -, X', step⟩ := Xs.multianewarray2F hexec hown hclink (va_AOA.use hover) harr (g := F0 m pc ls (.int k :: .int n :: rest)) rfl (by rw [hb]; exact hdg) rfl hn hk hb1 hb2 hb3 hdf hdd hcells hslots
  have ec : some cy = some comp := hcy.symm.trans fC
  cases ec
  generalize hF : Jvm.Free.Multi.fill (T.setVm vm₁) cA cy n.toNatClampNeg k.toNatClampNeg (defaultValue ty) n.toNatClampNeg = F at X' step
  have hTh : (T.setVm vm₁).heap = H := hT
  obtain ⟨f1, f2, -, -⟩ := Jvm.Free.Multi.fill_facts (T.setVm vm₁) cA cy n.toNatClampNeg k.toNatClampNeg (defaultValue ty) n.toNatClampNeg
  rw [hF, hTh] at f1 f2
  have hold : ∀ x : Nat, x < H.size → F.heap[x]? = H[x]? := fun x hx => by
    have := Jvm.Free.Multi.fill_old (T.setVm vm₁) cA cy n.toNatClampNeg k.toNatClampNeg (defaultValue ty) (a := x) (by rw [hTh]; exact hx) n.toNatClampNeg
    rw [hF, hTh] at this
    exact this
  have hrow : ∀ j : Nat, j < n.toNatClampNeg → F.heap[H.size + 1 + j]? = some (vp_cell cy z) := fun j hj => by
    have := Jvm.Free.Multi.fill_inner (T.setVm vm₁) cA cy n.toNatClampNeg k.toNatClampNeg (defaultValue ty) n.toNatClampNeg j hj
    rw [hF, hTh, hz] at this
    exact this
  have hout : Jvm.Free.Multi.outerC cA n.toNatClampNeg H.size n.toNatClampNeg = vp_cell cA (n.toNatClampNeg, .inr (.inr (.inr (.inr (fun i => if i < n.toNatClampNeg then some (H.size + 1 + i) else none))))) := by
    rw [vp_cell_q]
    exact vr_outer cA n.toNatClampNeg H.size n.toNatClampNeg
  rw [hout] at f2
  have hlt : ∀ a, a ∈ L → a < H.size := fun a ha => by
    obtain ⟨k9, hk9⟩ := va_pl_get (X := X) (f := f) ha
    exact (hP k9 _ hk9).lt
  have hnl : ∀ i : Nat, i < n.toNatClampNeg → H.size + 1 + i ∉ L := fun i _ h => by
    have := hlt _ h
    omega
  have hnm : ∀ a, a ∈ (List.range n.toNatClampNeg).map (fun i => H.size + 1 + i) → a ∉ L := fun a ha h => by
    obtain ⟨i, -, rfl⟩ := List.mem_map.mp ha
    have := hlt _ h
    omega
  have hP0 : va_P D cl (X ++ va_pl L f) F.heap := hP.kept (fun k9 x hx => hold x.1 ((hP k9 x hx).lt))
  have hP1 : va_P D cl ((X ++ va_pl L f) ++ [(H.size, .inl (cA, n.toNatClampNeg, .inr (.inr (.inr (.inr (fun i => if i < n.toNatClampNeg then some (H.size + 1 + i) else none))))))]) F.heap := hP0.app (fun k9 x hx => by
    have h0 : k9 < 1 := (List.getElem?_eq_some_iff.mp hx).1
    rw [show k9 = 0 by omega] at hx
    cases hx
    exact f2)
  have hP2 : va_P D cl (((X ++ va_pl L f) ++ [(H.size, .inl (cA, n.toNatClampNeg, .inr (.inr (.inr (.inr (fun i => if i < n.toNatClampNeg then some (H.size + 1 + i) else none))))))]) ++ ((List.range n.toNatClampNeg).map (fun i => H.size + 1 + i)).map (fun a => (a, .inl (cy, z)))) F.heap := hP1.app (fun k9 x hx => by
    obtain ⟨a, ha, rfl⟩ := List.mem_map.mp (List.mem_of_getElem? hx)
    obtain ⟨i, hi, rfl⟩ := List.mem_map.mp ha
    exact hrow i (List.mem_range.mp hi))
  have hD2 : va_D A (((X ++ va_pl L f) ++ [(H.size, .inl (cA, n.toNatClampNeg, .inr (.inr (.inr (.inr (fun i => if i < n.toNatClampNeg then some (H.size + 1 + i) else none))))))]) ++ ((List.range n.toNatClampNeg).map (fun i => H.size + 1 + i)).map (fun a => (a, .inl (cy, z)))) := by
    have hD1 := hD.push (e := .inl (cA, n.toNatClampNeg, .inr (.inr (.inr (.inr (fun i => if i < n.toNatClampNeg then some (H.size + 1 + i) else none)))))) hP rfl (hA _ hS.1)
    generalize hW1 : (X ++ va_pl L f) ++ [(H.size, .inl (cA, n.toNatClampNeg, .inr (.inr (.inr (.inr (fun i => if i < n.toNatClampNeg then some (H.size + 1 + i) else none))))))] = W1 at hD1 hP1 ⊢
    have hle : ∀ (k9 : Nat) (x : Nat × va_E), W1[k9]? = some x → x.1 ≤ H.size := fun k9 x hx => by
      rw [← hW1] at hx
      by_cases hl : k9 < (X ++ va_pl L f).length
      · rw [List.getElem?_append_left hl] at hx
        exact Nat.le_of_lt ((hP k9 x hx).lt)
      · rw [List.getElem?_append_right (by omega)] at hx
        have h0 : k9 - (X ++ va_pl L f).length < 1 := (List.getElem?_eq_some_iff.mp hx).1
        rw [show k9 - (X ++ va_pl L f).length = 0 by omega] at hx
        cases hx
        exact Nat.le_refl _
    have hr : ∀ (k9 : Nat) (x : Nat × va_E), (((List.range n.toNatClampNeg).map (fun i => H.size + 1 + i)).map (fun a => ((a, .inl (cy, z)) : Nat × va_E)))[k9]? = some x → x.1 = H.size + 1 + k9 := fun k9 x hx => by
      rw [List.getElem?_map, List.getElem?_map] at hx
      by_cases h9 : k9 < n.toNatClampNeg
      · rw [List.getElem?_range h9] at hx
        cases hx
        rfl
      · have hn0 : (List.range n.toNatClampNeg)[k9]? = none := List.getElem?_eq_none (by rw [List.length_range]; omega)
        rw [hn0] at hx
        cases hx
    refine ⟨fun i j x y hi hj hxy => ?_, fun k9 x hx => ?_⟩
    · by_cases h1 : i < W1.length <;> by_cases h2 : j < W1.length
      · rw [List.getElem?_append_left h1] at hi
        rw [List.getElem?_append_left h2] at hj
        exact hD1.1 i j x y hi hj hxy
      · rw [List.getElem?_append_left h1] at hi
        rw [List.getElem?_append_right (by omega)] at hj
        have := hle _ _ hi
        have := hr _ _ hj
        omega
      · rw [List.getElem?_append_right (by omega)] at hi
        rw [List.getElem?_append_left h2] at hj
        have := hle _ _ hj
        have := hr _ _ hi
        omega
      · rw [List.getElem?_append_right (by omega)] at hi hj
        have := hr _ _ hi
        have := hr _ _ hj
        omega
    · by_cases h1 : k9 < W1.length
      · rw [List.getElem?_append_left h1] at hx
        exact hD1.2 k9 x hx
      · rw [List.getElem?_append_right (by omega)] at hx
        have := hr _ _ hx
        exact hA _ (by have := hS.1; omega)
  have hAr : ArrOfT s cA (.array ty) := fun N9 z9 => by
    obtain ⟨-, k9, hk9, cm9, hkk9⟩ := (hO 0 0 0).1
    exact ⟨(fun q hq => by cases hq), k9, hk9, cm9, hkk9⟩
  have hK2 : va_K D cl (tys ++ [(cA, .array ty)]) s := ⟨hK.1, fun k9 x hx => by
    by_cases hl : k9 < tys.length
    · rw [List.getElem?_append_left hl] at hx
      exact hK.2 k9 x hx
    · rw [List.getElem?_append_right (by omega)] at hx
      have h0 : k9 - tys.length < 1 := (List.getElem?_eq_some_iff.mp hx).1
      rw [show k9 - tys.length = 0 by omega] at hx
      cases hx
      exact ⟨hAr, fA⟩⟩
  obtain ⟨t, a1, b1⟩ := kk H.size (fun i => H.size + 1 + i) cA F.heap (fun i j _ _ h => by have h9 : H.size + 1 + i = H.size + 1 + j := h; omega) hnl hK2 (by rw [← vr_rows hnm]; exact vr_lay hP2) (by rw [← vr_rows hnm]; exact vr_layD hD2) ⟨by rw [f1]; have := hS.1; omega, fun x h1 h2 => (hold x (Nat.lt_of_lt_of_le h1 hS.1)).trans (hS.2.1 x h1 h2), hS.2.2⟩ F rfl X'
  refine ⟨t, step t ?_, b1⟩
  have e : T.heap.size = H.size := by rw [hT]
  rw [e]
  exact a1
end VGM
/-! ===== END ===== -/
def R_Fa : String := "SortPlans$Faults"
def T_Fa : u_T := fun k => match k with
  | 0 => ("SortPlans$Faults", "told", "[I", true)
  | _ => ("SortPlans$Faults", "count", "I", false)
def t_Fa : Nat → FieldType := fun k => match k with
  | 0 => .array .int
  | _ => .int
theorem nm_Fa : ∀ a, a < 2 → ∀ b, b < 2 → a ≠ b → (T_Fa a).2.1 ≠ (T_Fa b).2.1 := by decide +kernel
theorem tk_Fa : ∀ k, k < 2 → parseFieldDescriptor (T_Fa k).2.2.1 = some (t_Fa k) := by decide +kernel
def R_Pl : String := "SortPlans$Plan"
def T_Pl : u_T := fun k => match k with
  | 0 => ("SortPlans$Plan", "bins", "[I", true)
  | 1 => ("SortPlans$Plan", "shares", "[Z", true)
  | 2 => ("SortPlans$Plan", "used", "[Z", true)
  | 3 => ("SortPlans$Plan", "held", "[Z", true)
  | 4 => ("SortPlans$Plan", "next", "[I", true)
  | 5 => ("SortPlans$Plan", "rangeTarget", "[I", true)
  | 6 => ("SortPlans$Plan", "rangeFrom", "[I", true)
  | 7 => ("SortPlans$Plan", "rangeTo", "[I", true)
  | 8 => ("SortPlans$Plan", "rangeKind", "[I", true)
  | _ => ("SortPlans$Plan", "ranges", "I", false)
def t_Pl : Nat → FieldType := fun k => match k with
  | 0 => .array .int
  | 1 => .array .boolean
  | 2 => .array .boolean
  | 3 => .array .boolean
  | 4 => .array .int
  | 5 => .array .int
  | 6 => .array .int
  | 7 => .array .int
  | 8 => .array .int
  | _ => .int
theorem nm_Pl : ∀ a, a < 10 → ∀ b, b < 10 → a ≠ b → (T_Pl a).2.1 ≠ (T_Pl b).2.1 := by decide +kernel
theorem tk_Pl : ∀ k, k < 10 → parseFieldDescriptor (T_Pl k).2.2.1 = some (t_Pl k) := by decide +kernel
def R_Re : String := "SortPlans$Reading"
def T_Re : u_T := fun k => match k with
  | 0 => ("SortPlans$Reading", "text", "LSortPlans$Text;", true)
  | 1 => ("SortPlans$Reading", "draft", "LSortPlans$Plan;", false)
  | 2 => ("SortPlans$Reading", "at", "I", false)
  | _ => ("SortPlans$Reading", "trouble", "I", false)
def t_Re : Nat → FieldType := fun k => match k with
  | 0 => .object "SortPlans$Text"
  | 1 => .object "SortPlans$Plan"
  | 2 => .int
  | _ => .int
theorem nm_Re : ∀ a, a < 4 → ∀ b, b < 4 → a ≠ b → (T_Re a).2.1 ≠ (T_Re b).2.1 := by decide +kernel
theorem tk_Re : ∀ k, k < 4 → parseFieldDescriptor (T_Re k).2.2.1 = some (t_Re k) := by decide +kernel
def R_Sh : String := "SortPlans$Sheet"
def T_Sh : u_T := fun k => match k with
  | 0 => ("SortPlans$Sheet", "signs", "[C", true)
  | _ => ("SortPlans$Sheet", "length", "I", false)
def t_Sh : Nat → FieldType := fun k => match k with
  | 0 => .array .char
  | _ => .int
theorem nm_Sh : ∀ a, a < 2 → ∀ b, b < 2 → a ≠ b → (T_Sh a).2.1 ≠ (T_Sh b).2.1 := by decide +kernel
theorem tk_Sh : ∀ k, k < 2 → parseFieldDescriptor (T_Sh k).2.2.1 = some (t_Sh k) := by decide +kernel
def R_Te : String := "SortPlans$Text"
def T_Te : u_T := fun k => match k with
  | 0 => ("SortPlans$Text", "signs", "[C", true)
  | _ => ("SortPlans$Text", "length", "I", false)
def t_Te : Nat → FieldType := fun k => match k with
  | 0 => .array .char
  | _ => .int
theorem nm_Te : ∀ a, a < 2 → ∀ b, b < 2 → a ≠ b → (T_Te a).2.1 ≠ (T_Te b).2.1 := by decide +kernel
theorem tk_Te : ∀ k, k < 2 → parseFieldDescriptor (T_Te k).2.2.1 = some (t_Te k) := by decide +kernel
def R_SP : String := "SortPlans"
def T_SP : u_T := fun k => match k with
  | 0 => ("SortPlans", "reading", "LSortPlans$Reading;", true)
  | 1 => ("SortPlans", "faults", "LSortPlans$Faults;", true)
  | 2 => ("SortPlans", "sheet", "LSortPlans$Sheet;", true)
  | 3 => ("SortPlans", "editions", "[[I", true)
  | 4 => ("SortPlans", "editionCount", "I", false)
  | _ => ("SortPlans", "plan", "LSortPlans$Plan;", false)
def t_SP : Nat → FieldType := fun k => match k with
  | 0 => .object "SortPlans$Reading"
  | 1 => .object "SortPlans$Faults"
  | 2 => .object "SortPlans$Sheet"
  | 3 => .array (.array .int)
  | 4 => .int
  | _ => .object "SortPlans$Plan"
theorem nm_SP : ∀ a, a < 6 → ∀ b, b < 6 → a ≠ b → (T_SP a).2.1 ≠ (T_SP b).2.1 := by decide +kernel
theorem tk_SP : ∀ k, k < 6 → parseFieldDescriptor (T_SP k).2.2.1 = some (t_SP k) := by decide +kernel
def R_Mo : String := "SortPlansModel"
def T_Mo : u_T := fun k => match k with
  | 0 => ("SortPlansModel", "thrown", "I", false)
  | 1 => ("SortPlansModel", "text", "[I", true)
  | 2 => ("SortPlansModel", "size", "I", false)
  | 3 => ("SortPlansModel", "at", "I", false)
  | 4 => ("SortPlansModel", "wrong", "I", false)
  | 5 => ("SortPlansModel", "editions", "I", false)
  | 6 => ("SortPlansModel", "bins", "[I", true)
  | 7 => ("SortPlansModel", "shares", "[Z", true)
  | 8 => ("SortPlansModel", "newShares", "[Z", true)
  | 9 => ("SortPlansModel", "codes", "[I", true)
  | 10 => ("SortPlansModel", "newCodes", "[I", true)
  | 11 => ("SortPlansModel", "words", "I", false)
  | 12 => ("SortPlansModel", "newWords", "I", false)
  | 13 => ("SortPlansModel", "next", "[I", true)
  | 14 => ("SortPlansModel", "newNext", "[I", true)
  | 15 => ("SortPlansModel", "held", "[Z", true)
  | 16 => ("SortPlansModel", "found", "I", false)
  | 17 => ("SortPlansModel", "faults", "[I", true)
  | _ => ("SortPlansModel", "sheet", "[I", true)
def t_Mo : Nat → FieldType := fun k => match k with
  | 0 => .int
  | 1 => .array .int
  | 2 => .int
  | 3 => .int
  | 4 => .int
  | 5 => .int
  | 6 => .array .int
  | 7 => .array .boolean
  | 8 => .array .boolean
  | 9 => .array .int
  | 10 => .array .int
  | 11 => .int
  | 12 => .int
  | 13 => .array .int
  | 14 => .array .int
  | 15 => .array .boolean
  | 16 => .int
  | 17 => .array .int
  | _ => .array .int
theorem nm_Mo : ∀ a, a < 19 → ∀ b, b < 19 → a ≠ b → (T_Mo a).2.1 ≠ (T_Mo b).2.1 := by decide +kernel
theorem tk_Mo : ∀ k, k < 19 → parseFieldDescriptor (T_Mo k).2.2.1 = some (t_Mo k) := by decide +kernel
def R_La : String := "SortPlansLaw"
def R_Ar : String := "java/util/Arrays"
abbrev vwCl : List vw_C := [(R_Fa, T_Fa, 2), (R_Pl, T_Pl, 10), (R_Re, T_Re, 4), (R_Sh, T_Sh, 2), (R_Te, T_Te, 2), (R_SP, T_SP, 6), (R_Mo, T_Mo, 19)]
abbrev b_SP_init : ByteArray := prog_1_method_1_code
def y_SP_init : MethodName := ⟨"SortPlans", "<init>", "()V"⟩
abbrev b_Re_init : ByteArray := prog_4_method_1_code
def y_Re_init : MethodName := ⟨"SortPlans$Reading", "<init>", "()V"⟩
abbrev b_Te_init : ByteArray := prog_6_method_1_code
def y_Te_init : MethodName := ⟨"SortPlans$Text", "<init>", "()V"⟩
abbrev b_Pl_init : ByteArray := prog_3_method_1_code
def y_Pl_init : MethodName := ⟨"SortPlans$Plan", "<init>", "()V"⟩
abbrev b_Fa_init : ByteArray := prog_2_method_1_code
def y_Fa_init : MethodName := ⟨"SortPlans$Faults", "<init>", "()V"⟩
abbrev b_Sh_init : ByteArray := prog_5_method_1_code
def y_Sh_init : MethodName := ⟨"SortPlans$Sheet", "<init>", "()V"⟩
abbrev b_SP_sign : ByteArray := prog_1_method_2_code
def y_SP_sign : MethodName := ⟨"SortPlans", "sign", "(I)V"⟩
abbrev b_Te_put : ByteArray := prog_6_method_2_code
def y_Te_put : MethodName := ⟨"SortPlans$Text", "put", "(I)V"⟩
abbrev b_SP_isWithin : ByteArray := prog_1_method_15_code
def y_SP_isWithin : MethodName := ⟨"SortPlans", "isWithin", "(III)Z"⟩
abbrev b_SP_read : ByteArray := prog_1_method_3_code
def y_SP_read : MethodName := ⟨"SortPlans", "read", "()I"⟩
abbrev b_Re_readText : ByteArray := prog_4_method_2_code
def y_Re_readText : MethodName := ⟨"SortPlans$Reading", "readText", "()I"⟩
abbrev b_Pl_clear : ByteArray := prog_3_method_2_code
def y_Pl_clear : MethodName := ⟨"SortPlans$Plan", "clear", "()V"⟩
abbrev b_Ar_fill : ByteArray := prog_10_method_103_code
def y_Ar_fill : MethodName := ⟨"java/util/Arrays", "fill", "([II)V"⟩
abbrev b_Re_isFine : ByteArray := prog_4_method_3_code
def y_Re_isFine : MethodName := ⟨"SortPlans$Reading", "isFine", "()Z"⟩
abbrev b_Re_readSentence : ByteArray := prog_4_method_5_code
def y_Re_readSentence : MethodName := ⟨"SortPlans$Reading", "readSentence", "()V"⟩
abbrev b_Te_signAt : ByteArray := prog_6_method_3_code
def y_Te_signAt : MethodName := ⟨"SortPlans$Text", "signAt", "(I)I"⟩
abbrev b_Re_readRange : ByteArray := prog_4_method_6_code
def y_Re_readRange : MethodName := ⟨"SortPlans$Reading", "readRange", "()V"⟩
abbrev b_Re_readNumber : ByteArray := prog_4_method_11_code
def y_Re_readNumber : MethodName := ⟨"SortPlans$Reading", "readNumber", "(II)I"⟩
abbrev b_Re_isFigure : ByteArray := prog_4_method_12_code
def y_Re_isFigure : MethodName := ⟨"SortPlans$Reading", "isFigure", "(I)Z"⟩
abbrev b_Re_readSign : ByteArray := prog_4_method_9_code
def y_Re_readSign : MethodName := ⟨"SortPlans$Reading", "readSign", "(C)V"⟩
abbrev b_Pl_addRange : ByteArray := prog_3_method_3_code
def y_Pl_addRange : MethodName := ⟨"SortPlans$Plan", "addRange", "(IIII)V"⟩
abbrev b_Re_readBin : ByteArray := prog_4_method_7_code
def y_Re_readBin : MethodName := ⟨"SortPlans$Reading", "readBin", "(I)V"⟩
abbrev b_Re_readPlus : ByteArray := prog_4_method_10_code
def y_Re_readPlus : MethodName := ⟨"SortPlans$Reading", "readPlus", "()Z"⟩
abbrev b_SP_slot : ByteArray := prog_1_method_18_code
def y_SP_slot : MethodName := ⟨"SortPlans", "slot", "(III)I"⟩
abbrev b_Pl_addBin : ByteArray := prog_3_method_4_code
def y_Pl_addBin : MethodName := ⟨"SortPlans$Plan", "addBin", "(IIZ)Z"⟩
abbrev b_Re_readGoingOn : ByteArray := prog_4_method_8_code
def y_Re_readGoingOn : MethodName := ⟨"SortPlans$Reading", "readGoingOn", "(I)V"⟩
abbrev b_Pl_addGoingOn : ByteArray := prog_3_method_5_code
def y_Pl_addGoingOn : MethodName := ⟨"SortPlans$Plan", "addGoingOn", "(II)Z"⟩
abbrev b_SP_addEdition : ByteArray := prog_1_method_14_code
def y_SP_addEdition : MethodName := ⟨"SortPlans", "addEdition", "()V"⟩
abbrev b_Re_giveDraftFor : ByteArray := prog_4_method_4_code
def y_Re_giveDraftFor : MethodName := ⟨"SortPlans$Reading", "giveDraftFor", "(LSortPlans$Plan;)LSortPlans$Plan;"⟩
abbrev b_SP_target : ByteArray := prog_1_method_4_code
def y_SP_target : MethodName := ⟨"SortPlans", "target", "(II)I"⟩
abbrev b_SP_hasPlan : ByteArray := prog_1_method_13_code
def y_SP_hasPlan : MethodName := ⟨"SortPlans", "hasPlan", "()Z"⟩
abbrev b_Pl_leastTargetOf : ByteArray := prog_3_method_6_code
def y_Pl_leastTargetOf : MethodName := ⟨"SortPlans$Plan", "leastTargetOf", "(II)I"⟩
abbrev b_SP_bin : ByteArray := prog_1_method_5_code
def y_SP_bin : MethodName := ⟨"SortPlans", "bin", "(III)I"⟩
abbrev b_SP_isTarget : ByteArray := prog_1_method_16_code
def y_SP_isTarget : MethodName := ⟨"SortPlans", "isTarget", "(I)Z"⟩
abbrev b_SP_check : ByteArray := prog_1_method_6_code
def y_SP_check : MethodName := ⟨"SortPlans", "check", "()I"⟩
abbrev b_Fa_findIn : ByteArray := prog_2_method_2_code
def y_Fa_findIn : MethodName := ⟨"SortPlans$Faults", "findIn", "(LSortPlans$Plan;)V"⟩
abbrev b_Pl_passesOf : ByteArray := prog_3_method_7_code
def y_Pl_passesOf : MethodName := ⟨"SortPlans$Plan", "passesOf", "(I)I"⟩
abbrev b_Fa_findHoles : ByteArray := prog_2_method_4_code
def y_Fa_findHoles : MethodName := ⟨"SortPlans$Faults", "findHoles", "(LSortPlans$Plan;II)V"⟩
abbrev b_Fa_add : ByteArray := prog_2_method_7_code
def y_Fa_add : MethodName := ⟨"SortPlans$Faults", "add", "(IIIII)V"⟩
abbrev b_Fa_findDoubles : ByteArray := prog_2_method_5_code
def y_Fa_findDoubles : MethodName := ⟨"SortPlans$Faults", "findDoubles", "(LSortPlans$Plan;II)V"⟩
abbrev b_Fa_findDoublesOf : ByteArray := prog_2_method_6_code
def y_Fa_findDoublesOf : MethodName := ⟨"SortPlans$Faults", "findDoublesOf", "(LSortPlans$Plan;IIII)V"⟩
abbrev b_SP_fault : ByteArray := prog_1_method_7_code
def y_SP_fault : MethodName := ⟨"SortPlans", "fault", "(II)I"⟩
abbrev b_Fa_tell : ByteArray := prog_2_method_3_code
def y_Fa_tell : MethodName := ⟨"SortPlans$Faults", "tell", "(II)I"⟩
abbrev b_SP_hold : ByteArray := prog_1_method_8_code
def y_SP_hold : MethodName := ⟨"SortPlans", "hold", "(IZ)I"⟩
abbrev b_SP_compare : ByteArray := prog_1_method_9_code
def y_SP_compare : MethodName := ⟨"SortPlans", "compare", "(I)I"⟩
abbrev b_Pl_countTargetsOtherThan : ByteArray := prog_3_method_8_code
def y_Pl_countTargetsOtherThan : MethodName := ⟨"SortPlans$Plan", "countTargetsOtherThan", "([I)I"⟩
abbrev b_Pl_isOtherThan : ByteArray := prog_3_method_9_code
def y_Pl_isOtherThan : MethodName := ⟨"SortPlans$Plan", "isOtherThan", "([II)Z"⟩
abbrev b_SP_swap : ByteArray := prog_1_method_10_code
def y_SP_swap : MethodName := ⟨"SortPlans", "swap", "(II)I"⟩
abbrev b_SP_isBin : ByteArray := prog_1_method_17_code
def y_SP_isBin : MethodName := ⟨"SortPlans", "isBin", "(I)Z"⟩
abbrev b_Pl_exchange : ByteArray := prog_3_method_10_code
def y_Pl_exchange : MethodName := ⟨"SortPlans$Plan", "exchange", "(II)I"⟩
abbrev b_SP_overflow : ByteArray := prog_1_method_11_code
def y_SP_overflow : MethodName := ⟨"SortPlans", "overflow", "(I)I"⟩
abbrev b_Pl_endOfGoingOn : ByteArray := prog_3_method_11_code
def y_Pl_endOfGoingOn : MethodName := ⟨"SortPlans$Plan", "endOfGoingOn", "(I)I"⟩
abbrev b_SP_print : ByteArray := prog_1_method_12_code
def y_SP_print : MethodName := ⟨"SortPlans", "print", "(I)I"⟩
abbrev b_Sh_write : ByteArray := prog_5_method_2_code
def y_Sh_write : MethodName := ⟨"SortPlans$Sheet", "write", "(LSortPlans$Plan;)V"⟩
abbrev b_Sh_writeBin : ByteArray := prog_5_method_4_code
def y_Sh_writeBin : MethodName := ⟨"SortPlans$Sheet", "writeBin", "(LSortPlans$Plan;I)V"⟩
abbrev b_Sh_put : ByteArray := prog_5_method_6_code
def y_Sh_put : MethodName := ⟨"SortPlans$Sheet", "put", "(C)V"⟩
abbrev b_Sh_putNumber : ByteArray := prog_5_method_5_code
def y_Sh_putNumber : MethodName := ⟨"SortPlans$Sheet", "putNumber", "(I)V"⟩
abbrev b_Sh_signAt : ByteArray := prog_5_method_3_code
def y_Sh_signAt : MethodName := ⟨"SortPlans$Sheet", "signAt", "(I)I"⟩
abbrev b_Mo_init : ByteArray := prog_8_method_1_code
def y_Mo_init : MethodName := ⟨"SortPlansModel", "<init>", "()V"⟩
abbrev b_Mo_sign : ByteArray := prog_8_method_5_code
def y_Mo_sign : MethodName := ⟨"SortPlansModel", "sign", "(I)V"⟩
abbrev b_Mo_read : ByteArray := prog_8_method_14_code
def y_Mo_read : MethodName := ⟨"SortPlansModel", "read", "()I"⟩
abbrev b_Mo_readAll : ByteArray := prog_8_method_13_code
def y_Mo_readAll : MethodName := ⟨"SortPlansModel", "readAll", "()I"⟩
abbrev b_Mo_look : ByteArray := prog_8_method_6_code
def y_Mo_look : MethodName := ⟨"SortPlansModel", "look", "()I"⟩
abbrev b_Mo_readTarget : ByteArray := prog_8_method_10_code
def y_Mo_readTarget : MethodName := ⟨"SortPlansModel", "readTarget", "()V"⟩
abbrev b_Mo_number : ByteArray := prog_8_method_8_code
def y_Mo_number : MethodName := ⟨"SortPlansModel", "number", "(III)I"⟩
abbrev b_Mo_fails : ByteArray := prog_8_method_7_code
def y_Mo_fails : MethodName := ⟨"SortPlansModel", "fails", "(I)V"⟩
abbrev b_Mo_sign1 : ByteArray := prog_8_method_9_code
def y_Mo_sign1 : MethodName := ⟨"SortPlansModel", "sign1", "(I)V"⟩
abbrev b_Mo_readBin : ByteArray := prog_8_method_11_code
def y_Mo_readBin : MethodName := ⟨"SortPlansModel", "readBin", "(I)V"⟩
abbrev b_Mo_place : ByteArray := prog_8_method_4_code
def y_Mo_place : MethodName := ⟨"SortPlansModel", "place", "(IIII)I"⟩
abbrev b_Mo_readOverflow : ByteArray := prog_8_method_12_code
def y_Mo_readOverflow : MethodName := ⟨"SortPlansModel", "readOverflow", "(I)V"⟩
abbrev b_Mo_target : ByteArray := prog_8_method_15_code
def y_Mo_target : MethodName := ⟨"SortPlansModel", "target", "(II)I"⟩
abbrev b_Mo_isIn : ByteArray := prog_8_method_3_code
def y_Mo_isIn : MethodName := ⟨"SortPlansModel", "isIn", "(III)Z"⟩
abbrev b_Mo_bin : ByteArray := prog_8_method_16_code
def y_Mo_bin : MethodName := ⟨"SortPlansModel", "bin", "(III)I"⟩
abbrev b_Mo_check : ByteArray := prog_8_method_20_code
def y_Mo_check : MethodName := ⟨"SortPlansModel", "check", "()I"⟩
abbrev b_Mo_isPass : ByteArray := prog_8_method_18_code
def y_Mo_isPass : MethodName := ⟨"SortPlansModel", "isPass", "(II)Z"⟩
abbrev b_Mo_isUsed : ByteArray := prog_8_method_17_code
def y_Mo_isUsed : MethodName := ⟨"SortPlansModel", "isUsed", "(I)Z"⟩
abbrev b_Mo_tell : ByteArray := prog_8_method_19_code
def y_Mo_tell : MethodName := ⟨"SortPlansModel", "tell", "(IIIII)V"⟩
abbrev b_Mo_fault : ByteArray := prog_8_method_21_code
def y_Mo_fault : MethodName := ⟨"SortPlansModel", "fault", "(II)I"⟩
abbrev b_Mo_hold : ByteArray := prog_8_method_22_code
def y_Mo_hold : MethodName := ⟨"SortPlansModel", "hold", "(IZ)I"⟩
abbrev b_Mo_compare : ByteArray := prog_8_method_23_code
def y_Mo_compare : MethodName := ⟨"SortPlansModel", "compare", "(I)I"⟩
abbrev b_Mo_swap : ByteArray := prog_8_method_24_code
def y_Mo_swap : MethodName := ⟨"SortPlansModel", "swap", "(II)I"⟩
abbrev b_Mo_overflow : ByteArray := prog_8_method_25_code
def y_Mo_overflow : MethodName := ⟨"SortPlansModel", "overflow", "(I)I"⟩
abbrev b_Mo_print : ByteArray := prog_8_method_27_code
def y_Mo_print : MethodName := ⟨"SortPlansModel", "print", "(I)I"⟩
abbrev b_Mo_write : ByteArray := prog_8_method_26_code
def y_Mo_write : MethodName := ⟨"SortPlansModel", "write", "(II)I"⟩
abbrev b_Mo_has : ByteArray := prog_8_method_28_code
def y_Mo_has : MethodName := ⟨"SortPlansModel", "has", "(III)Z"⟩
def ga_nl : List Cond := [.methodLinkNest "SortPlans" 11 ⟨"SortPlans$Reading", "<init>", "()V"⟩ "SortPlans",
  .methodLinkNest "SortPlans$Reading" 11 ⟨"SortPlans$Text", "<init>", "()V"⟩ "SortPlans",
  .methodLinkNest "SortPlans$Reading" 20 ⟨"SortPlans$Plan", "<init>", "()V"⟩ "SortPlans",
  .methodLinkNest "SortPlans" 18 ⟨"SortPlans$Faults", "<init>", "()V"⟩ "SortPlans",
  .methodLinkNest "SortPlans" 25 ⟨"SortPlans$Sheet", "<init>", "()V"⟩ "SortPlans",
  .methodLinkNest "SortPlans" 37 ⟨"SortPlans$Plan", "<init>", "()V"⟩ "SortPlans",
  .methodLinkNest "SortPlans$Text" 13 ⟨"SortPlans", "isWithin", "(III)Z"⟩ "SortPlans",
  .methodLinkNest "SortPlans$Reading" 90 ⟨"SortPlans", "isWithin", "(III)Z"⟩ "SortPlans",
  .methodLinkNest "SortPlans$Reading" 74 ⟨"SortPlans", "slot", "(III)I"⟩ "SortPlans",
  .methodLinkNest "SortPlans$Plan" 52 ⟨"SortPlans", "isWithin", "(III)Z"⟩ "SortPlans",
  .methodLinkNest "SortPlans$Plan" 56 ⟨"SortPlans", "slot", "(III)I"⟩ "SortPlans",
  .methodLinkNest "SortPlans$Faults" 39 ⟨"SortPlans", "slot", "(III)I"⟩ "SortPlans",
  .methodLinkNest "SortPlans$Sheet" 29 ⟨"SortPlans", "slot", "(III)I"⟩ "SortPlans"]
