section
-- ===== PART A: goes FIRST, ahead of the names: the tables' words, and 'selects' of the private methods out of them =====
/-- a private method of a class that the tables say can be made, by its rows of tables_1 -/
def lw_okq (q : MethodName × Nat) : Prop := (q.1.cls ≠ "java/lang/invoke/MethodHandle" ∧ q.1.cls ≠ "java/lang/invoke/VarHandle") ∧ Cond.instantiable q.1.cls q.2 ∈ tables_1 ∧ Cond.privateMethod q.1 ∈ tables_1 ∧ Cond.instanceMethod q.1 ∈ tables_1
theorem lw_p0 : lw_okq (⟨"SortPlans$Reading", "readSentence", "()V"⟩, 4) := ⟨⟨by decide +kernel, by decide +kernel⟩, List.mem_of_getElem? (i := 19) (by decide +kernel), List.mem_of_getElem? (i := 181) (by decide +kernel), List.mem_of_getElem? (i := 182) (by decide +kernel)⟩
theorem lw_p1 : lw_okq (⟨"SortPlans$Reading", "readRange", "()V"⟩, 4) := ⟨⟨by decide +kernel, by decide +kernel⟩, List.mem_of_getElem? (i := 19) (by decide +kernel), List.mem_of_getElem? (i := 189) (by decide +kernel), List.mem_of_getElem? (i := 190) (by decide +kernel)⟩
theorem lw_p2 : lw_okq (⟨"SortPlans$Reading", "readNumber", "(II)I"⟩, 4) := ⟨⟨by decide +kernel, by decide +kernel⟩, List.mem_of_getElem? (i := 19) (by decide +kernel), List.mem_of_getElem? (i := 193) (by decide +kernel), List.mem_of_getElem? (i := 194) (by decide +kernel)⟩
theorem lw_p3 : lw_okq (⟨"SortPlans$Reading", "readSign", "(C)V"⟩, 4) := ⟨⟨by decide +kernel, by decide +kernel⟩, List.mem_of_getElem? (i := 19) (by decide +kernel), List.mem_of_getElem? (i := 201) (by decide +kernel), List.mem_of_getElem? (i := 202) (by decide +kernel)⟩
theorem lw_p4 : lw_okq (⟨"SortPlans$Reading", "readBin", "(I)V"⟩, 4) := ⟨⟨by decide +kernel, by decide +kernel⟩, List.mem_of_getElem? (i := 19) (by decide +kernel), List.mem_of_getElem? (i := 209) (by decide +kernel), List.mem_of_getElem? (i := 210) (by decide +kernel)⟩
theorem lw_p5 : lw_okq (⟨"SortPlans$Reading", "readPlus", "()Z"⟩, 4) := ⟨⟨by decide +kernel, by decide +kernel⟩, List.mem_of_getElem? (i := 19) (by decide +kernel), List.mem_of_getElem? (i := 213) (by decide +kernel), List.mem_of_getElem? (i := 214) (by decide +kernel)⟩
theorem lw_p6 : lw_okq (⟨"SortPlans$Reading", "readGoingOn", "(I)V"⟩, 4) := ⟨⟨by decide +kernel, by decide +kernel⟩, List.mem_of_getElem? (i := 19) (by decide +kernel), List.mem_of_getElem? (i := 224) (by decide +kernel), List.mem_of_getElem? (i := 225) (by decide +kernel)⟩
theorem lw_p7 : lw_okq (⟨"SortPlans", "addEdition", "()V"⟩, 6) := ⟨⟨by decide +kernel, by decide +kernel⟩, List.mem_of_getElem? (i := 11) (by decide +kernel), List.mem_of_getElem? (i := 233) (by decide +kernel), List.mem_of_getElem? (i := 234) (by decide +kernel)⟩
theorem lw_p8 : lw_okq (⟨"SortPlans", "hasPlan", "()Z"⟩, 6) := ⟨⟨by decide +kernel, by decide +kernel⟩, List.mem_of_getElem? (i := 11) (by decide +kernel), List.mem_of_getElem? (i := 249) (by decide +kernel), List.mem_of_getElem? (i := 250) (by decide +kernel)⟩
theorem lw_p9 : lw_okq (⟨"SortPlans$Faults", "findHoles", "(LSortPlans$Plan;II)V"⟩, 2) := ⟨⟨by decide +kernel, by decide +kernel⟩, List.mem_of_getElem? (i := 101) (by decide +kernel), List.mem_of_getElem? (i := 279) (by decide +kernel), List.mem_of_getElem? (i := 280) (by decide +kernel)⟩
theorem lw_p10 : lw_okq (⟨"SortPlans$Faults", "add", "(IIIII)V"⟩, 2) := ⟨⟨by decide +kernel, by decide +kernel⟩, List.mem_of_getElem? (i := 101) (by decide +kernel), List.mem_of_getElem? (i := 284) (by decide +kernel), List.mem_of_getElem? (i := 285) (by decide +kernel)⟩
theorem lw_p11 : lw_okq (⟨"SortPlans$Faults", "findDoubles", "(LSortPlans$Plan;II)V"⟩, 2) := ⟨⟨by decide +kernel, by decide +kernel⟩, List.mem_of_getElem? (i := 101) (by decide +kernel), List.mem_of_getElem? (i := 288) (by decide +kernel), List.mem_of_getElem? (i := 289) (by decide +kernel)⟩
theorem lw_p12 : lw_okq (⟨"SortPlans$Faults", "findDoublesOf", "(LSortPlans$Plan;IIII)V"⟩, 2) := ⟨⟨by decide +kernel, by decide +kernel⟩, List.mem_of_getElem? (i := 101) (by decide +kernel), List.mem_of_getElem? (i := 292) (by decide +kernel), List.mem_of_getElem? (i := 293) (by decide +kernel)⟩
theorem lw_p13 : lw_okq (⟨"SortPlans$Plan", "isOtherThan", "([II)Z"⟩, 10) := ⟨⟨by decide +kernel, by decide +kernel⟩, List.mem_of_getElem? (i := 41) (by decide +kernel), List.mem_of_getElem? (i := 316) (by decide +kernel), List.mem_of_getElem? (i := 317) (by decide +kernel)⟩
theorem lw_p14 : lw_okq (⟨"SortPlans$Sheet", "writeBin", "(LSortPlans$Plan;I)V"⟩, 2) := ⟨⟨by decide +kernel, by decide +kernel⟩, List.mem_of_getElem? (i := 115) (by decide +kernel), List.mem_of_getElem? (i := 347) (by decide +kernel), List.mem_of_getElem? (i := 348) (by decide +kernel)⟩
theorem lw_p15 : lw_okq (⟨"SortPlans$Sheet", "put", "(C)V"⟩, 2) := ⟨⟨by decide +kernel, by decide +kernel⟩, List.mem_of_getElem? (i := 115) (by decide +kernel), List.mem_of_getElem? (i := 352) (by decide +kernel), List.mem_of_getElem? (i := 353) (by decide +kernel)⟩
def lw_privs_1 : List (MethodName × Nat) := [(⟨"SortPlans$Reading", "readSentence", "()V"⟩, 4), (⟨"SortPlans$Reading", "readRange", "()V"⟩, 4), (⟨"SortPlans$Reading", "readNumber", "(II)I"⟩, 4), (⟨"SortPlans$Reading", "readSign", "(C)V"⟩, 4), (⟨"SortPlans$Reading", "readBin", "(I)V"⟩, 4), (⟨"SortPlans$Reading", "readPlus", "()Z"⟩, 4), (⟨"SortPlans$Reading", "readGoingOn", "(I)V"⟩, 4), (⟨"SortPlans", "addEdition", "()V"⟩, 6), (⟨"SortPlans", "hasPlan", "()Z"⟩, 6), (⟨"SortPlans$Faults", "findHoles", "(LSortPlans$Plan;II)V"⟩, 2), (⟨"SortPlans$Faults", "add", "(IIIII)V"⟩, 2), (⟨"SortPlans$Faults", "findDoubles", "(LSortPlans$Plan;II)V"⟩, 2), (⟨"SortPlans$Faults", "findDoublesOf", "(LSortPlans$Plan;IIII)V"⟩, 2), (⟨"SortPlans$Plan", "isOtherThan", "([II)Z"⟩, 10), (⟨"SortPlans$Sheet", "writeBin", "(LSortPlans$Plan;I)V"⟩, 2), (⟨"SortPlans$Sheet", "put", "(C)V"⟩, 2)]
theorem lw_r1 : ∀ q ∈ lw_privs_1, lw_okq q := List.forall_mem_cons.mpr ⟨lw_p0, List.forall_mem_cons.mpr ⟨lw_p1, List.forall_mem_cons.mpr ⟨lw_p2, List.forall_mem_cons.mpr ⟨lw_p3, List.forall_mem_cons.mpr ⟨lw_p4, List.forall_mem_cons.mpr ⟨lw_p5, List.forall_mem_cons.mpr ⟨lw_p6, List.forall_mem_cons.mpr ⟨lw_p7, List.forall_mem_cons.mpr ⟨lw_p8, List.forall_mem_cons.mpr ⟨lw_p9, List.forall_mem_cons.mpr ⟨lw_p10, List.forall_mem_cons.mpr ⟨lw_p11, List.forall_mem_cons.mpr ⟨lw_p12, List.forall_mem_cons.mpr ⟨lw_p13, List.forall_mem_cons.mpr ⟨lw_p14, List.forall_mem_cons.mpr ⟨lw_p15, fun _ h => absurd h List.not_mem_nil⟩⟩⟩⟩⟩⟩⟩⟩⟩⟩⟩⟩⟩⟩⟩⟩
theorem lw_p16 : lw_okq (⟨"SortPlans$Sheet", "putNumber", "(I)V"⟩, 2) := ⟨⟨by decide +kernel, by decide +kernel⟩, List.mem_of_getElem? (i := 115) (by decide +kernel), List.mem_of_getElem? (i := 356) (by decide +kernel), List.mem_of_getElem? (i := 357) (by decide +kernel)⟩
theorem lw_p17 : lw_okq (⟨"SortPlansModel", "readAll", "()I"⟩, 19) := ⟨⟨by decide +kernel, by decide +kernel⟩, List.mem_of_getElem? (i := 364) (by decide +kernel), List.mem_of_getElem? (i := 436) (by decide +kernel), List.mem_of_getElem? (i := 437) (by decide +kernel)⟩
theorem lw_p18 : lw_okq (⟨"SortPlansModel", "look", "()I"⟩, 19) := ⟨⟨by decide +kernel, by decide +kernel⟩, List.mem_of_getElem? (i := 364) (by decide +kernel), List.mem_of_getElem? (i := 440) (by decide +kernel), List.mem_of_getElem? (i := 441) (by decide +kernel)⟩
theorem lw_p19 : lw_okq (⟨"SortPlansModel", "readTarget", "()V"⟩, 19) := ⟨⟨by decide +kernel, by decide +kernel⟩, List.mem_of_getElem? (i := 364) (by decide +kernel), List.mem_of_getElem? (i := 444) (by decide +kernel), List.mem_of_getElem? (i := 445) (by decide +kernel)⟩
theorem lw_p20 : lw_okq (⟨"SortPlansModel", "number", "(III)I"⟩, 19) := ⟨⟨by decide +kernel, by decide +kernel⟩, List.mem_of_getElem? (i := 364) (by decide +kernel), List.mem_of_getElem? (i := 448) (by decide +kernel), List.mem_of_getElem? (i := 449) (by decide +kernel)⟩
theorem lw_p21 : lw_okq (⟨"SortPlansModel", "fails", "(I)V"⟩, 19) := ⟨⟨by decide +kernel, by decide +kernel⟩, List.mem_of_getElem? (i := 364) (by decide +kernel), List.mem_of_getElem? (i := 452) (by decide +kernel), List.mem_of_getElem? (i := 453) (by decide +kernel)⟩
theorem lw_p22 : lw_okq (⟨"SortPlansModel", "sign1", "(I)V"⟩, 19) := ⟨⟨by decide +kernel, by decide +kernel⟩, List.mem_of_getElem? (i := 364) (by decide +kernel), List.mem_of_getElem? (i := 456) (by decide +kernel), List.mem_of_getElem? (i := 457) (by decide +kernel)⟩
theorem lw_p23 : lw_okq (⟨"SortPlansModel", "readBin", "(I)V"⟩, 19) := ⟨⟨by decide +kernel, by decide +kernel⟩, List.mem_of_getElem? (i := 364) (by decide +kernel), List.mem_of_getElem? (i := 460) (by decide +kernel), List.mem_of_getElem? (i := 461) (by decide +kernel)⟩
theorem lw_p24 : lw_okq (⟨"SortPlansModel", "readOverflow", "(I)V"⟩, 19) := ⟨⟨by decide +kernel, by decide +kernel⟩, List.mem_of_getElem? (i := 364) (by decide +kernel), List.mem_of_getElem? (i := 467) (by decide +kernel), List.mem_of_getElem? (i := 468) (by decide +kernel)⟩
theorem lw_p25 : lw_okq (⟨"SortPlansModel", "isPass", "(II)Z"⟩, 19) := ⟨⟨by decide +kernel, by decide +kernel⟩, List.mem_of_getElem? (i := 364) (by decide +kernel), List.mem_of_getElem? (i := 486) (by decide +kernel), List.mem_of_getElem? (i := 487) (by decide +kernel)⟩
theorem lw_p26 : lw_okq (⟨"SortPlansModel", "isUsed", "(I)Z"⟩, 19) := ⟨⟨by decide +kernel, by decide +kernel⟩, List.mem_of_getElem? (i := 364) (by decide +kernel), List.mem_of_getElem? (i := 490) (by decide +kernel), List.mem_of_getElem? (i := 491) (by decide +kernel)⟩
theorem lw_p27 : lw_okq (⟨"SortPlansModel", "tell", "(IIIII)V"⟩, 19) := ⟨⟨by decide +kernel, by decide +kernel⟩, List.mem_of_getElem? (i := 364) (by decide +kernel), List.mem_of_getElem? (i := 494) (by decide +kernel), List.mem_of_getElem? (i := 495) (by decide +kernel)⟩
theorem lw_p28 : lw_okq (⟨"SortPlansModel", "write", "(II)I"⟩, 19) := ⟨⟨by decide +kernel, by decide +kernel⟩, List.mem_of_getElem? (i := 364) (by decide +kernel), List.mem_of_getElem? (i := 522) (by decide +kernel), List.mem_of_getElem? (i := 523) (by decide +kernel)⟩
theorem lw_p29 : lw_okq (⟨"SortPlansModel", "has", "(III)Z"⟩, 19) := ⟨⟨by decide +kernel, by decide +kernel⟩, List.mem_of_getElem? (i := 364) (by decide +kernel), List.mem_of_getElem? (i := 526) (by decide +kernel), List.mem_of_getElem? (i := 527) (by decide +kernel)⟩
def lw_privs_2 : List (MethodName × Nat) := [(⟨"SortPlans$Sheet", "putNumber", "(I)V"⟩, 2), (⟨"SortPlansModel", "readAll", "()I"⟩, 19), (⟨"SortPlansModel", "look", "()I"⟩, 19), (⟨"SortPlansModel", "readTarget", "()V"⟩, 19), (⟨"SortPlansModel", "number", "(III)I"⟩, 19), (⟨"SortPlansModel", "fails", "(I)V"⟩, 19), (⟨"SortPlansModel", "sign1", "(I)V"⟩, 19), (⟨"SortPlansModel", "readBin", "(I)V"⟩, 19), (⟨"SortPlansModel", "readOverflow", "(I)V"⟩, 19), (⟨"SortPlansModel", "isPass", "(II)Z"⟩, 19), (⟨"SortPlansModel", "isUsed", "(I)Z"⟩, 19), (⟨"SortPlansModel", "tell", "(IIIII)V"⟩, 19), (⟨"SortPlansModel", "write", "(II)I"⟩, 19), (⟨"SortPlansModel", "has", "(III)Z"⟩, 19)]
theorem lw_r2 : ∀ q ∈ lw_privs_2, lw_okq q := List.forall_mem_cons.mpr ⟨lw_p16, List.forall_mem_cons.mpr ⟨lw_p17, List.forall_mem_cons.mpr ⟨lw_p18, List.forall_mem_cons.mpr ⟨lw_p19, List.forall_mem_cons.mpr ⟨lw_p20, List.forall_mem_cons.mpr ⟨lw_p21, List.forall_mem_cons.mpr ⟨lw_p22, List.forall_mem_cons.mpr ⟨lw_p23, List.forall_mem_cons.mpr ⟨lw_p24, List.forall_mem_cons.mpr ⟨lw_p25, List.forall_mem_cons.mpr ⟨lw_p26, List.forall_mem_cons.mpr ⟨lw_p27, List.forall_mem_cons.mpr ⟨lw_p28, List.forall_mem_cons.mpr ⟨lw_p29, fun _ h => absurd h List.not_mem_nil⟩⟩⟩⟩⟩⟩⟩⟩⟩⟩⟩⟩⟩⟩
def lw_privs : List (MethodName × Nat) := lw_privs_1 ++ (lw_privs_2)
def lw_tbl : List Cond := k2_sels lw_privs ++ tables_1
theorem lw_privs_ok : ∀ q ∈ lw_privs, lw_okq q := by
  show ∀ q ∈ lw_privs_1 ++ (lw_privs_2), lw_okq q
  exact List.forall_mem_append.mpr ⟨lw_r1, lw_r2⟩
/-- an array of int arrays is known: carried beside the steady words -/
def va_AOA (t : FieldType) (U : State) : Prop := (Cond.arrayOver (.array t)).before #[] U = true
theorem va_AOA.of {t : FieldType} {A : Array Value} {U : State} (h : (Cond.arrayOver (.array t)).before A U = true) : va_AOA t U := h
theorem va_AOA.use {t : FieldType} {A : Array Value} {U : State} (h : va_AOA t U) : (Cond.arrayOver (.array t)).before A U = true := h
theorem va_AOA.moved {t : FieldType} {u U : State} (hvm : u.vm.Alike U.vm) (h : va_AOA t u) : va_AOA t U := by
  obtain ⟨comp, c, k, h1, h2, h3, h4, h5⟩ := arrayOverA_spec h
  obtain ⟨k', hk', he⟩ := hvm.2.2 _ _ h3
  have hi : (U.vm.classes.findIdx? fun (x : Class) => match x.kind with | .array component _ => component == comp | _ => false) = some c := by
    rw [hvm.findIdx?_eq _ (fun _ => rfl)]
    exact h2
  have hkind : k'.kind = .array comp (.array t) := by rw [he]; exact h4
  have f1 : U.vm.findClass (FieldType.array t).toString = some comp := by rw [hvm.findClass]; exact h1
  have f2 : U.vm.findClass ("[" ++ (FieldType.array t).toString) = some c := by rw [hvm.findClass]; exact h5
  unfold va_AOA Cond.before Cond.holds
  simp only [Cond.value]
  rw [f1, Option.bind_some]
  refine (congrArg (fun o : Option Nat => (o.bind (fun c => (U.vm.classes[c]?).map fun (k : Class) => match k.kind with | .array _ ty => decide (ty = FieldType.array t) && decide (U.vm.findClass ("[" ++ (FieldType.array t).toString) = some c) | _ => false) == some true)) hi).trans ?_
  simp [hk', hkind, f2]
/-! ===== BEGIN new T[n][m]: the outer array a place, the inner ones among the pooled ===== -/
/-- f, but v at every address of l -/
def vr_up {α : Type} (f : Nat → α) (l : List Nat) (v : α) : Nat → α := fun a => if a ∈ l then v else f a
theorem vr_up_in {α : Type} {f : Nat → α} {l : List Nat} {v : α} {a : Nat} (h : a ∈ l) : vr_up f l v a = v := if_pos h
theorem vr_up_ne {α : Type} {f : Nat → α} {l : List Nat} {v : α} {a : Nat} (h : a ∉ l) : vr_up f l v a = f a := if_neg h
theorem vr_rows {L l : List Nat} {f : Nat → va_E} {e : va_E} (h : ∀ a, a ∈ l → a ∉ L) : va_pl L f ++ l.map (fun a => (a, e)) = va_pl (L ++ l) (vr_up f l e) := by
  unfold va_pl
  rw [List.map_append]
  congr 1
  · apply List.map_congr_left
    intro a ha
    rw [vr_up_ne (fun q => h a q ha)]
  · apply List.map_congr_left
    intro a ha
    rw [vr_up_in ha]
theorem vr_lay {X rows : va_W} {x : Nat × va_E} {pl : va_W} {D : va_G} {cl : List vw_C} {H : Heap} (hP : va_P D cl (((X ++ pl) ++ [x]) ++ rows) H) : va_P D cl ((X ++ [x]) ++ (pl ++ rows)) H := by
  rw [List.append_assoc (X ++ pl)] at hP
  have h := va_P.swap hP
  rw [← List.append_assoc X] at h
  have h2 := va_P.swap h
  rw [List.append_assoc (X ++ [x])] at h2
  exact h2
theorem vr_layD {X rows : va_W} {x : Nat × va_E} {pl : va_W} {A : Nat → Prop} (hD : va_D A (((X ++ pl) ++ [x]) ++ rows)) : va_D A ((X ++ [x]) ++ (pl ++ rows)) := by
  rw [List.append_assoc (X ++ pl)] at hD
  have h := va_D.swap hD
  rw [← List.append_assoc X] at h
  have h2 := va_D.swap h
  rw [List.append_assoc (X ++ [x])] at h2
  exact h2
theorem vr_outer (c : ClassId) (N h0 : Nat) : ∀ i : Nat, Jvm.Free.Multi.outerC c N h0 i = arrV c N (fun j => va_rf (if j < i then some (h0 + 1 + j) else none))
  | 0 => by
    show ({ cls := c, slots := Array.replicate N .null, vm := .none } : Cell) = _
    rw [arrV_new]
    refine congrArg (arrV c N) (funext fun j => ?_)
    simp [va_rf]
  | i + 1 => by
    show (Jvm.Free.Multi.outerC c N h0 i).setSlot i (.ref (h0 + 1 + i)) = _
    rw [vr_outer c N h0 i, arrV_store]
    refine congrArg (arrV c N) (funext fun j => ?_)
    by_cases e : j = i
    · subst e
      simp [updV, va_rf]
    · by_cases h : j < i
      · simp [updV, e, h, Nat.lt_succ_of_lt h]
      · simp [updV, e, h, show ¬ j < i + 1 by omega]
section VGM
variable {p : Program} {l : Launch} {e : Env} {R : Room} {s : State} {m : MethodId} {args : Array Value} {below : List Frame} {meth : Method} {c : Code} {H : Heap} {locs : List Loc} {cells slots : Nat} {Q : State → Prop}
variable {cc : ByteArray} {pc : Nat} {ls : Array Slot} {rest : List Value} {D : va_G} {cl : List vw_C} {A : Nat → Prop} {a : Nat} {tys : List (ClassId × FieldType)} {ws : va_W} {H0 : Heap}
theorem va_mna {X : va_W} {L : List Nat} {f : Nat → va_E} {cc : ByteArray} (hexec : p.tables.exec = Jvm.exec) (hb : c.code = cc) {own : String} {index : Nat} {ty : FieldType} {cy : ClassId} (hown : s.vm.findClass own = some m.cls) (hclink : (Cond.classLink own index ("[" ++ (FieldType.array ty).toString)).before args s = true) (hover : va_AOA ty s) (harr : (Cond.arrayClass ty).before args s = true) (hcy : s.vm.findClass (FieldType.array ty).toString = some cy)
    (hK : va_K D cl tys s) (hP : va_P D cl (X ++ va_pl L f) H) (hD : va_D A (X ++ va_pl L f)) (hS : va_S A H0 H locs) (hA : ∀ q, H0.size ≤ q → A q) {n k : Int32} {N' K' : Nat} {z : vp_A} (hn : ¬ n < 0) (hk : ¬ k < 0) (hN : n.toNatClampNeg = N') (hM : k.toNatClampNeg = K')
    (hb1 : N' * 4 ≤ 536870912) (hb2 : K' * componentBytes ty ≤ 536870912) (hb3 : K' ≤ 536870912) (hdf : fits ty (defaultValue ty) = true) (hdd : (defaultValue ty).isDefault = true) (hcells : cells + (1 + N') ≤ R.cells) (hslots : slots + (N' + N' * K') ≤ R.slots) (hz : ∀ c : ClassId, Jvm.Free.Multi.innerC c K' (defaultValue ty) = vp_cell c z) (hdg : decode cc pc = .ok (.multianewarray index 2, 4))
    (kk : ∀ (q : Nat) (r : Nat → Nat) (cA : ClassId) (H1 : Heap), (∀ i j : Nat, i < N' → j < N' → r i = r j → i = j) → (∀ i : Nat, i < N' → r i ∉ L) → va_K D cl (tys ++ [(cA, .array ty)]) s →
      va_P D cl ((X ++ [(q, .inl (cA, N', .inr (.inr (.inr (.inr (fun i => if i < N' then some (r i) else none))))))]) ++ va_pl (L ++ (List.range N').map r) (vr_up f ((List.range N').map r) (.inl (cy, z)))) H1 → va_D A ((X ++ [(q, .inl (cA, N', .inr (.inr (.inr (.inr (fun i => if i < N' then some (r i) else none))))))]) ++ va_pl (L ++ (List.range N').map r) (vr_up f ((List.range N').map r) (.inl (cy, z)))) → va_S A H0 H1 locs →
      W p l e R s m args below meth c H1 locs (cells + 1 + N') (slots + N' + N' * K') Q (F0 m (pc + 4) ls (.ref q :: rest))) : W p l e R s m args below meth c H locs cells slots Q (F0 m pc ls (.int k :: .int n :: rest)) := by
  subst hN
  subst hM
  intro T hT Xs
  obtain ⟨vm₁, cA, comp, -, fA, fC, hO, -, X', step⟩ := Xs.multianewarray2F hexec hown hclink (va_AOA.use hover) harr (g := F0 m pc ls (.int k :: .int n :: rest)) rfl (by rw [hb]; exact hdg) rfl hn hk hb1 hb2 hb3 hdf hdd hcells hslots
  have ec : some cy = some comp := hcy.symm.trans fC
  cases ec
  generalize hF : Jvm.Free.Multi.fill (T.setVm vm₁) cA cy n.toNatClampNeg k.toNatClampNeg (defaultValue ty) n.toNatClampNeg = F at X' step
  have hTh : (T.setVm vm₁).heap = H := hT
  obtain ⟨f1, f2, -, -⟩ := Jvm.Free.Multi.fill_facts (T.setVm vm₁) cA cy n.toNatClampNeg k.toNatClampNeg (defaultValue ty) n.toNatClampNeg
  rw [hF, hTh] at f1 f2
  have hold : ∀ x : Nat, x < H.size → F.heap[x]? = H[x]? := fun x hx => by
    have := Jvm.Free.Multi.fill_old (T.setVm vm₁) cA cy n.toNatClampNeg k.toNatClampNeg (defaultValue ty) (a := x) (by rw [hTh]; exact hx) n.toNatClampNeg
    rw [hF, hTh] at this
    exact this
  have hrow : ∀ j : Nat, j < n.toNatClampNeg → F.heap[H.size + 1 + j]? = some (vp_cell cy z) := fun j hj => by
    have := Jvm.Free.Multi.fill_inner (T.setVm vm₁) cA cy n.toNatClampNeg k.toNatClampNeg (defaultValue ty) n.toNatClampNeg j hj
    rw [hF, hTh, hz] at this
    exact this
  have hout : Jvm.Free.Multi.outerC cA n.toNatClampNeg H.size n.toNatClampNeg = vp_cell cA (n.toNatClampNeg, .inr (.inr (.inr (.inr (fun i => if i < n.toNatClampNeg then some (H.size + 1 + i) else none))))) := by
    rw [vp_cell_q]
    exact vr_outer cA n.toNatClampNeg H.size n.toNatClampNeg
  rw [hout] at f2
  have hlt : ∀ a, a ∈ L → a < H.size := fun a ha => by
    obtain ⟨k9, hk9⟩ := va_pl_get (X := X) (f := f) ha
    exact (hP k9 _ hk9).lt
  have hnl : ∀ i : Nat, i < n.toNatClampNeg → H.size + 1 + i ∉ L := fun i _ h => by
    have := hlt _ h
    omega
  have hnm : ∀ a, a ∈ (List.range n.toNatClampNeg).map (fun i => H.size + 1 + i) → a ∉ L := fun a ha h => by
    obtain ⟨i, -, rfl⟩ := List.mem_map.mp ha
    have := hlt _ h
    omega
  have hP0 : va_P D cl (X ++ va_pl L f) F.heap := hP.kept (fun k9 x hx => hold x.1 ((hP k9 x hx).lt))
  have hP1 : va_P D cl ((X ++ va_pl L f) ++ [(H.size, .inl (cA, n.toNatClampNeg, .inr (.inr (.inr (.inr (fun i => if i < n.toNatClampNeg then some (H.size + 1 + i) else none))))))]) F.heap := hP0.app (fun k9 x hx => by
    have h0 : k9 < 1 := (List.getElem?_eq_some_iff.mp hx).1
    rw [show k9 = 0 by omega] at hx
    cases hx
    exact f2)
  have hP2 : va_P D cl (((X ++ va_pl L f) ++ [(H.size, .inl (cA, n.toNatClampNeg, .inr (.inr (.inr (.inr (fun i => if i < n.toNatClampNeg then some (H.size + 1 + i) else none))))))]) ++ ((List.range n.toNatClampNeg).map (fun i => H.size + 1 + i)).map (fun a => (a, .inl (cy, z)))) F.heap := hP1.app (fun k9 x hx => by
    obtain ⟨a, ha, rfl⟩ := List.mem_map.mp (List.mem_of_getElem? hx)
    obtain ⟨i, hi, rfl⟩ := List.mem_map.mp ha
    exact hrow i (List.mem_range.mp hi))
  have hD2 : va_D A (((X ++ va_pl L f) ++ [(H.size, .inl (cA, n.toNatClampNeg, .inr (.inr (.inr (.inr (fun i => if i < n.toNatClampNeg then some (H.size + 1 + i) else none))))))]) ++ ((List.range n.toNatClampNeg).map (fun i => H.size + 1 + i)).map (fun a => (a, .inl (cy, z)))) := by
    have hD1 := hD.push (e := .inl (cA, n.toNatClampNeg, .inr (.inr (.inr (.inr (fun i => if i < n.toNatClampNeg then some (H.size + 1 + i) else none)))))) hP rfl (hA _ hS.1)
    generalize hW1 : (X ++ va_pl L f) ++ [(H.size, .inl (cA, n.toNatClampNeg, .inr (.inr (.inr (.inr (fun i => if i < n.toNatClampNeg then some (H.size + 1 + i) else none))))))] = W1 at hD1 hP1 ⊢
    have hle : ∀ (k9 : Nat) (x : Nat × va_E), W1[k9]? = some x → x.1 ≤ H.size := fun k9 x hx => by
      rw [← hW1] at hx
      by_cases hl : k9 < (X ++ va_pl L f).length
      · rw [List.getElem?_append_left hl] at hx
        exact Nat.le_of_lt ((hP k9 x hx).lt)
      · rw [List.getElem?_append_right (by omega)] at hx
        have h0 : k9 - (X ++ va_pl L f).length < 1 := (List.getElem?_eq_some_iff.mp hx).1
        rw [show k9 - (X ++ va_pl L f).length = 0 by omega] at hx
        cases hx
        exact Nat.le_refl _
    have hr : ∀ (k9 : Nat) (x : Nat × va_E), (((List.range n.toNatClampNeg).map (fun i => H.size + 1 + i)).map (fun a => ((a, .inl (cy, z)) : Nat × va_E)))[k9]? = some x → x.1 = H.size + 1 + k9 := fun k9 x hx => by
      rw [List.getElem?_map, List.getElem?_map] at hx
      by_cases h9 : k9 < n.toNatClampNeg
      · rw [List.getElem?_range h9] at hx
        cases hx
        rfl
      · have hn0 : (List.range n.toNatClampNeg)[k9]? = none := List.getElem?_eq_none (by rw [List.length_range]; omega)
        rw [hn0] at hx
        cases hx
    refine ⟨fun i j x y hi hj hxy => ?_, fun k9 x hx => ?_⟩
    · by_cases h1 : i < W1.length <;> by_cases h2 : j < W1.length
      · rw [List.getElem?_append_left h1] at hi
        rw [List.getElem?_append_left h2] at hj
        exact hD1.1 i j x y hi hj hxy
      · rw [List.getElem?_append_left h1] at hi
        rw [List.getElem?_append_right (by omega)] at hj
        have := hle _ _ hi
        have := hr _ _ hj
        omega
      · rw [List.getElem?_append_right (by omega)] at hi
        rw [List.getElem?_append_left h2] at hj
        have := hle _ _ hj
        have := hr _ _ hi
        omega
      · rw [List.getElem?_append_right (by omega)] at hi hj
        have := hr _ _ hi
        have := hr _ _ hj
        omega
    · by_cases h1 : k9 < W1.length
      · rw [List.getElem?_append_left h1] at hx
        exact hD1.2 k9 x hx
      · rw [List.getElem?_append_right (by omega)] at hx
        have := hr _ _ hx
        exact hA _ (by have := hS.1; omega)
  have hAr : ArrOfT s cA (.array ty) := fun N9 z9 => by
    obtain ⟨-, k9, hk9, cm9, hkk9⟩ := (hO 0 0 0).1
    exact ⟨(fun q hq => by cases hq), k9, hk9, cm9, hkk9⟩
  have hK2 : va_K D cl (tys ++ [(cA, .array ty)]) s := ⟨hK.1, fun k9 x hx => by
    by_cases hl : k9 < tys.length
    · rw [List.getElem?_append_left hl] at hx
      exact hK.2 k9 x hx
    · rw [List.getElem?_append_right (by omega)] at hx
      have h0 : k9 - tys.length < 1 := (List.getElem?_eq_some_iff.mp hx).1
      rw [show k9 - tys.length = 0 by omega] at hx
      cases hx
      exact ⟨hAr, fA⟩⟩
  obtain ⟨t, a1, b1⟩ := kk H.size (fun i => H.size + 1 + i) cA F.heap (fun i j _ _ h => by have h9 : H.size + 1 + i = H.size + 1 + j := h; omega) hnl hK2 (by rw [← vr_rows hnm]; exact vr_lay hP2) (by rw [← vr_rows hnm]; exact vr_layD hD2) ⟨by rw [f1]; have := hS.1; omega, fun x h1 h2 => (hold x (Nat.lt_of_lt_of_le h1 hS.1)).trans (hS.2.1 x h1 h2), hS.2.2⟩ F rfl X'
  refine ⟨t, step t ?_, b1⟩
  have e : T.heap.size = H.size := by rw [hT]
  rw [e]
  exact a1
end VGM
/-! ===== END ===== -/
def R_Fa : String := "SortPlans$Faults"
def T_Fa : u_T := fun k => match k with
  | 0 => ("SortPlans$Faults", "told", "[I", true)
  | _ => ("SortPlans$Faults", "count", "I", false)
def t_Fa : Nat → FieldType := fun k => match k with
  | 0 => .array .int
  | _ => .int
theorem nm_Fa : ∀ a, a < 2 → ∀ b, b < 2 → a ≠ b → (T_Fa a).2.1 ≠ (T_Fa b).2.1 := by decide +kernel
theorem tk_Fa : ∀ k, k < 2 → parseFieldDescriptor (T_Fa k).2.2.1 = some (t_Fa k) := by decide +kernel
def R_Pl : String := "SortPlans$Plan"
def T_Pl : u_T := fun k => match k with
  | 0 => ("SortPlans$Plan", "bins", "[I", true)
  | 1 => ("SortPlans$Plan", "shares", "[Z", true)
  | 2 => ("SortPlans$Plan", "used", "[Z", true)
  | 3 => ("SortPlans$Plan", "held", "[Z", true)
  | 4 => ("SortPlans$Plan", "next", "[I", true)
  | 5 => ("SortPlans$Plan", "rangeTarget", "[I", true)
  | 6 => ("SortPlans$Plan", "rangeFrom", "[I", true)
  | 7 => ("SortPlans$Plan", "rangeTo", "[I", true)
  | 8 => ("SortPlans$Plan", "rangeKind", "[I", true)
  | _ => ("SortPlans$Plan", "ranges", "I", false)
def t_Pl : Nat → FieldType := fun k => match k with
  | 0 => .array .int
  | 1 => .array .boolean
  | 2 => .array .boolean
  | 3 => .array .boolean
  | 4 => .array .int
  | 5 => .array .int
  | 6 => .array .int
  | 7 => .array .int
  | 8 => .array .int
  | _ => .int
theorem nm_Pl : ∀ a, a < 10 → ∀ b, b < 10 → a ≠ b → (T_Pl a).2.1 ≠ (T_Pl b).2.1 := by decide +kernel
theorem tk_Pl : ∀ k, k < 10 → parseFieldDescriptor (T_Pl k).2.2.1 = some (t_Pl k) := by decide +kernel
def R_Re : String := "SortPlans$Reading"
def T_Re : u_T := fun k => match k with
  | 0 => ("SortPlans$Reading", "text", "LSortPlans$Text;", true)
  | 1 => ("SortPlans$Reading", "draft", "LSortPlans$Plan;", false)
  | 2 => ("SortPlans$Reading", "at", "I", false)
  | _ => ("SortPlans$Reading", "trouble", "I", false)
def t_Re : Nat → FieldType := fun k => match k with
  | 0 => .object "SortPlans$Text"
  | 1 => .object "SortPlans$Plan"
  | 2 => .int
  | _ => .int
theorem nm_Re : ∀ a, a < 4 → ∀ b, b < 4 → a ≠ b → (T_Re a).2.1 ≠ (T_Re b).2.1 := by decide +kernel
theorem tk_Re : ∀ k, k < 4 → parseFieldDescriptor (T_Re k).2.2.1 = some (t_Re k) := by decide +kernel
def R_Sh : String := "SortPlans$Sheet"
def T_Sh : u_T := fun k => match k with
  | 0 => ("SortPlans$Sheet", "signs", "[C", true)
  | _ => ("SortPlans$Sheet", "length", "I", false)
def t_Sh : Nat → FieldType := fun k => match k with
  | 0 => .array .char
  | _ => .int
theorem nm_Sh : ∀ a, a < 2 → ∀ b, b < 2 → a ≠ b → (T_Sh a).2.1 ≠ (T_Sh b).2.1 := by decide +kernel
theorem tk_Sh : ∀ k, k < 2 → parseFieldDescriptor (T_Sh k).2.2.1 = some (t_Sh k) := by decide +kernel
def R_Te : String := "SortPlans$Text"
def T_Te : u_T := fun k => match k with
  | 0 => ("SortPlans$Text", "signs", "[C", true)
  | _ => ("SortPlans$Text", "length", "I", false)
def t_Te : Nat → FieldType := fun k => match k with
  | 0 => .array .char
  | _ => .int
theorem nm_Te : ∀ a, a < 2 → ∀ b, b < 2 → a ≠ b → (T_Te a).2.1 ≠ (T_Te b).2.1 := by decide +kernel
theorem tk_Te : ∀ k, k < 2 → parseFieldDescriptor (T_Te k).2.2.1 = some (t_Te k) := by decide +kernel
def R_SP : String := "SortPlans"
def T_SP : u_T := fun k => match k with
  | 0 => ("SortPlans", "reading", "LSortPlans$Reading;", true)
  | 1 => ("SortPlans", "faults", "LSortPlans$Faults;", true)
  | 2 => ("SortPlans", "sheet", "LSortPlans$Sheet;", true)
  | 3 => ("SortPlans", "editions", "[[I", true)
  | 4 => ("SortPlans", "editionCount", "I", false)
  | _ => ("SortPlans", "plan", "LSortPlans$Plan;", false)
def t_SP : Nat → FieldType := fun k => match k with
  | 0 => .object "SortPlans$Reading"
  | 1 => .object "SortPlans$Faults"
  | 2 => .object "SortPlans$Sheet"
  | 3 => .array (.array .int)
  | 4 => .int
  | _ => .object "SortPlans$Plan"
theorem nm_SP : ∀ a, a < 6 → ∀ b, b < 6 → a ≠ b → (T_SP a).2.1 ≠ (T_SP b).2.1 := by decide +kernel
theorem tk_SP : ∀ k, k < 6 → parseFieldDescriptor (T_SP k).2.2.1 = some (t_SP k) := by decide +kernel
def R_Mo : String := "SortPlansModel"
def T_Mo : u_T := fun k => match k with
  | 0 => ("SortPlansModel", "thrown", "I", false)
  | 1 => ("SortPlansModel", "text", "[I", true)
  | 2 => ("SortPlansModel", "size", "I", false)
  | 3 => ("SortPlansModel", "at", "I", false)
  | 4 => ("SortPlansModel", "wrong", "I", false)
  | 5 => ("SortPlansModel", "editions", "I", false)
  | 6 => ("SortPlansModel", "bins", "[I", true)
  | 7 => ("SortPlansModel", "shares", "[Z", true)
  | 8 => ("SortPlansModel", "newShares", "[Z", true)
  | 9 => ("SortPlansModel", "codes", "[I", true)
  | 10 => ("SortPlansModel", "newCodes", "[I", true)
  | 11 => ("SortPlansModel", "words", "I", false)
  | 12 => ("SortPlansModel", "newWords", "I", false)
  | 13 => ("SortPlansModel", "next", "[I", true)
  | 14 => ("SortPlansModel", "newNext", "[I", true)
  | 15 => ("SortPlansModel", "held", "[Z", true)
  | 16 => ("SortPlansModel", "found", "I", false)
  | 17 => ("SortPlansModel", "faults", "[I", true)
  | _ => ("SortPlansModel", "sheet", "[I", true)
def t_Mo : Nat → FieldType := fun k => match k with
  | 0 => .int
  | 1 => .array .int
  | 2 => .int
  | 3 => .int
  | 4 => .int
  | 5 => .int
  | 6 => .array .int
  | 7 => .array .boolean
  | 8 => .array .boolean
  | 9 => .array .int
  | 10 => .array .int
  | 11 => .int
  | 12 => .int
  | 13 => .array .int
  | 14 => .array .int
  | 15 => .array .boolean
  | 16 => .int
  | 17 => .array .int
  | _ => .array .int
theorem nm_Mo : ∀ a, a < 19 → ∀ b, b < 19 → a ≠ b → (T_Mo a).2.1 ≠ (T_Mo b).2.1 := by decide +kernel
theorem tk_Mo : ∀ k, k < 19 → parseFieldDescriptor (T_Mo k).2.2.1 = some (t_Mo k) := by decide +kernel
def R_La : String := "SortPlansLaw"
def R_Ar : String := "java/util/Arrays"
abbrev vwCl : List vw_C := [(R_Fa, T_Fa, 2), (R_Pl, T_Pl, 10), (R_Re, T_Re, 4), (R_Sh, T_Sh, 2), (R_Te, T_Te, 2), (R_SP, T_SP, 6), (R_Mo, T_Mo, 19)]
abbrev b_SP_init : ByteArray := prog_1_method_1_code
def y_SP_init : MethodName := ⟨"SortPlans", "<init>", "()V"⟩
abbrev b_Re_init : ByteArray := prog_4_method_1_code
def y_Re_init : MethodName := ⟨"SortPlans$Reading", "<init>", "()V"⟩
abbrev b_Te_init : ByteArray := prog_6_method_1_code
def y_Te_init : MethodName := ⟨"SortPlans$Text", "<init>", "()V"⟩
abbrev b_Pl_init : ByteArray := prog_3_method_1_code
def y_Pl_init : MethodName := ⟨"SortPlans$Plan", "<init>", "()V"⟩
abbrev b_Fa_init : ByteArray := prog_2_method_1_code
def y_Fa_init : MethodName := ⟨"SortPlans$Faults", "<init>", "()V"⟩
abbrev b_Sh_init : ByteArray := prog_5_method_1_code
def y_Sh_init : MethodName := ⟨"SortPlans$Sheet", "<init>", "()V"⟩
abbrev b_SP_sign : ByteArray := prog_1_method_2_code
def y_SP_sign : MethodName := ⟨"SortPlans", "sign", "(I)V"⟩
abbrev b_Te_put : ByteArray := prog_6_method_2_code
def y_Te_put : MethodName := ⟨"SortPlans$Text", "put", "(I)V"⟩
abbrev b_SP_isWithin : ByteArray := prog_1_method_15_code
def y_SP_isWithin : MethodName := ⟨"SortPlans", "isWithin", "(III)Z"⟩
abbrev b_SP_read : ByteArray := prog_1_method_3_code
def y_SP_read : MethodName := ⟨"SortPlans", "read", "()I"⟩
abbrev b_Re_readText : ByteArray := prog_4_method_2_code
def y_Re_readText : MethodName := ⟨"SortPlans$Reading", "readText", "()I"⟩
abbrev b_Pl_clear : ByteArray := prog_3_method_2_code
def y_Pl_clear : MethodName := ⟨"SortPlans$Plan", "clear", "()V"⟩
abbrev b_Ar_fill : ByteArray := prog_10_method_103_code
def y_Ar_fill : MethodName := ⟨"java/util/Arrays", "fill", "([II)V"⟩
abbrev b_Re_isFine : ByteArray := prog_4_method_3_code
def y_Re_isFine : MethodName := ⟨"SortPlans$Reading", "isFine", "()Z"⟩
abbrev b_Re_readSentence : ByteArray := prog_4_method_5_code
def y_Re_readSentence : MethodName := ⟨"SortPlans$Reading", "readSentence", "()V"⟩
abbrev b_Te_signAt : ByteArray := prog_6_method_3_code
def y_Te_signAt : MethodName := ⟨"SortPlans$Text", "signAt", "(I)I"⟩
abbrev b_Re_readRange : ByteArray := prog_4_method_6_code
def y_Re_readRange : MethodName := ⟨"SortPlans$Reading", "readRange", "()V"⟩
abbrev b_Re_readNumber : ByteArray := prog_4_method_11_code
def y_Re_readNumber : MethodName := ⟨"SortPlans$Reading", "readNumber", "(II)I"⟩
abbrev b_Re_isFigure : ByteArray := prog_4_method_12_code
def y_Re_isFigure : MethodName := ⟨"SortPlans$Reading", "isFigure", "(I)Z"⟩
abbrev b_Re_readSign : ByteArray := prog_4_method_9_code
def y_Re_readSign : MethodName := ⟨"SortPlans$Reading", "readSign", "(C)V"⟩
abbrev b_Pl_addRange : ByteArray := prog_3_method_3_code
def y_Pl_addRange : MethodName := ⟨"SortPlans$Plan", "addRange", "(IIII)V"⟩
abbrev b_Re_readBin : ByteArray := prog_4_method_7_code
def y_Re_readBin : MethodName := ⟨"SortPlans$Reading", "readBin", "(I)V"⟩
abbrev b_Re_readPlus : ByteArray := prog_4_method_10_code
def y_Re_readPlus : MethodName := ⟨"SortPlans$Reading", "readPlus", "()Z"⟩
abbrev b_SP_slot : ByteArray := prog_1_method_18_code
def y_SP_slot : MethodName := ⟨"SortPlans", "slot", "(III)I"⟩
abbrev b_Pl_addBin : ByteArray := prog_3_method_4_code
def y_Pl_addBin : MethodName := ⟨"SortPlans$Plan", "addBin", "(IIZ)Z"⟩
abbrev b_Re_readGoingOn : ByteArray := prog_4_method_8_code
def y_Re_readGoingOn : MethodName := ⟨"SortPlans$Reading", "readGoingOn", "(I)V"⟩
abbrev b_Pl_addGoingOn : ByteArray := prog_3_method_5_code
def y_Pl_addGoingOn : MethodName := ⟨"SortPlans$Plan", "addGoingOn", "(II)Z"⟩
abbrev b_SP_addEdition : ByteArray := prog_1_method_14_code
def y_SP_addEdition : MethodName := ⟨"SortPlans", "addEdition", "()V"⟩
abbrev b_Re_giveDraftFor : ByteArray := prog_4_method_4_code
def y_Re_giveDraftFor : MethodName := ⟨"SortPlans$Reading", "giveDraftFor", "(LSortPlans$Plan;)LSortPlans$Plan;"⟩
abbrev b_SP_target : ByteArray := prog_1_method_4_code
def y_SP_target : MethodName := ⟨"SortPlans", "target", "(II)I"⟩
abbrev b_SP_hasPlan : ByteArray := prog_1_method_13_code
def y_SP_hasPlan : MethodName := ⟨"SortPlans", "hasPlan", "()Z"⟩
abbrev b_Pl_leastTargetOf : ByteArray := prog_3_method_6_code
def y_Pl_leastTargetOf : MethodName := ⟨"SortPlans$Plan", "leastTargetOf", "(II)I"⟩
abbrev b_SP_bin : ByteArray := prog_1_method_5_code
def y_SP_bin : MethodName := ⟨"SortPlans", "bin", "(III)I"⟩
abbrev b_SP_isTarget : ByteArray := prog_1_method_16_code
def y_SP_isTarget : MethodName := ⟨"SortPlans", "isTarget", "(I)Z"⟩
abbrev b_SP_check : ByteArray := prog_1_method_6_code
def y_SP_check : MethodName := ⟨"SortPlans", "check", "()I"⟩
abbrev b_Fa_findIn : ByteArray := prog_2_method_2_code
def y_Fa_findIn : MethodName := ⟨"SortPlans$Faults", "findIn", "(LSortPlans$Plan;)V"⟩
abbrev b_Pl_passesOf : ByteArray := prog_3_method_7_code
def y_Pl_passesOf : MethodName := ⟨"SortPlans$Plan", "passesOf", "(I)I"⟩
abbrev b_Fa_findHoles : ByteArray := prog_2_method_4_code
def y_Fa_findHoles : MethodName := ⟨"SortPlans$Faults", "findHoles", "(LSortPlans$Plan;II)V"⟩
abbrev b_Fa_add : ByteArray := prog_2_method_7_code
def y_Fa_add : MethodName := ⟨"SortPlans$Faults", "add", "(IIIII)V"⟩
abbrev b_Fa_findDoubles : ByteArray := prog_2_method_5_code
def y_Fa_findDoubles : MethodName := ⟨"SortPlans$Faults", "findDoubles", "(LSortPlans$Plan;II)V"⟩
abbrev b_Fa_findDoublesOf : ByteArray := prog_2_method_6_code
def y_Fa_findDoublesOf : MethodName := ⟨"SortPlans$Faults", "findDoublesOf", "(LSortPlans$Plan;IIII)V"⟩
abbrev b_SP_fault : ByteArray := prog_1_method_7_code
def y_SP_fault : MethodName := ⟨"SortPlans", "fault", "(II)I"⟩
abbrev b_Fa_tell : ByteArray := prog_2_method_3_code
def y_Fa_tell : MethodName := ⟨"SortPlans$Faults", "tell", "(II)I"⟩
abbrev b_SP_hold : ByteArray := prog_1_method_8_code
def y_SP_hold : MethodName := ⟨"SortPlans", "hold", "(IZ)I"⟩
abbrev b_SP_compare : ByteArray := prog_1_method_9_code
def y_SP_compare : MethodName := ⟨"SortPlans", "compare", "(I)I"⟩
abbrev b_Pl_countTargetsOtherThan : ByteArray := prog_3_method_8_code
def y_Pl_countTargetsOtherThan : MethodName := ⟨"SortPlans$Plan", "countTargetsOtherThan", "([I)I"⟩
abbrev b_Pl_isOtherThan : ByteArray := prog_3_method_9_code
def y_Pl_isOtherThan : MethodName := ⟨"SortPlans$Plan", "isOtherThan", "([II)Z"⟩
abbrev b_SP_swap : ByteArray := prog_1_method_10_code
def y_SP_swap : MethodName := ⟨"SortPlans", "swap", "(II)I"⟩
abbrev b_SP_isBin : ByteArray := prog_1_method_17_code
def y_SP_isBin : MethodName := ⟨"SortPlans", "isBin", "(I)Z"⟩
abbrev b_Pl_exchange : ByteArray := prog_3_method_10_code
def y_Pl_exchange : MethodName := ⟨"SortPlans$Plan", "exchange", "(II)I"⟩
abbrev b_SP_overflow : ByteArray := prog_1_method_11_code
def y_SP_overflow : MethodName := ⟨"SortPlans", "overflow", "(I)I"⟩
abbrev b_Pl_endOfGoingOn : ByteArray := prog_3_method_11_code
def y_Pl_endOfGoingOn : MethodName := ⟨"SortPlans$Plan", "endOfGoingOn", "(I)I"⟩
abbrev b_SP_print : ByteArray := prog_1_method_12_code
def y_SP_print : MethodName := ⟨"SortPlans", "print", "(I)I"⟩
abbrev b_Sh_write : ByteArray := prog_5_method_2_code
def y_Sh_write : MethodName := ⟨"SortPlans$Sheet", "write", "(LSortPlans$Plan;)V"⟩
abbrev b_Sh_writeBin : ByteArray := prog_5_method_4_code
def y_Sh_writeBin : MethodName := ⟨"SortPlans$Sheet", "writeBin", "(LSortPlans$Plan;I)V"⟩
abbrev b_Sh_put : ByteArray := prog_5_method_6_code
def y_Sh_put : MethodName := ⟨"SortPlans$Sheet", "put", "(C)V"⟩
abbrev b_Sh_putNumber : ByteArray := prog_5_method_5_code
def y_Sh_putNumber : MethodName := ⟨"SortPlans$Sheet", "putNumber", "(I)V"⟩
abbrev b_Sh_signAt : ByteArray := prog_5_method_3_code
def y_Sh_signAt : MethodName := ⟨"SortPlans$Sheet", "signAt", "(I)I"⟩
abbrev b_Mo_init : ByteArray := prog_8_method_1_code
def y_Mo_init : MethodName := ⟨"SortPlansModel", "<init>", "()V"⟩
abbrev b_Mo_sign : ByteArray := prog_8_method_5_code
def y_Mo_sign : MethodName := ⟨"SortPlansModel", "sign", "(I)V"⟩
abbrev b_Mo_read : ByteArray := prog_8_method_14_code
def y_Mo_read : MethodName := ⟨"SortPlansModel", "read", "()I"⟩
abbrev b_Mo_readAll : ByteArray := prog_8_method_13_code
def y_Mo_readAll : MethodName := ⟨"SortPlansModel", "readAll", "()I"⟩
abbrev b_Mo_look : ByteArray := prog_8_method_6_code
def y_Mo_look : MethodName := ⟨"SortPlansModel", "look", "()I"⟩
abbrev b_Mo_readTarget : ByteArray := prog_8_method_10_code
def y_Mo_readTarget : MethodName := ⟨"SortPlansModel", "readTarget", "()V"⟩
abbrev b_Mo_number : ByteArray := prog_8_method_8_code
def y_Mo_number : MethodName := ⟨"SortPlansModel", "number", "(III)I"⟩
abbrev b_Mo_fails : ByteArray := prog_8_method_7_code
def y_Mo_fails : MethodName := ⟨"SortPlansModel", "fails", "(I)V"⟩
abbrev b_Mo_sign1 : ByteArray := prog_8_method_9_code
def y_Mo_sign1 : MethodName := ⟨"SortPlansModel", "sign1", "(I)V"⟩
abbrev b_Mo_readBin : ByteArray := prog_8_method_11_code
def y_Mo_readBin : MethodName := ⟨"SortPlansModel", "readBin", "(I)V"⟩
abbrev b_Mo_place : ByteArray := prog_8_method_4_code
def y_Mo_place : MethodName := ⟨"SortPlansModel", "place", "(IIII)I"⟩
abbrev b_Mo_readOverflow : ByteArray := prog_8_method_12_code
def y_Mo_readOverflow : MethodName := ⟨"SortPlansModel", "readOverflow", "(I)V"⟩
abbrev b_Mo_target : ByteArray := prog_8_method_15_code
def y_Mo_target : MethodName := ⟨"SortPlansModel", "target", "(II)I"⟩
abbrev b_Mo_isIn : ByteArray := prog_8_method_3_code
def y_Mo_isIn : MethodName := ⟨"SortPlansModel", "isIn", "(III)Z"⟩
abbrev b_Mo_bin : ByteArray := prog_8_method_16_code
def y_Mo_bin : MethodName := ⟨"SortPlansModel", "bin", "(III)I"⟩
abbrev b_Mo_check : ByteArray := prog_8_method_20_code
def y_Mo_check : MethodName := ⟨"SortPlansModel", "check", "()I"⟩
abbrev b_Mo_isPass : ByteArray := prog_8_method_18_code
def y_Mo_isPass : MethodName := ⟨"SortPlansModel", "isPass", "(II)Z"⟩
abbrev b_Mo_isUsed : ByteArray := prog_8_method_17_code
def y_Mo_isUsed : MethodName := ⟨"SortPlansModel", "isUsed", "(I)Z"⟩
abbrev b_Mo_tell : ByteArray := prog_8_method_19_code
def y_Mo_tell : MethodName := ⟨"SortPlansModel", "tell", "(IIIII)V"⟩
abbrev b_Mo_fault : ByteArray := prog_8_method_21_code
def y_Mo_fault : MethodName := ⟨"SortPlansModel", "fault", "(II)I"⟩
abbrev b_Mo_hold : ByteArray := prog_8_method_22_code
def y_Mo_hold : MethodName := ⟨"SortPlansModel", "hold", "(IZ)I"⟩
abbrev b_Mo_compare : ByteArray := prog_8_method_23_code
def y_Mo_compare : MethodName := ⟨"SortPlansModel", "compare", "(I)I"⟩
abbrev b_Mo_swap : ByteArray := prog_8_method_24_code
def y_Mo_swap : MethodName := ⟨"SortPlansModel", "swap", "(II)I"⟩
abbrev b_Mo_overflow : ByteArray := prog_8_method_25_code
def y_Mo_overflow : MethodName := ⟨"SortPlansModel", "overflow", "(I)I"⟩
abbrev b_Mo_print : ByteArray := prog_8_method_27_code
def y_Mo_print : MethodName := ⟨"SortPlansModel", "print", "(I)I"⟩
abbrev b_Mo_write : ByteArray := prog_8_method_26_code
def y_Mo_write : MethodName := ⟨"SortPlansModel", "write", "(II)I"⟩
abbrev b_Mo_has : ByteArray := prog_8_method_28_code
def y_Mo_has : MethodName := ⟨"SortPlansModel", "has", "(III)Z"⟩
def ga_nl : List Cond := [.methodLinkNest "SortPlans" 11 ⟨"SortPlans$Reading", "<init>", "()V"⟩ "SortPlans",
  .methodLinkNest "SortPlans$Reading" 11 ⟨"SortPlans$Text", "<init>", "()V"⟩ "SortPlans",
  .methodLinkNest "SortPlans$Reading" 20 ⟨"SortPlans$Plan", "<init>", "()V"⟩ "SortPlans",
  .methodLinkNest "SortPlans" 18 ⟨"SortPlans$Faults", "<init>", "()V"⟩ "SortPlans",
  .methodLinkNest "SortPlans" 25 ⟨"SortPlans$Sheet", "<init>", "()V"⟩ "SortPlans",
  .methodLinkNest "SortPlans" 37 ⟨"SortPlans$Plan", "<init>", "()V"⟩ "SortPlans",
  .methodLinkNest "SortPlans$Text" 13 ⟨"SortPlans", "isWithin", "(III)Z"⟩ "SortPlans",
  .methodLinkNest "SortPlans$Reading" 90 ⟨"SortPlans", "isWithin", "(III)Z"⟩ "SortPlans",
  .methodLinkNest "SortPlans$Reading" 74 ⟨"SortPlans", "slot", "(III)I"⟩ "SortPlans",
  .methodLinkNest "SortPlans$Plan" 52 ⟨"SortPlans", "isWithin", "(III)Z"⟩ "SortPlans",
  .methodLinkNest "SortPlans$Plan" 56 ⟨"SortPlans", "slot", "(III)I"⟩ "SortPlans",
  .methodLinkNest "SortPlans$Faults" 39 ⟨"SortPlans", "slot", "(III)I"⟩ "SortPlans",
  .methodLinkNest "SortPlans$Sheet" 29 ⟨"SortPlans", "slot", "(III)I"⟩ "SortPlans"]
end
section
theorem d_SP_init_0 : decode b_SP_init 0 = .ok (.aload_n 0, 1) := by decide +kernel
theorem d_SP_init_1 : decode b_SP_init 1 = .ok (.invokespecial 3, 3) := by decide +kernel
theorem d_SP_init_4 : decode b_SP_init 4 = .ok (.aload_n 0, 1) := by decide +kernel
theorem d_SP_init_5 : decode b_SP_init 5 = .ok (.new 9, 3) := by decide +kernel
theorem d_SP_init_8 : decode b_SP_init 8 = .ok (.dup, 1) := by decide +kernel
theorem d_SP_init_9 : decode b_SP_init 9 = .ok (.invokespecial 11, 3) := by decide +kernel
theorem d_SP_init_12 : decode b_SP_init 12 = .ok (.putfield 12, 3) := by decide +kernel
theorem d_SP_init_15 : decode b_SP_init 15 = .ok (.aload_n 0, 1) := by decide +kernel
theorem d_SP_init_16 : decode b_SP_init 16 = .ok (.new 16, 3) := by decide +kernel
theorem d_SP_init_19 : decode b_SP_init 19 = .ok (.dup, 1) := by decide +kernel
theorem d_SP_init_20 : decode b_SP_init 20 = .ok (.invokespecial 18, 3) := by decide +kernel
theorem d_SP_init_23 : decode b_SP_init 23 = .ok (.putfield 19, 3) := by decide +kernel
theorem d_SP_init_26 : decode b_SP_init 26 = .ok (.aload_n 0, 1) := by decide +kernel
theorem d_SP_init_27 : decode b_SP_init 27 = .ok (.new 23, 3) := by decide +kernel
theorem d_SP_init_30 : decode b_SP_init 30 = .ok (.dup, 1) := by decide +kernel
theorem d_SP_init_31 : decode b_SP_init 31 = .ok (.invokespecial 25, 3) := by decide +kernel
theorem d_SP_init_34 : decode b_SP_init 34 = .ok (.putfield 26, 3) := by decide +kernel
theorem d_SP_init_37 : decode b_SP_init 37 = .ok (.aload_n 0, 1) := by decide +kernel
theorem d_SP_init_38 : decode b_SP_init 38 = .ok (.bipush 8, 2) := by decide +kernel
theorem d_SP_init_40 : decode b_SP_init 40 = .ok (.sipush 480, 3) := by decide +kernel
theorem d_SP_init_43 : decode b_SP_init 43 = .ok (.multianewarray 30 2, 4) := by decide +kernel
theorem d_SP_init_47 : decode b_SP_init 47 = .ok (.putfield 32, 3) := by decide +kernel
theorem d_SP_init_50 : decode b_SP_init 50 = .ok (.aload_n 0, 1) := by decide +kernel
theorem d_SP_init_51 : decode b_SP_init 51 = .ok (.new 35, 3) := by decide +kernel
theorem d_SP_init_54 : decode b_SP_init 54 = .ok (.dup, 1) := by decide +kernel
theorem d_SP_init_55 : decode b_SP_init 55 = .ok (.invokespecial 37, 3) := by decide +kernel
theorem d_SP_init_58 : decode b_SP_init 58 = .ok (.putfield 38, 3) := by decide +kernel
theorem d_SP_init_61 : decode b_SP_init 61 = .ok (.return_, 1) := by decide +kernel
theorem d_Re_init_0 : decode b_Re_init 0 = .ok (.aload_n 0, 1) := by decide +kernel
theorem d_Re_init_1 : decode b_Re_init 1 = .ok (.invokespecial 3, 3) := by decide +kernel
theorem d_Re_init_4 : decode b_Re_init 4 = .ok (.aload_n 0, 1) := by decide +kernel
theorem d_Re_init_5 : decode b_Re_init 5 = .ok (.new 9, 3) := by decide +kernel
theorem d_Re_init_8 : decode b_Re_init 8 = .ok (.dup, 1) := by decide +kernel
theorem d_Re_init_9 : decode b_Re_init 9 = .ok (.invokespecial 11, 3) := by decide +kernel
theorem d_Re_init_12 : decode b_Re_init 12 = .ok (.putfield 12, 3) := by decide +kernel
theorem d_Re_init_15 : decode b_Re_init 15 = .ok (.aload_n 0, 1) := by decide +kernel
theorem d_Re_init_16 : decode b_Re_init 16 = .ok (.new 18, 3) := by decide +kernel
theorem d_Re_init_19 : decode b_Re_init 19 = .ok (.dup, 1) := by decide +kernel
theorem d_Re_init_20 : decode b_Re_init 20 = .ok (.invokespecial 20, 3) := by decide +kernel
theorem d_Re_init_23 : decode b_Re_init 23 = .ok (.putfield 21, 3) := by decide +kernel
theorem d_Re_init_26 : decode b_Re_init 26 = .ok (.aload_n 0, 1) := by decide +kernel
theorem d_Re_init_27 : decode b_Re_init 27 = .ok (.iconst (-1), 1) := by decide +kernel
theorem d_Re_init_28 : decode b_Re_init 28 = .ok (.putfield 25, 3) := by decide +kernel
theorem d_Re_init_31 : decode b_Re_init 31 = .ok (.return_, 1) := by decide +kernel
theorem d_Te_init_0 : decode b_Te_init 0 = .ok (.aload_n 0, 1) := by decide +kernel
theorem d_Te_init_1 : decode b_Te_init 1 = .ok (.invokespecial 1, 3) := by decide +kernel
theorem d_Te_init_4 : decode b_Te_init 4 = .ok (.aload_n 0, 1) := by decide +kernel
theorem d_Te_init_5 : decode b_Te_init 5 = .ok (.sipush 600, 3) := by decide +kernel
theorem d_Te_init_8 : decode b_Te_init 8 = .ok (.newarray .char, 2) := by decide +kernel
theorem d_Te_init_10 : decode b_Te_init 10 = .ok (.putfield 9, 3) := by decide +kernel
theorem d_Te_init_13 : decode b_Te_init 13 = .ok (.return_, 1) := by decide +kernel
theorem d_Pl_init_0 : decode b_Pl_init 0 = .ok (.aload_n 0, 1) := by decide +kernel
theorem d_Pl_init_1 : decode b_Pl_init 1 = .ok (.invokespecial 5, 3) := by decide +kernel
theorem d_Pl_init_4 : decode b_Pl_init 4 = .ok (.aload_n 0, 1) := by decide +kernel
theorem d_Pl_init_5 : decode b_Pl_init 5 = .ok (.sipush 480, 3) := by decide +kernel
theorem d_Pl_init_8 : decode b_Pl_init 8 = .ok (.newarray .int, 2) := by decide +kernel
theorem d_Pl_init_10 : decode b_Pl_init 10 = .ok (.putfield 11, 3) := by decide +kernel
theorem d_Pl_init_13 : decode b_Pl_init 13 = .ok (.aload_n 0, 1) := by decide +kernel
theorem d_Pl_init_14 : decode b_Pl_init 14 = .ok (.sipush 480, 3) := by decide +kernel
theorem d_Pl_init_17 : decode b_Pl_init 17 = .ok (.newarray .boolean, 2) := by decide +kernel
theorem d_Pl_init_19 : decode b_Pl_init 19 = .ok (.putfield 17, 3) := by decide +kernel
theorem d_Pl_init_22 : decode b_Pl_init 22 = .ok (.aload_n 0, 1) := by decide +kernel
theorem d_Pl_init_23 : decode b_Pl_init 23 = .ok (.bipush 41, 2) := by decide +kernel
theorem d_Pl_init_25 : decode b_Pl_init 25 = .ok (.newarray .boolean, 2) := by decide +kernel
theorem d_Pl_init_27 : decode b_Pl_init 27 = .ok (.putfield 21, 3) := by decide +kernel
theorem d_Pl_init_30 : decode b_Pl_init 30 = .ok (.aload_n 0, 1) := by decide +kernel
theorem d_Pl_init_31 : decode b_Pl_init 31 = .ok (.bipush 41, 2) := by decide +kernel
theorem d_Pl_init_33 : decode b_Pl_init 33 = .ok (.newarray .boolean, 2) := by decide +kernel
theorem d_Pl_init_35 : decode b_Pl_init 35 = .ok (.putfield 24, 3) := by decide +kernel
theorem d_Pl_init_38 : decode b_Pl_init 38 = .ok (.aload_n 0, 1) := by decide +kernel
theorem d_Pl_init_39 : decode b_Pl_init 39 = .ok (.bipush 61, 2) := by decide +kernel
theorem d_Pl_init_41 : decode b_Pl_init 41 = .ok (.newarray .int, 2) := by decide +kernel
theorem d_Pl_init_43 : decode b_Pl_init 43 = .ok (.putfield 27, 3) := by decide +kernel
theorem d_Pl_init_46 : decode b_Pl_init 46 = .ok (.aload_n 0, 1) := by decide +kernel
theorem d_Pl_init_47 : decode b_Pl_init 47 = .ok (.bipush 66, 2) := by decide +kernel
theorem d_Pl_init_49 : decode b_Pl_init 49 = .ok (.newarray .int, 2) := by decide +kernel
theorem d_Pl_init_51 : decode b_Pl_init 51 = .ok (.putfield 30, 3) := by decide +kernel
theorem d_Pl_init_54 : decode b_Pl_init 54 = .ok (.aload_n 0, 1) := by decide +kernel
theorem d_Pl_init_55 : decode b_Pl_init 55 = .ok (.bipush 66, 2) := by decide +kernel
theorem d_Pl_init_57 : decode b_Pl_init 57 = .ok (.newarray .int, 2) := by decide +kernel
theorem d_Pl_init_59 : decode b_Pl_init 59 = .ok (.putfield 33, 3) := by decide +kernel
theorem d_Pl_init_62 : decode b_Pl_init 62 = .ok (.aload_n 0, 1) := by decide +kernel
theorem d_Pl_init_63 : decode b_Pl_init 63 = .ok (.bipush 66, 2) := by decide +kernel
theorem d_Pl_init_65 : decode b_Pl_init 65 = .ok (.newarray .int, 2) := by decide +kernel
theorem d_Pl_init_67 : decode b_Pl_init 67 = .ok (.putfield 36, 3) := by decide +kernel
theorem d_Pl_init_70 : decode b_Pl_init 70 = .ok (.aload_n 0, 1) := by decide +kernel
theorem d_Pl_init_71 : decode b_Pl_init 71 = .ok (.bipush 66, 2) := by decide +kernel
theorem d_Pl_init_73 : decode b_Pl_init 73 = .ok (.newarray .int, 2) := by decide +kernel
theorem d_Pl_init_75 : decode b_Pl_init 75 = .ok (.putfield 39, 3) := by decide +kernel
theorem d_Pl_init_78 : decode b_Pl_init 78 = .ok (.return_, 1) := by decide +kernel
theorem d_Fa_init_0 : decode b_Fa_init 0 = .ok (.aload_n 0, 1) := by decide +kernel
theorem d_Fa_init_1 : decode b_Fa_init 1 = .ok (.invokespecial 3, 3) := by decide +kernel
theorem d_Fa_init_4 : decode b_Fa_init 4 = .ok (.aload_n 0, 1) := by decide +kernel
theorem d_Fa_init_5 : decode b_Fa_init 5 = .ok (.sipush 500, 3) := by decide +kernel
theorem d_Fa_init_8 : decode b_Fa_init 8 = .ok (.newarray .int, 2) := by decide +kernel
theorem d_Fa_init_10 : decode b_Fa_init 10 = .ok (.putfield 11, 3) := by decide +kernel
theorem d_Fa_init_13 : decode b_Fa_init 13 = .ok (.return_, 1) := by decide +kernel
theorem d_Sh_init_0 : decode b_Sh_init 0 = .ok (.aload_n 0, 1) := by decide +kernel
theorem d_Sh_init_1 : decode b_Sh_init 1 = .ok (.invokespecial 3, 3) := by decide +kernel
theorem d_Sh_init_4 : decode b_Sh_init 4 = .ok (.aload_n 0, 1) := by decide +kernel
theorem d_Sh_init_5 : decode b_Sh_init 5 = .ok (.sipush 240, 3) := by decide +kernel
theorem d_Sh_init_8 : decode b_Sh_init 8 = .ok (.newarray .char, 2) := by decide +kernel
theorem d_Sh_init_10 : decode b_Sh_init 10 = .ok (.putfield 11, 3) := by decide +kernel
theorem d_Sh_init_13 : decode b_Sh_init 13 = .ok (.return_, 1) := by decide +kernel
theorem d_SP_sign_0 : decode b_SP_sign 0 = .ok (.aload_n 0, 1) := by decide +kernel
theorem d_SP_sign_1 : decode b_SP_sign 1 = .ok (.getfield 12, 3) := by decide +kernel
theorem d_SP_sign_4 : decode b_SP_sign 4 = .ok (.getfield 42, 3) := by decide +kernel
theorem d_SP_sign_7 : decode b_SP_sign 7 = .ok (.iload_n 1, 1) := by decide +kernel
theorem d_SP_sign_8 : decode b_SP_sign 8 = .ok (.invokevirtual 46, 3) := by decide +kernel
theorem d_SP_sign_11 : decode b_SP_sign 11 = .ok (.return_, 1) := by decide +kernel
theorem d_Te_put_0 : decode b_Te_put 0 = .ok (.iload_n 1, 1) := by decide +kernel
theorem d_Te_put_1 : decode b_Te_put 1 = .ok (.bipush 32, 2) := by decide +kernel
theorem d_Te_put_3 : decode b_Te_put 3 = .ok (.bipush 126, 2) := by decide +kernel
theorem d_Te_put_5 : decode b_Te_put 5 = .ok (.invokestatic 13, 3) := by decide +kernel
theorem d_Te_put_8 : decode b_Te_put 8 = .ok (.ifCond .eq 34, 3) := by decide +kernel
theorem d_Te_put_11 : decode b_Te_put 11 = .ok (.aload_n 0, 1) := by decide +kernel
theorem d_Te_put_12 : decode b_Te_put 12 = .ok (.getfield 19, 3) := by decide +kernel
theorem d_Te_put_15 : decode b_Te_put 15 = .ok (.sipush 600, 3) := by decide +kernel
theorem d_Te_put_18 : decode b_Te_put 18 = .ok (.if_icmp .ge 24, 3) := by decide +kernel
theorem d_Te_put_21 : decode b_Te_put 21 = .ok (.aload_n 0, 1) := by decide +kernel
theorem d_Te_put_22 : decode b_Te_put 22 = .ok (.getfield 9, 3) := by decide +kernel
theorem d_Te_put_25 : decode b_Te_put 25 = .ok (.aload_n 0, 1) := by decide +kernel
theorem d_Te_put_26 : decode b_Te_put 26 = .ok (.getfield 19, 3) := by decide +kernel
theorem d_Te_put_29 : decode b_Te_put 29 = .ok (.iload_n 1, 1) := by decide +kernel
theorem d_Te_put_30 : decode b_Te_put 30 = .ok (.i2c, 1) := by decide +kernel
theorem d_Te_put_31 : decode b_Te_put 31 = .ok (.castore, 1) := by decide +kernel
theorem d_Te_put_32 : decode b_Te_put 32 = .ok (.aload_n 0, 1) := by decide +kernel
theorem d_Te_put_33 : decode b_Te_put 33 = .ok (.dup, 1) := by decide +kernel
theorem d_Te_put_34 : decode b_Te_put 34 = .ok (.getfield 19, 3) := by decide +kernel
theorem d_Te_put_37 : decode b_Te_put 37 = .ok (.iconst 1, 1) := by decide +kernel
theorem d_Te_put_38 : decode b_Te_put 38 = .ok (.iadd, 1) := by decide +kernel
theorem d_Te_put_39 : decode b_Te_put 39 = .ok (.putfield 19, 3) := by decide +kernel
theorem d_Te_put_42 : decode b_Te_put 42 = .ok (.return_, 1) := by decide +kernel
theorem d_SP_isWithin_0 : decode b_SP_isWithin 0 = .ok (.iload_n 0, 1) := by decide +kernel
theorem d_SP_isWithin_1 : decode b_SP_isWithin 1 = .ok (.iload_n 1, 1) := by decide +kernel
theorem d_SP_isWithin_2 : decode b_SP_isWithin 2 = .ok (.if_icmp .lt 12, 3) := by decide +kernel
theorem d_SP_isWithin_5 : decode b_SP_isWithin 5 = .ok (.iload_n 0, 1) := by decide +kernel
theorem d_SP_isWithin_6 : decode b_SP_isWithin 6 = .ok (.iload_n 2, 1) := by decide +kernel
theorem d_SP_isWithin_7 : decode b_SP_isWithin 7 = .ok (.if_icmp .gt 7, 3) := by decide +kernel
theorem d_SP_isWithin_10 : decode b_SP_isWithin 10 = .ok (.iconst 1, 1) := by decide +kernel
theorem d_SP_isWithin_11 : decode b_SP_isWithin 11 = .ok (.goto 4, 3) := by decide +kernel
theorem d_SP_isWithin_14 : decode b_SP_isWithin 14 = .ok (.iconst 0, 1) := by decide +kernel
theorem d_SP_isWithin_15 : decode b_SP_isWithin 15 = .ok (.ireturn, 1) := by decide +kernel
theorem d_SP_read_0 : decode b_SP_read 0 = .ok (.aload_n 0, 1) := by decide +kernel
theorem d_SP_read_1 : decode b_SP_read 1 = .ok (.getfield 12, 3) := by decide +kernel
theorem d_SP_read_4 : decode b_SP_read 4 = .ok (.invokevirtual 52, 3) := by decide +kernel
theorem d_SP_read_7 : decode b_SP_read 7 = .ok (.istore_n 1, 1) := by decide +kernel
theorem d_SP_read_8 : decode b_SP_read 8 = .ok (.aload_n 0, 1) := by decide +kernel
theorem d_SP_read_9 : decode b_SP_read 9 = .ok (.getfield 12, 3) := by decide +kernel
theorem d_SP_read_12 : decode b_SP_read 12 = .ok (.getfield 42, 3) := by decide +kernel
theorem d_SP_read_15 : decode b_SP_read 15 = .ok (.getfield 56, 3) := by decide +kernel
theorem d_SP_read_18 : decode b_SP_read 18 = .ok (.istore_n 2, 1) := by decide +kernel
theorem d_SP_read_19 : decode b_SP_read 19 = .ok (.aload_n 0, 1) := by decide +kernel
theorem d_SP_read_20 : decode b_SP_read 20 = .ok (.getfield 12, 3) := by decide +kernel
theorem d_SP_read_23 : decode b_SP_read 23 = .ok (.getfield 42, 3) := by decide +kernel
theorem d_SP_read_26 : decode b_SP_read 26 = .ok (.iconst 0, 1) := by decide +kernel
theorem d_SP_read_27 : decode b_SP_read 27 = .ok (.putfield 56, 3) := by decide +kernel
theorem d_SP_read_30 : decode b_SP_read 30 = .ok (.aload_n 0, 1) := by decide +kernel
theorem d_SP_read_31 : decode b_SP_read 31 = .ok (.getfield 12, 3) := by decide +kernel
theorem d_SP_read_34 : decode b_SP_read 34 = .ok (.invokevirtual 60, 3) := by decide +kernel
theorem d_SP_read_37 : decode b_SP_read 37 = .ok (.ifCond .ne 13, 3) := by decide +kernel
theorem d_SP_read_40 : decode b_SP_read 40 = .ok (.iconst (-1), 1) := by decide +kernel
theorem d_SP_read_41 : decode b_SP_read 41 = .ok (.aload_n 0, 1) := by decide +kernel
theorem d_SP_read_42 : decode b_SP_read 42 = .ok (.getfield 12, 3) := by decide +kernel
theorem d_SP_read_45 : decode b_SP_read 45 = .ok (.getfield 64, 3) := by decide +kernel
theorem d_SP_read_48 : decode b_SP_read 48 = .ok (.isub, 1) := by decide +kernel
theorem d_SP_read_49 : decode b_SP_read 49 = .ok (.ireturn, 1) := by decide +kernel
theorem d_SP_read_50 : decode b_SP_read 50 = .ok (.aload_n 0, 1) := by decide +kernel
theorem d_SP_read_51 : decode b_SP_read 51 = .ok (.getfield 67, 3) := by decide +kernel
theorem d_SP_read_54 : decode b_SP_read 54 = .ok (.bipush 8, 2) := by decide +kernel
theorem d_SP_read_56 : decode b_SP_read 56 = .ok (.if_icmp .lt 7, 3) := by decide +kernel
theorem d_SP_read_59 : decode b_SP_read 59 = .ok (.iconst (-1), 1) := by decide +kernel
theorem d_SP_read_60 : decode b_SP_read 60 = .ok (.iload_n 2, 1) := by decide +kernel
theorem d_SP_read_61 : decode b_SP_read 61 = .ok (.isub, 1) := by decide +kernel
theorem d_SP_read_62 : decode b_SP_read 62 = .ok (.ireturn, 1) := by decide +kernel
theorem d_SP_read_63 : decode b_SP_read 63 = .ok (.aload_n 0, 1) := by decide +kernel
theorem d_SP_read_64 : decode b_SP_read 64 = .ok (.invokevirtual 70, 3) := by decide +kernel
theorem d_SP_read_67 : decode b_SP_read 67 = .ok (.iload_n 1, 1) := by decide +kernel
theorem d_SP_read_68 : decode b_SP_read 68 = .ok (.ireturn, 1) := by decide +kernel
theorem d_Re_readText_0 : decode b_Re_readText 0 = .ok (.aload_n 0, 1) := by decide +kernel
theorem d_Re_readText_1 : decode b_Re_readText 1 = .ok (.getfield 21, 3) := by decide +kernel
theorem d_Re_readText_4 : decode b_Re_readText 4 = .ok (.invokevirtual 29, 3) := by decide +kernel
theorem d_Re_readText_7 : decode b_Re_readText 7 = .ok (.aload_n 0, 1) := by decide +kernel
theorem d_Re_readText_8 : decode b_Re_readText 8 = .ok (.iconst 0, 1) := by decide +kernel
theorem d_Re_readText_9 : decode b_Re_readText 9 = .ok (.putfield 32, 3) := by decide +kernel
theorem d_Re_readText_12 : decode b_Re_readText 12 = .ok (.aload_n 0, 1) := by decide +kernel
theorem d_Re_readText_13 : decode b_Re_readText 13 = .ok (.iconst (-1), 1) := by decide +kernel
theorem d_Re_readText_14 : decode b_Re_readText 14 = .ok (.putfield 25, 3) := by decide +kernel
theorem d_Re_readText_17 : decode b_Re_readText 17 = .ok (.iconst 0, 1) := by decide +kernel
theorem d_Re_readText_18 : decode b_Re_readText 18 = .ok (.istore_n 1, 1) := by decide +kernel
theorem d_Re_readText_19 : decode b_Re_readText 19 = .ok (.iload_n 1, 1) := by decide +kernel
theorem d_Re_readText_20 : decode b_Re_readText 20 = .ok (.sipush 600, 3) := by decide +kernel
theorem d_Re_readText_23 : decode b_Re_readText 23 = .ok (.if_icmp .ge 34, 3) := by decide +kernel
theorem d_Re_readText_26 : decode b_Re_readText 26 = .ok (.aload_n 0, 1) := by decide +kernel
theorem d_Re_readText_27 : decode b_Re_readText 27 = .ok (.getfield 32, 3) := by decide +kernel
theorem d_Re_readText_30 : decode b_Re_readText 30 = .ok (.aload_n 0, 1) := by decide +kernel
theorem d_Re_readText_31 : decode b_Re_readText 31 = .ok (.getfield 12, 3) := by decide +kernel
theorem d_Re_readText_34 : decode b_Re_readText 34 = .ok (.getfield 35, 3) := by decide +kernel
theorem d_Re_readText_37 : decode b_Re_readText 37 = .ok (.if_icmp .ge 20, 3) := by decide +kernel
theorem d_Re_readText_40 : decode b_Re_readText 40 = .ok (.aload_n 0, 1) := by decide +kernel
theorem d_Re_readText_41 : decode b_Re_readText 41 = .ok (.invokevirtual 38, 3) := by decide +kernel
theorem d_Re_readText_44 : decode b_Re_readText 44 = .ok (.ifCond .eq 13, 3) := by decide +kernel
theorem d_Re_readText_47 : decode b_Re_readText 47 = .ok (.aload_n 0, 1) := by decide +kernel
theorem d_Re_readText_48 : decode b_Re_readText 48 = .ok (.invokevirtual 42, 3) := by decide +kernel
theorem d_Re_readText_51 : decode b_Re_readText 51 = .ok (.iinc 1 1, 3) := by decide +kernel
theorem d_Re_readText_54 : decode b_Re_readText 54 = .ok (.goto (-35), 3) := by decide +kernel
theorem d_Re_readText_57 : decode b_Re_readText 57 = .ok (.iload_n 1, 1) := by decide +kernel
theorem d_Re_readText_58 : decode b_Re_readText 58 = .ok (.ireturn, 1) := by decide +kernel
theorem d_Pl_clear_0 : decode b_Pl_clear 0 = .ok (.aload_n 0, 1) := by decide +kernel
theorem d_Pl_clear_1 : decode b_Pl_clear 1 = .ok (.getfield 11, 3) := by decide +kernel
theorem d_Pl_clear_4 : decode b_Pl_clear 4 = .ok (.iconst 0, 1) := by decide +kernel
theorem d_Pl_clear_5 : decode b_Pl_clear 5 = .ok (.invokestatic 42, 3) := by decide +kernel
theorem d_Pl_clear_8 : decode b_Pl_clear 8 = .ok (.aload_n 0, 1) := by decide +kernel
theorem d_Pl_clear_9 : decode b_Pl_clear 9 = .ok (.getfield 27, 3) := by decide +kernel
theorem d_Pl_clear_12 : decode b_Pl_clear 12 = .ok (.iconst 0, 1) := by decide +kernel
theorem d_Pl_clear_13 : decode b_Pl_clear 13 = .ok (.invokestatic 42, 3) := by decide +kernel
theorem d_Pl_clear_16 : decode b_Pl_clear 16 = .ok (.iconst 0, 1) := by decide +kernel
theorem d_Pl_clear_17 : decode b_Pl_clear 17 = .ok (.istore_n 1, 1) := by decide +kernel
theorem d_Pl_clear_18 : decode b_Pl_clear 18 = .ok (.iload_n 1, 1) := by decide +kernel
theorem d_Pl_clear_19 : decode b_Pl_clear 19 = .ok (.bipush 40, 2) := by decide +kernel
theorem d_Pl_clear_21 : decode b_Pl_clear 21 = .ok (.if_icmp .gt 23, 3) := by decide +kernel
theorem d_Pl_clear_24 : decode b_Pl_clear 24 = .ok (.aload_n 0, 1) := by decide +kernel
theorem d_Pl_clear_25 : decode b_Pl_clear 25 = .ok (.getfield 21, 3) := by decide +kernel
theorem d_Pl_clear_28 : decode b_Pl_clear 28 = .ok (.iload_n 1, 1) := by decide +kernel
theorem d_Pl_clear_29 : decode b_Pl_clear 29 = .ok (.iconst 0, 1) := by decide +kernel
theorem d_Pl_clear_30 : decode b_Pl_clear 30 = .ok (.bastore, 1) := by decide +kernel
theorem d_Pl_clear_31 : decode b_Pl_clear 31 = .ok (.aload_n 0, 1) := by decide +kernel
theorem d_Pl_clear_32 : decode b_Pl_clear 32 = .ok (.getfield 24, 3) := by decide +kernel
theorem d_Pl_clear_35 : decode b_Pl_clear 35 = .ok (.iload_n 1, 1) := by decide +kernel
theorem d_Pl_clear_36 : decode b_Pl_clear 36 = .ok (.iconst 0, 1) := by decide +kernel
theorem d_Pl_clear_37 : decode b_Pl_clear 37 = .ok (.bastore, 1) := by decide +kernel
theorem d_Pl_clear_38 : decode b_Pl_clear 38 = .ok (.iinc 1 1, 3) := by decide +kernel
theorem d_Pl_clear_41 : decode b_Pl_clear 41 = .ok (.goto (-23), 3) := by decide +kernel
theorem d_Pl_clear_44 : decode b_Pl_clear 44 = .ok (.aload_n 0, 1) := by decide +kernel
theorem d_Pl_clear_45 : decode b_Pl_clear 45 = .ok (.iconst 0, 1) := by decide +kernel
theorem d_Pl_clear_46 : decode b_Pl_clear 46 = .ok (.putfield 48, 3) := by decide +kernel
theorem d_Pl_clear_49 : decode b_Pl_clear 49 = .ok (.return_, 1) := by decide +kernel
theorem d_Ar_fill_0 : decode b_Ar_fill 0 = .ok (.iconst 0, 1) := by decide +kernel
theorem d_Ar_fill_1 : decode b_Ar_fill 1 = .ok (.istore_n 2, 1) := by decide +kernel
theorem d_Ar_fill_2 : decode b_Ar_fill 2 = .ok (.aload_n 0, 1) := by decide +kernel
theorem d_Ar_fill_3 : decode b_Ar_fill 3 = .ok (.arraylength, 1) := by decide +kernel
theorem d_Ar_fill_4 : decode b_Ar_fill 4 = .ok (.istore_n 3, 1) := by decide +kernel
theorem d_Ar_fill_5 : decode b_Ar_fill 5 = .ok (.iload_n 2, 1) := by decide +kernel
theorem d_Ar_fill_6 : decode b_Ar_fill 6 = .ok (.iload_n 3, 1) := by decide +kernel
theorem d_Ar_fill_7 : decode b_Ar_fill 7 = .ok (.if_icmp .ge 13, 3) := by decide +kernel
theorem d_Ar_fill_10 : decode b_Ar_fill 10 = .ok (.aload_n 0, 1) := by decide +kernel
theorem d_Ar_fill_11 : decode b_Ar_fill 11 = .ok (.iload_n 2, 1) := by decide +kernel
theorem d_Ar_fill_12 : decode b_Ar_fill 12 = .ok (.iload_n 1, 1) := by decide +kernel
theorem d_Ar_fill_13 : decode b_Ar_fill 13 = .ok (.iastore, 1) := by decide +kernel
theorem d_Ar_fill_14 : decode b_Ar_fill 14 = .ok (.iinc 2 1, 3) := by decide +kernel
theorem d_Ar_fill_17 : decode b_Ar_fill 17 = .ok (.goto (-12), 3) := by decide +kernel
theorem d_Ar_fill_20 : decode b_Ar_fill 20 = .ok (.return_, 1) := by decide +kernel
theorem d_Re_isFine_0 : decode b_Re_isFine 0 = .ok (.aload_n 0, 1) := by decide +kernel
theorem d_Re_isFine_1 : decode b_Re_isFine 1 = .ok (.getfield 25, 3) := by decide +kernel
theorem d_Re_isFine_4 : decode b_Re_isFine 4 = .ok (.iconst (-1), 1) := by decide +kernel
theorem d_Re_isFine_5 : decode b_Re_isFine 5 = .ok (.if_icmp .ne 7, 3) := by decide +kernel
theorem d_Re_isFine_8 : decode b_Re_isFine 8 = .ok (.iconst 1, 1) := by decide +kernel
theorem d_Re_isFine_9 : decode b_Re_isFine 9 = .ok (.goto 4, 3) := by decide +kernel
theorem d_Re_isFine_12 : decode b_Re_isFine 12 = .ok (.iconst 0, 1) := by decide +kernel
theorem d_Re_isFine_13 : decode b_Re_isFine 13 = .ok (.ireturn, 1) := by decide +kernel
theorem d_Re_readSentence_0 : decode b_Re_readSentence 0 = .ok (.aload_n 0, 1) := by decide +kernel
theorem d_Re_readSentence_1 : decode b_Re_readSentence 1 = .ok (.getfield 32, 3) := by decide +kernel
theorem d_Re_readSentence_4 : decode b_Re_readSentence 4 = .ok (.istore_n 1, 1) := by decide +kernel
theorem d_Re_readSentence_5 : decode b_Re_readSentence 5 = .ok (.aload_n 0, 1) := by decide +kernel
theorem d_Re_readSentence_6 : decode b_Re_readSentence 6 = .ok (.getfield 12, 3) := by decide +kernel
theorem d_Re_readSentence_9 : decode b_Re_readSentence 9 = .ok (.aload_n 0, 1) := by decide +kernel
theorem d_Re_readSentence_10 : decode b_Re_readSentence 10 = .ok (.getfield 32, 3) := by decide +kernel
theorem d_Re_readSentence_13 : decode b_Re_readSentence 13 = .ok (.invokevirtual 45, 3) := by decide +kernel
theorem d_Re_readSentence_16 : decode b_Re_readSentence 16 = .ok (.istore_n 2, 1) := by decide +kernel
theorem d_Re_readSentence_17 : decode b_Re_readSentence 17 = .ok (.aload_n 0, 1) := by decide +kernel
theorem d_Re_readSentence_18 : decode b_Re_readSentence 18 = .ok (.dup, 1) := by decide +kernel
theorem d_Re_readSentence_19 : decode b_Re_readSentence 19 = .ok (.getfield 32, 3) := by decide +kernel
theorem d_Re_readSentence_22 : decode b_Re_readSentence 22 = .ok (.iconst 1, 1) := by decide +kernel
theorem d_Re_readSentence_23 : decode b_Re_readSentence 23 = .ok (.iadd, 1) := by decide +kernel
theorem d_Re_readSentence_24 : decode b_Re_readSentence 24 = .ok (.putfield 32, 3) := by decide +kernel
theorem d_Re_readSentence_27 : decode b_Re_readSentence 27 = .ok (.iload_n 2, 1) := by decide +kernel
theorem d_Re_readSentence_28 : decode b_Re_readSentence 28 = .ok (.lookupswitch 59 #[(66, 43), (79, 51), (84, 36)], 36) := by decide +kernel
theorem d_Re_readSentence_64 : decode b_Re_readSentence 64 = .ok (.aload_n 0, 1) := by decide +kernel
theorem d_Re_readSentence_65 : decode b_Re_readSentence 65 = .ok (.invokevirtual 49, 3) := by decide +kernel
theorem d_Re_readSentence_68 : decode b_Re_readSentence 68 = .ok (.goto 24, 3) := by decide +kernel
theorem d_Re_readSentence_71 : decode b_Re_readSentence 71 = .ok (.aload_n 0, 1) := by decide +kernel
theorem d_Re_readSentence_72 : decode b_Re_readSentence 72 = .ok (.iload_n 1, 1) := by decide +kernel
theorem d_Re_readSentence_73 : decode b_Re_readSentence 73 = .ok (.invokevirtual 52, 3) := by decide +kernel
theorem d_Re_readSentence_76 : decode b_Re_readSentence 76 = .ok (.goto 16, 3) := by decide +kernel
theorem d_Re_readSentence_79 : decode b_Re_readSentence 79 = .ok (.aload_n 0, 1) := by decide +kernel
theorem d_Re_readSentence_80 : decode b_Re_readSentence 80 = .ok (.iload_n 1, 1) := by decide +kernel
theorem d_Re_readSentence_81 : decode b_Re_readSentence 81 = .ok (.invokevirtual 56, 3) := by decide +kernel
theorem d_Re_readSentence_84 : decode b_Re_readSentence 84 = .ok (.goto 8, 3) := by decide +kernel
theorem d_Re_readSentence_87 : decode b_Re_readSentence 87 = .ok (.aload_n 0, 1) := by decide +kernel
theorem d_Re_readSentence_88 : decode b_Re_readSentence 88 = .ok (.iload_n 1, 1) := by decide +kernel
theorem d_Re_readSentence_89 : decode b_Re_readSentence 89 = .ok (.putfield 25, 3) := by decide +kernel
theorem d_Re_readSentence_92 : decode b_Re_readSentence 92 = .ok (.return_, 1) := by decide +kernel
theorem d_Te_signAt_0 : decode b_Te_signAt 0 = .ok (.iload_n 1, 1) := by decide +kernel
theorem d_Te_signAt_1 : decode b_Te_signAt 1 = .ok (.ifCond .lt 20, 3) := by decide +kernel
theorem d_Te_signAt_4 : decode b_Te_signAt 4 = .ok (.iload_n 1, 1) := by decide +kernel
theorem d_Te_signAt_5 : decode b_Te_signAt 5 = .ok (.aload_n 0, 1) := by decide +kernel
theorem d_Te_signAt_6 : decode b_Te_signAt 6 = .ok (.getfield 19, 3) := by decide +kernel
theorem d_Te_signAt_9 : decode b_Te_signAt 9 = .ok (.if_icmp .ge 12, 3) := by decide +kernel
theorem d_Te_signAt_12 : decode b_Te_signAt 12 = .ok (.aload_n 0, 1) := by decide +kernel
theorem d_Te_signAt_13 : decode b_Te_signAt 13 = .ok (.getfield 9, 3) := by decide +kernel
theorem d_Te_signAt_16 : decode b_Te_signAt 16 = .ok (.iload_n 1, 1) := by decide +kernel
theorem d_Te_signAt_17 : decode b_Te_signAt 17 = .ok (.caload, 1) := by decide +kernel
theorem d_Te_signAt_18 : decode b_Te_signAt 18 = .ok (.goto 4, 3) := by decide +kernel
theorem d_Te_signAt_21 : decode b_Te_signAt 21 = .ok (.iconst 0, 1) := by decide +kernel
theorem d_Te_signAt_22 : decode b_Te_signAt 22 = .ok (.ireturn, 1) := by decide +kernel
theorem d_Re_readRange_0 : decode b_Re_readRange 0 = .ok (.aload_n 0, 1) := by decide +kernel
theorem d_Re_readRange_1 : decode b_Re_readRange 1 = .ok (.iconst 1, 1) := by decide +kernel
theorem d_Re_readRange_2 : decode b_Re_readRange 2 = .ok (.bipush 40, 2) := by decide +kernel
theorem d_Re_readRange_4 : decode b_Re_readRange 4 = .ok (.invokevirtual 59, 3) := by decide +kernel
theorem d_Re_readRange_7 : decode b_Re_readRange 7 = .ok (.istore_n 1, 1) := by decide +kernel
theorem d_Re_readRange_8 : decode b_Re_readRange 8 = .ok (.aload_n 0, 1) := by decide +kernel
theorem d_Re_readRange_9 : decode b_Re_readRange 9 = .ok (.bipush 44, 2) := by decide +kernel
theorem d_Re_readRange_11 : decode b_Re_readRange 11 = .ok (.invokevirtual 63, 3) := by decide +kernel
theorem d_Re_readRange_14 : decode b_Re_readRange 14 = .ok (.aload_n 0, 1) := by decide +kernel
theorem d_Re_readRange_15 : decode b_Re_readRange 15 = .ok (.iconst 0, 1) := by decide +kernel
theorem d_Re_readRange_16 : decode b_Re_readRange 16 = .ok (.sipush 9999, 3) := by decide +kernel
theorem d_Re_readRange_19 : decode b_Re_readRange 19 = .ok (.invokevirtual 59, 3) := by decide +kernel
theorem d_Re_readRange_22 : decode b_Re_readRange 22 = .ok (.istore_n 2, 1) := by decide +kernel
theorem d_Re_readRange_23 : decode b_Re_readRange 23 = .ok (.aload_n 0, 1) := by decide +kernel
theorem d_Re_readRange_24 : decode b_Re_readRange 24 = .ok (.bipush 45, 2) := by decide +kernel
theorem d_Re_readRange_26 : decode b_Re_readRange 26 = .ok (.invokevirtual 63, 3) := by decide +kernel
theorem d_Re_readRange_29 : decode b_Re_readRange 29 = .ok (.aload_n 0, 1) := by decide +kernel
theorem d_Re_readRange_30 : decode b_Re_readRange 30 = .ok (.iload_n 2, 1) := by decide +kernel
theorem d_Re_readRange_31 : decode b_Re_readRange 31 = .ok (.sipush 9999, 3) := by decide +kernel
theorem d_Re_readRange_34 : decode b_Re_readRange 34 = .ok (.invokevirtual 59, 3) := by decide +kernel
theorem d_Re_readRange_37 : decode b_Re_readRange 37 = .ok (.istore_n 3, 1) := by decide +kernel
theorem d_Re_readRange_38 : decode b_Re_readRange 38 = .ok (.aload_n 0, 1) := by decide +kernel
theorem d_Re_readRange_39 : decode b_Re_readRange 39 = .ok (.bipush 44, 2) := by decide +kernel
theorem d_Re_readRange_41 : decode b_Re_readRange 41 = .ok (.invokevirtual 63, 3) := by decide +kernel
theorem d_Re_readRange_44 : decode b_Re_readRange 44 = .ok (.aload_n 0, 1) := by decide +kernel
theorem d_Re_readRange_45 : decode b_Re_readRange 45 = .ok (.iconst 0, 1) := by decide +kernel
theorem d_Re_readRange_46 : decode b_Re_readRange 46 = .ok (.bipush 9, 2) := by decide +kernel
theorem d_Re_readRange_48 : decode b_Re_readRange 48 = .ok (.invokevirtual 59, 3) := by decide +kernel
theorem d_Re_readRange_51 : decode b_Re_readRange 51 = .ok (.istore 4, 2) := by decide +kernel
theorem d_Re_readRange_53 : decode b_Re_readRange 53 = .ok (.aload_n 0, 1) := by decide +kernel
theorem d_Re_readRange_54 : decode b_Re_readRange 54 = .ok (.bipush 59, 2) := by decide +kernel
theorem d_Re_readRange_56 : decode b_Re_readRange 56 = .ok (.invokevirtual 63, 3) := by decide +kernel
theorem d_Re_readRange_59 : decode b_Re_readRange 59 = .ok (.aload_n 0, 1) := by decide +kernel
theorem d_Re_readRange_60 : decode b_Re_readRange 60 = .ok (.invokevirtual 38, 3) := by decide +kernel
theorem d_Re_readRange_63 : decode b_Re_readRange 63 = .ok (.ifCond .eq 15, 3) := by decide +kernel
theorem d_Re_readRange_66 : decode b_Re_readRange 66 = .ok (.aload_n 0, 1) := by decide +kernel
theorem d_Re_readRange_67 : decode b_Re_readRange 67 = .ok (.getfield 21, 3) := by decide +kernel
theorem d_Re_readRange_70 : decode b_Re_readRange 70 = .ok (.iload_n 1, 1) := by decide +kernel
theorem d_Re_readRange_71 : decode b_Re_readRange 71 = .ok (.iload_n 2, 1) := by decide +kernel
theorem d_Re_readRange_72 : decode b_Re_readRange 72 = .ok (.iload_n 3, 1) := by decide +kernel
theorem d_Re_readRange_73 : decode b_Re_readRange 73 = .ok (.iload 4, 2) := by decide +kernel
theorem d_Re_readRange_75 : decode b_Re_readRange 75 = .ok (.invokevirtual 67, 3) := by decide +kernel
theorem d_Re_readRange_78 : decode b_Re_readRange 78 = .ok (.return_, 1) := by decide +kernel
theorem d_Re_readNumber_0 : decode b_Re_readNumber 0 = .ok (.aload_n 0, 1) := by decide +kernel
theorem d_Re_readNumber_1 : decode b_Re_readNumber 1 = .ok (.invokevirtual 38, 3) := by decide +kernel
theorem d_Re_readNumber_4 : decode b_Re_readNumber 4 = .ok (.ifCond .ne 5, 3) := by decide +kernel
theorem d_Re_readNumber_7 : decode b_Re_readNumber 7 = .ok (.iload_n 1, 1) := by decide +kernel
theorem d_Re_readNumber_8 : decode b_Re_readNumber 8 = .ok (.ireturn, 1) := by decide +kernel
theorem d_Re_readNumber_9 : decode b_Re_readNumber 9 = .ok (.aload_n 0, 1) := by decide +kernel
theorem d_Re_readNumber_10 : decode b_Re_readNumber 10 = .ok (.getfield 32, 3) := by decide +kernel
theorem d_Re_readNumber_13 : decode b_Re_readNumber 13 = .ok (.istore_n 3, 1) := by decide +kernel
theorem d_Re_readNumber_14 : decode b_Re_readNumber 14 = .ok (.iconst 0, 1) := by decide +kernel
theorem d_Re_readNumber_15 : decode b_Re_readNumber 15 = .ok (.istore 4, 2) := by decide +kernel
theorem d_Re_readNumber_17 : decode b_Re_readNumber 17 = .ok (.iconst 0, 1) := by decide +kernel
theorem d_Re_readNumber_18 : decode b_Re_readNumber 18 = .ok (.istore 5, 2) := by decide +kernel
theorem d_Re_readNumber_20 : decode b_Re_readNumber 20 = .ok (.iload 5, 2) := by decide +kernel
theorem d_Re_readNumber_22 : decode b_Re_readNumber 22 = .ok (.iconst 4, 1) := by decide +kernel
theorem d_Re_readNumber_23 : decode b_Re_readNumber 23 = .ok (.if_icmp .ge 58, 3) := by decide +kernel
theorem d_Re_readNumber_26 : decode b_Re_readNumber 26 = .ok (.aload_n 0, 1) := by decide +kernel
theorem d_Re_readNumber_27 : decode b_Re_readNumber 27 = .ok (.getfield 12, 3) := by decide +kernel
theorem d_Re_readNumber_30 : decode b_Re_readNumber 30 = .ok (.aload_n 0, 1) := by decide +kernel
theorem d_Re_readNumber_31 : decode b_Re_readNumber 31 = .ok (.getfield 32, 3) := by decide +kernel
theorem d_Re_readNumber_34 : decode b_Re_readNumber 34 = .ok (.invokevirtual 45, 3) := by decide +kernel
theorem d_Re_readNumber_37 : decode b_Re_readNumber 37 = .ok (.invokestatic 86, 3) := by decide +kernel
theorem d_Re_readNumber_40 : decode b_Re_readNumber 40 = .ok (.ifCond .eq 41, 3) := by decide +kernel
theorem d_Re_readNumber_43 : decode b_Re_readNumber 43 = .ok (.iload 4, 2) := by decide +kernel
theorem d_Re_readNumber_45 : decode b_Re_readNumber 45 = .ok (.bipush 10, 2) := by decide +kernel
theorem d_Re_readNumber_47 : decode b_Re_readNumber 47 = .ok (.imul, 1) := by decide +kernel
theorem d_Re_readNumber_48 : decode b_Re_readNumber 48 = .ok (.aload_n 0, 1) := by decide +kernel
theorem d_Re_readNumber_49 : decode b_Re_readNumber 49 = .ok (.getfield 12, 3) := by decide +kernel
theorem d_Re_readNumber_52 : decode b_Re_readNumber 52 = .ok (.aload_n 0, 1) := by decide +kernel
theorem d_Re_readNumber_53 : decode b_Re_readNumber 53 = .ok (.getfield 32, 3) := by decide +kernel
theorem d_Re_readNumber_56 : decode b_Re_readNumber 56 = .ok (.invokevirtual 45, 3) := by decide +kernel
theorem d_Re_readNumber_59 : decode b_Re_readNumber 59 = .ok (.iadd, 1) := by decide +kernel
theorem d_Re_readNumber_60 : decode b_Re_readNumber 60 = .ok (.bipush 48, 2) := by decide +kernel
theorem d_Re_readNumber_62 : decode b_Re_readNumber 62 = .ok (.isub, 1) := by decide +kernel
theorem d_Re_readNumber_63 : decode b_Re_readNumber 63 = .ok (.istore 4, 2) := by decide +kernel
theorem d_Re_readNumber_65 : decode b_Re_readNumber 65 = .ok (.aload_n 0, 1) := by decide +kernel
theorem d_Re_readNumber_66 : decode b_Re_readNumber 66 = .ok (.dup, 1) := by decide +kernel
theorem d_Re_readNumber_67 : decode b_Re_readNumber 67 = .ok (.getfield 32, 3) := by decide +kernel
theorem d_Re_readNumber_70 : decode b_Re_readNumber 70 = .ok (.iconst 1, 1) := by decide +kernel
theorem d_Re_readNumber_71 : decode b_Re_readNumber 71 = .ok (.iadd, 1) := by decide +kernel
theorem d_Re_readNumber_72 : decode b_Re_readNumber 72 = .ok (.putfield 32, 3) := by decide +kernel
theorem d_Re_readNumber_75 : decode b_Re_readNumber 75 = .ok (.iinc 5 1, 3) := by decide +kernel
theorem d_Re_readNumber_78 : decode b_Re_readNumber 78 = .ok (.goto (-58), 3) := by decide +kernel
theorem d_Re_readNumber_81 : decode b_Re_readNumber 81 = .ok (.aload_n 0, 1) := by decide +kernel
theorem d_Re_readNumber_82 : decode b_Re_readNumber 82 = .ok (.getfield 32, 3) := by decide +kernel
theorem d_Re_readNumber_85 : decode b_Re_readNumber 85 = .ok (.iload_n 3, 1) := by decide +kernel
theorem d_Re_readNumber_86 : decode b_Re_readNumber 86 = .ok (.if_icmp .eq 13, 3) := by decide +kernel
theorem d_Re_readNumber_89 : decode b_Re_readNumber 89 = .ok (.iload 4, 2) := by decide +kernel
theorem d_Re_readNumber_91 : decode b_Re_readNumber 91 = .ok (.iload_n 1, 1) := by decide +kernel
theorem d_Re_readNumber_92 : decode b_Re_readNumber 92 = .ok (.iload_n 2, 1) := by decide +kernel
theorem d_Re_readNumber_93 : decode b_Re_readNumber 93 = .ok (.invokestatic 90, 3) := by decide +kernel
theorem d_Re_readNumber_96 : decode b_Re_readNumber 96 = .ok (.ifCond .ne 10, 3) := by decide +kernel
theorem d_Re_readNumber_99 : decode b_Re_readNumber 99 = .ok (.aload_n 0, 1) := by decide +kernel
theorem d_Re_readNumber_100 : decode b_Re_readNumber 100 = .ok (.iload_n 3, 1) := by decide +kernel
theorem d_Re_readNumber_101 : decode b_Re_readNumber 101 = .ok (.putfield 25, 3) := by decide +kernel
theorem d_Re_readNumber_104 : decode b_Re_readNumber 104 = .ok (.iload_n 1, 1) := by decide +kernel
theorem d_Re_readNumber_105 : decode b_Re_readNumber 105 = .ok (.ireturn, 1) := by decide +kernel
theorem d_Re_readNumber_106 : decode b_Re_readNumber 106 = .ok (.iload 4, 2) := by decide +kernel
theorem d_Re_readNumber_108 : decode b_Re_readNumber 108 = .ok (.ireturn, 1) := by decide +kernel
theorem d_Re_isFigure_0 : decode b_Re_isFigure 0 = .ok (.iload_n 0, 1) := by decide +kernel
theorem d_Re_isFigure_1 : decode b_Re_isFigure 1 = .ok (.bipush 48, 2) := by decide +kernel
theorem d_Re_isFigure_3 : decode b_Re_isFigure 3 = .ok (.bipush 57, 2) := by decide +kernel
theorem d_Re_isFigure_5 : decode b_Re_isFigure 5 = .ok (.invokestatic 90, 3) := by decide +kernel
theorem d_Re_isFigure_8 : decode b_Re_isFigure 8 = .ok (.ireturn, 1) := by decide +kernel
theorem d_Re_readSign_0 : decode b_Re_readSign 0 = .ok (.aload_n 0, 1) := by decide +kernel
theorem d_Re_readSign_1 : decode b_Re_readSign 1 = .ok (.invokevirtual 38, 3) := by decide +kernel
theorem d_Re_readSign_4 : decode b_Re_readSign 4 = .ok (.ifCond .ne 4, 3) := by decide +kernel
theorem d_Re_readSign_7 : decode b_Re_readSign 7 = .ok (.return_, 1) := by decide +kernel
theorem d_Re_readSign_8 : decode b_Re_readSign 8 = .ok (.aload_n 0, 1) := by decide +kernel
theorem d_Re_readSign_9 : decode b_Re_readSign 9 = .ok (.getfield 12, 3) := by decide +kernel
theorem d_Re_readSign_12 : decode b_Re_readSign 12 = .ok (.aload_n 0, 1) := by decide +kernel
theorem d_Re_readSign_13 : decode b_Re_readSign 13 = .ok (.getfield 32, 3) := by decide +kernel
theorem d_Re_readSign_16 : decode b_Re_readSign 16 = .ok (.invokevirtual 45, 3) := by decide +kernel
theorem d_Re_readSign_19 : decode b_Re_readSign 19 = .ok (.iload_n 1, 1) := by decide +kernel
theorem d_Re_readSign_20 : decode b_Re_readSign 20 = .ok (.if_icmp .ne 16, 3) := by decide +kernel
theorem d_Re_readSign_23 : decode b_Re_readSign 23 = .ok (.aload_n 0, 1) := by decide +kernel
theorem d_Re_readSign_24 : decode b_Re_readSign 24 = .ok (.dup, 1) := by decide +kernel
theorem d_Re_readSign_25 : decode b_Re_readSign 25 = .ok (.getfield 32, 3) := by decide +kernel
theorem d_Re_readSign_28 : decode b_Re_readSign 28 = .ok (.iconst 1, 1) := by decide +kernel
theorem d_Re_readSign_29 : decode b_Re_readSign 29 = .ok (.iadd, 1) := by decide +kernel
theorem d_Re_readSign_30 : decode b_Re_readSign 30 = .ok (.putfield 32, 3) := by decide +kernel
theorem d_Re_readSign_33 : decode b_Re_readSign 33 = .ok (.goto 11, 3) := by decide +kernel
theorem d_Re_readSign_36 : decode b_Re_readSign 36 = .ok (.aload_n 0, 1) := by decide +kernel
theorem d_Re_readSign_37 : decode b_Re_readSign 37 = .ok (.aload_n 0, 1) := by decide +kernel
theorem d_Re_readSign_38 : decode b_Re_readSign 38 = .ok (.getfield 32, 3) := by decide +kernel
theorem d_Re_readSign_41 : decode b_Re_readSign 41 = .ok (.putfield 25, 3) := by decide +kernel
theorem d_Re_readSign_44 : decode b_Re_readSign 44 = .ok (.return_, 1) := by decide +kernel
theorem d_Pl_addRange_0 : decode b_Pl_addRange 0 = .ok (.aload_n 0, 1) := by decide +kernel
theorem d_Pl_addRange_1 : decode b_Pl_addRange 1 = .ok (.getfield 48, 3) := by decide +kernel
theorem d_Pl_addRange_4 : decode b_Pl_addRange 4 = .ok (.bipush 66, 2) := by decide +kernel
theorem d_Pl_addRange_6 : decode b_Pl_addRange 6 = .ok (.if_icmp .lt 4, 3) := by decide +kernel
theorem d_Pl_addRange_9 : decode b_Pl_addRange 9 = .ok (.return_, 1) := by decide +kernel
theorem d_Pl_addRange_10 : decode b_Pl_addRange 10 = .ok (.aload_n 0, 1) := by decide +kernel
theorem d_Pl_addRange_11 : decode b_Pl_addRange 11 = .ok (.getfield 30, 3) := by decide +kernel
theorem d_Pl_addRange_14 : decode b_Pl_addRange 14 = .ok (.aload_n 0, 1) := by decide +kernel
theorem d_Pl_addRange_15 : decode b_Pl_addRange 15 = .ok (.getfield 48, 3) := by decide +kernel
theorem d_Pl_addRange_18 : decode b_Pl_addRange 18 = .ok (.iload_n 1, 1) := by decide +kernel
theorem d_Pl_addRange_19 : decode b_Pl_addRange 19 = .ok (.iastore, 1) := by decide +kernel
theorem d_Pl_addRange_20 : decode b_Pl_addRange 20 = .ok (.aload_n 0, 1) := by decide +kernel
theorem d_Pl_addRange_21 : decode b_Pl_addRange 21 = .ok (.getfield 33, 3) := by decide +kernel
theorem d_Pl_addRange_24 : decode b_Pl_addRange 24 = .ok (.aload_n 0, 1) := by decide +kernel
theorem d_Pl_addRange_25 : decode b_Pl_addRange 25 = .ok (.getfield 48, 3) := by decide +kernel
theorem d_Pl_addRange_28 : decode b_Pl_addRange 28 = .ok (.iload_n 2, 1) := by decide +kernel
theorem d_Pl_addRange_29 : decode b_Pl_addRange 29 = .ok (.iastore, 1) := by decide +kernel
theorem d_Pl_addRange_30 : decode b_Pl_addRange 30 = .ok (.aload_n 0, 1) := by decide +kernel
theorem d_Pl_addRange_31 : decode b_Pl_addRange 31 = .ok (.getfield 36, 3) := by decide +kernel
theorem d_Pl_addRange_34 : decode b_Pl_addRange 34 = .ok (.aload_n 0, 1) := by decide +kernel
theorem d_Pl_addRange_35 : decode b_Pl_addRange 35 = .ok (.getfield 48, 3) := by decide +kernel
theorem d_Pl_addRange_38 : decode b_Pl_addRange 38 = .ok (.iload_n 3, 1) := by decide +kernel
theorem d_Pl_addRange_39 : decode b_Pl_addRange 39 = .ok (.iastore, 1) := by decide +kernel
theorem d_Pl_addRange_40 : decode b_Pl_addRange 40 = .ok (.aload_n 0, 1) := by decide +kernel
theorem d_Pl_addRange_41 : decode b_Pl_addRange 41 = .ok (.getfield 39, 3) := by decide +kernel
theorem d_Pl_addRange_44 : decode b_Pl_addRange 44 = .ok (.aload_n 0, 1) := by decide +kernel
theorem d_Pl_addRange_45 : decode b_Pl_addRange 45 = .ok (.getfield 48, 3) := by decide +kernel
theorem d_Pl_addRange_48 : decode b_Pl_addRange 48 = .ok (.iload 4, 2) := by decide +kernel
theorem d_Pl_addRange_50 : decode b_Pl_addRange 50 = .ok (.iastore, 1) := by decide +kernel
theorem d_Pl_addRange_51 : decode b_Pl_addRange 51 = .ok (.aload_n 0, 1) := by decide +kernel
theorem d_Pl_addRange_52 : decode b_Pl_addRange 52 = .ok (.dup, 1) := by decide +kernel
theorem d_Pl_addRange_53 : decode b_Pl_addRange 53 = .ok (.getfield 48, 3) := by decide +kernel
theorem d_Pl_addRange_56 : decode b_Pl_addRange 56 = .ok (.iconst 1, 1) := by decide +kernel
theorem d_Pl_addRange_57 : decode b_Pl_addRange 57 = .ok (.iadd, 1) := by decide +kernel
theorem d_Pl_addRange_58 : decode b_Pl_addRange 58 = .ok (.putfield 48, 3) := by decide +kernel
theorem d_Pl_addRange_61 : decode b_Pl_addRange 61 = .ok (.aload_n 0, 1) := by decide +kernel
theorem d_Pl_addRange_62 : decode b_Pl_addRange 62 = .ok (.getfield 21, 3) := by decide +kernel
theorem d_Pl_addRange_65 : decode b_Pl_addRange 65 = .ok (.iload_n 1, 1) := by decide +kernel
theorem d_Pl_addRange_66 : decode b_Pl_addRange 66 = .ok (.iconst 1, 1) := by decide +kernel
theorem d_Pl_addRange_67 : decode b_Pl_addRange 67 = .ok (.bastore, 1) := by decide +kernel
theorem d_Pl_addRange_68 : decode b_Pl_addRange 68 = .ok (.return_, 1) := by decide +kernel
theorem d_Re_readBin_0 : decode b_Re_readBin 0 = .ok (.aload_n 0, 1) := by decide +kernel
theorem d_Re_readBin_1 : decode b_Re_readBin 1 = .ok (.iconst 1, 1) := by decide +kernel
theorem d_Re_readBin_2 : decode b_Re_readBin 2 = .ok (.bipush 40, 2) := by decide +kernel
theorem d_Re_readBin_4 : decode b_Re_readBin 4 = .ok (.invokevirtual 59, 3) := by decide +kernel
theorem d_Re_readBin_7 : decode b_Re_readBin 7 = .ok (.istore_n 2, 1) := by decide +kernel
theorem d_Re_readBin_8 : decode b_Re_readBin 8 = .ok (.aload_n 0, 1) := by decide +kernel
theorem d_Re_readBin_9 : decode b_Re_readBin 9 = .ok (.bipush 44, 2) := by decide +kernel
theorem d_Re_readBin_11 : decode b_Re_readBin 11 = .ok (.invokevirtual 63, 3) := by decide +kernel
theorem d_Re_readBin_14 : decode b_Re_readBin 14 = .ok (.aload_n 0, 1) := by decide +kernel
theorem d_Re_readBin_15 : decode b_Re_readBin 15 = .ok (.iconst 0, 1) := by decide +kernel
theorem d_Re_readBin_16 : decode b_Re_readBin 16 = .ok (.iconst 3, 1) := by decide +kernel
theorem d_Re_readBin_17 : decode b_Re_readBin 17 = .ok (.invokevirtual 59, 3) := by decide +kernel
theorem d_Re_readBin_20 : decode b_Re_readBin 20 = .ok (.istore_n 3, 1) := by decide +kernel
theorem d_Re_readBin_21 : decode b_Re_readBin 21 = .ok (.aload_n 0, 1) := by decide +kernel
theorem d_Re_readBin_22 : decode b_Re_readBin 22 = .ok (.bipush 44, 2) := by decide +kernel
theorem d_Re_readBin_24 : decode b_Re_readBin 24 = .ok (.invokevirtual 63, 3) := by decide +kernel
theorem d_Re_readBin_27 : decode b_Re_readBin 27 = .ok (.aload_n 0, 1) := by decide +kernel
theorem d_Re_readBin_28 : decode b_Re_readBin 28 = .ok (.iconst 0, 1) := by decide +kernel
theorem d_Re_readBin_29 : decode b_Re_readBin 29 = .ok (.iconst 2, 1) := by decide +kernel
theorem d_Re_readBin_30 : decode b_Re_readBin 30 = .ok (.invokevirtual 59, 3) := by decide +kernel
theorem d_Re_readBin_33 : decode b_Re_readBin 33 = .ok (.istore 4, 2) := by decide +kernel
theorem d_Re_readBin_35 : decode b_Re_readBin 35 = .ok (.aload_n 0, 1) := by decide +kernel
theorem d_Re_readBin_36 : decode b_Re_readBin 36 = .ok (.bipush 44, 2) := by decide +kernel
theorem d_Re_readBin_38 : decode b_Re_readBin 38 = .ok (.invokevirtual 63, 3) := by decide +kernel
theorem d_Re_readBin_41 : decode b_Re_readBin 41 = .ok (.aload_n 0, 1) := by decide +kernel
theorem d_Re_readBin_42 : decode b_Re_readBin 42 = .ok (.iconst 1, 1) := by decide +kernel
theorem d_Re_readBin_43 : decode b_Re_readBin 43 = .ok (.bipush 60, 2) := by decide +kernel
theorem d_Re_readBin_45 : decode b_Re_readBin 45 = .ok (.invokevirtual 59, 3) := by decide +kernel
theorem d_Re_readBin_48 : decode b_Re_readBin 48 = .ok (.istore 5, 2) := by decide +kernel
theorem d_Re_readBin_50 : decode b_Re_readBin 50 = .ok (.aload_n 0, 1) := by decide +kernel
theorem d_Re_readBin_51 : decode b_Re_readBin 51 = .ok (.invokevirtual 71, 3) := by decide +kernel
theorem d_Re_readBin_54 : decode b_Re_readBin 54 = .ok (.istore 6, 2) := by decide +kernel
theorem d_Re_readBin_56 : decode b_Re_readBin 56 = .ok (.aload_n 0, 1) := by decide +kernel
theorem d_Re_readBin_57 : decode b_Re_readBin 57 = .ok (.bipush 59, 2) := by decide +kernel
theorem d_Re_readBin_59 : decode b_Re_readBin 59 = .ok (.invokevirtual 63, 3) := by decide +kernel
theorem d_Re_readBin_62 : decode b_Re_readBin 62 = .ok (.aload_n 0, 1) := by decide +kernel
theorem d_Re_readBin_63 : decode b_Re_readBin 63 = .ok (.invokevirtual 38, 3) := by decide +kernel
theorem d_Re_readBin_66 : decode b_Re_readBin 66 = .ok (.ifCond .eq 29, 3) := by decide +kernel
theorem d_Re_readBin_69 : decode b_Re_readBin 69 = .ok (.aload_n 0, 1) := by decide +kernel
theorem d_Re_readBin_70 : decode b_Re_readBin 70 = .ok (.getfield 21, 3) := by decide +kernel
theorem d_Re_readBin_73 : decode b_Re_readBin 73 = .ok (.iload_n 2, 1) := by decide +kernel
theorem d_Re_readBin_74 : decode b_Re_readBin 74 = .ok (.iload_n 3, 1) := by decide +kernel
theorem d_Re_readBin_75 : decode b_Re_readBin 75 = .ok (.iload 4, 2) := by decide +kernel
theorem d_Re_readBin_77 : decode b_Re_readBin 77 = .ok (.invokestatic 74, 3) := by decide +kernel
theorem d_Re_readBin_80 : decode b_Re_readBin 80 = .ok (.iload 5, 2) := by decide +kernel
theorem d_Re_readBin_82 : decode b_Re_readBin 82 = .ok (.iload 6, 2) := by decide +kernel
theorem d_Re_readBin_84 : decode b_Re_readBin 84 = .ok (.invokevirtual 78, 3) := by decide +kernel
theorem d_Re_readBin_87 : decode b_Re_readBin 87 = .ok (.ifCond .ne 8, 3) := by decide +kernel
theorem d_Re_readBin_90 : decode b_Re_readBin 90 = .ok (.aload_n 0, 1) := by decide +kernel
theorem d_Re_readBin_91 : decode b_Re_readBin 91 = .ok (.iload_n 1, 1) := by decide +kernel
theorem d_Re_readBin_92 : decode b_Re_readBin 92 = .ok (.putfield 25, 3) := by decide +kernel
theorem d_Re_readBin_95 : decode b_Re_readBin 95 = .ok (.return_, 1) := by decide +kernel
theorem d_Re_readPlus_0 : decode b_Re_readPlus 0 = .ok (.aload_n 0, 1) := by decide +kernel
theorem d_Re_readPlus_1 : decode b_Re_readPlus 1 = .ok (.invokevirtual 38, 3) := by decide +kernel
theorem d_Re_readPlus_4 : decode b_Re_readPlus 4 = .ok (.ifCond .eq 19, 3) := by decide +kernel
theorem d_Re_readPlus_7 : decode b_Re_readPlus 7 = .ok (.aload_n 0, 1) := by decide +kernel
theorem d_Re_readPlus_8 : decode b_Re_readPlus 8 = .ok (.getfield 12, 3) := by decide +kernel
theorem d_Re_readPlus_11 : decode b_Re_readPlus 11 = .ok (.aload_n 0, 1) := by decide +kernel
theorem d_Re_readPlus_12 : decode b_Re_readPlus 12 = .ok (.getfield 32, 3) := by decide +kernel
theorem d_Re_readPlus_15 : decode b_Re_readPlus 15 = .ok (.invokevirtual 45, 3) := by decide +kernel
theorem d_Re_readPlus_18 : decode b_Re_readPlus 18 = .ok (.bipush 43, 2) := by decide +kernel
theorem d_Re_readPlus_20 : decode b_Re_readPlus 20 = .ok (.if_icmp .eq 5, 3) := by decide +kernel
theorem d_Re_readPlus_23 : decode b_Re_readPlus 23 = .ok (.iconst 0, 1) := by decide +kernel
theorem d_Re_readPlus_24 : decode b_Re_readPlus 24 = .ok (.ireturn, 1) := by decide +kernel
theorem d_Re_readPlus_25 : decode b_Re_readPlus 25 = .ok (.aload_n 0, 1) := by decide +kernel
theorem d_Re_readPlus_26 : decode b_Re_readPlus 26 = .ok (.dup, 1) := by decide +kernel
theorem d_Re_readPlus_27 : decode b_Re_readPlus 27 = .ok (.getfield 32, 3) := by decide +kernel
theorem d_Re_readPlus_30 : decode b_Re_readPlus 30 = .ok (.iconst 1, 1) := by decide +kernel
theorem d_Re_readPlus_31 : decode b_Re_readPlus 31 = .ok (.iadd, 1) := by decide +kernel
theorem d_Re_readPlus_32 : decode b_Re_readPlus 32 = .ok (.putfield 32, 3) := by decide +kernel
theorem d_Re_readPlus_35 : decode b_Re_readPlus 35 = .ok (.iconst 1, 1) := by decide +kernel
theorem d_Re_readPlus_36 : decode b_Re_readPlus 36 = .ok (.ireturn, 1) := by decide +kernel
theorem d_SP_slot_0 : decode b_SP_slot 0 = .ok (.iload_n 0, 1) := by decide +kernel
theorem d_SP_slot_1 : decode b_SP_slot 1 = .ok (.iconst 1, 1) := by decide +kernel
theorem d_SP_slot_2 : decode b_SP_slot 2 = .ok (.isub, 1) := by decide +kernel
theorem d_SP_slot_3 : decode b_SP_slot 3 = .ok (.iconst 3, 1) := by decide +kernel
theorem d_SP_slot_4 : decode b_SP_slot 4 = .ok (.imul, 1) := by decide +kernel
theorem d_SP_slot_5 : decode b_SP_slot 5 = .ok (.iload_n 2, 1) := by decide +kernel
theorem d_SP_slot_6 : decode b_SP_slot 6 = .ok (.iadd, 1) := by decide +kernel
theorem d_SP_slot_7 : decode b_SP_slot 7 = .ok (.iconst 4, 1) := by decide +kernel
theorem d_SP_slot_8 : decode b_SP_slot 8 = .ok (.imul, 1) := by decide +kernel
theorem d_SP_slot_9 : decode b_SP_slot 9 = .ok (.iload_n 1, 1) := by decide +kernel
theorem d_SP_slot_10 : decode b_SP_slot 10 = .ok (.iadd, 1) := by decide +kernel
theorem d_SP_slot_11 : decode b_SP_slot 11 = .ok (.ireturn, 1) := by decide +kernel
theorem d_Pl_addBin_0 : decode b_Pl_addBin 0 = .ok (.aload_n 0, 1) := by decide +kernel
theorem d_Pl_addBin_1 : decode b_Pl_addBin 1 = .ok (.getfield 11, 3) := by decide +kernel
theorem d_Pl_addBin_4 : decode b_Pl_addBin 4 = .ok (.iload_n 1, 1) := by decide +kernel
theorem d_Pl_addBin_5 : decode b_Pl_addBin 5 = .ok (.iaload, 1) := by decide +kernel
theorem d_Pl_addBin_6 : decode b_Pl_addBin 6 = .ok (.ifCond .eq 5, 3) := by decide +kernel
theorem d_Pl_addBin_9 : decode b_Pl_addBin 9 = .ok (.iconst 0, 1) := by decide +kernel
theorem d_Pl_addBin_10 : decode b_Pl_addBin 10 = .ok (.ireturn, 1) := by decide +kernel
theorem d_Pl_addBin_11 : decode b_Pl_addBin 11 = .ok (.aload_n 0, 1) := by decide +kernel
theorem d_Pl_addBin_12 : decode b_Pl_addBin 12 = .ok (.getfield 11, 3) := by decide +kernel
theorem d_Pl_addBin_15 : decode b_Pl_addBin 15 = .ok (.iload_n 1, 1) := by decide +kernel
theorem d_Pl_addBin_16 : decode b_Pl_addBin 16 = .ok (.iload_n 2, 1) := by decide +kernel
theorem d_Pl_addBin_17 : decode b_Pl_addBin 17 = .ok (.iastore, 1) := by decide +kernel
theorem d_Pl_addBin_18 : decode b_Pl_addBin 18 = .ok (.aload_n 0, 1) := by decide +kernel
theorem d_Pl_addBin_19 : decode b_Pl_addBin 19 = .ok (.getfield 17, 3) := by decide +kernel
theorem d_Pl_addBin_22 : decode b_Pl_addBin 22 = .ok (.iload_n 1, 1) := by decide +kernel
theorem d_Pl_addBin_23 : decode b_Pl_addBin 23 = .ok (.iload_n 3, 1) := by decide +kernel
theorem d_Pl_addBin_24 : decode b_Pl_addBin 24 = .ok (.bastore, 1) := by decide +kernel
theorem d_Pl_addBin_25 : decode b_Pl_addBin 25 = .ok (.iconst 1, 1) := by decide +kernel
theorem d_Pl_addBin_26 : decode b_Pl_addBin 26 = .ok (.ireturn, 1) := by decide +kernel
theorem d_Re_readGoingOn_0 : decode b_Re_readGoingOn 0 = .ok (.aload_n 0, 1) := by decide +kernel
theorem d_Re_readGoingOn_1 : decode b_Re_readGoingOn 1 = .ok (.iconst 1, 1) := by decide +kernel
theorem d_Re_readGoingOn_2 : decode b_Re_readGoingOn 2 = .ok (.bipush 60, 2) := by decide +kernel
theorem d_Re_readGoingOn_4 : decode b_Re_readGoingOn 4 = .ok (.invokevirtual 59, 3) := by decide +kernel
theorem d_Re_readGoingOn_7 : decode b_Re_readGoingOn 7 = .ok (.istore_n 2, 1) := by decide +kernel
theorem d_Re_readGoingOn_8 : decode b_Re_readGoingOn 8 = .ok (.aload_n 0, 1) := by decide +kernel
theorem d_Re_readGoingOn_9 : decode b_Re_readGoingOn 9 = .ok (.bipush 44, 2) := by decide +kernel
theorem d_Re_readGoingOn_11 : decode b_Re_readGoingOn 11 = .ok (.invokevirtual 63, 3) := by decide +kernel
theorem d_Re_readGoingOn_14 : decode b_Re_readGoingOn 14 = .ok (.aload_n 0, 1) := by decide +kernel
theorem d_Re_readGoingOn_15 : decode b_Re_readGoingOn 15 = .ok (.iconst 1, 1) := by decide +kernel
theorem d_Re_readGoingOn_16 : decode b_Re_readGoingOn 16 = .ok (.bipush 60, 2) := by decide +kernel
theorem d_Re_readGoingOn_18 : decode b_Re_readGoingOn 18 = .ok (.invokevirtual 59, 3) := by decide +kernel
theorem d_Re_readGoingOn_21 : decode b_Re_readGoingOn 21 = .ok (.istore_n 3, 1) := by decide +kernel
theorem d_Re_readGoingOn_22 : decode b_Re_readGoingOn 22 = .ok (.aload_n 0, 1) := by decide +kernel
theorem d_Re_readGoingOn_23 : decode b_Re_readGoingOn 23 = .ok (.bipush 59, 2) := by decide +kernel
theorem d_Re_readGoingOn_25 : decode b_Re_readGoingOn 25 = .ok (.invokevirtual 63, 3) := by decide +kernel
theorem d_Re_readGoingOn_28 : decode b_Re_readGoingOn 28 = .ok (.aload_n 0, 1) := by decide +kernel
theorem d_Re_readGoingOn_29 : decode b_Re_readGoingOn 29 = .ok (.invokevirtual 38, 3) := by decide +kernel
theorem d_Re_readGoingOn_32 : decode b_Re_readGoingOn 32 = .ok (.ifCond .eq 20, 3) := by decide +kernel
theorem d_Re_readGoingOn_35 : decode b_Re_readGoingOn 35 = .ok (.aload_n 0, 1) := by decide +kernel
theorem d_Re_readGoingOn_36 : decode b_Re_readGoingOn 36 = .ok (.getfield 21, 3) := by decide +kernel
theorem d_Re_readGoingOn_39 : decode b_Re_readGoingOn 39 = .ok (.iload_n 2, 1) := by decide +kernel
theorem d_Re_readGoingOn_40 : decode b_Re_readGoingOn 40 = .ok (.iload_n 3, 1) := by decide +kernel
theorem d_Re_readGoingOn_41 : decode b_Re_readGoingOn 41 = .ok (.invokevirtual 82, 3) := by decide +kernel
theorem d_Re_readGoingOn_44 : decode b_Re_readGoingOn 44 = .ok (.ifCond .ne 8, 3) := by decide +kernel
theorem d_Re_readGoingOn_47 : decode b_Re_readGoingOn 47 = .ok (.aload_n 0, 1) := by decide +kernel
theorem d_Re_readGoingOn_48 : decode b_Re_readGoingOn 48 = .ok (.iload_n 1, 1) := by decide +kernel
theorem d_Re_readGoingOn_49 : decode b_Re_readGoingOn 49 = .ok (.putfield 25, 3) := by decide +kernel
theorem d_Re_readGoingOn_52 : decode b_Re_readGoingOn 52 = .ok (.return_, 1) := by decide +kernel
theorem d_Pl_addGoingOn_0 : decode b_Pl_addGoingOn 0 = .ok (.aload_n 0, 1) := by decide +kernel
theorem d_Pl_addGoingOn_1 : decode b_Pl_addGoingOn 1 = .ok (.getfield 27, 3) := by decide +kernel
theorem d_Pl_addGoingOn_4 : decode b_Pl_addGoingOn 4 = .ok (.iload_n 1, 1) := by decide +kernel
theorem d_Pl_addGoingOn_5 : decode b_Pl_addGoingOn 5 = .ok (.iaload, 1) := by decide +kernel
theorem d_Pl_addGoingOn_6 : decode b_Pl_addGoingOn 6 = .ok (.ifCond .eq 5, 3) := by decide +kernel
theorem d_Pl_addGoingOn_9 : decode b_Pl_addGoingOn 9 = .ok (.iconst 0, 1) := by decide +kernel
theorem d_Pl_addGoingOn_10 : decode b_Pl_addGoingOn 10 = .ok (.ireturn, 1) := by decide +kernel
theorem d_Pl_addGoingOn_11 : decode b_Pl_addGoingOn 11 = .ok (.aload_n 0, 1) := by decide +kernel
theorem d_Pl_addGoingOn_12 : decode b_Pl_addGoingOn 12 = .ok (.getfield 27, 3) := by decide +kernel
theorem d_Pl_addGoingOn_15 : decode b_Pl_addGoingOn 15 = .ok (.iload_n 1, 1) := by decide +kernel
theorem d_Pl_addGoingOn_16 : decode b_Pl_addGoingOn 16 = .ok (.iload_n 2, 1) := by decide +kernel
theorem d_Pl_addGoingOn_17 : decode b_Pl_addGoingOn 17 = .ok (.iastore, 1) := by decide +kernel
theorem d_Pl_addGoingOn_18 : decode b_Pl_addGoingOn 18 = .ok (.iconst 1, 1) := by decide +kernel
theorem d_Pl_addGoingOn_19 : decode b_Pl_addGoingOn 19 = .ok (.ireturn, 1) := by decide +kernel
theorem d_SP_addEdition_0 : decode b_SP_addEdition 0 = .ok (.aload_n 0, 1) := by decide +kernel
theorem d_SP_addEdition_1 : decode b_SP_addEdition 1 = .ok (.aload_n 0, 1) := by decide +kernel
theorem d_SP_addEdition_2 : decode b_SP_addEdition 2 = .ok (.getfield 12, 3) := by decide +kernel
theorem d_SP_addEdition_5 : decode b_SP_addEdition 5 = .ok (.aload_n 0, 1) := by decide +kernel
theorem d_SP_addEdition_6 : decode b_SP_addEdition 6 = .ok (.getfield 38, 3) := by decide +kernel
theorem d_SP_addEdition_9 : decode b_SP_addEdition 9 = .ok (.invokevirtual 130, 3) := by decide +kernel
theorem d_SP_addEdition_12 : decode b_SP_addEdition 12 = .ok (.putfield 38, 3) := by decide +kernel
theorem d_SP_addEdition_15 : decode b_SP_addEdition 15 = .ok (.aload_n 0, 1) := by decide +kernel
theorem d_SP_addEdition_16 : decode b_SP_addEdition 16 = .ok (.getfield 38, 3) := by decide +kernel
theorem d_SP_addEdition_19 : decode b_SP_addEdition 19 = .ok (.getfield 92, 3) := by decide +kernel
theorem d_SP_addEdition_22 : decode b_SP_addEdition 22 = .ok (.iconst 0, 1) := by decide +kernel
theorem d_SP_addEdition_23 : decode b_SP_addEdition 23 = .ok (.aload_n 0, 1) := by decide +kernel
theorem d_SP_addEdition_24 : decode b_SP_addEdition 24 = .ok (.getfield 32, 3) := by decide +kernel
theorem d_SP_addEdition_27 : decode b_SP_addEdition 27 = .ok (.aload_n 0, 1) := by decide +kernel
theorem d_SP_addEdition_28 : decode b_SP_addEdition 28 = .ok (.getfield 67, 3) := by decide +kernel
theorem d_SP_addEdition_31 : decode b_SP_addEdition 31 = .ok (.aaload, 1) := by decide +kernel
theorem d_SP_addEdition_32 : decode b_SP_addEdition 32 = .ok (.iconst 0, 1) := by decide +kernel
theorem d_SP_addEdition_33 : decode b_SP_addEdition 33 = .ok (.sipush 480, 3) := by decide +kernel
theorem d_SP_addEdition_36 : decode b_SP_addEdition 36 = .ok (.invokestatic 134, 3) := by decide +kernel
theorem d_SP_addEdition_39 : decode b_SP_addEdition 39 = .ok (.aload_n 0, 1) := by decide +kernel
theorem d_SP_addEdition_40 : decode b_SP_addEdition 40 = .ok (.dup, 1) := by decide +kernel
theorem d_SP_addEdition_41 : decode b_SP_addEdition 41 = .ok (.getfield 67, 3) := by decide +kernel
theorem d_SP_addEdition_44 : decode b_SP_addEdition 44 = .ok (.iconst 1, 1) := by decide +kernel
theorem d_SP_addEdition_45 : decode b_SP_addEdition 45 = .ok (.iadd, 1) := by decide +kernel
theorem d_SP_addEdition_46 : decode b_SP_addEdition 46 = .ok (.putfield 67, 3) := by decide +kernel
theorem d_SP_addEdition_49 : decode b_SP_addEdition 49 = .ok (.return_, 1) := by decide +kernel
theorem d_Re_giveDraftFor_0 : decode b_Re_giveDraftFor 0 = .ok (.aload_n 0, 1) := by decide +kernel
theorem d_Re_giveDraftFor_1 : decode b_Re_giveDraftFor 1 = .ok (.getfield 21, 3) := by decide +kernel
theorem d_Re_giveDraftFor_4 : decode b_Re_giveDraftFor 4 = .ok (.astore_n 2, 1) := by decide +kernel
theorem d_Re_giveDraftFor_5 : decode b_Re_giveDraftFor 5 = .ok (.aload_n 0, 1) := by decide +kernel
theorem d_Re_giveDraftFor_6 : decode b_Re_giveDraftFor 6 = .ok (.aload_n 1, 1) := by decide +kernel
theorem d_Re_giveDraftFor_7 : decode b_Re_giveDraftFor 7 = .ok (.putfield 21, 3) := by decide +kernel
theorem d_Re_giveDraftFor_10 : decode b_Re_giveDraftFor 10 = .ok (.aload_n 2, 1) := by decide +kernel
theorem d_Re_giveDraftFor_11 : decode b_Re_giveDraftFor 11 = .ok (.areturn, 1) := by decide +kernel
theorem d_SP_target_0 : decode b_SP_target 0 = .ok (.iload_n 1, 1) := by decide +kernel
theorem d_SP_target_1 : decode b_SP_target 1 = .ok (.iconst 0, 1) := by decide +kernel
theorem d_SP_target_2 : decode b_SP_target 2 = .ok (.sipush 9999, 3) := by decide +kernel
theorem d_SP_target_5 : decode b_SP_target 5 = .ok (.invokestatic 73, 3) := by decide +kernel
theorem d_SP_target_8 : decode b_SP_target 8 = .ok (.ifCond .eq 13, 3) := by decide +kernel
theorem d_SP_target_11 : decode b_SP_target 11 = .ok (.iload_n 2, 1) := by decide +kernel
theorem d_SP_target_12 : decode b_SP_target 12 = .ok (.iconst 0, 1) := by decide +kernel
theorem d_SP_target_13 : decode b_SP_target 13 = .ok (.bipush 9, 2) := by decide +kernel
theorem d_SP_target_15 : decode b_SP_target 15 = .ok (.invokestatic 73, 3) := by decide +kernel
theorem d_SP_target_18 : decode b_SP_target 18 = .ok (.ifCond .ne 6, 3) := by decide +kernel
theorem d_SP_target_21 : decode b_SP_target 21 = .ok (.bipush (-102), 2) := by decide +kernel
theorem d_SP_target_23 : decode b_SP_target 23 = .ok (.ireturn, 1) := by decide +kernel
theorem d_SP_target_24 : decode b_SP_target 24 = .ok (.aload_n 0, 1) := by decide +kernel
theorem d_SP_target_25 : decode b_SP_target 25 = .ok (.invokevirtual 77, 3) := by decide +kernel
theorem d_SP_target_28 : decode b_SP_target 28 = .ok (.ifCond .eq 15, 3) := by decide +kernel
theorem d_SP_target_31 : decode b_SP_target 31 = .ok (.aload_n 0, 1) := by decide +kernel
theorem d_SP_target_32 : decode b_SP_target 32 = .ok (.getfield 38, 3) := by decide +kernel
theorem d_SP_target_35 : decode b_SP_target 35 = .ok (.iload_n 1, 1) := by decide +kernel
theorem d_SP_target_36 : decode b_SP_target 36 = .ok (.iload_n 2, 1) := by decide +kernel
theorem d_SP_target_37 : decode b_SP_target 37 = .ok (.invokevirtual 80, 3) := by decide +kernel
theorem d_SP_target_40 : decode b_SP_target 40 = .ok (.goto 5, 3) := by decide +kernel
theorem d_SP_target_43 : decode b_SP_target 43 = .ok (.bipush (-103), 2) := by decide +kernel
theorem d_SP_target_45 : decode b_SP_target 45 = .ok (.ireturn, 1) := by decide +kernel
theorem d_SP_hasPlan_0 : decode b_SP_hasPlan 0 = .ok (.aload_n 0, 1) := by decide +kernel
theorem d_SP_hasPlan_1 : decode b_SP_hasPlan 1 = .ok (.getfield 67, 3) := by decide +kernel
theorem d_SP_hasPlan_4 : decode b_SP_hasPlan 4 = .ok (.ifCond .le 7, 3) := by decide +kernel
theorem d_SP_hasPlan_7 : decode b_SP_hasPlan 7 = .ok (.iconst 1, 1) := by decide +kernel
theorem d_SP_hasPlan_8 : decode b_SP_hasPlan 8 = .ok (.goto 4, 3) := by decide +kernel
theorem d_SP_hasPlan_11 : decode b_SP_hasPlan 11 = .ok (.iconst 0, 1) := by decide +kernel
theorem d_SP_hasPlan_12 : decode b_SP_hasPlan 12 = .ok (.ireturn, 1) := by decide +kernel
theorem d_Pl_leastTargetOf_0 : decode b_Pl_leastTargetOf 0 = .ok (.iconst 0, 1) := by decide +kernel
theorem d_Pl_leastTargetOf_1 : decode b_Pl_leastTargetOf 1 = .ok (.istore_n 3, 1) := by decide +kernel
theorem d_Pl_leastTargetOf_2 : decode b_Pl_leastTargetOf 2 = .ok (.iconst 0, 1) := by decide +kernel
theorem d_Pl_leastTargetOf_3 : decode b_Pl_leastTargetOf 3 = .ok (.istore 4, 2) := by decide +kernel
theorem d_Pl_leastTargetOf_5 : decode b_Pl_leastTargetOf 5 = .ok (.iload 4, 2) := by decide +kernel
theorem d_Pl_leastTargetOf_7 : decode b_Pl_leastTargetOf 7 = .ok (.aload_n 0, 1) := by decide +kernel
theorem d_Pl_leastTargetOf_8 : decode b_Pl_leastTargetOf 8 = .ok (.getfield 48, 3) := by decide +kernel
theorem d_Pl_leastTargetOf_11 : decode b_Pl_leastTargetOf 11 = .ok (.if_icmp .ge 76, 3) := by decide +kernel
theorem d_Pl_leastTargetOf_14 : decode b_Pl_leastTargetOf 14 = .ok (.aload_n 0, 1) := by decide +kernel
theorem d_Pl_leastTargetOf_15 : decode b_Pl_leastTargetOf 15 = .ok (.getfield 39, 3) := by decide +kernel
theorem d_Pl_leastTargetOf_18 : decode b_Pl_leastTargetOf 18 = .ok (.iload 4, 2) := by decide +kernel
theorem d_Pl_leastTargetOf_20 : decode b_Pl_leastTargetOf 20 = .ok (.iaload, 1) := by decide +kernel
theorem d_Pl_leastTargetOf_21 : decode b_Pl_leastTargetOf 21 = .ok (.iload_n 2, 1) := by decide +kernel
theorem d_Pl_leastTargetOf_22 : decode b_Pl_leastTargetOf 22 = .ok (.if_icmp .ne 28, 3) := by decide +kernel
theorem d_Pl_leastTargetOf_25 : decode b_Pl_leastTargetOf 25 = .ok (.iload_n 1, 1) := by decide +kernel
theorem d_Pl_leastTargetOf_26 : decode b_Pl_leastTargetOf 26 = .ok (.aload_n 0, 1) := by decide +kernel
theorem d_Pl_leastTargetOf_27 : decode b_Pl_leastTargetOf 27 = .ok (.getfield 33, 3) := by decide +kernel
theorem d_Pl_leastTargetOf_30 : decode b_Pl_leastTargetOf 30 = .ok (.iload 4, 2) := by decide +kernel
theorem d_Pl_leastTargetOf_32 : decode b_Pl_leastTargetOf 32 = .ok (.iaload, 1) := by decide +kernel
theorem d_Pl_leastTargetOf_33 : decode b_Pl_leastTargetOf 33 = .ok (.aload_n 0, 1) := by decide +kernel
theorem d_Pl_leastTargetOf_34 : decode b_Pl_leastTargetOf 34 = .ok (.getfield 36, 3) := by decide +kernel
theorem d_Pl_leastTargetOf_37 : decode b_Pl_leastTargetOf 37 = .ok (.iload 4, 2) := by decide +kernel
theorem d_Pl_leastTargetOf_39 : decode b_Pl_leastTargetOf 39 = .ok (.iaload, 1) := by decide +kernel
theorem d_Pl_leastTargetOf_40 : decode b_Pl_leastTargetOf 40 = .ok (.invokestatic 52, 3) := by decide +kernel
theorem d_Pl_leastTargetOf_43 : decode b_Pl_leastTargetOf 43 = .ok (.ifCond .eq 7, 3) := by decide +kernel
theorem d_Pl_leastTargetOf_46 : decode b_Pl_leastTargetOf 46 = .ok (.iconst 1, 1) := by decide +kernel
theorem d_Pl_leastTargetOf_47 : decode b_Pl_leastTargetOf 47 = .ok (.goto 4, 3) := by decide +kernel
theorem d_Pl_leastTargetOf_50 : decode b_Pl_leastTargetOf 50 = .ok (.iconst 0, 1) := by decide +kernel
theorem d_Pl_leastTargetOf_51 : decode b_Pl_leastTargetOf 51 = .ok (.istore 5, 2) := by decide +kernel
theorem d_Pl_leastTargetOf_53 : decode b_Pl_leastTargetOf 53 = .ok (.iload 5, 2) := by decide +kernel
theorem d_Pl_leastTargetOf_55 : decode b_Pl_leastTargetOf 55 = .ok (.ifCond .eq 26, 3) := by decide +kernel
theorem d_Pl_leastTargetOf_58 : decode b_Pl_leastTargetOf 58 = .ok (.iload_n 3, 1) := by decide +kernel
theorem d_Pl_leastTargetOf_59 : decode b_Pl_leastTargetOf 59 = .ok (.ifCond .eq 14, 3) := by decide +kernel
theorem d_Pl_leastTargetOf_62 : decode b_Pl_leastTargetOf 62 = .ok (.aload_n 0, 1) := by decide +kernel
theorem d_Pl_leastTargetOf_63 : decode b_Pl_leastTargetOf 63 = .ok (.getfield 30, 3) := by decide +kernel
theorem d_Pl_leastTargetOf_66 : decode b_Pl_leastTargetOf 66 = .ok (.iload 4, 2) := by decide +kernel
theorem d_Pl_leastTargetOf_68 : decode b_Pl_leastTargetOf 68 = .ok (.iaload, 1) := by decide +kernel
theorem d_Pl_leastTargetOf_69 : decode b_Pl_leastTargetOf 69 = .ok (.iload_n 3, 1) := by decide +kernel
theorem d_Pl_leastTargetOf_70 : decode b_Pl_leastTargetOf 70 = .ok (.if_icmp .ge 11, 3) := by decide +kernel
theorem d_Pl_leastTargetOf_73 : decode b_Pl_leastTargetOf 73 = .ok (.aload_n 0, 1) := by decide +kernel
theorem d_Pl_leastTargetOf_74 : decode b_Pl_leastTargetOf 74 = .ok (.getfield 30, 3) := by decide +kernel
theorem d_Pl_leastTargetOf_77 : decode b_Pl_leastTargetOf 77 = .ok (.iload 4, 2) := by decide +kernel
theorem d_Pl_leastTargetOf_79 : decode b_Pl_leastTargetOf 79 = .ok (.iaload, 1) := by decide +kernel
theorem d_Pl_leastTargetOf_80 : decode b_Pl_leastTargetOf 80 = .ok (.istore_n 3, 1) := by decide +kernel
theorem d_Pl_leastTargetOf_81 : decode b_Pl_leastTargetOf 81 = .ok (.iinc 4 1, 3) := by decide +kernel
theorem d_Pl_leastTargetOf_84 : decode b_Pl_leastTargetOf 84 = .ok (.goto (-79), 3) := by decide +kernel
theorem d_Pl_leastTargetOf_87 : decode b_Pl_leastTargetOf 87 = .ok (.iload_n 3, 1) := by decide +kernel
theorem d_Pl_leastTargetOf_88 : decode b_Pl_leastTargetOf 88 = .ok (.ireturn, 1) := by decide +kernel
theorem d_SP_bin_0 : decode b_SP_bin 0 = .ok (.iload_n 1, 1) := by decide +kernel
theorem d_SP_bin_1 : decode b_SP_bin 1 = .ok (.invokestatic 84, 3) := by decide +kernel
theorem d_SP_bin_4 : decode b_SP_bin 4 = .ok (.ifCond .ne 6, 3) := by decide +kernel
theorem d_SP_bin_7 : decode b_SP_bin 7 = .ok (.bipush (-101), 2) := by decide +kernel
theorem d_SP_bin_9 : decode b_SP_bin 9 = .ok (.ireturn, 1) := by decide +kernel
theorem d_SP_bin_10 : decode b_SP_bin 10 = .ok (.iload_n 2, 1) := by decide +kernel
theorem d_SP_bin_11 : decode b_SP_bin 11 = .ok (.iconst 0, 1) := by decide +kernel
theorem d_SP_bin_12 : decode b_SP_bin 12 = .ok (.iconst 3, 1) := by decide +kernel
theorem d_SP_bin_13 : decode b_SP_bin 13 = .ok (.invokestatic 73, 3) := by decide +kernel
theorem d_SP_bin_16 : decode b_SP_bin 16 = .ok (.ifCond .eq 12, 3) := by decide +kernel
theorem d_SP_bin_19 : decode b_SP_bin 19 = .ok (.iload_n 3, 1) := by decide +kernel
theorem d_SP_bin_20 : decode b_SP_bin 20 = .ok (.iconst 0, 1) := by decide +kernel
theorem d_SP_bin_21 : decode b_SP_bin 21 = .ok (.iconst 2, 1) := by decide +kernel
theorem d_SP_bin_22 : decode b_SP_bin 22 = .ok (.invokestatic 73, 3) := by decide +kernel
theorem d_SP_bin_25 : decode b_SP_bin 25 = .ok (.ifCond .ne 6, 3) := by decide +kernel
theorem d_SP_bin_28 : decode b_SP_bin 28 = .ok (.bipush (-102), 2) := by decide +kernel
theorem d_SP_bin_30 : decode b_SP_bin 30 = .ok (.ireturn, 1) := by decide +kernel
theorem d_SP_bin_31 : decode b_SP_bin 31 = .ok (.aload_n 0, 1) := by decide +kernel
theorem d_SP_bin_32 : decode b_SP_bin 32 = .ok (.invokevirtual 77, 3) := by decide +kernel
theorem d_SP_bin_35 : decode b_SP_bin 35 = .ok (.ifCond .ne 6, 3) := by decide +kernel
theorem d_SP_bin_38 : decode b_SP_bin 38 = .ok (.bipush (-103), 2) := by decide +kernel
theorem d_SP_bin_40 : decode b_SP_bin 40 = .ok (.ireturn, 1) := by decide +kernel
theorem d_SP_bin_41 : decode b_SP_bin 41 = .ok (.aload_n 0, 1) := by decide +kernel
theorem d_SP_bin_42 : decode b_SP_bin 42 = .ok (.getfield 38, 3) := by decide +kernel
theorem d_SP_bin_45 : decode b_SP_bin 45 = .ok (.getfield 88, 3) := by decide +kernel
theorem d_SP_bin_48 : decode b_SP_bin 48 = .ok (.iload_n 1, 1) := by decide +kernel
theorem d_SP_bin_49 : decode b_SP_bin 49 = .ok (.baload, 1) := by decide +kernel
theorem d_SP_bin_50 : decode b_SP_bin 50 = .ok (.ifCond .eq 7, 3) := by decide +kernel
theorem d_SP_bin_53 : decode b_SP_bin 53 = .ok (.iconst 0, 1) := by decide +kernel
theorem d_SP_bin_54 : decode b_SP_bin 54 = .ok (.goto 17, 3) := by decide +kernel
theorem d_SP_bin_57 : decode b_SP_bin 57 = .ok (.aload_n 0, 1) := by decide +kernel
theorem d_SP_bin_58 : decode b_SP_bin 58 = .ok (.getfield 38, 3) := by decide +kernel
theorem d_SP_bin_61 : decode b_SP_bin 61 = .ok (.getfield 92, 3) := by decide +kernel
theorem d_SP_bin_64 : decode b_SP_bin 64 = .ok (.iload_n 1, 1) := by decide +kernel
theorem d_SP_bin_65 : decode b_SP_bin 65 = .ok (.iload_n 2, 1) := by decide +kernel
theorem d_SP_bin_66 : decode b_SP_bin 66 = .ok (.iload_n 3, 1) := by decide +kernel
theorem d_SP_bin_67 : decode b_SP_bin 67 = .ok (.invokestatic 96, 3) := by decide +kernel
theorem d_SP_bin_70 : decode b_SP_bin 70 = .ok (.iaload, 1) := by decide +kernel
theorem d_SP_bin_71 : decode b_SP_bin 71 = .ok (.ireturn, 1) := by decide +kernel
theorem d_SP_isTarget_0 : decode b_SP_isTarget 0 = .ok (.iload_n 0, 1) := by decide +kernel
theorem d_SP_isTarget_1 : decode b_SP_isTarget 1 = .ok (.iconst 1, 1) := by decide +kernel
theorem d_SP_isTarget_2 : decode b_SP_isTarget 2 = .ok (.bipush 40, 2) := by decide +kernel
theorem d_SP_isTarget_4 : decode b_SP_isTarget 4 = .ok (.invokestatic 73, 3) := by decide +kernel
theorem d_SP_isTarget_7 : decode b_SP_isTarget 7 = .ok (.ireturn, 1) := by decide +kernel
theorem d_SP_check_0 : decode b_SP_check 0 = .ok (.aload_n 0, 1) := by decide +kernel
theorem d_SP_check_1 : decode b_SP_check 1 = .ok (.invokevirtual 77, 3) := by decide +kernel
theorem d_SP_check_4 : decode b_SP_check 4 = .ok (.ifCond .ne 6, 3) := by decide +kernel
theorem d_SP_check_7 : decode b_SP_check 7 = .ok (.bipush (-103), 2) := by decide +kernel
theorem d_SP_check_9 : decode b_SP_check 9 = .ok (.ireturn, 1) := by decide +kernel
theorem d_SP_check_10 : decode b_SP_check 10 = .ok (.aload_n 0, 1) := by decide +kernel
theorem d_SP_check_11 : decode b_SP_check 11 = .ok (.getfield 19, 3) := by decide +kernel
theorem d_SP_check_14 : decode b_SP_check 14 = .ok (.aload_n 0, 1) := by decide +kernel
theorem d_SP_check_15 : decode b_SP_check 15 = .ok (.getfield 38, 3) := by decide +kernel
theorem d_SP_check_18 : decode b_SP_check 18 = .ok (.invokevirtual 100, 3) := by decide +kernel
theorem d_SP_check_21 : decode b_SP_check 21 = .ok (.aload_n 0, 1) := by decide +kernel
theorem d_SP_check_22 : decode b_SP_check 22 = .ok (.getfield 19, 3) := by decide +kernel
theorem d_SP_check_25 : decode b_SP_check 25 = .ok (.getfield 104, 3) := by decide +kernel
theorem d_SP_check_28 : decode b_SP_check 28 = .ok (.ireturn, 1) := by decide +kernel
theorem d_Fa_findIn_0 : decode b_Fa_findIn 0 = .ok (.aload_n 0, 1) := by decide +kernel
theorem d_Fa_findIn_1 : decode b_Fa_findIn 1 = .ok (.iconst 0, 1) := by decide +kernel
theorem d_Fa_findIn_2 : decode b_Fa_findIn 2 = .ok (.putfield 15, 3) := by decide +kernel
theorem d_Fa_findIn_5 : decode b_Fa_findIn 5 = .ok (.iconst 0, 1) := by decide +kernel
theorem d_Fa_findIn_6 : decode b_Fa_findIn 6 = .ok (.istore_n 2, 1) := by decide +kernel
theorem d_Fa_findIn_7 : decode b_Fa_findIn 7 = .ok (.iload_n 2, 1) := by decide +kernel
theorem d_Fa_findIn_8 : decode b_Fa_findIn 8 = .ok (.iconst 3, 1) := by decide +kernel
theorem d_Fa_findIn_9 : decode b_Fa_findIn 9 = .ok (.if_icmp .ge 46, 3) := by decide +kernel
theorem d_Fa_findIn_12 : decode b_Fa_findIn 12 = .ok (.aload_n 1, 1) := by decide +kernel
theorem d_Fa_findIn_13 : decode b_Fa_findIn 13 = .ok (.iload_n 2, 1) := by decide +kernel
theorem d_Fa_findIn_14 : decode b_Fa_findIn 14 = .ok (.invokevirtual 19, 3) := by decide +kernel
theorem d_Fa_findIn_17 : decode b_Fa_findIn 17 = .ok (.istore_n 3, 1) := by decide +kernel
theorem d_Fa_findIn_18 : decode b_Fa_findIn 18 = .ok (.iconst 0, 1) := by decide +kernel
theorem d_Fa_findIn_19 : decode b_Fa_findIn 19 = .ok (.istore 4, 2) := by decide +kernel
theorem d_Fa_findIn_21 : decode b_Fa_findIn 21 = .ok (.iload 4, 2) := by decide +kernel
theorem d_Fa_findIn_23 : decode b_Fa_findIn 23 = .ok (.iload_n 3, 1) := by decide +kernel
theorem d_Fa_findIn_24 : decode b_Fa_findIn 24 = .ok (.if_icmp .ge 25, 3) := by decide +kernel
theorem d_Fa_findIn_27 : decode b_Fa_findIn 27 = .ok (.aload_n 0, 1) := by decide +kernel
theorem d_Fa_findIn_28 : decode b_Fa_findIn 28 = .ok (.aload_n 1, 1) := by decide +kernel
theorem d_Fa_findIn_29 : decode b_Fa_findIn 29 = .ok (.iload_n 2, 1) := by decide +kernel
theorem d_Fa_findIn_30 : decode b_Fa_findIn 30 = .ok (.iload 4, 2) := by decide +kernel
theorem d_Fa_findIn_32 : decode b_Fa_findIn 32 = .ok (.invokevirtual 25, 3) := by decide +kernel
theorem d_Fa_findIn_35 : decode b_Fa_findIn 35 = .ok (.aload_n 0, 1) := by decide +kernel
theorem d_Fa_findIn_36 : decode b_Fa_findIn 36 = .ok (.aload_n 1, 1) := by decide +kernel
theorem d_Fa_findIn_37 : decode b_Fa_findIn 37 = .ok (.iload_n 2, 1) := by decide +kernel
theorem d_Fa_findIn_38 : decode b_Fa_findIn 38 = .ok (.iload 4, 2) := by decide +kernel
theorem d_Fa_findIn_40 : decode b_Fa_findIn 40 = .ok (.invokevirtual 29, 3) := by decide +kernel
theorem d_Fa_findIn_43 : decode b_Fa_findIn 43 = .ok (.iinc 4 1, 3) := by decide +kernel
theorem d_Fa_findIn_46 : decode b_Fa_findIn 46 = .ok (.goto (-25), 3) := by decide +kernel
theorem d_Fa_findIn_49 : decode b_Fa_findIn 49 = .ok (.iinc 2 1, 3) := by decide +kernel
theorem d_Fa_findIn_52 : decode b_Fa_findIn 52 = .ok (.goto (-45), 3) := by decide +kernel
theorem d_Fa_findIn_55 : decode b_Fa_findIn 55 = .ok (.return_, 1) := by decide +kernel
theorem d_Pl_passesOf_0 : decode b_Pl_passesOf 0 = .ok (.iconst 0, 1) := by decide +kernel
theorem d_Pl_passesOf_1 : decode b_Pl_passesOf 1 = .ok (.istore_n 2, 1) := by decide +kernel
theorem d_Pl_passesOf_2 : decode b_Pl_passesOf 2 = .ok (.iconst 1, 1) := by decide +kernel
theorem d_Pl_passesOf_3 : decode b_Pl_passesOf 3 = .ok (.istore_n 3, 1) := by decide +kernel
theorem d_Pl_passesOf_4 : decode b_Pl_passesOf 4 = .ok (.iload_n 3, 1) := by decide +kernel
theorem d_Pl_passesOf_5 : decode b_Pl_passesOf 5 = .ok (.bipush 40, 2) := by decide +kernel
theorem d_Pl_passesOf_7 : decode b_Pl_passesOf 7 = .ok (.if_icmp .gt 44, 3) := by decide +kernel
theorem d_Pl_passesOf_10 : decode b_Pl_passesOf 10 = .ok (.iload_n 2, 1) := by decide +kernel
theorem d_Pl_passesOf_11 : decode b_Pl_passesOf 11 = .ok (.istore 4, 2) := by decide +kernel
theorem d_Pl_passesOf_13 : decode b_Pl_passesOf 13 = .ok (.iload 4, 2) := by decide +kernel
theorem d_Pl_passesOf_15 : decode b_Pl_passesOf 15 = .ok (.iconst 4, 1) := by decide +kernel
theorem d_Pl_passesOf_16 : decode b_Pl_passesOf 16 = .ok (.if_icmp .ge 29, 3) := by decide +kernel
theorem d_Pl_passesOf_19 : decode b_Pl_passesOf 19 = .ok (.aload_n 0, 1) := by decide +kernel
theorem d_Pl_passesOf_20 : decode b_Pl_passesOf 20 = .ok (.getfield 11, 3) := by decide +kernel
theorem d_Pl_passesOf_23 : decode b_Pl_passesOf 23 = .ok (.iload_n 3, 1) := by decide +kernel
theorem d_Pl_passesOf_24 : decode b_Pl_passesOf 24 = .ok (.iload 4, 2) := by decide +kernel
theorem d_Pl_passesOf_26 : decode b_Pl_passesOf 26 = .ok (.iload_n 1, 1) := by decide +kernel
theorem d_Pl_passesOf_27 : decode b_Pl_passesOf 27 = .ok (.invokestatic 56, 3) := by decide +kernel
theorem d_Pl_passesOf_30 : decode b_Pl_passesOf 30 = .ok (.iaload, 1) := by decide +kernel
theorem d_Pl_passesOf_31 : decode b_Pl_passesOf 31 = .ok (.ifCond .eq 8, 3) := by decide +kernel
theorem d_Pl_passesOf_34 : decode b_Pl_passesOf 34 = .ok (.iload 4, 2) := by decide +kernel
theorem d_Pl_passesOf_36 : decode b_Pl_passesOf 36 = .ok (.iconst 1, 1) := by decide +kernel
theorem d_Pl_passesOf_37 : decode b_Pl_passesOf 37 = .ok (.iadd, 1) := by decide +kernel
theorem d_Pl_passesOf_38 : decode b_Pl_passesOf 38 = .ok (.istore_n 2, 1) := by decide +kernel
theorem d_Pl_passesOf_39 : decode b_Pl_passesOf 39 = .ok (.iinc 4 1, 3) := by decide +kernel
theorem d_Pl_passesOf_42 : decode b_Pl_passesOf 42 = .ok (.goto (-29), 3) := by decide +kernel
theorem d_Pl_passesOf_45 : decode b_Pl_passesOf 45 = .ok (.iinc 3 1, 3) := by decide +kernel
theorem d_Pl_passesOf_48 : decode b_Pl_passesOf 48 = .ok (.goto (-44), 3) := by decide +kernel
theorem d_Pl_passesOf_51 : decode b_Pl_passesOf 51 = .ok (.iload_n 2, 1) := by decide +kernel
theorem d_Pl_passesOf_52 : decode b_Pl_passesOf 52 = .ok (.ireturn, 1) := by decide +kernel
theorem d_Fa_findHoles_0 : decode b_Fa_findHoles 0 = .ok (.iconst 1, 1) := by decide +kernel
theorem d_Fa_findHoles_1 : decode b_Fa_findHoles 1 = .ok (.istore 4, 2) := by decide +kernel
theorem d_Fa_findHoles_3 : decode b_Fa_findHoles 3 = .ok (.iload 4, 2) := by decide +kernel
theorem d_Fa_findHoles_5 : decode b_Fa_findHoles 5 = .ok (.bipush 40, 2) := by decide +kernel
theorem d_Fa_findHoles_7 : decode b_Fa_findHoles 7 = .ok (.if_icmp .gt 44, 3) := by decide +kernel
theorem d_Fa_findHoles_10 : decode b_Fa_findHoles 10 = .ok (.aload_n 1, 1) := by decide +kernel
theorem d_Fa_findHoles_11 : decode b_Fa_findHoles 11 = .ok (.getfield 32, 3) := by decide +kernel
theorem d_Fa_findHoles_14 : decode b_Fa_findHoles 14 = .ok (.iload 4, 2) := by decide +kernel
theorem d_Fa_findHoles_16 : decode b_Fa_findHoles 16 = .ok (.baload, 1) := by decide +kernel
theorem d_Fa_findHoles_17 : decode b_Fa_findHoles 17 = .ok (.ifCond .eq 28, 3) := by decide +kernel
theorem d_Fa_findHoles_20 : decode b_Fa_findHoles 20 = .ok (.aload_n 1, 1) := by decide +kernel
theorem d_Fa_findHoles_21 : decode b_Fa_findHoles 21 = .ok (.getfield 36, 3) := by decide +kernel
theorem d_Fa_findHoles_24 : decode b_Fa_findHoles 24 = .ok (.iload 4, 2) := by decide +kernel
theorem d_Fa_findHoles_26 : decode b_Fa_findHoles 26 = .ok (.iload_n 3, 1) := by decide +kernel
theorem d_Fa_findHoles_27 : decode b_Fa_findHoles 27 = .ok (.iload_n 2, 1) := by decide +kernel
theorem d_Fa_findHoles_28 : decode b_Fa_findHoles 28 = .ok (.invokestatic 39, 3) := by decide +kernel
theorem d_Fa_findHoles_31 : decode b_Fa_findHoles 31 = .ok (.iaload, 1) := by decide +kernel
theorem d_Fa_findHoles_32 : decode b_Fa_findHoles 32 = .ok (.ifCond .ne 13, 3) := by decide +kernel
theorem d_Fa_findHoles_35 : decode b_Fa_findHoles 35 = .ok (.aload_n 0, 1) := by decide +kernel
theorem d_Fa_findHoles_36 : decode b_Fa_findHoles 36 = .ok (.iload_n 2, 1) := by decide +kernel
theorem d_Fa_findHoles_37 : decode b_Fa_findHoles 37 = .ok (.iload_n 3, 1) := by decide +kernel
theorem d_Fa_findHoles_38 : decode b_Fa_findHoles 38 = .ok (.iload 4, 2) := by decide +kernel
theorem d_Fa_findHoles_40 : decode b_Fa_findHoles 40 = .ok (.iconst 0, 1) := by decide +kernel
theorem d_Fa_findHoles_41 : decode b_Fa_findHoles 41 = .ok (.iconst 0, 1) := by decide +kernel
theorem d_Fa_findHoles_42 : decode b_Fa_findHoles 42 = .ok (.invokevirtual 43, 3) := by decide +kernel
theorem d_Fa_findHoles_45 : decode b_Fa_findHoles 45 = .ok (.iinc 4 1, 3) := by decide +kernel
theorem d_Fa_findHoles_48 : decode b_Fa_findHoles 48 = .ok (.goto (-45), 3) := by decide +kernel
theorem d_Fa_findHoles_51 : decode b_Fa_findHoles 51 = .ok (.return_, 1) := by decide +kernel
theorem d_Fa_add_0 : decode b_Fa_add 0 = .ok (.aload_n 0, 1) := by decide +kernel
theorem d_Fa_add_1 : decode b_Fa_add 1 = .ok (.getfield 15, 3) := by decide +kernel
theorem d_Fa_add_4 : decode b_Fa_add 4 = .ok (.bipush 100, 2) := by decide +kernel
theorem d_Fa_add_6 : decode b_Fa_add 6 = .ok (.if_icmp .ge 61, 3) := by decide +kernel
theorem d_Fa_add_9 : decode b_Fa_add 9 = .ok (.aload_n 0, 1) := by decide +kernel
theorem d_Fa_add_10 : decode b_Fa_add 10 = .ok (.getfield 15, 3) := by decide +kernel
theorem d_Fa_add_13 : decode b_Fa_add 13 = .ok (.iconst 5, 1) := by decide +kernel
theorem d_Fa_add_14 : decode b_Fa_add 14 = .ok (.imul, 1) := by decide +kernel
theorem d_Fa_add_15 : decode b_Fa_add 15 = .ok (.istore 6, 2) := by decide +kernel
theorem d_Fa_add_17 : decode b_Fa_add 17 = .ok (.aload_n 0, 1) := by decide +kernel
theorem d_Fa_add_18 : decode b_Fa_add 18 = .ok (.getfield 11, 3) := by decide +kernel
theorem d_Fa_add_21 : decode b_Fa_add 21 = .ok (.iload 6, 2) := by decide +kernel
theorem d_Fa_add_23 : decode b_Fa_add 23 = .ok (.iload_n 1, 1) := by decide +kernel
theorem d_Fa_add_24 : decode b_Fa_add 24 = .ok (.iastore, 1) := by decide +kernel
theorem d_Fa_add_25 : decode b_Fa_add 25 = .ok (.aload_n 0, 1) := by decide +kernel
theorem d_Fa_add_26 : decode b_Fa_add 26 = .ok (.getfield 11, 3) := by decide +kernel
theorem d_Fa_add_29 : decode b_Fa_add 29 = .ok (.iload 6, 2) := by decide +kernel
theorem d_Fa_add_31 : decode b_Fa_add 31 = .ok (.iconst 1, 1) := by decide +kernel
theorem d_Fa_add_32 : decode b_Fa_add 32 = .ok (.iadd, 1) := by decide +kernel
theorem d_Fa_add_33 : decode b_Fa_add 33 = .ok (.iload_n 2, 1) := by decide +kernel
theorem d_Fa_add_34 : decode b_Fa_add 34 = .ok (.iastore, 1) := by decide +kernel
theorem d_Fa_add_35 : decode b_Fa_add 35 = .ok (.aload_n 0, 1) := by decide +kernel
theorem d_Fa_add_36 : decode b_Fa_add 36 = .ok (.getfield 11, 3) := by decide +kernel
theorem d_Fa_add_39 : decode b_Fa_add 39 = .ok (.iload 6, 2) := by decide +kernel
theorem d_Fa_add_41 : decode b_Fa_add 41 = .ok (.iconst 2, 1) := by decide +kernel
theorem d_Fa_add_42 : decode b_Fa_add 42 = .ok (.iadd, 1) := by decide +kernel
theorem d_Fa_add_43 : decode b_Fa_add 43 = .ok (.iload_n 3, 1) := by decide +kernel
theorem d_Fa_add_44 : decode b_Fa_add 44 = .ok (.iastore, 1) := by decide +kernel
theorem d_Fa_add_45 : decode b_Fa_add 45 = .ok (.aload_n 0, 1) := by decide +kernel
theorem d_Fa_add_46 : decode b_Fa_add 46 = .ok (.getfield 11, 3) := by decide +kernel
theorem d_Fa_add_49 : decode b_Fa_add 49 = .ok (.iload 6, 2) := by decide +kernel
theorem d_Fa_add_51 : decode b_Fa_add 51 = .ok (.iconst 3, 1) := by decide +kernel
theorem d_Fa_add_52 : decode b_Fa_add 52 = .ok (.iadd, 1) := by decide +kernel
theorem d_Fa_add_53 : decode b_Fa_add 53 = .ok (.iload 4, 2) := by decide +kernel
theorem d_Fa_add_55 : decode b_Fa_add 55 = .ok (.iastore, 1) := by decide +kernel
theorem d_Fa_add_56 : decode b_Fa_add 56 = .ok (.aload_n 0, 1) := by decide +kernel
theorem d_Fa_add_57 : decode b_Fa_add 57 = .ok (.getfield 11, 3) := by decide +kernel
theorem d_Fa_add_60 : decode b_Fa_add 60 = .ok (.iload 6, 2) := by decide +kernel
theorem d_Fa_add_62 : decode b_Fa_add 62 = .ok (.iconst 4, 1) := by decide +kernel
theorem d_Fa_add_63 : decode b_Fa_add 63 = .ok (.iadd, 1) := by decide +kernel
theorem d_Fa_add_64 : decode b_Fa_add 64 = .ok (.iload 5, 2) := by decide +kernel
theorem d_Fa_add_66 : decode b_Fa_add 66 = .ok (.iastore, 1) := by decide +kernel
theorem d_Fa_add_67 : decode b_Fa_add 67 = .ok (.aload_n 0, 1) := by decide +kernel
theorem d_Fa_add_68 : decode b_Fa_add 68 = .ok (.dup, 1) := by decide +kernel
theorem d_Fa_add_69 : decode b_Fa_add 69 = .ok (.getfield 15, 3) := by decide +kernel
theorem d_Fa_add_72 : decode b_Fa_add 72 = .ok (.iconst 1, 1) := by decide +kernel
theorem d_Fa_add_73 : decode b_Fa_add 73 = .ok (.iadd, 1) := by decide +kernel
theorem d_Fa_add_74 : decode b_Fa_add 74 = .ok (.putfield 15, 3) := by decide +kernel
theorem d_Fa_add_77 : decode b_Fa_add 77 = .ok (.return_, 1) := by decide +kernel
theorem d_Fa_findDoubles_0 : decode b_Fa_findDoubles 0 = .ok (.iconst 1, 1) := by decide +kernel
theorem d_Fa_findDoubles_1 : decode b_Fa_findDoubles 1 = .ok (.istore 4, 2) := by decide +kernel
theorem d_Fa_findDoubles_3 : decode b_Fa_findDoubles 3 = .ok (.iload 4, 2) := by decide +kernel
theorem d_Fa_findDoubles_5 : decode b_Fa_findDoubles 5 = .ok (.bipush 40, 2) := by decide +kernel
theorem d_Fa_findDoubles_7 : decode b_Fa_findDoubles 7 = .ok (.if_icmp .ge 49, 3) := by decide +kernel
theorem d_Fa_findDoubles_10 : decode b_Fa_findDoubles 10 = .ok (.aload_n 1, 1) := by decide +kernel
theorem d_Fa_findDoubles_11 : decode b_Fa_findDoubles 11 = .ok (.getfield 36, 3) := by decide +kernel
theorem d_Fa_findDoubles_14 : decode b_Fa_findDoubles 14 = .ok (.iload 4, 2) := by decide +kernel
theorem d_Fa_findDoubles_16 : decode b_Fa_findDoubles 16 = .ok (.iload_n 3, 1) := by decide +kernel
theorem d_Fa_findDoubles_17 : decode b_Fa_findDoubles 17 = .ok (.iload_n 2, 1) := by decide +kernel
theorem d_Fa_findDoubles_18 : decode b_Fa_findDoubles 18 = .ok (.invokestatic 39, 3) := by decide +kernel
theorem d_Fa_findDoubles_21 : decode b_Fa_findDoubles 21 = .ok (.iaload, 1) := by decide +kernel
theorem d_Fa_findDoubles_22 : decode b_Fa_findDoubles 22 = .ok (.istore 5, 2) := by decide +kernel
theorem d_Fa_findDoubles_24 : decode b_Fa_findDoubles 24 = .ok (.aload_n 1, 1) := by decide +kernel
theorem d_Fa_findDoubles_25 : decode b_Fa_findDoubles 25 = .ok (.getfield 32, 3) := by decide +kernel
theorem d_Fa_findDoubles_28 : decode b_Fa_findDoubles 28 = .ok (.iload 4, 2) := by decide +kernel
theorem d_Fa_findDoubles_30 : decode b_Fa_findDoubles 30 = .ok (.baload, 1) := by decide +kernel
theorem d_Fa_findDoubles_31 : decode b_Fa_findDoubles 31 = .ok (.ifCond .eq 19, 3) := by decide +kernel
theorem d_Fa_findDoubles_34 : decode b_Fa_findDoubles 34 = .ok (.iload 5, 2) := by decide +kernel
theorem d_Fa_findDoubles_36 : decode b_Fa_findDoubles 36 = .ok (.ifCond .eq 14, 3) := by decide +kernel
theorem d_Fa_findDoubles_39 : decode b_Fa_findDoubles 39 = .ok (.aload_n 0, 1) := by decide +kernel
theorem d_Fa_findDoubles_40 : decode b_Fa_findDoubles 40 = .ok (.aload_n 1, 1) := by decide +kernel
theorem d_Fa_findDoubles_41 : decode b_Fa_findDoubles 41 = .ok (.iload_n 2, 1) := by decide +kernel
theorem d_Fa_findDoubles_42 : decode b_Fa_findDoubles 42 = .ok (.iload_n 3, 1) := by decide +kernel
theorem d_Fa_findDoubles_43 : decode b_Fa_findDoubles 43 = .ok (.iload 4, 2) := by decide +kernel
theorem d_Fa_findDoubles_45 : decode b_Fa_findDoubles 45 = .ok (.iload 5, 2) := by decide +kernel
theorem d_Fa_findDoubles_47 : decode b_Fa_findDoubles 47 = .ok (.invokevirtual 47, 3) := by decide +kernel
theorem d_Fa_findDoubles_50 : decode b_Fa_findDoubles 50 = .ok (.iinc 4 1, 3) := by decide +kernel
theorem d_Fa_findDoubles_53 : decode b_Fa_findDoubles 53 = .ok (.goto (-50), 3) := by decide +kernel
theorem d_Fa_findDoubles_56 : decode b_Fa_findDoubles 56 = .ok (.return_, 1) := by decide +kernel
theorem d_Fa_findDoublesOf_0 : decode b_Fa_findDoublesOf 0 = .ok (.aload_n 1, 1) := by decide +kernel
theorem d_Fa_findDoublesOf_1 : decode b_Fa_findDoublesOf 1 = .ok (.getfield 51, 3) := by decide +kernel
theorem d_Fa_findDoublesOf_4 : decode b_Fa_findDoublesOf 4 = .ok (.iload 4, 2) := by decide +kernel
theorem d_Fa_findDoublesOf_6 : decode b_Fa_findDoublesOf 6 = .ok (.iload_n 3, 1) := by decide +kernel
theorem d_Fa_findDoublesOf_7 : decode b_Fa_findDoublesOf 7 = .ok (.iload_n 2, 1) := by decide +kernel
theorem d_Fa_findDoublesOf_8 : decode b_Fa_findDoublesOf 8 = .ok (.invokestatic 39, 3) := by decide +kernel
theorem d_Fa_findDoublesOf_11 : decode b_Fa_findDoublesOf 11 = .ok (.baload, 1) := by decide +kernel
theorem d_Fa_findDoublesOf_12 : decode b_Fa_findDoublesOf 12 = .ok (.istore 6, 2) := by decide +kernel
theorem d_Fa_findDoublesOf_14 : decode b_Fa_findDoublesOf 14 = .ok (.iload 4, 2) := by decide +kernel
theorem d_Fa_findDoublesOf_16 : decode b_Fa_findDoublesOf 16 = .ok (.iconst 1, 1) := by decide +kernel
theorem d_Fa_findDoublesOf_17 : decode b_Fa_findDoublesOf 17 = .ok (.iadd, 1) := by decide +kernel
theorem d_Fa_findDoublesOf_18 : decode b_Fa_findDoublesOf 18 = .ok (.istore 7, 2) := by decide +kernel
theorem d_Fa_findDoublesOf_20 : decode b_Fa_findDoublesOf 20 = .ok (.iload 7, 2) := by decide +kernel
theorem d_Fa_findDoublesOf_22 : decode b_Fa_findDoublesOf 22 = .ok (.bipush 40, 2) := by decide +kernel
theorem d_Fa_findDoublesOf_24 : decode b_Fa_findDoublesOf 24 = .ok (.if_icmp .gt 67, 3) := by decide +kernel
theorem d_Fa_findDoublesOf_27 : decode b_Fa_findDoublesOf 27 = .ok (.iload 7, 2) := by decide +kernel
theorem d_Fa_findDoublesOf_29 : decode b_Fa_findDoublesOf 29 = .ok (.iload_n 3, 1) := by decide +kernel
theorem d_Fa_findDoublesOf_30 : decode b_Fa_findDoublesOf 30 = .ok (.iload_n 2, 1) := by decide +kernel
theorem d_Fa_findDoublesOf_31 : decode b_Fa_findDoublesOf 31 = .ok (.invokestatic 39, 3) := by decide +kernel
theorem d_Fa_findDoublesOf_34 : decode b_Fa_findDoublesOf 34 = .ok (.istore 8, 2) := by decide +kernel
theorem d_Fa_findDoublesOf_36 : decode b_Fa_findDoublesOf 36 = .ok (.aload_n 1, 1) := by decide +kernel
theorem d_Fa_findDoublesOf_37 : decode b_Fa_findDoublesOf 37 = .ok (.getfield 32, 3) := by decide +kernel
theorem d_Fa_findDoublesOf_40 : decode b_Fa_findDoublesOf 40 = .ok (.iload 7, 2) := by decide +kernel
theorem d_Fa_findDoublesOf_42 : decode b_Fa_findDoublesOf 42 = .ok (.baload, 1) := by decide +kernel
theorem d_Fa_findDoublesOf_43 : decode b_Fa_findDoublesOf 43 = .ok (.ifCond .eq 42, 3) := by decide +kernel
theorem d_Fa_findDoublesOf_46 : decode b_Fa_findDoublesOf 46 = .ok (.aload_n 1, 1) := by decide +kernel
theorem d_Fa_findDoublesOf_47 : decode b_Fa_findDoublesOf 47 = .ok (.getfield 36, 3) := by decide +kernel
theorem d_Fa_findDoublesOf_50 : decode b_Fa_findDoublesOf 50 = .ok (.iload 8, 2) := by decide +kernel
theorem d_Fa_findDoublesOf_52 : decode b_Fa_findDoublesOf 52 = .ok (.iaload, 1) := by decide +kernel
theorem d_Fa_findDoublesOf_53 : decode b_Fa_findDoublesOf 53 = .ok (.iload 5, 2) := by decide +kernel
theorem d_Fa_findDoublesOf_55 : decode b_Fa_findDoublesOf 55 = .ok (.if_icmp .ne 30, 3) := by decide +kernel
theorem d_Fa_findDoublesOf_58 : decode b_Fa_findDoublesOf 58 = .ok (.iload 6, 2) := by decide +kernel
theorem d_Fa_findDoublesOf_60 : decode b_Fa_findDoublesOf 60 = .ok (.ifCond .eq 13, 3) := by decide +kernel
theorem d_Fa_findDoublesOf_63 : decode b_Fa_findDoublesOf 63 = .ok (.aload_n 1, 1) := by decide +kernel
theorem d_Fa_findDoublesOf_64 : decode b_Fa_findDoublesOf 64 = .ok (.getfield 51, 3) := by decide +kernel
theorem d_Fa_findDoublesOf_67 : decode b_Fa_findDoublesOf 67 = .ok (.iload 8, 2) := by decide +kernel
theorem d_Fa_findDoublesOf_69 : decode b_Fa_findDoublesOf 69 = .ok (.baload, 1) := by decide +kernel
theorem d_Fa_findDoublesOf_70 : decode b_Fa_findDoublesOf 70 = .ok (.ifCond .ne 15, 3) := by decide +kernel
theorem d_Fa_findDoublesOf_73 : decode b_Fa_findDoublesOf 73 = .ok (.aload_n 0, 1) := by decide +kernel
theorem d_Fa_findDoublesOf_74 : decode b_Fa_findDoublesOf 74 = .ok (.iload_n 2, 1) := by decide +kernel
theorem d_Fa_findDoublesOf_75 : decode b_Fa_findDoublesOf 75 = .ok (.iload_n 3, 1) := by decide +kernel
theorem d_Fa_findDoublesOf_76 : decode b_Fa_findDoublesOf 76 = .ok (.iload 4, 2) := by decide +kernel
theorem d_Fa_findDoublesOf_78 : decode b_Fa_findDoublesOf 78 = .ok (.iload 7, 2) := by decide +kernel
theorem d_Fa_findDoublesOf_80 : decode b_Fa_findDoublesOf 80 = .ok (.iload 5, 2) := by decide +kernel
theorem d_Fa_findDoublesOf_82 : decode b_Fa_findDoublesOf 82 = .ok (.invokevirtual 43, 3) := by decide +kernel
theorem d_Fa_findDoublesOf_85 : decode b_Fa_findDoublesOf 85 = .ok (.iinc 7 1, 3) := by decide +kernel
theorem d_Fa_findDoublesOf_88 : decode b_Fa_findDoublesOf 88 = .ok (.goto (-68), 3) := by decide +kernel
theorem d_Fa_findDoublesOf_91 : decode b_Fa_findDoublesOf 91 = .ok (.return_, 1) := by decide +kernel
theorem d_SP_fault_0 : decode b_SP_fault 0 = .ok (.aload_n 0, 1) := by decide +kernel
theorem d_SP_fault_1 : decode b_SP_fault 1 = .ok (.getfield 19, 3) := by decide +kernel
theorem d_SP_fault_4 : decode b_SP_fault 4 = .ok (.iload_n 1, 1) := by decide +kernel
theorem d_SP_fault_5 : decode b_SP_fault 5 = .ok (.iload_n 2, 1) := by decide +kernel
theorem d_SP_fault_6 : decode b_SP_fault 6 = .ok (.invokevirtual 107, 3) := by decide +kernel
theorem d_SP_fault_9 : decode b_SP_fault 9 = .ok (.ireturn, 1) := by decide +kernel
theorem d_Fa_tell_0 : decode b_Fa_tell 0 = .ok (.iload_n 1, 1) := by decide +kernel
theorem d_Fa_tell_1 : decode b_Fa_tell 1 = .ok (.ifCond .lt 26, 3) := by decide +kernel
theorem d_Fa_tell_4 : decode b_Fa_tell 4 = .ok (.iload_n 1, 1) := by decide +kernel
theorem d_Fa_tell_5 : decode b_Fa_tell 5 = .ok (.aload_n 0, 1) := by decide +kernel
theorem d_Fa_tell_6 : decode b_Fa_tell 6 = .ok (.getfield 15, 3) := by decide +kernel
theorem d_Fa_tell_9 : decode b_Fa_tell 9 = .ok (.if_icmp .ge 18, 3) := by decide +kernel
theorem d_Fa_tell_12 : decode b_Fa_tell 12 = .ok (.iload_n 1, 1) := by decide +kernel
theorem d_Fa_tell_13 : decode b_Fa_tell 13 = .ok (.bipush 100, 2) := by decide +kernel
theorem d_Fa_tell_15 : decode b_Fa_tell 15 = .ok (.if_icmp .ge 12, 3) := by decide +kernel
theorem d_Fa_tell_18 : decode b_Fa_tell 18 = .ok (.iload_n 2, 1) := by decide +kernel
theorem d_Fa_tell_19 : decode b_Fa_tell 19 = .ok (.ifCond .lt 8, 3) := by decide +kernel
theorem d_Fa_tell_22 : decode b_Fa_tell 22 = .ok (.iload_n 2, 1) := by decide +kernel
theorem d_Fa_tell_23 : decode b_Fa_tell 23 = .ok (.iconst 5, 1) := by decide +kernel
theorem d_Fa_tell_24 : decode b_Fa_tell 24 = .ok (.if_icmp .lt 5, 3) := by decide +kernel
theorem d_Fa_tell_27 : decode b_Fa_tell 27 = .ok (.iconst (-1), 1) := by decide +kernel
theorem d_Fa_tell_28 : decode b_Fa_tell 28 = .ok (.ireturn, 1) := by decide +kernel
theorem d_Fa_tell_29 : decode b_Fa_tell 29 = .ok (.aload_n 0, 1) := by decide +kernel
theorem d_Fa_tell_30 : decode b_Fa_tell 30 = .ok (.getfield 11, 3) := by decide +kernel
theorem d_Fa_tell_33 : decode b_Fa_tell 33 = .ok (.iload_n 1, 1) := by decide +kernel
theorem d_Fa_tell_34 : decode b_Fa_tell 34 = .ok (.iconst 5, 1) := by decide +kernel
theorem d_Fa_tell_35 : decode b_Fa_tell 35 = .ok (.imul, 1) := by decide +kernel
theorem d_Fa_tell_36 : decode b_Fa_tell 36 = .ok (.iload_n 2, 1) := by decide +kernel
theorem d_Fa_tell_37 : decode b_Fa_tell 37 = .ok (.iadd, 1) := by decide +kernel
theorem d_Fa_tell_38 : decode b_Fa_tell 38 = .ok (.iaload, 1) := by decide +kernel
theorem d_Fa_tell_39 : decode b_Fa_tell 39 = .ok (.ireturn, 1) := by decide +kernel
theorem d_SP_hold_0 : decode b_SP_hold 0 = .ok (.iload_n 1, 1) := by decide +kernel
theorem d_SP_hold_1 : decode b_SP_hold 1 = .ok (.invokestatic 84, 3) := by decide +kernel
theorem d_SP_hold_4 : decode b_SP_hold 4 = .ok (.ifCond .ne 6, 3) := by decide +kernel
theorem d_SP_hold_7 : decode b_SP_hold 7 = .ok (.bipush (-101), 2) := by decide +kernel
theorem d_SP_hold_9 : decode b_SP_hold 9 = .ok (.ireturn, 1) := by decide +kernel
theorem d_SP_hold_10 : decode b_SP_hold 10 = .ok (.aload_n 0, 1) := by decide +kernel
theorem d_SP_hold_11 : decode b_SP_hold 11 = .ok (.invokevirtual 77, 3) := by decide +kernel
theorem d_SP_hold_14 : decode b_SP_hold 14 = .ok (.ifCond .ne 6, 3) := by decide +kernel
theorem d_SP_hold_17 : decode b_SP_hold 17 = .ok (.bipush (-103), 2) := by decide +kernel
theorem d_SP_hold_19 : decode b_SP_hold 19 = .ok (.ireturn, 1) := by decide +kernel
theorem d_SP_hold_20 : decode b_SP_hold 20 = .ok (.aload_n 0, 1) := by decide +kernel
theorem d_SP_hold_21 : decode b_SP_hold 21 = .ok (.getfield 38, 3) := by decide +kernel
theorem d_SP_hold_24 : decode b_SP_hold 24 = .ok (.getfield 88, 3) := by decide +kernel
theorem d_SP_hold_27 : decode b_SP_hold 27 = .ok (.iload_n 1, 1) := by decide +kernel
theorem d_SP_hold_28 : decode b_SP_hold 28 = .ok (.baload, 1) := by decide +kernel
theorem d_SP_hold_29 : decode b_SP_hold 29 = .ok (.iload_n 2, 1) := by decide +kernel
theorem d_SP_hold_30 : decode b_SP_hold 30 = .ok (.if_icmp .ne 5, 3) := by decide +kernel
theorem d_SP_hold_33 : decode b_SP_hold 33 = .ok (.iconst 0, 1) := by decide +kernel
theorem d_SP_hold_34 : decode b_SP_hold 34 = .ok (.ireturn, 1) := by decide +kernel
theorem d_SP_hold_35 : decode b_SP_hold 35 = .ok (.aload_n 0, 1) := by decide +kernel
theorem d_SP_hold_36 : decode b_SP_hold 36 = .ok (.getfield 38, 3) := by decide +kernel
theorem d_SP_hold_39 : decode b_SP_hold 39 = .ok (.getfield 88, 3) := by decide +kernel
theorem d_SP_hold_42 : decode b_SP_hold 42 = .ok (.iload_n 1, 1) := by decide +kernel
theorem d_SP_hold_43 : decode b_SP_hold 43 = .ok (.iload_n 2, 1) := by decide +kernel
theorem d_SP_hold_44 : decode b_SP_hold 44 = .ok (.bastore, 1) := by decide +kernel
theorem d_SP_hold_45 : decode b_SP_hold 45 = .ok (.iconst 1, 1) := by decide +kernel
theorem d_SP_hold_46 : decode b_SP_hold 46 = .ok (.ireturn, 1) := by decide +kernel
theorem d_SP_compare_0 : decode b_SP_compare 0 = .ok (.aload_n 0, 1) := by decide +kernel
theorem d_SP_compare_1 : decode b_SP_compare 1 = .ok (.invokevirtual 77, 3) := by decide +kernel
theorem d_SP_compare_4 : decode b_SP_compare 4 = .ok (.ifCond .eq 10, 3) := by decide +kernel
theorem d_SP_compare_7 : decode b_SP_compare 7 = .ok (.aload_n 0, 1) := by decide +kernel
theorem d_SP_compare_8 : decode b_SP_compare 8 = .ok (.getfield 67, 3) := by decide +kernel
theorem d_SP_compare_11 : decode b_SP_compare 11 = .ok (.goto 5, 3) := by decide +kernel
theorem d_SP_compare_14 : decode b_SP_compare 14 = .ok (.bipush 8, 2) := by decide +kernel
theorem d_SP_compare_16 : decode b_SP_compare 16 = .ok (.istore_n 2, 1) := by decide +kernel
theorem d_SP_compare_17 : decode b_SP_compare 17 = .ok (.iload_n 1, 1) := by decide +kernel
theorem d_SP_compare_18 : decode b_SP_compare 18 = .ok (.iconst 0, 1) := by decide +kernel
theorem d_SP_compare_19 : decode b_SP_compare 19 = .ok (.iload_n 2, 1) := by decide +kernel
theorem d_SP_compare_20 : decode b_SP_compare 20 = .ok (.iconst 1, 1) := by decide +kernel
theorem d_SP_compare_21 : decode b_SP_compare 21 = .ok (.isub, 1) := by decide +kernel
theorem d_SP_compare_22 : decode b_SP_compare 22 = .ok (.invokestatic 73, 3) := by decide +kernel
theorem d_SP_compare_25 : decode b_SP_compare 25 = .ok (.ifCond .ne 6, 3) := by decide +kernel
theorem d_SP_compare_28 : decode b_SP_compare 28 = .ok (.bipush (-101), 2) := by decide +kernel
theorem d_SP_compare_30 : decode b_SP_compare 30 = .ok (.ireturn, 1) := by decide +kernel
theorem d_SP_compare_31 : decode b_SP_compare 31 = .ok (.aload_n 0, 1) := by decide +kernel
theorem d_SP_compare_32 : decode b_SP_compare 32 = .ok (.invokevirtual 77, 3) := by decide +kernel
theorem d_SP_compare_35 : decode b_SP_compare 35 = .ok (.ifCond .eq 19, 3) := by decide +kernel
theorem d_SP_compare_38 : decode b_SP_compare 38 = .ok (.aload_n 0, 1) := by decide +kernel
theorem d_SP_compare_39 : decode b_SP_compare 39 = .ok (.getfield 38, 3) := by decide +kernel
theorem d_SP_compare_42 : decode b_SP_compare 42 = .ok (.aload_n 0, 1) := by decide +kernel
theorem d_SP_compare_43 : decode b_SP_compare 43 = .ok (.getfield 32, 3) := by decide +kernel
theorem d_SP_compare_46 : decode b_SP_compare 46 = .ok (.iload_n 1, 1) := by decide +kernel
theorem d_SP_compare_47 : decode b_SP_compare 47 = .ok (.aaload, 1) := by decide +kernel
theorem d_SP_compare_48 : decode b_SP_compare 48 = .ok (.invokevirtual 110, 3) := by decide +kernel
theorem d_SP_compare_51 : decode b_SP_compare 51 = .ok (.goto 5, 3) := by decide +kernel
theorem d_SP_compare_54 : decode b_SP_compare 54 = .ok (.bipush (-103), 2) := by decide +kernel
theorem d_SP_compare_56 : decode b_SP_compare 56 = .ok (.ireturn, 1) := by decide +kernel
theorem d_Pl_countTargetsOtherThan_0 : decode b_Pl_countTargetsOtherThan 0 = .ok (.iconst 0, 1) := by decide +kernel
theorem d_Pl_countTargetsOtherThan_1 : decode b_Pl_countTargetsOtherThan 1 = .ok (.istore_n 2, 1) := by decide +kernel
theorem d_Pl_countTargetsOtherThan_2 : decode b_Pl_countTargetsOtherThan 2 = .ok (.iconst 1, 1) := by decide +kernel
theorem d_Pl_countTargetsOtherThan_3 : decode b_Pl_countTargetsOtherThan 3 = .ok (.istore_n 3, 1) := by decide +kernel
theorem d_Pl_countTargetsOtherThan_4 : decode b_Pl_countTargetsOtherThan 4 = .ok (.iload_n 3, 1) := by decide +kernel
theorem d_Pl_countTargetsOtherThan_5 : decode b_Pl_countTargetsOtherThan 5 = .ok (.bipush 40, 2) := by decide +kernel
theorem d_Pl_countTargetsOtherThan_7 : decode b_Pl_countTargetsOtherThan 7 = .ok (.if_icmp .gt 21, 3) := by decide +kernel
theorem d_Pl_countTargetsOtherThan_10 : decode b_Pl_countTargetsOtherThan 10 = .ok (.aload_n 0, 1) := by decide +kernel
theorem d_Pl_countTargetsOtherThan_11 : decode b_Pl_countTargetsOtherThan 11 = .ok (.aload_n 1, 1) := by decide +kernel
theorem d_Pl_countTargetsOtherThan_12 : decode b_Pl_countTargetsOtherThan 12 = .ok (.iload_n 3, 1) := by decide +kernel
theorem d_Pl_countTargetsOtherThan_13 : decode b_Pl_countTargetsOtherThan 13 = .ok (.invokevirtual 60, 3) := by decide +kernel
theorem d_Pl_countTargetsOtherThan_16 : decode b_Pl_countTargetsOtherThan 16 = .ok (.ifCond .eq 6, 3) := by decide +kernel
theorem d_Pl_countTargetsOtherThan_19 : decode b_Pl_countTargetsOtherThan 19 = .ok (.iinc 2 1, 3) := by decide +kernel
theorem d_Pl_countTargetsOtherThan_22 : decode b_Pl_countTargetsOtherThan 22 = .ok (.iinc 3 1, 3) := by decide +kernel
theorem d_Pl_countTargetsOtherThan_25 : decode b_Pl_countTargetsOtherThan 25 = .ok (.goto (-21), 3) := by decide +kernel
theorem d_Pl_countTargetsOtherThan_28 : decode b_Pl_countTargetsOtherThan 28 = .ok (.iload_n 2, 1) := by decide +kernel
theorem d_Pl_countTargetsOtherThan_29 : decode b_Pl_countTargetsOtherThan 29 = .ok (.ireturn, 1) := by decide +kernel
theorem d_Pl_isOtherThan_0 : decode b_Pl_isOtherThan 0 = .ok (.iload_n 2, 1) := by decide +kernel
theorem d_Pl_isOtherThan_1 : decode b_Pl_isOtherThan 1 = .ok (.iconst 0, 1) := by decide +kernel
theorem d_Pl_isOtherThan_2 : decode b_Pl_isOtherThan 2 = .ok (.iconst 0, 1) := by decide +kernel
theorem d_Pl_isOtherThan_3 : decode b_Pl_isOtherThan 3 = .ok (.invokestatic 56, 3) := by decide +kernel
theorem d_Pl_isOtherThan_6 : decode b_Pl_isOtherThan 6 = .ok (.istore_n 3, 1) := by decide +kernel
theorem d_Pl_isOtherThan_7 : decode b_Pl_isOtherThan 7 = .ok (.iload_n 3, 1) := by decide +kernel
theorem d_Pl_isOtherThan_8 : decode b_Pl_isOtherThan 8 = .ok (.istore 4, 2) := by decide +kernel
theorem d_Pl_isOtherThan_10 : decode b_Pl_isOtherThan 10 = .ok (.iload 4, 2) := by decide +kernel
theorem d_Pl_isOtherThan_12 : decode b_Pl_isOtherThan 12 = .ok (.iload_n 3, 1) := by decide +kernel
theorem d_Pl_isOtherThan_13 : decode b_Pl_isOtherThan 13 = .ok (.bipush 12, 2) := by decide +kernel
theorem d_Pl_isOtherThan_15 : decode b_Pl_isOtherThan 15 = .ok (.iadd, 1) := by decide +kernel
theorem d_Pl_isOtherThan_16 : decode b_Pl_isOtherThan 16 = .ok (.if_icmp .ge 25, 3) := by decide +kernel
theorem d_Pl_isOtherThan_19 : decode b_Pl_isOtherThan 19 = .ok (.aload_n 0, 1) := by decide +kernel
theorem d_Pl_isOtherThan_20 : decode b_Pl_isOtherThan 20 = .ok (.getfield 11, 3) := by decide +kernel
theorem d_Pl_isOtherThan_23 : decode b_Pl_isOtherThan 23 = .ok (.iload 4, 2) := by decide +kernel
theorem d_Pl_isOtherThan_25 : decode b_Pl_isOtherThan 25 = .ok (.iaload, 1) := by decide +kernel
theorem d_Pl_isOtherThan_26 : decode b_Pl_isOtherThan 26 = .ok (.aload_n 1, 1) := by decide +kernel
theorem d_Pl_isOtherThan_27 : decode b_Pl_isOtherThan 27 = .ok (.iload 4, 2) := by decide +kernel
theorem d_Pl_isOtherThan_29 : decode b_Pl_isOtherThan 29 = .ok (.iaload, 1) := by decide +kernel
theorem d_Pl_isOtherThan_30 : decode b_Pl_isOtherThan 30 = .ok (.if_icmp .eq 5, 3) := by decide +kernel
theorem d_Pl_isOtherThan_33 : decode b_Pl_isOtherThan 33 = .ok (.iconst 1, 1) := by decide +kernel
theorem d_Pl_isOtherThan_34 : decode b_Pl_isOtherThan 34 = .ok (.ireturn, 1) := by decide +kernel
theorem d_Pl_isOtherThan_35 : decode b_Pl_isOtherThan 35 = .ok (.iinc 4 1, 3) := by decide +kernel
theorem d_Pl_isOtherThan_38 : decode b_Pl_isOtherThan 38 = .ok (.goto (-28), 3) := by decide +kernel
theorem d_Pl_isOtherThan_41 : decode b_Pl_isOtherThan 41 = .ok (.iconst 0, 1) := by decide +kernel
theorem d_Pl_isOtherThan_42 : decode b_Pl_isOtherThan 42 = .ok (.ireturn, 1) := by decide +kernel
theorem d_SP_swap_0 : decode b_SP_swap 0 = .ok (.iload_n 1, 1) := by decide +kernel
theorem d_SP_swap_1 : decode b_SP_swap 1 = .ok (.invokestatic 114, 3) := by decide +kernel
theorem d_SP_swap_4 : decode b_SP_swap 4 = .ok (.ifCond .eq 10, 3) := by decide +kernel
theorem d_SP_swap_7 : decode b_SP_swap 7 = .ok (.iload_n 2, 1) := by decide +kernel
theorem d_SP_swap_8 : decode b_SP_swap 8 = .ok (.invokestatic 114, 3) := by decide +kernel
theorem d_SP_swap_11 : decode b_SP_swap 11 = .ok (.ifCond .ne 6, 3) := by decide +kernel
theorem d_SP_swap_14 : decode b_SP_swap 14 = .ok (.bipush (-101), 2) := by decide +kernel
theorem d_SP_swap_16 : decode b_SP_swap 16 = .ok (.ireturn, 1) := by decide +kernel
theorem d_SP_swap_17 : decode b_SP_swap 17 = .ok (.aload_n 0, 1) := by decide +kernel
theorem d_SP_swap_18 : decode b_SP_swap 18 = .ok (.invokevirtual 77, 3) := by decide +kernel
theorem d_SP_swap_21 : decode b_SP_swap 21 = .ok (.ifCond .eq 15, 3) := by decide +kernel
theorem d_SP_swap_24 : decode b_SP_swap 24 = .ok (.aload_n 0, 1) := by decide +kernel
theorem d_SP_swap_25 : decode b_SP_swap 25 = .ok (.getfield 38, 3) := by decide +kernel
theorem d_SP_swap_28 : decode b_SP_swap 28 = .ok (.iload_n 1, 1) := by decide +kernel
theorem d_SP_swap_29 : decode b_SP_swap 29 = .ok (.iload_n 2, 1) := by decide +kernel
theorem d_SP_swap_30 : decode b_SP_swap 30 = .ok (.invokevirtual 117, 3) := by decide +kernel
theorem d_SP_swap_33 : decode b_SP_swap 33 = .ok (.goto 5, 3) := by decide +kernel
theorem d_SP_swap_36 : decode b_SP_swap 36 = .ok (.bipush (-103), 2) := by decide +kernel
theorem d_SP_swap_38 : decode b_SP_swap 38 = .ok (.ireturn, 1) := by decide +kernel
theorem d_SP_isBin_0 : decode b_SP_isBin 0 = .ok (.iload_n 0, 1) := by decide +kernel
theorem d_SP_isBin_1 : decode b_SP_isBin 1 = .ok (.iconst 1, 1) := by decide +kernel
theorem d_SP_isBin_2 : decode b_SP_isBin 2 = .ok (.bipush 60, 2) := by decide +kernel
theorem d_SP_isBin_4 : decode b_SP_isBin 4 = .ok (.invokestatic 73, 3) := by decide +kernel
theorem d_SP_isBin_7 : decode b_SP_isBin 7 = .ok (.ireturn, 1) := by decide +kernel
theorem d_Pl_exchange_0 : decode b_Pl_exchange 0 = .ok (.iconst 0, 1) := by decide +kernel
theorem d_Pl_exchange_1 : decode b_Pl_exchange 1 = .ok (.istore_n 3, 1) := by decide +kernel
theorem d_Pl_exchange_2 : decode b_Pl_exchange 2 = .ok (.iconst 0, 1) := by decide +kernel
theorem d_Pl_exchange_3 : decode b_Pl_exchange 3 = .ok (.istore 4, 2) := by decide +kernel
theorem d_Pl_exchange_5 : decode b_Pl_exchange 5 = .ok (.iload 4, 2) := by decide +kernel
theorem d_Pl_exchange_7 : decode b_Pl_exchange 7 = .ok (.sipush 480, 3) := by decide +kernel
theorem d_Pl_exchange_10 : decode b_Pl_exchange 10 = .ok (.if_icmp .ge 51, 3) := by decide +kernel
theorem d_Pl_exchange_13 : decode b_Pl_exchange 13 = .ok (.aload_n 0, 1) := by decide +kernel
theorem d_Pl_exchange_14 : decode b_Pl_exchange 14 = .ok (.getfield 11, 3) := by decide +kernel
theorem d_Pl_exchange_17 : decode b_Pl_exchange 17 = .ok (.iload 4, 2) := by decide +kernel
theorem d_Pl_exchange_19 : decode b_Pl_exchange 19 = .ok (.iaload, 1) := by decide +kernel
theorem d_Pl_exchange_20 : decode b_Pl_exchange 20 = .ok (.istore 5, 2) := by decide +kernel
theorem d_Pl_exchange_22 : decode b_Pl_exchange 22 = .ok (.iload 5, 2) := by decide +kernel
theorem d_Pl_exchange_24 : decode b_Pl_exchange 24 = .ok (.iload_n 1, 1) := by decide +kernel
theorem d_Pl_exchange_25 : decode b_Pl_exchange 25 = .ok (.if_icmp .eq 9, 3) := by decide +kernel
theorem d_Pl_exchange_28 : decode b_Pl_exchange 28 = .ok (.iload 5, 2) := by decide +kernel
theorem d_Pl_exchange_30 : decode b_Pl_exchange 30 = .ok (.iload_n 2, 1) := by decide +kernel
theorem d_Pl_exchange_31 : decode b_Pl_exchange 31 = .ok (.if_icmp .ne 24, 3) := by decide +kernel
theorem d_Pl_exchange_34 : decode b_Pl_exchange 34 = .ok (.aload_n 0, 1) := by decide +kernel
theorem d_Pl_exchange_35 : decode b_Pl_exchange 35 = .ok (.getfield 11, 3) := by decide +kernel
theorem d_Pl_exchange_38 : decode b_Pl_exchange 38 = .ok (.iload 4, 2) := by decide +kernel
theorem d_Pl_exchange_40 : decode b_Pl_exchange 40 = .ok (.iload 5, 2) := by decide +kernel
theorem d_Pl_exchange_42 : decode b_Pl_exchange 42 = .ok (.iload_n 1, 1) := by decide +kernel
theorem d_Pl_exchange_43 : decode b_Pl_exchange 43 = .ok (.if_icmp .ne 7, 3) := by decide +kernel
theorem d_Pl_exchange_46 : decode b_Pl_exchange 46 = .ok (.iload_n 2, 1) := by decide +kernel
theorem d_Pl_exchange_47 : decode b_Pl_exchange 47 = .ok (.goto 4, 3) := by decide +kernel
theorem d_Pl_exchange_50 : decode b_Pl_exchange 50 = .ok (.iload_n 1, 1) := by decide +kernel
theorem d_Pl_exchange_51 : decode b_Pl_exchange 51 = .ok (.iastore, 1) := by decide +kernel
theorem d_Pl_exchange_52 : decode b_Pl_exchange 52 = .ok (.iinc 3 1, 3) := by decide +kernel
theorem d_Pl_exchange_55 : decode b_Pl_exchange 55 = .ok (.iinc 4 1, 3) := by decide +kernel
theorem d_Pl_exchange_58 : decode b_Pl_exchange 58 = .ok (.goto (-53), 3) := by decide +kernel
theorem d_Pl_exchange_61 : decode b_Pl_exchange 61 = .ok (.iload_n 3, 1) := by decide +kernel
theorem d_Pl_exchange_62 : decode b_Pl_exchange 62 = .ok (.ireturn, 1) := by decide +kernel
theorem d_SP_overflow_0 : decode b_SP_overflow 0 = .ok (.iload_n 1, 1) := by decide +kernel
theorem d_SP_overflow_1 : decode b_SP_overflow 1 = .ok (.invokestatic 114, 3) := by decide +kernel
theorem d_SP_overflow_4 : decode b_SP_overflow 4 = .ok (.ifCond .ne 6, 3) := by decide +kernel
theorem d_SP_overflow_7 : decode b_SP_overflow 7 = .ok (.bipush (-101), 2) := by decide +kernel
theorem d_SP_overflow_9 : decode b_SP_overflow 9 = .ok (.ireturn, 1) := by decide +kernel
theorem d_SP_overflow_10 : decode b_SP_overflow 10 = .ok (.aload_n 0, 1) := by decide +kernel
theorem d_SP_overflow_11 : decode b_SP_overflow 11 = .ok (.invokevirtual 77, 3) := by decide +kernel
theorem d_SP_overflow_14 : decode b_SP_overflow 14 = .ok (.ifCond .eq 14, 3) := by decide +kernel
theorem d_SP_overflow_17 : decode b_SP_overflow 17 = .ok (.aload_n 0, 1) := by decide +kernel
theorem d_SP_overflow_18 : decode b_SP_overflow 18 = .ok (.getfield 38, 3) := by decide +kernel
theorem d_SP_overflow_21 : decode b_SP_overflow 21 = .ok (.iload_n 1, 1) := by decide +kernel
theorem d_SP_overflow_22 : decode b_SP_overflow 22 = .ok (.invokevirtual 120, 3) := by decide +kernel
theorem d_SP_overflow_25 : decode b_SP_overflow 25 = .ok (.goto 5, 3) := by decide +kernel
theorem d_SP_overflow_28 : decode b_SP_overflow 28 = .ok (.bipush (-103), 2) := by decide +kernel
theorem d_SP_overflow_30 : decode b_SP_overflow 30 = .ok (.ireturn, 1) := by decide +kernel
theorem d_Pl_endOfGoingOn_0 : decode b_Pl_endOfGoingOn 0 = .ok (.iload_n 1, 1) := by decide +kernel
theorem d_Pl_endOfGoingOn_1 : decode b_Pl_endOfGoingOn 1 = .ok (.istore_n 2, 1) := by decide +kernel
theorem d_Pl_endOfGoingOn_2 : decode b_Pl_endOfGoingOn 2 = .ok (.iconst 0, 1) := by decide +kernel
theorem d_Pl_endOfGoingOn_3 : decode b_Pl_endOfGoingOn 3 = .ok (.istore_n 3, 1) := by decide +kernel
theorem d_Pl_endOfGoingOn_4 : decode b_Pl_endOfGoingOn 4 = .ok (.iload_n 3, 1) := by decide +kernel
theorem d_Pl_endOfGoingOn_5 : decode b_Pl_endOfGoingOn 5 = .ok (.bipush 60, 2) := by decide +kernel
theorem d_Pl_endOfGoingOn_7 : decode b_Pl_endOfGoingOn 7 = .ok (.if_icmp .ge 27, 3) := by decide +kernel
theorem d_Pl_endOfGoingOn_10 : decode b_Pl_endOfGoingOn 10 = .ok (.aload_n 0, 1) := by decide +kernel
theorem d_Pl_endOfGoingOn_11 : decode b_Pl_endOfGoingOn 11 = .ok (.getfield 27, 3) := by decide +kernel
theorem d_Pl_endOfGoingOn_14 : decode b_Pl_endOfGoingOn 14 = .ok (.iload_n 2, 1) := by decide +kernel
theorem d_Pl_endOfGoingOn_15 : decode b_Pl_endOfGoingOn 15 = .ok (.iaload, 1) := by decide +kernel
theorem d_Pl_endOfGoingOn_16 : decode b_Pl_endOfGoingOn 16 = .ok (.ifCond .ne 5, 3) := by decide +kernel
theorem d_Pl_endOfGoingOn_19 : decode b_Pl_endOfGoingOn 19 = .ok (.iload_n 2, 1) := by decide +kernel
theorem d_Pl_endOfGoingOn_20 : decode b_Pl_endOfGoingOn 20 = .ok (.ireturn, 1) := by decide +kernel
theorem d_Pl_endOfGoingOn_21 : decode b_Pl_endOfGoingOn 21 = .ok (.aload_n 0, 1) := by decide +kernel
theorem d_Pl_endOfGoingOn_22 : decode b_Pl_endOfGoingOn 22 = .ok (.getfield 27, 3) := by decide +kernel
theorem d_Pl_endOfGoingOn_25 : decode b_Pl_endOfGoingOn 25 = .ok (.iload_n 2, 1) := by decide +kernel
theorem d_Pl_endOfGoingOn_26 : decode b_Pl_endOfGoingOn 26 = .ok (.iaload, 1) := by decide +kernel
theorem d_Pl_endOfGoingOn_27 : decode b_Pl_endOfGoingOn 27 = .ok (.istore_n 2, 1) := by decide +kernel
theorem d_Pl_endOfGoingOn_28 : decode b_Pl_endOfGoingOn 28 = .ok (.iinc 3 1, 3) := by decide +kernel
theorem d_Pl_endOfGoingOn_31 : decode b_Pl_endOfGoingOn 31 = .ok (.goto (-27), 3) := by decide +kernel
theorem d_Pl_endOfGoingOn_34 : decode b_Pl_endOfGoingOn 34 = .ok (.iconst (-1), 1) := by decide +kernel
theorem d_Pl_endOfGoingOn_35 : decode b_Pl_endOfGoingOn 35 = .ok (.ireturn, 1) := by decide +kernel
theorem d_SP_print_0 : decode b_SP_print 0 = .ok (.aload_n 0, 1) := by decide +kernel
theorem d_SP_print_1 : decode b_SP_print 1 = .ok (.invokevirtual 77, 3) := by decide +kernel
theorem d_SP_print_4 : decode b_SP_print 4 = .ok (.ifCond .ne 5, 3) := by decide +kernel
theorem d_SP_print_7 : decode b_SP_print 7 = .ok (.iconst 0, 1) := by decide +kernel
theorem d_SP_print_8 : decode b_SP_print 8 = .ok (.ireturn, 1) := by decide +kernel
theorem d_SP_print_9 : decode b_SP_print 9 = .ok (.aload_n 0, 1) := by decide +kernel
theorem d_SP_print_10 : decode b_SP_print 10 = .ok (.getfield 26, 3) := by decide +kernel
theorem d_SP_print_13 : decode b_SP_print 13 = .ok (.aload_n 0, 1) := by decide +kernel
theorem d_SP_print_14 : decode b_SP_print 14 = .ok (.getfield 38, 3) := by decide +kernel
theorem d_SP_print_17 : decode b_SP_print 17 = .ok (.invokevirtual 124, 3) := by decide +kernel
theorem d_SP_print_20 : decode b_SP_print 20 = .ok (.aload_n 0, 1) := by decide +kernel
theorem d_SP_print_21 : decode b_SP_print 21 = .ok (.getfield 26, 3) := by decide +kernel
theorem d_SP_print_24 : decode b_SP_print 24 = .ok (.iload_n 1, 1) := by decide +kernel
theorem d_SP_print_25 : decode b_SP_print 25 = .ok (.invokevirtual 127, 3) := by decide +kernel
theorem d_SP_print_28 : decode b_SP_print 28 = .ok (.ireturn, 1) := by decide +kernel
theorem d_Sh_write_0 : decode b_Sh_write 0 = .ok (.aload_n 0, 1) := by decide +kernel
theorem d_Sh_write_1 : decode b_Sh_write 1 = .ok (.iconst 0, 1) := by decide +kernel
theorem d_Sh_write_2 : decode b_Sh_write 2 = .ok (.putfield 15, 3) := by decide +kernel
theorem d_Sh_write_5 : decode b_Sh_write 5 = .ok (.iconst 1, 1) := by decide +kernel
theorem d_Sh_write_6 : decode b_Sh_write 6 = .ok (.istore_n 2, 1) := by decide +kernel
theorem d_Sh_write_7 : decode b_Sh_write 7 = .ok (.iload_n 2, 1) := by decide +kernel
theorem d_Sh_write_8 : decode b_Sh_write 8 = .ok (.bipush 60, 2) := by decide +kernel
theorem d_Sh_write_10 : decode b_Sh_write 10 = .ok (.if_icmp .gt 15, 3) := by decide +kernel
theorem d_Sh_write_13 : decode b_Sh_write 13 = .ok (.aload_n 0, 1) := by decide +kernel
theorem d_Sh_write_14 : decode b_Sh_write 14 = .ok (.aload_n 1, 1) := by decide +kernel
theorem d_Sh_write_15 : decode b_Sh_write 15 = .ok (.iload_n 2, 1) := by decide +kernel
theorem d_Sh_write_16 : decode b_Sh_write 16 = .ok (.invokevirtual 19, 3) := by decide +kernel
theorem d_Sh_write_19 : decode b_Sh_write 19 = .ok (.iinc 2 1, 3) := by decide +kernel
theorem d_Sh_write_22 : decode b_Sh_write 22 = .ok (.goto (-15), 3) := by decide +kernel
theorem d_Sh_write_25 : decode b_Sh_write 25 = .ok (.return_, 1) := by decide +kernel
theorem d_Sh_writeBin_0 : decode b_Sh_writeBin 0 = .ok (.iconst 0, 1) := by decide +kernel
theorem d_Sh_writeBin_1 : decode b_Sh_writeBin 1 = .ok (.istore_n 3, 1) := by decide +kernel
theorem d_Sh_writeBin_2 : decode b_Sh_writeBin 2 = .ok (.iconst 1, 1) := by decide +kernel
theorem d_Sh_writeBin_3 : decode b_Sh_writeBin 3 = .ok (.istore 4, 2) := by decide +kernel
theorem d_Sh_writeBin_5 : decode b_Sh_writeBin 5 = .ok (.iload 4, 2) := by decide +kernel
theorem d_Sh_writeBin_7 : decode b_Sh_writeBin 7 = .ok (.bipush 40, 2) := by decide +kernel
theorem d_Sh_writeBin_9 : decode b_Sh_writeBin 9 = .ok (.if_icmp .gt 60, 3) := by decide +kernel
theorem d_Sh_writeBin_12 : decode b_Sh_writeBin 12 = .ok (.aload_n 1, 1) := by decide +kernel
theorem d_Sh_writeBin_13 : decode b_Sh_writeBin 13 = .ok (.getfield 23, 3) := by decide +kernel
theorem d_Sh_writeBin_16 : decode b_Sh_writeBin 16 = .ok (.iload 4, 2) := by decide +kernel
theorem d_Sh_writeBin_18 : decode b_Sh_writeBin 18 = .ok (.iconst 0, 1) := by decide +kernel
theorem d_Sh_writeBin_19 : decode b_Sh_writeBin 19 = .ok (.iconst 0, 1) := by decide +kernel
theorem d_Sh_writeBin_20 : decode b_Sh_writeBin 20 = .ok (.invokestatic 29, 3) := by decide +kernel
theorem d_Sh_writeBin_23 : decode b_Sh_writeBin 23 = .ok (.iaload, 1) := by decide +kernel
theorem d_Sh_writeBin_24 : decode b_Sh_writeBin 24 = .ok (.iload_n 2, 1) := by decide +kernel
theorem d_Sh_writeBin_25 : decode b_Sh_writeBin 25 = .ok (.if_icmp .eq 6, 3) := by decide +kernel
theorem d_Sh_writeBin_28 : decode b_Sh_writeBin 28 = .ok (.goto 35, 3) := by decide +kernel
theorem d_Sh_writeBin_31 : decode b_Sh_writeBin 31 = .ok (.iload_n 3, 1) := by decide +kernel
theorem d_Sh_writeBin_32 : decode b_Sh_writeBin 32 = .ok (.ifCond .eq 12, 3) := by decide +kernel
theorem d_Sh_writeBin_35 : decode b_Sh_writeBin 35 = .ok (.aload_n 0, 1) := by decide +kernel
theorem d_Sh_writeBin_36 : decode b_Sh_writeBin 36 = .ok (.bipush 44, 2) := by decide +kernel
theorem d_Sh_writeBin_38 : decode b_Sh_writeBin 38 = .ok (.invokevirtual 33, 3) := by decide +kernel
theorem d_Sh_writeBin_41 : decode b_Sh_writeBin 41 = .ok (.goto 16, 3) := by decide +kernel
theorem d_Sh_writeBin_44 : decode b_Sh_writeBin 44 = .ok (.aload_n 0, 1) := by decide +kernel
theorem d_Sh_writeBin_45 : decode b_Sh_writeBin 45 = .ok (.iload_n 2, 1) := by decide +kernel
theorem d_Sh_writeBin_46 : decode b_Sh_writeBin 46 = .ok (.invokevirtual 37, 3) := by decide +kernel
theorem d_Sh_writeBin_49 : decode b_Sh_writeBin 49 = .ok (.aload_n 0, 1) := by decide +kernel
theorem d_Sh_writeBin_50 : decode b_Sh_writeBin 50 = .ok (.bipush 58, 2) := by decide +kernel
theorem d_Sh_writeBin_52 : decode b_Sh_writeBin 52 = .ok (.invokevirtual 33, 3) := by decide +kernel
theorem d_Sh_writeBin_55 : decode b_Sh_writeBin 55 = .ok (.iconst 1, 1) := by decide +kernel
theorem d_Sh_writeBin_56 : decode b_Sh_writeBin 56 = .ok (.istore_n 3, 1) := by decide +kernel
theorem d_Sh_writeBin_57 : decode b_Sh_writeBin 57 = .ok (.aload_n 0, 1) := by decide +kernel
theorem d_Sh_writeBin_58 : decode b_Sh_writeBin 58 = .ok (.iload 4, 2) := by decide +kernel
theorem d_Sh_writeBin_60 : decode b_Sh_writeBin 60 = .ok (.invokevirtual 37, 3) := by decide +kernel
theorem d_Sh_writeBin_63 : decode b_Sh_writeBin 63 = .ok (.iinc 4 1, 3) := by decide +kernel
theorem d_Sh_writeBin_66 : decode b_Sh_writeBin 66 = .ok (.goto (-61), 3) := by decide +kernel
theorem d_Sh_writeBin_69 : decode b_Sh_writeBin 69 = .ok (.iload_n 3, 1) := by decide +kernel
theorem d_Sh_writeBin_70 : decode b_Sh_writeBin 70 = .ok (.ifCond .eq 9, 3) := by decide +kernel
theorem d_Sh_writeBin_73 : decode b_Sh_writeBin 73 = .ok (.aload_n 0, 1) := by decide +kernel
theorem d_Sh_writeBin_74 : decode b_Sh_writeBin 74 = .ok (.bipush 59, 2) := by decide +kernel
theorem d_Sh_writeBin_76 : decode b_Sh_writeBin 76 = .ok (.invokevirtual 33, 3) := by decide +kernel
theorem d_Sh_writeBin_79 : decode b_Sh_writeBin 79 = .ok (.return_, 1) := by decide +kernel
theorem d_Sh_put_0 : decode b_Sh_put 0 = .ok (.aload_n 0, 1) := by decide +kernel
theorem d_Sh_put_1 : decode b_Sh_put 1 = .ok (.getfield 15, 3) := by decide +kernel
theorem d_Sh_put_4 : decode b_Sh_put 4 = .ok (.sipush 240, 3) := by decide +kernel
theorem d_Sh_put_7 : decode b_Sh_put 7 = .ok (.if_icmp .ge 23, 3) := by decide +kernel
theorem d_Sh_put_10 : decode b_Sh_put 10 = .ok (.aload_n 0, 1) := by decide +kernel
theorem d_Sh_put_11 : decode b_Sh_put 11 = .ok (.getfield 11, 3) := by decide +kernel
theorem d_Sh_put_14 : decode b_Sh_put 14 = .ok (.aload_n 0, 1) := by decide +kernel
theorem d_Sh_put_15 : decode b_Sh_put 15 = .ok (.getfield 15, 3) := by decide +kernel
theorem d_Sh_put_18 : decode b_Sh_put 18 = .ok (.iload_n 1, 1) := by decide +kernel
theorem d_Sh_put_19 : decode b_Sh_put 19 = .ok (.castore, 1) := by decide +kernel
theorem d_Sh_put_20 : decode b_Sh_put 20 = .ok (.aload_n 0, 1) := by decide +kernel
theorem d_Sh_put_21 : decode b_Sh_put 21 = .ok (.dup, 1) := by decide +kernel
theorem d_Sh_put_22 : decode b_Sh_put 22 = .ok (.getfield 15, 3) := by decide +kernel
theorem d_Sh_put_25 : decode b_Sh_put 25 = .ok (.iconst 1, 1) := by decide +kernel
theorem d_Sh_put_26 : decode b_Sh_put 26 = .ok (.iadd, 1) := by decide +kernel
theorem d_Sh_put_27 : decode b_Sh_put 27 = .ok (.putfield 15, 3) := by decide +kernel
theorem d_Sh_put_30 : decode b_Sh_put 30 = .ok (.return_, 1) := by decide +kernel
theorem d_Sh_putNumber_0 : decode b_Sh_putNumber 0 = .ok (.iload_n 1, 1) := by decide +kernel
theorem d_Sh_putNumber_1 : decode b_Sh_putNumber 1 = .ok (.bipush 10, 2) := by decide +kernel
theorem d_Sh_putNumber_3 : decode b_Sh_putNumber 3 = .ok (.if_icmp .lt 15, 3) := by decide +kernel
theorem d_Sh_putNumber_6 : decode b_Sh_putNumber 6 = .ok (.aload_n 0, 1) := by decide +kernel
theorem d_Sh_putNumber_7 : decode b_Sh_putNumber 7 = .ok (.bipush 48, 2) := by decide +kernel
theorem d_Sh_putNumber_9 : decode b_Sh_putNumber 9 = .ok (.iload_n 1, 1) := by decide +kernel
theorem d_Sh_putNumber_10 : decode b_Sh_putNumber 10 = .ok (.bipush 10, 2) := by decide +kernel
theorem d_Sh_putNumber_12 : decode b_Sh_putNumber 12 = .ok (.idiv, 1) := by decide +kernel
theorem d_Sh_putNumber_13 : decode b_Sh_putNumber 13 = .ok (.iadd, 1) := by decide +kernel
theorem d_Sh_putNumber_14 : decode b_Sh_putNumber 14 = .ok (.i2c, 1) := by decide +kernel
theorem d_Sh_putNumber_15 : decode b_Sh_putNumber 15 = .ok (.invokevirtual 33, 3) := by decide +kernel
theorem d_Sh_putNumber_18 : decode b_Sh_putNumber 18 = .ok (.aload_n 0, 1) := by decide +kernel
theorem d_Sh_putNumber_19 : decode b_Sh_putNumber 19 = .ok (.bipush 48, 2) := by decide +kernel
theorem d_Sh_putNumber_21 : decode b_Sh_putNumber 21 = .ok (.iload_n 1, 1) := by decide +kernel
theorem d_Sh_putNumber_22 : decode b_Sh_putNumber 22 = .ok (.bipush 10, 2) := by decide +kernel
theorem d_Sh_putNumber_24 : decode b_Sh_putNumber 24 = .ok (.irem, 1) := by decide +kernel
theorem d_Sh_putNumber_25 : decode b_Sh_putNumber 25 = .ok (.iadd, 1) := by decide +kernel
theorem d_Sh_putNumber_26 : decode b_Sh_putNumber 26 = .ok (.i2c, 1) := by decide +kernel
theorem d_Sh_putNumber_27 : decode b_Sh_putNumber 27 = .ok (.invokevirtual 33, 3) := by decide +kernel
theorem d_Sh_putNumber_30 : decode b_Sh_putNumber 30 = .ok (.return_, 1) := by decide +kernel
theorem d_Sh_signAt_0 : decode b_Sh_signAt 0 = .ok (.iload_n 1, 1) := by decide +kernel
theorem d_Sh_signAt_1 : decode b_Sh_signAt 1 = .ok (.ifCond .lt 20, 3) := by decide +kernel
theorem d_Sh_signAt_4 : decode b_Sh_signAt 4 = .ok (.iload_n 1, 1) := by decide +kernel
theorem d_Sh_signAt_5 : decode b_Sh_signAt 5 = .ok (.aload_n 0, 1) := by decide +kernel
theorem d_Sh_signAt_6 : decode b_Sh_signAt 6 = .ok (.getfield 15, 3) := by decide +kernel
theorem d_Sh_signAt_9 : decode b_Sh_signAt 9 = .ok (.if_icmp .ge 12, 3) := by decide +kernel
theorem d_Sh_signAt_12 : decode b_Sh_signAt 12 = .ok (.aload_n 0, 1) := by decide +kernel
theorem d_Sh_signAt_13 : decode b_Sh_signAt 13 = .ok (.getfield 11, 3) := by decide +kernel
theorem d_Sh_signAt_16 : decode b_Sh_signAt 16 = .ok (.iload_n 1, 1) := by decide +kernel
theorem d_Sh_signAt_17 : decode b_Sh_signAt 17 = .ok (.caload, 1) := by decide +kernel
theorem d_Sh_signAt_18 : decode b_Sh_signAt 18 = .ok (.goto 4, 3) := by decide +kernel
theorem d_Sh_signAt_21 : decode b_Sh_signAt 21 = .ok (.iconst 0, 1) := by decide +kernel
theorem d_Sh_signAt_22 : decode b_Sh_signAt 22 = .ok (.ireturn, 1) := by decide +kernel
end
section
theorem d_Mo_init_0 : decode b_Mo_init 0 = .ok (.aload_n 0, 1) := by decide +kernel
theorem d_Mo_init_1 : decode b_Mo_init 1 = .ok (.invokespecial 1, 3) := by decide +kernel
theorem d_Mo_init_4 : decode b_Mo_init 4 = .ok (.aload_n 0, 1) := by decide +kernel
theorem d_Mo_init_5 : decode b_Mo_init 5 = .ok (.sipush 600, 3) := by decide +kernel
theorem d_Mo_init_8 : decode b_Mo_init 8 = .ok (.newarray .int, 2) := by decide +kernel
theorem d_Mo_init_10 : decode b_Mo_init 10 = .ok (.putfield 7, 3) := by decide +kernel
theorem d_Mo_init_13 : decode b_Mo_init 13 = .ok (.aload_n 0, 1) := by decide +kernel
theorem d_Mo_init_14 : decode b_Mo_init 14 = .ok (.sipush 4920, 3) := by decide +kernel
theorem d_Mo_init_17 : decode b_Mo_init 17 = .ok (.newarray .int, 2) := by decide +kernel
theorem d_Mo_init_19 : decode b_Mo_init 19 = .ok (.putfield 13, 3) := by decide +kernel
theorem d_Mo_init_22 : decode b_Mo_init 22 = .ok (.aload_n 0, 1) := by decide +kernel
theorem d_Mo_init_23 : decode b_Mo_init 23 = .ok (.sipush 492, 3) := by decide +kernel
theorem d_Mo_init_26 : decode b_Mo_init 26 = .ok (.newarray .boolean, 2) := by decide +kernel
theorem d_Mo_init_28 : decode b_Mo_init 28 = .ok (.putfield 16, 3) := by decide +kernel
theorem d_Mo_init_31 : decode b_Mo_init 31 = .ok (.aload_n 0, 1) := by decide +kernel
theorem d_Mo_init_32 : decode b_Mo_init 32 = .ok (.sipush 492, 3) := by decide +kernel
theorem d_Mo_init_35 : decode b_Mo_init 35 = .ok (.newarray .boolean, 2) := by decide +kernel
theorem d_Mo_init_37 : decode b_Mo_init 37 = .ok (.putfield 20, 3) := by decide +kernel
theorem d_Mo_init_40 : decode b_Mo_init 40 = .ok (.aload_n 0, 1) := by decide +kernel
theorem d_Mo_init_41 : decode b_Mo_init 41 = .ok (.sipush 600, 3) := by decide +kernel
theorem d_Mo_init_44 : decode b_Mo_init 44 = .ok (.newarray .int, 2) := by decide +kernel
theorem d_Mo_init_46 : decode b_Mo_init 46 = .ok (.putfield 23, 3) := by decide +kernel
theorem d_Mo_init_49 : decode b_Mo_init 49 = .ok (.aload_n 0, 1) := by decide +kernel
theorem d_Mo_init_50 : decode b_Mo_init 50 = .ok (.sipush 600, 3) := by decide +kernel
theorem d_Mo_init_53 : decode b_Mo_init 53 = .ok (.newarray .int, 2) := by decide +kernel
theorem d_Mo_init_55 : decode b_Mo_init 55 = .ok (.putfield 26, 3) := by decide +kernel
theorem d_Mo_init_58 : decode b_Mo_init 58 = .ok (.aload_n 0, 1) := by decide +kernel
theorem d_Mo_init_59 : decode b_Mo_init 59 = .ok (.bipush 61, 2) := by decide +kernel
theorem d_Mo_init_61 : decode b_Mo_init 61 = .ok (.newarray .int, 2) := by decide +kernel
theorem d_Mo_init_63 : decode b_Mo_init 63 = .ok (.putfield 29, 3) := by decide +kernel
theorem d_Mo_init_66 : decode b_Mo_init 66 = .ok (.aload_n 0, 1) := by decide +kernel
theorem d_Mo_init_67 : decode b_Mo_init 67 = .ok (.bipush 61, 2) := by decide +kernel
theorem d_Mo_init_69 : decode b_Mo_init 69 = .ok (.newarray .int, 2) := by decide +kernel
theorem d_Mo_init_71 : decode b_Mo_init 71 = .ok (.putfield 32, 3) := by decide +kernel
theorem d_Mo_init_74 : decode b_Mo_init 74 = .ok (.aload_n 0, 1) := by decide +kernel
theorem d_Mo_init_75 : decode b_Mo_init 75 = .ok (.bipush 41, 2) := by decide +kernel
theorem d_Mo_init_77 : decode b_Mo_init 77 = .ok (.newarray .boolean, 2) := by decide +kernel
theorem d_Mo_init_79 : decode b_Mo_init 79 = .ok (.putfield 35, 3) := by decide +kernel
theorem d_Mo_init_82 : decode b_Mo_init 82 = .ok (.aload_n 0, 1) := by decide +kernel
theorem d_Mo_init_83 : decode b_Mo_init 83 = .ok (.sipush 500, 3) := by decide +kernel
theorem d_Mo_init_86 : decode b_Mo_init 86 = .ok (.newarray .int, 2) := by decide +kernel
theorem d_Mo_init_88 : decode b_Mo_init 88 = .ok (.putfield 38, 3) := by decide +kernel
theorem d_Mo_init_91 : decode b_Mo_init 91 = .ok (.aload_n 0, 1) := by decide +kernel
theorem d_Mo_init_92 : decode b_Mo_init 92 = .ok (.sipush 2000, 3) := by decide +kernel
theorem d_Mo_init_95 : decode b_Mo_init 95 = .ok (.newarray .int, 2) := by decide +kernel
theorem d_Mo_init_97 : decode b_Mo_init 97 = .ok (.putfield 41, 3) := by decide +kernel
theorem d_Mo_init_100 : decode b_Mo_init 100 = .ok (.aload_n 0, 1) := by decide +kernel
theorem d_Mo_init_101 : decode b_Mo_init 101 = .ok (.iconst 0, 1) := by decide +kernel
theorem d_Mo_init_102 : decode b_Mo_init 102 = .ok (.putfield 44, 3) := by decide +kernel
theorem d_Mo_init_105 : decode b_Mo_init 105 = .ok (.return_, 1) := by decide +kernel
theorem d_Mo_sign_0 : decode b_Mo_sign 0 = .ok (.aload_n 0, 1) := by decide +kernel
theorem d_Mo_sign_1 : decode b_Mo_sign 1 = .ok (.iconst 0, 1) := by decide +kernel
theorem d_Mo_sign_2 : decode b_Mo_sign 2 = .ok (.putfield 48, 3) := by decide +kernel
theorem d_Mo_sign_5 : decode b_Mo_sign 5 = .ok (.aload_n 0, 1) := by decide +kernel
theorem d_Mo_sign_6 : decode b_Mo_sign 6 = .ok (.getfield 44, 3) := by decide +kernel
theorem d_Mo_sign_9 : decode b_Mo_sign 9 = .ok (.sipush 600, 3) := by decide +kernel
theorem d_Mo_sign_12 : decode b_Mo_sign 12 = .ok (.if_icmp .ge 35, 3) := by decide +kernel
theorem d_Mo_sign_15 : decode b_Mo_sign 15 = .ok (.iload_n 1, 1) := by decide +kernel
theorem d_Mo_sign_16 : decode b_Mo_sign 16 = .ok (.bipush 32, 2) := by decide +kernel
theorem d_Mo_sign_18 : decode b_Mo_sign 18 = .ok (.if_icmp .lt 29, 3) := by decide +kernel
theorem d_Mo_sign_21 : decode b_Mo_sign 21 = .ok (.iload_n 1, 1) := by decide +kernel
theorem d_Mo_sign_22 : decode b_Mo_sign 22 = .ok (.bipush 126, 2) := by decide +kernel
theorem d_Mo_sign_24 : decode b_Mo_sign 24 = .ok (.if_icmp .gt 23, 3) := by decide +kernel
theorem d_Mo_sign_27 : decode b_Mo_sign 27 = .ok (.aload_n 0, 1) := by decide +kernel
theorem d_Mo_sign_28 : decode b_Mo_sign 28 = .ok (.getfield 7, 3) := by decide +kernel
theorem d_Mo_sign_31 : decode b_Mo_sign 31 = .ok (.aload_n 0, 1) := by decide +kernel
theorem d_Mo_sign_32 : decode b_Mo_sign 32 = .ok (.getfield 44, 3) := by decide +kernel
theorem d_Mo_sign_35 : decode b_Mo_sign 35 = .ok (.iload_n 1, 1) := by decide +kernel
theorem d_Mo_sign_36 : decode b_Mo_sign 36 = .ok (.iastore, 1) := by decide +kernel
theorem d_Mo_sign_37 : decode b_Mo_sign 37 = .ok (.aload_n 0, 1) := by decide +kernel
theorem d_Mo_sign_38 : decode b_Mo_sign 38 = .ok (.dup, 1) := by decide +kernel
theorem d_Mo_sign_39 : decode b_Mo_sign 39 = .ok (.getfield 44, 3) := by decide +kernel
theorem d_Mo_sign_42 : decode b_Mo_sign 42 = .ok (.iconst 1, 1) := by decide +kernel
theorem d_Mo_sign_43 : decode b_Mo_sign 43 = .ok (.iadd, 1) := by decide +kernel
theorem d_Mo_sign_44 : decode b_Mo_sign 44 = .ok (.putfield 44, 3) := by decide +kernel
theorem d_Mo_sign_47 : decode b_Mo_sign 47 = .ok (.return_, 1) := by decide +kernel
theorem d_Mo_read_0 : decode b_Mo_read 0 = .ok (.aload_n 0, 1) := by decide +kernel
theorem d_Mo_read_1 : decode b_Mo_read 1 = .ok (.iconst 0, 1) := by decide +kernel
theorem d_Mo_read_2 : decode b_Mo_read 2 = .ok (.putfield 48, 3) := by decide +kernel
theorem d_Mo_read_5 : decode b_Mo_read 5 = .ok (.aload_n 0, 1) := by decide +kernel
theorem d_Mo_read_6 : decode b_Mo_read 6 = .ok (.iconst 0, 1) := by decide +kernel
theorem d_Mo_read_7 : decode b_Mo_read 7 = .ok (.putfield 51, 3) := by decide +kernel
theorem d_Mo_read_10 : decode b_Mo_read 10 = .ok (.aload_n 0, 1) := by decide +kernel
theorem d_Mo_read_11 : decode b_Mo_read 11 = .ok (.iconst (-1), 1) := by decide +kernel
theorem d_Mo_read_12 : decode b_Mo_read 12 = .ok (.putfield 54, 3) := by decide +kernel
theorem d_Mo_read_15 : decode b_Mo_read 15 = .ok (.aload_n 0, 1) := by decide +kernel
theorem d_Mo_read_16 : decode b_Mo_read 16 = .ok (.iconst 0, 1) := by decide +kernel
theorem d_Mo_read_17 : decode b_Mo_read 17 = .ok (.putfield 72, 3) := by decide +kernel
theorem d_Mo_read_20 : decode b_Mo_read 20 = .ok (.iconst 0, 1) := by decide +kernel
theorem d_Mo_read_21 : decode b_Mo_read 21 = .ok (.istore_n 1, 1) := by decide +kernel
theorem d_Mo_read_22 : decode b_Mo_read 22 = .ok (.iload_n 1, 1) := by decide +kernel
theorem d_Mo_read_23 : decode b_Mo_read 23 = .ok (.sipush 492, 3) := by decide +kernel
theorem d_Mo_read_26 : decode b_Mo_read 26 = .ok (.if_icmp .ge 27, 3) := by decide +kernel
theorem d_Mo_read_29 : decode b_Mo_read 29 = .ok (.aload_n 0, 1) := by decide +kernel
theorem d_Mo_read_30 : decode b_Mo_read 30 = .ok (.getfield 13, 3) := by decide +kernel
theorem d_Mo_read_33 : decode b_Mo_read 33 = .ok (.sipush 4428, 3) := by decide +kernel
theorem d_Mo_read_36 : decode b_Mo_read 36 = .ok (.iload_n 1, 1) := by decide +kernel
theorem d_Mo_read_37 : decode b_Mo_read 37 = .ok (.iadd, 1) := by decide +kernel
theorem d_Mo_read_38 : decode b_Mo_read 38 = .ok (.iconst 0, 1) := by decide +kernel
theorem d_Mo_read_39 : decode b_Mo_read 39 = .ok (.iastore, 1) := by decide +kernel
theorem d_Mo_read_40 : decode b_Mo_read 40 = .ok (.aload_n 0, 1) := by decide +kernel
theorem d_Mo_read_41 : decode b_Mo_read 41 = .ok (.getfield 20, 3) := by decide +kernel
theorem d_Mo_read_44 : decode b_Mo_read 44 = .ok (.iload_n 1, 1) := by decide +kernel
theorem d_Mo_read_45 : decode b_Mo_read 45 = .ok (.iconst 0, 1) := by decide +kernel
theorem d_Mo_read_46 : decode b_Mo_read 46 = .ok (.bastore, 1) := by decide +kernel
theorem d_Mo_read_47 : decode b_Mo_read 47 = .ok (.iinc 1 1, 3) := by decide +kernel
theorem d_Mo_read_50 : decode b_Mo_read 50 = .ok (.goto (-28), 3) := by decide +kernel
theorem d_Mo_read_53 : decode b_Mo_read 53 = .ok (.iconst 0, 1) := by decide +kernel
theorem d_Mo_read_54 : decode b_Mo_read 54 = .ok (.istore_n 1, 1) := by decide +kernel
theorem d_Mo_read_55 : decode b_Mo_read 55 = .ok (.iload_n 1, 1) := by decide +kernel
theorem d_Mo_read_56 : decode b_Mo_read 56 = .ok (.bipush 61, 2) := by decide +kernel
theorem d_Mo_read_58 : decode b_Mo_read 58 = .ok (.if_icmp .ge 16, 3) := by decide +kernel
theorem d_Mo_read_61 : decode b_Mo_read 61 = .ok (.aload_n 0, 1) := by decide +kernel
theorem d_Mo_read_62 : decode b_Mo_read 62 = .ok (.getfield 32, 3) := by decide +kernel
theorem d_Mo_read_65 : decode b_Mo_read 65 = .ok (.iload_n 1, 1) := by decide +kernel
theorem d_Mo_read_66 : decode b_Mo_read 66 = .ok (.iconst 0, 1) := by decide +kernel
theorem d_Mo_read_67 : decode b_Mo_read 67 = .ok (.iastore, 1) := by decide +kernel
theorem d_Mo_read_68 : decode b_Mo_read 68 = .ok (.iinc 1 1, 3) := by decide +kernel
theorem d_Mo_read_71 : decode b_Mo_read 71 = .ok (.goto (-16), 3) := by decide +kernel
theorem d_Mo_read_74 : decode b_Mo_read 74 = .ok (.aload_n 0, 1) := by decide +kernel
theorem d_Mo_read_75 : decode b_Mo_read 75 = .ok (.invokevirtual 88, 3) := by decide +kernel
theorem d_Mo_read_78 : decode b_Mo_read 78 = .ok (.istore_n 1, 1) := by decide +kernel
theorem d_Mo_read_79 : decode b_Mo_read 79 = .ok (.aload_n 0, 1) := by decide +kernel
theorem d_Mo_read_80 : decode b_Mo_read 80 = .ok (.getfield 54, 3) := by decide +kernel
theorem d_Mo_read_83 : decode b_Mo_read 83 = .ok (.ifCond .ge 20, 3) := by decide +kernel
theorem d_Mo_read_86 : decode b_Mo_read 86 = .ok (.aload_n 0, 1) := by decide +kernel
theorem d_Mo_read_87 : decode b_Mo_read 87 = .ok (.getfield 91, 3) := by decide +kernel
theorem d_Mo_read_90 : decode b_Mo_read 90 = .ok (.bipush 8, 2) := by decide +kernel
theorem d_Mo_read_92 : decode b_Mo_read 92 = .ok (.if_icmp .ne 11, 3) := by decide +kernel
theorem d_Mo_read_95 : decode b_Mo_read 95 = .ok (.aload_n 0, 1) := by decide +kernel
theorem d_Mo_read_96 : decode b_Mo_read 96 = .ok (.aload_n 0, 1) := by decide +kernel
theorem d_Mo_read_97 : decode b_Mo_read 97 = .ok (.getfield 44, 3) := by decide +kernel
theorem d_Mo_read_100 : decode b_Mo_read 100 = .ok (.putfield 54, 3) := by decide +kernel
theorem d_Mo_read_103 : decode b_Mo_read 103 = .ok (.aload_n 0, 1) := by decide +kernel
theorem d_Mo_read_104 : decode b_Mo_read 104 = .ok (.iconst 0, 1) := by decide +kernel
theorem d_Mo_read_105 : decode b_Mo_read 105 = .ok (.putfield 44, 3) := by decide +kernel
theorem d_Mo_read_108 : decode b_Mo_read 108 = .ok (.aload_n 0, 1) := by decide +kernel
theorem d_Mo_read_109 : decode b_Mo_read 109 = .ok (.getfield 54, 3) := by decide +kernel
theorem d_Mo_read_112 : decode b_Mo_read 112 = .ok (.ifCond .lt 10, 3) := by decide +kernel
theorem d_Mo_read_115 : decode b_Mo_read 115 = .ok (.iconst (-1), 1) := by decide +kernel
theorem d_Mo_read_116 : decode b_Mo_read 116 = .ok (.aload_n 0, 1) := by decide +kernel
theorem d_Mo_read_117 : decode b_Mo_read 117 = .ok (.getfield 54, 3) := by decide +kernel
theorem d_Mo_read_120 : decode b_Mo_read 120 = .ok (.isub, 1) := by decide +kernel
theorem d_Mo_read_121 : decode b_Mo_read 121 = .ok (.ireturn, 1) := by decide +kernel
theorem d_Mo_read_122 : decode b_Mo_read 122 = .ok (.iconst 0, 1) := by decide +kernel
theorem d_Mo_read_123 : decode b_Mo_read 123 = .ok (.istore_n 2, 1) := by decide +kernel
theorem d_Mo_read_124 : decode b_Mo_read 124 = .ok (.iload_n 2, 1) := by decide +kernel
theorem d_Mo_read_125 : decode b_Mo_read 125 = .ok (.sipush 492, 3) := by decide +kernel
theorem d_Mo_read_128 : decode b_Mo_read 128 = .ok (.if_icmp .ge 66, 3) := by decide +kernel
theorem d_Mo_read_131 : decode b_Mo_read 131 = .ok (.aload_n 0, 1) := by decide +kernel
theorem d_Mo_read_132 : decode b_Mo_read 132 = .ok (.getfield 13, 3) := by decide +kernel
theorem d_Mo_read_135 : decode b_Mo_read 135 = .ok (.sipush 492, 3) := by decide +kernel
theorem d_Mo_read_138 : decode b_Mo_read 138 = .ok (.aload_n 0, 1) := by decide +kernel
theorem d_Mo_read_139 : decode b_Mo_read 139 = .ok (.getfield 91, 3) := by decide +kernel
theorem d_Mo_read_142 : decode b_Mo_read 142 = .ok (.imul, 1) := by decide +kernel
theorem d_Mo_read_143 : decode b_Mo_read 143 = .ok (.iload_n 2, 1) := by decide +kernel
theorem d_Mo_read_144 : decode b_Mo_read 144 = .ok (.iadd, 1) := by decide +kernel
theorem d_Mo_read_145 : decode b_Mo_read 145 = .ok (.aload_n 0, 1) := by decide +kernel
theorem d_Mo_read_146 : decode b_Mo_read 146 = .ok (.getfield 13, 3) := by decide +kernel
theorem d_Mo_read_149 : decode b_Mo_read 149 = .ok (.sipush 4428, 3) := by decide +kernel
theorem d_Mo_read_152 : decode b_Mo_read 152 = .ok (.iload_n 2, 1) := by decide +kernel
theorem d_Mo_read_153 : decode b_Mo_read 153 = .ok (.iadd, 1) := by decide +kernel
theorem d_Mo_read_154 : decode b_Mo_read 154 = .ok (.iaload, 1) := by decide +kernel
theorem d_Mo_read_155 : decode b_Mo_read 155 = .ok (.iastore, 1) := by decide +kernel
theorem d_Mo_read_156 : decode b_Mo_read 156 = .ok (.aload_n 0, 1) := by decide +kernel
theorem d_Mo_read_157 : decode b_Mo_read 157 = .ok (.getfield 13, 3) := by decide +kernel
theorem d_Mo_read_160 : decode b_Mo_read 160 = .ok (.sipush 3936, 3) := by decide +kernel
theorem d_Mo_read_163 : decode b_Mo_read 163 = .ok (.iload_n 2, 1) := by decide +kernel
theorem d_Mo_read_164 : decode b_Mo_read 164 = .ok (.iadd, 1) := by decide +kernel
theorem d_Mo_read_165 : decode b_Mo_read 165 = .ok (.aload_n 0, 1) := by decide +kernel
theorem d_Mo_read_166 : decode b_Mo_read 166 = .ok (.getfield 13, 3) := by decide +kernel
theorem d_Mo_read_169 : decode b_Mo_read 169 = .ok (.sipush 4428, 3) := by decide +kernel
theorem d_Mo_read_172 : decode b_Mo_read 172 = .ok (.iload_n 2, 1) := by decide +kernel
theorem d_Mo_read_173 : decode b_Mo_read 173 = .ok (.iadd, 1) := by decide +kernel
theorem d_Mo_read_174 : decode b_Mo_read 174 = .ok (.iaload, 1) := by decide +kernel
theorem d_Mo_read_175 : decode b_Mo_read 175 = .ok (.iastore, 1) := by decide +kernel
theorem d_Mo_read_176 : decode b_Mo_read 176 = .ok (.aload_n 0, 1) := by decide +kernel
theorem d_Mo_read_177 : decode b_Mo_read 177 = .ok (.getfield 16, 3) := by decide +kernel
theorem d_Mo_read_180 : decode b_Mo_read 180 = .ok (.iload_n 2, 1) := by decide +kernel
theorem d_Mo_read_181 : decode b_Mo_read 181 = .ok (.aload_n 0, 1) := by decide +kernel
theorem d_Mo_read_182 : decode b_Mo_read 182 = .ok (.getfield 20, 3) := by decide +kernel
theorem d_Mo_read_185 : decode b_Mo_read 185 = .ok (.iload_n 2, 1) := by decide +kernel
theorem d_Mo_read_186 : decode b_Mo_read 186 = .ok (.baload, 1) := by decide +kernel
theorem d_Mo_read_187 : decode b_Mo_read 187 = .ok (.bastore, 1) := by decide +kernel
theorem d_Mo_read_188 : decode b_Mo_read 188 = .ok (.iinc 2 1, 3) := by decide +kernel
theorem d_Mo_read_191 : decode b_Mo_read 191 = .ok (.goto (-67), 3) := by decide +kernel
theorem d_Mo_read_194 : decode b_Mo_read 194 = .ok (.aload_n 0, 1) := by decide +kernel
theorem d_Mo_read_195 : decode b_Mo_read 195 = .ok (.aload_n 0, 1) := by decide +kernel
theorem d_Mo_read_196 : decode b_Mo_read 196 = .ok (.getfield 72, 3) := by decide +kernel
theorem d_Mo_read_199 : decode b_Mo_read 199 = .ok (.putfield 94, 3) := by decide +kernel
theorem d_Mo_read_202 : decode b_Mo_read 202 = .ok (.iconst 0, 1) := by decide +kernel
theorem d_Mo_read_203 : decode b_Mo_read 203 = .ok (.istore_n 2, 1) := by decide +kernel
theorem d_Mo_read_204 : decode b_Mo_read 204 = .ok (.iload_n 2, 1) := by decide +kernel
theorem d_Mo_read_205 : decode b_Mo_read 205 = .ok (.iconst 4, 1) := by decide +kernel
theorem d_Mo_read_206 : decode b_Mo_read 206 = .ok (.aload_n 0, 1) := by decide +kernel
theorem d_Mo_read_207 : decode b_Mo_read 207 = .ok (.getfield 94, 3) := by decide +kernel
theorem d_Mo_read_210 : decode b_Mo_read 210 = .ok (.imul, 1) := by decide +kernel
theorem d_Mo_read_211 : decode b_Mo_read 211 = .ok (.if_icmp .ge 21, 3) := by decide +kernel
theorem d_Mo_read_214 : decode b_Mo_read 214 = .ok (.aload_n 0, 1) := by decide +kernel
theorem d_Mo_read_215 : decode b_Mo_read 215 = .ok (.getfield 23, 3) := by decide +kernel
theorem d_Mo_read_218 : decode b_Mo_read 218 = .ok (.iload_n 2, 1) := by decide +kernel
theorem d_Mo_read_219 : decode b_Mo_read 219 = .ok (.aload_n 0, 1) := by decide +kernel
theorem d_Mo_read_220 : decode b_Mo_read 220 = .ok (.getfield 26, 3) := by decide +kernel
theorem d_Mo_read_223 : decode b_Mo_read 223 = .ok (.iload_n 2, 1) := by decide +kernel
theorem d_Mo_read_224 : decode b_Mo_read 224 = .ok (.iaload, 1) := by decide +kernel
theorem d_Mo_read_225 : decode b_Mo_read 225 = .ok (.iastore, 1) := by decide +kernel
theorem d_Mo_read_226 : decode b_Mo_read 226 = .ok (.iinc 2 1, 3) := by decide +kernel
theorem d_Mo_read_229 : decode b_Mo_read 229 = .ok (.goto (-25), 3) := by decide +kernel
theorem d_Mo_read_232 : decode b_Mo_read 232 = .ok (.iconst 0, 1) := by decide +kernel
theorem d_Mo_read_233 : decode b_Mo_read 233 = .ok (.istore_n 2, 1) := by decide +kernel
theorem d_Mo_read_234 : decode b_Mo_read 234 = .ok (.iload_n 2, 1) := by decide +kernel
theorem d_Mo_read_235 : decode b_Mo_read 235 = .ok (.bipush 61, 2) := by decide +kernel
theorem d_Mo_read_237 : decode b_Mo_read 237 = .ok (.if_icmp .ge 21, 3) := by decide +kernel
theorem d_Mo_read_240 : decode b_Mo_read 240 = .ok (.aload_n 0, 1) := by decide +kernel
theorem d_Mo_read_241 : decode b_Mo_read 241 = .ok (.getfield 29, 3) := by decide +kernel
theorem d_Mo_read_244 : decode b_Mo_read 244 = .ok (.iload_n 2, 1) := by decide +kernel
theorem d_Mo_read_245 : decode b_Mo_read 245 = .ok (.aload_n 0, 1) := by decide +kernel
theorem d_Mo_read_246 : decode b_Mo_read 246 = .ok (.getfield 32, 3) := by decide +kernel
theorem d_Mo_read_249 : decode b_Mo_read 249 = .ok (.iload_n 2, 1) := by decide +kernel
theorem d_Mo_read_250 : decode b_Mo_read 250 = .ok (.iaload, 1) := by decide +kernel
theorem d_Mo_read_251 : decode b_Mo_read 251 = .ok (.iastore, 1) := by decide +kernel
theorem d_Mo_read_252 : decode b_Mo_read 252 = .ok (.iinc 2 1, 3) := by decide +kernel
theorem d_Mo_read_255 : decode b_Mo_read 255 = .ok (.goto (-21), 3) := by decide +kernel
theorem d_Mo_read_258 : decode b_Mo_read 258 = .ok (.iconst 0, 1) := by decide +kernel
theorem d_Mo_read_259 : decode b_Mo_read 259 = .ok (.istore_n 2, 1) := by decide +kernel
theorem d_Mo_read_260 : decode b_Mo_read 260 = .ok (.iload_n 2, 1) := by decide +kernel
theorem d_Mo_read_261 : decode b_Mo_read 261 = .ok (.bipush 41, 2) := by decide +kernel
theorem d_Mo_read_263 : decode b_Mo_read 263 = .ok (.if_icmp .ge 16, 3) := by decide +kernel
theorem d_Mo_read_266 : decode b_Mo_read 266 = .ok (.aload_n 0, 1) := by decide +kernel
theorem d_Mo_read_267 : decode b_Mo_read 267 = .ok (.getfield 35, 3) := by decide +kernel
theorem d_Mo_read_270 : decode b_Mo_read 270 = .ok (.iload_n 2, 1) := by decide +kernel
theorem d_Mo_read_271 : decode b_Mo_read 271 = .ok (.iconst 0, 1) := by decide +kernel
theorem d_Mo_read_272 : decode b_Mo_read 272 = .ok (.bastore, 1) := by decide +kernel
theorem d_Mo_read_273 : decode b_Mo_read 273 = .ok (.iinc 2 1, 3) := by decide +kernel
theorem d_Mo_read_276 : decode b_Mo_read 276 = .ok (.goto (-16), 3) := by decide +kernel
theorem d_Mo_read_279 : decode b_Mo_read 279 = .ok (.aload_n 0, 1) := by decide +kernel
theorem d_Mo_read_280 : decode b_Mo_read 280 = .ok (.dup, 1) := by decide +kernel
theorem d_Mo_read_281 : decode b_Mo_read 281 = .ok (.getfield 91, 3) := by decide +kernel
theorem d_Mo_read_284 : decode b_Mo_read 284 = .ok (.iconst 1, 1) := by decide +kernel
theorem d_Mo_read_285 : decode b_Mo_read 285 = .ok (.iadd, 1) := by decide +kernel
theorem d_Mo_read_286 : decode b_Mo_read 286 = .ok (.putfield 91, 3) := by decide +kernel
theorem d_Mo_read_289 : decode b_Mo_read 289 = .ok (.iload_n 1, 1) := by decide +kernel
theorem d_Mo_read_290 : decode b_Mo_read 290 = .ok (.ireturn, 1) := by decide +kernel
theorem d_Mo_readAll_0 : decode b_Mo_readAll 0 = .ok (.iconst 0, 1) := by decide +kernel
theorem d_Mo_readAll_1 : decode b_Mo_readAll 1 = .ok (.istore_n 1, 1) := by decide +kernel
theorem d_Mo_readAll_2 : decode b_Mo_readAll 2 = .ok (.aload_n 0, 1) := by decide +kernel
theorem d_Mo_readAll_3 : decode b_Mo_readAll 3 = .ok (.getfield 54, 3) := by decide +kernel
theorem d_Mo_readAll_6 : decode b_Mo_readAll 6 = .ok (.ifCond .ge 86, 3) := by decide +kernel
theorem d_Mo_readAll_9 : decode b_Mo_readAll 9 = .ok (.aload_n 0, 1) := by decide +kernel
theorem d_Mo_readAll_10 : decode b_Mo_readAll 10 = .ok (.getfield 51, 3) := by decide +kernel
theorem d_Mo_readAll_13 : decode b_Mo_readAll 13 = .ok (.aload_n 0, 1) := by decide +kernel
theorem d_Mo_readAll_14 : decode b_Mo_readAll 14 = .ok (.getfield 44, 3) := by decide +kernel
theorem d_Mo_readAll_17 : decode b_Mo_readAll 17 = .ok (.if_icmp .ge 75, 3) := by decide +kernel
theorem d_Mo_readAll_20 : decode b_Mo_readAll 20 = .ok (.aload_n 0, 1) := by decide +kernel
theorem d_Mo_readAll_21 : decode b_Mo_readAll 21 = .ok (.getfield 51, 3) := by decide +kernel
theorem d_Mo_readAll_24 : decode b_Mo_readAll 24 = .ok (.istore_n 2, 1) := by decide +kernel
theorem d_Mo_readAll_25 : decode b_Mo_readAll 25 = .ok (.aload_n 0, 1) := by decide +kernel
theorem d_Mo_readAll_26 : decode b_Mo_readAll 26 = .ok (.invokevirtual 57, 3) := by decide +kernel
theorem d_Mo_readAll_29 : decode b_Mo_readAll 29 = .ok (.istore_n 3, 1) := by decide +kernel
theorem d_Mo_readAll_30 : decode b_Mo_readAll 30 = .ok (.aload_n 0, 1) := by decide +kernel
theorem d_Mo_readAll_31 : decode b_Mo_readAll 31 = .ok (.dup, 1) := by decide +kernel
theorem d_Mo_readAll_32 : decode b_Mo_readAll 32 = .ok (.getfield 51, 3) := by decide +kernel
theorem d_Mo_readAll_35 : decode b_Mo_readAll 35 = .ok (.iconst 1, 1) := by decide +kernel
theorem d_Mo_readAll_36 : decode b_Mo_readAll 36 = .ok (.iadd, 1) := by decide +kernel
theorem d_Mo_readAll_37 : decode b_Mo_readAll 37 = .ok (.putfield 51, 3) := by decide +kernel
theorem d_Mo_readAll_40 : decode b_Mo_readAll 40 = .ok (.iload_n 3, 1) := by decide +kernel
theorem d_Mo_readAll_41 : decode b_Mo_readAll 41 = .ok (.bipush 84, 2) := by decide +kernel
theorem d_Mo_readAll_43 : decode b_Mo_readAll 43 = .ok (.if_icmp .ne 10, 3) := by decide +kernel
theorem d_Mo_readAll_46 : decode b_Mo_readAll 46 = .ok (.aload_n 0, 1) := by decide +kernel
theorem d_Mo_readAll_47 : decode b_Mo_readAll 47 = .ok (.invokevirtual 79, 3) := by decide +kernel
theorem d_Mo_readAll_50 : decode b_Mo_readAll 50 = .ok (.goto 36, 3) := by decide +kernel
theorem d_Mo_readAll_53 : decode b_Mo_readAll 53 = .ok (.iload_n 3, 1) := by decide +kernel
theorem d_Mo_readAll_54 : decode b_Mo_readAll 54 = .ok (.bipush 66, 2) := by decide +kernel
theorem d_Mo_readAll_56 : decode b_Mo_readAll 56 = .ok (.if_icmp .ne 11, 3) := by decide +kernel
theorem d_Mo_readAll_59 : decode b_Mo_readAll 59 = .ok (.aload_n 0, 1) := by decide +kernel
theorem d_Mo_readAll_60 : decode b_Mo_readAll 60 = .ok (.iload_n 2, 1) := by decide +kernel
theorem d_Mo_readAll_61 : decode b_Mo_readAll 61 = .ok (.invokevirtual 82, 3) := by decide +kernel
theorem d_Mo_readAll_64 : decode b_Mo_readAll 64 = .ok (.goto 22, 3) := by decide +kernel
theorem d_Mo_readAll_67 : decode b_Mo_readAll 67 = .ok (.iload_n 3, 1) := by decide +kernel
theorem d_Mo_readAll_68 : decode b_Mo_readAll 68 = .ok (.bipush 79, 2) := by decide +kernel
theorem d_Mo_readAll_70 : decode b_Mo_readAll 70 = .ok (.if_icmp .ne 11, 3) := by decide +kernel
theorem d_Mo_readAll_73 : decode b_Mo_readAll 73 = .ok (.aload_n 0, 1) := by decide +kernel
theorem d_Mo_readAll_74 : decode b_Mo_readAll 74 = .ok (.iload_n 2, 1) := by decide +kernel
theorem d_Mo_readAll_75 : decode b_Mo_readAll 75 = .ok (.invokevirtual 85, 3) := by decide +kernel
theorem d_Mo_readAll_78 : decode b_Mo_readAll 78 = .ok (.goto 8, 3) := by decide +kernel
theorem d_Mo_readAll_81 : decode b_Mo_readAll 81 = .ok (.aload_n 0, 1) := by decide +kernel
theorem d_Mo_readAll_82 : decode b_Mo_readAll 82 = .ok (.iload_n 2, 1) := by decide +kernel
theorem d_Mo_readAll_83 : decode b_Mo_readAll 83 = .ok (.invokevirtual 61, 3) := by decide +kernel
theorem d_Mo_readAll_86 : decode b_Mo_readAll 86 = .ok (.iinc 1 1, 3) := by decide +kernel
theorem d_Mo_readAll_89 : decode b_Mo_readAll 89 = .ok (.goto (-87), 3) := by decide +kernel
theorem d_Mo_readAll_92 : decode b_Mo_readAll 92 = .ok (.iload_n 1, 1) := by decide +kernel
theorem d_Mo_readAll_93 : decode b_Mo_readAll 93 = .ok (.ireturn, 1) := by decide +kernel
theorem d_Mo_look_0 : decode b_Mo_look 0 = .ok (.aload_n 0, 1) := by decide +kernel
theorem d_Mo_look_1 : decode b_Mo_look 1 = .ok (.getfield 51, 3) := by decide +kernel
theorem d_Mo_look_4 : decode b_Mo_look 4 = .ok (.aload_n 0, 1) := by decide +kernel
theorem d_Mo_look_5 : decode b_Mo_look 5 = .ok (.getfield 44, 3) := by decide +kernel
theorem d_Mo_look_8 : decode b_Mo_look 8 = .ok (.if_icmp .ge 15, 3) := by decide +kernel
theorem d_Mo_look_11 : decode b_Mo_look 11 = .ok (.aload_n 0, 1) := by decide +kernel
theorem d_Mo_look_12 : decode b_Mo_look 12 = .ok (.getfield 7, 3) := by decide +kernel
theorem d_Mo_look_15 : decode b_Mo_look 15 = .ok (.aload_n 0, 1) := by decide +kernel
theorem d_Mo_look_16 : decode b_Mo_look 16 = .ok (.getfield 51, 3) := by decide +kernel
theorem d_Mo_look_19 : decode b_Mo_look 19 = .ok (.iaload, 1) := by decide +kernel
theorem d_Mo_look_20 : decode b_Mo_look 20 = .ok (.goto 4, 3) := by decide +kernel
theorem d_Mo_look_23 : decode b_Mo_look 23 = .ok (.iconst (-1), 1) := by decide +kernel
theorem d_Mo_look_24 : decode b_Mo_look 24 = .ok (.ireturn, 1) := by decide +kernel
theorem d_Mo_readTarget_0 : decode b_Mo_readTarget 0 = .ok (.aload_n 0, 1) := by decide +kernel
theorem d_Mo_readTarget_1 : decode b_Mo_readTarget 1 = .ok (.iconst 1, 1) := by decide +kernel
theorem d_Mo_readTarget_2 : decode b_Mo_readTarget 2 = .ok (.bipush 40, 2) := by decide +kernel
theorem d_Mo_readTarget_4 : decode b_Mo_readTarget 4 = .ok (.bipush 44, 2) := by decide +kernel
theorem d_Mo_readTarget_6 : decode b_Mo_readTarget 6 = .ok (.invokevirtual 68, 3) := by decide +kernel
theorem d_Mo_readTarget_9 : decode b_Mo_readTarget 9 = .ok (.istore_n 1, 1) := by decide +kernel
theorem d_Mo_readTarget_10 : decode b_Mo_readTarget 10 = .ok (.aload_n 0, 1) := by decide +kernel
theorem d_Mo_readTarget_11 : decode b_Mo_readTarget 11 = .ok (.iconst 0, 1) := by decide +kernel
theorem d_Mo_readTarget_12 : decode b_Mo_readTarget 12 = .ok (.sipush 9999, 3) := by decide +kernel
theorem d_Mo_readTarget_15 : decode b_Mo_readTarget 15 = .ok (.bipush 45, 2) := by decide +kernel
theorem d_Mo_readTarget_17 : decode b_Mo_readTarget 17 = .ok (.invokevirtual 68, 3) := by decide +kernel
theorem d_Mo_readTarget_20 : decode b_Mo_readTarget 20 = .ok (.istore_n 2, 1) := by decide +kernel
theorem d_Mo_readTarget_21 : decode b_Mo_readTarget 21 = .ok (.aload_n 0, 1) := by decide +kernel
theorem d_Mo_readTarget_22 : decode b_Mo_readTarget 22 = .ok (.iload_n 2, 1) := by decide +kernel
theorem d_Mo_readTarget_23 : decode b_Mo_readTarget 23 = .ok (.sipush 9999, 3) := by decide +kernel
theorem d_Mo_readTarget_26 : decode b_Mo_readTarget 26 = .ok (.bipush 44, 2) := by decide +kernel
theorem d_Mo_readTarget_28 : decode b_Mo_readTarget 28 = .ok (.invokevirtual 68, 3) := by decide +kernel
theorem d_Mo_readTarget_31 : decode b_Mo_readTarget 31 = .ok (.istore_n 3, 1) := by decide +kernel
theorem d_Mo_readTarget_32 : decode b_Mo_readTarget 32 = .ok (.aload_n 0, 1) := by decide +kernel
theorem d_Mo_readTarget_33 : decode b_Mo_readTarget 33 = .ok (.iconst 0, 1) := by decide +kernel
theorem d_Mo_readTarget_34 : decode b_Mo_readTarget 34 = .ok (.bipush 9, 2) := by decide +kernel
theorem d_Mo_readTarget_36 : decode b_Mo_readTarget 36 = .ok (.bipush 59, 2) := by decide +kernel
theorem d_Mo_readTarget_38 : decode b_Mo_readTarget 38 = .ok (.invokevirtual 68, 3) := by decide +kernel
theorem d_Mo_readTarget_41 : decode b_Mo_readTarget 41 = .ok (.istore 4, 2) := by decide +kernel
theorem d_Mo_readTarget_43 : decode b_Mo_readTarget 43 = .ok (.aload_n 0, 1) := by decide +kernel
theorem d_Mo_readTarget_44 : decode b_Mo_readTarget 44 = .ok (.getfield 54, 3) := by decide +kernel
theorem d_Mo_readTarget_47 : decode b_Mo_readTarget 47 = .ok (.ifCond .ge 68, 3) := by decide +kernel
theorem d_Mo_readTarget_50 : decode b_Mo_readTarget 50 = .ok (.aload_n 0, 1) := by decide +kernel
theorem d_Mo_readTarget_51 : decode b_Mo_readTarget 51 = .ok (.getfield 26, 3) := by decide +kernel
theorem d_Mo_readTarget_54 : decode b_Mo_readTarget 54 = .ok (.iconst 4, 1) := by decide +kernel
theorem d_Mo_readTarget_55 : decode b_Mo_readTarget 55 = .ok (.aload_n 0, 1) := by decide +kernel
theorem d_Mo_readTarget_56 : decode b_Mo_readTarget 56 = .ok (.getfield 72, 3) := by decide +kernel
theorem d_Mo_readTarget_59 : decode b_Mo_readTarget 59 = .ok (.imul, 1) := by decide +kernel
theorem d_Mo_readTarget_60 : decode b_Mo_readTarget 60 = .ok (.iload_n 1, 1) := by decide +kernel
theorem d_Mo_readTarget_61 : decode b_Mo_readTarget 61 = .ok (.iastore, 1) := by decide +kernel
theorem d_Mo_readTarget_62 : decode b_Mo_readTarget 62 = .ok (.aload_n 0, 1) := by decide +kernel
theorem d_Mo_readTarget_63 : decode b_Mo_readTarget 63 = .ok (.getfield 26, 3) := by decide +kernel
theorem d_Mo_readTarget_66 : decode b_Mo_readTarget 66 = .ok (.iconst 4, 1) := by decide +kernel
theorem d_Mo_readTarget_67 : decode b_Mo_readTarget 67 = .ok (.aload_n 0, 1) := by decide +kernel
theorem d_Mo_readTarget_68 : decode b_Mo_readTarget 68 = .ok (.getfield 72, 3) := by decide +kernel
theorem d_Mo_readTarget_71 : decode b_Mo_readTarget 71 = .ok (.imul, 1) := by decide +kernel
theorem d_Mo_readTarget_72 : decode b_Mo_readTarget 72 = .ok (.iconst 1, 1) := by decide +kernel
theorem d_Mo_readTarget_73 : decode b_Mo_readTarget 73 = .ok (.iadd, 1) := by decide +kernel
theorem d_Mo_readTarget_74 : decode b_Mo_readTarget 74 = .ok (.iload_n 2, 1) := by decide +kernel
theorem d_Mo_readTarget_75 : decode b_Mo_readTarget 75 = .ok (.iastore, 1) := by decide +kernel
theorem d_Mo_readTarget_76 : decode b_Mo_readTarget 76 = .ok (.aload_n 0, 1) := by decide +kernel
theorem d_Mo_readTarget_77 : decode b_Mo_readTarget 77 = .ok (.getfield 26, 3) := by decide +kernel
theorem d_Mo_readTarget_80 : decode b_Mo_readTarget 80 = .ok (.iconst 4, 1) := by decide +kernel
theorem d_Mo_readTarget_81 : decode b_Mo_readTarget 81 = .ok (.aload_n 0, 1) := by decide +kernel
theorem d_Mo_readTarget_82 : decode b_Mo_readTarget 82 = .ok (.getfield 72, 3) := by decide +kernel
theorem d_Mo_readTarget_85 : decode b_Mo_readTarget 85 = .ok (.imul, 1) := by decide +kernel
theorem d_Mo_readTarget_86 : decode b_Mo_readTarget 86 = .ok (.iconst 2, 1) := by decide +kernel
theorem d_Mo_readTarget_87 : decode b_Mo_readTarget 87 = .ok (.iadd, 1) := by decide +kernel
theorem d_Mo_readTarget_88 : decode b_Mo_readTarget 88 = .ok (.iload_n 3, 1) := by decide +kernel
theorem d_Mo_readTarget_89 : decode b_Mo_readTarget 89 = .ok (.iastore, 1) := by decide +kernel
theorem d_Mo_readTarget_90 : decode b_Mo_readTarget 90 = .ok (.aload_n 0, 1) := by decide +kernel
theorem d_Mo_readTarget_91 : decode b_Mo_readTarget 91 = .ok (.getfield 26, 3) := by decide +kernel
theorem d_Mo_readTarget_94 : decode b_Mo_readTarget 94 = .ok (.iconst 4, 1) := by decide +kernel
theorem d_Mo_readTarget_95 : decode b_Mo_readTarget 95 = .ok (.aload_n 0, 1) := by decide +kernel
theorem d_Mo_readTarget_96 : decode b_Mo_readTarget 96 = .ok (.getfield 72, 3) := by decide +kernel
theorem d_Mo_readTarget_99 : decode b_Mo_readTarget 99 = .ok (.imul, 1) := by decide +kernel
theorem d_Mo_readTarget_100 : decode b_Mo_readTarget 100 = .ok (.iconst 3, 1) := by decide +kernel
theorem d_Mo_readTarget_101 : decode b_Mo_readTarget 101 = .ok (.iadd, 1) := by decide +kernel
theorem d_Mo_readTarget_102 : decode b_Mo_readTarget 102 = .ok (.iload 4, 2) := by decide +kernel
theorem d_Mo_readTarget_104 : decode b_Mo_readTarget 104 = .ok (.iastore, 1) := by decide +kernel
theorem d_Mo_readTarget_105 : decode b_Mo_readTarget 105 = .ok (.aload_n 0, 1) := by decide +kernel
theorem d_Mo_readTarget_106 : decode b_Mo_readTarget 106 = .ok (.dup, 1) := by decide +kernel
theorem d_Mo_readTarget_107 : decode b_Mo_readTarget 107 = .ok (.getfield 72, 3) := by decide +kernel
theorem d_Mo_readTarget_110 : decode b_Mo_readTarget 110 = .ok (.iconst 1, 1) := by decide +kernel
theorem d_Mo_readTarget_111 : decode b_Mo_readTarget 111 = .ok (.iadd, 1) := by decide +kernel
theorem d_Mo_readTarget_112 : decode b_Mo_readTarget 112 = .ok (.putfield 72, 3) := by decide +kernel
theorem d_Mo_readTarget_115 : decode b_Mo_readTarget 115 = .ok (.return_, 1) := by decide +kernel
theorem d_Mo_number_0 : decode b_Mo_number 0 = .ok (.aload_n 0, 1) := by decide +kernel
theorem d_Mo_number_1 : decode b_Mo_number 1 = .ok (.getfield 54, 3) := by decide +kernel
theorem d_Mo_number_4 : decode b_Mo_number 4 = .ok (.ifCond .lt 5, 3) := by decide +kernel
theorem d_Mo_number_7 : decode b_Mo_number 7 = .ok (.iconst (-1), 1) := by decide +kernel
theorem d_Mo_number_8 : decode b_Mo_number 8 = .ok (.ireturn, 1) := by decide +kernel
theorem d_Mo_number_9 : decode b_Mo_number 9 = .ok (.aload_n 0, 1) := by decide +kernel
theorem d_Mo_number_10 : decode b_Mo_number 10 = .ok (.getfield 51, 3) := by decide +kernel
theorem d_Mo_number_13 : decode b_Mo_number 13 = .ok (.istore 4, 2) := by decide +kernel
theorem d_Mo_number_15 : decode b_Mo_number 15 = .ok (.iconst 0, 1) := by decide +kernel
theorem d_Mo_number_16 : decode b_Mo_number 16 = .ok (.istore 5, 2) := by decide +kernel
theorem d_Mo_number_18 : decode b_Mo_number 18 = .ok (.aload_n 0, 1) := by decide +kernel
theorem d_Mo_number_19 : decode b_Mo_number 19 = .ok (.invokevirtual 57, 3) := by decide +kernel
theorem d_Mo_number_22 : decode b_Mo_number 22 = .ok (.bipush 48, 2) := by decide +kernel
theorem d_Mo_number_24 : decode b_Mo_number 24 = .ok (.if_icmp .lt 51, 3) := by decide +kernel
theorem d_Mo_number_27 : decode b_Mo_number 27 = .ok (.aload_n 0, 1) := by decide +kernel
theorem d_Mo_number_28 : decode b_Mo_number 28 = .ok (.invokevirtual 57, 3) := by decide +kernel
theorem d_Mo_number_31 : decode b_Mo_number 31 = .ok (.bipush 57, 2) := by decide +kernel
theorem d_Mo_number_33 : decode b_Mo_number 33 = .ok (.if_icmp .gt 42, 3) := by decide +kernel
theorem d_Mo_number_36 : decode b_Mo_number 36 = .ok (.aload_n 0, 1) := by decide +kernel
theorem d_Mo_number_37 : decode b_Mo_number 37 = .ok (.getfield 51, 3) := by decide +kernel
theorem d_Mo_number_40 : decode b_Mo_number 40 = .ok (.iload 4, 2) := by decide +kernel
theorem d_Mo_number_42 : decode b_Mo_number 42 = .ok (.isub, 1) := by decide +kernel
theorem d_Mo_number_43 : decode b_Mo_number 43 = .ok (.iconst 4, 1) := by decide +kernel
theorem d_Mo_number_44 : decode b_Mo_number 44 = .ok (.if_icmp .ge 31, 3) := by decide +kernel
theorem d_Mo_number_47 : decode b_Mo_number 47 = .ok (.bipush 10, 2) := by decide +kernel
theorem d_Mo_number_49 : decode b_Mo_number 49 = .ok (.iload 5, 2) := by decide +kernel
theorem d_Mo_number_51 : decode b_Mo_number 51 = .ok (.imul, 1) := by decide +kernel
theorem d_Mo_number_52 : decode b_Mo_number 52 = .ok (.aload_n 0, 1) := by decide +kernel
theorem d_Mo_number_53 : decode b_Mo_number 53 = .ok (.invokevirtual 57, 3) := by decide +kernel
theorem d_Mo_number_56 : decode b_Mo_number 56 = .ok (.iadd, 1) := by decide +kernel
theorem d_Mo_number_57 : decode b_Mo_number 57 = .ok (.bipush 48, 2) := by decide +kernel
theorem d_Mo_number_59 : decode b_Mo_number 59 = .ok (.isub, 1) := by decide +kernel
theorem d_Mo_number_60 : decode b_Mo_number 60 = .ok (.istore 5, 2) := by decide +kernel
theorem d_Mo_number_62 : decode b_Mo_number 62 = .ok (.aload_n 0, 1) := by decide +kernel
theorem d_Mo_number_63 : decode b_Mo_number 63 = .ok (.dup, 1) := by decide +kernel
theorem d_Mo_number_64 : decode b_Mo_number 64 = .ok (.getfield 51, 3) := by decide +kernel
theorem d_Mo_number_67 : decode b_Mo_number 67 = .ok (.iconst 1, 1) := by decide +kernel
theorem d_Mo_number_68 : decode b_Mo_number 68 = .ok (.iadd, 1) := by decide +kernel
theorem d_Mo_number_69 : decode b_Mo_number 69 = .ok (.putfield 51, 3) := by decide +kernel
theorem d_Mo_number_72 : decode b_Mo_number 72 = .ok (.goto (-54), 3) := by decide +kernel
theorem d_Mo_number_75 : decode b_Mo_number 75 = .ok (.aload_n 0, 1) := by decide +kernel
theorem d_Mo_number_76 : decode b_Mo_number 76 = .ok (.getfield 51, 3) := by decide +kernel
theorem d_Mo_number_79 : decode b_Mo_number 79 = .ok (.iload 4, 2) := by decide +kernel
theorem d_Mo_number_81 : decode b_Mo_number 81 = .ok (.if_icmp .eq 15, 3) := by decide +kernel
theorem d_Mo_number_84 : decode b_Mo_number 84 = .ok (.iload 5, 2) := by decide +kernel
theorem d_Mo_number_86 : decode b_Mo_number 86 = .ok (.iload_n 1, 1) := by decide +kernel
theorem d_Mo_number_87 : decode b_Mo_number 87 = .ok (.if_icmp .lt 9, 3) := by decide +kernel
theorem d_Mo_number_90 : decode b_Mo_number 90 = .ok (.iload 5, 2) := by decide +kernel
theorem d_Mo_number_92 : decode b_Mo_number 92 = .ok (.iload_n 2, 1) := by decide +kernel
theorem d_Mo_number_93 : decode b_Mo_number 93 = .ok (.if_icmp .le 12, 3) := by decide +kernel
theorem d_Mo_number_96 : decode b_Mo_number 96 = .ok (.aload_n 0, 1) := by decide +kernel
theorem d_Mo_number_97 : decode b_Mo_number 97 = .ok (.iload 4, 2) := by decide +kernel
theorem d_Mo_number_99 : decode b_Mo_number 99 = .ok (.invokevirtual 61, 3) := by decide +kernel
theorem d_Mo_number_102 : decode b_Mo_number 102 = .ok (.goto 12, 3) := by decide +kernel
theorem d_Mo_number_105 : decode b_Mo_number 105 = .ok (.iload_n 3, 1) := by decide +kernel
theorem d_Mo_number_106 : decode b_Mo_number 106 = .ok (.ifCond .le 8, 3) := by decide +kernel
theorem d_Mo_number_109 : decode b_Mo_number 109 = .ok (.aload_n 0, 1) := by decide +kernel
theorem d_Mo_number_110 : decode b_Mo_number 110 = .ok (.iload_n 3, 1) := by decide +kernel
theorem d_Mo_number_111 : decode b_Mo_number 111 = .ok (.invokevirtual 65, 3) := by decide +kernel
theorem d_Mo_number_114 : decode b_Mo_number 114 = .ok (.aload_n 0, 1) := by decide +kernel
theorem d_Mo_number_115 : decode b_Mo_number 115 = .ok (.getfield 54, 3) := by decide +kernel
theorem d_Mo_number_118 : decode b_Mo_number 118 = .ok (.ifCond .lt 7, 3) := by decide +kernel
theorem d_Mo_number_121 : decode b_Mo_number 121 = .ok (.iconst (-1), 1) := by decide +kernel
theorem d_Mo_number_122 : decode b_Mo_number 122 = .ok (.goto 5, 3) := by decide +kernel
theorem d_Mo_number_125 : decode b_Mo_number 125 = .ok (.iload 5, 2) := by decide +kernel
theorem d_Mo_number_127 : decode b_Mo_number 127 = .ok (.ireturn, 1) := by decide +kernel
theorem d_Mo_fails_0 : decode b_Mo_fails 0 = .ok (.aload_n 0, 1) := by decide +kernel
theorem d_Mo_fails_1 : decode b_Mo_fails 1 = .ok (.aload_n 0, 1) := by decide +kernel
theorem d_Mo_fails_2 : decode b_Mo_fails 2 = .ok (.getfield 54, 3) := by decide +kernel
theorem d_Mo_fails_5 : decode b_Mo_fails 5 = .ok (.ifCond .ge 7, 3) := by decide +kernel
theorem d_Mo_fails_8 : decode b_Mo_fails 8 = .ok (.iload_n 1, 1) := by decide +kernel
theorem d_Mo_fails_9 : decode b_Mo_fails 9 = .ok (.goto 7, 3) := by decide +kernel
theorem d_Mo_fails_12 : decode b_Mo_fails 12 = .ok (.aload_n 0, 1) := by decide +kernel
theorem d_Mo_fails_13 : decode b_Mo_fails 13 = .ok (.getfield 54, 3) := by decide +kernel
theorem d_Mo_fails_16 : decode b_Mo_fails 16 = .ok (.putfield 54, 3) := by decide +kernel
theorem d_Mo_fails_19 : decode b_Mo_fails 19 = .ok (.return_, 1) := by decide +kernel
theorem d_Mo_sign1_0 : decode b_Mo_sign1 0 = .ok (.aload_n 0, 1) := by decide +kernel
theorem d_Mo_sign1_1 : decode b_Mo_sign1 1 = .ok (.getfield 54, 3) := by decide +kernel
theorem d_Mo_sign1_4 : decode b_Mo_sign1 4 = .ok (.ifCond .ge 24, 3) := by decide +kernel
theorem d_Mo_sign1_7 : decode b_Mo_sign1 7 = .ok (.aload_n 0, 1) := by decide +kernel
theorem d_Mo_sign1_8 : decode b_Mo_sign1 8 = .ok (.invokevirtual 57, 3) := by decide +kernel
theorem d_Mo_sign1_11 : decode b_Mo_sign1 11 = .ok (.iload_n 1, 1) := by decide +kernel
theorem d_Mo_sign1_12 : decode b_Mo_sign1 12 = .ok (.if_icmp .ne 16, 3) := by decide +kernel
theorem d_Mo_sign1_15 : decode b_Mo_sign1 15 = .ok (.aload_n 0, 1) := by decide +kernel
theorem d_Mo_sign1_16 : decode b_Mo_sign1 16 = .ok (.dup, 1) := by decide +kernel
theorem d_Mo_sign1_17 : decode b_Mo_sign1 17 = .ok (.getfield 51, 3) := by decide +kernel
theorem d_Mo_sign1_20 : decode b_Mo_sign1 20 = .ok (.iconst 1, 1) := by decide +kernel
theorem d_Mo_sign1_21 : decode b_Mo_sign1 21 = .ok (.iadd, 1) := by decide +kernel
theorem d_Mo_sign1_22 : decode b_Mo_sign1 22 = .ok (.putfield 51, 3) := by decide +kernel
theorem d_Mo_sign1_25 : decode b_Mo_sign1 25 = .ok (.goto 11, 3) := by decide +kernel
theorem d_Mo_sign1_28 : decode b_Mo_sign1 28 = .ok (.aload_n 0, 1) := by decide +kernel
theorem d_Mo_sign1_29 : decode b_Mo_sign1 29 = .ok (.aload_n 0, 1) := by decide +kernel
theorem d_Mo_sign1_30 : decode b_Mo_sign1 30 = .ok (.getfield 51, 3) := by decide +kernel
theorem d_Mo_sign1_33 : decode b_Mo_sign1 33 = .ok (.invokevirtual 61, 3) := by decide +kernel
theorem d_Mo_sign1_36 : decode b_Mo_sign1 36 = .ok (.return_, 1) := by decide +kernel
theorem d_Mo_readBin_0 : decode b_Mo_readBin 0 = .ok (.aload_n 0, 1) := by decide +kernel
theorem d_Mo_readBin_1 : decode b_Mo_readBin 1 = .ok (.iconst 1, 1) := by decide +kernel
theorem d_Mo_readBin_2 : decode b_Mo_readBin 2 = .ok (.bipush 40, 2) := by decide +kernel
theorem d_Mo_readBin_4 : decode b_Mo_readBin 4 = .ok (.bipush 44, 2) := by decide +kernel
theorem d_Mo_readBin_6 : decode b_Mo_readBin 6 = .ok (.invokevirtual 68, 3) := by decide +kernel
theorem d_Mo_readBin_9 : decode b_Mo_readBin 9 = .ok (.istore_n 2, 1) := by decide +kernel
theorem d_Mo_readBin_10 : decode b_Mo_readBin 10 = .ok (.aload_n 0, 1) := by decide +kernel
theorem d_Mo_readBin_11 : decode b_Mo_readBin 11 = .ok (.iconst 0, 1) := by decide +kernel
theorem d_Mo_readBin_12 : decode b_Mo_readBin 12 = .ok (.iconst 3, 1) := by decide +kernel
theorem d_Mo_readBin_13 : decode b_Mo_readBin 13 = .ok (.bipush 44, 2) := by decide +kernel
theorem d_Mo_readBin_15 : decode b_Mo_readBin 15 = .ok (.invokevirtual 68, 3) := by decide +kernel
theorem d_Mo_readBin_18 : decode b_Mo_readBin 18 = .ok (.istore_n 3, 1) := by decide +kernel
theorem d_Mo_readBin_19 : decode b_Mo_readBin 19 = .ok (.aload_n 0, 1) := by decide +kernel
theorem d_Mo_readBin_20 : decode b_Mo_readBin 20 = .ok (.iconst 0, 1) := by decide +kernel
theorem d_Mo_readBin_21 : decode b_Mo_readBin 21 = .ok (.iconst 2, 1) := by decide +kernel
theorem d_Mo_readBin_22 : decode b_Mo_readBin 22 = .ok (.bipush 44, 2) := by decide +kernel
theorem d_Mo_readBin_24 : decode b_Mo_readBin 24 = .ok (.invokevirtual 68, 3) := by decide +kernel
theorem d_Mo_readBin_27 : decode b_Mo_readBin 27 = .ok (.istore 4, 2) := by decide +kernel
theorem d_Mo_readBin_29 : decode b_Mo_readBin 29 = .ok (.aload_n 0, 1) := by decide +kernel
theorem d_Mo_readBin_30 : decode b_Mo_readBin 30 = .ok (.iconst 1, 1) := by decide +kernel
theorem d_Mo_readBin_31 : decode b_Mo_readBin 31 = .ok (.bipush 60, 2) := by decide +kernel
theorem d_Mo_readBin_33 : decode b_Mo_readBin 33 = .ok (.iconst 0, 1) := by decide +kernel
theorem d_Mo_readBin_34 : decode b_Mo_readBin 34 = .ok (.invokevirtual 68, 3) := by decide +kernel
theorem d_Mo_readBin_37 : decode b_Mo_readBin 37 = .ok (.istore 5, 2) := by decide +kernel
theorem d_Mo_readBin_39 : decode b_Mo_readBin 39 = .ok (.aload_n 0, 1) := by decide +kernel
theorem d_Mo_readBin_40 : decode b_Mo_readBin 40 = .ok (.getfield 54, 3) := by decide +kernel
theorem d_Mo_readBin_43 : decode b_Mo_readBin 43 = .ok (.ifCond .ge 16, 3) := by decide +kernel
theorem d_Mo_readBin_46 : decode b_Mo_readBin 46 = .ok (.aload_n 0, 1) := by decide +kernel
theorem d_Mo_readBin_47 : decode b_Mo_readBin 47 = .ok (.invokevirtual 57, 3) := by decide +kernel
theorem d_Mo_readBin_50 : decode b_Mo_readBin 50 = .ok (.bipush 43, 2) := by decide +kernel
theorem d_Mo_readBin_52 : decode b_Mo_readBin 52 = .ok (.if_icmp .ne 7, 3) := by decide +kernel
theorem d_Mo_readBin_55 : decode b_Mo_readBin 55 = .ok (.iconst 1, 1) := by decide +kernel
theorem d_Mo_readBin_56 : decode b_Mo_readBin 56 = .ok (.goto 4, 3) := by decide +kernel
theorem d_Mo_readBin_59 : decode b_Mo_readBin 59 = .ok (.iconst 0, 1) := by decide +kernel
theorem d_Mo_readBin_60 : decode b_Mo_readBin 60 = .ok (.istore 6, 2) := by decide +kernel
theorem d_Mo_readBin_62 : decode b_Mo_readBin 62 = .ok (.aload_n 0, 1) := by decide +kernel
theorem d_Mo_readBin_63 : decode b_Mo_readBin 63 = .ok (.iload 6, 2) := by decide +kernel
theorem d_Mo_readBin_65 : decode b_Mo_readBin 65 = .ok (.ifCond .eq 12, 3) := by decide +kernel
theorem d_Mo_readBin_68 : decode b_Mo_readBin 68 = .ok (.aload_n 0, 1) := by decide +kernel
theorem d_Mo_readBin_69 : decode b_Mo_readBin 69 = .ok (.getfield 51, 3) := by decide +kernel
theorem d_Mo_readBin_72 : decode b_Mo_readBin 72 = .ok (.iconst 1, 1) := by decide +kernel
theorem d_Mo_readBin_73 : decode b_Mo_readBin 73 = .ok (.iadd, 1) := by decide +kernel
theorem d_Mo_readBin_74 : decode b_Mo_readBin 74 = .ok (.goto 7, 3) := by decide +kernel
theorem d_Mo_readBin_77 : decode b_Mo_readBin 77 = .ok (.aload_n 0, 1) := by decide +kernel
theorem d_Mo_readBin_78 : decode b_Mo_readBin 78 = .ok (.getfield 51, 3) := by decide +kernel
theorem d_Mo_readBin_81 : decode b_Mo_readBin 81 = .ok (.putfield 51, 3) := by decide +kernel
theorem d_Mo_readBin_84 : decode b_Mo_readBin 84 = .ok (.aload_n 0, 1) := by decide +kernel
theorem d_Mo_readBin_85 : decode b_Mo_readBin 85 = .ok (.bipush 59, 2) := by decide +kernel
theorem d_Mo_readBin_87 : decode b_Mo_readBin 87 = .ok (.invokevirtual 65, 3) := by decide +kernel
theorem d_Mo_readBin_90 : decode b_Mo_readBin 90 = .ok (.aload_n 0, 1) := by decide +kernel
theorem d_Mo_readBin_91 : decode b_Mo_readBin 91 = .ok (.getfield 54, 3) := by decide +kernel
theorem d_Mo_readBin_94 : decode b_Mo_readBin 94 = .ok (.ifCond .lt 4, 3) := by decide +kernel
theorem d_Mo_readBin_97 : decode b_Mo_readBin 97 = .ok (.return_, 1) := by decide +kernel
theorem d_Mo_readBin_98 : decode b_Mo_readBin 98 = .ok (.bipush 9, 2) := by decide +kernel
theorem d_Mo_readBin_100 : decode b_Mo_readBin 100 = .ok (.iload_n 2, 1) := by decide +kernel
theorem d_Mo_readBin_101 : decode b_Mo_readBin 101 = .ok (.iload_n 3, 1) := by decide +kernel
theorem d_Mo_readBin_102 : decode b_Mo_readBin 102 = .ok (.iload 4, 2) := by decide +kernel
theorem d_Mo_readBin_104 : decode b_Mo_readBin 104 = .ok (.invokestatic 75, 3) := by decide +kernel
theorem d_Mo_readBin_107 : decode b_Mo_readBin 107 = .ok (.istore 7, 2) := by decide +kernel
theorem d_Mo_readBin_109 : decode b_Mo_readBin 109 = .ok (.aload_n 0, 1) := by decide +kernel
theorem d_Mo_readBin_110 : decode b_Mo_readBin 110 = .ok (.getfield 13, 3) := by decide +kernel
theorem d_Mo_readBin_113 : decode b_Mo_readBin 113 = .ok (.iload 7, 2) := by decide +kernel
theorem d_Mo_readBin_115 : decode b_Mo_readBin 115 = .ok (.iaload, 1) := by decide +kernel
theorem d_Mo_readBin_116 : decode b_Mo_readBin 116 = .ok (.ifCond .le 8, 3) := by decide +kernel
theorem d_Mo_readBin_119 : decode b_Mo_readBin 119 = .ok (.aload_n 0, 1) := by decide +kernel
theorem d_Mo_readBin_120 : decode b_Mo_readBin 120 = .ok (.iload_n 1, 1) := by decide +kernel
theorem d_Mo_readBin_121 : decode b_Mo_readBin 121 = .ok (.invokevirtual 61, 3) := by decide +kernel
theorem d_Mo_readBin_124 : decode b_Mo_readBin 124 = .ok (.aload_n 0, 1) := by decide +kernel
theorem d_Mo_readBin_125 : decode b_Mo_readBin 125 = .ok (.getfield 13, 3) := by decide +kernel
theorem d_Mo_readBin_128 : decode b_Mo_readBin 128 = .ok (.iload 7, 2) := by decide +kernel
theorem d_Mo_readBin_130 : decode b_Mo_readBin 130 = .ok (.iload 5, 2) := by decide +kernel
theorem d_Mo_readBin_132 : decode b_Mo_readBin 132 = .ok (.iastore, 1) := by decide +kernel
theorem d_Mo_readBin_133 : decode b_Mo_readBin 133 = .ok (.aload_n 0, 1) := by decide +kernel
theorem d_Mo_readBin_134 : decode b_Mo_readBin 134 = .ok (.getfield 20, 3) := by decide +kernel
theorem d_Mo_readBin_137 : decode b_Mo_readBin 137 = .ok (.iload 7, 2) := by decide +kernel
theorem d_Mo_readBin_139 : decode b_Mo_readBin 139 = .ok (.sipush 4428, 3) := by decide +kernel
theorem d_Mo_readBin_142 : decode b_Mo_readBin 142 = .ok (.isub, 1) := by decide +kernel
theorem d_Mo_readBin_143 : decode b_Mo_readBin 143 = .ok (.iload 6, 2) := by decide +kernel
theorem d_Mo_readBin_145 : decode b_Mo_readBin 145 = .ok (.bastore, 1) := by decide +kernel
theorem d_Mo_readBin_146 : decode b_Mo_readBin 146 = .ok (.return_, 1) := by decide +kernel
theorem d_Mo_place_0 : decode b_Mo_place 0 = .ok (.sipush 492, 3) := by decide +kernel
theorem d_Mo_place_3 : decode b_Mo_place 3 = .ok (.iload_n 0, 1) := by decide +kernel
theorem d_Mo_place_4 : decode b_Mo_place 4 = .ok (.imul, 1) := by decide +kernel
theorem d_Mo_place_5 : decode b_Mo_place 5 = .ok (.sipush 164, 3) := by decide +kernel
theorem d_Mo_place_8 : decode b_Mo_place 8 = .ok (.iload_n 3, 1) := by decide +kernel
theorem d_Mo_place_9 : decode b_Mo_place 9 = .ok (.imul, 1) := by decide +kernel
theorem d_Mo_place_10 : decode b_Mo_place 10 = .ok (.iadd, 1) := by decide +kernel
theorem d_Mo_place_11 : decode b_Mo_place 11 = .ok (.bipush 41, 2) := by decide +kernel
theorem d_Mo_place_13 : decode b_Mo_place 13 = .ok (.iload_n 2, 1) := by decide +kernel
theorem d_Mo_place_14 : decode b_Mo_place 14 = .ok (.imul, 1) := by decide +kernel
theorem d_Mo_place_15 : decode b_Mo_place 15 = .ok (.iadd, 1) := by decide +kernel
theorem d_Mo_place_16 : decode b_Mo_place 16 = .ok (.iload_n 1, 1) := by decide +kernel
theorem d_Mo_place_17 : decode b_Mo_place 17 = .ok (.iadd, 1) := by decide +kernel
theorem d_Mo_place_18 : decode b_Mo_place 18 = .ok (.ireturn, 1) := by decide +kernel
theorem d_Mo_readOverflow_0 : decode b_Mo_readOverflow 0 = .ok (.aload_n 0, 1) := by decide +kernel
theorem d_Mo_readOverflow_1 : decode b_Mo_readOverflow 1 = .ok (.iconst 1, 1) := by decide +kernel
theorem d_Mo_readOverflow_2 : decode b_Mo_readOverflow 2 = .ok (.bipush 60, 2) := by decide +kernel
theorem d_Mo_readOverflow_4 : decode b_Mo_readOverflow 4 = .ok (.bipush 44, 2) := by decide +kernel
theorem d_Mo_readOverflow_6 : decode b_Mo_readOverflow 6 = .ok (.invokevirtual 68, 3) := by decide +kernel
theorem d_Mo_readOverflow_9 : decode b_Mo_readOverflow 9 = .ok (.istore_n 2, 1) := by decide +kernel
theorem d_Mo_readOverflow_10 : decode b_Mo_readOverflow 10 = .ok (.aload_n 0, 1) := by decide +kernel
theorem d_Mo_readOverflow_11 : decode b_Mo_readOverflow 11 = .ok (.iconst 1, 1) := by decide +kernel
theorem d_Mo_readOverflow_12 : decode b_Mo_readOverflow 12 = .ok (.bipush 60, 2) := by decide +kernel
theorem d_Mo_readOverflow_14 : decode b_Mo_readOverflow 14 = .ok (.bipush 59, 2) := by decide +kernel
theorem d_Mo_readOverflow_16 : decode b_Mo_readOverflow 16 = .ok (.invokevirtual 68, 3) := by decide +kernel
theorem d_Mo_readOverflow_19 : decode b_Mo_readOverflow 19 = .ok (.istore_n 3, 1) := by decide +kernel
theorem d_Mo_readOverflow_20 : decode b_Mo_readOverflow 20 = .ok (.aload_n 0, 1) := by decide +kernel
theorem d_Mo_readOverflow_21 : decode b_Mo_readOverflow 21 = .ok (.getfield 54, 3) := by decide +kernel
theorem d_Mo_readOverflow_24 : decode b_Mo_readOverflow 24 = .ok (.ifCond .lt 4, 3) := by decide +kernel
theorem d_Mo_readOverflow_27 : decode b_Mo_readOverflow 27 = .ok (.return_, 1) := by decide +kernel
theorem d_Mo_readOverflow_28 : decode b_Mo_readOverflow 28 = .ok (.aload_n 0, 1) := by decide +kernel
theorem d_Mo_readOverflow_29 : decode b_Mo_readOverflow 29 = .ok (.getfield 32, 3) := by decide +kernel
theorem d_Mo_readOverflow_32 : decode b_Mo_readOverflow 32 = .ok (.iload_n 2, 1) := by decide +kernel
theorem d_Mo_readOverflow_33 : decode b_Mo_readOverflow 33 = .ok (.iaload, 1) := by decide +kernel
theorem d_Mo_readOverflow_34 : decode b_Mo_readOverflow 34 = .ok (.ifCond .le 8, 3) := by decide +kernel
theorem d_Mo_readOverflow_37 : decode b_Mo_readOverflow 37 = .ok (.aload_n 0, 1) := by decide +kernel
theorem d_Mo_readOverflow_38 : decode b_Mo_readOverflow 38 = .ok (.iload_n 1, 1) := by decide +kernel
theorem d_Mo_readOverflow_39 : decode b_Mo_readOverflow 39 = .ok (.invokevirtual 61, 3) := by decide +kernel
theorem d_Mo_readOverflow_42 : decode b_Mo_readOverflow 42 = .ok (.aload_n 0, 1) := by decide +kernel
theorem d_Mo_readOverflow_43 : decode b_Mo_readOverflow 43 = .ok (.getfield 32, 3) := by decide +kernel
theorem d_Mo_readOverflow_46 : decode b_Mo_readOverflow 46 = .ok (.iload_n 2, 1) := by decide +kernel
theorem d_Mo_readOverflow_47 : decode b_Mo_readOverflow 47 = .ok (.iload_n 3, 1) := by decide +kernel
theorem d_Mo_readOverflow_48 : decode b_Mo_readOverflow 48 = .ok (.iastore, 1) := by decide +kernel
theorem d_Mo_readOverflow_49 : decode b_Mo_readOverflow 49 = .ok (.return_, 1) := by decide +kernel
theorem d_Mo_target_0 : decode b_Mo_target 0 = .ok (.aload_n 0, 1) := by decide +kernel
theorem d_Mo_target_1 : decode b_Mo_target 1 = .ok (.iconst 0, 1) := by decide +kernel
theorem d_Mo_target_2 : decode b_Mo_target 2 = .ok (.putfield 48, 3) := by decide +kernel
theorem d_Mo_target_5 : decode b_Mo_target 5 = .ok (.iload_n 1, 1) := by decide +kernel
theorem d_Mo_target_6 : decode b_Mo_target 6 = .ok (.iconst 0, 1) := by decide +kernel
theorem d_Mo_target_7 : decode b_Mo_target 7 = .ok (.sipush 9999, 3) := by decide +kernel
theorem d_Mo_target_10 : decode b_Mo_target 10 = .ok (.invokestatic 97, 3) := by decide +kernel
theorem d_Mo_target_13 : decode b_Mo_target 13 = .ok (.ifCond .eq 13, 3) := by decide +kernel
theorem d_Mo_target_16 : decode b_Mo_target 16 = .ok (.iload_n 2, 1) := by decide +kernel
theorem d_Mo_target_17 : decode b_Mo_target 17 = .ok (.iconst 0, 1) := by decide +kernel
theorem d_Mo_target_18 : decode b_Mo_target 18 = .ok (.bipush 9, 2) := by decide +kernel
theorem d_Mo_target_20 : decode b_Mo_target 20 = .ok (.invokestatic 97, 3) := by decide +kernel
theorem d_Mo_target_23 : decode b_Mo_target 23 = .ok (.ifCond .ne 6, 3) := by decide +kernel
theorem d_Mo_target_26 : decode b_Mo_target 26 = .ok (.bipush (-102), 2) := by decide +kernel
theorem d_Mo_target_28 : decode b_Mo_target 28 = .ok (.ireturn, 1) := by decide +kernel
theorem d_Mo_target_29 : decode b_Mo_target 29 = .ok (.aload_n 0, 1) := by decide +kernel
theorem d_Mo_target_30 : decode b_Mo_target 30 = .ok (.getfield 91, 3) := by decide +kernel
theorem d_Mo_target_33 : decode b_Mo_target 33 = .ok (.ifCond .ne 6, 3) := by decide +kernel
theorem d_Mo_target_36 : decode b_Mo_target 36 = .ok (.bipush (-103), 2) := by decide +kernel
theorem d_Mo_target_38 : decode b_Mo_target 38 = .ok (.ireturn, 1) := by decide +kernel
theorem d_Mo_target_39 : decode b_Mo_target 39 = .ok (.iconst 1, 1) := by decide +kernel
theorem d_Mo_target_40 : decode b_Mo_target 40 = .ok (.istore_n 3, 1) := by decide +kernel
theorem d_Mo_target_41 : decode b_Mo_target 41 = .ok (.iload_n 3, 1) := by decide +kernel
theorem d_Mo_target_42 : decode b_Mo_target 42 = .ok (.bipush 41, 2) := by decide +kernel
theorem d_Mo_target_44 : decode b_Mo_target 44 = .ok (.if_icmp .ge 86, 3) := by decide +kernel
theorem d_Mo_target_47 : decode b_Mo_target 47 = .ok (.iconst 0, 1) := by decide +kernel
theorem d_Mo_target_48 : decode b_Mo_target 48 = .ok (.istore 4, 2) := by decide +kernel
theorem d_Mo_target_50 : decode b_Mo_target 50 = .ok (.iload 4, 2) := by decide +kernel
theorem d_Mo_target_52 : decode b_Mo_target 52 = .ok (.aload_n 0, 1) := by decide +kernel
theorem d_Mo_target_53 : decode b_Mo_target 53 = .ok (.getfield 94, 3) := by decide +kernel
theorem d_Mo_target_56 : decode b_Mo_target 56 = .ok (.if_icmp .ge 68, 3) := by decide +kernel
theorem d_Mo_target_59 : decode b_Mo_target 59 = .ok (.aload_n 0, 1) := by decide +kernel
theorem d_Mo_target_60 : decode b_Mo_target 60 = .ok (.getfield 23, 3) := by decide +kernel
theorem d_Mo_target_63 : decode b_Mo_target 63 = .ok (.iconst 4, 1) := by decide +kernel
theorem d_Mo_target_64 : decode b_Mo_target 64 = .ok (.iload 4, 2) := by decide +kernel
theorem d_Mo_target_66 : decode b_Mo_target 66 = .ok (.imul, 1) := by decide +kernel
theorem d_Mo_target_67 : decode b_Mo_target 67 = .ok (.iaload, 1) := by decide +kernel
theorem d_Mo_target_68 : decode b_Mo_target 68 = .ok (.iload_n 3, 1) := by decide +kernel
theorem d_Mo_target_69 : decode b_Mo_target 69 = .ok (.if_icmp .ne 49, 3) := by decide +kernel
theorem d_Mo_target_72 : decode b_Mo_target 72 = .ok (.aload_n 0, 1) := by decide +kernel
theorem d_Mo_target_73 : decode b_Mo_target 73 = .ok (.getfield 23, 3) := by decide +kernel
theorem d_Mo_target_76 : decode b_Mo_target 76 = .ok (.iconst 4, 1) := by decide +kernel
theorem d_Mo_target_77 : decode b_Mo_target 77 = .ok (.iload 4, 2) := by decide +kernel
theorem d_Mo_target_79 : decode b_Mo_target 79 = .ok (.imul, 1) := by decide +kernel
theorem d_Mo_target_80 : decode b_Mo_target 80 = .ok (.iconst 3, 1) := by decide +kernel
theorem d_Mo_target_81 : decode b_Mo_target 81 = .ok (.iadd, 1) := by decide +kernel
theorem d_Mo_target_82 : decode b_Mo_target 82 = .ok (.iaload, 1) := by decide +kernel
theorem d_Mo_target_83 : decode b_Mo_target 83 = .ok (.iload_n 2, 1) := by decide +kernel
theorem d_Mo_target_84 : decode b_Mo_target 84 = .ok (.if_icmp .ne 34, 3) := by decide +kernel
theorem d_Mo_target_87 : decode b_Mo_target 87 = .ok (.iload_n 1, 1) := by decide +kernel
theorem d_Mo_target_88 : decode b_Mo_target 88 = .ok (.aload_n 0, 1) := by decide +kernel
theorem d_Mo_target_89 : decode b_Mo_target 89 = .ok (.getfield 23, 3) := by decide +kernel
theorem d_Mo_target_92 : decode b_Mo_target 92 = .ok (.iconst 4, 1) := by decide +kernel
theorem d_Mo_target_93 : decode b_Mo_target 93 = .ok (.iload 4, 2) := by decide +kernel
theorem d_Mo_target_95 : decode b_Mo_target 95 = .ok (.imul, 1) := by decide +kernel
theorem d_Mo_target_96 : decode b_Mo_target 96 = .ok (.iconst 1, 1) := by decide +kernel
theorem d_Mo_target_97 : decode b_Mo_target 97 = .ok (.iadd, 1) := by decide +kernel
theorem d_Mo_target_98 : decode b_Mo_target 98 = .ok (.iaload, 1) := by decide +kernel
theorem d_Mo_target_99 : decode b_Mo_target 99 = .ok (.aload_n 0, 1) := by decide +kernel
theorem d_Mo_target_100 : decode b_Mo_target 100 = .ok (.getfield 23, 3) := by decide +kernel
theorem d_Mo_target_103 : decode b_Mo_target 103 = .ok (.iconst 4, 1) := by decide +kernel
theorem d_Mo_target_104 : decode b_Mo_target 104 = .ok (.iload 4, 2) := by decide +kernel
theorem d_Mo_target_106 : decode b_Mo_target 106 = .ok (.imul, 1) := by decide +kernel
theorem d_Mo_target_107 : decode b_Mo_target 107 = .ok (.iconst 2, 1) := by decide +kernel
theorem d_Mo_target_108 : decode b_Mo_target 108 = .ok (.iadd, 1) := by decide +kernel
theorem d_Mo_target_109 : decode b_Mo_target 109 = .ok (.iaload, 1) := by decide +kernel
theorem d_Mo_target_110 : decode b_Mo_target 110 = .ok (.invokestatic 97, 3) := by decide +kernel
theorem d_Mo_target_113 : decode b_Mo_target 113 = .ok (.ifCond .eq 5, 3) := by decide +kernel
theorem d_Mo_target_116 : decode b_Mo_target 116 = .ok (.iload_n 3, 1) := by decide +kernel
theorem d_Mo_target_117 : decode b_Mo_target 117 = .ok (.ireturn, 1) := by decide +kernel
theorem d_Mo_target_118 : decode b_Mo_target 118 = .ok (.iinc 4 1, 3) := by decide +kernel
theorem d_Mo_target_121 : decode b_Mo_target 121 = .ok (.goto (-71), 3) := by decide +kernel
theorem d_Mo_target_124 : decode b_Mo_target 124 = .ok (.iinc 3 1, 3) := by decide +kernel
theorem d_Mo_target_127 : decode b_Mo_target 127 = .ok (.goto (-86), 3) := by decide +kernel
theorem d_Mo_target_130 : decode b_Mo_target 130 = .ok (.iconst 0, 1) := by decide +kernel
theorem d_Mo_target_131 : decode b_Mo_target 131 = .ok (.ireturn, 1) := by decide +kernel
theorem d_Mo_isIn_0 : decode b_Mo_isIn 0 = .ok (.iload_n 0, 1) := by decide +kernel
theorem d_Mo_isIn_1 : decode b_Mo_isIn 1 = .ok (.iload_n 1, 1) := by decide +kernel
theorem d_Mo_isIn_2 : decode b_Mo_isIn 2 = .ok (.if_icmp .lt 12, 3) := by decide +kernel
theorem d_Mo_isIn_5 : decode b_Mo_isIn 5 = .ok (.iload_n 0, 1) := by decide +kernel
theorem d_Mo_isIn_6 : decode b_Mo_isIn 6 = .ok (.iload_n 2, 1) := by decide +kernel
theorem d_Mo_isIn_7 : decode b_Mo_isIn 7 = .ok (.if_icmp .gt 7, 3) := by decide +kernel
theorem d_Mo_isIn_10 : decode b_Mo_isIn 10 = .ok (.iconst 1, 1) := by decide +kernel
theorem d_Mo_isIn_11 : decode b_Mo_isIn 11 = .ok (.goto 4, 3) := by decide +kernel
theorem d_Mo_isIn_14 : decode b_Mo_isIn 14 = .ok (.iconst 0, 1) := by decide +kernel
theorem d_Mo_isIn_15 : decode b_Mo_isIn 15 = .ok (.ireturn, 1) := by decide +kernel
theorem d_Mo_bin_0 : decode b_Mo_bin 0 = .ok (.aload_n 0, 1) := by decide +kernel
theorem d_Mo_bin_1 : decode b_Mo_bin 1 = .ok (.iconst 0, 1) := by decide +kernel
theorem d_Mo_bin_2 : decode b_Mo_bin 2 = .ok (.putfield 48, 3) := by decide +kernel
theorem d_Mo_bin_5 : decode b_Mo_bin 5 = .ok (.iload_n 1, 1) := by decide +kernel
theorem d_Mo_bin_6 : decode b_Mo_bin 6 = .ok (.iconst 1, 1) := by decide +kernel
theorem d_Mo_bin_7 : decode b_Mo_bin 7 = .ok (.bipush 40, 2) := by decide +kernel
theorem d_Mo_bin_9 : decode b_Mo_bin 9 = .ok (.invokestatic 97, 3) := by decide +kernel
theorem d_Mo_bin_12 : decode b_Mo_bin 12 = .ok (.ifCond .ne 6, 3) := by decide +kernel
theorem d_Mo_bin_15 : decode b_Mo_bin 15 = .ok (.bipush (-101), 2) := by decide +kernel
theorem d_Mo_bin_17 : decode b_Mo_bin 17 = .ok (.ireturn, 1) := by decide +kernel
theorem d_Mo_bin_18 : decode b_Mo_bin 18 = .ok (.iload_n 2, 1) := by decide +kernel
theorem d_Mo_bin_19 : decode b_Mo_bin 19 = .ok (.iconst 0, 1) := by decide +kernel
theorem d_Mo_bin_20 : decode b_Mo_bin 20 = .ok (.iconst 3, 1) := by decide +kernel
theorem d_Mo_bin_21 : decode b_Mo_bin 21 = .ok (.invokestatic 97, 3) := by decide +kernel
theorem d_Mo_bin_24 : decode b_Mo_bin 24 = .ok (.ifCond .eq 12, 3) := by decide +kernel
theorem d_Mo_bin_27 : decode b_Mo_bin 27 = .ok (.iload_n 3, 1) := by decide +kernel
theorem d_Mo_bin_28 : decode b_Mo_bin 28 = .ok (.iconst 0, 1) := by decide +kernel
theorem d_Mo_bin_29 : decode b_Mo_bin 29 = .ok (.iconst 2, 1) := by decide +kernel
theorem d_Mo_bin_30 : decode b_Mo_bin 30 = .ok (.invokestatic 97, 3) := by decide +kernel
theorem d_Mo_bin_33 : decode b_Mo_bin 33 = .ok (.ifCond .ne 6, 3) := by decide +kernel
theorem d_Mo_bin_36 : decode b_Mo_bin 36 = .ok (.bipush (-102), 2) := by decide +kernel
theorem d_Mo_bin_38 : decode b_Mo_bin 38 = .ok (.ireturn, 1) := by decide +kernel
theorem d_Mo_bin_39 : decode b_Mo_bin 39 = .ok (.aload_n 0, 1) := by decide +kernel
theorem d_Mo_bin_40 : decode b_Mo_bin 40 = .ok (.getfield 91, 3) := by decide +kernel
theorem d_Mo_bin_43 : decode b_Mo_bin 43 = .ok (.ifCond .ne 8, 3) := by decide +kernel
theorem d_Mo_bin_46 : decode b_Mo_bin 46 = .ok (.bipush (-103), 2) := by decide +kernel
theorem d_Mo_bin_48 : decode b_Mo_bin 48 = .ok (.goto 29, 3) := by decide +kernel
theorem d_Mo_bin_51 : decode b_Mo_bin 51 = .ok (.aload_n 0, 1) := by decide +kernel
theorem d_Mo_bin_52 : decode b_Mo_bin 52 = .ok (.getfield 35, 3) := by decide +kernel
theorem d_Mo_bin_55 : decode b_Mo_bin 55 = .ok (.iload_n 1, 1) := by decide +kernel
theorem d_Mo_bin_56 : decode b_Mo_bin 56 = .ok (.baload, 1) := by decide +kernel
theorem d_Mo_bin_57 : decode b_Mo_bin 57 = .ok (.ifCond .eq 7, 3) := by decide +kernel
theorem d_Mo_bin_60 : decode b_Mo_bin 60 = .ok (.iconst 0, 1) := by decide +kernel
theorem d_Mo_bin_61 : decode b_Mo_bin 61 = .ok (.goto 16, 3) := by decide +kernel
theorem d_Mo_bin_64 : decode b_Mo_bin 64 = .ok (.aload_n 0, 1) := by decide +kernel
theorem d_Mo_bin_65 : decode b_Mo_bin 65 = .ok (.getfield 13, 3) := by decide +kernel
theorem d_Mo_bin_68 : decode b_Mo_bin 68 = .ok (.bipush 8, 2) := by decide +kernel
theorem d_Mo_bin_70 : decode b_Mo_bin 70 = .ok (.iload_n 1, 1) := by decide +kernel
theorem d_Mo_bin_71 : decode b_Mo_bin 71 = .ok (.iload_n 2, 1) := by decide +kernel
theorem d_Mo_bin_72 : decode b_Mo_bin 72 = .ok (.iload_n 3, 1) := by decide +kernel
theorem d_Mo_bin_73 : decode b_Mo_bin 73 = .ok (.invokestatic 75, 3) := by decide +kernel
theorem d_Mo_bin_76 : decode b_Mo_bin 76 = .ok (.iaload, 1) := by decide +kernel
theorem d_Mo_bin_77 : decode b_Mo_bin 77 = .ok (.ireturn, 1) := by decide +kernel
theorem d_Mo_check_0 : decode b_Mo_check 0 = .ok (.aload_n 0, 1) := by decide +kernel
theorem d_Mo_check_1 : decode b_Mo_check 1 = .ok (.iconst 0, 1) := by decide +kernel
theorem d_Mo_check_2 : decode b_Mo_check 2 = .ok (.putfield 48, 3) := by decide +kernel
theorem d_Mo_check_5 : decode b_Mo_check 5 = .ok (.aload_n 0, 1) := by decide +kernel
theorem d_Mo_check_6 : decode b_Mo_check 6 = .ok (.getfield 91, 3) := by decide +kernel
theorem d_Mo_check_9 : decode b_Mo_check 9 = .ok (.ifCond .ne 6, 3) := by decide +kernel
theorem d_Mo_check_12 : decode b_Mo_check 12 = .ok (.bipush (-103), 2) := by decide +kernel
theorem d_Mo_check_14 : decode b_Mo_check 14 = .ok (.ireturn, 1) := by decide +kernel
theorem d_Mo_check_15 : decode b_Mo_check 15 = .ok (.aload_n 0, 1) := by decide +kernel
theorem d_Mo_check_16 : decode b_Mo_check 16 = .ok (.iconst 0, 1) := by decide +kernel
theorem d_Mo_check_17 : decode b_Mo_check 17 = .ok (.putfield 101, 3) := by decide +kernel
theorem d_Mo_check_20 : decode b_Mo_check 20 = .ok (.iconst 0, 1) := by decide +kernel
theorem d_Mo_check_21 : decode b_Mo_check 21 = .ok (.istore_n 1, 1) := by decide +kernel
theorem d_Mo_check_22 : decode b_Mo_check 22 = .ok (.iload_n 1, 1) := by decide +kernel
theorem d_Mo_check_23 : decode b_Mo_check 23 = .ok (.bipush 12, 2) := by decide +kernel
theorem d_Mo_check_25 : decode b_Mo_check 25 = .ok (.if_icmp .ge 232, 3) := by decide +kernel
theorem d_Mo_check_28 : decode b_Mo_check 28 = .ok (.iload_n 1, 1) := by decide +kernel
theorem d_Mo_check_29 : decode b_Mo_check 29 = .ok (.iconst 4, 1) := by decide +kernel
theorem d_Mo_check_30 : decode b_Mo_check 30 = .ok (.idiv, 1) := by decide +kernel
theorem d_Mo_check_31 : decode b_Mo_check 31 = .ok (.istore_n 2, 1) := by decide +kernel
theorem d_Mo_check_32 : decode b_Mo_check 32 = .ok (.iload_n 1, 1) := by decide +kernel
theorem d_Mo_check_33 : decode b_Mo_check 33 = .ok (.iconst 4, 1) := by decide +kernel
theorem d_Mo_check_34 : decode b_Mo_check 34 = .ok (.irem, 1) := by decide +kernel
theorem d_Mo_check_35 : decode b_Mo_check 35 = .ok (.istore_n 3, 1) := by decide +kernel
theorem d_Mo_check_36 : decode b_Mo_check 36 = .ok (.iconst 1, 1) := by decide +kernel
theorem d_Mo_check_37 : decode b_Mo_check 37 = .ok (.istore 4, 2) := by decide +kernel
theorem d_Mo_check_39 : decode b_Mo_check 39 = .ok (.iload 4, 2) := by decide +kernel
theorem d_Mo_check_41 : decode b_Mo_check 41 = .ok (.bipush 41, 2) := by decide +kernel
theorem d_Mo_check_43 : decode b_Mo_check 43 = .ok (.if_icmp .ge 54, 3) := by decide +kernel
theorem d_Mo_check_46 : decode b_Mo_check 46 = .ok (.aload_n 0, 1) := by decide +kernel
theorem d_Mo_check_47 : decode b_Mo_check 47 = .ok (.iload_n 3, 1) := by decide +kernel
theorem d_Mo_check_48 : decode b_Mo_check 48 = .ok (.iload_n 2, 1) := by decide +kernel
theorem d_Mo_check_49 : decode b_Mo_check 49 = .ok (.invokevirtual 104, 3) := by decide +kernel
theorem d_Mo_check_52 : decode b_Mo_check 52 = .ok (.ifCond .eq 45, 3) := by decide +kernel
theorem d_Mo_check_55 : decode b_Mo_check 55 = .ok (.aload_n 0, 1) := by decide +kernel
theorem d_Mo_check_56 : decode b_Mo_check 56 = .ok (.iload 4, 2) := by decide +kernel
theorem d_Mo_check_58 : decode b_Mo_check 58 = .ok (.invokevirtual 108, 3) := by decide +kernel
theorem d_Mo_check_61 : decode b_Mo_check 61 = .ok (.ifCond .eq 30, 3) := by decide +kernel
theorem d_Mo_check_64 : decode b_Mo_check 64 = .ok (.aload_n 0, 1) := by decide +kernel
theorem d_Mo_check_65 : decode b_Mo_check 65 = .ok (.getfield 13, 3) := by decide +kernel
theorem d_Mo_check_68 : decode b_Mo_check 68 = .ok (.bipush 8, 2) := by decide +kernel
theorem d_Mo_check_70 : decode b_Mo_check 70 = .ok (.iload 4, 2) := by decide +kernel
theorem d_Mo_check_72 : decode b_Mo_check 72 = .ok (.iload_n 3, 1) := by decide +kernel
theorem d_Mo_check_73 : decode b_Mo_check 73 = .ok (.iload_n 2, 1) := by decide +kernel
theorem d_Mo_check_74 : decode b_Mo_check 74 = .ok (.invokestatic 75, 3) := by decide +kernel
theorem d_Mo_check_77 : decode b_Mo_check 77 = .ok (.iaload, 1) := by decide +kernel
theorem d_Mo_check_78 : decode b_Mo_check 78 = .ok (.ifCond .ne 13, 3) := by decide +kernel
theorem d_Mo_check_81 : decode b_Mo_check 81 = .ok (.aload_n 0, 1) := by decide +kernel
theorem d_Mo_check_82 : decode b_Mo_check 82 = .ok (.iload_n 2, 1) := by decide +kernel
theorem d_Mo_check_83 : decode b_Mo_check 83 = .ok (.iload_n 3, 1) := by decide +kernel
theorem d_Mo_check_84 : decode b_Mo_check 84 = .ok (.iload 4, 2) := by decide +kernel
theorem d_Mo_check_86 : decode b_Mo_check 86 = .ok (.iconst 0, 1) := by decide +kernel
theorem d_Mo_check_87 : decode b_Mo_check 87 = .ok (.iconst 0, 1) := by decide +kernel
theorem d_Mo_check_88 : decode b_Mo_check 88 = .ok (.invokevirtual 112, 3) := by decide +kernel
theorem d_Mo_check_91 : decode b_Mo_check 91 = .ok (.iinc 4 1, 3) := by decide +kernel
theorem d_Mo_check_94 : decode b_Mo_check 94 = .ok (.goto (-55), 3) := by decide +kernel
theorem d_Mo_check_97 : decode b_Mo_check 97 = .ok (.iconst 0, 1) := by decide +kernel
theorem d_Mo_check_98 : decode b_Mo_check 98 = .ok (.istore 4, 2) := by decide +kernel
theorem d_Mo_check_100 : decode b_Mo_check 100 = .ok (.iload 4, 2) := by decide +kernel
theorem d_Mo_check_102 : decode b_Mo_check 102 = .ok (.sipush 1600, 3) := by decide +kernel
theorem d_Mo_check_105 : decode b_Mo_check 105 = .ok (.if_icmp .ge 146, 3) := by decide +kernel
theorem d_Mo_check_108 : decode b_Mo_check 108 = .ok (.iload 4, 2) := by decide +kernel
theorem d_Mo_check_110 : decode b_Mo_check 110 = .ok (.bipush 40, 2) := by decide +kernel
theorem d_Mo_check_112 : decode b_Mo_check 112 = .ok (.idiv, 1) := by decide +kernel
theorem d_Mo_check_113 : decode b_Mo_check 113 = .ok (.iconst 1, 1) := by decide +kernel
theorem d_Mo_check_114 : decode b_Mo_check 114 = .ok (.iadd, 1) := by decide +kernel
theorem d_Mo_check_115 : decode b_Mo_check 115 = .ok (.istore 5, 2) := by decide +kernel
theorem d_Mo_check_117 : decode b_Mo_check 117 = .ok (.iload 4, 2) := by decide +kernel
theorem d_Mo_check_119 : decode b_Mo_check 119 = .ok (.bipush 40, 2) := by decide +kernel
theorem d_Mo_check_121 : decode b_Mo_check 121 = .ok (.irem, 1) := by decide +kernel
theorem d_Mo_check_122 : decode b_Mo_check 122 = .ok (.iconst 1, 1) := by decide +kernel
theorem d_Mo_check_123 : decode b_Mo_check 123 = .ok (.iadd, 1) := by decide +kernel
theorem d_Mo_check_124 : decode b_Mo_check 124 = .ok (.istore 6, 2) := by decide +kernel
theorem d_Mo_check_126 : decode b_Mo_check 126 = .ok (.bipush 8, 2) := by decide +kernel
theorem d_Mo_check_128 : decode b_Mo_check 128 = .ok (.iload 5, 2) := by decide +kernel
theorem d_Mo_check_130 : decode b_Mo_check 130 = .ok (.iload_n 3, 1) := by decide +kernel
theorem d_Mo_check_131 : decode b_Mo_check 131 = .ok (.iload_n 2, 1) := by decide +kernel
theorem d_Mo_check_132 : decode b_Mo_check 132 = .ok (.invokestatic 75, 3) := by decide +kernel
theorem d_Mo_check_135 : decode b_Mo_check 135 = .ok (.istore 7, 2) := by decide +kernel
theorem d_Mo_check_137 : decode b_Mo_check 137 = .ok (.bipush 8, 2) := by decide +kernel
theorem d_Mo_check_139 : decode b_Mo_check 139 = .ok (.iload 6, 2) := by decide +kernel
theorem d_Mo_check_141 : decode b_Mo_check 141 = .ok (.iload_n 3, 1) := by decide +kernel
theorem d_Mo_check_142 : decode b_Mo_check 142 = .ok (.iload_n 2, 1) := by decide +kernel
theorem d_Mo_check_143 : decode b_Mo_check 143 = .ok (.invokestatic 75, 3) := by decide +kernel
theorem d_Mo_check_146 : decode b_Mo_check 146 = .ok (.istore 8, 2) := by decide +kernel
theorem d_Mo_check_148 : decode b_Mo_check 148 = .ok (.iload 5, 2) := by decide +kernel
theorem d_Mo_check_150 : decode b_Mo_check 150 = .ok (.iload 6, 2) := by decide +kernel
theorem d_Mo_check_152 : decode b_Mo_check 152 = .ok (.if_icmp .ge 93, 3) := by decide +kernel
theorem d_Mo_check_155 : decode b_Mo_check 155 = .ok (.aload_n 0, 1) := by decide +kernel
theorem d_Mo_check_156 : decode b_Mo_check 156 = .ok (.getfield 13, 3) := by decide +kernel
theorem d_Mo_check_159 : decode b_Mo_check 159 = .ok (.iload 7, 2) := by decide +kernel
theorem d_Mo_check_161 : decode b_Mo_check 161 = .ok (.iaload, 1) := by decide +kernel
theorem d_Mo_check_162 : decode b_Mo_check 162 = .ok (.ifCond .le 83, 3) := by decide +kernel
theorem d_Mo_check_165 : decode b_Mo_check 165 = .ok (.aload_n 0, 1) := by decide +kernel
theorem d_Mo_check_166 : decode b_Mo_check 166 = .ok (.getfield 13, 3) := by decide +kernel
theorem d_Mo_check_169 : decode b_Mo_check 169 = .ok (.iload 7, 2) := by decide +kernel
theorem d_Mo_check_171 : decode b_Mo_check 171 = .ok (.iaload, 1) := by decide +kernel
theorem d_Mo_check_172 : decode b_Mo_check 172 = .ok (.aload_n 0, 1) := by decide +kernel
theorem d_Mo_check_173 : decode b_Mo_check 173 = .ok (.getfield 13, 3) := by decide +kernel
theorem d_Mo_check_176 : decode b_Mo_check 176 = .ok (.iload 8, 2) := by decide +kernel
theorem d_Mo_check_178 : decode b_Mo_check 178 = .ok (.iaload, 1) := by decide +kernel
theorem d_Mo_check_179 : decode b_Mo_check 179 = .ok (.if_icmp .ne 66, 3) := by decide +kernel
theorem d_Mo_check_182 : decode b_Mo_check 182 = .ok (.aload_n 0, 1) := by decide +kernel
theorem d_Mo_check_183 : decode b_Mo_check 183 = .ok (.getfield 16, 3) := by decide +kernel
theorem d_Mo_check_186 : decode b_Mo_check 186 = .ok (.iload 7, 2) := by decide +kernel
theorem d_Mo_check_188 : decode b_Mo_check 188 = .ok (.sipush 3936, 3) := by decide +kernel
theorem d_Mo_check_191 : decode b_Mo_check 191 = .ok (.isub, 1) := by decide +kernel
theorem d_Mo_check_192 : decode b_Mo_check 192 = .ok (.baload, 1) := by decide +kernel
theorem d_Mo_check_193 : decode b_Mo_check 193 = .ok (.ifCond .eq 17, 3) := by decide +kernel
theorem d_Mo_check_196 : decode b_Mo_check 196 = .ok (.aload_n 0, 1) := by decide +kernel
theorem d_Mo_check_197 : decode b_Mo_check 197 = .ok (.getfield 16, 3) := by decide +kernel
theorem d_Mo_check_200 : decode b_Mo_check 200 = .ok (.iload 8, 2) := by decide +kernel
theorem d_Mo_check_202 : decode b_Mo_check 202 = .ok (.sipush 3936, 3) := by decide +kernel
theorem d_Mo_check_205 : decode b_Mo_check 205 = .ok (.isub, 1) := by decide +kernel
theorem d_Mo_check_206 : decode b_Mo_check 206 = .ok (.baload, 1) := by decide +kernel
theorem d_Mo_check_207 : decode b_Mo_check 207 = .ok (.ifCond .ne 38, 3) := by decide +kernel
theorem d_Mo_check_210 : decode b_Mo_check 210 = .ok (.aload_n 0, 1) := by decide +kernel
theorem d_Mo_check_211 : decode b_Mo_check 211 = .ok (.iload 5, 2) := by decide +kernel
theorem d_Mo_check_213 : decode b_Mo_check 213 = .ok (.invokevirtual 108, 3) := by decide +kernel
theorem d_Mo_check_216 : decode b_Mo_check 216 = .ok (.ifCond .eq 29, 3) := by decide +kernel
theorem d_Mo_check_219 : decode b_Mo_check 219 = .ok (.aload_n 0, 1) := by decide +kernel
theorem d_Mo_check_220 : decode b_Mo_check 220 = .ok (.iload 6, 2) := by decide +kernel
theorem d_Mo_check_222 : decode b_Mo_check 222 = .ok (.invokevirtual 108, 3) := by decide +kernel
theorem d_Mo_check_225 : decode b_Mo_check 225 = .ok (.ifCond .eq 20, 3) := by decide +kernel
theorem d_Mo_check_228 : decode b_Mo_check 228 = .ok (.aload_n 0, 1) := by decide +kernel
theorem d_Mo_check_229 : decode b_Mo_check 229 = .ok (.iload_n 2, 1) := by decide +kernel
theorem d_Mo_check_230 : decode b_Mo_check 230 = .ok (.iload_n 3, 1) := by decide +kernel
theorem d_Mo_check_231 : decode b_Mo_check 231 = .ok (.iload 5, 2) := by decide +kernel
theorem d_Mo_check_233 : decode b_Mo_check 233 = .ok (.iload 6, 2) := by decide +kernel
theorem d_Mo_check_235 : decode b_Mo_check 235 = .ok (.aload_n 0, 1) := by decide +kernel
theorem d_Mo_check_236 : decode b_Mo_check 236 = .ok (.getfield 13, 3) := by decide +kernel
theorem d_Mo_check_239 : decode b_Mo_check 239 = .ok (.iload 7, 2) := by decide +kernel
theorem d_Mo_check_241 : decode b_Mo_check 241 = .ok (.iaload, 1) := by decide +kernel
theorem d_Mo_check_242 : decode b_Mo_check 242 = .ok (.invokevirtual 112, 3) := by decide +kernel
theorem d_Mo_check_245 : decode b_Mo_check 245 = .ok (.iinc 4 1, 3) := by decide +kernel
theorem d_Mo_check_248 : decode b_Mo_check 248 = .ok (.goto (-148), 3) := by decide +kernel
theorem d_Mo_check_251 : decode b_Mo_check 251 = .ok (.iinc 1 1, 3) := by decide +kernel
theorem d_Mo_check_254 : decode b_Mo_check 254 = .ok (.goto (-232), 3) := by decide +kernel
theorem d_Mo_check_257 : decode b_Mo_check 257 = .ok (.aload_n 0, 1) := by decide +kernel
theorem d_Mo_check_258 : decode b_Mo_check 258 = .ok (.getfield 101, 3) := by decide +kernel
theorem d_Mo_check_261 : decode b_Mo_check 261 = .ok (.ireturn, 1) := by decide +kernel
theorem d_Mo_isPass_0 : decode b_Mo_isPass 0 = .ok (.iconst 0, 1) := by decide +kernel
theorem d_Mo_isPass_1 : decode b_Mo_isPass 1 = .ok (.istore_n 3, 1) := by decide +kernel
theorem d_Mo_isPass_2 : decode b_Mo_isPass 2 = .ok (.iload_n 1, 1) := by decide +kernel
theorem d_Mo_isPass_3 : decode b_Mo_isPass 3 = .ok (.istore 4, 2) := by decide +kernel
theorem d_Mo_isPass_5 : decode b_Mo_isPass 5 = .ok (.iload 4, 2) := by decide +kernel
theorem d_Mo_isPass_7 : decode b_Mo_isPass 7 = .ok (.iconst 4, 1) := by decide +kernel
theorem d_Mo_isPass_8 : decode b_Mo_isPass 8 = .ok (.if_icmp .ge 53, 3) := by decide +kernel
theorem d_Mo_isPass_11 : decode b_Mo_isPass 11 = .ok (.iconst 1, 1) := by decide +kernel
theorem d_Mo_isPass_12 : decode b_Mo_isPass 12 = .ok (.istore 5, 2) := by decide +kernel
theorem d_Mo_isPass_14 : decode b_Mo_isPass 14 = .ok (.iload 5, 2) := by decide +kernel
theorem d_Mo_isPass_16 : decode b_Mo_isPass 16 = .ok (.bipush 41, 2) := by decide +kernel
theorem d_Mo_isPass_18 : decode b_Mo_isPass 18 = .ok (.if_icmp .ge 37, 3) := by decide +kernel
theorem d_Mo_isPass_21 : decode b_Mo_isPass 21 = .ok (.iload_n 3, 1) := by decide +kernel
theorem d_Mo_isPass_22 : decode b_Mo_isPass 22 = .ok (.ifCond .ne 21, 3) := by decide +kernel
theorem d_Mo_isPass_25 : decode b_Mo_isPass 25 = .ok (.aload_n 0, 1) := by decide +kernel
theorem d_Mo_isPass_26 : decode b_Mo_isPass 26 = .ok (.getfield 13, 3) := by decide +kernel
theorem d_Mo_isPass_29 : decode b_Mo_isPass 29 = .ok (.bipush 8, 2) := by decide +kernel
theorem d_Mo_isPass_31 : decode b_Mo_isPass 31 = .ok (.iload 5, 2) := by decide +kernel
theorem d_Mo_isPass_33 : decode b_Mo_isPass 33 = .ok (.iload 4, 2) := by decide +kernel
theorem d_Mo_isPass_35 : decode b_Mo_isPass 35 = .ok (.iload_n 2, 1) := by decide +kernel
theorem d_Mo_isPass_36 : decode b_Mo_isPass 36 = .ok (.invokestatic 75, 3) := by decide +kernel
theorem d_Mo_isPass_39 : decode b_Mo_isPass 39 = .ok (.iaload, 1) := by decide +kernel
theorem d_Mo_isPass_40 : decode b_Mo_isPass 40 = .ok (.ifCond .le 7, 3) := by decide +kernel
theorem d_Mo_isPass_43 : decode b_Mo_isPass 43 = .ok (.iconst 1, 1) := by decide +kernel
theorem d_Mo_isPass_44 : decode b_Mo_isPass 44 = .ok (.goto 4, 3) := by decide +kernel
theorem d_Mo_isPass_47 : decode b_Mo_isPass 47 = .ok (.iconst 0, 1) := by decide +kernel
theorem d_Mo_isPass_48 : decode b_Mo_isPass 48 = .ok (.istore_n 3, 1) := by decide +kernel
theorem d_Mo_isPass_49 : decode b_Mo_isPass 49 = .ok (.iinc 5 1, 3) := by decide +kernel
theorem d_Mo_isPass_52 : decode b_Mo_isPass 52 = .ok (.goto (-38), 3) := by decide +kernel
theorem d_Mo_isPass_55 : decode b_Mo_isPass 55 = .ok (.iinc 4 1, 3) := by decide +kernel
theorem d_Mo_isPass_58 : decode b_Mo_isPass 58 = .ok (.goto (-53), 3) := by decide +kernel
theorem d_Mo_isPass_61 : decode b_Mo_isPass 61 = .ok (.iload_n 3, 1) := by decide +kernel
theorem d_Mo_isPass_62 : decode b_Mo_isPass 62 = .ok (.ireturn, 1) := by decide +kernel
theorem d_Mo_isUsed_0 : decode b_Mo_isUsed 0 = .ok (.iconst 0, 1) := by decide +kernel
theorem d_Mo_isUsed_1 : decode b_Mo_isUsed 1 = .ok (.istore_n 2, 1) := by decide +kernel
theorem d_Mo_isUsed_2 : decode b_Mo_isUsed 2 = .ok (.iconst 0, 1) := by decide +kernel
theorem d_Mo_isUsed_3 : decode b_Mo_isUsed 3 = .ok (.istore_n 3, 1) := by decide +kernel
theorem d_Mo_isUsed_4 : decode b_Mo_isUsed 4 = .ok (.iload_n 3, 1) := by decide +kernel
theorem d_Mo_isUsed_5 : decode b_Mo_isUsed 5 = .ok (.aload_n 0, 1) := by decide +kernel
theorem d_Mo_isUsed_6 : decode b_Mo_isUsed 6 = .ok (.getfield 94, 3) := by decide +kernel
theorem d_Mo_isUsed_9 : decode b_Mo_isUsed 9 = .ok (.if_icmp .ge 31, 3) := by decide +kernel
theorem d_Mo_isUsed_12 : decode b_Mo_isUsed 12 = .ok (.iload_n 2, 1) := by decide +kernel
theorem d_Mo_isUsed_13 : decode b_Mo_isUsed 13 = .ok (.ifCond .ne 15, 3) := by decide +kernel
theorem d_Mo_isUsed_16 : decode b_Mo_isUsed 16 = .ok (.aload_n 0, 1) := by decide +kernel
theorem d_Mo_isUsed_17 : decode b_Mo_isUsed 17 = .ok (.getfield 23, 3) := by decide +kernel
theorem d_Mo_isUsed_20 : decode b_Mo_isUsed 20 = .ok (.iconst 4, 1) := by decide +kernel
theorem d_Mo_isUsed_21 : decode b_Mo_isUsed 21 = .ok (.iload_n 3, 1) := by decide +kernel
theorem d_Mo_isUsed_22 : decode b_Mo_isUsed 22 = .ok (.imul, 1) := by decide +kernel
theorem d_Mo_isUsed_23 : decode b_Mo_isUsed 23 = .ok (.iaload, 1) := by decide +kernel
theorem d_Mo_isUsed_24 : decode b_Mo_isUsed 24 = .ok (.iload_n 1, 1) := by decide +kernel
theorem d_Mo_isUsed_25 : decode b_Mo_isUsed 25 = .ok (.if_icmp .ne 7, 3) := by decide +kernel
theorem d_Mo_isUsed_28 : decode b_Mo_isUsed 28 = .ok (.iconst 1, 1) := by decide +kernel
theorem d_Mo_isUsed_29 : decode b_Mo_isUsed 29 = .ok (.goto 4, 3) := by decide +kernel
theorem d_Mo_isUsed_32 : decode b_Mo_isUsed 32 = .ok (.iconst 0, 1) := by decide +kernel
theorem d_Mo_isUsed_33 : decode b_Mo_isUsed 33 = .ok (.istore_n 2, 1) := by decide +kernel
theorem d_Mo_isUsed_34 : decode b_Mo_isUsed 34 = .ok (.iinc 3 1, 3) := by decide +kernel
theorem d_Mo_isUsed_37 : decode b_Mo_isUsed 37 = .ok (.goto (-33), 3) := by decide +kernel
theorem d_Mo_isUsed_40 : decode b_Mo_isUsed 40 = .ok (.iload_n 2, 1) := by decide +kernel
theorem d_Mo_isUsed_41 : decode b_Mo_isUsed 41 = .ok (.ireturn, 1) := by decide +kernel
theorem d_Mo_tell_0 : decode b_Mo_tell 0 = .ok (.aload_n 0, 1) := by decide +kernel
theorem d_Mo_tell_1 : decode b_Mo_tell 1 = .ok (.getfield 101, 3) := by decide +kernel
theorem d_Mo_tell_4 : decode b_Mo_tell 4 = .ok (.bipush 100, 2) := by decide +kernel
theorem d_Mo_tell_6 : decode b_Mo_tell 6 = .ok (.if_icmp .ge 73, 3) := by decide +kernel
theorem d_Mo_tell_9 : decode b_Mo_tell 9 = .ok (.aload_n 0, 1) := by decide +kernel
theorem d_Mo_tell_10 : decode b_Mo_tell 10 = .ok (.getfield 38, 3) := by decide +kernel
theorem d_Mo_tell_13 : decode b_Mo_tell 13 = .ok (.iconst 5, 1) := by decide +kernel
theorem d_Mo_tell_14 : decode b_Mo_tell 14 = .ok (.aload_n 0, 1) := by decide +kernel
theorem d_Mo_tell_15 : decode b_Mo_tell 15 = .ok (.getfield 101, 3) := by decide +kernel
theorem d_Mo_tell_18 : decode b_Mo_tell 18 = .ok (.imul, 1) := by decide +kernel
theorem d_Mo_tell_19 : decode b_Mo_tell 19 = .ok (.iload_n 1, 1) := by decide +kernel
theorem d_Mo_tell_20 : decode b_Mo_tell 20 = .ok (.iastore, 1) := by decide +kernel
theorem d_Mo_tell_21 : decode b_Mo_tell 21 = .ok (.aload_n 0, 1) := by decide +kernel
theorem d_Mo_tell_22 : decode b_Mo_tell 22 = .ok (.getfield 38, 3) := by decide +kernel
theorem d_Mo_tell_25 : decode b_Mo_tell 25 = .ok (.iconst 5, 1) := by decide +kernel
theorem d_Mo_tell_26 : decode b_Mo_tell 26 = .ok (.aload_n 0, 1) := by decide +kernel
theorem d_Mo_tell_27 : decode b_Mo_tell 27 = .ok (.getfield 101, 3) := by decide +kernel
theorem d_Mo_tell_30 : decode b_Mo_tell 30 = .ok (.imul, 1) := by decide +kernel
theorem d_Mo_tell_31 : decode b_Mo_tell 31 = .ok (.iconst 1, 1) := by decide +kernel
theorem d_Mo_tell_32 : decode b_Mo_tell 32 = .ok (.iadd, 1) := by decide +kernel
theorem d_Mo_tell_33 : decode b_Mo_tell 33 = .ok (.iload_n 2, 1) := by decide +kernel
theorem d_Mo_tell_34 : decode b_Mo_tell 34 = .ok (.iastore, 1) := by decide +kernel
theorem d_Mo_tell_35 : decode b_Mo_tell 35 = .ok (.aload_n 0, 1) := by decide +kernel
theorem d_Mo_tell_36 : decode b_Mo_tell 36 = .ok (.getfield 38, 3) := by decide +kernel
theorem d_Mo_tell_39 : decode b_Mo_tell 39 = .ok (.iconst 5, 1) := by decide +kernel
theorem d_Mo_tell_40 : decode b_Mo_tell 40 = .ok (.aload_n 0, 1) := by decide +kernel
theorem d_Mo_tell_41 : decode b_Mo_tell 41 = .ok (.getfield 101, 3) := by decide +kernel
theorem d_Mo_tell_44 : decode b_Mo_tell 44 = .ok (.imul, 1) := by decide +kernel
theorem d_Mo_tell_45 : decode b_Mo_tell 45 = .ok (.iconst 2, 1) := by decide +kernel
theorem d_Mo_tell_46 : decode b_Mo_tell 46 = .ok (.iadd, 1) := by decide +kernel
theorem d_Mo_tell_47 : decode b_Mo_tell 47 = .ok (.iload_n 3, 1) := by decide +kernel
theorem d_Mo_tell_48 : decode b_Mo_tell 48 = .ok (.iastore, 1) := by decide +kernel
theorem d_Mo_tell_49 : decode b_Mo_tell 49 = .ok (.aload_n 0, 1) := by decide +kernel
theorem d_Mo_tell_50 : decode b_Mo_tell 50 = .ok (.getfield 38, 3) := by decide +kernel
theorem d_Mo_tell_53 : decode b_Mo_tell 53 = .ok (.iconst 5, 1) := by decide +kernel
theorem d_Mo_tell_54 : decode b_Mo_tell 54 = .ok (.aload_n 0, 1) := by decide +kernel
theorem d_Mo_tell_55 : decode b_Mo_tell 55 = .ok (.getfield 101, 3) := by decide +kernel
theorem d_Mo_tell_58 : decode b_Mo_tell 58 = .ok (.imul, 1) := by decide +kernel
theorem d_Mo_tell_59 : decode b_Mo_tell 59 = .ok (.iconst 3, 1) := by decide +kernel
theorem d_Mo_tell_60 : decode b_Mo_tell 60 = .ok (.iadd, 1) := by decide +kernel
theorem d_Mo_tell_61 : decode b_Mo_tell 61 = .ok (.iload 4, 2) := by decide +kernel
theorem d_Mo_tell_63 : decode b_Mo_tell 63 = .ok (.iastore, 1) := by decide +kernel
theorem d_Mo_tell_64 : decode b_Mo_tell 64 = .ok (.aload_n 0, 1) := by decide +kernel
theorem d_Mo_tell_65 : decode b_Mo_tell 65 = .ok (.getfield 38, 3) := by decide +kernel
theorem d_Mo_tell_68 : decode b_Mo_tell 68 = .ok (.iconst 5, 1) := by decide +kernel
theorem d_Mo_tell_69 : decode b_Mo_tell 69 = .ok (.aload_n 0, 1) := by decide +kernel
theorem d_Mo_tell_70 : decode b_Mo_tell 70 = .ok (.getfield 101, 3) := by decide +kernel
theorem d_Mo_tell_73 : decode b_Mo_tell 73 = .ok (.imul, 1) := by decide +kernel
theorem d_Mo_tell_74 : decode b_Mo_tell 74 = .ok (.iconst 4, 1) := by decide +kernel
theorem d_Mo_tell_75 : decode b_Mo_tell 75 = .ok (.iadd, 1) := by decide +kernel
theorem d_Mo_tell_76 : decode b_Mo_tell 76 = .ok (.iload 5, 2) := by decide +kernel
theorem d_Mo_tell_78 : decode b_Mo_tell 78 = .ok (.iastore, 1) := by decide +kernel
theorem d_Mo_tell_79 : decode b_Mo_tell 79 = .ok (.aload_n 0, 1) := by decide +kernel
theorem d_Mo_tell_80 : decode b_Mo_tell 80 = .ok (.dup, 1) := by decide +kernel
theorem d_Mo_tell_81 : decode b_Mo_tell 81 = .ok (.getfield 101, 3) := by decide +kernel
theorem d_Mo_tell_84 : decode b_Mo_tell 84 = .ok (.iconst 1, 1) := by decide +kernel
theorem d_Mo_tell_85 : decode b_Mo_tell 85 = .ok (.iadd, 1) := by decide +kernel
theorem d_Mo_tell_86 : decode b_Mo_tell 86 = .ok (.putfield 101, 3) := by decide +kernel
theorem d_Mo_tell_89 : decode b_Mo_tell 89 = .ok (.return_, 1) := by decide +kernel
theorem d_Mo_fault_0 : decode b_Mo_fault 0 = .ok (.aload_n 0, 1) := by decide +kernel
theorem d_Mo_fault_1 : decode b_Mo_fault 1 = .ok (.iconst 0, 1) := by decide +kernel
theorem d_Mo_fault_2 : decode b_Mo_fault 2 = .ok (.putfield 48, 3) := by decide +kernel
theorem d_Mo_fault_5 : decode b_Mo_fault 5 = .ok (.iload_n 1, 1) := by decide +kernel
theorem d_Mo_fault_6 : decode b_Mo_fault 6 = .ok (.ifCond .lt 26, 3) := by decide +kernel
theorem d_Mo_fault_9 : decode b_Mo_fault 9 = .ok (.iload_n 1, 1) := by decide +kernel
theorem d_Mo_fault_10 : decode b_Mo_fault 10 = .ok (.aload_n 0, 1) := by decide +kernel
theorem d_Mo_fault_11 : decode b_Mo_fault 11 = .ok (.getfield 101, 3) := by decide +kernel
theorem d_Mo_fault_14 : decode b_Mo_fault 14 = .ok (.if_icmp .ge 18, 3) := by decide +kernel
theorem d_Mo_fault_17 : decode b_Mo_fault 17 = .ok (.iload_n 1, 1) := by decide +kernel
theorem d_Mo_fault_18 : decode b_Mo_fault 18 = .ok (.bipush 99, 2) := by decide +kernel
theorem d_Mo_fault_20 : decode b_Mo_fault 20 = .ok (.if_icmp .gt 12, 3) := by decide +kernel
theorem d_Mo_fault_23 : decode b_Mo_fault 23 = .ok (.iload_n 2, 1) := by decide +kernel
theorem d_Mo_fault_24 : decode b_Mo_fault 24 = .ok (.ifCond .lt 8, 3) := by decide +kernel
theorem d_Mo_fault_27 : decode b_Mo_fault 27 = .ok (.iload_n 2, 1) := by decide +kernel
theorem d_Mo_fault_28 : decode b_Mo_fault 28 = .ok (.iconst 4, 1) := by decide +kernel
theorem d_Mo_fault_29 : decode b_Mo_fault 29 = .ok (.if_icmp .le 7, 3) := by decide +kernel
theorem d_Mo_fault_32 : decode b_Mo_fault 32 = .ok (.iconst (-1), 1) := by decide +kernel
theorem d_Mo_fault_33 : decode b_Mo_fault 33 = .ok (.goto 13, 3) := by decide +kernel
theorem d_Mo_fault_36 : decode b_Mo_fault 36 = .ok (.aload_n 0, 1) := by decide +kernel
theorem d_Mo_fault_37 : decode b_Mo_fault 37 = .ok (.getfield 38, 3) := by decide +kernel
theorem d_Mo_fault_40 : decode b_Mo_fault 40 = .ok (.iconst 5, 1) := by decide +kernel
theorem d_Mo_fault_41 : decode b_Mo_fault 41 = .ok (.iload_n 1, 1) := by decide +kernel
theorem d_Mo_fault_42 : decode b_Mo_fault 42 = .ok (.imul, 1) := by decide +kernel
theorem d_Mo_fault_43 : decode b_Mo_fault 43 = .ok (.iload_n 2, 1) := by decide +kernel
theorem d_Mo_fault_44 : decode b_Mo_fault 44 = .ok (.iadd, 1) := by decide +kernel
theorem d_Mo_fault_45 : decode b_Mo_fault 45 = .ok (.iaload, 1) := by decide +kernel
theorem d_Mo_fault_46 : decode b_Mo_fault 46 = .ok (.ireturn, 1) := by decide +kernel
theorem d_Mo_hold_0 : decode b_Mo_hold 0 = .ok (.aload_n 0, 1) := by decide +kernel
theorem d_Mo_hold_1 : decode b_Mo_hold 1 = .ok (.iconst 0, 1) := by decide +kernel
theorem d_Mo_hold_2 : decode b_Mo_hold 2 = .ok (.putfield 48, 3) := by decide +kernel
theorem d_Mo_hold_5 : decode b_Mo_hold 5 = .ok (.iload_n 1, 1) := by decide +kernel
theorem d_Mo_hold_6 : decode b_Mo_hold 6 = .ok (.iconst 1, 1) := by decide +kernel
theorem d_Mo_hold_7 : decode b_Mo_hold 7 = .ok (.bipush 40, 2) := by decide +kernel
theorem d_Mo_hold_9 : decode b_Mo_hold 9 = .ok (.invokestatic 97, 3) := by decide +kernel
theorem d_Mo_hold_12 : decode b_Mo_hold 12 = .ok (.ifCond .ne 6, 3) := by decide +kernel
theorem d_Mo_hold_15 : decode b_Mo_hold 15 = .ok (.bipush (-101), 2) := by decide +kernel
theorem d_Mo_hold_17 : decode b_Mo_hold 17 = .ok (.ireturn, 1) := by decide +kernel
theorem d_Mo_hold_18 : decode b_Mo_hold 18 = .ok (.aload_n 0, 1) := by decide +kernel
theorem d_Mo_hold_19 : decode b_Mo_hold 19 = .ok (.getfield 91, 3) := by decide +kernel
theorem d_Mo_hold_22 : decode b_Mo_hold 22 = .ok (.ifCond .ne 6, 3) := by decide +kernel
theorem d_Mo_hold_25 : decode b_Mo_hold 25 = .ok (.bipush (-103), 2) := by decide +kernel
theorem d_Mo_hold_27 : decode b_Mo_hold 27 = .ok (.ireturn, 1) := by decide +kernel
theorem d_Mo_hold_28 : decode b_Mo_hold 28 = .ok (.aload_n 0, 1) := by decide +kernel
theorem d_Mo_hold_29 : decode b_Mo_hold 29 = .ok (.getfield 35, 3) := by decide +kernel
theorem d_Mo_hold_32 : decode b_Mo_hold 32 = .ok (.iload_n 1, 1) := by decide +kernel
theorem d_Mo_hold_33 : decode b_Mo_hold 33 = .ok (.baload, 1) := by decide +kernel
theorem d_Mo_hold_34 : decode b_Mo_hold 34 = .ok (.iload_n 2, 1) := by decide +kernel
theorem d_Mo_hold_35 : decode b_Mo_hold 35 = .ok (.if_icmp .ne 7, 3) := by decide +kernel
theorem d_Mo_hold_38 : decode b_Mo_hold 38 = .ok (.iconst 0, 1) := by decide +kernel
theorem d_Mo_hold_39 : decode b_Mo_hold 39 = .ok (.goto 4, 3) := by decide +kernel
theorem d_Mo_hold_42 : decode b_Mo_hold 42 = .ok (.iconst 1, 1) := by decide +kernel
theorem d_Mo_hold_43 : decode b_Mo_hold 43 = .ok (.istore_n 3, 1) := by decide +kernel
theorem d_Mo_hold_44 : decode b_Mo_hold 44 = .ok (.aload_n 0, 1) := by decide +kernel
theorem d_Mo_hold_45 : decode b_Mo_hold 45 = .ok (.getfield 35, 3) := by decide +kernel
theorem d_Mo_hold_48 : decode b_Mo_hold 48 = .ok (.iload_n 1, 1) := by decide +kernel
theorem d_Mo_hold_49 : decode b_Mo_hold 49 = .ok (.iload_n 2, 1) := by decide +kernel
theorem d_Mo_hold_50 : decode b_Mo_hold 50 = .ok (.bastore, 1) := by decide +kernel
theorem d_Mo_hold_51 : decode b_Mo_hold 51 = .ok (.iload_n 3, 1) := by decide +kernel
theorem d_Mo_hold_52 : decode b_Mo_hold 52 = .ok (.ireturn, 1) := by decide +kernel
theorem d_Mo_compare_0 : decode b_Mo_compare 0 = .ok (.aload_n 0, 1) := by decide +kernel
theorem d_Mo_compare_1 : decode b_Mo_compare 1 = .ok (.iconst 0, 1) := by decide +kernel
theorem d_Mo_compare_2 : decode b_Mo_compare 2 = .ok (.putfield 48, 3) := by decide +kernel
theorem d_Mo_compare_5 : decode b_Mo_compare 5 = .ok (.iload_n 1, 1) := by decide +kernel
theorem d_Mo_compare_6 : decode b_Mo_compare 6 = .ok (.iconst 0, 1) := by decide +kernel
theorem d_Mo_compare_7 : decode b_Mo_compare 7 = .ok (.aload_n 0, 1) := by decide +kernel
theorem d_Mo_compare_8 : decode b_Mo_compare 8 = .ok (.getfield 91, 3) := by decide +kernel
theorem d_Mo_compare_11 : decode b_Mo_compare 11 = .ok (.ifCond .ne 8, 3) := by decide +kernel
theorem d_Mo_compare_14 : decode b_Mo_compare 14 = .ok (.bipush 7, 2) := by decide +kernel
theorem d_Mo_compare_16 : decode b_Mo_compare 16 = .ok (.goto 9, 3) := by decide +kernel
theorem d_Mo_compare_19 : decode b_Mo_compare 19 = .ok (.aload_n 0, 1) := by decide +kernel
theorem d_Mo_compare_20 : decode b_Mo_compare 20 = .ok (.getfield 91, 3) := by decide +kernel
theorem d_Mo_compare_23 : decode b_Mo_compare 23 = .ok (.iconst 1, 1) := by decide +kernel
theorem d_Mo_compare_24 : decode b_Mo_compare 24 = .ok (.isub, 1) := by decide +kernel
theorem d_Mo_compare_25 : decode b_Mo_compare 25 = .ok (.invokestatic 97, 3) := by decide +kernel
theorem d_Mo_compare_28 : decode b_Mo_compare 28 = .ok (.ifCond .ne 6, 3) := by decide +kernel
theorem d_Mo_compare_31 : decode b_Mo_compare 31 = .ok (.bipush (-101), 2) := by decide +kernel
theorem d_Mo_compare_33 : decode b_Mo_compare 33 = .ok (.ireturn, 1) := by decide +kernel
theorem d_Mo_compare_34 : decode b_Mo_compare 34 = .ok (.aload_n 0, 1) := by decide +kernel
theorem d_Mo_compare_35 : decode b_Mo_compare 35 = .ok (.getfield 91, 3) := by decide +kernel
theorem d_Mo_compare_38 : decode b_Mo_compare 38 = .ok (.ifCond .ne 6, 3) := by decide +kernel
theorem d_Mo_compare_41 : decode b_Mo_compare 41 = .ok (.bipush (-103), 2) := by decide +kernel
theorem d_Mo_compare_43 : decode b_Mo_compare 43 = .ok (.ireturn, 1) := by decide +kernel
theorem d_Mo_compare_44 : decode b_Mo_compare 44 = .ok (.iconst 0, 1) := by decide +kernel
theorem d_Mo_compare_45 : decode b_Mo_compare 45 = .ok (.istore_n 2, 1) := by decide +kernel
theorem d_Mo_compare_46 : decode b_Mo_compare 46 = .ok (.iconst 1, 1) := by decide +kernel
theorem d_Mo_compare_47 : decode b_Mo_compare 47 = .ok (.istore_n 3, 1) := by decide +kernel
theorem d_Mo_compare_48 : decode b_Mo_compare 48 = .ok (.iload_n 3, 1) := by decide +kernel
theorem d_Mo_compare_49 : decode b_Mo_compare 49 = .ok (.bipush 41, 2) := by decide +kernel
theorem d_Mo_compare_51 : decode b_Mo_compare 51 = .ok (.if_icmp .ge 93, 3) := by decide +kernel
theorem d_Mo_compare_54 : decode b_Mo_compare 54 = .ok (.iconst 0, 1) := by decide +kernel
theorem d_Mo_compare_55 : decode b_Mo_compare 55 = .ok (.istore 4, 2) := by decide +kernel
theorem d_Mo_compare_57 : decode b_Mo_compare 57 = .ok (.iconst 0, 1) := by decide +kernel
theorem d_Mo_compare_58 : decode b_Mo_compare 58 = .ok (.istore 5, 2) := by decide +kernel
theorem d_Mo_compare_60 : decode b_Mo_compare 60 = .ok (.iload 5, 2) := by decide +kernel
theorem d_Mo_compare_62 : decode b_Mo_compare 62 = .ok (.bipush 12, 2) := by decide +kernel
theorem d_Mo_compare_64 : decode b_Mo_compare 64 = .ok (.if_icmp .ge 61, 3) := by decide +kernel
theorem d_Mo_compare_67 : decode b_Mo_compare 67 = .ok (.iload 4, 2) := by decide +kernel
theorem d_Mo_compare_69 : decode b_Mo_compare 69 = .ok (.ifCond .ne 43, 3) := by decide +kernel
theorem d_Mo_compare_72 : decode b_Mo_compare 72 = .ok (.aload_n 0, 1) := by decide +kernel
theorem d_Mo_compare_73 : decode b_Mo_compare 73 = .ok (.getfield 13, 3) := by decide +kernel
theorem d_Mo_compare_76 : decode b_Mo_compare 76 = .ok (.bipush 8, 2) := by decide +kernel
theorem d_Mo_compare_78 : decode b_Mo_compare 78 = .ok (.iload_n 3, 1) := by decide +kernel
theorem d_Mo_compare_79 : decode b_Mo_compare 79 = .ok (.iload 5, 2) := by decide +kernel
theorem d_Mo_compare_81 : decode b_Mo_compare 81 = .ok (.iconst 4, 1) := by decide +kernel
theorem d_Mo_compare_82 : decode b_Mo_compare 82 = .ok (.irem, 1) := by decide +kernel
theorem d_Mo_compare_83 : decode b_Mo_compare 83 = .ok (.iload 5, 2) := by decide +kernel
theorem d_Mo_compare_85 : decode b_Mo_compare 85 = .ok (.iconst 4, 1) := by decide +kernel
theorem d_Mo_compare_86 : decode b_Mo_compare 86 = .ok (.idiv, 1) := by decide +kernel
theorem d_Mo_compare_87 : decode b_Mo_compare 87 = .ok (.invokestatic 75, 3) := by decide +kernel
theorem d_Mo_compare_90 : decode b_Mo_compare 90 = .ok (.iaload, 1) := by decide +kernel
theorem d_Mo_compare_91 : decode b_Mo_compare 91 = .ok (.aload_n 0, 1) := by decide +kernel
theorem d_Mo_compare_92 : decode b_Mo_compare 92 = .ok (.getfield 13, 3) := by decide +kernel
theorem d_Mo_compare_95 : decode b_Mo_compare 95 = .ok (.iload_n 1, 1) := by decide +kernel
theorem d_Mo_compare_96 : decode b_Mo_compare 96 = .ok (.iload_n 3, 1) := by decide +kernel
theorem d_Mo_compare_97 : decode b_Mo_compare 97 = .ok (.iload 5, 2) := by decide +kernel
theorem d_Mo_compare_99 : decode b_Mo_compare 99 = .ok (.iconst 4, 1) := by decide +kernel
theorem d_Mo_compare_100 : decode b_Mo_compare 100 = .ok (.irem, 1) := by decide +kernel
theorem d_Mo_compare_101 : decode b_Mo_compare 101 = .ok (.iload 5, 2) := by decide +kernel
theorem d_Mo_compare_103 : decode b_Mo_compare 103 = .ok (.iconst 4, 1) := by decide +kernel
theorem d_Mo_compare_104 : decode b_Mo_compare 104 = .ok (.idiv, 1) := by decide +kernel
theorem d_Mo_compare_105 : decode b_Mo_compare 105 = .ok (.invokestatic 75, 3) := by decide +kernel
theorem d_Mo_compare_108 : decode b_Mo_compare 108 = .ok (.iaload, 1) := by decide +kernel
theorem d_Mo_compare_109 : decode b_Mo_compare 109 = .ok (.if_icmp .eq 7, 3) := by decide +kernel
theorem d_Mo_compare_112 : decode b_Mo_compare 112 = .ok (.iconst 1, 1) := by decide +kernel
theorem d_Mo_compare_113 : decode b_Mo_compare 113 = .ok (.goto 4, 3) := by decide +kernel
theorem d_Mo_compare_116 : decode b_Mo_compare 116 = .ok (.iconst 0, 1) := by decide +kernel
theorem d_Mo_compare_117 : decode b_Mo_compare 117 = .ok (.istore 4, 2) := by decide +kernel
theorem d_Mo_compare_119 : decode b_Mo_compare 119 = .ok (.iinc 5 1, 3) := by decide +kernel
theorem d_Mo_compare_122 : decode b_Mo_compare 122 = .ok (.goto (-62), 3) := by decide +kernel
theorem d_Mo_compare_125 : decode b_Mo_compare 125 = .ok (.iload 4, 2) := by decide +kernel
theorem d_Mo_compare_127 : decode b_Mo_compare 127 = .ok (.ifCond .eq 9, 3) := by decide +kernel
theorem d_Mo_compare_130 : decode b_Mo_compare 130 = .ok (.iload_n 2, 1) := by decide +kernel
theorem d_Mo_compare_131 : decode b_Mo_compare 131 = .ok (.iconst 1, 1) := by decide +kernel
theorem d_Mo_compare_132 : decode b_Mo_compare 132 = .ok (.iadd, 1) := by decide +kernel
theorem d_Mo_compare_133 : decode b_Mo_compare 133 = .ok (.goto 4, 3) := by decide +kernel
theorem d_Mo_compare_136 : decode b_Mo_compare 136 = .ok (.iload_n 2, 1) := by decide +kernel
theorem d_Mo_compare_137 : decode b_Mo_compare 137 = .ok (.istore_n 2, 1) := by decide +kernel
theorem d_Mo_compare_138 : decode b_Mo_compare 138 = .ok (.iinc 3 1, 3) := by decide +kernel
theorem d_Mo_compare_141 : decode b_Mo_compare 141 = .ok (.goto (-93), 3) := by decide +kernel
theorem d_Mo_compare_144 : decode b_Mo_compare 144 = .ok (.iload_n 2, 1) := by decide +kernel
theorem d_Mo_compare_145 : decode b_Mo_compare 145 = .ok (.ireturn, 1) := by decide +kernel
theorem d_Mo_swap_0 : decode b_Mo_swap 0 = .ok (.aload_n 0, 1) := by decide +kernel
theorem d_Mo_swap_1 : decode b_Mo_swap 1 = .ok (.iconst 0, 1) := by decide +kernel
theorem d_Mo_swap_2 : decode b_Mo_swap 2 = .ok (.putfield 48, 3) := by decide +kernel
theorem d_Mo_swap_5 : decode b_Mo_swap 5 = .ok (.iload_n 1, 1) := by decide +kernel
theorem d_Mo_swap_6 : decode b_Mo_swap 6 = .ok (.iconst 1, 1) := by decide +kernel
theorem d_Mo_swap_7 : decode b_Mo_swap 7 = .ok (.bipush 60, 2) := by decide +kernel
theorem d_Mo_swap_9 : decode b_Mo_swap 9 = .ok (.invokestatic 97, 3) := by decide +kernel
theorem d_Mo_swap_12 : decode b_Mo_swap 12 = .ok (.ifCond .eq 13, 3) := by decide +kernel
theorem d_Mo_swap_15 : decode b_Mo_swap 15 = .ok (.iload_n 2, 1) := by decide +kernel
theorem d_Mo_swap_16 : decode b_Mo_swap 16 = .ok (.iconst 1, 1) := by decide +kernel
theorem d_Mo_swap_17 : decode b_Mo_swap 17 = .ok (.bipush 60, 2) := by decide +kernel
theorem d_Mo_swap_19 : decode b_Mo_swap 19 = .ok (.invokestatic 97, 3) := by decide +kernel
theorem d_Mo_swap_22 : decode b_Mo_swap 22 = .ok (.ifCond .ne 6, 3) := by decide +kernel
theorem d_Mo_swap_25 : decode b_Mo_swap 25 = .ok (.bipush (-101), 2) := by decide +kernel
theorem d_Mo_swap_27 : decode b_Mo_swap 27 = .ok (.ireturn, 1) := by decide +kernel
theorem d_Mo_swap_28 : decode b_Mo_swap 28 = .ok (.aload_n 0, 1) := by decide +kernel
theorem d_Mo_swap_29 : decode b_Mo_swap 29 = .ok (.getfield 91, 3) := by decide +kernel
theorem d_Mo_swap_32 : decode b_Mo_swap 32 = .ok (.ifCond .ne 6, 3) := by decide +kernel
theorem d_Mo_swap_35 : decode b_Mo_swap 35 = .ok (.bipush (-103), 2) := by decide +kernel
theorem d_Mo_swap_37 : decode b_Mo_swap 37 = .ok (.ireturn, 1) := by decide +kernel
theorem d_Mo_swap_38 : decode b_Mo_swap 38 = .ok (.iconst 0, 1) := by decide +kernel
theorem d_Mo_swap_39 : decode b_Mo_swap 39 = .ok (.istore_n 3, 1) := by decide +kernel
theorem d_Mo_swap_40 : decode b_Mo_swap 40 = .ok (.sipush 3936, 3) := by decide +kernel
theorem d_Mo_swap_43 : decode b_Mo_swap 43 = .ok (.istore 4, 2) := by decide +kernel
theorem d_Mo_swap_45 : decode b_Mo_swap 45 = .ok (.iload 4, 2) := by decide +kernel
theorem d_Mo_swap_47 : decode b_Mo_swap 47 = .ok (.sipush 4428, 3) := by decide +kernel
theorem d_Mo_swap_50 : decode b_Mo_swap 50 = .ok (.if_icmp .ge 67, 3) := by decide +kernel
theorem d_Mo_swap_53 : decode b_Mo_swap 53 = .ok (.aload_n 0, 1) := by decide +kernel
theorem d_Mo_swap_54 : decode b_Mo_swap 54 = .ok (.getfield 13, 3) := by decide +kernel
theorem d_Mo_swap_57 : decode b_Mo_swap 57 = .ok (.iload 4, 2) := by decide +kernel
theorem d_Mo_swap_59 : decode b_Mo_swap 59 = .ok (.iaload, 1) := by decide +kernel
theorem d_Mo_swap_60 : decode b_Mo_swap 60 = .ok (.istore 5, 2) := by decide +kernel
theorem d_Mo_swap_62 : decode b_Mo_swap 62 = .ok (.iload 5, 2) := by decide +kernel
theorem d_Mo_swap_64 : decode b_Mo_swap 64 = .ok (.iload_n 1, 1) := by decide +kernel
theorem d_Mo_swap_65 : decode b_Mo_swap 65 = .ok (.if_icmp .eq 9, 3) := by decide +kernel
theorem d_Mo_swap_68 : decode b_Mo_swap 68 = .ok (.iload 5, 2) := by decide +kernel
theorem d_Mo_swap_70 : decode b_Mo_swap 70 = .ok (.iload_n 2, 1) := by decide +kernel
theorem d_Mo_swap_71 : decode b_Mo_swap 71 = .ok (.if_icmp .ne 9, 3) := by decide +kernel
theorem d_Mo_swap_74 : decode b_Mo_swap 74 = .ok (.iload_n 3, 1) := by decide +kernel
theorem d_Mo_swap_75 : decode b_Mo_swap 75 = .ok (.iconst 1, 1) := by decide +kernel
theorem d_Mo_swap_76 : decode b_Mo_swap 76 = .ok (.iadd, 1) := by decide +kernel
theorem d_Mo_swap_77 : decode b_Mo_swap 77 = .ok (.goto 4, 3) := by decide +kernel
theorem d_Mo_swap_80 : decode b_Mo_swap 80 = .ok (.iload_n 3, 1) := by decide +kernel
theorem d_Mo_swap_81 : decode b_Mo_swap 81 = .ok (.istore_n 3, 1) := by decide +kernel
theorem d_Mo_swap_82 : decode b_Mo_swap 82 = .ok (.aload_n 0, 1) := by decide +kernel
theorem d_Mo_swap_83 : decode b_Mo_swap 83 = .ok (.getfield 13, 3) := by decide +kernel
theorem d_Mo_swap_86 : decode b_Mo_swap 86 = .ok (.iload 4, 2) := by decide +kernel
theorem d_Mo_swap_88 : decode b_Mo_swap 88 = .ok (.iload 5, 2) := by decide +kernel
theorem d_Mo_swap_90 : decode b_Mo_swap 90 = .ok (.iload_n 1, 1) := by decide +kernel
theorem d_Mo_swap_91 : decode b_Mo_swap 91 = .ok (.if_icmp .ne 7, 3) := by decide +kernel
theorem d_Mo_swap_94 : decode b_Mo_swap 94 = .ok (.iload_n 2, 1) := by decide +kernel
theorem d_Mo_swap_95 : decode b_Mo_swap 95 = .ok (.goto 15, 3) := by decide +kernel
theorem d_Mo_swap_98 : decode b_Mo_swap 98 = .ok (.iload 5, 2) := by decide +kernel
theorem d_Mo_swap_100 : decode b_Mo_swap 100 = .ok (.iload_n 2, 1) := by decide +kernel
theorem d_Mo_swap_101 : decode b_Mo_swap 101 = .ok (.if_icmp .ne 7, 3) := by decide +kernel
theorem d_Mo_swap_104 : decode b_Mo_swap 104 = .ok (.iload_n 1, 1) := by decide +kernel
theorem d_Mo_swap_105 : decode b_Mo_swap 105 = .ok (.goto 5, 3) := by decide +kernel
theorem d_Mo_swap_108 : decode b_Mo_swap 108 = .ok (.iload 5, 2) := by decide +kernel
theorem d_Mo_swap_110 : decode b_Mo_swap 110 = .ok (.iastore, 1) := by decide +kernel
theorem d_Mo_swap_111 : decode b_Mo_swap 111 = .ok (.iinc 4 1, 3) := by decide +kernel
theorem d_Mo_swap_114 : decode b_Mo_swap 114 = .ok (.goto (-69), 3) := by decide +kernel
theorem d_Mo_swap_117 : decode b_Mo_swap 117 = .ok (.iload_n 3, 1) := by decide +kernel
theorem d_Mo_swap_118 : decode b_Mo_swap 118 = .ok (.ireturn, 1) := by decide +kernel
theorem d_Mo_overflow_0 : decode b_Mo_overflow 0 = .ok (.aload_n 0, 1) := by decide +kernel
theorem d_Mo_overflow_1 : decode b_Mo_overflow 1 = .ok (.iconst 0, 1) := by decide +kernel
theorem d_Mo_overflow_2 : decode b_Mo_overflow 2 = .ok (.putfield 48, 3) := by decide +kernel
theorem d_Mo_overflow_5 : decode b_Mo_overflow 5 = .ok (.iload_n 1, 1) := by decide +kernel
theorem d_Mo_overflow_6 : decode b_Mo_overflow 6 = .ok (.iconst 1, 1) := by decide +kernel
theorem d_Mo_overflow_7 : decode b_Mo_overflow 7 = .ok (.bipush 60, 2) := by decide +kernel
theorem d_Mo_overflow_9 : decode b_Mo_overflow 9 = .ok (.invokestatic 97, 3) := by decide +kernel
theorem d_Mo_overflow_12 : decode b_Mo_overflow 12 = .ok (.ifCond .ne 6, 3) := by decide +kernel
theorem d_Mo_overflow_15 : decode b_Mo_overflow 15 = .ok (.bipush (-101), 2) := by decide +kernel
theorem d_Mo_overflow_17 : decode b_Mo_overflow 17 = .ok (.ireturn, 1) := by decide +kernel
theorem d_Mo_overflow_18 : decode b_Mo_overflow 18 = .ok (.aload_n 0, 1) := by decide +kernel
theorem d_Mo_overflow_19 : decode b_Mo_overflow 19 = .ok (.getfield 91, 3) := by decide +kernel
theorem d_Mo_overflow_22 : decode b_Mo_overflow 22 = .ok (.ifCond .ne 6, 3) := by decide +kernel
theorem d_Mo_overflow_25 : decode b_Mo_overflow 25 = .ok (.bipush (-103), 2) := by decide +kernel
theorem d_Mo_overflow_27 : decode b_Mo_overflow 27 = .ok (.ireturn, 1) := by decide +kernel
theorem d_Mo_overflow_28 : decode b_Mo_overflow 28 = .ok (.iload_n 1, 1) := by decide +kernel
theorem d_Mo_overflow_29 : decode b_Mo_overflow 29 = .ok (.istore_n 2, 1) := by decide +kernel
theorem d_Mo_overflow_30 : decode b_Mo_overflow 30 = .ok (.iconst 0, 1) := by decide +kernel
theorem d_Mo_overflow_31 : decode b_Mo_overflow 31 = .ok (.istore_n 3, 1) := by decide +kernel
theorem d_Mo_overflow_32 : decode b_Mo_overflow 32 = .ok (.aload_n 0, 1) := by decide +kernel
theorem d_Mo_overflow_33 : decode b_Mo_overflow 33 = .ok (.getfield 29, 3) := by decide +kernel
theorem d_Mo_overflow_36 : decode b_Mo_overflow 36 = .ok (.iload_n 2, 1) := by decide +kernel
theorem d_Mo_overflow_37 : decode b_Mo_overflow 37 = .ok (.iaload, 1) := by decide +kernel
theorem d_Mo_overflow_38 : decode b_Mo_overflow 38 = .ok (.ifCond .le 22, 3) := by decide +kernel
theorem d_Mo_overflow_41 : decode b_Mo_overflow 41 = .ok (.iload_n 3, 1) := by decide +kernel
theorem d_Mo_overflow_42 : decode b_Mo_overflow 42 = .ok (.bipush 61, 2) := by decide +kernel
theorem d_Mo_overflow_44 : decode b_Mo_overflow 44 = .ok (.if_icmp .ge 16, 3) := by decide +kernel
theorem d_Mo_overflow_47 : decode b_Mo_overflow 47 = .ok (.aload_n 0, 1) := by decide +kernel
theorem d_Mo_overflow_48 : decode b_Mo_overflow 48 = .ok (.getfield 29, 3) := by decide +kernel
theorem d_Mo_overflow_51 : decode b_Mo_overflow 51 = .ok (.iload_n 2, 1) := by decide +kernel
theorem d_Mo_overflow_52 : decode b_Mo_overflow 52 = .ok (.iaload, 1) := by decide +kernel
theorem d_Mo_overflow_53 : decode b_Mo_overflow 53 = .ok (.istore_n 2, 1) := by decide +kernel
theorem d_Mo_overflow_54 : decode b_Mo_overflow 54 = .ok (.iinc 3 1, 3) := by decide +kernel
theorem d_Mo_overflow_57 : decode b_Mo_overflow 57 = .ok (.goto (-25), 3) := by decide +kernel
theorem d_Mo_overflow_60 : decode b_Mo_overflow 60 = .ok (.aload_n 0, 1) := by decide +kernel
theorem d_Mo_overflow_61 : decode b_Mo_overflow 61 = .ok (.getfield 29, 3) := by decide +kernel
theorem d_Mo_overflow_64 : decode b_Mo_overflow 64 = .ok (.iload_n 2, 1) := by decide +kernel
theorem d_Mo_overflow_65 : decode b_Mo_overflow 65 = .ok (.iaload, 1) := by decide +kernel
theorem d_Mo_overflow_66 : decode b_Mo_overflow 66 = .ok (.ifCond .le 7, 3) := by decide +kernel
theorem d_Mo_overflow_69 : decode b_Mo_overflow 69 = .ok (.iconst (-1), 1) := by decide +kernel
theorem d_Mo_overflow_70 : decode b_Mo_overflow 70 = .ok (.goto 4, 3) := by decide +kernel
theorem d_Mo_overflow_73 : decode b_Mo_overflow 73 = .ok (.iload_n 2, 1) := by decide +kernel
theorem d_Mo_overflow_74 : decode b_Mo_overflow 74 = .ok (.ireturn, 1) := by decide +kernel
theorem d_Mo_print_0 : decode b_Mo_print 0 = .ok (.aload_n 0, 1) := by decide +kernel
theorem d_Mo_print_1 : decode b_Mo_print 1 = .ok (.iconst 0, 1) := by decide +kernel
theorem d_Mo_print_2 : decode b_Mo_print 2 = .ok (.putfield 48, 3) := by decide +kernel
theorem d_Mo_print_5 : decode b_Mo_print 5 = .ok (.iconst 0, 1) := by decide +kernel
theorem d_Mo_print_6 : decode b_Mo_print 6 = .ok (.istore_n 2, 1) := by decide +kernel
theorem d_Mo_print_7 : decode b_Mo_print 7 = .ok (.iconst 1, 1) := by decide +kernel
theorem d_Mo_print_8 : decode b_Mo_print 8 = .ok (.istore_n 3, 1) := by decide +kernel
theorem d_Mo_print_9 : decode b_Mo_print 9 = .ok (.iload_n 3, 1) := by decide +kernel
theorem d_Mo_print_10 : decode b_Mo_print 10 = .ok (.bipush 61, 2) := by decide +kernel
theorem d_Mo_print_12 : decode b_Mo_print 12 = .ok (.if_icmp .ge 130, 3) := by decide +kernel
theorem d_Mo_print_15 : decode b_Mo_print 15 = .ok (.aload_n 0, 1) := by decide +kernel
theorem d_Mo_print_16 : decode b_Mo_print 16 = .ok (.getfield 91, 3) := by decide +kernel
theorem d_Mo_print_19 : decode b_Mo_print 19 = .ok (.ifCond .le 123, 3) := by decide +kernel
theorem d_Mo_print_22 : decode b_Mo_print 22 = .ok (.iload_n 2, 1) := by decide +kernel
theorem d_Mo_print_23 : decode b_Mo_print 23 = .ok (.istore 4, 2) := by decide +kernel
theorem d_Mo_print_25 : decode b_Mo_print 25 = .ok (.iconst 1, 1) := by decide +kernel
theorem d_Mo_print_26 : decode b_Mo_print 26 = .ok (.istore 5, 2) := by decide +kernel
theorem d_Mo_print_28 : decode b_Mo_print 28 = .ok (.iload 5, 2) := by decide +kernel
theorem d_Mo_print_30 : decode b_Mo_print 30 = .ok (.bipush 41, 2) := by decide +kernel
theorem d_Mo_print_32 : decode b_Mo_print 32 = .ok (.if_icmp .ge 87, 3) := by decide +kernel
theorem d_Mo_print_35 : decode b_Mo_print 35 = .ok (.aload_n 0, 1) := by decide +kernel
theorem d_Mo_print_36 : decode b_Mo_print 36 = .ok (.getfield 13, 3) := by decide +kernel
theorem d_Mo_print_39 : decode b_Mo_print 39 = .ok (.bipush 8, 2) := by decide +kernel
theorem d_Mo_print_41 : decode b_Mo_print 41 = .ok (.iload 5, 2) := by decide +kernel
theorem d_Mo_print_43 : decode b_Mo_print 43 = .ok (.iconst 0, 1) := by decide +kernel
theorem d_Mo_print_44 : decode b_Mo_print 44 = .ok (.iconst 0, 1) := by decide +kernel
theorem d_Mo_print_45 : decode b_Mo_print 45 = .ok (.invokestatic 75, 3) := by decide +kernel
theorem d_Mo_print_48 : decode b_Mo_print 48 = .ok (.iaload, 1) := by decide +kernel
theorem d_Mo_print_49 : decode b_Mo_print 49 = .ok (.iload_n 3, 1) := by decide +kernel
theorem d_Mo_print_50 : decode b_Mo_print 50 = .ok (.if_icmp .ne 63, 3) := by decide +kernel
theorem d_Mo_print_53 : decode b_Mo_print 53 = .ok (.iload_n 2, 1) := by decide +kernel
theorem d_Mo_print_54 : decode b_Mo_print 54 = .ok (.iload 4, 2) := by decide +kernel
theorem d_Mo_print_56 : decode b_Mo_print 56 = .ok (.if_icmp .ne 12, 3) := by decide +kernel
theorem d_Mo_print_59 : decode b_Mo_print 59 = .ok (.aload_n 0, 1) := by decide +kernel
theorem d_Mo_print_60 : decode b_Mo_print 60 = .ok (.iload_n 2, 1) := by decide +kernel
theorem d_Mo_print_61 : decode b_Mo_print 61 = .ok (.iload_n 3, 1) := by decide +kernel
theorem d_Mo_print_62 : decode b_Mo_print 62 = .ok (.invokevirtual 116, 3) := by decide +kernel
theorem d_Mo_print_65 : decode b_Mo_print 65 = .ok (.goto 4, 3) := by decide +kernel
theorem d_Mo_print_68 : decode b_Mo_print 68 = .ok (.iload_n 2, 1) := by decide +kernel
theorem d_Mo_print_69 : decode b_Mo_print 69 = .ok (.istore_n 2, 1) := by decide +kernel
theorem d_Mo_print_70 : decode b_Mo_print 70 = .ok (.aload_n 0, 1) := by decide +kernel
theorem d_Mo_print_71 : decode b_Mo_print 71 = .ok (.getfield 41, 3) := by decide +kernel
theorem d_Mo_print_74 : decode b_Mo_print 74 = .ok (.iload_n 2, 1) := by decide +kernel
theorem d_Mo_print_75 : decode b_Mo_print 75 = .ok (.iload_n 2, 1) := by decide +kernel
theorem d_Mo_print_76 : decode b_Mo_print 76 = .ok (.iload 4, 2) := by decide +kernel
theorem d_Mo_print_78 : decode b_Mo_print 78 = .ok (.iconst 3, 1) := by decide +kernel
theorem d_Mo_print_79 : decode b_Mo_print 79 = .ok (.iadd, 1) := by decide +kernel
theorem d_Mo_print_80 : decode b_Mo_print 80 = .ok (.if_icmp .ge 20, 3) := by decide +kernel
theorem d_Mo_print_83 : decode b_Mo_print 83 = .ok (.aload_n 0, 1) := by decide +kernel
theorem d_Mo_print_84 : decode b_Mo_print 84 = .ok (.iload 4, 2) := by decide +kernel
theorem d_Mo_print_86 : decode b_Mo_print 86 = .ok (.iload_n 2, 1) := by decide +kernel
theorem d_Mo_print_87 : decode b_Mo_print 87 = .ok (.bipush 58, 2) := by decide +kernel
theorem d_Mo_print_89 : decode b_Mo_print 89 = .ok (.invokevirtual 120, 3) := by decide +kernel
theorem d_Mo_print_92 : decode b_Mo_print 92 = .ok (.ifCond .ne 8, 3) := by decide +kernel
theorem d_Mo_print_95 : decode b_Mo_print 95 = .ok (.bipush 58, 2) := by decide +kernel
theorem d_Mo_print_97 : decode b_Mo_print 97 = .ok (.goto 5, 3) := by decide +kernel
theorem d_Mo_print_100 : decode b_Mo_print 100 = .ok (.bipush 44, 2) := by decide +kernel
theorem d_Mo_print_102 : decode b_Mo_print 102 = .ok (.iastore, 1) := by decide +kernel
theorem d_Mo_print_103 : decode b_Mo_print 103 = .ok (.aload_n 0, 1) := by decide +kernel
theorem d_Mo_print_104 : decode b_Mo_print 104 = .ok (.iload_n 2, 1) := by decide +kernel
theorem d_Mo_print_105 : decode b_Mo_print 105 = .ok (.iconst 1, 1) := by decide +kernel
theorem d_Mo_print_106 : decode b_Mo_print 106 = .ok (.iadd, 1) := by decide +kernel
theorem d_Mo_print_107 : decode b_Mo_print 107 = .ok (.iload 5, 2) := by decide +kernel
theorem d_Mo_print_109 : decode b_Mo_print 109 = .ok (.invokevirtual 116, 3) := by decide +kernel
theorem d_Mo_print_112 : decode b_Mo_print 112 = .ok (.istore_n 2, 1) := by decide +kernel
theorem d_Mo_print_113 : decode b_Mo_print 113 = .ok (.iinc 5 1, 3) := by decide +kernel
theorem d_Mo_print_116 : decode b_Mo_print 116 = .ok (.goto (-88), 3) := by decide +kernel
theorem d_Mo_print_119 : decode b_Mo_print 119 = .ok (.iload_n 2, 1) := by decide +kernel
theorem d_Mo_print_120 : decode b_Mo_print 120 = .ok (.iload 4, 2) := by decide +kernel
theorem d_Mo_print_122 : decode b_Mo_print 122 = .ok (.if_icmp .le 14, 3) := by decide +kernel
theorem d_Mo_print_125 : decode b_Mo_print 125 = .ok (.aload_n 0, 1) := by decide +kernel
theorem d_Mo_print_126 : decode b_Mo_print 126 = .ok (.getfield 41, 3) := by decide +kernel
theorem d_Mo_print_129 : decode b_Mo_print 129 = .ok (.iload_n 2, 1) := by decide +kernel
theorem d_Mo_print_130 : decode b_Mo_print 130 = .ok (.bipush 59, 2) := by decide +kernel
theorem d_Mo_print_132 : decode b_Mo_print 132 = .ok (.iastore, 1) := by decide +kernel
theorem d_Mo_print_133 : decode b_Mo_print 133 = .ok (.iinc 2 1, 3) := by decide +kernel
theorem d_Mo_print_136 : decode b_Mo_print 136 = .ok (.iinc 3 1, 3) := by decide +kernel
theorem d_Mo_print_139 : decode b_Mo_print 139 = .ok (.goto (-130), 3) := by decide +kernel
theorem d_Mo_print_142 : decode b_Mo_print 142 = .ok (.iload_n 1, 1) := by decide +kernel
theorem d_Mo_print_143 : decode b_Mo_print 143 = .ok (.ifCond .lt 8, 3) := by decide +kernel
theorem d_Mo_print_146 : decode b_Mo_print 146 = .ok (.iload_n 1, 1) := by decide +kernel
theorem d_Mo_print_147 : decode b_Mo_print 147 = .ok (.iload_n 2, 1) := by decide +kernel
theorem d_Mo_print_148 : decode b_Mo_print 148 = .ok (.if_icmp .lt 7, 3) := by decide +kernel
theorem d_Mo_print_151 : decode b_Mo_print 151 = .ok (.iconst 0, 1) := by decide +kernel
theorem d_Mo_print_152 : decode b_Mo_print 152 = .ok (.goto 9, 3) := by decide +kernel
theorem d_Mo_print_155 : decode b_Mo_print 155 = .ok (.aload_n 0, 1) := by decide +kernel
theorem d_Mo_print_156 : decode b_Mo_print 156 = .ok (.getfield 41, 3) := by decide +kernel
theorem d_Mo_print_159 : decode b_Mo_print 159 = .ok (.iload_n 1, 1) := by decide +kernel
theorem d_Mo_print_160 : decode b_Mo_print 160 = .ok (.iaload, 1) := by decide +kernel
theorem d_Mo_print_161 : decode b_Mo_print 161 = .ok (.ireturn, 1) := by decide +kernel
theorem d_Mo_write_0 : decode b_Mo_write 0 = .ok (.iload_n 1, 1) := by decide +kernel
theorem d_Mo_write_1 : decode b_Mo_write 1 = .ok (.istore_n 3, 1) := by decide +kernel
theorem d_Mo_write_2 : decode b_Mo_write 2 = .ok (.iload_n 2, 1) := by decide +kernel
theorem d_Mo_write_3 : decode b_Mo_write 3 = .ok (.bipush 9, 2) := by decide +kernel
theorem d_Mo_write_5 : decode b_Mo_write 5 = .ok (.if_icmp .le 19, 3) := by decide +kernel
theorem d_Mo_write_8 : decode b_Mo_write 8 = .ok (.aload_n 0, 1) := by decide +kernel
theorem d_Mo_write_9 : decode b_Mo_write 9 = .ok (.getfield 41, 3) := by decide +kernel
theorem d_Mo_write_12 : decode b_Mo_write 12 = .ok (.iload_n 3, 1) := by decide +kernel
theorem d_Mo_write_13 : decode b_Mo_write 13 = .ok (.bipush 48, 2) := by decide +kernel
theorem d_Mo_write_15 : decode b_Mo_write 15 = .ok (.iload_n 2, 1) := by decide +kernel
theorem d_Mo_write_16 : decode b_Mo_write 16 = .ok (.bipush 10, 2) := by decide +kernel
theorem d_Mo_write_18 : decode b_Mo_write 18 = .ok (.idiv, 1) := by decide +kernel
theorem d_Mo_write_19 : decode b_Mo_write 19 = .ok (.iadd, 1) := by decide +kernel
theorem d_Mo_write_20 : decode b_Mo_write 20 = .ok (.iastore, 1) := by decide +kernel
theorem d_Mo_write_21 : decode b_Mo_write 21 = .ok (.iinc 3 1, 3) := by decide +kernel
theorem d_Mo_write_24 : decode b_Mo_write 24 = .ok (.aload_n 0, 1) := by decide +kernel
theorem d_Mo_write_25 : decode b_Mo_write 25 = .ok (.getfield 41, 3) := by decide +kernel
theorem d_Mo_write_28 : decode b_Mo_write 28 = .ok (.iload_n 3, 1) := by decide +kernel
theorem d_Mo_write_29 : decode b_Mo_write 29 = .ok (.bipush 48, 2) := by decide +kernel
theorem d_Mo_write_31 : decode b_Mo_write 31 = .ok (.iload_n 2, 1) := by decide +kernel
theorem d_Mo_write_32 : decode b_Mo_write 32 = .ok (.bipush 10, 2) := by decide +kernel
theorem d_Mo_write_34 : decode b_Mo_write 34 = .ok (.irem, 1) := by decide +kernel
theorem d_Mo_write_35 : decode b_Mo_write 35 = .ok (.iadd, 1) := by decide +kernel
theorem d_Mo_write_36 : decode b_Mo_write 36 = .ok (.iastore, 1) := by decide +kernel
theorem d_Mo_write_37 : decode b_Mo_write 37 = .ok (.iload_n 3, 1) := by decide +kernel
theorem d_Mo_write_38 : decode b_Mo_write 38 = .ok (.iconst 1, 1) := by decide +kernel
theorem d_Mo_write_39 : decode b_Mo_write 39 = .ok (.iadd, 1) := by decide +kernel
theorem d_Mo_write_40 : decode b_Mo_write 40 = .ok (.ireturn, 1) := by decide +kernel
theorem d_Mo_has_0 : decode b_Mo_has 0 = .ok (.iconst 0, 1) := by decide +kernel
theorem d_Mo_has_1 : decode b_Mo_has 1 = .ok (.istore 4, 2) := by decide +kernel
theorem d_Mo_has_3 : decode b_Mo_has 3 = .ok (.iload_n 1, 1) := by decide +kernel
theorem d_Mo_has_4 : decode b_Mo_has 4 = .ok (.istore 5, 2) := by decide +kernel
theorem d_Mo_has_6 : decode b_Mo_has 6 = .ok (.iload 5, 2) := by decide +kernel
theorem d_Mo_has_8 : decode b_Mo_has 8 = .ok (.iload_n 2, 1) := by decide +kernel
theorem d_Mo_has_9 : decode b_Mo_has 9 = .ok (.if_icmp .ge 32, 3) := by decide +kernel
theorem d_Mo_has_12 : decode b_Mo_has 12 = .ok (.iload 4, 2) := by decide +kernel
theorem d_Mo_has_14 : decode b_Mo_has 14 = .ok (.ifCond .ne 14, 3) := by decide +kernel
theorem d_Mo_has_17 : decode b_Mo_has 17 = .ok (.aload_n 0, 1) := by decide +kernel
theorem d_Mo_has_18 : decode b_Mo_has 18 = .ok (.getfield 41, 3) := by decide +kernel
theorem d_Mo_has_21 : decode b_Mo_has 21 = .ok (.iload 5, 2) := by decide +kernel
theorem d_Mo_has_23 : decode b_Mo_has 23 = .ok (.iaload, 1) := by decide +kernel
theorem d_Mo_has_24 : decode b_Mo_has 24 = .ok (.iload_n 3, 1) := by decide +kernel
theorem d_Mo_has_25 : decode b_Mo_has 25 = .ok (.if_icmp .ne 7, 3) := by decide +kernel
theorem d_Mo_has_28 : decode b_Mo_has 28 = .ok (.iconst 1, 1) := by decide +kernel
theorem d_Mo_has_29 : decode b_Mo_has 29 = .ok (.goto 4, 3) := by decide +kernel
theorem d_Mo_has_32 : decode b_Mo_has 32 = .ok (.iconst 0, 1) := by decide +kernel
theorem d_Mo_has_33 : decode b_Mo_has 33 = .ok (.istore 4, 2) := by decide +kernel
theorem d_Mo_has_35 : decode b_Mo_has 35 = .ok (.iinc 5 1, 3) := by decide +kernel
theorem d_Mo_has_38 : decode b_Mo_has 38 = .ok (.goto (-32), 3) := by decide +kernel
theorem d_Mo_has_41 : decode b_Mo_has 41 = .ok (.iload 4, 2) := by decide +kernel
theorem d_Mo_has_43 : decode b_Mo_has 43 = .ok (.ireturn, 1) := by decide +kernel
end
section
/-! One list of words for all methods (gw), one list of nest words (ga_nl); contracts in three shapes; rows that take them. -/
def ga_gd (w : Cond) : Bool := (w.onTables && w.keeps) || (match w with | .arrayClass _ => true | _ => false)
theorem ga_gd_ok {w : Cond} (h : ga_gd w = true) : (w.onTables && w.keeps) = true ∨ ∃ ty, w = .arrayClass ty := by
  cases w with
  | arrayClass ty => exact Or.inr ⟨ty, rfl⟩
  | _ => exact Or.inl ((Bool.or_false _).symm.trans h)
def gw : List Cond := lw_tbl.filter ga_gd
theorem gw_at {w : Cond} (i : Nat) (h : lw_tbl[i]? = some w) (hg : ga_gd w = true) : w ∈ gw := List.mem_filter.mpr ⟨List.mem_of_getElem? h, hg⟩
theorem gw_tbl {w : Cond} (h : w ∈ gw) : w ∈ lw_tbl := (List.mem_filter.mp h).1
theorem gw_ok {w : Cond} (h : w ∈ gw) : (w.onTables && w.keeps) = true ∨ ∃ ty, w = .arrayClass ty := ga_gd_ok (List.mem_filter.mp h).2
theorem gw_good {ws : List Cond} (h : ∀ w ∈ ws, w ∈ gw) : GoodIn gw ws := fun w hw => ⟨h w hw, gw_ok (h w hw)⟩
theorem gw_c {b : Cond} (h : b ∈ gw) : GoodIn gw (b :: gw) := gw_good (fun w hw => by
  rcases List.mem_cons.mp hw with rfl | hw
  · exact h
  · exact hw)
def ga_isN : Cond → Bool
  | .fieldLinkNest _ _ _ _ _ _ => true
  | .methodLinkNest _ _ _ _ => true
  | _ => false
theorem ga_isN_on {w : Cond} (h : ga_isN w = true) : w.onTables = true := by
  cases w with
  | fieldLinkNest a i b n d h => rfl
  | methodLinkNest a i x h => rfl
  | _ => cases h
theorem ga_Nw_warm {w : Cond} (h : ga_isN w = true) {s U : State} (hW : s.WarmedH U.vm) (hZ : va_Nw w s) : va_Nw w U := by
  cases w with
  | fieldLinkNest a i b n d h => exact va_Nw.warmF hW hZ
  | methodLinkNest a i x h => exact va_Nw.warmM hW hZ
  | _ => cases h
def ga_K (D : va_G) (tys : List (ClassId × FieldType)) (U : State) : Prop := va_K D vwCl tys U ∧ (∀ w ∈ ga_nl, va_Nw w U) ∧ va_AOA .int U
abbrev ga_T (cI cZ cC cG : ClassId) : List (ClassId × FieldType) := [(cI, .int), (cZ, .boolean), (cC, .char), (cG, .array .int)]
theorem ga_nl_ok : ∀ w ∈ ga_nl, ga_isN w = true := by decide +kernel
theorem ga_K.warm {D : va_G} {tys : List (ClassId × FieldType)} {s U : State} (hW : s.WarmedH U.vm) (h : ga_K D tys s) : ga_K D tys U := ⟨va_K.moved hW.alike h.1, fun w hw => ga_Nw_warm (ga_nl_ok w hw) hW (h.2.1 w hw), h.2.2.moved hW.alike⟩
theorem ga_K.calling {D : va_G} {tys : List (ClassId × FieldType)} {U : State} {g : JFrame} {mk : MethodId} {a : Array Value} (h : ga_K D tys U) : ga_K D tys (U.calling g mk a) := ⟨va_K.moved (u := U) (U := U.calling g mk a) (Vm.Alike.refl U.vm) h.1, fun w hw => va_Nw.same (u := U) (U := U.calling g mk a) (ga_isN_on (ga_nl_ok w hw)) rfl (h.2.1 w hw), va_AOA.moved (u := U) (U := U.calling g mk a) (Vm.Alike.refl U.vm) h.2.2⟩
abbrev ga_rm (d mc ms : Nat) : Room := { frames := d, cells := mc, slots := ms, locals := 40 * d }
def ga_pr (D : va_G) (tys : List (ClassId × FieldType)) (av : List Value) (w : va_W) : Array Value → State → Prop := va_Pc av (fun U => va_P D vwCl w U.heap ∧ ga_K D tys U)
def ga_pw (D : va_G) (tys : List (ClassId × FieldType)) (av : List Value) (w : va_W) (sz : Nat) : Array Value → State → Prop := va_Pc av (fun U => U.heap.size = sz ∧ va_P D vwCl w U.heap ∧ ga_K D tys U ∧ va_D (fun _ => True) w)
def ga_B {α : Type} (D : va_G) (A : Nat → Prop) (wf : α → va_W) : α → State → Prop := fun x t => va_P D vwCl (wf x) t.heap ∧ va_D A (wf x)
def ga_Bq {α : Type} (D : va_G) (A : Nat → Prop) (wf : α → va_W) (ra : α → Nat) : α → Nat → State → Prop := fun x a t => a = ra x ∧ va_P D vwCl (wf x) t.heap ∧ va_D A (wf x)
/-- a method that only reads: its answer -/
def ga_Mr (l : Launch) (y : MethodName) (b : ByteArray) (n : Nat) (ret : Option FieldType) (d : Nat) (D : va_G) (tys : List (ClassId × FieldType)) (av : List Value) (w : va_W) (post : Int32 → Prop) : Prop :=
  Met l y (.code y b n ret :: gw) (ga_rm d 0 0) (ga_pr D tys av w) (vp_Si post) 0 0 (fun _ => False)
/-- a method that answers an int and changes its world -/
def ga_Mi {α : Type} (l : Launch) (y : MethodName) (b : ByteArray) (n : Nat) (ret : Option FieldType) (d mc ms : Nat) (D : va_G) (tys : List (ClassId × FieldType)) (av : List Value) (w : va_W) (wf : α → va_W) (post : Int32 → α → Prop) : Prop :=
  ∀ sz, Met l y (.code y b n ret :: gw) (ga_rm d mc ms) (ga_pw D tys av w sz) (va_Qi post (ga_B D (va_A w sz) wf) (va_A w sz)) mc ms (va_A w sz)
/-- .. and answers nothing -/
def ga_Mv {α : Type} (l : Launch) (y : MethodName) (b : ByteArray) (n : Nat) (d mc ms : Nat) (D : va_G) (tys : List (ClassId × FieldType)) (av : List Value) (w : va_W) (wf : α → va_W) (post : α → Prop) : Prop :=
  ∀ sz, Met l y (.code y b n none :: gw) (ga_rm d mc ms) (ga_pw D tys av w sz) (va_Qv post (ga_B D (va_A w sz) wf) (va_A w sz)) mc ms (va_A w sz)
/-- .. and answers a cell -/
def ga_Mq {α : Type} (l : Launch) (y : MethodName) (b : ByteArray) (n : Nat) (ret : Option FieldType) (d mc ms : Nat) (D : va_G) (tys : List (ClassId × FieldType)) (av : List Value) (w : va_W) (wf : α → va_W) (ra : α → Nat) (post : α → Prop) : Prop :=
  ∀ sz, Met l y (.code y b n ret :: gw) (ga_rm d mc ms) (ga_pw D tys av w sz) (va_Qr post (ga_Bq D (va_A w sz) wf ra) (va_A w sz)) mc ms (va_A w sz)
theorem ga_pr_blind {D : va_G} {tys : List (ClassId × FieldType)} {av : List Value} {w : va_W} : FrameBlind (ga_pr D tys av w) := fun _ _ _ _ h => ⟨h.1, h.2.1, h.2.2.calling⟩
theorem ga_pw_blind {D : va_G} {tys : List (ClassId × FieldType)} {av : List Value} {w : va_W} {sz : Nat} : FrameBlind (ga_pw D tys av w sz) := fun _ _ _ _ h => ⟨h.1, h.2.1, h.2.2.1, h.2.2.2.1.calling, h.2.2.2.2⟩
section GE
variable {l : Launch} {y : MethodName} {b : ByteArray} {n : Nat} {ret : Option FieldType} {d mc ms : Nat} {D : va_G} {tys : List (ClassId × FieldType)} {av : List Value} {w : va_W}
theorem ga_enR {post : Int32 → Prop} (hy : plainName y.cls = true) (hn : (lg_sl av).length ≤ n)
    (body : ∀ (p : Program) (e : Env) (s : State) (m : MethodId) (below : List Frame) (meth : Method) (c : Code) (ls : Array Slot), CallFix p m c b n s av.toArray gw y.cls → meth.sig.returnType = ret → meth.locks = false → ga_K D tys s → va_P D vwCl w s.heap → lv_has ls n (lv_args 0 av) → W p l e (ga_rm d 0 0) s m av.toArray below meth c s.heap [] 0 0 (MQ below (vp_Si post) av.toArray s 0 0 (fun _ => False)) (F0 m 0 ls [])) : ga_Mr l y b n ret d D tys av w post := by
  unfold ga_Mr
  refine Met.ofW (cc := b) (maxL := n) (ret := ret) hy rfl ?_
  intro p e s m args below meth c s₁ B hml hv
  obtain ⟨rfl, hP, hK⟩ := hv
  have hts := atoms_spec (ws := .code y b n ret :: gw) B.pre
  rw [lg_entry_eq]
  exact body p e s m below meth c _ ⟨B.exec, B.bytes, hml, findClass_of_methodNamed B.named, fun w h => hts w (List.mem_cons_of_mem _ h)⟩ B.returns B.notSynchronized hK hP (lv_entry av hn)
theorem ga_enI {α : Type} {wf : α → va_W} {post : Int32 → α → Prop} (hy : plainName y.cls = true) (hn : (lg_sl av).length ≤ n)
    (body : ∀ (p : Program) (e : Env) (s : State) (m : MethodId) (below : List Frame) (meth : Method) (c : Code) (ls : Array Slot) (A : Nat → Prop), CallFix p m c b n s av.toArray gw y.cls → meth.sig.returnType = ret → meth.locks = false → ga_K D tys s → va_P D vwCl w s.heap → va_D A w → (∀ q, s.heap.size ≤ q → A q) → lv_has ls n (lv_args 0 av) → W p l e (ga_rm d mc ms) s m av.toArray below meth c s.heap [] 0 0 (MQ below (va_Qi post (ga_B D A wf) A) av.toArray s mc ms A) (F0 m 0 ls [])) : ga_Mi l y b n ret d mc ms D tys av w wf post := by
  intro sz
  refine Met.ofW (cc := b) (maxL := n) (ret := ret) hy rfl ?_
  intro p e s m args below meth c s₁ B hml hv
  obtain ⟨rfl, hsz, hP, hK, hD⟩ := hv
  subst hsz
  have hts := atoms_spec (ws := .code y b n ret :: gw) B.pre
  rw [lg_entry_eq]
  exact body p e s m below meth c _ (va_A w s.heap.size) ⟨B.exec, B.bytes, hml, findClass_of_methodNamed B.named, fun w h => hts w (List.mem_cons_of_mem _ h)⟩ B.returns B.notSynchronized hK hP hD.self (fun q h => Or.inr h) (lv_entry av hn)
theorem ga_enV {α : Type} {wf : α → va_W} {post : α → Prop} (hy : plainName y.cls = true) (hn : (lg_sl av).length ≤ n)
    (body : ∀ (p : Program) (e : Env) (s : State) (m : MethodId) (below : List Frame) (meth : Method) (c : Code) (ls : Array Slot) (A : Nat → Prop), CallFix p m c b n s av.toArray gw y.cls → meth.sig.returnType = none → meth.locks = false → meth.name = y.name → ga_K D tys s → va_P D vwCl w s.heap → va_D A w → (∀ q, s.heap.size ≤ q → A q) → lv_has ls n (lv_args 0 av) → W p l e (ga_rm d mc ms) s m av.toArray below meth c s.heap [] 0 0 (MQ below (va_Qv post (ga_B D A wf) A) av.toArray s mc ms A) (F0 m 0 ls [])) : ga_Mv l y b n d mc ms D tys av w wf post := by
  intro sz
  refine Met.ofW (cc := b) (maxL := n) (ret := none) hy rfl ?_
  intro p e s m args below meth c s₁ B hml hv
  obtain ⟨rfl, hsz, hP, hK, hD⟩ := hv
  subst hsz
  have hts := atoms_spec (ws := .code y b n none :: gw) B.pre
  rw [lg_entry_eq]
  exact body p e s m below meth c _ (va_A w s.heap.size) ⟨B.exec, B.bytes, hml, findClass_of_methodNamed B.named, fun w h => hts w (List.mem_cons_of_mem _ h)⟩ B.returns B.notSynchronized (name_of_methodNamed B.named B.method).1 hK hP hD.self (fun q h => Or.inr h) (lv_entry av hn)
theorem ga_enQ {α : Type} {wf : α → va_W} {ra : α → Nat} {post : α → Prop} (hy : plainName y.cls = true) (hn : (lg_sl av).length ≤ n)
    (body : ∀ (p : Program) (e : Env) (s : State) (m : MethodId) (below : List Frame) (meth : Method) (c : Code) (ls : Array Slot) (A : Nat → Prop), CallFix p m c b n s av.toArray gw y.cls → meth.sig.returnType = ret → meth.locks = false → ga_K D tys s → va_P D vwCl w s.heap → va_D A w → (∀ q, s.heap.size ≤ q → A q) → lv_has ls n (lv_args 0 av) → W p l e (ga_rm d mc ms) s m av.toArray below meth c s.heap [] 0 0 (MQ below (va_Qr post (ga_Bq D A wf ra) A) av.toArray s mc ms A) (F0 m 0 ls [])) : ga_Mq l y b n ret d mc ms D tys av w wf ra post := by
  intro sz
  refine Met.ofW (cc := b) (maxL := n) (ret := ret) hy rfl ?_
  intro p e s m args below meth c s₁ B hml hv
  obtain ⟨rfl, hsz, hP, hK, hD⟩ := hv
  subst hsz
  have hts := atoms_spec (ws := .code y b n ret :: gw) B.pre
  rw [lg_entry_eq]
  exact body p e s m below meth c _ (va_A w s.heap.size) ⟨B.exec, B.bytes, hml, findClass_of_methodNamed B.named, fun w h => hts w (List.mem_cons_of_mem _ h)⟩ B.returns B.notSynchronized hK hP hD.self (fun q h => Or.inr h) (lv_entry av hn)
end GE
/-- what a call site's row of the pool says: an instance method, by its own class or a nest mate -/
def ga_SV (own : String) (idx : Nat) (y : MethodName) (b : ByteArray) (n : Nat) (r : Option FieldType) (k : Nat) : Prop :=
  (Cond.methodLink own idx y ∈ gw ∨ ∃ host, Cond.methodLinkNest own idx y host ∈ ga_nl) ∧ Cond.instanceMethod y ∈ gw ∧ Cond.selects y.cls y y ∈ gw ∧ Cond.initialized y.cls ∈ gw ∧ Cond.code y b n r ∈ gw ∧ (y.cls ≠ "java/lang/invoke/MethodHandle" ∧ y.cls ≠ "java/lang/invoke/VarHandle" ∧ (parseMethodDescriptor y.desc).map (fun d => d.parameters.length) = some k)
/-- .. a static one -/
def ga_SS (own : String) (idx : Nat) (y : MethodName) (b : ByteArray) (n : Nat) (r : Option FieldType) (k : Nat) : Prop :=
  (Cond.methodLink own idx y ∈ gw ∨ ∃ host, Cond.methodLinkNest own idx y host ∈ ga_nl) ∧ Cond.static y ∈ gw ∧ Cond.initialized y.cls ∈ gw ∧ Cond.code y b n r ∈ gw ∧ (y.cls ≠ "java/lang/invoke/MethodHandle" ∧ y.cls ≠ "java/lang/invoke/VarHandle" ∧ (parseMethodDescriptor y.desc).map (fun d => d.parameters.length) = some k)
/-- .. a constructor -/
def ga_SI (own : String) (idx : Nat) (y : MethodName) (b : ByteArray) (n : Nat) (k : Nat) : Prop :=
  (Cond.methodLink own idx y ∈ gw ∨ ∃ host, Cond.methodLinkNest own idx y host ∈ ga_nl) ∧ Cond.instanceMethod y ∈ gw ∧ y.name = "<init>" ∧ Cond.initialized y.cls ∈ gw ∧ Cond.code y b n none ∈ gw ∧ (y.cls ≠ "java/lang/invoke/MethodHandle" ∧ y.cls ≠ "java/lang/invoke/VarHandle" ∧ (parseMethodDescriptor y.desc).map (fun d => d.parameters.length) = some k)
/-- .. a field that is read -/
def ga_FG (own : String) (idx ci k : Nat) : Prop := ∃ (C : String) (T : u_T) (N : Nat), vwCl[ci]? = some (C, T, N) ∧ (∀ w ∈ u_ws C T N, w ∈ gw) ∧ k < N ∧ (Cond.fieldLink own idx (T k).1 (T k).2.1 (T k).2.2.1 ∈ gw ∨ ∃ host, Cond.fieldLinkNest own idx (T k).1 (T k).2.1 (T k).2.2.1 host ∈ ga_nl)
/-- .. a field that is written: of the type ty, final or not -/
def ga_FP (own : String) (idx ci k : Nat) (ty : FieldType) (fin : Bool) : Prop := ∃ (C : String) (T : u_T) (N : Nat) (ty0 : Nat → FieldType), vwCl[ci]? = some (C, T, N) ∧ (∀ w ∈ u_ws C T N, w ∈ gw) ∧ k < N ∧ (∀ k, k < N → parseFieldDescriptor (T k).2.2.1 = some (ty0 k)) ∧ (∀ a, a < N → ∀ b, b < N → a ≠ b → (T a).2.1 ≠ (T b).2.1) ∧ (T k).2.2.2 = fin ∧ parseFieldDescriptor (T k).2.2.1 = some ty ∧ (fin = true → (T k).1 = own) ∧ (Cond.fieldLink own idx (T k).1 (T k).2.1 (T k).2.2.1 ∈ gw ∨ (fin = false ∧ ∃ host, Cond.fieldLinkNest own idx (T k).1 (T k).2.1 (T k).2.2.1 host ∈ ga_nl))
/-- .. a class that is made -/
def ga_CN (own : String) (idx ci N : Nat) (fs : List Value) : Prop := ∃ (C : String) (T : u_T) (ty0 : Nat → FieldType), vwCl[ci]? = some (C, T, N) ∧ (∀ w ∈ u_ws C T N, w ∈ gw) ∧ (∀ k, k < N → parseFieldDescriptor (T k).2.2.1 = some (ty0 k)) ∧ Cond.classLink own idx C ∈ gw ∧ Cond.instantiable C N ∈ gw ∧ Cond.initialized C ∈ gw ∧ ∀ j, j < N → defaultValue (ty0 j) = vp_V fs j
end
section
theorem iw_Fa : ∀ w ∈ u_ws R_Fa T_Fa 2, w ∈ gw := by decide +kernel
theorem iw_Pl : ∀ w ∈ u_ws R_Pl T_Pl 10, w ∈ gw := by decide +kernel
theorem iw_Re : ∀ w ∈ u_ws R_Re T_Re 4, w ∈ gw := by decide +kernel
theorem iw_Sh : ∀ w ∈ u_ws R_Sh T_Sh 2, w ∈ gw := by decide +kernel
theorem iw_Te : ∀ w ∈ u_ws R_Te T_Te 2, w ∈ gw := by decide +kernel
theorem iw_SP : ∀ w ∈ u_ws R_SP T_SP 6, w ∈ gw := by decide +kernel
theorem iw_Mo : ∀ w ∈ u_ws R_Mo T_Mo 19, w ∈ gw := by decide +kernel
theorem k_SP_init : Cond.code y_SP_init b_SP_init 1 none ∈ gw := gw_at 44 (by decide +kernel) (by decide +kernel)
theorem k_Re_init : Cond.code y_Re_init b_Re_init 1 none ∈ gw := gw_at 52 (by decide +kernel) (by decide +kernel)
theorem k_Te_init : Cond.code y_Te_init b_Te_init 1 none ∈ gw := gw_at 58 (by decide +kernel) (by decide +kernel)
theorem k_Pl_init : Cond.code y_Pl_init b_Pl_init 1 none ∈ gw := gw_at 74 (by decide +kernel) (by decide +kernel)
theorem k_Fa_init : Cond.code y_Fa_init b_Fa_init 1 none ∈ gw := gw_at 134 (by decide +kernel) (by decide +kernel)
theorem k_Sh_init : Cond.code y_Sh_init b_Sh_init 1 none ∈ gw := gw_at 148 (by decide +kernel) (by decide +kernel)
theorem k_SP_sign : Cond.code y_SP_sign b_SP_sign 2 none ∈ gw := gw_at 183 (by decide +kernel) (by decide +kernel)
theorem k_Te_put : Cond.code y_Te_put b_Te_put 2 none ∈ gw := gw_at 187 (by decide +kernel) (by decide +kernel)
theorem k_SP_isWithin : Cond.code y_SP_isWithin b_SP_isWithin 3 (some .boolean) ∈ gw := gw_at 190 (by decide +kernel) (by decide +kernel)
theorem k_SP_read : Cond.code y_SP_read b_SP_read 3 (some .int) ∈ gw := gw_at 194 (by decide +kernel) (by decide +kernel)
theorem k_Re_readText : Cond.code y_Re_readText b_Re_readText 2 (some .int) ∈ gw := gw_at 198 (by decide +kernel) (by decide +kernel)
theorem k_Pl_clear : Cond.code y_Pl_clear b_Pl_clear 2 none ∈ gw := gw_at 202 (by decide +kernel) (by decide +kernel)
theorem k_Ar_fill : Cond.code y_Ar_fill b_Ar_fill 4 none ∈ gw := gw_at 205 (by decide +kernel) (by decide +kernel)
theorem k_Re_isFine : Cond.code y_Re_isFine b_Re_isFine 1 (some .boolean) ∈ gw := gw_at 209 (by decide +kernel) (by decide +kernel)
theorem k_Re_readSentence : Cond.code y_Re_readSentence b_Re_readSentence 3 none ∈ gw := gw_at 213 (by decide +kernel) (by decide +kernel)
theorem k_Te_signAt : Cond.code y_Te_signAt b_Te_signAt 2 (some .int) ∈ gw := gw_at 217 (by decide +kernel) (by decide +kernel)
theorem k_Re_readRange : Cond.code y_Re_readRange b_Re_readRange 5 none ∈ gw := gw_at 221 (by decide +kernel) (by decide +kernel)
theorem k_Re_readNumber : Cond.code y_Re_readNumber b_Re_readNumber 6 (some .int) ∈ gw := gw_at 225 (by decide +kernel) (by decide +kernel)
theorem k_Re_isFigure : Cond.code y_Re_isFigure b_Re_isFigure 1 (some .boolean) ∈ gw := gw_at 228 (by decide +kernel) (by decide +kernel)
theorem k_Re_readSign : Cond.code y_Re_readSign b_Re_readSign 2 none ∈ gw := gw_at 233 (by decide +kernel) (by decide +kernel)
theorem k_Pl_addRange : Cond.code y_Pl_addRange b_Pl_addRange 5 none ∈ gw := gw_at 237 (by decide +kernel) (by decide +kernel)
theorem k_Re_readBin : Cond.code y_Re_readBin b_Re_readBin 7 none ∈ gw := gw_at 241 (by decide +kernel) (by decide +kernel)
theorem k_Re_readPlus : Cond.code y_Re_readPlus b_Re_readPlus 1 (some .boolean) ∈ gw := gw_at 245 (by decide +kernel) (by decide +kernel)
theorem k_SP_slot : Cond.code y_SP_slot b_SP_slot 3 (some .int) ∈ gw := gw_at 248 (by decide +kernel) (by decide +kernel)
theorem k_Pl_addBin : Cond.code y_Pl_addBin b_Pl_addBin 4 (some .boolean) ∈ gw := gw_at 252 (by decide +kernel) (by decide +kernel)
theorem k_Re_readGoingOn : Cond.code y_Re_readGoingOn b_Re_readGoingOn 4 none ∈ gw := gw_at 256 (by decide +kernel) (by decide +kernel)
theorem k_Pl_addGoingOn : Cond.code y_Pl_addGoingOn b_Pl_addGoingOn 3 (some .boolean) ∈ gw := gw_at 260 (by decide +kernel) (by decide +kernel)
theorem k_SP_addEdition : Cond.code y_SP_addEdition b_SP_addEdition 1 none ∈ gw := gw_at 265 (by decide +kernel) (by decide +kernel)
theorem k_Re_giveDraftFor : Cond.code y_Re_giveDraftFor b_Re_giveDraftFor 3 (some (.object "SortPlans$Plan")) ∈ gw := gw_at 269 (by decide +kernel) (by decide +kernel)
theorem k_SP_target : Cond.code y_SP_target b_SP_target 3 (some .int) ∈ gw := gw_at 276 (by decide +kernel) (by decide +kernel)
theorem k_SP_hasPlan : Cond.code y_SP_hasPlan b_SP_hasPlan 1 (some .boolean) ∈ gw := gw_at 281 (by decide +kernel) (by decide +kernel)
theorem k_Pl_leastTargetOf : Cond.code y_Pl_leastTargetOf b_Pl_leastTargetOf 6 (some .int) ∈ gw := gw_at 285 (by decide +kernel) (by decide +kernel)
theorem k_SP_bin : Cond.code y_SP_bin b_SP_bin 4 (some .int) ∈ gw := gw_at 290 (by decide +kernel) (by decide +kernel)
theorem k_SP_isTarget : Cond.code y_SP_isTarget b_SP_isTarget 1 (some .boolean) ∈ gw := gw_at 293 (by decide +kernel) (by decide +kernel)
theorem k_SP_check : Cond.code y_SP_check b_SP_check 1 (some .int) ∈ gw := gw_at 298 (by decide +kernel) (by decide +kernel)
theorem k_Fa_findIn : Cond.code y_Fa_findIn b_Fa_findIn 5 none ∈ gw := gw_at 302 (by decide +kernel) (by decide +kernel)
theorem k_Pl_passesOf : Cond.code y_Pl_passesOf b_Pl_passesOf 5 (some .int) ∈ gw := gw_at 306 (by decide +kernel) (by decide +kernel)
theorem k_Fa_findHoles : Cond.code y_Fa_findHoles b_Fa_findHoles 5 none ∈ gw := gw_at 311 (by decide +kernel) (by decide +kernel)
theorem k_Fa_add : Cond.code y_Fa_add b_Fa_add 7 none ∈ gw := gw_at 316 (by decide +kernel) (by decide +kernel)
theorem k_Fa_findDoubles : Cond.code y_Fa_findDoubles b_Fa_findDoubles 6 none ∈ gw := gw_at 320 (by decide +kernel) (by decide +kernel)
theorem k_Fa_findDoublesOf : Cond.code y_Fa_findDoublesOf b_Fa_findDoublesOf 9 none ∈ gw := gw_at 324 (by decide +kernel) (by decide +kernel)
theorem k_SP_fault : Cond.code y_SP_fault b_SP_fault 3 (some .int) ∈ gw := gw_at 328 (by decide +kernel) (by decide +kernel)
theorem k_Fa_tell : Cond.code y_Fa_tell b_Fa_tell 3 (some .int) ∈ gw := gw_at 332 (by decide +kernel) (by decide +kernel)
theorem k_SP_hold : Cond.code y_SP_hold b_SP_hold 3 (some .int) ∈ gw := gw_at 336 (by decide +kernel) (by decide +kernel)
theorem k_SP_compare : Cond.code y_SP_compare b_SP_compare 3 (some .int) ∈ gw := gw_at 340 (by decide +kernel) (by decide +kernel)
theorem k_Pl_countTargetsOtherThan : Cond.code y_Pl_countTargetsOtherThan b_Pl_countTargetsOtherThan 4 (some .int) ∈ gw := gw_at 344 (by decide +kernel) (by decide +kernel)
theorem k_Pl_isOtherThan : Cond.code y_Pl_isOtherThan b_Pl_isOtherThan 5 (some .boolean) ∈ gw := gw_at 348 (by decide +kernel) (by decide +kernel)
theorem k_SP_swap : Cond.code y_SP_swap b_SP_swap 3 (some .int) ∈ gw := gw_at 352 (by decide +kernel) (by decide +kernel)
theorem k_SP_isBin : Cond.code y_SP_isBin b_SP_isBin 1 (some .boolean) ∈ gw := gw_at 355 (by decide +kernel) (by decide +kernel)
theorem k_Pl_exchange : Cond.code y_Pl_exchange b_Pl_exchange 6 (some .int) ∈ gw := gw_at 359 (by decide +kernel) (by decide +kernel)
theorem k_SP_overflow : Cond.code y_SP_overflow b_SP_overflow 2 (some .int) ∈ gw := gw_at 363 (by decide +kernel) (by decide +kernel)
theorem k_Pl_endOfGoingOn : Cond.code y_Pl_endOfGoingOn b_Pl_endOfGoingOn 4 (some .int) ∈ gw := gw_at 367 (by decide +kernel) (by decide +kernel)
theorem k_SP_print : Cond.code y_SP_print b_SP_print 2 (some .int) ∈ gw := gw_at 371 (by decide +kernel) (by decide +kernel)
theorem k_Sh_write : Cond.code y_Sh_write b_Sh_write 3 none ∈ gw := gw_at 375 (by decide +kernel) (by decide +kernel)
theorem k_Sh_writeBin : Cond.code y_Sh_writeBin b_Sh_writeBin 5 none ∈ gw := gw_at 379 (by decide +kernel) (by decide +kernel)
theorem k_Sh_put : Cond.code y_Sh_put b_Sh_put 2 none ∈ gw := gw_at 384 (by decide +kernel) (by decide +kernel)
theorem k_Sh_putNumber : Cond.code y_Sh_putNumber b_Sh_putNumber 2 none ∈ gw := gw_at 388 (by decide +kernel) (by decide +kernel)
theorem k_Sh_signAt : Cond.code y_Sh_signAt b_Sh_signAt 2 (some .int) ∈ gw := gw_at 392 (by decide +kernel) (by decide +kernel)
theorem k_Mo_init : Cond.code y_Mo_init b_Mo_init 1 none ∈ gw := gw_at 397 (by decide +kernel) (by decide +kernel)
theorem k_Mo_sign : Cond.code y_Mo_sign b_Mo_sign 2 none ∈ gw := gw_at 460 (by decide +kernel) (by decide +kernel)
theorem k_Mo_read : Cond.code y_Mo_read b_Mo_read 3 (some .int) ∈ gw := gw_at 464 (by decide +kernel) (by decide +kernel)
theorem k_Mo_readAll : Cond.code y_Mo_readAll b_Mo_readAll 4 (some .int) ∈ gw := gw_at 468 (by decide +kernel) (by decide +kernel)
theorem k_Mo_look : Cond.code y_Mo_look b_Mo_look 1 (some .int) ∈ gw := gw_at 472 (by decide +kernel) (by decide +kernel)
theorem k_Mo_readTarget : Cond.code y_Mo_readTarget b_Mo_readTarget 5 none ∈ gw := gw_at 476 (by decide +kernel) (by decide +kernel)
theorem k_Mo_number : Cond.code y_Mo_number b_Mo_number 6 (some .int) ∈ gw := gw_at 480 (by decide +kernel) (by decide +kernel)
theorem k_Mo_fails : Cond.code y_Mo_fails b_Mo_fails 2 none ∈ gw := gw_at 484 (by decide +kernel) (by decide +kernel)
theorem k_Mo_sign1 : Cond.code y_Mo_sign1 b_Mo_sign1 2 none ∈ gw := gw_at 488 (by decide +kernel) (by decide +kernel)
theorem k_Mo_readBin : Cond.code y_Mo_readBin b_Mo_readBin 8 none ∈ gw := gw_at 492 (by decide +kernel) (by decide +kernel)
theorem k_Mo_place : Cond.code y_Mo_place b_Mo_place 4 (some .int) ∈ gw := gw_at 495 (by decide +kernel) (by decide +kernel)
theorem k_Mo_readOverflow : Cond.code y_Mo_readOverflow b_Mo_readOverflow 4 none ∈ gw := gw_at 499 (by decide +kernel) (by decide +kernel)
theorem k_Mo_target : Cond.code y_Mo_target b_Mo_target 5 (some .int) ∈ gw := gw_at 503 (by decide +kernel) (by decide +kernel)
theorem k_Mo_isIn : Cond.code y_Mo_isIn b_Mo_isIn 3 (some .boolean) ∈ gw := gw_at 506 (by decide +kernel) (by decide +kernel)
theorem k_Mo_bin : Cond.code y_Mo_bin b_Mo_bin 4 (some .int) ∈ gw := gw_at 510 (by decide +kernel) (by decide +kernel)
theorem k_Mo_check : Cond.code y_Mo_check b_Mo_check 9 (some .int) ∈ gw := gw_at 514 (by decide +kernel) (by decide +kernel)
theorem k_Mo_isPass : Cond.code y_Mo_isPass b_Mo_isPass 6 (some .boolean) ∈ gw := gw_at 518 (by decide +kernel) (by decide +kernel)
theorem k_Mo_isUsed : Cond.code y_Mo_isUsed b_Mo_isUsed 4 (some .boolean) ∈ gw := gw_at 522 (by decide +kernel) (by decide +kernel)
theorem k_Mo_tell : Cond.code y_Mo_tell b_Mo_tell 6 none ∈ gw := gw_at 526 (by decide +kernel) (by decide +kernel)
theorem k_Mo_fault : Cond.code y_Mo_fault b_Mo_fault 3 (some .int) ∈ gw := gw_at 530 (by decide +kernel) (by decide +kernel)
theorem k_Mo_hold : Cond.code y_Mo_hold b_Mo_hold 4 (some .int) ∈ gw := gw_at 534 (by decide +kernel) (by decide +kernel)
theorem k_Mo_compare : Cond.code y_Mo_compare b_Mo_compare 6 (some .int) ∈ gw := gw_at 538 (by decide +kernel) (by decide +kernel)
theorem k_Mo_swap : Cond.code y_Mo_swap b_Mo_swap 6 (some .int) ∈ gw := gw_at 542 (by decide +kernel) (by decide +kernel)
theorem k_Mo_overflow : Cond.code y_Mo_overflow b_Mo_overflow 4 (some .int) ∈ gw := gw_at 546 (by decide +kernel) (by decide +kernel)
theorem k_Mo_print : Cond.code y_Mo_print b_Mo_print 6 (some .int) ∈ gw := gw_at 550 (by decide +kernel) (by decide +kernel)
theorem k_Mo_write : Cond.code y_Mo_write b_Mo_write 4 (some .int) ∈ gw := gw_at 554 (by decide +kernel) (by decide +kernel)
theorem k_Mo_has : Cond.code y_Mo_has b_Mo_has 6 (some .boolean) ∈ gw := gw_at 558 (by decide +kernel) (by decide +kernel)
theorem n_La_7 : ga_CN "SortPlansLaw" 7 5 6 [.null, .null, .null, .null, .int 0, .null] := ⟨R_SP, T_SP, t_SP, rfl, iw_SP, tk_SP, gw_at 40 (by decide +kernel) (by decide +kernel), gw_at 41 (by decide +kernel) (by decide +kernel), gw_at 31 (by decide +kernel) (by decide +kernel), by decide +kernel⟩
theorem s_La_9 : ga_SI "SortPlansLaw" 9 y_SP_init b_SP_init 1 0 := ⟨Or.inl (gw_at 42 (by decide +kernel) (by decide +kernel)), gw_at 43 (by decide +kernel) (by decide +kernel), rfl, gw_at 31 (by decide +kernel) (by decide +kernel), k_SP_init, ⟨by decide +kernel, by decide +kernel, by decide +kernel⟩⟩
theorem n_SP_9 : ga_CN "SortPlans" 9 2 4 [.null, .null, .int 0, .int 0] := ⟨R_Re, T_Re, t_Re, rfl, iw_Re, tk_Re, gw_at 48 (by decide +kernel) (by decide +kernel), gw_at 49 (by decide +kernel) (by decide +kernel), gw_at 32 (by decide +kernel) (by decide +kernel), by decide +kernel⟩
theorem s_SP_11 : ga_SI "SortPlans" 11 y_Re_init b_Re_init 1 0 := ⟨Or.inr ⟨"SortPlans", by decide +kernel⟩, gw_at 51 (by decide +kernel) (by decide +kernel), rfl, gw_at 32 (by decide +kernel) (by decide +kernel), k_Re_init, ⟨by decide +kernel, by decide +kernel, by decide +kernel⟩⟩
theorem n_Re_9 : ga_CN "SortPlans$Reading" 9 4 2 [.null, .int 0] := ⟨R_Te, T_Te, t_Te, rfl, iw_Te, tk_Te, gw_at 54 (by decide +kernel) (by decide +kernel), gw_at 55 (by decide +kernel) (by decide +kernel), gw_at 33 (by decide +kernel) (by decide +kernel), by decide +kernel⟩
theorem s_Re_11 : ga_SI "SortPlans$Reading" 11 y_Te_init b_Te_init 1 0 := ⟨Or.inr ⟨"SortPlans", by decide +kernel⟩, gw_at 57 (by decide +kernel) (by decide +kernel), rfl, gw_at 33 (by decide +kernel) (by decide +kernel), k_Te_init, ⟨by decide +kernel, by decide +kernel, by decide +kernel⟩⟩
theorem f_Te_9 : ga_FG "SortPlans$Text" 9 4 0 := ⟨R_Te, T_Te, 2, rfl, iw_Te, by decide, Or.inl (gw_at 60 (by decide +kernel) (by decide +kernel))⟩
theorem p_Te_9 : ga_FP "SortPlans$Text" 9 4 0 (.array .char) true := ⟨R_Te, T_Te, 2, t_Te, rfl, iw_Te, by decide, tk_Te, nm_Te, rfl, by decide +kernel, (fun _ => rfl), Or.inl (gw_at 60 (by decide +kernel) (by decide +kernel))⟩
theorem f_Te_19 : ga_FG "SortPlans$Text" 19 4 1 := ⟨R_Te, T_Te, 2, rfl, iw_Te, by decide, Or.inl (gw_at 61 (by decide +kernel) (by decide +kernel))⟩
theorem p_Te_19 : ga_FP "SortPlans$Text" 19 4 1 (.int) false := ⟨R_Te, T_Te, 2, t_Te, rfl, iw_Te, by decide, tk_Te, nm_Te, rfl, by decide +kernel, (fun h => by cases h), Or.inl (gw_at 61 (by decide +kernel) (by decide +kernel))⟩
theorem f_Re_35 : ga_FG "SortPlans$Reading" 35 4 1 := ⟨R_Te, T_Te, 2, rfl, iw_Te, by decide, Or.inl (gw_at 62 (by decide +kernel) (by decide +kernel))⟩
theorem p_Re_35 : ga_FP "SortPlans$Reading" 35 4 1 (.int) false := ⟨R_Te, T_Te, 2, t_Te, rfl, iw_Te, by decide, tk_Te, nm_Te, rfl, by decide +kernel, (fun h => by cases h), Or.inl (gw_at 62 (by decide +kernel) (by decide +kernel))⟩
theorem f_SP_56 : ga_FG "SortPlans" 56 4 1 := ⟨R_Te, T_Te, 2, rfl, iw_Te, by decide, Or.inl (gw_at 63 (by decide +kernel) (by decide +kernel))⟩
theorem p_SP_56 : ga_FP "SortPlans" 56 4 1 (.int) false := ⟨R_Te, T_Te, 2, t_Te, rfl, iw_Te, by decide, tk_Te, nm_Te, rfl, by decide +kernel, (fun h => by cases h), Or.inl (gw_at 63 (by decide +kernel) (by decide +kernel))⟩
theorem n_Re_18 : ga_CN "SortPlans$Reading" 18 1 10 [.null, .null, .null, .null, .null, .null, .null, .null, .null, .int 0] := ⟨R_Pl, T_Pl, t_Pl, rfl, iw_Pl, tk_Pl, gw_at 70 (by decide +kernel) (by decide +kernel), gw_at 71 (by decide +kernel) (by decide +kernel), gw_at 34 (by decide +kernel) (by decide +kernel), by decide +kernel⟩
theorem s_Re_20 : ga_SI "SortPlans$Reading" 20 y_Pl_init b_Pl_init 1 0 := ⟨Or.inr ⟨"SortPlans", by decide +kernel⟩, gw_at 73 (by decide +kernel) (by decide +kernel), rfl, gw_at 34 (by decide +kernel) (by decide +kernel), k_Pl_init, ⟨by decide +kernel, by decide +kernel, by decide +kernel⟩⟩
theorem f_Pl_11 : ga_FG "SortPlans$Plan" 11 1 0 := ⟨R_Pl, T_Pl, 10, rfl, iw_Pl, by decide, Or.inl (gw_at 76 (by decide +kernel) (by decide +kernel))⟩
theorem p_Pl_11 : ga_FP "SortPlans$Plan" 11 1 0 (.array .int) true := ⟨R_Pl, T_Pl, 10, t_Pl, rfl, iw_Pl, by decide, tk_Pl, nm_Pl, rfl, by decide +kernel, (fun _ => rfl), Or.inl (gw_at 76 (by decide +kernel) (by decide +kernel))⟩
theorem f_Sh_23 : ga_FG "SortPlans$Sheet" 23 1 0 := ⟨R_Pl, T_Pl, 10, rfl, iw_Pl, by decide, Or.inl (gw_at 77 (by decide +kernel) (by decide +kernel))⟩
theorem f_Fa_36 : ga_FG "SortPlans$Faults" 36 1 0 := ⟨R_Pl, T_Pl, 10, rfl, iw_Pl, by decide, Or.inl (gw_at 78 (by decide +kernel) (by decide +kernel))⟩
theorem f_SP_92 : ga_FG "SortPlans" 92 1 0 := ⟨R_Pl, T_Pl, 10, rfl, iw_Pl, by decide, Or.inl (gw_at 79 (by decide +kernel) (by decide +kernel))⟩
theorem f_Pl_17 : ga_FG "SortPlans$Plan" 17 1 1 := ⟨R_Pl, T_Pl, 10, rfl, iw_Pl, by decide, Or.inl (gw_at 80 (by decide +kernel) (by decide +kernel))⟩
theorem p_Pl_17 : ga_FP "SortPlans$Plan" 17 1 1 (.array .boolean) true := ⟨R_Pl, T_Pl, 10, t_Pl, rfl, iw_Pl, by decide, tk_Pl, nm_Pl, rfl, by decide +kernel, (fun _ => rfl), Or.inl (gw_at 80 (by decide +kernel) (by decide +kernel))⟩
theorem f_Fa_51 : ga_FG "SortPlans$Faults" 51 1 1 := ⟨R_Pl, T_Pl, 10, rfl, iw_Pl, by decide, Or.inl (gw_at 81 (by decide +kernel) (by decide +kernel))⟩
theorem f_Pl_21 : ga_FG "SortPlans$Plan" 21 1 2 := ⟨R_Pl, T_Pl, 10, rfl, iw_Pl, by decide, Or.inl (gw_at 82 (by decide +kernel) (by decide +kernel))⟩
theorem p_Pl_21 : ga_FP "SortPlans$Plan" 21 1 2 (.array .boolean) true := ⟨R_Pl, T_Pl, 10, t_Pl, rfl, iw_Pl, by decide, tk_Pl, nm_Pl, rfl, by decide +kernel, (fun _ => rfl), Or.inl (gw_at 82 (by decide +kernel) (by decide +kernel))⟩
theorem f_Fa_32 : ga_FG "SortPlans$Faults" 32 1 2 := ⟨R_Pl, T_Pl, 10, rfl, iw_Pl, by decide, Or.inl (gw_at 83 (by decide +kernel) (by decide +kernel))⟩
theorem f_Pl_24 : ga_FG "SortPlans$Plan" 24 1 3 := ⟨R_Pl, T_Pl, 10, rfl, iw_Pl, by decide, Or.inl (gw_at 84 (by decide +kernel) (by decide +kernel))⟩
theorem p_Pl_24 : ga_FP "SortPlans$Plan" 24 1 3 (.array .boolean) true := ⟨R_Pl, T_Pl, 10, t_Pl, rfl, iw_Pl, by decide, tk_Pl, nm_Pl, rfl, by decide +kernel, (fun _ => rfl), Or.inl (gw_at 84 (by decide +kernel) (by decide +kernel))⟩
theorem f_SP_88 : ga_FG "SortPlans" 88 1 3 := ⟨R_Pl, T_Pl, 10, rfl, iw_Pl, by decide, Or.inl (gw_at 85 (by decide +kernel) (by decide +kernel))⟩
theorem f_Pl_27 : ga_FG "SortPlans$Plan" 27 1 4 := ⟨R_Pl, T_Pl, 10, rfl, iw_Pl, by decide, Or.inl (gw_at 86 (by decide +kernel) (by decide +kernel))⟩
theorem p_Pl_27 : ga_FP "SortPlans$Plan" 27 1 4 (.array .int) true := ⟨R_Pl, T_Pl, 10, t_Pl, rfl, iw_Pl, by decide, tk_Pl, nm_Pl, rfl, by decide +kernel, (fun _ => rfl), Or.inl (gw_at 86 (by decide +kernel) (by decide +kernel))⟩
theorem f_Pl_30 : ga_FG "SortPlans$Plan" 30 1 5 := ⟨R_Pl, T_Pl, 10, rfl, iw_Pl, by decide, Or.inl (gw_at 87 (by decide +kernel) (by decide +kernel))⟩
theorem p_Pl_30 : ga_FP "SortPlans$Plan" 30 1 5 (.array .int) true := ⟨R_Pl, T_Pl, 10, t_Pl, rfl, iw_Pl, by decide, tk_Pl, nm_Pl, rfl, by decide +kernel, (fun _ => rfl), Or.inl (gw_at 87 (by decide +kernel) (by decide +kernel))⟩
theorem f_Pl_33 : ga_FG "SortPlans$Plan" 33 1 6 := ⟨R_Pl, T_Pl, 10, rfl, iw_Pl, by decide, Or.inl (gw_at 88 (by decide +kernel) (by decide +kernel))⟩
theorem p_Pl_33 : ga_FP "SortPlans$Plan" 33 1 6 (.array .int) true := ⟨R_Pl, T_Pl, 10, t_Pl, rfl, iw_Pl, by decide, tk_Pl, nm_Pl, rfl, by decide +kernel, (fun _ => rfl), Or.inl (gw_at 88 (by decide +kernel) (by decide +kernel))⟩
theorem f_Pl_36 : ga_FG "SortPlans$Plan" 36 1 7 := ⟨R_Pl, T_Pl, 10, rfl, iw_Pl, by decide, Or.inl (gw_at 89 (by decide +kernel) (by decide +kernel))⟩
theorem p_Pl_36 : ga_FP "SortPlans$Plan" 36 1 7 (.array .int) true := ⟨R_Pl, T_Pl, 10, t_Pl, rfl, iw_Pl, by decide, tk_Pl, nm_Pl, rfl, by decide +kernel, (fun _ => rfl), Or.inl (gw_at 89 (by decide +kernel) (by decide +kernel))⟩
theorem f_Pl_39 : ga_FG "SortPlans$Plan" 39 1 8 := ⟨R_Pl, T_Pl, 10, rfl, iw_Pl, by decide, Or.inl (gw_at 90 (by decide +kernel) (by decide +kernel))⟩
theorem p_Pl_39 : ga_FP "SortPlans$Plan" 39 1 8 (.array .int) true := ⟨R_Pl, T_Pl, 10, t_Pl, rfl, iw_Pl, by decide, tk_Pl, nm_Pl, rfl, by decide +kernel, (fun _ => rfl), Or.inl (gw_at 90 (by decide +kernel) (by decide +kernel))⟩
theorem f_Pl_48 : ga_FG "SortPlans$Plan" 48 1 9 := ⟨R_Pl, T_Pl, 10, rfl, iw_Pl, by decide, Or.inl (gw_at 91 (by decide +kernel) (by decide +kernel))⟩
theorem p_Pl_48 : ga_FP "SortPlans$Plan" 48 1 9 (.int) false := ⟨R_Pl, T_Pl, 10, t_Pl, rfl, iw_Pl, by decide, tk_Pl, nm_Pl, rfl, by decide +kernel, (fun h => by cases h), Or.inl (gw_at 91 (by decide +kernel) (by decide +kernel))⟩
theorem f_Re_12 : ga_FG "SortPlans$Reading" 12 2 0 := ⟨R_Re, T_Re, 4, rfl, iw_Re, by decide, Or.inl (gw_at 115 (by decide +kernel) (by decide +kernel))⟩
theorem p_Re_12 : ga_FP "SortPlans$Reading" 12 2 0 (.object "SortPlans$Text") true := ⟨R_Re, T_Re, 4, t_Re, rfl, iw_Re, by decide, tk_Re, nm_Re, rfl, by decide +kernel, (fun _ => rfl), Or.inl (gw_at 115 (by decide +kernel) (by decide +kernel))⟩
theorem f_SP_42 : ga_FG "SortPlans" 42 2 0 := ⟨R_Re, T_Re, 4, rfl, iw_Re, by decide, Or.inl (gw_at 116 (by decide +kernel) (by decide +kernel))⟩
theorem f_Re_21 : ga_FG "SortPlans$Reading" 21 2 1 := ⟨R_Re, T_Re, 4, rfl, iw_Re, by decide, Or.inl (gw_at 117 (by decide +kernel) (by decide +kernel))⟩
theorem p_Re_21 : ga_FP "SortPlans$Reading" 21 2 1 (.object "SortPlans$Plan") false := ⟨R_Re, T_Re, 4, t_Re, rfl, iw_Re, by decide, tk_Re, nm_Re, rfl, by decide +kernel, (fun h => by cases h), Or.inl (gw_at 117 (by decide +kernel) (by decide +kernel))⟩
theorem f_Re_32 : ga_FG "SortPlans$Reading" 32 2 2 := ⟨R_Re, T_Re, 4, rfl, iw_Re, by decide, Or.inl (gw_at 118 (by decide +kernel) (by decide +kernel))⟩
theorem p_Re_32 : ga_FP "SortPlans$Reading" 32 2 2 (.int) false := ⟨R_Re, T_Re, 4, t_Re, rfl, iw_Re, by decide, tk_Re, nm_Re, rfl, by decide +kernel, (fun h => by cases h), Or.inl (gw_at 118 (by decide +kernel) (by decide +kernel))⟩
theorem f_Re_25 : ga_FG "SortPlans$Reading" 25 2 3 := ⟨R_Re, T_Re, 4, rfl, iw_Re, by decide, Or.inl (gw_at 119 (by decide +kernel) (by decide +kernel))⟩
theorem p_Re_25 : ga_FP "SortPlans$Reading" 25 2 3 (.int) false := ⟨R_Re, T_Re, 4, t_Re, rfl, iw_Re, by decide, tk_Re, nm_Re, rfl, by decide +kernel, (fun h => by cases h), Or.inl (gw_at 119 (by decide +kernel) (by decide +kernel))⟩
theorem f_SP_64 : ga_FG "SortPlans" 64 2 3 := ⟨R_Re, T_Re, 4, rfl, iw_Re, by decide, Or.inl (gw_at 120 (by decide +kernel) (by decide +kernel))⟩
theorem p_SP_64 : ga_FP "SortPlans" 64 2 3 (.int) false := ⟨R_Re, T_Re, 4, t_Re, rfl, iw_Re, by decide, tk_Re, nm_Re, rfl, by decide +kernel, (fun h => by cases h), Or.inl (gw_at 120 (by decide +kernel) (by decide +kernel))⟩
theorem n_SP_16 : ga_CN "SortPlans" 16 0 2 [.null, .int 0] := ⟨R_Fa, T_Fa, t_Fa, rfl, iw_Fa, tk_Fa, gw_at 130 (by decide +kernel) (by decide +kernel), gw_at 131 (by decide +kernel) (by decide +kernel), gw_at 35 (by decide +kernel) (by decide +kernel), by decide +kernel⟩
theorem s_SP_18 : ga_SI "SortPlans" 18 y_Fa_init b_Fa_init 1 0 := ⟨Or.inr ⟨"SortPlans", by decide +kernel⟩, gw_at 133 (by decide +kernel) (by decide +kernel), rfl, gw_at 35 (by decide +kernel) (by decide +kernel), k_Fa_init, ⟨by decide +kernel, by decide +kernel, by decide +kernel⟩⟩
theorem f_Fa_11 : ga_FG "SortPlans$Faults" 11 0 0 := ⟨R_Fa, T_Fa, 2, rfl, iw_Fa, by decide, Or.inl (gw_at 136 (by decide +kernel) (by decide +kernel))⟩
theorem p_Fa_11 : ga_FP "SortPlans$Faults" 11 0 0 (.array .int) true := ⟨R_Fa, T_Fa, 2, t_Fa, rfl, iw_Fa, by decide, tk_Fa, nm_Fa, rfl, by decide +kernel, (fun _ => rfl), Or.inl (gw_at 136 (by decide +kernel) (by decide +kernel))⟩
theorem f_Fa_15 : ga_FG "SortPlans$Faults" 15 0 1 := ⟨R_Fa, T_Fa, 2, rfl, iw_Fa, by decide, Or.inl (gw_at 137 (by decide +kernel) (by decide +kernel))⟩
theorem p_Fa_15 : ga_FP "SortPlans$Faults" 15 0 1 (.int) false := ⟨R_Fa, T_Fa, 2, t_Fa, rfl, iw_Fa, by decide, tk_Fa, nm_Fa, rfl, by decide +kernel, (fun h => by cases h), Or.inl (gw_at 137 (by decide +kernel) (by decide +kernel))⟩
theorem f_SP_104 : ga_FG "SortPlans" 104 0 1 := ⟨R_Fa, T_Fa, 2, rfl, iw_Fa, by decide, Or.inl (gw_at 138 (by decide +kernel) (by decide +kernel))⟩
theorem p_SP_104 : ga_FP "SortPlans" 104 0 1 (.int) false := ⟨R_Fa, T_Fa, 2, t_Fa, rfl, iw_Fa, by decide, tk_Fa, nm_Fa, rfl, by decide +kernel, (fun h => by cases h), Or.inl (gw_at 138 (by decide +kernel) (by decide +kernel))⟩
theorem n_SP_23 : ga_CN "SortPlans" 23 3 2 [.null, .int 0] := ⟨R_Sh, T_Sh, t_Sh, rfl, iw_Sh, tk_Sh, gw_at 144 (by decide +kernel) (by decide +kernel), gw_at 145 (by decide +kernel) (by decide +kernel), gw_at 36 (by decide +kernel) (by decide +kernel), by decide +kernel⟩
theorem s_SP_25 : ga_SI "SortPlans" 25 y_Sh_init b_Sh_init 1 0 := ⟨Or.inr ⟨"SortPlans", by decide +kernel⟩, gw_at 147 (by decide +kernel) (by decide +kernel), rfl, gw_at 36 (by decide +kernel) (by decide +kernel), k_Sh_init, ⟨by decide +kernel, by decide +kernel, by decide +kernel⟩⟩
theorem f_Sh_11 : ga_FG "SortPlans$Sheet" 11 3 0 := ⟨R_Sh, T_Sh, 2, rfl, iw_Sh, by decide, Or.inl (gw_at 150 (by decide +kernel) (by decide +kernel))⟩
theorem p_Sh_11 : ga_FP "SortPlans$Sheet" 11 3 0 (.array .char) true := ⟨R_Sh, T_Sh, 2, t_Sh, rfl, iw_Sh, by decide, tk_Sh, nm_Sh, rfl, by decide +kernel, (fun _ => rfl), Or.inl (gw_at 150 (by decide +kernel) (by decide +kernel))⟩
theorem f_Sh_15 : ga_FG "SortPlans$Sheet" 15 3 1 := ⟨R_Sh, T_Sh, 2, rfl, iw_Sh, by decide, Or.inl (gw_at 151 (by decide +kernel) (by decide +kernel))⟩
theorem p_Sh_15 : ga_FP "SortPlans$Sheet" 15 3 1 (.int) false := ⟨R_Sh, T_Sh, 2, t_Sh, rfl, iw_Sh, by decide, tk_Sh, nm_Sh, rfl, by decide +kernel, (fun h => by cases h), Or.inl (gw_at 151 (by decide +kernel) (by decide +kernel))⟩
theorem n_SP_35 : ga_CN "SortPlans" 35 1 10 [.null, .null, .null, .null, .null, .null, .null, .null, .null, .int 0] := ⟨R_Pl, T_Pl, t_Pl, rfl, iw_Pl, tk_Pl, gw_at 159 (by decide +kernel) (by decide +kernel), gw_at 71 (by decide +kernel) (by decide +kernel), gw_at 34 (by decide +kernel) (by decide +kernel), by decide +kernel⟩
theorem s_SP_37 : ga_SI "SortPlans" 37 y_Pl_init b_Pl_init 1 0 := ⟨Or.inr ⟨"SortPlans", by decide +kernel⟩, gw_at 73 (by decide +kernel) (by decide +kernel), rfl, gw_at 34 (by decide +kernel) (by decide +kernel), k_Pl_init, ⟨by decide +kernel, by decide +kernel, by decide +kernel⟩⟩
theorem f_SP_12 : ga_FG "SortPlans" 12 5 0 := ⟨R_SP, T_SP, 6, rfl, iw_SP, by decide, Or.inl (gw_at 161 (by decide +kernel) (by decide +kernel))⟩
theorem p_SP_12 : ga_FP "SortPlans" 12 5 0 (.object "SortPlans$Reading") true := ⟨R_SP, T_SP, 6, t_SP, rfl, iw_SP, by decide, tk_SP, nm_SP, rfl, by decide +kernel, (fun _ => rfl), Or.inl (gw_at 161 (by decide +kernel) (by decide +kernel))⟩
theorem f_SP_19 : ga_FG "SortPlans" 19 5 1 := ⟨R_SP, T_SP, 6, rfl, iw_SP, by decide, Or.inl (gw_at 162 (by decide +kernel) (by decide +kernel))⟩
theorem p_SP_19 : ga_FP "SortPlans" 19 5 1 (.object "SortPlans$Faults") true := ⟨R_SP, T_SP, 6, t_SP, rfl, iw_SP, by decide, tk_SP, nm_SP, rfl, by decide +kernel, (fun _ => rfl), Or.inl (gw_at 162 (by decide +kernel) (by decide +kernel))⟩
theorem f_SP_26 : ga_FG "SortPlans" 26 5 2 := ⟨R_SP, T_SP, 6, rfl, iw_SP, by decide, Or.inl (gw_at 163 (by decide +kernel) (by decide +kernel))⟩
theorem p_SP_26 : ga_FP "SortPlans" 26 5 2 (.object "SortPlans$Sheet") true := ⟨R_SP, T_SP, 6, t_SP, rfl, iw_SP, by decide, tk_SP, nm_SP, rfl, by decide +kernel, (fun _ => rfl), Or.inl (gw_at 163 (by decide +kernel) (by decide +kernel))⟩
theorem f_SP_32 : ga_FG "SortPlans" 32 5 3 := ⟨R_SP, T_SP, 6, rfl, iw_SP, by decide, Or.inl (gw_at 164 (by decide +kernel) (by decide +kernel))⟩
theorem p_SP_32 : ga_FP "SortPlans" 32 5 3 (.array (.array .int)) true := ⟨R_SP, T_SP, 6, t_SP, rfl, iw_SP, by decide, tk_SP, nm_SP, rfl, by decide +kernel, (fun _ => rfl), Or.inl (gw_at 164 (by decide +kernel) (by decide +kernel))⟩
theorem f_SP_67 : ga_FG "SortPlans" 67 5 4 := ⟨R_SP, T_SP, 6, rfl, iw_SP, by decide, Or.inl (gw_at 165 (by decide +kernel) (by decide +kernel))⟩
theorem p_SP_67 : ga_FP "SortPlans" 67 5 4 (.int) false := ⟨R_SP, T_SP, 6, t_SP, rfl, iw_SP, by decide, tk_SP, nm_SP, rfl, by decide +kernel, (fun h => by cases h), Or.inl (gw_at 165 (by decide +kernel) (by decide +kernel))⟩
theorem f_SP_38 : ga_FG "SortPlans" 38 5 5 := ⟨R_SP, T_SP, 6, rfl, iw_SP, by decide, Or.inl (gw_at 166 (by decide +kernel) (by decide +kernel))⟩
theorem p_SP_38 : ga_FP "SortPlans" 38 5 5 (.object "SortPlans$Plan") false := ⟨R_SP, T_SP, 6, t_SP, rfl, iw_SP, by decide, tk_SP, nm_SP, rfl, by decide +kernel, (fun h => by cases h), Or.inl (gw_at 166 (by decide +kernel) (by decide +kernel))⟩
theorem s_La_13 : ga_SV "SortPlansLaw" 13 y_SP_sign b_SP_sign 2 none 1 := ⟨Or.inl (gw_at 180 (by decide +kernel) (by decide +kernel)), gw_at 181 (by decide +kernel) (by decide +kernel), gw_at 182 (by decide +kernel) (by decide +kernel), gw_at 31 (by decide +kernel) (by decide +kernel), k_SP_sign, ⟨by decide +kernel, by decide +kernel, by decide +kernel⟩⟩
theorem s_SP_46 : ga_SV "SortPlans" 46 y_Te_put b_Te_put 2 none 1 := ⟨Or.inl (gw_at 184 (by decide +kernel) (by decide +kernel)), gw_at 185 (by decide +kernel) (by decide +kernel), gw_at 186 (by decide +kernel) (by decide +kernel), gw_at 33 (by decide +kernel) (by decide +kernel), k_Te_put, ⟨by decide +kernel, by decide +kernel, by decide +kernel⟩⟩
theorem s_Te_13 : ga_SS "SortPlans$Text" 13 y_SP_isWithin b_SP_isWithin 3 (some .boolean) 3 := ⟨Or.inr ⟨"SortPlans", by decide +kernel⟩, gw_at 189 (by decide +kernel) (by decide +kernel), gw_at 31 (by decide +kernel) (by decide +kernel), k_SP_isWithin, ⟨by decide +kernel, by decide +kernel, by decide +kernel⟩⟩
theorem s_La_18 : ga_SV "SortPlansLaw" 18 y_SP_read b_SP_read 3 (some .int) 0 := ⟨Or.inl (gw_at 191 (by decide +kernel) (by decide +kernel)), gw_at 192 (by decide +kernel) (by decide +kernel), gw_at 193 (by decide +kernel) (by decide +kernel), gw_at 31 (by decide +kernel) (by decide +kernel), k_SP_read, ⟨by decide +kernel, by decide +kernel, by decide +kernel⟩⟩
theorem s_SP_52 : ga_SV "SortPlans" 52 y_Re_readText b_Re_readText 2 (some .int) 0 := ⟨Or.inl (gw_at 195 (by decide +kernel) (by decide +kernel)), gw_at 196 (by decide +kernel) (by decide +kernel), gw_at 197 (by decide +kernel) (by decide +kernel), gw_at 32 (by decide +kernel) (by decide +kernel), k_Re_readText, ⟨by decide +kernel, by decide +kernel, by decide +kernel⟩⟩
theorem s_Re_29 : ga_SV "SortPlans$Reading" 29 y_Pl_clear b_Pl_clear 2 none 0 := ⟨Or.inl (gw_at 199 (by decide +kernel) (by decide +kernel)), gw_at 200 (by decide +kernel) (by decide +kernel), gw_at 201 (by decide +kernel) (by decide +kernel), gw_at 34 (by decide +kernel) (by decide +kernel), k_Pl_clear, ⟨by decide +kernel, by decide +kernel, by decide +kernel⟩⟩
theorem s_Pl_42 : ga_SS "SortPlans$Plan" 42 y_Ar_fill b_Ar_fill 4 none 2 := ⟨Or.inl (gw_at 203 (by decide +kernel) (by decide +kernel)), gw_at 204 (by decide +kernel) (by decide +kernel), gw_at 38 (by decide +kernel) (by decide +kernel), k_Ar_fill, ⟨by decide +kernel, by decide +kernel, by decide +kernel⟩⟩
theorem s_Re_38 : ga_SV "SortPlans$Reading" 38 y_Re_isFine b_Re_isFine 1 (some .boolean) 0 := ⟨Or.inl (gw_at 206 (by decide +kernel) (by decide +kernel)), gw_at 207 (by decide +kernel) (by decide +kernel), gw_at 208 (by decide +kernel) (by decide +kernel), gw_at 32 (by decide +kernel) (by decide +kernel), k_Re_isFine, ⟨by decide +kernel, by decide +kernel, by decide +kernel⟩⟩
theorem s_Re_42 : ga_SV "SortPlans$Reading" 42 y_Re_readSentence b_Re_readSentence 3 none 0 := ⟨Or.inl (gw_at 210 (by decide +kernel) (by decide +kernel)), gw_at 212 (by decide +kernel) (by decide +kernel), gw_at 0 (by decide +kernel) (by decide +kernel), gw_at 32 (by decide +kernel) (by decide +kernel), k_Re_readSentence, ⟨by decide +kernel, by decide +kernel, by decide +kernel⟩⟩
theorem s_Re_45 : ga_SV "SortPlans$Reading" 45 y_Te_signAt b_Te_signAt 2 (some .int) 1 := ⟨Or.inl (gw_at 214 (by decide +kernel) (by decide +kernel)), gw_at 215 (by decide +kernel) (by decide +kernel), gw_at 216 (by decide +kernel) (by decide +kernel), gw_at 33 (by decide +kernel) (by decide +kernel), k_Te_signAt, ⟨by decide +kernel, by decide +kernel, by decide +kernel⟩⟩
theorem s_Re_49 : ga_SV "SortPlans$Reading" 49 y_Re_readRange b_Re_readRange 5 none 0 := ⟨Or.inl (gw_at 218 (by decide +kernel) (by decide +kernel)), gw_at 220 (by decide +kernel) (by decide +kernel), gw_at 1 (by decide +kernel) (by decide +kernel), gw_at 32 (by decide +kernel) (by decide +kernel), k_Re_readRange, ⟨by decide +kernel, by decide +kernel, by decide +kernel⟩⟩
theorem s_Re_59 : ga_SV "SortPlans$Reading" 59 y_Re_readNumber b_Re_readNumber 6 (some .int) 2 := ⟨Or.inl (gw_at 222 (by decide +kernel) (by decide +kernel)), gw_at 224 (by decide +kernel) (by decide +kernel), gw_at 2 (by decide +kernel) (by decide +kernel), gw_at 32 (by decide +kernel) (by decide +kernel), k_Re_readNumber, ⟨by decide +kernel, by decide +kernel, by decide +kernel⟩⟩
theorem s_Re_86 : ga_SS "SortPlans$Reading" 86 y_Re_isFigure b_Re_isFigure 1 (some .boolean) 1 := ⟨Or.inl (gw_at 226 (by decide +kernel) (by decide +kernel)), gw_at 227 (by decide +kernel) (by decide +kernel), gw_at 32 (by decide +kernel) (by decide +kernel), k_Re_isFigure, ⟨by decide +kernel, by decide +kernel, by decide +kernel⟩⟩
theorem s_Re_90 : ga_SS "SortPlans$Reading" 90 y_SP_isWithin b_SP_isWithin 3 (some .boolean) 3 := ⟨Or.inr ⟨"SortPlans", by decide +kernel⟩, gw_at 189 (by decide +kernel) (by decide +kernel), gw_at 31 (by decide +kernel) (by decide +kernel), k_SP_isWithin, ⟨by decide +kernel, by decide +kernel, by decide +kernel⟩⟩
theorem s_Re_63 : ga_SV "SortPlans$Reading" 63 y_Re_readSign b_Re_readSign 2 none 1 := ⟨Or.inl (gw_at 230 (by decide +kernel) (by decide +kernel)), gw_at 232 (by decide +kernel) (by decide +kernel), gw_at 3 (by decide +kernel) (by decide +kernel), gw_at 32 (by decide +kernel) (by decide +kernel), k_Re_readSign, ⟨by decide +kernel, by decide +kernel, by decide +kernel⟩⟩
theorem s_Re_67 : ga_SV "SortPlans$Reading" 67 y_Pl_addRange b_Pl_addRange 5 none 4 := ⟨Or.inl (gw_at 234 (by decide +kernel) (by decide +kernel)), gw_at 235 (by decide +kernel) (by decide +kernel), gw_at 236 (by decide +kernel) (by decide +kernel), gw_at 34 (by decide +kernel) (by decide +kernel), k_Pl_addRange, ⟨by decide +kernel, by decide +kernel, by decide +kernel⟩⟩
theorem s_Re_52 : ga_SV "SortPlans$Reading" 52 y_Re_readBin b_Re_readBin 7 none 1 := ⟨Or.inl (gw_at 238 (by decide +kernel) (by decide +kernel)), gw_at 240 (by decide +kernel) (by decide +kernel), gw_at 4 (by decide +kernel) (by decide +kernel), gw_at 32 (by decide +kernel) (by decide +kernel), k_Re_readBin, ⟨by decide +kernel, by decide +kernel, by decide +kernel⟩⟩
theorem s_Re_71 : ga_SV "SortPlans$Reading" 71 y_Re_readPlus b_Re_readPlus 1 (some .boolean) 0 := ⟨Or.inl (gw_at 242 (by decide +kernel) (by decide +kernel)), gw_at 244 (by decide +kernel) (by decide +kernel), gw_at 5 (by decide +kernel) (by decide +kernel), gw_at 32 (by decide +kernel) (by decide +kernel), k_Re_readPlus, ⟨by decide +kernel, by decide +kernel, by decide +kernel⟩⟩
theorem s_Re_74 : ga_SS "SortPlans$Reading" 74 y_SP_slot b_SP_slot 3 (some .int) 3 := ⟨Or.inr ⟨"SortPlans", by decide +kernel⟩, gw_at 247 (by decide +kernel) (by decide +kernel), gw_at 31 (by decide +kernel) (by decide +kernel), k_SP_slot, ⟨by decide +kernel, by decide +kernel, by decide +kernel⟩⟩
theorem s_Re_78 : ga_SV "SortPlans$Reading" 78 y_Pl_addBin b_Pl_addBin 4 (some .boolean) 3 := ⟨Or.inl (gw_at 249 (by decide +kernel) (by decide +kernel)), gw_at 250 (by decide +kernel) (by decide +kernel), gw_at 251 (by decide +kernel) (by decide +kernel), gw_at 34 (by decide +kernel) (by decide +kernel), k_Pl_addBin, ⟨by decide +kernel, by decide +kernel, by decide +kernel⟩⟩
theorem s_Re_56 : ga_SV "SortPlans$Reading" 56 y_Re_readGoingOn b_Re_readGoingOn 4 none 1 := ⟨Or.inl (gw_at 253 (by decide +kernel) (by decide +kernel)), gw_at 255 (by decide +kernel) (by decide +kernel), gw_at 6 (by decide +kernel) (by decide +kernel), gw_at 32 (by decide +kernel) (by decide +kernel), k_Re_readGoingOn, ⟨by decide +kernel, by decide +kernel, by decide +kernel⟩⟩
theorem s_Re_82 : ga_SV "SortPlans$Reading" 82 y_Pl_addGoingOn b_Pl_addGoingOn 3 (some .boolean) 2 := ⟨Or.inl (gw_at 257 (by decide +kernel) (by decide +kernel)), gw_at 258 (by decide +kernel) (by decide +kernel), gw_at 259 (by decide +kernel) (by decide +kernel), gw_at 34 (by decide +kernel) (by decide +kernel), k_Pl_addGoingOn, ⟨by decide +kernel, by decide +kernel, by decide +kernel⟩⟩
theorem s_SP_60 : ga_SV "SortPlans" 60 y_Re_isFine b_Re_isFine 1 (some .boolean) 0 := ⟨Or.inl (gw_at 261 (by decide +kernel) (by decide +kernel)), gw_at 207 (by decide +kernel) (by decide +kernel), gw_at 208 (by decide +kernel) (by decide +kernel), gw_at 32 (by decide +kernel) (by decide +kernel), k_Re_isFine, ⟨by decide +kernel, by decide +kernel, by decide +kernel⟩⟩
theorem s_SP_70 : ga_SV "SortPlans" 70 y_SP_addEdition b_SP_addEdition 1 none 0 := ⟨Or.inl (gw_at 262 (by decide +kernel) (by decide +kernel)), gw_at 264 (by decide +kernel) (by decide +kernel), gw_at 7 (by decide +kernel) (by decide +kernel), gw_at 31 (by decide +kernel) (by decide +kernel), k_SP_addEdition, ⟨by decide +kernel, by decide +kernel, by decide +kernel⟩⟩
theorem s_SP_130 : ga_SV "SortPlans" 130 y_Re_giveDraftFor b_Re_giveDraftFor 3 (some (.object "SortPlans$Plan")) 1 := ⟨Or.inl (gw_at 266 (by decide +kernel) (by decide +kernel)), gw_at 267 (by decide +kernel) (by decide +kernel), gw_at 268 (by decide +kernel) (by decide +kernel), gw_at 32 (by decide +kernel) (by decide +kernel), k_Re_giveDraftFor, ⟨by decide +kernel, by decide +kernel, by decide +kernel⟩⟩
theorem s_La_23 : ga_SV "SortPlansLaw" 23 y_SP_target b_SP_target 3 (some .int) 2 := ⟨Or.inl (gw_at 273 (by decide +kernel) (by decide +kernel)), gw_at 274 (by decide +kernel) (by decide +kernel), gw_at 275 (by decide +kernel) (by decide +kernel), gw_at 31 (by decide +kernel) (by decide +kernel), k_SP_target, ⟨by decide +kernel, by decide +kernel, by decide +kernel⟩⟩
theorem s_SP_73 : ga_SS "SortPlans" 73 y_SP_isWithin b_SP_isWithin 3 (some .boolean) 3 := ⟨Or.inl (gw_at 277 (by decide +kernel) (by decide +kernel)), gw_at 189 (by decide +kernel) (by decide +kernel), gw_at 31 (by decide +kernel) (by decide +kernel), k_SP_isWithin, ⟨by decide +kernel, by decide +kernel, by decide +kernel⟩⟩
theorem s_SP_77 : ga_SV "SortPlans" 77 y_SP_hasPlan b_SP_hasPlan 1 (some .boolean) 0 := ⟨Or.inl (gw_at 278 (by decide +kernel) (by decide +kernel)), gw_at 280 (by decide +kernel) (by decide +kernel), gw_at 8 (by decide +kernel) (by decide +kernel), gw_at 31 (by decide +kernel) (by decide +kernel), k_SP_hasPlan, ⟨by decide +kernel, by decide +kernel, by decide +kernel⟩⟩
theorem s_SP_80 : ga_SV "SortPlans" 80 y_Pl_leastTargetOf b_Pl_leastTargetOf 6 (some .int) 2 := ⟨Or.inl (gw_at 282 (by decide +kernel) (by decide +kernel)), gw_at 283 (by decide +kernel) (by decide +kernel), gw_at 284 (by decide +kernel) (by decide +kernel), gw_at 34 (by decide +kernel) (by decide +kernel), k_Pl_leastTargetOf, ⟨by decide +kernel, by decide +kernel, by decide +kernel⟩⟩
theorem s_Pl_52 : ga_SS "SortPlans$Plan" 52 y_SP_isWithin b_SP_isWithin 3 (some .boolean) 3 := ⟨Or.inr ⟨"SortPlans", by decide +kernel⟩, gw_at 189 (by decide +kernel) (by decide +kernel), gw_at 31 (by decide +kernel) (by decide +kernel), k_SP_isWithin, ⟨by decide +kernel, by decide +kernel, by decide +kernel⟩⟩
theorem s_La_28 : ga_SV "SortPlansLaw" 28 y_SP_bin b_SP_bin 4 (some .int) 3 := ⟨Or.inl (gw_at 287 (by decide +kernel) (by decide +kernel)), gw_at 288 (by decide +kernel) (by decide +kernel), gw_at 289 (by decide +kernel) (by decide +kernel), gw_at 31 (by decide +kernel) (by decide +kernel), k_SP_bin, ⟨by decide +kernel, by decide +kernel, by decide +kernel⟩⟩
theorem s_SP_84 : ga_SS "SortPlans" 84 y_SP_isTarget b_SP_isTarget 1 (some .boolean) 1 := ⟨Or.inl (gw_at 291 (by decide +kernel) (by decide +kernel)), gw_at 292 (by decide +kernel) (by decide +kernel), gw_at 31 (by decide +kernel) (by decide +kernel), k_SP_isTarget, ⟨by decide +kernel, by decide +kernel, by decide +kernel⟩⟩
theorem s_SP_96 : ga_SS "SortPlans" 96 y_SP_slot b_SP_slot 3 (some .int) 3 := ⟨Or.inl (gw_at 294 (by decide +kernel) (by decide +kernel)), gw_at 247 (by decide +kernel) (by decide +kernel), gw_at 31 (by decide +kernel) (by decide +kernel), k_SP_slot, ⟨by decide +kernel, by decide +kernel, by decide +kernel⟩⟩
theorem s_La_33 : ga_SV "SortPlansLaw" 33 y_SP_check b_SP_check 1 (some .int) 0 := ⟨Or.inl (gw_at 295 (by decide +kernel) (by decide +kernel)), gw_at 296 (by decide +kernel) (by decide +kernel), gw_at 297 (by decide +kernel) (by decide +kernel), gw_at 31 (by decide +kernel) (by decide +kernel), k_SP_check, ⟨by decide +kernel, by decide +kernel, by decide +kernel⟩⟩
theorem s_SP_100 : ga_SV "SortPlans" 100 y_Fa_findIn b_Fa_findIn 5 none 1 := ⟨Or.inl (gw_at 299 (by decide +kernel) (by decide +kernel)), gw_at 300 (by decide +kernel) (by decide +kernel), gw_at 301 (by decide +kernel) (by decide +kernel), gw_at 35 (by decide +kernel) (by decide +kernel), k_Fa_findIn, ⟨by decide +kernel, by decide +kernel, by decide +kernel⟩⟩
theorem s_Fa_19 : ga_SV "SortPlans$Faults" 19 y_Pl_passesOf b_Pl_passesOf 5 (some .int) 1 := ⟨Or.inl (gw_at 303 (by decide +kernel) (by decide +kernel)), gw_at 304 (by decide +kernel) (by decide +kernel), gw_at 305 (by decide +kernel) (by decide +kernel), gw_at 34 (by decide +kernel) (by decide +kernel), k_Pl_passesOf, ⟨by decide +kernel, by decide +kernel, by decide +kernel⟩⟩
theorem s_Pl_56 : ga_SS "SortPlans$Plan" 56 y_SP_slot b_SP_slot 3 (some .int) 3 := ⟨Or.inr ⟨"SortPlans", by decide +kernel⟩, gw_at 247 (by decide +kernel) (by decide +kernel), gw_at 31 (by decide +kernel) (by decide +kernel), k_SP_slot, ⟨by decide +kernel, by decide +kernel, by decide +kernel⟩⟩
theorem s_Fa_25 : ga_SV "SortPlans$Faults" 25 y_Fa_findHoles b_Fa_findHoles 5 none 3 := ⟨Or.inl (gw_at 308 (by decide +kernel) (by decide +kernel)), gw_at 310 (by decide +kernel) (by decide +kernel), gw_at 9 (by decide +kernel) (by decide +kernel), gw_at 35 (by decide +kernel) (by decide +kernel), k_Fa_findHoles, ⟨by decide +kernel, by decide +kernel, by decide +kernel⟩⟩
theorem s_Fa_39 : ga_SS "SortPlans$Faults" 39 y_SP_slot b_SP_slot 3 (some .int) 3 := ⟨Or.inr ⟨"SortPlans", by decide +kernel⟩, gw_at 247 (by decide +kernel) (by decide +kernel), gw_at 31 (by decide +kernel) (by decide +kernel), k_SP_slot, ⟨by decide +kernel, by decide +kernel, by decide +kernel⟩⟩
theorem s_Fa_43 : ga_SV "SortPlans$Faults" 43 y_Fa_add b_Fa_add 7 none 5 := ⟨Or.inl (gw_at 313 (by decide +kernel) (by decide +kernel)), gw_at 315 (by decide +kernel) (by decide +kernel), gw_at 10 (by decide +kernel) (by decide +kernel), gw_at 35 (by decide +kernel) (by decide +kernel), k_Fa_add, ⟨by decide +kernel, by decide +kernel, by decide +kernel⟩⟩
theorem s_Fa_29 : ga_SV "SortPlans$Faults" 29 y_Fa_findDoubles b_Fa_findDoubles 6 none 3 := ⟨Or.inl (gw_at 317 (by decide +kernel) (by decide +kernel)), gw_at 319 (by decide +kernel) (by decide +kernel), gw_at 11 (by decide +kernel) (by decide +kernel), gw_at 35 (by decide +kernel) (by decide +kernel), k_Fa_findDoubles, ⟨by decide +kernel, by decide +kernel, by decide +kernel⟩⟩
theorem s_Fa_47 : ga_SV "SortPlans$Faults" 47 y_Fa_findDoublesOf b_Fa_findDoublesOf 9 none 5 := ⟨Or.inl (gw_at 321 (by decide +kernel) (by decide +kernel)), gw_at 323 (by decide +kernel) (by decide +kernel), gw_at 12 (by decide +kernel) (by decide +kernel), gw_at 35 (by decide +kernel) (by decide +kernel), k_Fa_findDoublesOf, ⟨by decide +kernel, by decide +kernel, by decide +kernel⟩⟩
theorem s_La_37 : ga_SV "SortPlansLaw" 37 y_SP_fault b_SP_fault 3 (some .int) 2 := ⟨Or.inl (gw_at 325 (by decide +kernel) (by decide +kernel)), gw_at 326 (by decide +kernel) (by decide +kernel), gw_at 327 (by decide +kernel) (by decide +kernel), gw_at 31 (by decide +kernel) (by decide +kernel), k_SP_fault, ⟨by decide +kernel, by decide +kernel, by decide +kernel⟩⟩
theorem s_SP_107 : ga_SV "SortPlans" 107 y_Fa_tell b_Fa_tell 3 (some .int) 2 := ⟨Or.inl (gw_at 329 (by decide +kernel) (by decide +kernel)), gw_at 330 (by decide +kernel) (by decide +kernel), gw_at 331 (by decide +kernel) (by decide +kernel), gw_at 35 (by decide +kernel) (by decide +kernel), k_Fa_tell, ⟨by decide +kernel, by decide +kernel, by decide +kernel⟩⟩
theorem s_La_41 : ga_SV "SortPlansLaw" 41 y_SP_hold b_SP_hold 3 (some .int) 2 := ⟨Or.inl (gw_at 333 (by decide +kernel) (by decide +kernel)), gw_at 334 (by decide +kernel) (by decide +kernel), gw_at 335 (by decide +kernel) (by decide +kernel), gw_at 31 (by decide +kernel) (by decide +kernel), k_SP_hold, ⟨by decide +kernel, by decide +kernel, by decide +kernel⟩⟩
theorem s_La_46 : ga_SV "SortPlansLaw" 46 y_SP_compare b_SP_compare 3 (some .int) 1 := ⟨Or.inl (gw_at 337 (by decide +kernel) (by decide +kernel)), gw_at 338 (by decide +kernel) (by decide +kernel), gw_at 339 (by decide +kernel) (by decide +kernel), gw_at 31 (by decide +kernel) (by decide +kernel), k_SP_compare, ⟨by decide +kernel, by decide +kernel, by decide +kernel⟩⟩
theorem s_SP_110 : ga_SV "SortPlans" 110 y_Pl_countTargetsOtherThan b_Pl_countTargetsOtherThan 4 (some .int) 1 := ⟨Or.inl (gw_at 341 (by decide +kernel) (by decide +kernel)), gw_at 342 (by decide +kernel) (by decide +kernel), gw_at 343 (by decide +kernel) (by decide +kernel), gw_at 34 (by decide +kernel) (by decide +kernel), k_Pl_countTargetsOtherThan, ⟨by decide +kernel, by decide +kernel, by decide +kernel⟩⟩
theorem s_Pl_60 : ga_SV "SortPlans$Plan" 60 y_Pl_isOtherThan b_Pl_isOtherThan 5 (some .boolean) 2 := ⟨Or.inl (gw_at 345 (by decide +kernel) (by decide +kernel)), gw_at 347 (by decide +kernel) (by decide +kernel), gw_at 13 (by decide +kernel) (by decide +kernel), gw_at 34 (by decide +kernel) (by decide +kernel), k_Pl_isOtherThan, ⟨by decide +kernel, by decide +kernel, by decide +kernel⟩⟩
theorem s_La_51 : ga_SV "SortPlansLaw" 51 y_SP_swap b_SP_swap 3 (some .int) 2 := ⟨Or.inl (gw_at 349 (by decide +kernel) (by decide +kernel)), gw_at 350 (by decide +kernel) (by decide +kernel), gw_at 351 (by decide +kernel) (by decide +kernel), gw_at 31 (by decide +kernel) (by decide +kernel), k_SP_swap, ⟨by decide +kernel, by decide +kernel, by decide +kernel⟩⟩
theorem s_SP_114 : ga_SS "SortPlans" 114 y_SP_isBin b_SP_isBin 1 (some .boolean) 1 := ⟨Or.inl (gw_at 353 (by decide +kernel) (by decide +kernel)), gw_at 354 (by decide +kernel) (by decide +kernel), gw_at 31 (by decide +kernel) (by decide +kernel), k_SP_isBin, ⟨by decide +kernel, by decide +kernel, by decide +kernel⟩⟩
theorem s_SP_117 : ga_SV "SortPlans" 117 y_Pl_exchange b_Pl_exchange 6 (some .int) 2 := ⟨Or.inl (gw_at 356 (by decide +kernel) (by decide +kernel)), gw_at 357 (by decide +kernel) (by decide +kernel), gw_at 358 (by decide +kernel) (by decide +kernel), gw_at 34 (by decide +kernel) (by decide +kernel), k_Pl_exchange, ⟨by decide +kernel, by decide +kernel, by decide +kernel⟩⟩
theorem s_La_55 : ga_SV "SortPlansLaw" 55 y_SP_overflow b_SP_overflow 2 (some .int) 1 := ⟨Or.inl (gw_at 360 (by decide +kernel) (by decide +kernel)), gw_at 361 (by decide +kernel) (by decide +kernel), gw_at 362 (by decide +kernel) (by decide +kernel), gw_at 31 (by decide +kernel) (by decide +kernel), k_SP_overflow, ⟨by decide +kernel, by decide +kernel, by decide +kernel⟩⟩
theorem s_SP_120 : ga_SV "SortPlans" 120 y_Pl_endOfGoingOn b_Pl_endOfGoingOn 4 (some .int) 1 := ⟨Or.inl (gw_at 364 (by decide +kernel) (by decide +kernel)), gw_at 365 (by decide +kernel) (by decide +kernel), gw_at 366 (by decide +kernel) (by decide +kernel), gw_at 34 (by decide +kernel) (by decide +kernel), k_Pl_endOfGoingOn, ⟨by decide +kernel, by decide +kernel, by decide +kernel⟩⟩
theorem s_La_59 : ga_SV "SortPlansLaw" 59 y_SP_print b_SP_print 2 (some .int) 1 := ⟨Or.inl (gw_at 368 (by decide +kernel) (by decide +kernel)), gw_at 369 (by decide +kernel) (by decide +kernel), gw_at 370 (by decide +kernel) (by decide +kernel), gw_at 31 (by decide +kernel) (by decide +kernel), k_SP_print, ⟨by decide +kernel, by decide +kernel, by decide +kernel⟩⟩
theorem s_SP_124 : ga_SV "SortPlans" 124 y_Sh_write b_Sh_write 3 none 1 := ⟨Or.inl (gw_at 372 (by decide +kernel) (by decide +kernel)), gw_at 373 (by decide +kernel) (by decide +kernel), gw_at 374 (by decide +kernel) (by decide +kernel), gw_at 36 (by decide +kernel) (by decide +kernel), k_Sh_write, ⟨by decide +kernel, by decide +kernel, by decide +kernel⟩⟩
theorem s_Sh_19 : ga_SV "SortPlans$Sheet" 19 y_Sh_writeBin b_Sh_writeBin 5 none 2 := ⟨Or.inl (gw_at 376 (by decide +kernel) (by decide +kernel)), gw_at 378 (by decide +kernel) (by decide +kernel), gw_at 14 (by decide +kernel) (by decide +kernel), gw_at 36 (by decide +kernel) (by decide +kernel), k_Sh_writeBin, ⟨by decide +kernel, by decide +kernel, by decide +kernel⟩⟩
theorem s_Sh_29 : ga_SS "SortPlans$Sheet" 29 y_SP_slot b_SP_slot 3 (some .int) 3 := ⟨Or.inr ⟨"SortPlans", by decide +kernel⟩, gw_at 247 (by decide +kernel) (by decide +kernel), gw_at 31 (by decide +kernel) (by decide +kernel), k_SP_slot, ⟨by decide +kernel, by decide +kernel, by decide +kernel⟩⟩
theorem s_Sh_33 : ga_SV "SortPlans$Sheet" 33 y_Sh_put b_Sh_put 2 none 1 := ⟨Or.inl (gw_at 381 (by decide +kernel) (by decide +kernel)), gw_at 383 (by decide +kernel) (by decide +kernel), gw_at 15 (by decide +kernel) (by decide +kernel), gw_at 36 (by decide +kernel) (by decide +kernel), k_Sh_put, ⟨by decide +kernel, by decide +kernel, by decide +kernel⟩⟩
theorem s_Sh_37 : ga_SV "SortPlans$Sheet" 37 y_Sh_putNumber b_Sh_putNumber 2 none 1 := ⟨Or.inl (gw_at 385 (by decide +kernel) (by decide +kernel)), gw_at 387 (by decide +kernel) (by decide +kernel), gw_at 16 (by decide +kernel) (by decide +kernel), gw_at 36 (by decide +kernel) (by decide +kernel), k_Sh_putNumber, ⟨by decide +kernel, by decide +kernel, by decide +kernel⟩⟩
theorem s_SP_127 : ga_SV "SortPlans" 127 y_Sh_signAt b_Sh_signAt 2 (some .int) 1 := ⟨Or.inl (gw_at 389 (by decide +kernel) (by decide +kernel)), gw_at 390 (by decide +kernel) (by decide +kernel), gw_at 391 (by decide +kernel) (by decide +kernel), gw_at 36 (by decide +kernel) (by decide +kernel), k_Sh_signAt, ⟨by decide +kernel, by decide +kernel, by decide +kernel⟩⟩
theorem n_La_10 : ga_CN "SortPlansLaw" 10 6 19 [.int 0, .null, .int 0, .int 0, .int 0, .int 0, .null, .null, .null, .null, .null, .int 0, .int 0, .null, .null, .null, .int 0, .null, .null] := ⟨R_Mo, T_Mo, t_Mo, rfl, iw_Mo, tk_Mo, gw_at 393 (by decide +kernel) (by decide +kernel), gw_at 394 (by decide +kernel) (by decide +kernel), gw_at 37 (by decide +kernel) (by decide +kernel), by decide +kernel⟩
theorem s_La_12 : ga_SI "SortPlansLaw" 12 y_Mo_init b_Mo_init 1 0 := ⟨Or.inl (gw_at 395 (by decide +kernel) (by decide +kernel)), gw_at 396 (by decide +kernel) (by decide +kernel), rfl, gw_at 37 (by decide +kernel) (by decide +kernel), k_Mo_init, ⟨by decide +kernel, by decide +kernel, by decide +kernel⟩⟩
theorem f_Mo_48 : ga_FG "SortPlansModel" 48 6 0 := ⟨R_Mo, T_Mo, 19, rfl, iw_Mo, by decide, Or.inl (gw_at 399 (by decide +kernel) (by decide +kernel))⟩
theorem p_Mo_48 : ga_FP "SortPlansModel" 48 6 0 (.int) false := ⟨R_Mo, T_Mo, 19, t_Mo, rfl, iw_Mo, by decide, tk_Mo, nm_Mo, rfl, by decide +kernel, (fun h => by cases h), Or.inl (gw_at 399 (by decide +kernel) (by decide +kernel))⟩
theorem f_Mo_7 : ga_FG "SortPlansModel" 7 6 1 := ⟨R_Mo, T_Mo, 19, rfl, iw_Mo, by decide, Or.inl (gw_at 400 (by decide +kernel) (by decide +kernel))⟩
theorem p_Mo_7 : ga_FP "SortPlansModel" 7 6 1 (.array .int) true := ⟨R_Mo, T_Mo, 19, t_Mo, rfl, iw_Mo, by decide, tk_Mo, nm_Mo, rfl, by decide +kernel, (fun _ => rfl), Or.inl (gw_at 400 (by decide +kernel) (by decide +kernel))⟩
theorem f_Mo_44 : ga_FG "SortPlansModel" 44 6 2 := ⟨R_Mo, T_Mo, 19, rfl, iw_Mo, by decide, Or.inl (gw_at 401 (by decide +kernel) (by decide +kernel))⟩
theorem p_Mo_44 : ga_FP "SortPlansModel" 44 6 2 (.int) false := ⟨R_Mo, T_Mo, 19, t_Mo, rfl, iw_Mo, by decide, tk_Mo, nm_Mo, rfl, by decide +kernel, (fun h => by cases h), Or.inl (gw_at 401 (by decide +kernel) (by decide +kernel))⟩
theorem f_Mo_51 : ga_FG "SortPlansModel" 51 6 3 := ⟨R_Mo, T_Mo, 19, rfl, iw_Mo, by decide, Or.inl (gw_at 402 (by decide +kernel) (by decide +kernel))⟩
theorem p_Mo_51 : ga_FP "SortPlansModel" 51 6 3 (.int) false := ⟨R_Mo, T_Mo, 19, t_Mo, rfl, iw_Mo, by decide, tk_Mo, nm_Mo, rfl, by decide +kernel, (fun h => by cases h), Or.inl (gw_at 402 (by decide +kernel) (by decide +kernel))⟩
theorem f_Mo_54 : ga_FG "SortPlansModel" 54 6 4 := ⟨R_Mo, T_Mo, 19, rfl, iw_Mo, by decide, Or.inl (gw_at 403 (by decide +kernel) (by decide +kernel))⟩
theorem p_Mo_54 : ga_FP "SortPlansModel" 54 6 4 (.int) false := ⟨R_Mo, T_Mo, 19, t_Mo, rfl, iw_Mo, by decide, tk_Mo, nm_Mo, rfl, by decide +kernel, (fun h => by cases h), Or.inl (gw_at 403 (by decide +kernel) (by decide +kernel))⟩
theorem f_Mo_91 : ga_FG "SortPlansModel" 91 6 5 := ⟨R_Mo, T_Mo, 19, rfl, iw_Mo, by decide, Or.inl (gw_at 404 (by decide +kernel) (by decide +kernel))⟩
theorem p_Mo_91 : ga_FP "SortPlansModel" 91 6 5 (.int) false := ⟨R_Mo, T_Mo, 19, t_Mo, rfl, iw_Mo, by decide, tk_Mo, nm_Mo, rfl, by decide +kernel, (fun h => by cases h), Or.inl (gw_at 404 (by decide +kernel) (by decide +kernel))⟩
theorem f_Mo_13 : ga_FG "SortPlansModel" 13 6 6 := ⟨R_Mo, T_Mo, 19, rfl, iw_Mo, by decide, Or.inl (gw_at 405 (by decide +kernel) (by decide +kernel))⟩
theorem p_Mo_13 : ga_FP "SortPlansModel" 13 6 6 (.array .int) true := ⟨R_Mo, T_Mo, 19, t_Mo, rfl, iw_Mo, by decide, tk_Mo, nm_Mo, rfl, by decide +kernel, (fun _ => rfl), Or.inl (gw_at 405 (by decide +kernel) (by decide +kernel))⟩
theorem f_Mo_16 : ga_FG "SortPlansModel" 16 6 7 := ⟨R_Mo, T_Mo, 19, rfl, iw_Mo, by decide, Or.inl (gw_at 406 (by decide +kernel) (by decide +kernel))⟩
theorem p_Mo_16 : ga_FP "SortPlansModel" 16 6 7 (.array .boolean) true := ⟨R_Mo, T_Mo, 19, t_Mo, rfl, iw_Mo, by decide, tk_Mo, nm_Mo, rfl, by decide +kernel, (fun _ => rfl), Or.inl (gw_at 406 (by decide +kernel) (by decide +kernel))⟩
theorem f_Mo_20 : ga_FG "SortPlansModel" 20 6 8 := ⟨R_Mo, T_Mo, 19, rfl, iw_Mo, by decide, Or.inl (gw_at 407 (by decide +kernel) (by decide +kernel))⟩
theorem p_Mo_20 : ga_FP "SortPlansModel" 20 6 8 (.array .boolean) true := ⟨R_Mo, T_Mo, 19, t_Mo, rfl, iw_Mo, by decide, tk_Mo, nm_Mo, rfl, by decide +kernel, (fun _ => rfl), Or.inl (gw_at 407 (by decide +kernel) (by decide +kernel))⟩
theorem f_Mo_23 : ga_FG "SortPlansModel" 23 6 9 := ⟨R_Mo, T_Mo, 19, rfl, iw_Mo, by decide, Or.inl (gw_at 408 (by decide +kernel) (by decide +kernel))⟩
theorem p_Mo_23 : ga_FP "SortPlansModel" 23 6 9 (.array .int) true := ⟨R_Mo, T_Mo, 19, t_Mo, rfl, iw_Mo, by decide, tk_Mo, nm_Mo, rfl, by decide +kernel, (fun _ => rfl), Or.inl (gw_at 408 (by decide +kernel) (by decide +kernel))⟩
theorem f_Mo_26 : ga_FG "SortPlansModel" 26 6 10 := ⟨R_Mo, T_Mo, 19, rfl, iw_Mo, by decide, Or.inl (gw_at 409 (by decide +kernel) (by decide +kernel))⟩
theorem p_Mo_26 : ga_FP "SortPlansModel" 26 6 10 (.array .int) true := ⟨R_Mo, T_Mo, 19, t_Mo, rfl, iw_Mo, by decide, tk_Mo, nm_Mo, rfl, by decide +kernel, (fun _ => rfl), Or.inl (gw_at 409 (by decide +kernel) (by decide +kernel))⟩
theorem f_Mo_94 : ga_FG "SortPlansModel" 94 6 11 := ⟨R_Mo, T_Mo, 19, rfl, iw_Mo, by decide, Or.inl (gw_at 410 (by decide +kernel) (by decide +kernel))⟩
theorem p_Mo_94 : ga_FP "SortPlansModel" 94 6 11 (.int) false := ⟨R_Mo, T_Mo, 19, t_Mo, rfl, iw_Mo, by decide, tk_Mo, nm_Mo, rfl, by decide +kernel, (fun h => by cases h), Or.inl (gw_at 410 (by decide +kernel) (by decide +kernel))⟩
theorem f_Mo_72 : ga_FG "SortPlansModel" 72 6 12 := ⟨R_Mo, T_Mo, 19, rfl, iw_Mo, by decide, Or.inl (gw_at 411 (by decide +kernel) (by decide +kernel))⟩
theorem p_Mo_72 : ga_FP "SortPlansModel" 72 6 12 (.int) false := ⟨R_Mo, T_Mo, 19, t_Mo, rfl, iw_Mo, by decide, tk_Mo, nm_Mo, rfl, by decide +kernel, (fun h => by cases h), Or.inl (gw_at 411 (by decide +kernel) (by decide +kernel))⟩
theorem f_Mo_29 : ga_FG "SortPlansModel" 29 6 13 := ⟨R_Mo, T_Mo, 19, rfl, iw_Mo, by decide, Or.inl (gw_at 412 (by decide +kernel) (by decide +kernel))⟩
theorem p_Mo_29 : ga_FP "SortPlansModel" 29 6 13 (.array .int) true := ⟨R_Mo, T_Mo, 19, t_Mo, rfl, iw_Mo, by decide, tk_Mo, nm_Mo, rfl, by decide +kernel, (fun _ => rfl), Or.inl (gw_at 412 (by decide +kernel) (by decide +kernel))⟩
theorem f_Mo_32 : ga_FG "SortPlansModel" 32 6 14 := ⟨R_Mo, T_Mo, 19, rfl, iw_Mo, by decide, Or.inl (gw_at 413 (by decide +kernel) (by decide +kernel))⟩
theorem p_Mo_32 : ga_FP "SortPlansModel" 32 6 14 (.array .int) true := ⟨R_Mo, T_Mo, 19, t_Mo, rfl, iw_Mo, by decide, tk_Mo, nm_Mo, rfl, by decide +kernel, (fun _ => rfl), Or.inl (gw_at 413 (by decide +kernel) (by decide +kernel))⟩
theorem f_Mo_35 : ga_FG "SortPlansModel" 35 6 15 := ⟨R_Mo, T_Mo, 19, rfl, iw_Mo, by decide, Or.inl (gw_at 414 (by decide +kernel) (by decide +kernel))⟩
theorem p_Mo_35 : ga_FP "SortPlansModel" 35 6 15 (.array .boolean) true := ⟨R_Mo, T_Mo, 19, t_Mo, rfl, iw_Mo, by decide, tk_Mo, nm_Mo, rfl, by decide +kernel, (fun _ => rfl), Or.inl (gw_at 414 (by decide +kernel) (by decide +kernel))⟩
theorem f_Mo_101 : ga_FG "SortPlansModel" 101 6 16 := ⟨R_Mo, T_Mo, 19, rfl, iw_Mo, by decide, Or.inl (gw_at 415 (by decide +kernel) (by decide +kernel))⟩
theorem p_Mo_101 : ga_FP "SortPlansModel" 101 6 16 (.int) false := ⟨R_Mo, T_Mo, 19, t_Mo, rfl, iw_Mo, by decide, tk_Mo, nm_Mo, rfl, by decide +kernel, (fun h => by cases h), Or.inl (gw_at 415 (by decide +kernel) (by decide +kernel))⟩
theorem f_Mo_38 : ga_FG "SortPlansModel" 38 6 17 := ⟨R_Mo, T_Mo, 19, rfl, iw_Mo, by decide, Or.inl (gw_at 416 (by decide +kernel) (by decide +kernel))⟩
theorem p_Mo_38 : ga_FP "SortPlansModel" 38 6 17 (.array .int) true := ⟨R_Mo, T_Mo, 19, t_Mo, rfl, iw_Mo, by decide, tk_Mo, nm_Mo, rfl, by decide +kernel, (fun _ => rfl), Or.inl (gw_at 416 (by decide +kernel) (by decide +kernel))⟩
theorem f_Mo_41 : ga_FG "SortPlansModel" 41 6 18 := ⟨R_Mo, T_Mo, 19, rfl, iw_Mo, by decide, Or.inl (gw_at 417 (by decide +kernel) (by decide +kernel))⟩
theorem p_Mo_41 : ga_FP "SortPlansModel" 41 6 18 (.array .int) true := ⟨R_Mo, T_Mo, 19, t_Mo, rfl, iw_Mo, by decide, tk_Mo, nm_Mo, rfl, by decide +kernel, (fun _ => rfl), Or.inl (gw_at 417 (by decide +kernel) (by decide +kernel))⟩
theorem s_La_17 : ga_SV "SortPlansLaw" 17 y_Mo_sign b_Mo_sign 2 none 1 := ⟨Or.inl (gw_at 457 (by decide +kernel) (by decide +kernel)), gw_at 458 (by decide +kernel) (by decide +kernel), gw_at 459 (by decide +kernel) (by decide +kernel), gw_at 37 (by decide +kernel) (by decide +kernel), k_Mo_sign, ⟨by decide +kernel, by decide +kernel, by decide +kernel⟩⟩
theorem s_La_22 : ga_SV "SortPlansLaw" 22 y_Mo_read b_Mo_read 3 (some .int) 0 := ⟨Or.inl (gw_at 461 (by decide +kernel) (by decide +kernel)), gw_at 462 (by decide +kernel) (by decide +kernel), gw_at 463 (by decide +kernel) (by decide +kernel), gw_at 37 (by decide +kernel) (by decide +kernel), k_Mo_read, ⟨by decide +kernel, by decide +kernel, by decide +kernel⟩⟩
theorem s_Mo_88 : ga_SV "SortPlansModel" 88 y_Mo_readAll b_Mo_readAll 4 (some .int) 0 := ⟨Or.inl (gw_at 465 (by decide +kernel) (by decide +kernel)), gw_at 467 (by decide +kernel) (by decide +kernel), gw_at 17 (by decide +kernel) (by decide +kernel), gw_at 37 (by decide +kernel) (by decide +kernel), k_Mo_readAll, ⟨by decide +kernel, by decide +kernel, by decide +kernel⟩⟩
theorem s_Mo_57 : ga_SV "SortPlansModel" 57 y_Mo_look b_Mo_look 1 (some .int) 0 := ⟨Or.inl (gw_at 469 (by decide +kernel) (by decide +kernel)), gw_at 471 (by decide +kernel) (by decide +kernel), gw_at 18 (by decide +kernel) (by decide +kernel), gw_at 37 (by decide +kernel) (by decide +kernel), k_Mo_look, ⟨by decide +kernel, by decide +kernel, by decide +kernel⟩⟩
theorem s_Mo_79 : ga_SV "SortPlansModel" 79 y_Mo_readTarget b_Mo_readTarget 5 none 0 := ⟨Or.inl (gw_at 473 (by decide +kernel) (by decide +kernel)), gw_at 475 (by decide +kernel) (by decide +kernel), gw_at 19 (by decide +kernel) (by decide +kernel), gw_at 37 (by decide +kernel) (by decide +kernel), k_Mo_readTarget, ⟨by decide +kernel, by decide +kernel, by decide +kernel⟩⟩
theorem s_Mo_68 : ga_SV "SortPlansModel" 68 y_Mo_number b_Mo_number 6 (some .int) 3 := ⟨Or.inl (gw_at 477 (by decide +kernel) (by decide +kernel)), gw_at 479 (by decide +kernel) (by decide +kernel), gw_at 20 (by decide +kernel) (by decide +kernel), gw_at 37 (by decide +kernel) (by decide +kernel), k_Mo_number, ⟨by decide +kernel, by decide +kernel, by decide +kernel⟩⟩
theorem s_Mo_61 : ga_SV "SortPlansModel" 61 y_Mo_fails b_Mo_fails 2 none 1 := ⟨Or.inl (gw_at 481 (by decide +kernel) (by decide +kernel)), gw_at 483 (by decide +kernel) (by decide +kernel), gw_at 21 (by decide +kernel) (by decide +kernel), gw_at 37 (by decide +kernel) (by decide +kernel), k_Mo_fails, ⟨by decide +kernel, by decide +kernel, by decide +kernel⟩⟩
theorem s_Mo_65 : ga_SV "SortPlansModel" 65 y_Mo_sign1 b_Mo_sign1 2 none 1 := ⟨Or.inl (gw_at 485 (by decide +kernel) (by decide +kernel)), gw_at 487 (by decide +kernel) (by decide +kernel), gw_at 22 (by decide +kernel) (by decide +kernel), gw_at 37 (by decide +kernel) (by decide +kernel), k_Mo_sign1, ⟨by decide +kernel, by decide +kernel, by decide +kernel⟩⟩
theorem s_Mo_82 : ga_SV "SortPlansModel" 82 y_Mo_readBin b_Mo_readBin 8 none 1 := ⟨Or.inl (gw_at 489 (by decide +kernel) (by decide +kernel)), gw_at 491 (by decide +kernel) (by decide +kernel), gw_at 23 (by decide +kernel) (by decide +kernel), gw_at 37 (by decide +kernel) (by decide +kernel), k_Mo_readBin, ⟨by decide +kernel, by decide +kernel, by decide +kernel⟩⟩
theorem s_Mo_75 : ga_SS "SortPlansModel" 75 y_Mo_place b_Mo_place 4 (some .int) 4 := ⟨Or.inl (gw_at 493 (by decide +kernel) (by decide +kernel)), gw_at 494 (by decide +kernel) (by decide +kernel), gw_at 37 (by decide +kernel) (by decide +kernel), k_Mo_place, ⟨by decide +kernel, by decide +kernel, by decide +kernel⟩⟩
theorem s_Mo_85 : ga_SV "SortPlansModel" 85 y_Mo_readOverflow b_Mo_readOverflow 4 none 1 := ⟨Or.inl (gw_at 496 (by decide +kernel) (by decide +kernel)), gw_at 498 (by decide +kernel) (by decide +kernel), gw_at 24 (by decide +kernel) (by decide +kernel), gw_at 37 (by decide +kernel) (by decide +kernel), k_Mo_readOverflow, ⟨by decide +kernel, by decide +kernel, by decide +kernel⟩⟩
theorem s_La_27 : ga_SV "SortPlansLaw" 27 y_Mo_target b_Mo_target 5 (some .int) 2 := ⟨Or.inl (gw_at 500 (by decide +kernel) (by decide +kernel)), gw_at 501 (by decide +kernel) (by decide +kernel), gw_at 502 (by decide +kernel) (by decide +kernel), gw_at 37 (by decide +kernel) (by decide +kernel), k_Mo_target, ⟨by decide +kernel, by decide +kernel, by decide +kernel⟩⟩
theorem s_Mo_97 : ga_SS "SortPlansModel" 97 y_Mo_isIn b_Mo_isIn 3 (some .boolean) 3 := ⟨Or.inl (gw_at 504 (by decide +kernel) (by decide +kernel)), gw_at 505 (by decide +kernel) (by decide +kernel), gw_at 37 (by decide +kernel) (by decide +kernel), k_Mo_isIn, ⟨by decide +kernel, by decide +kernel, by decide +kernel⟩⟩
theorem s_La_32 : ga_SV "SortPlansLaw" 32 y_Mo_bin b_Mo_bin 4 (some .int) 3 := ⟨Or.inl (gw_at 507 (by decide +kernel) (by decide +kernel)), gw_at 508 (by decide +kernel) (by decide +kernel), gw_at 509 (by decide +kernel) (by decide +kernel), gw_at 37 (by decide +kernel) (by decide +kernel), k_Mo_bin, ⟨by decide +kernel, by decide +kernel, by decide +kernel⟩⟩
theorem s_La_36 : ga_SV "SortPlansLaw" 36 y_Mo_check b_Mo_check 9 (some .int) 0 := ⟨Or.inl (gw_at 511 (by decide +kernel) (by decide +kernel)), gw_at 512 (by decide +kernel) (by decide +kernel), gw_at 513 (by decide +kernel) (by decide +kernel), gw_at 37 (by decide +kernel) (by decide +kernel), k_Mo_check, ⟨by decide +kernel, by decide +kernel, by decide +kernel⟩⟩
theorem s_Mo_104 : ga_SV "SortPlansModel" 104 y_Mo_isPass b_Mo_isPass 6 (some .boolean) 2 := ⟨Or.inl (gw_at 515 (by decide +kernel) (by decide +kernel)), gw_at 517 (by decide +kernel) (by decide +kernel), gw_at 25 (by decide +kernel) (by decide +kernel), gw_at 37 (by decide +kernel) (by decide +kernel), k_Mo_isPass, ⟨by decide +kernel, by decide +kernel, by decide +kernel⟩⟩
theorem s_Mo_108 : ga_SV "SortPlansModel" 108 y_Mo_isUsed b_Mo_isUsed 4 (some .boolean) 1 := ⟨Or.inl (gw_at 519 (by decide +kernel) (by decide +kernel)), gw_at 521 (by decide +kernel) (by decide +kernel), gw_at 26 (by decide +kernel) (by decide +kernel), gw_at 37 (by decide +kernel) (by decide +kernel), k_Mo_isUsed, ⟨by decide +kernel, by decide +kernel, by decide +kernel⟩⟩
theorem s_Mo_112 : ga_SV "SortPlansModel" 112 y_Mo_tell b_Mo_tell 6 none 5 := ⟨Or.inl (gw_at 523 (by decide +kernel) (by decide +kernel)), gw_at 525 (by decide +kernel) (by decide +kernel), gw_at 27 (by decide +kernel) (by decide +kernel), gw_at 37 (by decide +kernel) (by decide +kernel), k_Mo_tell, ⟨by decide +kernel, by decide +kernel, by decide +kernel⟩⟩
theorem s_La_40 : ga_SV "SortPlansLaw" 40 y_Mo_fault b_Mo_fault 3 (some .int) 2 := ⟨Or.inl (gw_at 527 (by decide +kernel) (by decide +kernel)), gw_at 528 (by decide +kernel) (by decide +kernel), gw_at 529 (by decide +kernel) (by decide +kernel), gw_at 37 (by decide +kernel) (by decide +kernel), k_Mo_fault, ⟨by decide +kernel, by decide +kernel, by decide +kernel⟩⟩
theorem s_La_45 : ga_SV "SortPlansLaw" 45 y_Mo_hold b_Mo_hold 4 (some .int) 2 := ⟨Or.inl (gw_at 531 (by decide +kernel) (by decide +kernel)), gw_at 532 (by decide +kernel) (by decide +kernel), gw_at 533 (by decide +kernel) (by decide +kernel), gw_at 37 (by decide +kernel) (by decide +kernel), k_Mo_hold, ⟨by decide +kernel, by decide +kernel, by decide +kernel⟩⟩
theorem s_La_50 : ga_SV "SortPlansLaw" 50 y_Mo_compare b_Mo_compare 6 (some .int) 1 := ⟨Or.inl (gw_at 535 (by decide +kernel) (by decide +kernel)), gw_at 536 (by decide +kernel) (by decide +kernel), gw_at 537 (by decide +kernel) (by decide +kernel), gw_at 37 (by decide +kernel) (by decide +kernel), k_Mo_compare, ⟨by decide +kernel, by decide +kernel, by decide +kernel⟩⟩
theorem s_La_54 : ga_SV "SortPlansLaw" 54 y_Mo_swap b_Mo_swap 6 (some .int) 2 := ⟨Or.inl (gw_at 539 (by decide +kernel) (by decide +kernel)), gw_at 540 (by decide +kernel) (by decide +kernel), gw_at 541 (by decide +kernel) (by decide +kernel), gw_at 37 (by decide +kernel) (by decide +kernel), k_Mo_swap, ⟨by decide +kernel, by decide +kernel, by decide +kernel⟩⟩
theorem s_La_58 : ga_SV "SortPlansLaw" 58 y_Mo_overflow b_Mo_overflow 4 (some .int) 1 := ⟨Or.inl (gw_at 543 (by decide +kernel) (by decide +kernel)), gw_at 544 (by decide +kernel) (by decide +kernel), gw_at 545 (by decide +kernel) (by decide +kernel), gw_at 37 (by decide +kernel) (by decide +kernel), k_Mo_overflow, ⟨by decide +kernel, by decide +kernel, by decide +kernel⟩⟩
theorem s_La_62 : ga_SV "SortPlansLaw" 62 y_Mo_print b_Mo_print 6 (some .int) 1 := ⟨Or.inl (gw_at 547 (by decide +kernel) (by decide +kernel)), gw_at 548 (by decide +kernel) (by decide +kernel), gw_at 549 (by decide +kernel) (by decide +kernel), gw_at 37 (by decide +kernel) (by decide +kernel), k_Mo_print, ⟨by decide +kernel, by decide +kernel, by decide +kernel⟩⟩
theorem s_Mo_116 : ga_SV "SortPlansModel" 116 y_Mo_write b_Mo_write 4 (some .int) 2 := ⟨Or.inl (gw_at 551 (by decide +kernel) (by decide +kernel)), gw_at 553 (by decide +kernel) (by decide +kernel), gw_at 28 (by decide +kernel) (by decide +kernel), gw_at 37 (by decide +kernel) (by decide +kernel), k_Mo_write, ⟨by decide +kernel, by decide +kernel, by decide +kernel⟩⟩
theorem s_Mo_120 : ga_SV "SortPlansModel" 120 y_Mo_has b_Mo_has 6 (some .boolean) 3 := ⟨Or.inl (gw_at 555 (by decide +kernel) (by decide +kernel)), gw_at 557 (by decide +kernel) (by decide +kernel), gw_at 29 (by decide +kernel) (by decide +kernel), gw_at 37 (by decide +kernel) (by decide +kernel), k_Mo_has, ⟨by decide +kernel, by decide +kernel, by decide +kernel⟩⟩
end
section
theorem ga_fm {ws w : va_W} {is : List Nat} (h : is.map (fun i => ws[i]?) = w.map some) : is.filterMap (fun i => ws[i]?) = w := by
  induction is generalizing w with
  | nil =>
    cases w with
    | nil => rfl
    | cons x t => cases h
  | cons i is ih =>
    cases w with
    | nil => cases h
    | cons x t =>
      simp only [List.map_cons, List.cons.injEq] at h
      rw [List.filterMap_cons, h.1]
      simp only
      rw [ih h.2]
section GR
variable {p : Program} {l : Launch} {e : Env} {R : Room} {s : State} {m : MethodId} {args : Array Value} {below : List Frame} {meth : Method} {c : Code} {H : Heap} {locs : List Loc} {cells slots : Nat} {Q : State → Prop}
variable {cc : ByteArray} {nL pc : Nat} {own : String} {ls : Array Slot} {rest st0 : List Value} {D : va_G} {tys : List (ClassId × FieldType)} {ws ws' wc wr : va_W} {A : Nat → Prop} {a : Nat}
theorem ga_get (S : CallFix p m c cc nL s args gw own) (hK : ga_K D tys s) (hP : va_P D vwCl ws H) (q0 : Nat) {ci k index : Nat} {fs : List Value} {v : Value} (he : ws[q0]? = some (a, .inr (ci, fs))) (F : ga_FG own index ci k) (hv : fs[k]? = some v) (hdg : decode cc pc = .ok (.getfield index, 3)) (kk : W p l e R s m args below meth c H locs cells slots Q (F0 m (pc + 3) ls (v :: rest))) : W p l e R s m args below meth c H locs cells slots Q (F0 m pc ls (.ref a :: rest)) := by
  obtain ⟨hx, hb, -, hown, hts⟩ := S
  obtain ⟨C, T, N, hc, hin, hk, hl | ⟨host, hl⟩⟩ := F
  · exact va_get hx hb hts hin hown hK.1 hP q0 he hc k hk (hts _ hl) (fun _ h => h) hv hdg kk
  · exact va_getN hx hb hts hin hown hK.1 hP q0 he hc k hk (va_Nw.use rfl (hK.2.1 _ hl)) (fun _ h => h) hv hdg kk
theorem ga_put (S : CallFix p m c cc nL s args gw own) (hK : ga_K D tys s) (hP : va_P D vwCl ws H) (hD : va_D A ws) (hS : va_S A s.heap H locs) (q0 : Nat) {ci k index : Nat} {fs : List Value} {v : Value} {ty : FieldType} (he : ws[q0]? = some (a, .inr (ci, fs))) (F : ga_FP own index ci k ty false) (hn : narrow ty v = v) (hfit : fits ty v = true) (hl : k < fs.length) (hw : ws.set q0 (a, .inr (ci, fs.set k v)) = ws') (hdg : decode cc pc = .ok (.putfield index, 3)) (kk : ∀ (H1 : Heap) (locs1 : List Loc), va_P D vwCl ws' H1 → va_D A ws' → va_S A s.heap H1 locs1 → W p l e R s m args below meth c H1 locs1 cells slots Q (F0 m (pc + 3) ls rest)) : W p l e R s m args below meth c H locs cells slots Q (F0 m pc ls (v :: .ref a :: rest)) := by
  obtain ⟨hx, hb, -, hown, hts⟩ := S
  subst hw
  obtain ⟨C, T, N, ty0, hc, hin, hk, hty, hnm, hfin, hd, -, hl2 | ⟨-, host, hl2⟩⟩ := F
  · exact va_put hx hb hts hin ty0 hty hnm hown hK.1 hP hD hS q0 he hc k hk (hts _ hl2) (fun _ h => h) hfin hd hn hfit hl hdg kk
  · exact va_putN hx hb hts hin ty0 hty hnm hown hK.1 hP hD hS q0 he hc k hk (va_Nw.use rfl (hK.2.1 _ hl2)) (fun _ h => h) hfin hd hn hfit hl hdg kk
theorem ga_putF (S : CallFix p m c cc nL s args gw own) (hin2 : meth.name = "<init>") (hK : ga_K D tys s) (hP : va_P D vwCl ws H) (hD : va_D A ws) (hS : va_S A s.heap H locs) (q0 : Nat) {ci k index : Nat} {fs : List Value} {v : Value} {ty : FieldType} (he : ws[q0]? = some (a, .inr (ci, fs))) (F : ga_FP own index ci k ty true) (hn : narrow ty v = v) (hfit : fits ty v = true) (hl : k < fs.length) (hw : ws.set q0 (a, .inr (ci, fs.set k v)) = ws') (hdg : decode cc pc = .ok (.putfield index, 3)) (kk : ∀ (H1 : Heap) (locs1 : List Loc), va_P D vwCl ws' H1 → va_D A ws' → va_S A s.heap H1 locs1 → W p l e R s m args below meth c H1 locs1 cells slots Q (F0 m (pc + 3) ls rest)) : W p l e R s m args below meth c H locs cells slots Q (F0 m pc ls (v :: .ref a :: rest)) := by
  obtain ⟨hx, hb, -, hown, hts⟩ := S
  subst hw
  obtain ⟨C, T, N, ty0, hc, hin, hk, hty, hnm, hfin, hd, hdecl, hl2 | ⟨hf, -⟩⟩ := F
  · exact va_putF hx hb hts hin ty0 hty hnm hown hK.1 hP hD hS q0 he hc k hk (hts _ hl2) (fun _ h => h) hfin hin2 (hdecl rfl) hd hn hfit hl hdg kk
  · cases hf
theorem ga_iast (S : CallFix p m c cc nL s args gw own) (hK : ga_K D tys s) (hP : va_P D vwCl ws H) (hD : va_D A ws) (hS : va_S A s.heap H locs) (q0 t0 : Nat) {cA : ClassId} {n : Nat} {f : Nat → Int32} (ha : ws[q0]? = some (a, .inl (cA, n, .inl f))) (ht : tys[t0]? = some (cA, .int)) {i x : Int32} (hin : vp_in i n) (hw : ws.set q0 (a, .inl (cA, n, .inl (upd f i.toNatClampNeg x))) = ws') (hdg : decode cc pc = .ok (.iastore, 1)) (kk : ∀ (H1 : Heap) (locs1 : List Loc), va_P D vwCl ws' H1 → va_D A ws' → va_S A s.heap H1 locs1 → W p l e R s m args below meth c H1 locs1 cells slots Q (F0 m (pc + 1) ls rest)) : W p l e R s m args below meth c H locs cells slots Q (F0 m pc ls (.int x :: .int i :: .ref a :: rest)) := by
  subst hw
  exact va_iast S.1 S.2.1 hK.1 hP hD hS q0 t0 ha ht hin hdg kk
theorem ga_zast (S : CallFix p m c cc nL s args gw own) (hK : ga_K D tys s) (hP : va_P D vwCl ws H) (hD : va_D A ws) (hS : va_S A s.heap H locs) (q0 t0 : Nat) {cA : ClassId} {n : Nat} {f : Nat → Int32} (ha : ws[q0]? = some (a, .inl (cA, n, .inl f))) (ht : tys[t0]? = some (cA, .boolean)) {i x : Int32} (hin : vp_in i n) (hx01 : x = 0 ∨ x = 1) (hw : ws.set q0 (a, .inl (cA, n, .inl (upd f i.toNatClampNeg x))) = ws') (hdg : decode cc pc = .ok (.bastore, 1)) (kk : ∀ (H1 : Heap) (locs1 : List Loc), va_P D vwCl ws' H1 → va_D A ws' → va_S A s.heap H1 locs1 → W p l e R s m args below meth c H1 locs1 cells slots Q (F0 m (pc + 1) ls rest)) : W p l e R s m args below meth c H locs cells slots Q (F0 m pc ls (.int x :: .int i :: .ref a :: rest)) := by
  have hnx : vp_nar .boolean x = x := by rcases hx01 with rfl | rfl <;> rfl
  subst hw
  refine va_zast S.1 S.2.1 hK.1 hP hD hS q0 t0 ha ht hin hdg ?_
  rw [hnx]
  exact kk
theorem ga_cast (S : CallFix p m c cc nL s args gw own) (hK : ga_K D tys s) (hP : va_P D vwCl ws H) (hD : va_D A ws) (hS : va_S A s.heap H locs) (q0 t0 : Nat) {cA : ClassId} {n : Nat} {f : Nat → Int32} (ha : ws[q0]? = some (a, .inl (cA, n, .inl f))) (ht : tys[t0]? = some (cA, .char)) {i x : Int32} (hin : vp_in i n) (hnx : vp_nar .char x = x) (hw : ws.set q0 (a, .inl (cA, n, .inl (upd f i.toNatClampNeg x))) = ws') (hdg : decode cc pc = .ok (.castore, 1)) (kk : ∀ (H1 : Heap) (locs1 : List Loc), va_P D vwCl ws' H1 → va_D A ws' → va_S A s.heap H1 locs1 → W p l e R s m args below meth c H1 locs1 cells slots Q (F0 m (pc + 1) ls rest)) : W p l e R s m args below meth c H locs cells slots Q (F0 m pc ls (.int x :: .int i :: .ref a :: rest)) := by
  subst hw
  refine va_cast S.1 S.2.1 hK.1 hP hD hS q0 t0 ha ht hin hdg ?_
  rw [hnx]
  exact kk
/-- an element of an array of int arrays -/
theorem ga_aald (S : CallFix p m c cc nL s args gw own) (hK : ga_K D tys s) (hP : va_P D vwCl ws H) (q0 t0 : Nat) {cA : ClassId} {n : Nat} {f : Nat → Option Nat} (ha : ws[q0]? = some (a, .inl (cA, n, .inr (.inr (.inr (.inr f)))))) (ht : tys[t0]? = some (cA, .array .int)) {i : Int32} (hin : vp_in i n) (hdg : decode cc pc = .ok (.aaload, 1)) (kk : W p l e R s m args below meth c H locs cells slots Q (F0 m (pc + 1) ls (va_rf (f i.toNatClampNeg) :: rest))) : W p l e R s m args below meth c H locs cells slots Q (F0 m pc ls (.int i :: .ref a :: rest)) := by
  have hlt : i.toNatClampNeg < n := Nat.not_le.mp fun q => hin (Or.inr q)
  exact W.aald (v := va_rf (f i.toNatClampNeg)) (ty := .array .int) S.1 S.2.1 (hP q0 _ ha) ((hK.1.2 t0 _ ht).1 n (fun j => va_rf (f j))) rfl (fun q => by cases q) (by show ¬ (i < 0 ∨ (arrV _ _ _).slots.size ≤ _); rw [arrV_size]; exact hin) (by show (arrV _ _ _).slots[_]? = _; rw [arrV_read _ _ hlt]) rfl rfl hdg kk
theorem ga_new {ci N index : Nat} {fs : List Value} (S : CallFix p m c cc nL s args gw own) (hK : ga_K D tys s) (hP : va_P D vwCl ws H) (hD : va_D A ws) (hS : va_S A s.heap H locs) (hA : ∀ q, s.heap.size ≤ q → A q) (F : ga_CN own index ci N fs) (hcells : cells + 1 ≤ R.cells) (hslots : slots + N ≤ R.slots) (hdg : decode cc pc = .ok (.new index, 3)) (kk : ∀ (q : Nat) (H1 : Heap), va_P D vwCl (ws ++ [(q, .inr (ci, fs))]) H1 → va_D A (ws ++ [(q, .inr (ci, fs))]) → va_S A s.heap H1 locs → W p l e R s m args below meth c H1 locs (cells + 1) (slots + N) Q (F0 m (pc + 3) ls (.ref q :: rest))) : W p l e R s m args below meth c H locs cells slots Q (F0 m pc ls rest) := by
  obtain ⟨hx, hb, -, hown, hts⟩ := S
  obtain ⟨C, T, ty0, hc, hin, hty, hl, hi, hn, hfs⟩ := F
  exact va_new hx hb hts hin ty0 hty hown (hts _ hl) (hts _ hi) (hts _ hn) hK.1 hP hD hS hA hc hfs hcells hslots hdg kk
theorem ga_newa {atype : ArrayType} {ty : FieldType} (S : CallFix p m c cc nL s args gw own) (hK : ga_K D tys s) (hP : va_P D vwCl ws H) (hD : va_D A ws) (hS : va_S A s.heap H locs) (hA : ∀ q, s.heap.size ≤ q → A q) (harr : Cond.arrayClass (newarray.typeOf atype) ∈ gw) (hty : newarray.typeOf atype = ty) (hra : ∀ (U : State) (k : ClassId), va_RA U k ty → U.vm.findClass ("[" ++ ty.toString) = some k) (t0 : Nat) {cA : ClassId} (ht : tys[t0]? = some (cA, ty)) {n : Int32} {N' : Nat} {a0 : vp_A} (ha : ∀ k : ClassId, vp_cell k a0 = arrV k N' (fun _ => defaultValue ty)) (hn : ¬ n < 0) (hN : n.toNatClampNeg = N') (hbytes : N' * componentBytes ty ≤ 536870912) (hcells : cells + 1 ≤ R.cells) (hslots : slots + N' ≤ R.slots) (hdg : decode cc pc = .ok (.newarray atype, 2)) (kk : ∀ (q : Nat) (H1 : Heap), va_P D vwCl (ws ++ [(q, .inl (cA, a0))]) H1 → va_D A (ws ++ [(q, .inl (cA, a0))]) → va_S A s.heap H1 locs → W p l e R s m args below meth c H1 locs (cells + 1) (slots + N') Q (F0 m (pc + 2) ls (.ref q :: rest))) : W p l e R s m args below meth c H locs cells slots Q (F0 m pc ls (.int n :: rest)) := by
  refine va_newa S.1 S.2.1 (S.2.2.2.2 _ harr) hty hK.1 hP hD hS hA ha hn hN hbytes hcells hslots hdg (fun q k H1 hK1 hP1 hD1 hS1 => ?_)
  have e1 := hra s cA (hK.1.2 t0 _ ht).2
  have e2 := hra s k (hK1.2 tys.length (k, ty) (by simp)).2
  obtain rfl : k = cA := Option.some.inj (e2.symm.trans e1)
  exact kk q H1 hP1 hD1 hS1
theorem ga_runV {y : MethodName} {b : ByteArray} {n k d mc ms index : Nat} {r : Option FieldType} {Pc : Array Value → State → Prop} {Qc : Array Value → State → Outcome → State → Prop} {free : Addr → Prop} {As : List Value} {o : Nat} (S : CallFix p m c cc nL s args gw own) (hK : ga_K D tys s) (site : ga_SV own index y b n r k) (hM : Met l y (.code y b n r :: gw) (ga_rm d mc ms) Pc Qc mc ms free) (hp : PreV s H y.cls o Pc As) (hn : As.length = k) (hsz : ls.size = nL) (hst : st0 = As.reverse ++ .ref o :: rest) (hw : (rest.map fun v => v.category).sum ≤ 8) (hR : d + 1 ≤ R.frames ∧ 8 + (n + 11) + 40 * d ≤ R.locals) (hf : cells + mc ≤ R.cells ∧ slots + ms ≤ R.slots) (hdg : decode cc pc = .ok (.invokevirtual index, 3)) : va_Run p l e R s m args below meth c H locs cells slots mc ms (F0 m pc ls st0) rest (Qc (Value.ref o :: As).toArray) free := by
  obtain ⟨hl, hi, hse, hini, hcd, hd⟩ := site
  have hts := S.2.2.2.2
  rcases hl with hl | ⟨host, hl⟩
  · exact va_runV S hM ⟨callB_of k hts (gw_c hcd) rfl rfl rfl (hts _ hini) (hts _ hl) hd hR, hts _ hi, hts _ hse⟩ hp rfl hn hsz hst (lv_room hw) hdg hf
  · exact va_runVN S hM ⟨va_cnB k hts (gw_c hcd) rfl rfl rfl (hK.2.1 _ hl) (hts _ hini) hd hR, hts _ hi, hts _ hse⟩ hp rfl hn hsz hst (lv_room hw) hdg hf
theorem ga_runS {y : MethodName} {b : ByteArray} {n k d mc ms index : Nat} {r : Option FieldType} {Pc : Array Value → State → Prop} {Qc : Array Value → State → Outcome → State → Prop} {free : Addr → Prop} {As : List Value} (S : CallFix p m c cc nL s args gw own) (hK : ga_K D tys s) (site : ga_SS own index y b n r k) (hM : Met l y (.code y b n r :: gw) (ga_rm d mc ms) Pc Qc mc ms free) (hp : PreS s H Pc As) (hn : As.length = k) (hsz : ls.size = nL) (hst : st0 = As.reverse ++ rest) (hw : (rest.map fun v => v.category).sum ≤ 8) (hR : d + 1 ≤ R.frames ∧ 8 + (n + 11) + 40 * d ≤ R.locals) (hf : cells + mc ≤ R.cells ∧ slots + ms ≤ R.slots) (hdg : decode cc pc = .ok (.invokestatic index, 3)) : va_Run p l e R s m args below meth c H locs cells slots mc ms (F0 m pc ls st0) rest (Qc As.toArray) free := by
  obtain ⟨hl, hi, hini, hcd, hd⟩ := site
  have hts := S.2.2.2.2
  rcases hl with hl | ⟨host, hl⟩
  · exact va_runS S hM ⟨callB_of k hts (gw_c hcd) rfl rfl rfl (hts _ hini) (hts _ hl) hd hR, hts _ hi⟩ hp rfl hn hsz hst (lv_room hw) hdg hf
  · exact va_runSN S hM ⟨va_cnB k hts (gw_c hcd) rfl rfl rfl (hK.2.1 _ hl) (hts _ hini) hd hR, hts _ hi, trivial⟩ hp rfl hn hsz hst (lv_room hw) hdg hf
theorem ga_runI {y : MethodName} {b : ByteArray} {n k d mc ms index : Nat} {Pc : Array Value → State → Prop} {Qc : Array Value → State → Outcome → State → Prop} {free : Addr → Prop} {As : List Value} {o : Nat} (S : CallFix p m c cc nL s args gw own) (hK : ga_K D tys s) (site : ga_SI own index y b n k) (hM : Met l y (.code y b n none :: gw) (ga_rm d mc ms) Pc Qc mc ms free) (hp : PreS s H Pc (.ref o :: As)) (hn : As.length = k) (hsz : ls.size = nL) (hst : st0 = As.reverse ++ .ref o :: rest) (hw : (rest.map fun v => v.category).sum ≤ 8) (hR : d + 1 ≤ R.frames ∧ 8 + (n + 11) + 40 * d ≤ R.locals) (hf : cells + mc ≤ R.cells ∧ slots + ms ≤ R.slots) (hdg : decode cc pc = .ok (.invokespecial index, 3)) : va_Run p l e R s m args below meth c H locs cells slots mc ms (F0 m pc ls st0) rest (Qc (Value.ref o :: As).toArray) free := by
  obtain ⟨hl, hi, hnm, hini, hcd, hd⟩ := site
  have hts := S.2.2.2.2
  rcases hl with hl | ⟨host, hl⟩
  · exact va_runI S hM ⟨callB_of k hts (gw_c hcd) rfl rfl rfl (hts _ hini) (hts _ hl) hd hR, hnm, hts _ hi⟩ hp rfl hn hsz hst (lv_room hw) hdg hf
  · exact va_runIN S hM ⟨va_cnB k hts (gw_c hcd) rfl rfl rfl (hK.2.1 _ hl) (hts _ hini) hd hR, hnm, hts _ hi⟩ hp rfl hn hsz hst (lv_room hw) hdg hf
/-- behind a call that changed its world: the world in the caller's own order -/
theorem ga_ji {α : Type} {wf : α → va_W} {post : Int32 → α → Prop} {aa : Array Value} {mc ms : Nat} (hr : va_Run p l e R s m args below meth c H locs cells slots mc ms (F0 m pc ls st0) rest (va_Qi post (ga_B D (va_A wc H.size) wf) (va_A wc H.size) aa) (va_A wc H.size)) (hP : va_P D vwCl ws H) (hD : va_D A ws) (hS : va_S A s.heap H locs) (hA : ∀ q, s.heap.size ≤ q → A q) (isC isR : List Nat) (hC : isC.map (fun i => ws[i]?) = wc.map some) (hR' : isR.map (fun i => ws[i]?) = wr.map some) (hnd : va_nd isR = true) (hdis : ∀ i ∈ isR, i ∉ isC) (pm : List Nat) (wf' : α → va_W) (hpm : ∀ x, pm.map (fun i => (wr ++ wf x)[i]?) = (wf' x).map some) (hpn : va_nd pm = true) (kk : ∀ (r : Int32) (x : α) (H1 : Heap) (locs1 : List Loc), post r x → va_P D vwCl (wf' x) H1 → va_D A (wf' x) → va_S A s.heap H1 locs1 → W p l e R s m args below meth c H1 locs1 (cells + mc) (slots + ms) Q (F0 m (pc + 3) ls (.int r :: rest))) : W p l e R s m args below meth c H locs cells slots Q (F0 m pc ls st0) := by
  have hFc := va_free hD hS hA isC hC
  refine va_calli hr hS (fun q _ h => hFc q h) hFc (fun r x t H1 locs1 ht hvm hp hB hz hk hS1 => ?_)
  obtain ⟨hP1, hD1⟩ := hB
  rw [ht] at hP1
  obtain ⟨hP2, hD2⟩ := va_join hP hD isC isR hC hR' hnd hdis hk hFc hP1 hD1
  exact kk r x H1 locs1 hp (hP2.sub pm (ga_fm (hpm x))) (hD2.sub pm hpn (hpm x)) hS1
theorem ga_jv {α : Type} {wf : α → va_W} {post : α → Prop} {aa : Array Value} {mc ms : Nat} (hr : va_Run p l e R s m args below meth c H locs cells slots mc ms (F0 m pc ls st0) rest (va_Qv post (ga_B D (va_A wc H.size) wf) (va_A wc H.size) aa) (va_A wc H.size)) (hP : va_P D vwCl ws H) (hD : va_D A ws) (hS : va_S A s.heap H locs) (hA : ∀ q, s.heap.size ≤ q → A q) (isC isR : List Nat) (hC : isC.map (fun i => ws[i]?) = wc.map some) (hR' : isR.map (fun i => ws[i]?) = wr.map some) (hnd : va_nd isR = true) (hdis : ∀ i ∈ isR, i ∉ isC) (pm : List Nat) (wf' : α → va_W) (hpm : ∀ x, pm.map (fun i => (wr ++ wf x)[i]?) = (wf' x).map some) (hpn : va_nd pm = true) (kk : ∀ (x : α) (H1 : Heap) (locs1 : List Loc), post x → va_P D vwCl (wf' x) H1 → va_D A (wf' x) → va_S A s.heap H1 locs1 → W p l e R s m args below meth c H1 locs1 (cells + mc) (slots + ms) Q (F0 m (pc + 3) ls rest)) : W p l e R s m args below meth c H locs cells slots Q (F0 m pc ls st0) := by
  have hFc := va_free hD hS hA isC hC
  refine va_callv hr hS (fun q _ h => hFc q h) hFc (fun x t H1 locs1 ht hvm hp hB hz hk hS1 => ?_)
  obtain ⟨hP1, hD1⟩ := hB
  rw [ht] at hP1
  obtain ⟨hP2, hD2⟩ := va_join hP hD isC isR hC hR' hnd hdis hk hFc hP1 hD1
  exact kk x H1 locs1 hp (hP2.sub pm (ga_fm (hpm x))) (hD2.sub pm hpn (hpm x)) hS1
theorem ga_jq {α : Type} {wf : α → va_W} {ra : α → Nat} {post : α → Prop} {aa : Array Value} {mc ms : Nat} (hr : va_Run p l e R s m args below meth c H locs cells slots mc ms (F0 m pc ls st0) rest (va_Qr post (ga_Bq D (va_A wc H.size) wf ra) (va_A wc H.size) aa) (va_A wc H.size)) (hP : va_P D vwCl ws H) (hD : va_D A ws) (hS : va_S A s.heap H locs) (hA : ∀ q, s.heap.size ≤ q → A q) (isC isR : List Nat) (hC : isC.map (fun i => ws[i]?) = wc.map some) (hR' : isR.map (fun i => ws[i]?) = wr.map some) (hnd : va_nd isR = true) (hdis : ∀ i ∈ isR, i ∉ isC) (pm : List Nat) (wf' : α → va_W) (hpm : ∀ x, pm.map (fun i => (wr ++ wf x)[i]?) = (wf' x).map some) (hpn : va_nd pm = true) (kk : ∀ (x : α) (H1 : Heap) (locs1 : List Loc), post x → va_P D vwCl (wf' x) H1 → va_D A (wf' x) → va_S A s.heap H1 locs1 → W p l e R s m args below meth c H1 locs1 (cells + mc) (slots + ms) Q (F0 m (pc + 3) ls (.ref (ra x) :: rest))) : W p l e R s m args below meth c H locs cells slots Q (F0 m pc ls st0) := by
  have hFc := va_free hD hS hA isC hC
  refine va_callr hr hS (fun q _ h => hFc q h) hFc (fun x a t H1 locs1 ht hvm hp hB hz hk hS1 => ?_)
  obtain ⟨ha, hP1, hD1⟩ := hB
  subst ha
  rw [ht] at hP1
  obtain ⟨hP2, hD2⟩ := va_join hP hD isC isR hC hR' hnd hdis hk hFc hP1 hD1
  exact kk x H1 locs1 hp (hP2.sub pm (ga_fm (hpm x))) (hD2.sub pm hpn (hpm x)) hS1
/-- what a call that changes its world asks at its start -/
theorem ga_prV {y : MethodName} {o q0 ci N : Nat} {fs As : List Value} {T : u_T} (hK : ga_K D tys s) (hP : va_P D vwCl ws H) (hD : va_D A ws) (isC : List Nat) (hC : isC.map (fun i => ws[i]?) = wc.map some) (hnc : va_nd isC = true) (hq : ws[q0]? = some (o, .inr (ci, fs))) (hc : vwCl[ci]? = some (y.cls, T, N)) : PreV s H y.cls o (ga_pw D tys (.ref o :: As) wc H.size) As :=
  ⟨ga_pw_blind, va_recv hK.1 hP hc hq, fun U hU hW => ⟨rfl, by rw [hU], by rw [hU]; exact hP.sub isC (ga_fm hC), hK.warm hW, (hD.sub isC hnc hC).weaken (fun _ _ _ _ => trivial)⟩⟩
theorem ga_prS {As : List Value} (hK : ga_K D tys s) (hP : va_P D vwCl ws H) (hD : va_D A ws) (isC : List Nat) (hC : isC.map (fun i => ws[i]?) = wc.map some) (hnc : va_nd isC = true) : PreS s H (ga_pw D tys As wc H.size) As :=
  ⟨ga_pw_blind, fun U hU hW => ⟨rfl, by rw [hU], by rw [hU]; exact hP.sub isC (ga_fm hC), hK.warm hW, (hD.sub isC hnc hC).weaken (fun _ _ _ _ => trivial)⟩⟩
/-- a call of an instance method that only reads -/
theorem ga_cr {y : MethodName} {b : ByteArray} {n k d index q0 ci N : Nat} {r : Option FieldType} {As fs : List Value} {o : Nat} {T : u_T} {post : Int32 → Prop} (S : CallFix p m c cc nL s args gw own) (hK : ga_K D tys s) (hP : va_P D vwCl ws H) (site : ga_SV own index y b n r k) (hM : ga_Mr l y b n r d D tys (.ref o :: As) wc post) (is : List Nat) (his : is.filterMap (fun i => ws[i]?) = wc) (hq : ws[q0]? = some (o, .inr (ci, fs))) (hc : vwCl[ci]? = some (y.cls, T, N)) (hn : As.length = k) (hsz : ls.size = nL) (hst : st0 = As.reverse ++ .ref o :: rest) (hw : (rest.map fun v => v.category).sum ≤ 8) (hR : d + 1 ≤ R.frames ∧ 8 + (n + 11) + 40 * d ≤ R.locals) (hf : cells + 0 ≤ R.cells ∧ slots + 0 ≤ R.slots) (hdg : decode cc pc = .ok (.invokevirtual index, 3)) (kk : ∀ r : Int32, post r → W p l e R s m args below meth c H locs cells slots Q (F0 m (pc + 3) ls (.int r :: rest))) : W p l e R s m args below meth c H locs cells slots Q (F0 m pc ls st0) :=
  vp_callSi (ga_runV S hK site hM ⟨ga_pr_blind, va_recv hK.1 hP hc hq, fun U hU hW => ⟨rfl, by rw [hU]; exact hP.sub is his, hK.warm hW⟩⟩ hn hsz hst hw hR hf hdg).run kk
/-- .. of a static one -/
theorem ga_cs {y : MethodName} {b : ByteArray} {n k d index : Nat} {r : Option FieldType} {As : List Value} {post : Int32 → Prop} (S : CallFix p m c cc nL s args gw own) (hK : ga_K D tys s) (hP : va_P D vwCl ws H) (site : ga_SS own index y b n r k) (hM : ga_Mr l y b n r d D tys As wc post) (is : List Nat) (his : is.filterMap (fun i => ws[i]?) = wc) (hn : As.length = k) (hsz : ls.size = nL) (hst : st0 = As.reverse ++ rest) (hw : (rest.map fun v => v.category).sum ≤ 8) (hR : d + 1 ≤ R.frames ∧ 8 + (n + 11) + 40 * d ≤ R.locals) (hf : cells + 0 ≤ R.cells ∧ slots + 0 ≤ R.slots) (hdg : decode cc pc = .ok (.invokestatic index, 3)) (kk : ∀ r : Int32, post r → W p l e R s m args below meth c H locs cells slots Q (F0 m (pc + 3) ls (.int r :: rest))) : W p l e R s m args below meth c H locs cells slots Q (F0 m pc ls st0) :=
  vp_callSi (ga_runS S hK site hM ⟨ga_pr_blind, fun U hU hW => ⟨rfl, by rw [hU]; exact hP.sub is his, hK.warm hW⟩⟩ hn hsz hst hw hR hf hdg).run kk
/-- a loop: a measure falls at each turn -/
theorem ga_loop {α : Type} (μ : α → Nat) (I : α → Array Slot → Heap → List Loc → Prop)
    (hs : ∀ (x : α) (ls : Array Slot) (H : Heap) (locs : List Loc), I x ls H locs → (∀ (z : α) (ls' : Array Slot) (H' : Heap) (locs' : List Loc), μ z < μ x → I z ls' H' locs' → W p l e R s m args below meth c H' locs' cells slots Q (F0 m pc ls' [])) → W p l e R s m args below meth c H locs cells slots Q (F0 m pc ls []))
    (x0 : α) (h0 : I x0 ls H locs) : W p l e R s m args below meth c H locs cells slots Q (F0 m pc ls []) := by
  have key : ∀ (k : Nat) (x : α) (ls : Array Slot) (H : Heap) (locs : List Loc), μ x < k → I x ls H locs → W p l e R s m args below meth c H locs cells slots Q (F0 m pc ls []) := by
    intro k
    induction k with
    | zero => intro x ls H locs h; exact absurd h (Nat.not_lt_zero _)
    | succ k ih =>
      intro x ls H locs h hI
      exact hs x ls H locs hI (fun z ls' H' locs' hz hI' => ih z ls' H' locs' (Nat.lt_of_lt_of_le hz (Nat.le_of_lt_succ h)) hI')
  exact key (μ x0 + 1) x0 ls H locs (Nat.lt_succ_self _) h0
/-- returns -/
theorem ga_ri {post : Int32 → Prop} {v : Int32} (S : CallFix p m c cc nL s args gw own) (hr : meth.sig.returnType = some .int) (hlk : meth.locks = false) (hp : post v) (hdg : decode cc pc = .ok (.ireturn, 1)) : W p l e R s m args below meth c s.heap [] 0 0 (MQ below (vp_Si post) args s 0 0 (fun _ => False)) (F0 m pc ls [.int v]) :=
  W.iret S.1 S.2.1 hr (fun t ht _ => ⟨v, rfl, hp, ht⟩) (fun q h => by cases h) hdg hlk
theorem ga_rz {post : Int32 → Prop} {v : Int32} (S : CallFix p m c cc nL s args gw own) (hr : meth.sig.returnType = some .boolean) (hlk : meth.locks = false) (hv : v = 0 ∨ v = 1) (hp : post v) (hdg : decode cc pc = .ok (.ireturn, 1)) : W p l e R s m args below meth c s.heap [] 0 0 (MQ below (vp_Si post) args s 0 0 (fun _ => False)) (F0 m pc ls [.int v]) :=
  W.zret S.1 S.2.1 hr (by rcases hv with rfl | rfl <;> rfl) (fun t ht _ => ⟨v, rfl, hp, ht⟩) (fun q h => by cases h) hdg hlk
theorem ga_wi {α : Type} {wf : α → va_W} {post : Int32 → α → Prop} {v : Int32} (x : α) (S : CallFix p m c cc nL s args gw own) (hr : meth.sig.returnType = some .int) (hlk : meth.locks = false) (hP : va_P D vwCl (wf x) H) (hD : va_D A (wf x)) (hS : va_S A s.heap H locs) (hp : post v x) (hdg : decode cc pc = .ok (.ireturn, 1)) : W p l e R s m args below meth c H locs cells slots (MQ below (va_Qi post (ga_B D A wf) A) args s cells slots A) (F0 m pc ls [.int v]) :=
  W.iret S.1 S.2.1 hr (fun t ht _ => ⟨⟨v, x, rfl, hp, by rw [ht]; exact hP, hD⟩, hS.F ht⟩) hS.2.2 hdg hlk
theorem ga_wz {α : Type} {wf : α → va_W} {post : Int32 → α → Prop} {v : Int32} (x : α) (S : CallFix p m c cc nL s args gw own) (hr : meth.sig.returnType = some .boolean) (hlk : meth.locks = false) (hv : v = 0 ∨ v = 1) (hP : va_P D vwCl (wf x) H) (hD : va_D A (wf x)) (hS : va_S A s.heap H locs) (hp : post v x) (hdg : decode cc pc = .ok (.ireturn, 1)) : W p l e R s m args below meth c H locs cells slots (MQ below (va_Qi post (ga_B D A wf) A) args s cells slots A) (F0 m pc ls [.int v]) :=
  W.zret S.1 S.2.1 hr (by rcases hv with rfl | rfl <;> rfl) (fun t ht _ => ⟨⟨v, x, rfl, hp, by rw [ht]; exact hP, hD⟩, hS.F ht⟩) hS.2.2 hdg hlk
theorem ga_wv {α : Type} {wf : α → va_W} {post : α → Prop} (x : α) (S : CallFix p m c cc nL s args gw own) (hr : meth.sig.returnType = none) (hlk : meth.locks = false) (hP : va_P D vwCl (wf x) H) (hD : va_D A (wf x)) (hS : va_S A s.heap H locs) (hp : post x) (hdg : decode cc pc = .ok (.return_, 1)) : W p l e R s m args below meth c H locs cells slots (MQ below (va_Qv post (ga_B D A wf) A) args s cells slots A) (F0 m pc ls []) :=
  W.vret S.1 S.2.1 hr (fun t ht _ => ⟨⟨x, rfl, hp, by rw [ht]; exact hP, hD⟩, hS.F ht⟩) hS.2.2 hdg hlk
theorem ga_wq {α : Type} {wf : α → va_W} {ra : α → Nat} {post : α → Prop} {rt : FieldType} (x : α) (S : CallFix p m c cc nL s args gw own) (hr : meth.sig.returnType = some rt) (hrt : (∃ n, rt = .object n) ∨ ∃ t, rt = .array t) (hlk : meth.locks = false) (hP : va_P D vwCl (wf x) H) (hD : va_D A (wf x)) (hS : va_S A s.heap H locs) (hp : post x) (hdg : decode cc pc = .ok (.areturn, 1)) : W p l e R s m args below meth c H locs cells slots (MQ below (va_Qr post (ga_Bq D A wf ra) A) args s cells slots A) (F0 m pc ls [.ref (ra x)]) :=
  W.aret S.1 S.2.1 hr hrt (Or.inr ⟨_, rfl⟩) (fun t ht _ => ⟨⟨x, ra x, rfl, hp, rfl, by rw [ht]; exact hP, hD⟩, hS.F ht⟩) hS.2.2 hdg hlk
end GR
/-! numbers as naturals, truth values as Bool -/
def nA (f : Nat → Nat) : Nat → Int32 := fun j => nI (f j)
def bI : Bool → Int32
  | true => 1
  | false => 0
def zA (f : Nat → Bool) : Nat → Int32 := fun j => bI (f j)
theorem bI_01 (b : Bool) : bI b = 0 ∨ bI b = 1 := by cases b <;> simp [bI]
theorem bI_0 {b : Bool} (h : bI b = 0) : b = false := by cases b; rfl; exact absurd h (by decide)
theorem bI_1 {b : Bool} (h : ¬ bI b = 0) : b = true := by cases b; exact absurd rfl h; rfl
theorem nA_upd (f : Nat → Nat) (k v : Nat) : upd (nA f) k (nI v) = nA (va_up f k v) := by
  funext j
  by_cases h : j = k <;> simp [upd, nA, va_up, h]
theorem zA_upd (f : Nat → Bool) (k : Nat) (v : Bool) : upd (zA f) k (bI v) = zA (va_up f k v) := by
  funext j
  by_cases h : j = k <;> simp [upd, zA, va_up, h]
theorem ga_inc (a : Nat) : nI a + Int32.ofInt 1 = nI (a + 1) := nI_1 a
theorem ga_c16 {q : Nat} (h : q < 65536) : ((nI q).toUInt32 % 65536).toInt32 = nI q := by
  rw [pk_char, pk_tn (Nat.lt_trans h (by decide)), Nat.mod_eq_of_lt h]
theorem ga_nc {q : Nat} (h : q < 65536) : vp_nar .char (nI q) = nI q := by
  have := (pk_charN h).1
  unfold vp_nar
  rw [this]
section GN
variable {p : Program} {l : Launch} {e : Env} {R : Room} {s : State} {m : MethodId} {args : Array Value} {below : List Frame} {meth : Method} {c : Code} {H : Heap} {locs : List Loc} {cells slots : Nat} {Q : State → Prop}
variable {cc : ByteArray} {nL pc : Nat} {own : String} {ls : Array Slot} {rest st0 : List Value} {D : va_G} {tys : List (ClassId × FieldType)} {ws ws' : va_W} {A : Nat → Prop} {a : Nat}
theorem ga_top {x : Int32} (y : Int32) (h : x = y) (k : W p l e R s m args below meth c H locs cells slots Q (F0 m pc ls (.int y :: rest))) : W p l e R s m args below meth c H locs cells slots Q (F0 m pc ls (.int x :: rest)) := h ▸ k
theorem ga_ild (S : CallFix p m c cc nL s args gw own) (hK : ga_K D tys s) (hP : va_P D vwCl ws H) (q0 t0 : Nat) {cA : ClassId} {n : Nat} {f : Nat → Nat} (ha : ws[q0]? = some (a, .inl (cA, n, .inl (nA f)))) (ht : tys[t0]? = some (cA, .int)) (j : Nat) (hj : j < n) (hn : n < 2 ^ 31) (hdg : decode cc pc = .ok (.iaload, 1)) (kk : W p l e R s m args below meth c H locs cells slots Q (F0 m (pc + 1) ls (.int (nI (f j)) :: rest))) : W p l e R s m args below meth c H locs cells slots Q (F0 m pc ls (.int (nI j) :: .ref a :: rest)) := by
  refine va_iald S.1 S.2.1 hK.1 hP q0 t0 ha ht (vp_in_nI hj hn) hdg ?_
  rw [nI_clamp (Nat.lt_trans hj hn)]
  exact kk
theorem ga_cld (S : CallFix p m c cc nL s args gw own) (hK : ga_K D tys s) (hP : va_P D vwCl ws H) (q0 t0 : Nat) {cA : ClassId} {n : Nat} {f : Nat → Nat} (ha : ws[q0]? = some (a, .inl (cA, n, .inl (nA f)))) (ht : tys[t0]? = some (cA, .char)) (j : Nat) (hj : j < n) (hn : n < 2 ^ 31) (hdg : decode cc pc = .ok (.caload, 1)) (kk : W p l e R s m args below meth c H locs cells slots Q (F0 m (pc + 1) ls (.int (nI (f j)) :: rest))) : W p l e R s m args below meth c H locs cells slots Q (F0 m pc ls (.int (nI j) :: .ref a :: rest)) := by
  refine va_cald S.1 S.2.1 hK.1 hP q0 t0 ha ht (vp_in_nI hj hn) hdg ?_
  rw [nI_clamp (Nat.lt_trans hj hn)]
  exact kk
theorem ga_zld (S : CallFix p m c cc nL s args gw own) (hK : ga_K D tys s) (hP : va_P D vwCl ws H) (q0 t0 : Nat) {cA : ClassId} {n : Nat} {f : Nat → Bool} (ha : ws[q0]? = some (a, .inl (cA, n, .inl (zA f)))) (ht : tys[t0]? = some (cA, .boolean)) (j : Nat) (hj : j < n) (hn : n < 2 ^ 31) (hdg : decode cc pc = .ok (.baload, 1)) (kk : W p l e R s m args below meth c H locs cells slots Q (F0 m (pc + 1) ls (.int (bI (f j)) :: rest))) : W p l e R s m args below meth c H locs cells slots Q (F0 m pc ls (.int (nI j) :: .ref a :: rest)) := by
  refine va_zald S.1 S.2.1 hK.1 hP q0 t0 ha ht (vp_in_nI hj hn) hdg ?_
  rw [nI_clamp (Nat.lt_trans hj hn)]
  exact kk
theorem ga_ist (S : CallFix p m c cc nL s args gw own) (hK : ga_K D tys s) (hP : va_P D vwCl ws H) (hD : va_D A ws) (hS : va_S A s.heap H locs) (q0 t0 : Nat) {cA : ClassId} {n : Nat} {f : Nat → Nat} (ha : ws[q0]? = some (a, .inl (cA, n, .inl (nA f)))) (ht : tys[t0]? = some (cA, .int)) (j v : Nat) (hj : j < n) (hn : n < 2 ^ 31) (hw : ws.set q0 (a, .inl (cA, n, .inl (nA (va_up f j v)))) = ws') (hdg : decode cc pc = .ok (.iastore, 1)) (kk : ∀ (H1 : Heap) (locs1 : List Loc), va_P D vwCl ws' H1 → va_D A ws' → va_S A s.heap H1 locs1 → W p l e R s m args below meth c H1 locs1 cells slots Q (F0 m (pc + 1) ls rest)) : W p l e R s m args below meth c H locs cells slots Q (F0 m pc ls (.int (nI v) :: .int (nI j) :: .ref a :: rest)) :=
  ga_iast S hK hP hD hS q0 t0 ha ht (vp_in_nI hj hn) (by rw [nI_clamp (Nat.lt_trans hj hn), nA_upd]; exact hw) hdg kk
theorem ga_cst (S : CallFix p m c cc nL s args gw own) (hK : ga_K D tys s) (hP : va_P D vwCl ws H) (hD : va_D A ws) (hS : va_S A s.heap H locs) (q0 t0 : Nat) {cA : ClassId} {n : Nat} {f : Nat → Nat} (ha : ws[q0]? = some (a, .inl (cA, n, .inl (nA f)))) (ht : tys[t0]? = some (cA, .char)) (j v : Nat) (hj : j < n) (hn : n < 2 ^ 31) (hv : v < 65536) (hw : ws.set q0 (a, .inl (cA, n, .inl (nA (va_up f j v)))) = ws') (hdg : decode cc pc = .ok (.castore, 1)) (kk : ∀ (H1 : Heap) (locs1 : List Loc), va_P D vwCl ws' H1 → va_D A ws' → va_S A s.heap H1 locs1 → W p l e R s m args below meth c H1 locs1 cells slots Q (F0 m (pc + 1) ls rest)) : W p l e R s m args below meth c H locs cells slots Q (F0 m pc ls (.int (nI v) :: .int (nI j) :: .ref a :: rest)) :=
  ga_cast S hK hP hD hS q0 t0 ha ht (vp_in_nI hj hn) (ga_nc hv) (by rw [nI_clamp (Nat.lt_trans hj hn), nA_upd]; exact hw) hdg kk
theorem ga_zst (S : CallFix p m c cc nL s args gw own) (hK : ga_K D tys s) (hP : va_P D vwCl ws H) (hD : va_D A ws) (hS : va_S A s.heap H locs) (q0 t0 : Nat) {cA : ClassId} {n : Nat} {f : Nat → Bool} (ha : ws[q0]? = some (a, .inl (cA, n, .inl (zA f)))) (ht : tys[t0]? = some (cA, .boolean)) (j : Nat) (v : Bool) (hj : j < n) (hn : n < 2 ^ 31) (hw : ws.set q0 (a, .inl (cA, n, .inl (zA (va_up f j v)))) = ws') (hdg : decode cc pc = .ok (.bastore, 1)) (kk : ∀ (H1 : Heap) (locs1 : List Loc), va_P D vwCl ws' H1 → va_D A ws' → va_S A s.heap H1 locs1 → W p l e R s m args below meth c H1 locs1 cells slots Q (F0 m (pc + 1) ls rest)) : W p l e R s m args below meth c H locs cells slots Q (F0 m pc ls (.int (bI v) :: .int (nI j) :: .ref a :: rest)) :=
  ga_zast S hK hP hD hS q0 t0 ha ht (vp_in_nI hj hn) (bI_01 v) (by rw [nI_clamp (Nat.lt_trans hj hn), zA_upd]; exact hw) hdg kk
theorem ga_loopR {α : Type} (μ : α → Nat) (I : α → Array Slot → Prop)
    (hs : ∀ (x : α) (ls : Array Slot), I x ls → (∀ (z : α) (ls' : Array Slot), μ z < μ x → I z ls' → W p l e R s m args below meth c H locs cells slots Q (F0 m pc ls' [])) → W p l e R s m args below meth c H locs cells slots Q (F0 m pc ls []))
    (x0 : α) (h0 : I x0 ls) : W p l e R s m args below meth c H locs cells slots Q (F0 m pc ls []) :=
  ga_loop μ (fun x ls H' locs' => H' = H ∧ locs' = locs ∧ I x ls) (fun x ls H' locs' hI ih => by
    obtain ⟨rfl, rfl, hI⟩ := hI
    exact hs x ls hI (fun z ls' hz hz' => ih z ls' _ _ hz ⟨rfl, rfl, hz'⟩)) x0 ⟨rfl, rfl, h0⟩
end GN
end
section
/-! what the class's methods compute, over naturals -/
def gp_sl (t p s : Nat) : Nat := ((t - 1) * 3 + s) * 4 + p
theorem gp_sl_lt {t p s : Nat} (h1 : 1 ≤ t) (h2 : t ≤ 40) (h3 : p < 4) (h4 : s < 3) : gp_sl t p s < 480 := by
  unfold gp_sl
  omega
theorem gp_ltz {x : Int32} (h : x < 0) : ¬ 0 ≤ x.toInt := by
  have h1 := Int32.lt_iff_toInt_lt.mp h
  have h2 : (0 : Int32).toInt = 0 := rfl
  omega
def gp_sg (sg : Nat → Nat) (n i : Nat) : Nat := if i < n then sg i else 0
def gp_put (ch : Int32) (x : (Nat → Nat) × Nat) : (Nat → Nat) × Nat := if (32 ≤ ch ∧ ch ≤ 126) ∧ x.2 < 600 then (va_up x.1 x.2 ch.toNatClampNeg, x.2 + 1) else x
def gp_add (x : (Nat → Nat) × Nat) (sh pa t o b : Nat) : (Nat → Nat) × Nat := if x.2 < 100 then (va_up (va_up (va_up (va_up (va_up x.1 (x.2 * 5) sh) (x.2 * 5 + 1) pa) (x.2 * 5 + 2) t) (x.2 * 5 + 3) o) (x.2 * 5 + 4) b, x.2 + 1) else (x.1, x.2 + 1)
def gp_tell (told : Nat → Nat) (k : Nat) (i w : Int32) : Int32 := if 0 ≤ i.toInt ∧ i.toInt < k ∧ i.toInt < 100 ∧ 0 ≤ w.toInt ∧ w.toInt < 5 then nI (told (i.toInt.toNat * 5 + w.toInt.toNat)) else -1
def gp_si (sg : Nat → Nat) (n : Nat) (i : Int32) : Int32 := if 0 ≤ i.toInt ∧ i.toInt < n then nI (sg i.toInt.toNat) else 0
def gp_sp (x : (Nat → Nat) × Nat) (ch : Nat) : (Nat → Nat) × Nat := if x.2 < 240 then (va_up x.1 x.2 ch, x.2 + 1) else x
def tI : Option Nat → Int32
  | none => -1
  | some t => nI t
theorem tI_none {tr : Option Nat} (hb : ∀ t, tr = some t → t < 2 ^ 31) (h : tI tr = -1) : tr = none := by
  cases tr with
  | none => rfl
  | some t =>
    have h1 := nI_toInt (hb t rfl)
    have h2 : (nI t).toInt = -1 := by rw [show nI t = -1 from h]; rfl
    omega
def gp_dg (sg : Nat → Nat) (n : Nat) : Nat → Nat → Nat → Nat × Nat
  | 0, pos, num => (num, pos)
  | k + 1, pos, num => if 48 ≤ gp_sg sg n pos ∧ gp_sg sg n pos ≤ 57 then gp_dg sg n k (pos + 1) (num * 10 + gp_sg sg n pos - 48) else (num, pos)
def gp_rn (sg : Nat → Nat) (n lo hi : Nat) (x : Nat × Option Nat) : Nat × Nat × Option Nat :=
  if x.2 = none then
    if (gp_dg sg n 4 x.1 0).2 = x.1 ∨ ¬ (lo ≤ (gp_dg sg n 4 x.1 0).1 ∧ (gp_dg sg n 4 x.1 0).1 ≤ hi) then (lo, (gp_dg sg n 4 x.1 0).2, some x.1) else ((gp_dg sg n 4 x.1 0).1, (gp_dg sg n 4 x.1 0).2, none)
  else (lo, x.1, x.2)
def gp_rs (sg : Nat → Nat) (n ch : Nat) (x : Nat × Option Nat) : Nat × Option Nat := if x.2 = none then (if gp_sg sg n x.1 = ch then (x.1 + 1, none) else (x.1, some x.1)) else x
def gp_rp (sg : Nat → Nat) (n : Nat) (x : Nat × Option Nat) : Bool × Nat := if x.2 = none ∧ gp_sg sg n x.1 = 43 then (true, x.1 + 1) else (false, x.1)
theorem gp_sg_lt {sg : Nat → Nat} (h : ∀ j, sg j < 2 ^ 31) (n i : Nat) : gp_sg sg n i < 2 ^ 31 := by
  unfold gp_sg
  split
  · exact h i
  · decide
theorem gp_sg_pos {sg : Nat → Nat} {n i : Nat} (h : gp_sg sg n i ≠ 0) : i < n := by
  unfold gp_sg at h
  split at h
  · assumption
  · exact absurd rfl h
theorem gp_p10 {k : Nat} (h : k ≤ 4) : 10 ^ k ≤ 10000 := Nat.le_trans (Nat.pow_le_pow_right (by decide) h) (by decide)
theorem gp_dg_bd (sg : Nat → Nat) (n : Nat) : ∀ k pos num, pos ≤ n → pos ≤ (gp_dg sg n k pos num).2 ∧ (gp_dg sg n k pos num).2 ≤ n
  | 0, pos, num, h => ⟨Nat.le_refl _, h⟩
  | k + 1, pos, num, h => by
    unfold gp_dg
    split
    · rename_i hc
      have hp : pos < n := gp_sg_pos (sg := sg) (by omega)
      have ih := gp_dg_bd sg n k (pos + 1) (num * 10 + gp_sg sg n pos - 48) hp
      exact ⟨by omega, ih.2⟩
    · exact ⟨Nat.le_refl _, h⟩
theorem gp_rn_bad {sg : Nat → Nat} {n lo hi pos nu po : Nat} (h : gp_dg sg n 4 pos 0 = (nu, po)) (hb : po = pos ∨ ¬ (lo ≤ nu ∧ nu ≤ hi)) : gp_rn sg n lo hi (pos, none) = (lo, po, some pos) := by
  simp only [gp_rn, h, if_true]
  rw [if_pos hb]
theorem gp_rn_ok {sg : Nat → Nat} {n lo hi pos nu po : Nat} (h : gp_dg sg n 4 pos 0 = (nu, po)) (hb : ¬ po = pos) (hw : lo ≤ nu ∧ nu ≤ hi) : gp_rn sg n lo hi (pos, none) = (nu, po, none) := by
  simp only [gp_rn, h, if_true]
  rw [if_neg (fun q => q.elim hb (fun z => z hw))]
theorem gp_rn_some {sg : Nat → Nat} {n lo hi pos : Nat} {tr : Option Nat} (h : tr ≠ none) : gp_rn sg n lo hi (pos, tr) = (lo, pos, tr) := by
  rw [gp_rn, if_neg h]
theorem gp_rn_bd {sg : Nat → Nat} {n lo hi pos v po : Nat} {tr t2 : Option Nat} (h : (v, po, t2) = gp_rn sg n lo hi (pos, tr)) (hp : pos ≤ n) (hlh : lo ≤ hi) (ht : ∀ t, tr = some t → t ≤ n) : lo ≤ v ∧ v ≤ hi ∧ pos ≤ po ∧ po ≤ n ∧ (t2 = none → tr = none ∧ pos + 1 ≤ po) ∧ ∀ t, t2 = some t → t ≤ n := by
  by_cases hn : tr = none
  · subst hn
    obtain ⟨⟨nu, q⟩, hq⟩ : ∃ z, gp_dg sg n 4 pos 0 = z := ⟨_, rfl⟩
    have hb := gp_dg_bd sg n 4 pos 0 hp
    rw [hq] at hb
    simp only at hb
    by_cases hc : q = pos ∨ ¬ (lo ≤ nu ∧ nu ≤ hi)
    · rw [gp_rn_bad hq hc] at h
      cases h
      exact ⟨Nat.le_refl _, hlh, hb.1, hb.2, (fun q => by cases q), (fun t q => by cases q; exact hp)⟩
    · have hc1 : ¬ q = pos := fun z => hc (Or.inl z)
      have hc2 : lo ≤ nu ∧ nu ≤ hi := Classical.byContradiction fun z => hc (Or.inr z)
      rw [gp_rn_ok hq hc1 hc2] at h
      cases h
      exact ⟨hc2.1, hc2.2, hb.1, hb.2, fun _ => ⟨rfl, by omega⟩, fun t q => by cases q⟩
  · rw [gp_rn_some hn] at h
    cases h
    exact ⟨Nat.le_refl _, hlh, Nat.le_refl _, hp, fun q => absurd q hn, ht⟩
theorem gp_rs_bd {sg : Nat → Nat} {n ch pos po : Nat} {tr t2 : Option Nat} (h : (po, t2) = gp_rs sg n ch (pos, tr)) (hp : pos ≤ n) (hch : 0 < ch) (ht : ∀ t, tr = some t → t ≤ n) : pos ≤ po ∧ po ≤ n ∧ (t2 = none → tr = none ∧ pos + 1 ≤ po) ∧ ∀ t, t2 = some t → t ≤ n := by
  by_cases hn : tr = none
  · subst hn
    simp only [gp_rs, if_true] at h
    split at h
    · rename_i hc
      have hlt : pos < n := gp_sg_pos (sg := sg) (by omega)
      cases h
      exact ⟨by omega, hlt, fun _ => ⟨rfl, Nat.le_refl _⟩, fun t q => by cases q⟩
    · cases h
      exact ⟨Nat.le_refl _, hp, (fun q => by cases q), (fun t q => by cases q; exact hp)⟩
  · simp only [gp_rs, if_neg hn] at h
    cases h
    exact ⟨Nat.le_refl _, hp, fun q => absurd q hn, ht⟩
theorem gp_rp_bd {sg : Nat → Nat} {n pos po : Nat} {tr : Option Nat} {b : Bool} (h : (b, po) = gp_rp sg n (pos, tr)) (hp : pos ≤ n) : pos ≤ po ∧ po ≤ n := by
  simp only [gp_rp] at h
  split at h
  · rename_i hc
    have hlt : pos < n := gp_sg_pos (sg := sg) (by omega)
    cases h
    exact ⟨by omega, hlt⟩
  · cases h
    exact ⟨Nat.le_refl _, hp⟩
/-! the three sentences, and the whole text; d = (bins, shares, used, next, targets, froms, tos, kinds, how many ranges) -/
def gp_T (sg : Nat → Nat) (n pos : Nat) : Nat × Nat × Nat × Nat × Nat × Option Nat :=
  let a := gp_rn sg n 1 40 (pos, none)
  let b := gp_rs sg n 44 a.2
  let c := gp_rn sg n 0 9999 b
  let d := gp_rs sg n 45 c.2
  let e := gp_rn sg n c.1 9999 d
  let f := gp_rs sg n 44 e.2
  let g := gp_rn sg n 0 9 f
  let h := gp_rs sg n 59 g.2
  (a.1, c.1, e.1, g.1, h)
theorem gp_T_eq {sg : Nat → Nat} {n pos w1 p1 p2 w3 p3 p4 w5 p5 p6 w7 p7 p8 : Nat} {t1 t2 t3 t4 t5 t6 t7 t8 : Option Nat} (h1 : (w1, p1, t1) = gp_rn sg n 1 40 (pos, none)) (h2 : (p2, t2) = gp_rs sg n 44 (p1, t1)) (h3 : (w3, p3, t3) = gp_rn sg n 0 9999 (p2, t2)) (h4 : (p4, t4) = gp_rs sg n 45 (p3, t3)) (h5 : (w5, p5, t5) = gp_rn sg n w3 9999 (p4, t4)) (h6 : (p6, t6) = gp_rs sg n 44 (p5, t5)) (h7 : (w7, p7, t7) = gp_rn sg n 0 9 (p6, t6)) (h8 : (p8, t8) = gp_rs sg n 59 (p7, t7)) : gp_T sg n pos = (w1, w3, w5, w7, p8, t8) := by
  simp only [gp_T, ← h1, ← h2, ← h3, ← h4, ← h5, ← h6, ← h7, ← h8]
def gp_B (sg : Nat → Nat) (n pos : Nat) : Nat × Nat × Nat × Nat × Bool × Nat × Option Nat :=
  let a := gp_rn sg n 1 40 (pos, none)
  let b := gp_rs sg n 44 a.2
  let c := gp_rn sg n 0 3 b
  let d := gp_rs sg n 44 c.2
  let e := gp_rn sg n 0 2 d
  let f := gp_rs sg n 44 e.2
  let g := gp_rn sg n 1 60 f
  let h := gp_rp sg n g.2
  let i := gp_rs sg n 59 (h.2, g.2.2)
  (a.1, c.1, e.1, g.1, h.1, i)
theorem gp_B_eq {sg : Nat → Nat} {n pos w1 p1 p2 w3 p3 p4 w5 p5 p6 w7 p7 p8 p9 : Nat} {b8 : Bool} {t1 t2 t3 t4 t5 t6 t7 t9 : Option Nat} (h1 : (w1, p1, t1) = gp_rn sg n 1 40 (pos, none)) (h2 : (p2, t2) = gp_rs sg n 44 (p1, t1)) (h3 : (w3, p3, t3) = gp_rn sg n 0 3 (p2, t2)) (h4 : (p4, t4) = gp_rs sg n 44 (p3, t3)) (h5 : (w5, p5, t5) = gp_rn sg n 0 2 (p4, t4)) (h6 : (p6, t6) = gp_rs sg n 44 (p5, t5)) (h7 : (w7, p7, t7) = gp_rn sg n 1 60 (p6, t6)) (h8 : (b8, p8) = gp_rp sg n (p7, t7)) (h9 : (p9, t9) = gp_rs sg n 59 (p8, t7)) : gp_B sg n pos = (w1, w3, w5, w7, b8, p9, t9) := by
  simp only [gp_B, ← h1, ← h2, ← h3, ← h4, ← h5, ← h6, ← h7, ← h8, ← h9]
def gp_O (sg : Nat → Nat) (n pos : Nat) : Nat × Nat × Nat × Option Nat :=
  let a := gp_rn sg n 1 60 (pos, none)
  let b := gp_rs sg n 44 a.2
  let c := gp_rn sg n 1 60 b
  let d := gp_rs sg n 59 c.2
  (a.1, c.1, d)
theorem gp_O_eq {sg : Nat → Nat} {n pos w1 p1 p2 w3 p3 p4 : Nat} {t1 t2 t3 t4 : Option Nat} (h1 : (w1, p1, t1) = gp_rn sg n 1 60 (pos, none)) (h2 : (p2, t2) = gp_rs sg n 44 (p1, t1)) (h3 : (w3, p3, t3) = gp_rn sg n 1 60 (p2, t2)) (h4 : (p4, t4) = gp_rs sg n 59 (p3, t3)) : gp_O sg n pos = (w1, w3, p4, t4) := by
  simp only [gp_O, ← h1, ← h2, ← h3, ← h4]
abbrev gp_D : Type := (Nat → Nat) × (Nat → Bool) × (Nat → Bool) × (Nat → Nat) × (Nat → Nat) × (Nat → Nat) × (Nat → Nat) × (Nat → Nat) × Nat
def gp_sT (q : Nat × Nat × Nat × Nat × Nat × Option Nat) (d : gp_D) : Nat × Option Nat × gp_D :=
  match q, d with
  | (w1, w3, w5, w7, po, t), (bn, shr, us, ne, r1, r2, r3, r4, rg) => if t = none then (po, none, bn, shr, va_up us w1 true, ne, va_up r1 rg w1, va_up r2 rg w3, va_up r3 rg w5, va_up r4 rg w7, rg + 1) else (po, t, bn, shr, us, ne, r1, r2, r3, r4, rg)
def gp_sB (q : Nat × Nat × Nat × Nat × Bool × Nat × Option Nat) (st : Nat) (d : gp_D) : Nat × Option Nat × gp_D :=
  match q, d with
  | (w1, w3, w5, w7, b8, po, t), (bn, shr, us, ne, r1, r2, r3, r4, rg) => if t = none then (if bn (gp_sl w1 w3 w5) = 0 then (po, none, va_up bn (gp_sl w1 w3 w5) w7, va_up shr (gp_sl w1 w3 w5) b8, us, ne, r1, r2, r3, r4, rg) else (po, some st, bn, shr, us, ne, r1, r2, r3, r4, rg)) else (po, t, bn, shr, us, ne, r1, r2, r3, r4, rg)
def gp_sO (q : Nat × Nat × Nat × Option Nat) (st : Nat) (d : gp_D) : Nat × Option Nat × gp_D :=
  match q, d with
  | (w1, w3, po, t), (bn, shr, us, ne, r1, r2, r3, r4, rg) => if t = none then (if ne w1 = 0 then (po, none, bn, shr, us, va_up ne w1 w3, r1, r2, r3, r4, rg) else (po, some st, bn, shr, us, ne, r1, r2, r3, r4, rg)) else (po, t, bn, shr, us, ne, r1, r2, r3, r4, rg)
def gp_se (sg : Nat → Nat) (n pos : Nat) (d : gp_D) : Nat × Option Nat × gp_D :=
  if gp_sg sg n pos = 84 then gp_sT (gp_T sg n (pos + 1)) d
  else if gp_sg sg n pos = 66 then gp_sB (gp_B sg n (pos + 1)) pos d
  else if gp_sg sg n pos = 79 then gp_sO (gp_O sg n (pos + 1)) pos d
  else (pos + 1, some pos, d)
def gp_all (sg : Nat → Nat) (n : Nat) : Nat → Nat → Nat × Option Nat × gp_D → Nat × Nat × Option Nat × gp_D
  | 0, cnt, x => (cnt, x)
  | k + 1, cnt, x => if x.1 < n ∧ x.2.1 = none then gp_all sg n k (cnt + 1) (gp_se sg n x.1 x.2.2) else (cnt, x)
theorem gp_all_stop {sg : Nat → Nat} {n k cnt pos : Nat} {tr : Option Nat} {d : gp_D} (h : k = 0 ∨ ¬ pos < n ∨ tr ≠ none) : gp_all sg n k cnt (pos, tr, d) = (cnt, pos, tr, d) := by
  cases k with
  | zero => rfl
  | succ k =>
    rw [gp_all, if_neg]
    intro q
    rcases h with h | h | h
    · cases h
    · exact h q.1
    · exact h q.2
theorem gp_all_go {sg : Nat → Nat} {n k cnt pos : Nat} {d : gp_D} (h : pos < n) : gp_all sg n (k + 1) cnt (pos, none, d) = gp_all sg n k (cnt + 1) (gp_se sg n pos d) := by
  rw [gp_all, if_pos ⟨h, rfl⟩]
/-- what holds of a draft at every sentence's end -/
def gp_ok (n : Nat) (x : Nat × Option Nat × gp_D) : Prop :=
  match x with
  | (pos, tr, bn, _, us, ne, r1, r2, r3, r4, rg) => pos ≤ n ∧ (∀ t, tr = some t → t ≤ n) ∧ (∀ j, bn j ≤ 60) ∧ (∀ j, ne j ≤ 60) ∧ 9 * rg ≤ pos ∧ (∀ k, k < rg → 1 ≤ r1 k ∧ r1 k ≤ 40 ∧ r2 k ≤ 9999 ∧ r3 k ≤ 9999 ∧ r4 k ≤ 9) ∧ ∀ t, us t = true ↔ ∃ k, k < rg ∧ r1 k = t
theorem gp_T_bd {sg : Nat → Nat} {n pos w1 w3 w5 w7 po : Nat} {t : Option Nat} (h : gp_T sg n pos = (w1, w3, w5, w7, po, t)) (hp : pos ≤ n) : 1 ≤ w1 ∧ w1 ≤ 40 ∧ pos ≤ po ∧ po ≤ n ∧ (t = none → pos + 8 ≤ po) ∧ (∀ z, t = some z → z ≤ n) ∧ w3 ≤ 9999 ∧ w5 ≤ 9999 ∧ w7 ≤ 9 := by
  obtain ⟨⟨a1, a2, a3⟩, ha⟩ : ∃ z, z = gp_rn sg n 1 40 (pos, none) := ⟨_, rfl⟩
  obtain ⟨⟨b2, b3⟩, hb⟩ : ∃ z, z = gp_rs sg n 44 (a2, a3) := ⟨_, rfl⟩
  obtain ⟨⟨c1, c2, c3⟩, hc⟩ : ∃ z, z = gp_rn sg n 0 9999 (b2, b3) := ⟨_, rfl⟩
  obtain ⟨⟨d2, d3⟩, hd⟩ : ∃ z, z = gp_rs sg n 45 (c2, c3) := ⟨_, rfl⟩
  obtain ⟨⟨e1, e2, e3⟩, he⟩ : ∃ z, z = gp_rn sg n c1 9999 (d2, d3) := ⟨_, rfl⟩
  obtain ⟨⟨f2, f3⟩, hf⟩ : ∃ z, z = gp_rs sg n 44 (e2, e3) := ⟨_, rfl⟩
  obtain ⟨⟨g1, g2, g3⟩, hg⟩ : ∃ z, z = gp_rn sg n 0 9 (f2, f3) := ⟨_, rfl⟩
  obtain ⟨⟨i2, i3⟩, hi⟩ : ∃ z, z = gp_rs sg n 59 (g2, g3) := ⟨_, rfl⟩
  rw [gp_T_eq ha hb hc hd he hf hg hi] at h
  cases h
  have A := gp_rn_bd ha hp (by decide) (fun _ q => by cases q)
  have B := gp_rs_bd hb A.2.2.2.1 (by decide) A.2.2.2.2.2
  have C := gp_rn_bd hc B.2.1 (by decide) B.2.2.2
  have E0 := gp_rs_bd hd C.2.2.2.1 (by decide) C.2.2.2.2.2
  have E := gp_rn_bd he E0.2.1 C.2.1 E0.2.2.2
  have F := gp_rs_bd hf E.2.2.2.1 (by decide) E.2.2.2.2.2
  have G := gp_rn_bd hg F.2.1 (by decide) F.2.2.2
  have I := gp_rs_bd hi G.2.2.2.1 (by decide) G.2.2.2.2.2
  refine ⟨A.1, A.2.1, by omega, I.2.1, fun q => ?_, I.2.2.2, C.2.1, E.2.1, G.2.1⟩
  have h1 := I.2.2.1 q
  have h2 := G.2.2.2.2.1 h1.1
  have h3 := F.2.2.1 h2.1
  have h4 := E.2.2.2.2.1 h3.1
  have h5 := E0.2.2.1 h4.1
  have h6 := C.2.2.2.2.1 h5.1
  have h7 := B.2.2.1 h6.1
  have h8 := A.2.2.2.2.1 h7.1
  omega
theorem gp_B_bd {sg : Nat → Nat} {n pos w1 w3 w5 w7 po : Nat} {b8 : Bool} {t : Option Nat} (h : gp_B sg n pos = (w1, w3, w5, w7, b8, po, t)) (hp : pos ≤ n) : 1 ≤ w1 ∧ w1 ≤ 40 ∧ w3 ≤ 3 ∧ w5 ≤ 2 ∧ 1 ≤ w7 ∧ w7 ≤ 60 ∧ pos ≤ po ∧ po ≤ n ∧ ∀ z, t = some z → z ≤ n := by
  obtain ⟨⟨a1, a2, a3⟩, ha⟩ : ∃ z, z = gp_rn sg n 1 40 (pos, none) := ⟨_, rfl⟩
  obtain ⟨⟨b2, b3⟩, hb⟩ : ∃ z, z = gp_rs sg n 44 (a2, a3) := ⟨_, rfl⟩
  obtain ⟨⟨c1, c2, c3⟩, hc⟩ : ∃ z, z = gp_rn sg n 0 3 (b2, b3) := ⟨_, rfl⟩
  obtain ⟨⟨d2, d3⟩, hd⟩ : ∃ z, z = gp_rs sg n 44 (c2, c3) := ⟨_, rfl⟩
  obtain ⟨⟨e1, e2, e3⟩, he⟩ : ∃ z, z = gp_rn sg n 0 2 (d2, d3) := ⟨_, rfl⟩
  obtain ⟨⟨f2, f3⟩, hf⟩ : ∃ z, z = gp_rs sg n 44 (e2, e3) := ⟨_, rfl⟩
  obtain ⟨⟨g1, g2, g3⟩, hg⟩ : ∃ z, z = gp_rn sg n 1 60 (f2, f3) := ⟨_, rfl⟩
  obtain ⟨⟨j1, j2⟩, hj⟩ : ∃ z, z = gp_rp sg n (g2, g3) := ⟨_, rfl⟩
  obtain ⟨⟨i2, i3⟩, hi⟩ : ∃ z, z = gp_rs sg n 59 (j2, g3) := ⟨_, rfl⟩
  rw [gp_B_eq ha hb hc hd he hf hg hj hi] at h
  cases h
  have A := gp_rn_bd ha hp (by decide) (fun _ q => by cases q)
  have B := gp_rs_bd hb A.2.2.2.1 (by decide) A.2.2.2.2.2
  have C := gp_rn_bd hc B.2.1 (by decide) B.2.2.2
  have E0 := gp_rs_bd hd C.2.2.2.1 (by decide) C.2.2.2.2.2
  have E := gp_rn_bd he E0.2.1 (by decide) E0.2.2.2
  have F := gp_rs_bd hf E.2.2.2.1 (by decide) E.2.2.2.2.2
  have G := gp_rn_bd hg F.2.1 (by decide) F.2.2.2
  have J := gp_rp_bd hj G.2.2.2.1
  have I := gp_rs_bd hi J.2 (by decide) G.2.2.2.2.2
  exact ⟨A.1, A.2.1, C.2.1, E.2.1, G.1, G.2.1, by omega, I.2.1, I.2.2.2⟩
theorem gp_O_bd {sg : Nat → Nat} {n pos w1 w3 po : Nat} {t : Option Nat} (h : gp_O sg n pos = (w1, w3, po, t)) (hp : pos ≤ n) : 1 ≤ w1 ∧ w1 ≤ 60 ∧ 1 ≤ w3 ∧ w3 ≤ 60 ∧ pos ≤ po ∧ po ≤ n ∧ ∀ z, t = some z → z ≤ n := by
  obtain ⟨⟨a1, a2, a3⟩, ha⟩ : ∃ z, z = gp_rn sg n 1 60 (pos, none) := ⟨_, rfl⟩
  obtain ⟨⟨b2, b3⟩, hb⟩ : ∃ z, z = gp_rs sg n 44 (a2, a3) := ⟨_, rfl⟩
  obtain ⟨⟨c1, c2, c3⟩, hc⟩ : ∃ z, z = gp_rn sg n 1 60 (b2, b3) := ⟨_, rfl⟩
  obtain ⟨⟨d2, d3⟩, hd⟩ : ∃ z, z = gp_rs sg n 59 (c2, c3) := ⟨_, rfl⟩
  rw [gp_O_eq ha hb hc hd] at h
  cases h
  have A := gp_rn_bd ha hp (by decide) (fun _ q => by cases q)
  have B := gp_rs_bd hb A.2.2.2.1 (by decide) A.2.2.2.2.2
  have C := gp_rn_bd hc B.2.1 (by decide) B.2.2.2
  have E := gp_rs_bd hd C.2.2.2.1 (by decide) C.2.2.2.2.2
  exact ⟨A.1, A.2.1, C.1, C.2.1, by omega, E.2.1, E.2.2.2⟩
theorem gp_up_le {f : Nat → Nat} {k v b : Nat} (h : ∀ j, f j ≤ b) (hv : v ≤ b) : ∀ j, va_up f k v j ≤ b := by
  intro j
  unfold va_up
  split
  · exact hv
  · exact h j
theorem gp_se_ok {sg : Nat → Nat} {n pos : Nat} {d : gp_D} (hp : pos < n) (h : gp_ok n (pos, none, d)) : gp_ok n (gp_se sg n pos d) ∧ pos + 1 ≤ (gp_se sg n pos d).1 := by
  obtain ⟨bn, shr, us, ne, r1, r2, r3, r4, rg⟩ := d
  obtain ⟨h1, h2, h3, h4, h5, h6, h7⟩ := h
  unfold gp_se
  split
  · obtain ⟨⟨w1, w3, w5, w7, po, t⟩, hq⟩ : ∃ z, gp_T sg n (pos + 1) = z := ⟨_, rfl⟩
    have B := gp_T_bd hq hp
    rw [hq]
    by_cases ht : t = none
    · subst ht
      have hB := B.2.2.2.2.1 rfl
      refine ⟨⟨B.2.2.2.1, (fun _ q => by cases q), h3, h4, by omega, fun k hk => ?_, fun z => ?_⟩, by show pos + 1 ≤ po; omega⟩
      · by_cases e : k = rg
        · subst e
          rw [va_up_self, va_up_self, va_up_self, va_up_self]
          exact ⟨B.1, B.2.1, B.2.2.2.2.2.2⟩
        · rw [va_up_ne _ _ e, va_up_ne _ _ e, va_up_ne _ _ e, va_up_ne _ _ e]
          exact h6 k (by omega)
      · by_cases e : z = w1
        · subst e
          rw [va_up_self]
          exact ⟨fun _ => ⟨rg, by omega, va_up_self _ _ _⟩, fun _ => rfl⟩
        · rw [va_up_ne _ _ e, h7 z]
          constructor
          · rintro ⟨k, hk, hk2⟩
            exact ⟨k, by omega, by rw [va_up_ne _ _ (by omega)]; exact hk2⟩
          · rintro ⟨k, hk, hk2⟩
            by_cases e2 : k = rg
            · subst e2
              rw [va_up_self] at hk2
              exact absurd hk2.symm e
            · rw [va_up_ne _ _ e2] at hk2
              exact ⟨k, by omega, hk2⟩
    · simp only [gp_sT, if_neg ht]
      exact ⟨⟨B.2.2.2.1, B.2.2.2.2.2.1, h3, h4, by omega, h6, h7⟩, by omega⟩
  · split
    · obtain ⟨⟨w1, w3, w5, w7, b8, po, t⟩, hq⟩ : ∃ z, gp_B sg n (pos + 1) = z := ⟨_, rfl⟩
      have B := gp_B_bd hq hp
      rw [hq]
      by_cases ht : t = none
      · subst ht
        by_cases hz : bn (gp_sl w1 w3 w5) = 0
        · simp only [gp_sB, if_true, if_pos hz]
          exact ⟨⟨by omega, (fun _ q => by cases q), gp_up_le h3 (by omega), h4, by omega, h6, h7⟩, by omega⟩
        · simp only [gp_sB, if_true, if_neg hz]
          exact ⟨⟨by omega, (fun z q => by cases q; omega), h3, h4, by omega, h6, h7⟩, by omega⟩
      · simp only [gp_sB, if_neg ht]
        exact ⟨⟨by omega, B.2.2.2.2.2.2.2.2, h3, h4, by omega, h6, h7⟩, by omega⟩
    · split
      · obtain ⟨⟨w1, w3, po, t⟩, hq⟩ : ∃ z, gp_O sg n (pos + 1) = z := ⟨_, rfl⟩
        have B := gp_O_bd hq hp
        rw [hq]
        by_cases ht : t = none
        · subst ht
          by_cases hz : ne w1 = 0
          · simp only [gp_sO, if_true, if_pos hz]
            exact ⟨⟨by omega, (fun _ q => by cases q), h3, gp_up_le h4 (by omega), by omega, h6, h7⟩, by omega⟩
          · simp only [gp_sO, if_true, if_neg hz]
            exact ⟨⟨by omega, (fun z q => by cases q; omega), h3, h4, by omega, h6, h7⟩, by omega⟩
        · simp only [gp_sO, if_neg ht]
          exact ⟨⟨by omega, B.2.2.2.2.2.2, h3, h4, by omega, h6, h7⟩, by omega⟩
      · exact ⟨⟨hp, (fun z q => by cases q; omega), h3, h4, by omega, h6, h7⟩, Nat.le_refl _⟩
/-- arrays: what lies within the length counts -/
def gp_fl {α : Type} (f : Nat → α) (v : α) (i : Nat) : Nat → α := fun j => if j < i then v else f j
theorem gp_fl_up {α : Type} (f : Nat → α) (v : α) (i : Nat) : va_up (gp_fl f v i) i v = gp_fl f v (i + 1) := by
  funext j
  unfold va_up gp_fl
  by_cases h : j = i
  · subst h
    simp
  · by_cases h2 : j < i
    · simp [h, h2, Nat.lt_succ_of_lt h2]
    · simp [h, h2, show ¬ j < i + 1 by omega]
theorem gp_fl_0 {α : Type} (f : Nat → α) (v : α) : gp_fl f v 0 = f := by
  funext j
  simp [gp_fl]
theorem ga_setf {D : va_G} {A : Nat → Prop} {ws ws' : va_W} {H : Heap} {a n q : Nat} {c : ClassId} {f g : Nat → Int32} (hP : va_P D vwCl ws H) (hD : va_D A ws) (he : ws[q]? = some (a, .inl (c, n, .inl f))) (hfg : ∀ j, j < n → f j = g j) (hw : ws.set q (a, .inl (c, n, .inl g)) = ws') : va_P D vwCl ws' H ∧ va_D A ws' := by
  subst hw
  refine ⟨hP.set hD he ?_ (fun _ _ => rfl), hD.set he⟩
  have h1 : H[a]? = some (vp_cell c (n, .inl f)) := hP q _ he
  have h2 : vp_cell c (n, .inl f) = vp_cell c (n, .inl g) := by
    show arrV c n (fun j => .int (f j)) = arrV c n (fun j => .int (g j))
    unfold arrV
    congr 1
    apply Array.ext
    · simp
    · intro j h1 h2
      simp only [Array.getElem_ofFn]
      rw [hfg j (by simpa using h2)]
  rw [h2] at h1
  exact h1
/-! questions to the plan -/
abbrev gp_ft (r2 r3 r4 : Nat → Nat) (code kind k : Nat) : Prop := r4 k = kind ∧ r2 k ≤ code ∧ code ≤ r3 k
def gp_isL (r1 r2 r3 r4 : Nat → Nat) (rg code kind q : Nat) : Prop := (q = 0 ∧ ∀ k, k < rg → ¬ gp_ft r2 r3 r4 code kind k) ∨ ∃ k, k < rg ∧ gp_ft r2 r3 r4 code kind k ∧ q = r1 k ∧ ∀ j, j < rg → gp_ft r2 r3 r4 code kind j → r1 k ≤ r1 j
theorem gp_isL_no {r1 r2 r3 r4 : Nat → Nat} {i code kind q : Nat} (h : gp_isL r1 r2 r3 r4 i code kind q) (hf : ¬ gp_ft r2 r3 r4 code kind i) : gp_isL r1 r2 r3 r4 (i + 1) code kind q := by
  rcases h with ⟨h1, h2⟩ | ⟨k, h1, h2, h3, h4⟩
  · exact Or.inl ⟨h1, lt_s h2 hf⟩
  · exact Or.inr ⟨k, by omega, h2, h3, lt_s h4 (fun q => absurd q hf)⟩
theorem gp_isL_up {r1 r2 r3 r4 : Nat → Nat} {i code kind q : Nat} (h : gp_isL r1 r2 r3 r4 i code kind q) (hf : gp_ft r2 r3 r4 code kind i) (hr : ∀ k, k < i + 1 → 1 ≤ r1 k) (hq : q = 0 ∨ r1 i < q) : gp_isL r1 r2 r3 r4 (i + 1) code kind (r1 i) := by
  refine Or.inr ⟨i, Nat.lt_succ_self _, hf, rfl, lt_s (fun j hj hfj => ?_) (fun _ => Nat.le_refl _)⟩
  rcases h with ⟨h1, h2⟩ | ⟨k, h1, h2, h3, h4⟩
  · exact absurd hfj (h2 j hj)
  · have := hr k (by omega)
    have := h4 j hj hfj
    omega
theorem gp_isL_keep {r1 r2 r3 r4 : Nat → Nat} {i code kind q : Nat} (h : gp_isL r1 r2 r3 r4 i code kind q) (hq : ¬ q = 0) (hle : ¬ r1 i < q) : gp_isL r1 r2 r3 r4 (i + 1) code kind q := by
  rcases h with ⟨h1, h2⟩ | ⟨k, h1, h2, h3, h4⟩
  · exact absurd h1 hq
  · exact Or.inr ⟨k, by omega, h2, h3, lt_s h4 (fun _ => by omega)⟩
def gp_isP (bn : Nat → Nat) (sh q : Nat) : Prop := q ≤ 4 ∧ (∀ t p, 1 ≤ t → t ≤ 40 → p < 4 → bn (gp_sl t p sh) ≠ 0 → p < q) ∧ (0 < q → ∃ t, 1 ≤ t ∧ t ≤ 40 ∧ bn (gp_sl t (q - 1) sh) ≠ 0)
def gp_otn (f g : Nat → Nat) (b : Nat) : Nat → Bool
  | 0 => false
  | k + 1 => gp_otn f g b k || decide (f (b + k) ≠ g (b + k))
theorem gp_otn_mono {f g : Nat → Nat} {b k : Nat} (h : gp_otn f g b k = true) : ∀ m, k ≤ m → gp_otn f g b m = true := by
  intro m hm
  induction m with
  | zero =>
    have : k = 0 := by omega
    subst this
    exact h
  | succ m ih =>
    by_cases e : k = m + 1
    · subst e
      exact h
    · rw [gp_otn, ih (by omega)]
      rfl
def gp_cn (f : Nat → Bool) : Nat → Nat
  | 0 => 0
  | k + 1 => gp_cn f k + (if f k = true then 1 else 0)
theorem gp_cn_le (f : Nat → Bool) : ∀ k, gp_cn f k ≤ k
  | 0 => Nat.le_refl _
  | k + 1 => by
    have := gp_cn_le f k
    rw [gp_cn]
    split <;> omega
theorem gp_cn_congr {f g : Nat → Bool} : ∀ k, (∀ j, j < k → f j = g j) → gp_cn f k = gp_cn g k
  | 0, _ => rfl
  | k + 1, h => by rw [gp_cn, gp_cn, gp_cn_congr k (fun j hj => h j (by omega)), h k (by omega)]
def gp_sw (a b v : Nat) : Nat := if v = a then b else if v = b then a else v
def gp_ex (bn : Nat → Nat) (a b i : Nat) : Nat → Nat := fun j => if j < i then gp_sw a b (bn j) else bn j
theorem gp_ex_0 (bn : Nat → Nat) (a b : Nat) : gp_ex bn a b 0 = bn := by
  funext j
  simp [gp_ex]
theorem gp_ex_up (bn : Nat → Nat) (a b i v : Nat) (hv : v = gp_sw a b (bn i)) : va_up (gp_ex bn a b i) i v = gp_ex bn a b (i + 1) := by
  funext j
  unfold va_up gp_ex
  by_cases h : j = i
  · subst h
    simp [hv]
  · by_cases h2 : j < i
    · simp [h, h2, Nat.lt_succ_of_lt h2]
    · simp [h, h2, show ¬ j < i + 1 by omega]
theorem gp_ex_id (bn : Nat → Nat) (a b i : Nat) (hv : gp_sw a b (bn i) = bn i) : gp_ex bn a b i = gp_ex bn a b (i + 1) := by
  rw [← gp_ex_up bn a b i (bn i) hv.symm]
  funext j
  by_cases h : j = i
  · subst h
    simp [va_up, gp_ex]
  · simp [va_up, h]
def gp_it (ne : Nat → Nat) (b : Nat) : Nat → Nat
  | 0 => b
  | k + 1 => ne (gp_it ne b k)
/-! faults: st = (what is told, how many) -/
abbrev gp_F : Type := (Nat → Nat) × Nat
theorem gp_add_2 (x : gp_F) (sh pa t o b : Nat) : (gp_add x sh pa t o b).2 = x.2 + 1 := by
  unfold gp_add
  split <;> rfl
def gp_hl (us : Nat → Bool) (bn : Nat → Nat) (sh pa : Nat) (st : gp_F) : Nat → gp_F
  | 0 => st
  | i + 1 => if us (i + 1) = true ∧ bn (gp_sl (i + 1) pa sh) = 0 then gp_add (gp_hl us bn sh pa st i) sh pa (i + 1) 0 0 else gp_hl us bn sh pa st i
theorem gp_hl_le (us : Nat → Bool) (bn : Nat → Nat) (sh pa : Nat) (st : gp_F) : ∀ i, (gp_hl us bn sh pa st i).2 ≤ st.2 + i
  | 0 => Nat.le_refl _
  | i + 1 => by
    have := gp_hl_le us bn sh pa st i
    rw [gp_hl]
    split
    · rw [gp_add_2]
      omega
    · omega
abbrev gp_dc (us : Nat → Bool) (bn : Nat → Nat) (shr : Nat → Bool) (sh pa a b : Nat) : Prop := a < b ∧ bn (gp_sl a pa sh) ≠ 0 ∧ bn (gp_sl a pa sh) = bn (gp_sl b pa sh) ∧ ¬ (shr (gp_sl a pa sh) = true ∧ shr (gp_sl b pa sh) = true) ∧ us a = true ∧ us b = true
def gp_db (us : Nat → Bool) (bn : Nat → Nat) (shr : Nat → Bool) (sh pa : Nat) (st : gp_F) : Nat → gp_F
  | 0 => st
  | m + 1 => if gp_dc us bn shr sh pa (m / 40 + 1) (m % 40 + 1) then gp_add (gp_db us bn shr sh pa st m) sh pa (m / 40 + 1) (m % 40 + 1) (bn (gp_sl (m / 40 + 1) pa sh)) else gp_db us bn shr sh pa st m
theorem gp_db_le (us : Nat → Bool) (bn : Nat → Nat) (shr : Nat → Bool) (sh pa : Nat) (st : gp_F) : ∀ i, (gp_db us bn shr sh pa st i).2 ≤ st.2 + i
  | 0 => Nat.le_refl _
  | i + 1 => by
    have := gp_db_le us bn shr sh pa st i
    rw [gp_db]
    split
    · rw [gp_add_2]
      omega
    · omega
/-- a stretch of pairs none of which counts -/
theorem gp_db_none {us : Nat → Bool} {bn : Nat → Nat} {shr : Nat → Bool} {sh pa : Nat} {st : gp_F} {m : Nat} : ∀ k, (∀ i, m ≤ i → i < m + k → ¬ gp_dc us bn shr sh pa (i / 40 + 1) (i % 40 + 1)) → gp_db us bn shr sh pa st (m + k) = gp_db us bn shr sh pa st m
  | 0, _ => rfl
  | k + 1, h => by
    rw [show m + (k + 1) = (m + k) + 1 from rfl, gp_db, if_neg (h (m + k) (by omega) (by omega))]
    exact gp_db_none k (fun i h1 h2 => h i h1 (by omega))
theorem gp_db_skip {us : Nat → Bool} {bn : Nat → Nat} {shr : Nat → Bool} {sh pa : Nat} {st : gp_F} {a j : Nat} (h1 : 1 ≤ a) (h2 : a ≤ 40) (hj : j ≤ a) : gp_db us bn shr sh pa st (40 * (a - 1) + j) = gp_db us bn shr sh pa st (40 * (a - 1)) :=
  gp_db_none j (fun i a1 a2 q => by have := q.1; omega)
theorem gp_db_skipA {us : Nat → Bool} {bn : Nat → Nat} {shr : Nat → Bool} {sh pa : Nat} {st : gp_F} {a : Nat} (h1 : 1 ≤ a) (h : us a = false ∨ bn (gp_sl a pa sh) = 0) : gp_db us bn shr sh pa st (40 * a) = gp_db us bn shr sh pa st (40 * (a - 1)) := by
  have e : 40 * a = 40 * (a - 1) + 40 := by omega
  rw [e]
  refine gp_db_none 40 (fun i a1 a2 q => ?_)
  have hi : i / 40 + 1 = a := by omega
  rw [hi] at q
  rcases h with h | h
  · have q2 := q.2.2.2.2.1
    rw [h] at q2
    exact absurd q2 (by decide)
  · exact q.2.1 h
theorem gp_db_step {us : Nat → Bool} {bn : Nat → Nat} {shr : Nat → Bool} {sh pa : Nat} {st : gp_F} {a b : Nat} (h1 : 1 ≤ a) (hb : 1 ≤ b) (hb2 : b ≤ 40) : gp_db us bn shr sh pa st (40 * (a - 1) + (b - 1) + 1) = if gp_dc us bn shr sh pa a b then gp_add (gp_db us bn shr sh pa st (40 * (a - 1) + (b - 1))) sh pa a b (bn (gp_sl a pa sh)) else gp_db us bn shr sh pa st (40 * (a - 1) + (b - 1)) := by
  rw [gp_db, show (40 * (a - 1) + (b - 1)) / 40 + 1 = a by omega, show (40 * (a - 1) + (b - 1)) % 40 + 1 = b by omega]
def gp_ck (us : Nat → Bool) (bn : Nat → Nat) (shr : Nat → Bool) (pq : Nat → Nat) (st : gp_F) : Nat → gp_F
  | 0 => st
  | m + 1 => gp_db us bn shr (m / 4) (m % 4) (if m % 4 < pq (m / 4) then gp_hl us bn (m / 4) (m % 4) (gp_ck us bn shr pq st m) 40 else gp_ck us bn shr pq st m) 1600
theorem gp_ck_le (us : Nat → Bool) (bn : Nat → Nat) (shr : Nat → Bool) (pq : Nat → Nat) (st : gp_F) : ∀ i, (gp_ck us bn shr pq st i).2 ≤ st.2 + 1640 * i
  | 0 => Nat.le_refl _
  | i + 1 => by
    have h0 := gp_ck_le us bn shr pq st i
    rw [gp_ck]
    split
    · have h1 := gp_hl_le us bn (i / 4) (i % 4) (gp_ck us bn shr pq st i) 40
      have h2 := gp_db_le us bn shr (i / 4) (i % 4) (gp_hl us bn (i / 4) (i % 4) (gp_ck us bn shr pq st i) 40) 1600
      exact Nat.le_trans h2 (by omega)
    · have h2 := gp_db_le us bn shr (i / 4) (i % 4) (gp_ck us bn shr pq st i) 1600
      exact Nat.le_trans h2 (by omega)
theorem gp_ck_in {us : Nat → Bool} {bn : Nat → Nat} {shr : Nat → Bool} {pq : Nat → Nat} {st : gp_F} {sh pa : Nat} (hp : pa < 4) (hq : pa < pq sh) : gp_ck us bn shr pq st (4 * sh + pa + 1) = gp_db us bn shr sh pa (gp_hl us bn sh pa (gp_ck us bn shr pq st (4 * sh + pa)) 40) 1600 := by
  rw [gp_ck, show (4 * sh + pa) / 4 = sh by omega, show (4 * sh + pa) % 4 = pa by omega, if_pos hq]
theorem gp_ck_out {us : Nat → Bool} {bn : Nat → Nat} {shr : Nat → Bool} {pq : Nat → Nat} {st : gp_F} {sh pa : Nat} (hp : pa < 4) (hP : gp_isP bn sh (pq sh)) (hq : ¬ pa < pq sh) : gp_ck us bn shr pq st (4 * sh + pa + 1) = gp_ck us bn shr pq st (4 * sh + pa) := by
  rw [gp_ck, show (4 * sh + pa) / 4 = sh by omega, show (4 * sh + pa) % 4 = pa by omega, if_neg hq]
  have h := gp_db_none (us := us) (bn := bn) (shr := shr) (sh := sh) (pa := pa) (st := gp_ck us bn shr pq st (4 * sh + pa)) (m := 0) 1600 (fun i _ hi q => by
    have h1 : i / 40 < 40 := by omega
    exact hq (hP.2.1 (i / 40 + 1) pa (by omega) (by omega) hp q.2.1))
  rw [Nat.zero_add] at h
  rw [h, gp_db]
theorem gp_ck_end {us : Nat → Bool} {bn : Nat → Nat} {shr : Nat → Bool} {pq : Nat → Nat} {st : gp_F} {sh : Nat} (hP : gp_isP bn sh (pq sh)) : ∀ k, pq sh + k ≤ 4 → gp_ck us bn shr pq st (4 * sh + (pq sh + k)) = gp_ck us bn shr pq st (4 * sh + pq sh)
  | 0, _ => rfl
  | k + 1, h => by
    rw [show 4 * sh + (pq sh + (k + 1)) = 4 * sh + (pq sh + k) + 1 by omega, gp_ck_out (by omega) hP (by omega)]
    exact gp_ck_end hP k (by omega)
theorem gp_ck_congr {us : Nat → Bool} {bn : Nat → Nat} {shr : Nat → Bool} {p1 p2 : Nat → Nat} {st : gp_F} : ∀ m, (∀ i, i < m → p1 (i / 4) = p2 (i / 4)) → gp_ck us bn shr p1 st m = gp_ck us bn shr p2 st m
  | 0, _ => rfl
  | m + 1, h => by rw [gp_ck, gp_ck, gp_ck_congr m (fun i hi => h i (by omega)), h m (by omega)]
theorem bI_inj {a b : Bool} (h : bI a = bI b) : a = b := by
  cases a <;> cases b <;> first | rfl | exact absurd h (by decide)
end
section
set_option maxHeartbeats 4000000 in
set_option maxRecDepth 100000 in
theorem gc_SP_isWithin (l : Launch) (D : va_G) (cI cZ cC cG : ClassId) (x lo hi : Int32) : ga_Mr l y_SP_isWithin b_SP_isWithin 3 (some .boolean) 0 D (ga_T cI cZ cC cG) [.int x, .int lo, .int hi] [] (fun r => (r = 1 ∧ (lo ≤ x ∧ x ≤ hi)) ∨ (r = 0 ∧ ¬ (lo ≤ x ∧ x ≤ hi))) := by
  refine ga_enR (by decide) (Nat.le_of_ble_eq_true rfl) ?_
  intro p e s m below meth c ls S hrt hlk hK hP hl
  obtain ⟨hx, hb, hml, hown, hts⟩ := id S
  have hl : lv_has ls 3 [(0, .int x), (1, .int lo), (2, .int hi)] := hl
  refine lv_iload_n hx hb d_SP_isWithin_0 rfl (lv_at hl 0 rfl) ?_
  refine lv_iload_n hx hb d_SP_isWithin_1 rfl (lv_at hl 1 rfl) ?_
  refine lv_icmp_lt (tgt := 14) hx hb d_SP_isWithin_2 (by decide) (fun c2 => ?_) (fun c2 => ?_)
  · refine lv_iconst (v := 0) hx hb d_SP_isWithin_14 (by decide) ?_
    exact ga_rz S hrt hlk (Or.inl rfl) (Or.inr ⟨rfl, fun q => by first | exact absurd q.1 (Int32.not_le.mpr c2) | exact absurd q.2 (Int32.not_le.mpr c7)⟩) d_SP_isWithin_15
  · refine lv_iload_n hx hb d_SP_isWithin_5 rfl (lv_at hl 0 rfl) ?_
    refine lv_iload_n hx hb d_SP_isWithin_6 rfl (lv_at hl 2 rfl) ?_
    refine lv_icmp_gt (tgt := 14) hx hb d_SP_isWithin_7 (by decide) (fun c7 => ?_) (fun c7 => ?_)
    · refine lv_iconst (v := 0) hx hb d_SP_isWithin_14 (by decide) ?_
      exact ga_rz S hrt hlk (Or.inl rfl) (Or.inr ⟨rfl, fun q => by first | exact absurd q.1 (Int32.not_le.mpr c2) | exact absurd q.2 (Int32.not_le.mpr c7)⟩) d_SP_isWithin_15
    · refine lv_iconst (v := 1) hx hb d_SP_isWithin_10 (by decide) ?_
      refine lv_goto (tgt := 15) hx hb d_SP_isWithin_11 (by decide) ?_
      exact ga_rz S hrt hlk (Or.inr rfl) (Or.inl ⟨rfl, Int32.not_lt.mp c2, Int32.not_lt.mp c7⟩) d_SP_isWithin_15
set_option maxHeartbeats 4000000 in
set_option maxRecDepth 100000 in
theorem gc_SP_isTarget (l : Launch) (D : va_G) (cI cZ cC cG : ClassId) (x : Int32) : ga_Mr l y_SP_isTarget b_SP_isTarget 1 (some .boolean) 1 D (ga_T cI cZ cC cG) [.int x] [] (fun r => (r = 1 ∧ (1 ≤ x ∧ x ≤ 40)) ∨ (r = 0 ∧ ¬ (1 ≤ x ∧ x ≤ 40))) := by
  refine ga_enR (by decide) (Nat.le_of_ble_eq_true rfl) ?_
  intro p e s m below meth c ls S hrt hlk hK hP hl
  obtain ⟨hx, hb, hml, hown, hts⟩ := id S
  have hl : lv_has ls 1 [(0, .int x)] := hl
  refine lv_iload_n hx hb d_SP_isTarget_0 rfl (lv_at hl 0 rfl) ?_
  refine lv_iconst (v := 1) hx hb d_SP_isTarget_1 (by decide) ?_
  refine lv_bipush (v := 40) hx hb d_SP_isTarget_2 (by decide) ?_
  refine ga_cs (As := [.int x, .int 1, .int 40]) (rest := []) S hK hP s_SP_73 (gc_SP_isWithin l D cI cZ cC cG x 1 40) [] rfl rfl hl.1 rfl (Nat.le_of_ble_eq_true rfl) ⟨Nat.le_of_ble_eq_true rfl, Nat.le_of_ble_eq_true rfl⟩ ⟨Nat.le_of_ble_eq_true rfl, Nat.le_of_ble_eq_true rfl⟩ d_SP_isTarget_4 (fun r hp4 => ?_)
  rcases hp4 with ⟨rfl, hp4⟩ | ⟨rfl, hp4⟩
  · exact ga_rz S hrt hlk (Or.inr rfl) (Or.inl ⟨rfl, hp4⟩) d_SP_isTarget_7
  · exact ga_rz S hrt hlk (Or.inl rfl) (Or.inr ⟨rfl, hp4⟩) d_SP_isTarget_7
set_option maxHeartbeats 4000000 in
set_option maxRecDepth 100000 in
theorem gc_SP_isBin (l : Launch) (D : va_G) (cI cZ cC cG : ClassId) (x : Int32) : ga_Mr l y_SP_isBin b_SP_isBin 1 (some .boolean) 1 D (ga_T cI cZ cC cG) [.int x] [] (fun r => (r = 1 ∧ (1 ≤ x ∧ x ≤ 60)) ∨ (r = 0 ∧ ¬ (1 ≤ x ∧ x ≤ 60))) := by
  refine ga_enR (by decide) (Nat.le_of_ble_eq_true rfl) ?_
  intro p e s m below meth c ls S hrt hlk hK hP hl
  obtain ⟨hx, hb, hml, hown, hts⟩ := id S
  have hl : lv_has ls 1 [(0, .int x)] := hl
  refine lv_iload_n hx hb d_SP_isBin_0 rfl (lv_at hl 0 rfl) ?_
  refine lv_iconst (v := 1) hx hb d_SP_isBin_1 (by decide) ?_
  refine lv_bipush (v := 60) hx hb d_SP_isBin_2 (by decide) ?_
  refine ga_cs (As := [.int x, .int 1, .int 60]) (rest := []) S hK hP s_SP_73 (gc_SP_isWithin l D cI cZ cC cG x 1 60) [] rfl rfl hl.1 rfl (Nat.le_of_ble_eq_true rfl) ⟨Nat.le_of_ble_eq_true rfl, Nat.le_of_ble_eq_true rfl⟩ ⟨Nat.le_of_ble_eq_true rfl, Nat.le_of_ble_eq_true rfl⟩ d_SP_isBin_4 (fun r hp4 => ?_)
  rcases hp4 with ⟨rfl, hp4⟩ | ⟨rfl, hp4⟩
  · exact ga_rz S hrt hlk (Or.inr rfl) (Or.inl ⟨rfl, hp4⟩) d_SP_isBin_7
  · exact ga_rz S hrt hlk (Or.inl rfl) (Or.inr ⟨rfl, hp4⟩) d_SP_isBin_7
set_option maxHeartbeats 4000000 in
set_option maxRecDepth 100000 in
theorem gc_SP_slot (l : Launch) (D : va_G) (cI cZ cC cG : ClassId) (t pa sh : Nat) (ht : 1 ≤ t) : ga_Mr l y_SP_slot b_SP_slot 3 (some .int) 0 D (ga_T cI cZ cC cG) [.int (nI t), .int (nI pa), .int (nI sh)] [] (fun r => r = nI (gp_sl t pa sh)) := by
  refine ga_enR (by decide) (Nat.le_of_ble_eq_true rfl) ?_
  intro p e s m below meth c ls S hrt hlk hK hP hl
  obtain ⟨hx, hb, hml, hown, hts⟩ := id S
  have hl : lv_has ls 3 [(0, .int (nI t)), (1, .int (nI pa)), (2, .int (nI sh))] := hl
  refine lv_iload_n hx hb d_SP_slot_0 rfl (lv_at hl 0 rfl) ?_
  refine lv_iconst (v := 1) hx hb d_SP_slot_1 (by decide) ?_
  refine lv_isub hx hb d_SP_slot_2 ?_
  refine ga_top (nI (t - 1)) (pk_sub (a := t) (b := 1) (by omega)) ?_
  refine lv_iconst (v := 3) hx hb d_SP_slot_3 (by decide) ?_
  refine lv_imul hx hb d_SP_slot_4 ?_
  refine ga_top (nI ((t - 1) * 3)) (pk_mul (t - 1) 3) ?_
  refine lv_iload_n hx hb d_SP_slot_5 rfl (lv_at hl 2 rfl) ?_
  refine lv_iadd hx hb d_SP_slot_6 ?_
  refine ga_top (nI (((t - 1) * 3) + sh)) (nI_add ((t - 1) * 3) sh) ?_
  refine lv_iconst (v := 4) hx hb d_SP_slot_7 (by decide) ?_
  refine lv_imul hx hb d_SP_slot_8 ?_
  refine ga_top (nI ((((t - 1) * 3) + sh) * 4)) (pk_mul (((t - 1) * 3) + sh) 4) ?_
  refine lv_iload_n hx hb d_SP_slot_9 rfl (lv_at hl 1 rfl) ?_
  refine lv_iadd hx hb d_SP_slot_10 ?_
  refine ga_top (nI (((((t - 1) * 3) + sh) * 4) + pa)) (nI_add ((((t - 1) * 3) + sh) * 4) pa) ?_
  exact ga_ri S hrt hlk rfl d_SP_slot_11
set_option maxHeartbeats 4000000 in
set_option maxRecDepth 100000 in
theorem gc_Re_isFigure (l : Launch) (D : va_G) (cI cZ cC cG : ClassId) (x : Nat) (hx31 : x < 2 ^ 31) : ga_Mr l y_Re_isFigure b_Re_isFigure 1 (some .boolean) 1 D (ga_T cI cZ cC cG) [.int (nI x)] [] (fun r => (r = 1 ∧ (48 ≤ x ∧ x ≤ 57)) ∨ (r = 0 ∧ ¬ (48 ≤ x ∧ x ≤ 57))) := by
  refine ga_enR (by decide) (Nat.le_of_ble_eq_true rfl) ?_
  intro p e s m below meth c ls S hrt hlk hK hP hl
  obtain ⟨hx, hb, hml, hown, hts⟩ := id S
  have hl : lv_has ls 1 [(0, .int (nI x))] := hl
  refine lv_iload_n hx hb d_Re_isFigure_0 rfl (lv_at hl 0 rfl) ?_
  refine lv_bipush (v := 48) hx hb d_Re_isFigure_1 (by decide) ?_
  refine lv_bipush (v := 57) hx hb d_Re_isFigure_3 (by decide) ?_
  refine ga_cs (As := [.int (nI x), .int 48, .int 57]) (rest := []) S hK hP s_Re_90 (gc_SP_isWithin l D cI cZ cC cG (nI x) 48 57) [] rfl rfl hl.1 rfl (Nat.le_of_ble_eq_true rfl) ⟨Nat.le_of_ble_eq_true rfl, Nat.le_of_ble_eq_true rfl⟩ ⟨Nat.le_of_ble_eq_true rfl, Nat.le_of_ble_eq_true rfl⟩ d_Re_isFigure_5 (fun r hp5 => ?_)
  rcases hp5 with ⟨rfl, hp5⟩ | ⟨rfl, hp5⟩
  · have hp5 : 48 ≤ x ∧ x ≤ 57 := ⟨(nI_leI (a := 48) (b := x) (by omega) (by omega)).mp hp5.1, (nI_leI (a := x) (b := 57) (by omega) (by omega)).mp hp5.2⟩
    exact ga_rz S hrt hlk (Or.inr rfl) (Or.inl ⟨rfl, hp5⟩) d_Re_isFigure_8
  · have hp5 : ¬ (48 ≤ x ∧ x ≤ 57) := fun q => hp5 ⟨(nI_leI (a := 48) (b := x) (by omega) (by omega)).mpr q.1, (nI_leI (a := x) (b := 57) (by omega) (by omega)).mpr q.2⟩
    exact ga_rz S hrt hlk (Or.inl rfl) (Or.inr ⟨rfl, hp5⟩) d_Re_isFigure_8
end
section
set_option maxHeartbeats 4000000 in
set_option maxRecDepth 100000 in
theorem gc_Te_signAt (l : Launch) (D : va_G) (cI cZ cC cG : ClassId) (te ta n i : Nat) (sg : Nat → Nat) (hn : n ≤ 600) (hi : i < 2 ^ 31) : ga_Mr l y_Te_signAt b_Te_signAt 2 (some .int) 0 D (ga_T cI cZ cC cG) [.ref te, .int (nI i)] [(te, .inr (4, [.ref ta, .int (nI n)])), (ta, .inl (cC, 600, .inl (nA sg)))] (fun r => r = nI (gp_sg sg n i)) := by
  refine ga_enR (by decide) (Nat.le_of_ble_eq_true rfl) ?_
  intro p e s m below meth c ls S hrt hlk hK hP hl
  obtain ⟨hx, hb, hml, hown, hts⟩ := id S
  have hl : lv_has ls 2 [(0, .ref te), (1, .int (nI i))] := hl
  refine lv_iload_n hx hb d_Te_signAt_0 rfl (lv_at hl 1 rfl) ?_
  refine lv_if_lt (tgt := 21) hx hb d_Te_signAt_1 (by decide) (fun c1 => ?_) (fun c1 => ?_)
  · exact absurd c1 (nI_pos hi)
  · have c1 : ¬ (i < 0) := fun q => c1 ((nI_ltI (a := i) (b := 0) (by omega) (by omega)).mpr q)
    refine lv_iload_n hx hb d_Te_signAt_4 rfl (lv_at hl 1 rfl) ?_
    refine lv_aload_n hx hb d_Te_signAt_5 rfl (lv_at hl 0 rfl) ?_
    refine ga_get S hK hP 0 rfl f_Te_19 rfl d_Te_signAt_6 ?_
    refine lv_icmp_ge (tgt := 21) hx hb d_Te_signAt_9 (by decide) (fun c9 => ?_) (fun c9 => ?_)
    · have c9 : n ≤ i := (nI_leI (a := n) (b := i) (by omega) (by omega)).mp c9
      refine lv_iconst (v := 0) hx hb d_Te_signAt_21 (by decide) ?_
      exact ga_ri S hrt hlk (by rw [gp_sg, if_neg (by omega)]; rfl) d_Te_signAt_22
    · have c9 : ¬ (n ≤ i) := fun q => c9 ((nI_leI (a := n) (b := i) (by omega) (by omega)).mpr q)
      refine lv_aload_n hx hb d_Te_signAt_12 rfl (lv_at hl 0 rfl) ?_
      refine ga_get S hK hP 0 rfl f_Te_9 rfl d_Te_signAt_13 ?_
      refine lv_iload_n hx hb d_Te_signAt_16 rfl (lv_at hl 1 rfl) ?_
      refine ga_cld S hK hP 1 2 rfl rfl i (by omega) (by decide) d_Te_signAt_17 ?_
      refine lv_goto (tgt := 22) hx hb d_Te_signAt_18 (by decide) ?_
      exact ga_ri S hrt hlk (by rw [gp_sg, if_pos (by omega)]) d_Te_signAt_22
set_option maxHeartbeats 4000000 in
set_option maxRecDepth 100000 in
theorem gc_Te_put (l : Launch) (D : va_G) (cI cZ cC cG : ClassId) (te ta n : Nat) (sg : Nat → Nat) (ch : Int32) (hn : n ≤ 600) : ga_Mv l y_Te_put b_Te_put 2 1 0 0 D (ga_T cI cZ cC cG) [.ref te, .int ch] [(te, .inr (4, [.ref ta, .int (nI n)])), (ta, .inl (cC, 600, .inl (nA sg)))] (fun (_ : Unit) => [(te, .inr (4, [.ref ta, .int (nI ((gp_put ch (sg, n)).2))])), (ta, .inl (cC, 600, .inl (nA ((gp_put ch (sg, n)).1))))]) (fun _ => True) := by
  refine ga_enV (by decide) (Nat.le_of_ble_eq_true rfl) ?_
  intro p e s m below meth c ls A S hrt hlk hnm hK hP hD hA hl
  have hS : va_S A s.heap s.heap [] := va_S.rf
  obtain ⟨hx, hb, hml, hown, hts⟩ := id S
  have hl : lv_has ls 2 [(0, .ref te), (1, .int ch)] := hl
  refine lv_iload_n hx hb d_Te_put_0 rfl (lv_at hl 1 rfl) ?_
  refine lv_bipush (v := 32) hx hb d_Te_put_1 (by decide) ?_
  refine lv_bipush (v := 126) hx hb d_Te_put_3 (by decide) ?_
  refine ga_cs (As := [.int ch, .int 32, .int 126]) (rest := []) S hK hP s_Te_13 (gc_SP_isWithin l D cI cZ cC cG ch 32 126) [] rfl rfl hl.1 rfl (Nat.le_of_ble_eq_true rfl) ⟨Nat.le_of_ble_eq_true rfl, Nat.le_of_ble_eq_true rfl⟩ ⟨Nat.le_of_ble_eq_true rfl, Nat.le_of_ble_eq_true rfl⟩ d_Te_put_5 (fun r hp5 => ?_)
  rcases hp5 with ⟨rfl, hp5⟩ | ⟨rfl, hp5⟩
  · obtain ⟨k, hk, rfl⟩ := nI_of2 (M := 126) (n := 126) rfl (fun q => absurd (Int32.lt_of_le_of_lt hp5.1 q) (by decide)) hp5.2
    refine lv_if_eq (tgt := 42) hx hb d_Te_put_8 (by decide) (fun c8 => ?_) (fun c8 => ?_)
    · exact absurd c8 (by decide)
    · refine lv_aload_n hx hb d_Te_put_11 rfl (lv_at hl 0 rfl) ?_
      refine ga_get S hK hP 0 rfl f_Te_19 rfl d_Te_put_12 ?_
      refine lv_sipush (v := 600) hx hb d_Te_put_15 (by decide) ?_
      refine lv_icmp_ge (tgt := 42) hx hb d_Te_put_18 (by decide) (fun c18 => ?_) (fun c18 => ?_)
      · have c18 : 600 ≤ n := (nI_leI (a := 600) (b := n) (by omega) (by omega)).mp c18
        have he : gp_put (nI k) (sg, n) = (sg, n) := by rw [gp_put, if_neg (fun q => absurd q.2 (by simp only; omega))]
        exact ga_wv () S hrt hlk (by rw [he]; exact hP) (by rw [he]; exact hD) hS trivial d_Te_put_42
      · have c18 : ¬ (600 ≤ n) := fun q => c18 ((nI_leI (a := 600) (b := n) (by omega) (by omega)).mpr q)
        have he : gp_put (nI k) (sg, n) = (va_up sg n k, n + 1) := by rw [gp_put, if_pos ⟨hp5, by simp only; omega⟩, nI_clamp (by omega)]
        refine lv_aload_n hx hb d_Te_put_21 rfl (lv_at hl 0 rfl) ?_
        refine ga_get S hK hP 0 rfl f_Te_9 rfl d_Te_put_22 ?_
        refine lv_aload_n hx hb d_Te_put_25 rfl (lv_at hl 0 rfl) ?_
        refine ga_get S hK hP 0 rfl f_Te_19 rfl d_Te_put_26 ?_
        refine lv_iload_n hx hb d_Te_put_29 rfl (lv_at hl 1 rfl) ?_
        refine lv_i2c hx hb d_Te_put_30 rfl ?_
        refine ga_top (nI k) (ga_c16 (q := k) (by omega)) ?_
        refine ga_cst (ws' := [(te, .inr (4, [.ref ta, .int (nI n)])), (ta, .inl (cC, 600, .inl (nA (va_up sg n k))))]) S hK hP hD hS 1 2 rfl rfl n k (by omega) (by decide) (by omega) rfl d_Te_put_31 (fun H locs hP hD hS => ?_)
        refine lv_aload_n hx hb d_Te_put_32 rfl (lv_at hl 0 rfl) ?_
        refine lv_dup hx hb d_Te_put_33 rfl ?_
        refine ga_get S hK hP 0 rfl f_Te_19 rfl d_Te_put_34 ?_
        refine lv_iconst (v := 1) hx hb d_Te_put_37 (by decide) ?_
        refine lv_iadd hx hb d_Te_put_38 ?_
        refine ga_top (nI (n + 1)) (nI_add n 1) ?_
        refine ga_put (ws' := [(te, .inr (4, [.ref ta, .int (nI (n + 1))])), (ta, .inl (cC, 600, .inl (nA (va_up sg n k))))]) S hK hP hD hS 0 rfl p_Te_19 rfl rfl (Nat.le_of_ble_eq_true rfl) rfl d_Te_put_39 (fun H locs hP hD hS => ?_)
        exact ga_wv () S hrt hlk (by rw [he]; exact hP) (by rw [he]; exact hD) hS trivial d_Te_put_42
  · have he : gp_put ch (sg, n) = (sg, n) := by rw [gp_put, if_neg (fun q => hp5 q.1)]
    refine lv_if_eq (tgt := 42) hx hb d_Te_put_8 (by decide) (fun c8 => ?_) (fun c8 => ?_)
    · exact ga_wv () S hrt hlk (by rw [he]; exact hP) (by rw [he]; exact hD) hS trivial d_Te_put_42
    · exact absurd c8 (by decide)
end
section
set_option maxHeartbeats 4000000 in
set_option maxRecDepth 100000 in
theorem gc_Pl_addBin (l : Launch) (D : va_G) (cI cZ cC cG : ClassId) (pl q1 q2 q3 q4 q5 q6 q7 q8 q9 : Nat) (rg sl v : Nat) (bn : Nat → Nat) (shr : Nat → Bool) (sb : Bool) (hsl : sl < 480) (hbn : ∀ j, bn j < 2 ^ 31) : ga_Mi l y_Pl_addBin b_Pl_addBin 4 (some .boolean) 0 0 0 D (ga_T cI cZ cC cG) [.ref pl, .int (nI sl), .int (nI v), .int (bI sb)] [(pl, .inr (1, [.ref q1, .ref q2, .ref q3, .ref q4, .ref q5, .ref q6, .ref q7, .ref q8, .ref q9, .int (nI rg)])), (q1, .inl (cI, 480, .inl (nA bn))), (q2, .inl (cZ, 480, .inl (zA shr)))] (fun (x : (Nat → Nat) × (Nat → Bool)) => [(pl, .inr (1, [.ref q1, .ref q2, .ref q3, .ref q4, .ref q5, .ref q6, .ref q7, .ref q8, .ref q9, .int (nI rg)])), (q1, .inl (cI, 480, .inl (nA x.1))), (q2, .inl (cZ, 480, .inl (zA x.2)))]) (fun r x => (r = 1 ∧ bn sl = 0 ∧ x = (va_up bn sl v, va_up shr sl sb)) ∨ (r = 0 ∧ bn sl ≠ 0 ∧ x = (bn, shr))) := by
  refine ga_enI (by decide) (Nat.le_of_ble_eq_true rfl) ?_
  intro p e s m below meth c ls A S hrt hlk hK hP hD hA hl
  have hS : va_S A s.heap s.heap [] := va_S.rf
  obtain ⟨hx, hb, hml, hown, hts⟩ := id S
  have hl : lv_has ls 4 [(0, .ref pl), (1, .int (nI sl)), (2, .int (nI v)), (3, .int (bI sb))] := hl
  refine lv_aload_n hx hb d_Pl_addBin_0 rfl (lv_at hl 0 rfl) ?_
  refine ga_get S hK hP 0 rfl f_Pl_11 rfl d_Pl_addBin_1 ?_
  refine lv_iload_n hx hb d_Pl_addBin_4 rfl (lv_at hl 1 rfl) ?_
  refine ga_ild S hK hP 1 0 rfl rfl sl (by omega) (by decide) d_Pl_addBin_5 ?_
  have hb1 := hbn sl
  refine lv_if_eq (tgt := 11) hx hb d_Pl_addBin_6 (by decide) (fun c6 => ?_) (fun c6 => ?_)
  · have c6 : (bn sl) = 0 := (nI_eq (a := (bn sl)) (b := 0) (by omega) (by omega)).mp c6
    refine lv_aload_n hx hb d_Pl_addBin_11 rfl (lv_at hl 0 rfl) ?_
    refine ga_get S hK hP 0 rfl f_Pl_11 rfl d_Pl_addBin_12 ?_
    refine lv_iload_n hx hb d_Pl_addBin_15 rfl (lv_at hl 1 rfl) ?_
    refine lv_iload_n hx hb d_Pl_addBin_16 rfl (lv_at hl 2 rfl) ?_
    refine ga_ist (ws' := [(pl, .inr (1, [.ref q1, .ref q2, .ref q3, .ref q4, .ref q5, .ref q6, .ref q7, .ref q8, .ref q9, .int (nI rg)])), (q1, .inl (cI, 480, .inl (nA (va_up bn sl v)))), (q2, .inl (cZ, 480, .inl (zA shr)))]) S hK hP hD hS 1 0 rfl rfl sl v (by omega) (by decide) rfl d_Pl_addBin_17 (fun H locs hP hD hS => ?_)
    refine lv_aload_n hx hb d_Pl_addBin_18 rfl (lv_at hl 0 rfl) ?_
    refine ga_get S hK hP 0 rfl f_Pl_17 rfl d_Pl_addBin_19 ?_
    refine lv_iload_n hx hb d_Pl_addBin_22 rfl (lv_at hl 1 rfl) ?_
    refine lv_iload_n hx hb d_Pl_addBin_23 rfl (lv_at hl 3 rfl) ?_
    refine ga_zst (ws' := [(pl, .inr (1, [.ref q1, .ref q2, .ref q3, .ref q4, .ref q5, .ref q6, .ref q7, .ref q8, .ref q9, .int (nI rg)])), (q1, .inl (cI, 480, .inl (nA (va_up bn sl v)))), (q2, .inl (cZ, 480, .inl (zA (va_up shr sl sb))))]) S hK hP hD hS 2 1 rfl rfl sl sb (by omega) (by decide) rfl d_Pl_addBin_24 (fun H locs hP hD hS => ?_)
    refine lv_iconst (v := 1) hx hb d_Pl_addBin_25 (by decide) ?_
    exact ga_wz (va_up bn sl v, va_up shr sl sb) S hrt hlk (Or.inr rfl) hP hD hS (Or.inl ⟨rfl, c6, rfl⟩) d_Pl_addBin_26
  · have c6 : ¬ ((bn sl) = 0) := fun q => c6 ((nI_eq (a := (bn sl)) (b := 0) (by omega) (by omega)).mpr q)
    refine lv_iconst (v := 0) hx hb d_Pl_addBin_9 (by decide) ?_
    exact ga_wz (bn, shr) S hrt hlk (Or.inl rfl) hP hD hS (Or.inr ⟨rfl, c6, rfl⟩) d_Pl_addBin_10
set_option maxHeartbeats 4000000 in
set_option maxRecDepth 100000 in
theorem gc_Pl_addGoingOn (l : Launch) (D : va_G) (cI cZ cC cG : ClassId) (pl q1 q2 q3 q4 q5 q6 q7 q8 q9 : Nat) (rg bi v : Nat) (ne : Nat → Nat) (hbi : bi ≤ 60) (hne : ∀ j, ne j < 2 ^ 31) : ga_Mi l y_Pl_addGoingOn b_Pl_addGoingOn 3 (some .boolean) 0 0 0 D (ga_T cI cZ cC cG) [.ref pl, .int (nI bi), .int (nI v)] [(pl, .inr (1, [.ref q1, .ref q2, .ref q3, .ref q4, .ref q5, .ref q6, .ref q7, .ref q8, .ref q9, .int (nI rg)])), (q5, .inl (cI, 61, .inl (nA ne)))] (fun (x : Nat → Nat) => [(pl, .inr (1, [.ref q1, .ref q2, .ref q3, .ref q4, .ref q5, .ref q6, .ref q7, .ref q8, .ref q9, .int (nI rg)])), (q5, .inl (cI, 61, .inl (nA x)))]) (fun r x => (r = 1 ∧ ne bi = 0 ∧ x = va_up ne bi v) ∨ (r = 0 ∧ ne bi ≠ 0 ∧ x = ne)) := by
  refine ga_enI (by decide) (Nat.le_of_ble_eq_true rfl) ?_
  intro p e s m below meth c ls A S hrt hlk hK hP hD hA hl
  have hS : va_S A s.heap s.heap [] := va_S.rf
  obtain ⟨hx, hb, hml, hown, hts⟩ := id S
  have hl : lv_has ls 3 [(0, .ref pl), (1, .int (nI bi)), (2, .int (nI v))] := hl
  refine lv_aload_n hx hb d_Pl_addGoingOn_0 rfl (lv_at hl 0 rfl) ?_
  refine ga_get S hK hP 0 rfl f_Pl_27 rfl d_Pl_addGoingOn_1 ?_
  refine lv_iload_n hx hb d_Pl_addGoingOn_4 rfl (lv_at hl 1 rfl) ?_
  refine ga_ild S hK hP 1 0 rfl rfl bi (by omega) (by decide) d_Pl_addGoingOn_5 ?_
  have hb1 := hne bi
  refine lv_if_eq (tgt := 11) hx hb d_Pl_addGoingOn_6 (by decide) (fun c6 => ?_) (fun c6 => ?_)
  · have c6 : (ne bi) = 0 := (nI_eq (a := (ne bi)) (b := 0) (by omega) (by omega)).mp c6
    refine lv_aload_n hx hb d_Pl_addGoingOn_11 rfl (lv_at hl 0 rfl) ?_
    refine ga_get S hK hP 0 rfl f_Pl_27 rfl d_Pl_addGoingOn_12 ?_
    refine lv_iload_n hx hb d_Pl_addGoingOn_15 rfl (lv_at hl 1 rfl) ?_
    refine lv_iload_n hx hb d_Pl_addGoingOn_16 rfl (lv_at hl 2 rfl) ?_
    refine ga_ist (ws' := [(pl, .inr (1, [.ref q1, .ref q2, .ref q3, .ref q4, .ref q5, .ref q6, .ref q7, .ref q8, .ref q9, .int (nI rg)])), (q5, .inl (cI, 61, .inl (nA (va_up ne bi v))))]) S hK hP hD hS 1 0 rfl rfl bi v (by omega) (by decide) rfl d_Pl_addGoingOn_17 (fun H locs hP hD hS => ?_)
    refine lv_iconst (v := 1) hx hb d_Pl_addGoingOn_18 (by decide) ?_
    exact ga_wz (va_up ne bi v) S hrt hlk (Or.inr rfl) hP hD hS (Or.inl ⟨rfl, c6, rfl⟩) d_Pl_addGoingOn_19
  · have c6 : ¬ ((ne bi) = 0) := fun q => c6 ((nI_eq (a := (ne bi)) (b := 0) (by omega) (by omega)).mpr q)
    refine lv_iconst (v := 0) hx hb d_Pl_addGoingOn_9 (by decide) ?_
    exact ga_wz ne S hrt hlk (Or.inl rfl) hP hD hS (Or.inr ⟨rfl, c6, rfl⟩) d_Pl_addGoingOn_10
set_option maxHeartbeats 4000000 in
set_option maxRecDepth 100000 in
theorem gc_Pl_addRange (l : Launch) (D : va_G) (cI cZ cC cG : ClassId) (pl q1 q2 q3 q4 q5 q6 q7 q8 q9 : Nat) (rg t f u kd : Nat) (us : Nat → Bool) (r1 r2 r3 r4 : Nat → Nat) (hrg : rg < 66) (ht : t ≤ 40) : ga_Mv l y_Pl_addRange b_Pl_addRange 5 0 0 0 D (ga_T cI cZ cC cG) [.ref pl, .int (nI t), .int (nI f), .int (nI u), .int (nI kd)] [(pl, .inr (1, [.ref q1, .ref q2, .ref q3, .ref q4, .ref q5, .ref q6, .ref q7, .ref q8, .ref q9, .int (nI rg)])), (q3, .inl (cZ, 41, .inl (zA us))), (q6, .inl (cI, 66, .inl (nA r1))), (q7, .inl (cI, 66, .inl (nA r2))), (q8, .inl (cI, 66, .inl (nA r3))), (q9, .inl (cI, 66, .inl (nA r4)))] (fun (_ : Unit) => [(pl, .inr (1, [.ref q1, .ref q2, .ref q3, .ref q4, .ref q5, .ref q6, .ref q7, .ref q8, .ref q9, .int (nI (rg + 1))])), (q3, .inl (cZ, 41, .inl (zA (va_up us t true)))), (q6, .inl (cI, 66, .inl (nA (va_up r1 rg t)))), (q7, .inl (cI, 66, .inl (nA (va_up r2 rg f)))), (q8, .inl (cI, 66, .inl (nA (va_up r3 rg u)))), (q9, .inl (cI, 66, .inl (nA (va_up r4 rg kd))))]) (fun _ => True) := by
  refine ga_enV (by decide) (Nat.le_of_ble_eq_true rfl) ?_
  intro p e s m below meth c ls A S hrt hlk hnm hK hP hD hA hl
  have hS : va_S A s.heap s.heap [] := va_S.rf
  obtain ⟨hx, hb, hml, hown, hts⟩ := id S
  have hl : lv_has ls 5 [(0, .ref pl), (1, .int (nI t)), (2, .int (nI f)), (3, .int (nI u)), (4, .int (nI kd))] := hl
  refine lv_aload_n hx hb d_Pl_addRange_0 rfl (lv_at hl 0 rfl) ?_
  refine ga_get S hK hP 0 rfl f_Pl_48 rfl d_Pl_addRange_1 ?_
  refine lv_bipush (v := 66) hx hb d_Pl_addRange_4 (by decide) ?_
  refine lv_icmp_lt (tgt := 10) hx hb d_Pl_addRange_6 (by decide) (fun c6 => ?_) (fun c6 => ?_)
  · have c6 : rg < 66 := (nI_ltI (a := rg) (b := 66) (by omega) (by omega)).mp c6
    refine lv_aload_n hx hb d_Pl_addRange_10 rfl (lv_at hl 0 rfl) ?_
    refine ga_get S hK hP 0 rfl f_Pl_30 rfl d_Pl_addRange_11 ?_
    refine lv_aload_n hx hb d_Pl_addRange_14 rfl (lv_at hl 0 rfl) ?_
    refine ga_get S hK hP 0 rfl f_Pl_48 rfl d_Pl_addRange_15 ?_
    refine lv_iload_n hx hb d_Pl_addRange_18 rfl (lv_at hl 1 rfl) ?_
    refine ga_ist (ws' := [(pl, .inr (1, [.ref q1, .ref q2, .ref q3, .ref q4, .ref q5, .ref q6, .ref q7, .ref q8, .ref q9, .int (nI rg)])), (q3, .inl (cZ, 41, .inl (zA us))), (q6, .inl (cI, 66, .inl (nA (va_up r1 rg t)))), (q7, .inl (cI, 66, .inl (nA r2))), (q8, .inl (cI, 66, .inl (nA r3))), (q9, .inl (cI, 66, .inl (nA r4)))]) S hK hP hD hS 2 0 rfl rfl rg t (by omega) (by decide) rfl d_Pl_addRange_19 (fun H locs hP hD hS => ?_)
    refine lv_aload_n hx hb d_Pl_addRange_20 rfl (lv_at hl 0 rfl) ?_
    refine ga_get S hK hP 0 rfl f_Pl_33 rfl d_Pl_addRange_21 ?_
    refine lv_aload_n hx hb d_Pl_addRange_24 rfl (lv_at hl 0 rfl) ?_
    refine ga_get S hK hP 0 rfl f_Pl_48 rfl d_Pl_addRange_25 ?_
    refine lv_iload_n hx hb d_Pl_addRange_28 rfl (lv_at hl 2 rfl) ?_
    refine ga_ist (ws' := [(pl, .inr (1, [.ref q1, .ref q2, .ref q3, .ref q4, .ref q5, .ref q6, .ref q7, .ref q8, .ref q9, .int (nI rg)])), (q3, .inl (cZ, 41, .inl (zA us))), (q6, .inl (cI, 66, .inl (nA (va_up r1 rg t)))), (q7, .inl (cI, 66, .inl (nA (va_up r2 rg f)))), (q8, .inl (cI, 66, .inl (nA r3))), (q9, .inl (cI, 66, .inl (nA r4)))]) S hK hP hD hS 3 0 rfl rfl rg f (by omega) (by decide) rfl d_Pl_addRange_29 (fun H locs hP hD hS => ?_)
    refine lv_aload_n hx hb d_Pl_addRange_30 rfl (lv_at hl 0 rfl) ?_
    refine ga_get S hK hP 0 rfl f_Pl_36 rfl d_Pl_addRange_31 ?_
    refine lv_aload_n hx hb d_Pl_addRange_34 rfl (lv_at hl 0 rfl) ?_
    refine ga_get S hK hP 0 rfl f_Pl_48 rfl d_Pl_addRange_35 ?_
    refine lv_iload_n hx hb d_Pl_addRange_38 rfl (lv_at hl 3 rfl) ?_
    refine ga_ist (ws' := [(pl, .inr (1, [.ref q1, .ref q2, .ref q3, .ref q4, .ref q5, .ref q6, .ref q7, .ref q8, .ref q9, .int (nI rg)])), (q3, .inl (cZ, 41, .inl (zA us))), (q6, .inl (cI, 66, .inl (nA (va_up r1 rg t)))), (q7, .inl (cI, 66, .inl (nA (va_up r2 rg f)))), (q8, .inl (cI, 66, .inl (nA (va_up r3 rg u)))), (q9, .inl (cI, 66, .inl (nA r4)))]) S hK hP hD hS 4 0 rfl rfl rg u (by omega) (by decide) rfl d_Pl_addRange_39 (fun H locs hP hD hS => ?_)
    refine lv_aload_n hx hb d_Pl_addRange_40 rfl (lv_at hl 0 rfl) ?_
    refine ga_get S hK hP 0 rfl f_Pl_39 rfl d_Pl_addRange_41 ?_
    refine lv_aload_n hx hb d_Pl_addRange_44 rfl (lv_at hl 0 rfl) ?_
    refine ga_get S hK hP 0 rfl f_Pl_48 rfl d_Pl_addRange_45 ?_
    refine lv_iload hx hb d_Pl_addRange_48 (lv_at hl 4 rfl) ?_
    refine ga_ist (ws' := [(pl, .inr (1, [.ref q1, .ref q2, .ref q3, .ref q4, .ref q5, .ref q6, .ref q7, .ref q8, .ref q9, .int (nI rg)])), (q3, .inl (cZ, 41, .inl (zA us))), (q6, .inl (cI, 66, .inl (nA (va_up r1 rg t)))), (q7, .inl (cI, 66, .inl (nA (va_up r2 rg f)))), (q8, .inl (cI, 66, .inl (nA (va_up r3 rg u)))), (q9, .inl (cI, 66, .inl (nA (va_up r4 rg kd))))]) S hK hP hD hS 5 0 rfl rfl rg kd (by omega) (by decide) rfl d_Pl_addRange_50 (fun H locs hP hD hS => ?_)
    refine lv_aload_n hx hb d_Pl_addRange_51 rfl (lv_at hl 0 rfl) ?_
    refine lv_dup hx hb d_Pl_addRange_52 rfl ?_
    refine ga_get S hK hP 0 rfl f_Pl_48 rfl d_Pl_addRange_53 ?_
    refine lv_iconst (v := 1) hx hb d_Pl_addRange_56 (by decide) ?_
    refine lv_iadd hx hb d_Pl_addRange_57 ?_
    refine ga_top (nI (rg + 1)) (nI_add rg 1) ?_
    refine ga_put (ws' := [(pl, .inr (1, [.ref q1, .ref q2, .ref q3, .ref q4, .ref q5, .ref q6, .ref q7, .ref q8, .ref q9, .int (nI (rg + 1))])), (q3, .inl (cZ, 41, .inl (zA us))), (q6, .inl (cI, 66, .inl (nA (va_up r1 rg t)))), (q7, .inl (cI, 66, .inl (nA (va_up r2 rg f)))), (q8, .inl (cI, 66, .inl (nA (va_up r3 rg u)))), (q9, .inl (cI, 66, .inl (nA (va_up r4 rg kd))))]) S hK hP hD hS 0 rfl p_Pl_48 rfl rfl (Nat.le_of_ble_eq_true rfl) rfl d_Pl_addRange_58 (fun H locs hP hD hS => ?_)
    refine lv_aload_n hx hb d_Pl_addRange_61 rfl (lv_at hl 0 rfl) ?_
    refine ga_get S hK hP 0 rfl f_Pl_21 rfl d_Pl_addRange_62 ?_
    refine lv_iload_n hx hb d_Pl_addRange_65 rfl (lv_at hl 1 rfl) ?_
    refine lv_iconst (v := 1) hx hb d_Pl_addRange_66 (by decide) ?_
    refine ga_zst (ws' := [(pl, .inr (1, [.ref q1, .ref q2, .ref q3, .ref q4, .ref q5, .ref q6, .ref q7, .ref q8, .ref q9, .int (nI (rg + 1))])), (q3, .inl (cZ, 41, .inl (zA (va_up us t true)))), (q6, .inl (cI, 66, .inl (nA (va_up r1 rg t)))), (q7, .inl (cI, 66, .inl (nA (va_up r2 rg f)))), (q8, .inl (cI, 66, .inl (nA (va_up r3 rg u)))), (q9, .inl (cI, 66, .inl (nA (va_up r4 rg kd))))]) S hK hP hD hS 1 1 rfl rfl t true (by omega) (by decide) rfl d_Pl_addRange_67 (fun H locs hP hD hS => ?_)
    exact ga_wv () S hrt hlk hP hD hS trivial d_Pl_addRange_68
  · exact absurd ((nI_ltI (a := rg) (b := 66) (by omega) (by omega)).mpr hrg) c6
set_option maxHeartbeats 4000000 in
set_option maxRecDepth 100000 in
theorem gc_Ar_fill (l : Launch) (D : va_G) (cI cZ cC cG : ClassId) (qa N v : Nat) (f : Nat → Nat) (hN : N < 2 ^ 31) : ga_Mv l y_Ar_fill b_Ar_fill 4 0 0 0 D (ga_T cI cZ cC cG) [.ref qa, .int (nI v)] [(qa, .inl (cI, N, .inl (nA f)))] (fun (_ : Unit) => [(qa, .inl (cI, N, .inl (nA (fun _ => v))))]) (fun _ => True) := by
  refine ga_enV (by decide) (Nat.le_of_ble_eq_true rfl) ?_
  intro p e s m below meth c ls A S hrt hlk hnm hK hP hD hA hl
  have hS : va_S A s.heap s.heap [] := va_S.rf
  obtain ⟨hx, hb, hml, hown, hts⟩ := id S
  have hl : lv_has ls 4 [(0, .ref qa), (1, .int (nI v))] := hl
  refine lv_iconst (v := 0) hx hb d_Ar_fill_0 (by decide) ?_
  refine lv_istore_n (lv' := [(2, .int 0), (0, .ref qa), (1, .int (nI v))]) hx hb d_Ar_fill_1 rfl hl (by decide) rfl (fun ls hl => ?_)
  refine lv_aload_n hx hb d_Ar_fill_2 rfl (lv_at hl 1 rfl) ?_
  refine va_alen (v := nI N) hx hb hK.1 hP 0 0 rfl rfl rfl d_Ar_fill_3 ?_
  refine lv_istore_n (lv' := [(3, .int (nI N)), (2, .int 0), (0, .ref qa), (1, .int (nI v))]) hx hb d_Ar_fill_4 rfl hl (by decide) rfl (fun ls hl => ?_)
  refine ga_loop (α := Nat) (fun i => N - i) (fun i ls H locs => lv_has ls 4 [(3, .int (nI N)), (2, .int (nI i)), (0, .ref qa), (1, .int (nI v))] ∧ va_P D vwCl [(qa, .inl (cI, N, .inl (nA (gp_fl f v i))))] H ∧ va_D A [(qa, .inl (cI, N, .inl (nA (gp_fl f v i))))] ∧ va_S A s.heap H locs ∧ i ≤ N) ?_ 0 ⟨lv_sub hl [0, 1, 2, 3] rfl, by rw [gp_fl_0]; exact hP, by rw [gp_fl_0]; exact hD, hS, Nat.zero_le _⟩
  intro i ls H locs hI ih
  obtain ⟨hl, hP, hD, hS, hi⟩ := hI
  refine lv_iload_n hx hb d_Ar_fill_5 rfl (lv_at hl 1 rfl) ?_
  refine lv_iload_n hx hb d_Ar_fill_6 rfl (lv_at hl 0 rfl) ?_
  refine lv_icmp_ge (tgt := 20) hx hb d_Ar_fill_7 (by decide) (fun c7 => ?_) (fun c7 => ?_)
  · have c7 : N ≤ i := (nI_leI (a := N) (b := i) (by omega) (by omega)).mp c7
    obtain ⟨hP, hD⟩ := ga_setf (q := 0) (g := nA (fun _ => v)) (ws' := [(qa, .inl (cI, N, .inl (nA (fun _ => v))))]) hP hD rfl (fun j hj => by simp only [nA, gp_fl]; rw [if_pos (by omega)]) rfl
    exact ga_wv () S hrt hlk hP hD hS trivial d_Ar_fill_20
  · have c7 : ¬ (N ≤ i) := fun q => c7 ((nI_leI (a := N) (b := i) (by omega) (by omega)).mpr q)
    refine lv_aload_n hx hb d_Ar_fill_10 rfl (lv_at hl 2 rfl) ?_
    refine lv_iload_n hx hb d_Ar_fill_11 rfl (lv_at hl 1 rfl) ?_
    refine lv_iload_n hx hb d_Ar_fill_12 rfl (lv_at hl 3 rfl) ?_
    refine ga_ist (ws' := [(qa, .inl (cI, N, .inl (nA (va_up (gp_fl f v i) i v))))]) S hK hP hD hS 0 0 rfl rfl i v (by omega) hN rfl d_Ar_fill_13 (fun H locs hP hD hS => ?_)
    rw [gp_fl_up] at hP hD
    refine lv_iinc (v := nI (i + 1)) (lv' := [(2, .int (nI (i + 1))), (3, .int (nI N)), (0, .ref qa), (1, .int (nI v))]) hx hb d_Ar_fill_14 hl (k := 1) rfl (ga_inc i) (by decide) rfl (fun ls hl => ?_)
    refine lv_goto (tgt := 5) hx hb d_Ar_fill_17 (by decide) ?_
    exact ih (i + 1) _ _ _ (by show N - (i + 1) < N - i; omega) ⟨lv_sub hl [1, 0, 2, 3] rfl, hP, hD, hS, by omega⟩
set_option maxHeartbeats 4000000 in
set_option maxRecDepth 100000 in
theorem gc_Pl_clear (l : Launch) (D : va_G) (cI cZ cC cG : ClassId) (pl q1 q2 q3 q4 q5 q6 q7 q8 q9 : Nat) (rg : Nat) (bn ne : Nat → Nat) (us he : Nat → Bool) : ga_Mv l y_Pl_clear b_Pl_clear 2 1 0 0 D (ga_T cI cZ cC cG) [.ref pl] [(pl, .inr (1, [.ref q1, .ref q2, .ref q3, .ref q4, .ref q5, .ref q6, .ref q7, .ref q8, .ref q9, .int (nI rg)])), (q1, .inl (cI, 480, .inl (nA bn))), (q3, .inl (cZ, 41, .inl (zA us))), (q4, .inl (cZ, 41, .inl (zA he))), (q5, .inl (cI, 61, .inl (nA ne)))] (fun (_ : Unit) => [(pl, .inr (1, [.ref q1, .ref q2, .ref q3, .ref q4, .ref q5, .ref q6, .ref q7, .ref q8, .ref q9, .int (nI 0)])), (q1, .inl (cI, 480, .inl (nA (fun _ => 0)))), (q3, .inl (cZ, 41, .inl (zA (fun _ => false)))), (q4, .inl (cZ, 41, .inl (zA (fun _ => false)))), (q5, .inl (cI, 61, .inl (nA (fun _ => 0))))]) (fun _ => True) := by
  refine ga_enV (by decide) (Nat.le_of_ble_eq_true rfl) ?_
  intro p e s m below meth c ls A S hrt hlk hnm hK hP hD hA hl
  have hS : va_S A s.heap s.heap [] := va_S.rf
  obtain ⟨hx, hb, hml, hown, hts⟩ := id S
  have hl : lv_has ls 2 [(0, .ref pl)] := hl
  refine lv_aload_n hx hb d_Pl_clear_0 rfl (lv_at hl 0 rfl) ?_
  refine ga_get S hK hP 0 rfl f_Pl_11 rfl d_Pl_clear_1 ?_
  refine lv_iconst (v := 0) hx hb d_Pl_clear_4 (by decide) ?_
  refine ga_jv (wr := [(pl, .inr (1, [.ref q1, .ref q2, .ref q3, .ref q4, .ref q5, .ref q6, .ref q7, .ref q8, .ref q9, .int (nI rg)])), (q3, .inl (cZ, 41, .inl (zA us))), (q4, .inl (cZ, 41, .inl (zA he))), (q5, .inl (cI, 61, .inl (nA ne)))]) (ga_runS (As := [.ref q1, .int 0]) (rest := []) S hK s_Pl_42 (gc_Ar_fill l D cI cZ cC cG q1 480 0 bn (by decide) _) (ga_prS hK hP hD [1] rfl (by decide)) rfl hl.1 rfl (Nat.le_of_ble_eq_true rfl) ⟨Nat.le_of_ble_eq_true rfl, Nat.le_of_ble_eq_true rfl⟩ ⟨Nat.le_of_ble_eq_true rfl, Nat.le_of_ble_eq_true rfl⟩ d_Pl_clear_5) hP hD hS hA [1] [0, 2, 3, 4] rfl rfl (by decide) (by decide) [0, 4, 1, 2, 3] (fun _ => [(pl, .inr (1, [.ref q1, .ref q2, .ref q3, .ref q4, .ref q5, .ref q6, .ref q7, .ref q8, .ref q9, .int (nI rg)])), (q1, .inl (cI, 480, .inl (nA (fun _ => 0)))), (q3, .inl (cZ, 41, .inl (zA us))), (q4, .inl (cZ, 41, .inl (zA he))), (q5, .inl (cI, 61, .inl (nA ne)))]) (fun _ => rfl) (by decide) (fun x H locs hp5 hP hD hS => ?_)
  refine lv_aload_n hx hb d_Pl_clear_8 rfl (lv_at hl 0 rfl) ?_
  refine ga_get S hK hP 0 rfl f_Pl_27 rfl d_Pl_clear_9 ?_
  refine lv_iconst (v := 0) hx hb d_Pl_clear_12 (by decide) ?_
  refine ga_jv (wr := [(pl, .inr (1, [.ref q1, .ref q2, .ref q3, .ref q4, .ref q5, .ref q6, .ref q7, .ref q8, .ref q9, .int (nI rg)])), (q1, .inl (cI, 480, .inl (nA (fun _ => 0)))), (q3, .inl (cZ, 41, .inl (zA us))), (q4, .inl (cZ, 41, .inl (zA he)))]) (ga_runS (As := [.ref q5, .int 0]) (rest := []) S hK s_Pl_42 (gc_Ar_fill l D cI cZ cC cG q5 61 0 ne (by decide) _) (ga_prS hK hP hD [4] rfl (by decide)) rfl hl.1 rfl (Nat.le_of_ble_eq_true rfl) ⟨Nat.le_of_ble_eq_true rfl, Nat.le_of_ble_eq_true rfl⟩ ⟨Nat.le_of_ble_eq_true rfl, Nat.le_of_ble_eq_true rfl⟩ d_Pl_clear_13) hP hD hS hA [4] [0, 1, 2, 3] rfl rfl (by decide) (by decide) [0, 1, 2, 3, 4] (fun _ => [(pl, .inr (1, [.ref q1, .ref q2, .ref q3, .ref q4, .ref q5, .ref q6, .ref q7, .ref q8, .ref q9, .int (nI rg)])), (q1, .inl (cI, 480, .inl (nA (fun _ => 0)))), (q3, .inl (cZ, 41, .inl (zA us))), (q4, .inl (cZ, 41, .inl (zA he))), (q5, .inl (cI, 61, .inl (nA (fun _ => 0))))]) (fun _ => rfl) (by decide) (fun x H locs hp13 hP hD hS => ?_)
  refine lv_iconst (v := 0) hx hb d_Pl_clear_16 (by decide) ?_
  refine lv_istore_n (lv' := [(1, .int 0), (0, .ref pl)]) hx hb d_Pl_clear_17 rfl hl (by decide) rfl (fun ls hl => ?_)
  refine ga_loop (α := Nat × (Nat → Bool) × (Nat → Bool)) (fun x => match x with | (i, u2, h2) => 41 - i) (fun x ls H locs => match x with | (i, u2, h2) => lv_has ls 2 [(1, .int (nI i)), (0, .ref pl)] ∧ va_P D vwCl [(pl, .inr (1, [.ref q1, .ref q2, .ref q3, .ref q4, .ref q5, .ref q6, .ref q7, .ref q8, .ref q9, .int (nI rg)])), (q1, .inl (cI, 480, .inl (nA (fun _ => 0)))), (q3, .inl (cZ, 41, .inl (zA u2))), (q4, .inl (cZ, 41, .inl (zA h2))), (q5, .inl (cI, 61, .inl (nA (fun _ => 0))))] H ∧ va_D A [(pl, .inr (1, [.ref q1, .ref q2, .ref q3, .ref q4, .ref q5, .ref q6, .ref q7, .ref q8, .ref q9, .int (nI rg)])), (q1, .inl (cI, 480, .inl (nA (fun _ => 0)))), (q3, .inl (cZ, 41, .inl (zA u2))), (q4, .inl (cZ, 41, .inl (zA h2))), (q5, .inl (cI, 61, .inl (nA (fun _ => 0))))] ∧ va_S A s.heap H locs ∧ i ≤ 41 ∧ u2 = gp_fl us false i ∧ h2 = gp_fl he false i) ?_ (0, us, he) ⟨lv_sub hl [0, 1] rfl, hP, hD, hS, ⟨by decide, (gp_fl_0 _ _).symm, (gp_fl_0 _ _).symm⟩⟩
  intro x ls H locs hI ih
  obtain ⟨i, u2, h2⟩ := x
  obtain ⟨hl, hP, hD, hS, ⟨hi, hu2, hh2⟩⟩ := hI
  have hl : lv_has ls 2 [(1, .int (nI i)), (0, .ref pl)] := hl
  have hP : va_P D vwCl [(pl, .inr (1, [.ref q1, .ref q2, .ref q3, .ref q4, .ref q5, .ref q6, .ref q7, .ref q8, .ref q9, .int (nI rg)])), (q1, .inl (cI, 480, .inl (nA (fun _ => 0)))), (q3, .inl (cZ, 41, .inl (zA u2))), (q4, .inl (cZ, 41, .inl (zA h2))), (q5, .inl (cI, 61, .inl (nA (fun _ => 0))))] H := hP
  have hD : va_D A [(pl, .inr (1, [.ref q1, .ref q2, .ref q3, .ref q4, .ref q5, .ref q6, .ref q7, .ref q8, .ref q9, .int (nI rg)])), (q1, .inl (cI, 480, .inl (nA (fun _ => 0)))), (q3, .inl (cZ, 41, .inl (zA u2))), (q4, .inl (cZ, 41, .inl (zA h2))), (q5, .inl (cI, 61, .inl (nA (fun _ => 0))))] := hD
  refine lv_iload_n hx hb d_Pl_clear_18 rfl (lv_at hl 0 rfl) ?_
  refine lv_bipush (v := 40) hx hb d_Pl_clear_19 (by decide) ?_
  refine lv_icmp_gt (tgt := 44) hx hb d_Pl_clear_21 (by decide) (fun c21 => ?_) (fun c21 => ?_)
  · have c21 : 40 < i := (nI_ltI (a := 40) (b := i) (by omega) (by omega)).mp c21
    obtain ⟨hP, hD⟩ := ga_setf (q := 2) (g := zA (fun _ => false)) (ws' := [(pl, .inr (1, [.ref q1, .ref q2, .ref q3, .ref q4, .ref q5, .ref q6, .ref q7, .ref q8, .ref q9, .int (nI rg)])), (q1, .inl (cI, 480, .inl (nA (fun _ => 0)))), (q3, .inl (cZ, 41, .inl (zA (fun _ => false)))), (q4, .inl (cZ, 41, .inl (zA h2))), (q5, .inl (cI, 61, .inl (nA (fun _ => 0))))]) hP hD rfl (fun j hj => by simp only [zA, hu2, gp_fl]; rw [if_pos (by omega)]) rfl
    obtain ⟨hP, hD⟩ := ga_setf (q := 3) (g := zA (fun _ => false)) (ws' := [(pl, .inr (1, [.ref q1, .ref q2, .ref q3, .ref q4, .ref q5, .ref q6, .ref q7, .ref q8, .ref q9, .int (nI rg)])), (q1, .inl (cI, 480, .inl (nA (fun _ => 0)))), (q3, .inl (cZ, 41, .inl (zA (fun _ => false)))), (q4, .inl (cZ, 41, .inl (zA (fun _ => false)))), (q5, .inl (cI, 61, .inl (nA (fun _ => 0))))]) hP hD rfl (fun j hj => by simp only [zA, hh2, gp_fl]; rw [if_pos (by omega)]) rfl
    refine lv_aload_n hx hb d_Pl_clear_44 rfl (lv_at hl 1 rfl) ?_
    refine lv_iconst (v := 0) hx hb d_Pl_clear_45 (by decide) ?_
    refine ga_put (ws' := [(pl, .inr (1, [.ref q1, .ref q2, .ref q3, .ref q4, .ref q5, .ref q6, .ref q7, .ref q8, .ref q9, .int 0])), (q1, .inl (cI, 480, .inl (nA (fun _ => 0)))), (q3, .inl (cZ, 41, .inl (zA (fun _ => false)))), (q4, .inl (cZ, 41, .inl (zA (fun _ => false)))), (q5, .inl (cI, 61, .inl (nA (fun _ => 0))))]) S hK hP hD hS 0 rfl p_Pl_48 rfl rfl (Nat.le_of_ble_eq_true rfl) rfl d_Pl_clear_46 (fun H locs hP hD hS => ?_)
    exact ga_wv () S hrt hlk hP hD hS trivial d_Pl_clear_49
  · have c21 : ¬ (40 < i) := fun q => c21 ((nI_ltI (a := 40) (b := i) (by omega) (by omega)).mpr q)
    refine lv_aload_n hx hb d_Pl_clear_24 rfl (lv_at hl 1 rfl) ?_
    refine ga_get S hK hP 0 rfl f_Pl_21 rfl d_Pl_clear_25 ?_
    refine lv_iload_n hx hb d_Pl_clear_28 rfl (lv_at hl 0 rfl) ?_
    refine lv_iconst (v := 0) hx hb d_Pl_clear_29 (by decide) ?_
    refine ga_zst (ws' := [(pl, .inr (1, [.ref q1, .ref q2, .ref q3, .ref q4, .ref q5, .ref q6, .ref q7, .ref q8, .ref q9, .int (nI rg)])), (q1, .inl (cI, 480, .inl (nA (fun _ => 0)))), (q3, .inl (cZ, 41, .inl (zA (va_up u2 i false)))), (q4, .inl (cZ, 41, .inl (zA h2))), (q5, .inl (cI, 61, .inl (nA (fun _ => 0))))]) S hK hP hD hS 2 1 rfl rfl i false (by omega) (by decide) rfl d_Pl_clear_30 (fun H locs hP hD hS => ?_)
    refine lv_aload_n hx hb d_Pl_clear_31 rfl (lv_at hl 1 rfl) ?_
    refine ga_get S hK hP 0 rfl f_Pl_24 rfl d_Pl_clear_32 ?_
    refine lv_iload_n hx hb d_Pl_clear_35 rfl (lv_at hl 0 rfl) ?_
    refine lv_iconst (v := 0) hx hb d_Pl_clear_36 (by decide) ?_
    refine ga_zst (ws' := [(pl, .inr (1, [.ref q1, .ref q2, .ref q3, .ref q4, .ref q5, .ref q6, .ref q7, .ref q8, .ref q9, .int (nI rg)])), (q1, .inl (cI, 480, .inl (nA (fun _ => 0)))), (q3, .inl (cZ, 41, .inl (zA (va_up u2 i false)))), (q4, .inl (cZ, 41, .inl (zA (va_up h2 i false)))), (q5, .inl (cI, 61, .inl (nA (fun _ => 0))))]) S hK hP hD hS 3 1 rfl rfl i false (by omega) (by decide) rfl d_Pl_clear_37 (fun H locs hP hD hS => ?_)
    refine lv_iinc (v := nI (i + 1)) (lv' := [(1, .int (nI (i + 1))), (0, .ref pl)]) hx hb d_Pl_clear_38 hl (k := 0) rfl (ga_inc i) (by decide) rfl (fun ls hl => ?_)
    refine lv_goto (tgt := 18) hx hb d_Pl_clear_41 (by decide) ?_
    exact ih (i + 1, va_up u2 i false, va_up h2 i false) _ _ _ (by show (41 - (i + 1)) < (41 - i); omega) ⟨lv_sub hl [0, 1] rfl, hP, hD, hS, ⟨by omega, by rw [hu2, gp_fl_up], by rw [hh2, gp_fl_up]⟩⟩
end
section
set_option maxHeartbeats 4000000 in
set_option maxRecDepth 100000 in
theorem gc_Fa_add (l : Launch) (D : va_G) (cI cZ cC cG : ClassId) (fa fo k sh pa t o b : Nat) (told : Nat → Nat) (hk : k < 2 ^ 30) : ga_Mv l y_Fa_add b_Fa_add 7 0 0 0 D (ga_T cI cZ cC cG) [.ref fa, .int (nI sh), .int (nI pa), .int (nI t), .int (nI o), .int (nI b)] [(fa, .inr (0, [.ref fo, .int (nI k)])), (fo, .inl (cI, 500, .inl (nA told)))] (fun (_ : Unit) => [(fa, .inr (0, [.ref fo, .int (nI ((gp_add (told, k) sh pa t o b).2))])), (fo, .inl (cI, 500, .inl (nA ((gp_add (told, k) sh pa t o b).1))))]) (fun _ => True) := by
  refine ga_enV (by decide) (Nat.le_of_ble_eq_true rfl) ?_
  intro p e s m below meth c ls A S hrt hlk hnm hK hP hD hA hl
  have hS : va_S A s.heap s.heap [] := va_S.rf
  obtain ⟨hx, hb, hml, hown, hts⟩ := id S
  have hl : lv_has ls 7 [(0, .ref fa), (1, .int (nI sh)), (2, .int (nI pa)), (3, .int (nI t)), (4, .int (nI o)), (5, .int (nI b))] := hl
  refine lv_aload_n hx hb d_Fa_add_0 rfl (lv_at hl 0 rfl) ?_
  refine ga_get S hK hP 0 rfl f_Fa_15 rfl d_Fa_add_1 ?_
  refine lv_bipush (v := 100) hx hb d_Fa_add_4 (by decide) ?_
  refine lv_icmp_ge (tgt := 67) hx hb d_Fa_add_6 (by decide) (fun c6 => ?_) (fun c6 => ?_)
  · have c6 : 100 ≤ k := (nI_leI (a := 100) (b := k) (by omega) (by omega)).mp c6
    have he : gp_add (told, k) sh pa t o b = (told, k + 1) := by rw [gp_add, if_neg (by simp only; omega)]
    refine lv_aload_n hx hb d_Fa_add_67 rfl (lv_at hl 0 rfl) ?_
    refine lv_dup hx hb d_Fa_add_68 rfl ?_
    refine ga_get S hK hP 0 rfl f_Fa_15 rfl d_Fa_add_69 ?_
    refine lv_iconst (v := 1) hx hb d_Fa_add_72 (by decide) ?_
    refine lv_iadd hx hb d_Fa_add_73 ?_
    refine ga_top (nI (k + 1)) (nI_add k 1) ?_
    refine ga_put (ws' := [(fa, .inr (0, [.ref fo, .int (nI (k + 1))])), (fo, .inl (cI, 500, .inl (nA told)))]) S hK hP hD hS 0 rfl p_Fa_15 rfl rfl (Nat.le_of_ble_eq_true rfl) rfl d_Fa_add_74 (fun H locs hP hD hS => ?_)
    exact ga_wv () S hrt hlk (by rw [he]; exact hP) (by rw [he]; exact hD) hS trivial d_Fa_add_77
  · have c6 : ¬ (100 ≤ k) := fun q => c6 ((nI_leI (a := 100) (b := k) (by omega) (by omega)).mpr q)
    have he : gp_add (told, k) sh pa t o b = (va_up (va_up (va_up (va_up (va_up told (k * 5) sh) (k * 5 + 1) pa) (k * 5 + 2) t) (k * 5 + 3) o) (k * 5 + 4) b, k + 1) := by rw [gp_add, if_pos (by simp only; omega)]
    refine lv_aload_n hx hb d_Fa_add_9 rfl (lv_at hl 0 rfl) ?_
    refine ga_get S hK hP 0 rfl f_Fa_15 rfl d_Fa_add_10 ?_
    refine lv_iconst (v := 5) hx hb d_Fa_add_13 (by decide) ?_
    refine lv_imul hx hb d_Fa_add_14 ?_
    refine ga_top (nI (k * 5)) (pk_mul k 5) ?_
    refine lv_istore (lv' := [(6, .int (nI (k * 5))), (0, .ref fa), (1, .int (nI sh)), (2, .int (nI pa)), (3, .int (nI t)), (4, .int (nI o)), (5, .int (nI b))]) hx hb d_Fa_add_15 hl (by decide) rfl (fun ls hl => ?_)
    refine lv_aload_n hx hb d_Fa_add_17 rfl (lv_at hl 1 rfl) ?_
    refine ga_get S hK hP 0 rfl f_Fa_11 rfl d_Fa_add_18 ?_
    refine lv_iload hx hb d_Fa_add_21 (lv_at hl 0 rfl) ?_
    refine lv_iload_n hx hb d_Fa_add_23 rfl (lv_at hl 2 rfl) ?_
    refine ga_ist (ws' := [(fa, .inr (0, [.ref fo, .int (nI k)])), (fo, .inl (cI, 500, .inl (nA (va_up told (k * 5) sh))))]) S hK hP hD hS 1 0 rfl rfl (k * 5) sh (by omega) (by decide) rfl d_Fa_add_24 (fun H locs hP hD hS => ?_)
    refine lv_aload_n hx hb d_Fa_add_25 rfl (lv_at hl 1 rfl) ?_
    refine ga_get S hK hP 0 rfl f_Fa_11 rfl d_Fa_add_26 ?_
    refine lv_iload hx hb d_Fa_add_29 (lv_at hl 0 rfl) ?_
    refine lv_iconst (v := 1) hx hb d_Fa_add_31 (by decide) ?_
    refine lv_iadd hx hb d_Fa_add_32 ?_
    refine ga_top (nI ((k * 5) + 1)) (nI_add (k * 5) 1) ?_
    refine lv_iload_n hx hb d_Fa_add_33 rfl (lv_at hl 3 rfl) ?_
    refine ga_ist (ws' := [(fa, .inr (0, [.ref fo, .int (nI k)])), (fo, .inl (cI, 500, .inl (nA (va_up (va_up told (k * 5) sh) ((k * 5) + 1) pa))))]) S hK hP hD hS 1 0 rfl rfl ((k * 5) + 1) pa (by omega) (by decide) rfl d_Fa_add_34 (fun H locs hP hD hS => ?_)
    refine lv_aload_n hx hb d_Fa_add_35 rfl (lv_at hl 1 rfl) ?_
    refine ga_get S hK hP 0 rfl f_Fa_11 rfl d_Fa_add_36 ?_
    refine lv_iload hx hb d_Fa_add_39 (lv_at hl 0 rfl) ?_
    refine lv_iconst (v := 2) hx hb d_Fa_add_41 (by decide) ?_
    refine lv_iadd hx hb d_Fa_add_42 ?_
    refine ga_top (nI ((k * 5) + 2)) (nI_add (k * 5) 2) ?_
    refine lv_iload_n hx hb d_Fa_add_43 rfl (lv_at hl 4 rfl) ?_
    refine ga_ist (ws' := [(fa, .inr (0, [.ref fo, .int (nI k)])), (fo, .inl (cI, 500, .inl (nA (va_up (va_up (va_up told (k * 5) sh) ((k * 5) + 1) pa) ((k * 5) + 2) t))))]) S hK hP hD hS 1 0 rfl rfl ((k * 5) + 2) t (by omega) (by decide) rfl d_Fa_add_44 (fun H locs hP hD hS => ?_)
    refine lv_aload_n hx hb d_Fa_add_45 rfl (lv_at hl 1 rfl) ?_
    refine ga_get S hK hP 0 rfl f_Fa_11 rfl d_Fa_add_46 ?_
    refine lv_iload hx hb d_Fa_add_49 (lv_at hl 0 rfl) ?_
    refine lv_iconst (v := 3) hx hb d_Fa_add_51 (by decide) ?_
    refine lv_iadd hx hb d_Fa_add_52 ?_
    refine ga_top (nI ((k * 5) + 3)) (nI_add (k * 5) 3) ?_
    refine lv_iload hx hb d_Fa_add_53 (lv_at hl 5 rfl) ?_
    refine ga_ist (ws' := [(fa, .inr (0, [.ref fo, .int (nI k)])), (fo, .inl (cI, 500, .inl (nA (va_up (va_up (va_up (va_up told (k * 5) sh) ((k * 5) + 1) pa) ((k * 5) + 2) t) ((k * 5) + 3) o))))]) S hK hP hD hS 1 0 rfl rfl ((k * 5) + 3) o (by omega) (by decide) rfl d_Fa_add_55 (fun H locs hP hD hS => ?_)
    refine lv_aload_n hx hb d_Fa_add_56 rfl (lv_at hl 1 rfl) ?_
    refine ga_get S hK hP 0 rfl f_Fa_11 rfl d_Fa_add_57 ?_
    refine lv_iload hx hb d_Fa_add_60 (lv_at hl 0 rfl) ?_
    refine lv_iconst (v := 4) hx hb d_Fa_add_62 (by decide) ?_
    refine lv_iadd hx hb d_Fa_add_63 ?_
    refine ga_top (nI ((k * 5) + 4)) (nI_add (k * 5) 4) ?_
    refine lv_iload hx hb d_Fa_add_64 (lv_at hl 6 rfl) ?_
    refine ga_ist (ws' := [(fa, .inr (0, [.ref fo, .int (nI k)])), (fo, .inl (cI, 500, .inl (nA (va_up (va_up (va_up (va_up (va_up told (k * 5) sh) ((k * 5) + 1) pa) ((k * 5) + 2) t) ((k * 5) + 3) o) ((k * 5) + 4) b))))]) S hK hP hD hS 1 0 rfl rfl ((k * 5) + 4) b (by omega) (by decide) rfl d_Fa_add_66 (fun H locs hP hD hS => ?_)
    refine lv_aload_n hx hb d_Fa_add_67 rfl (lv_at hl 1 rfl) ?_
    refine lv_dup hx hb d_Fa_add_68 rfl ?_
    refine ga_get S hK hP 0 rfl f_Fa_15 rfl d_Fa_add_69 ?_
    refine lv_iconst (v := 1) hx hb d_Fa_add_72 (by decide) ?_
    refine lv_iadd hx hb d_Fa_add_73 ?_
    refine ga_top (nI (k + 1)) (nI_add k 1) ?_
    refine ga_put (ws' := [(fa, .inr (0, [.ref fo, .int (nI (k + 1))])), (fo, .inl (cI, 500, .inl (nA (va_up (va_up (va_up (va_up (va_up told (k * 5) sh) ((k * 5) + 1) pa) ((k * 5) + 2) t) ((k * 5) + 3) o) ((k * 5) + 4) b))))]) S hK hP hD hS 0 rfl p_Fa_15 rfl rfl (Nat.le_of_ble_eq_true rfl) rfl d_Fa_add_74 (fun H locs hP hD hS => ?_)
    exact ga_wv () S hrt hlk (by rw [he]; exact hP) (by rw [he]; exact hD) hS trivial d_Fa_add_77
set_option maxHeartbeats 4000000 in
set_option maxRecDepth 100000 in
theorem gc_Fa_tell (l : Launch) (D : va_G) (cI cZ cC cG : ClassId) (fa fo k : Nat) (told : Nat → Nat) (i w : Int32) (hk : k < 2 ^ 30) : ga_Mr l y_Fa_tell b_Fa_tell 3 (some .int) 0 D (ga_T cI cZ cC cG) [.ref fa, .int i, .int w] [(fa, .inr (0, [.ref fo, .int (nI k)])), (fo, .inl (cI, 500, .inl (nA told)))] (fun r => r = gp_tell told k i w) := by
  refine ga_enR (by decide) (Nat.le_of_ble_eq_true rfl) ?_
  intro p e s m below meth c ls S hrt hlk hK hP hl
  obtain ⟨hx, hb, hml, hown, hts⟩ := id S
  have hl : lv_has ls 3 [(0, .ref fa), (1, .int i), (2, .int w)] := hl
  refine lv_iload_n hx hb d_Fa_tell_0 rfl (lv_at hl 1 rfl) ?_
  refine lv_if_lt (tgt := 27) hx hb d_Fa_tell_1 (by decide) (fun c1 => ?_) (fun c1 => ?_)
  · have he : gp_tell told k i w = -1 := by rw [gp_tell, if_neg (fun q => absurd q.1 (gp_ltz c1))]
    refine lv_iconst (v := (-1)) hx hb d_Fa_tell_27 (by decide) ?_
    exact ga_ri S hrt hlk he.symm d_Fa_tell_28
  · obtain ⟨i, hi, rfl⟩ := nI_of c1
    refine lv_iload_n hx hb d_Fa_tell_4 rfl (lv_at hl 1 rfl) ?_
    refine lv_aload_n hx hb d_Fa_tell_5 rfl (lv_at hl 0 rfl) ?_
    refine ga_get S hK hP 0 rfl f_Fa_15 rfl d_Fa_tell_6 ?_
    refine lv_icmp_ge (tgt := 27) hx hb d_Fa_tell_9 (by decide) (fun c9 => ?_) (fun c9 => ?_)
    · have c9 : k ≤ i := (nI_leI (a := k) (b := i) (by omega) (by omega)).mp c9
      have he : gp_tell told k (nI i) w = -1 := by rw [gp_tell, nI_toInt hi, if_neg (by omega)]
      refine lv_iconst (v := (-1)) hx hb d_Fa_tell_27 (by decide) ?_
      exact ga_ri S hrt hlk he.symm d_Fa_tell_28
    · have c9 : ¬ (k ≤ i) := fun q => c9 ((nI_leI (a := k) (b := i) (by omega) (by omega)).mpr q)
      refine lv_iload_n hx hb d_Fa_tell_12 rfl (lv_at hl 1 rfl) ?_
      refine lv_bipush (v := 100) hx hb d_Fa_tell_13 (by decide) ?_
      refine lv_icmp_ge (tgt := 27) hx hb d_Fa_tell_15 (by decide) (fun c15 => ?_) (fun c15 => ?_)
      · have c15 : 100 ≤ i := (nI_leI (a := 100) (b := i) (by omega) (by omega)).mp c15
        have he : gp_tell told k (nI i) w = -1 := by rw [gp_tell, nI_toInt hi, if_neg (by omega)]
        refine lv_iconst (v := (-1)) hx hb d_Fa_tell_27 (by decide) ?_
        exact ga_ri S hrt hlk he.symm d_Fa_tell_28
      · have c15 : ¬ (100 ≤ i) := fun q => c15 ((nI_leI (a := 100) (b := i) (by omega) (by omega)).mpr q)
        refine lv_iload_n hx hb d_Fa_tell_18 rfl (lv_at hl 2 rfl) ?_
        refine lv_if_lt (tgt := 27) hx hb d_Fa_tell_19 (by decide) (fun c19 => ?_) (fun c19 => ?_)
        · have he : gp_tell told k (nI i) w = -1 := by rw [gp_tell, if_neg (fun q => absurd q.2.2.2.1 (gp_ltz c19))]
          refine lv_iconst (v := (-1)) hx hb d_Fa_tell_27 (by decide) ?_
          exact ga_ri S hrt hlk he.symm d_Fa_tell_28
        · obtain ⟨w, hw, rfl⟩ := nI_of c19
          refine lv_iload_n hx hb d_Fa_tell_22 rfl (lv_at hl 2 rfl) ?_
          refine lv_iconst (v := 5) hx hb d_Fa_tell_23 (by decide) ?_
          refine lv_icmp_lt (tgt := 29) hx hb d_Fa_tell_24 (by decide) (fun c24 => ?_) (fun c24 => ?_)
          · have c24 : w < 5 := (nI_ltI (a := w) (b := 5) (by omega) (by omega)).mp c24
            have he : gp_tell told k (nI i) (nI w) = nI (told (i * 5 + w)) := by rw [gp_tell, nI_toInt hi, nI_toInt hw, if_pos (by omega)]; rfl
            refine lv_aload_n hx hb d_Fa_tell_29 rfl (lv_at hl 0 rfl) ?_
            refine ga_get S hK hP 0 rfl f_Fa_11 rfl d_Fa_tell_30 ?_
            refine lv_iload_n hx hb d_Fa_tell_33 rfl (lv_at hl 1 rfl) ?_
            refine lv_iconst (v := 5) hx hb d_Fa_tell_34 (by decide) ?_
            refine lv_imul hx hb d_Fa_tell_35 ?_
            refine ga_top (nI (i * 5)) (pk_mul i 5) ?_
            refine lv_iload_n hx hb d_Fa_tell_36 rfl (lv_at hl 2 rfl) ?_
            refine lv_iadd hx hb d_Fa_tell_37 ?_
            refine ga_top (nI ((i * 5) + w)) (nI_add (i * 5) w) ?_
            refine ga_ild S hK hP 1 0 rfl rfl ((i * 5) + w) (by omega) (by decide) d_Fa_tell_38 ?_
            exact ga_ri S hrt hlk he.symm d_Fa_tell_39
          · have c24 : ¬ (w < 5) := fun q => c24 ((nI_ltI (a := w) (b := 5) (by omega) (by omega)).mpr q)
            have he : gp_tell told k (nI i) (nI w) = -1 := by rw [gp_tell, nI_toInt hi, nI_toInt hw, if_neg (by omega)]
            refine lv_iconst (v := (-1)) hx hb d_Fa_tell_27 (by decide) ?_
            exact ga_ri S hrt hlk he.symm d_Fa_tell_28
end
section
set_option maxHeartbeats 4000000 in
set_option maxRecDepth 100000 in
theorem gc_Sh_signAt (l : Launch) (D : va_G) (cI cZ cC cG : ClassId) (shh sha n : Nat) (sg : Nat → Nat) (i : Int32) (hn : n ≤ 240) : ga_Mr l y_Sh_signAt b_Sh_signAt 2 (some .int) 0 D (ga_T cI cZ cC cG) [.ref shh, .int i] [(shh, .inr (3, [.ref sha, .int (nI n)])), (sha, .inl (cC, 240, .inl (nA sg)))] (fun r => r = gp_si sg n i) := by
  refine ga_enR (by decide) (Nat.le_of_ble_eq_true rfl) ?_
  intro p e s m below meth c ls S hrt hlk hK hP hl
  obtain ⟨hx, hb, hml, hown, hts⟩ := id S
  have hl : lv_has ls 2 [(0, .ref shh), (1, .int i)] := hl
  refine lv_iload_n hx hb d_Sh_signAt_0 rfl (lv_at hl 1 rfl) ?_
  refine lv_if_lt (tgt := 21) hx hb d_Sh_signAt_1 (by decide) (fun c1 => ?_) (fun c1 => ?_)
  · have he : gp_si sg n i = 0 := by rw [gp_si, if_neg (fun q => absurd q.1 (gp_ltz c1))]
    refine lv_iconst (v := 0) hx hb d_Sh_signAt_21 (by decide) ?_
    exact ga_ri S hrt hlk he.symm d_Sh_signAt_22
  · obtain ⟨i, hi, rfl⟩ := nI_of c1
    refine lv_iload_n hx hb d_Sh_signAt_4 rfl (lv_at hl 1 rfl) ?_
    refine lv_aload_n hx hb d_Sh_signAt_5 rfl (lv_at hl 0 rfl) ?_
    refine ga_get S hK hP 0 rfl f_Sh_15 rfl d_Sh_signAt_6 ?_
    refine lv_icmp_ge (tgt := 21) hx hb d_Sh_signAt_9 (by decide) (fun c9 => ?_) (fun c9 => ?_)
    · have c9 : n ≤ i := (nI_leI (a := n) (b := i) (by omega) (by omega)).mp c9
      have he : gp_si sg n (nI i) = 0 := by rw [gp_si, nI_toInt hi, if_neg (by omega)]
      refine lv_iconst (v := 0) hx hb d_Sh_signAt_21 (by decide) ?_
      exact ga_ri S hrt hlk he.symm d_Sh_signAt_22
    · have c9 : ¬ (n ≤ i) := fun q => c9 ((nI_leI (a := n) (b := i) (by omega) (by omega)).mpr q)
      have he : gp_si sg n (nI i) = nI (sg i) := by rw [gp_si, nI_toInt hi, if_pos (by omega)]; rfl
      refine lv_aload_n hx hb d_Sh_signAt_12 rfl (lv_at hl 0 rfl) ?_
      refine ga_get S hK hP 0 rfl f_Sh_11 rfl d_Sh_signAt_13 ?_
      refine lv_iload_n hx hb d_Sh_signAt_16 rfl (lv_at hl 1 rfl) ?_
      refine ga_cld S hK hP 1 2 rfl rfl i (by omega) (by decide) d_Sh_signAt_17 ?_
      refine lv_goto (tgt := 22) hx hb d_Sh_signAt_18 (by decide) ?_
      exact ga_ri S hrt hlk he.symm d_Sh_signAt_22
set_option maxHeartbeats 4000000 in
set_option maxRecDepth 100000 in
theorem gc_Sh_put (l : Launch) (D : va_G) (cI cZ cC cG : ClassId) (shh sha n ch : Nat) (sg : Nat → Nat) (hn : n ≤ 240) (hch : ch < 65536) : ga_Mv l y_Sh_put b_Sh_put 2 0 0 0 D (ga_T cI cZ cC cG) [.ref shh, .int (nI ch)] [(shh, .inr (3, [.ref sha, .int (nI n)])), (sha, .inl (cC, 240, .inl (nA sg)))] (fun (_ : Unit) => [(shh, .inr (3, [.ref sha, .int (nI ((gp_sp (sg, n) ch).2))])), (sha, .inl (cC, 240, .inl (nA ((gp_sp (sg, n) ch).1))))]) (fun _ => True) := by
  refine ga_enV (by decide) (Nat.le_of_ble_eq_true rfl) ?_
  intro p e s m below meth c ls A S hrt hlk hnm hK hP hD hA hl
  have hS : va_S A s.heap s.heap [] := va_S.rf
  obtain ⟨hx, hb, hml, hown, hts⟩ := id S
  have hl : lv_has ls 2 [(0, .ref shh), (1, .int (nI ch))] := hl
  refine lv_aload_n hx hb d_Sh_put_0 rfl (lv_at hl 0 rfl) ?_
  refine ga_get S hK hP 0 rfl f_Sh_15 rfl d_Sh_put_1 ?_
  refine lv_sipush (v := 240) hx hb d_Sh_put_4 (by decide) ?_
  refine lv_icmp_ge (tgt := 30) hx hb d_Sh_put_7 (by decide) (fun c7 => ?_) (fun c7 => ?_)
  · have c7 : 240 ≤ n := (nI_leI (a := 240) (b := n) (by omega) (by omega)).mp c7
    have he : gp_sp (sg, n) ch = (sg, n) := by rw [gp_sp, if_neg (by simp only; omega)]
    exact ga_wv () S hrt hlk (by rw [he]; exact hP) (by rw [he]; exact hD) hS trivial d_Sh_put_30
  · have c7 : ¬ (240 ≤ n) := fun q => c7 ((nI_leI (a := 240) (b := n) (by omega) (by omega)).mpr q)
    have he : gp_sp (sg, n) ch = (va_up sg n ch, n + 1) := by rw [gp_sp, if_pos (by simp only; omega)]
    refine lv_aload_n hx hb d_Sh_put_10 rfl (lv_at hl 0 rfl) ?_
    refine ga_get S hK hP 0 rfl f_Sh_11 rfl d_Sh_put_11 ?_
    refine lv_aload_n hx hb d_Sh_put_14 rfl (lv_at hl 0 rfl) ?_
    refine ga_get S hK hP 0 rfl f_Sh_15 rfl d_Sh_put_15 ?_
    refine lv_iload_n hx hb d_Sh_put_18 rfl (lv_at hl 1 rfl) ?_
    refine ga_cst (ws' := [(shh, .inr (3, [.ref sha, .int (nI n)])), (sha, .inl (cC, 240, .inl (nA (va_up sg n ch))))]) S hK hP hD hS 1 2 rfl rfl n ch (by omega) (by decide) (by omega) rfl d_Sh_put_19 (fun H locs hP hD hS => ?_)
    refine lv_aload_n hx hb d_Sh_put_20 rfl (lv_at hl 0 rfl) ?_
    refine lv_dup hx hb d_Sh_put_21 rfl ?_
    refine ga_get S hK hP 0 rfl f_Sh_15 rfl d_Sh_put_22 ?_
    refine lv_iconst (v := 1) hx hb d_Sh_put_25 (by decide) ?_
    refine lv_iadd hx hb d_Sh_put_26 ?_
    refine ga_top (nI (n + 1)) (nI_add n 1) ?_
    refine ga_put (ws' := [(shh, .inr (3, [.ref sha, .int (nI (n + 1))])), (sha, .inl (cC, 240, .inl (nA (va_up sg n ch))))]) S hK hP hD hS 0 rfl p_Sh_15 rfl rfl (Nat.le_of_ble_eq_true rfl) rfl d_Sh_put_27 (fun H locs hP hD hS => ?_)
    exact ga_wv () S hrt hlk (by rw [he]; exact hP) (by rw [he]; exact hD) hS trivial d_Sh_put_30
end
section
set_option maxHeartbeats 4000000 in
set_option maxRecDepth 100000 in
theorem gc_Re_isFine (l : Launch) (D : va_G) (cI cZ cC cG : ClassId) (re te dr pos : Nat) (tr : Option Nat) (htr : ∀ t, tr = some t → t < 2 ^ 31) : ga_Mr l y_Re_isFine b_Re_isFine 1 (some .boolean) 0 D (ga_T cI cZ cC cG) [.ref re] [(re, .inr (2, [.ref te, .ref dr, .int (nI pos), .int (tI tr)]))] (fun r => (r = 1 ∧ tr = none) ∨ (r = 0 ∧ tr ≠ none)) := by
  refine ga_enR (by decide) (Nat.le_of_ble_eq_true rfl) ?_
  intro p e s m below meth c ls S hrt hlk hK hP hl
  obtain ⟨hx, hb, hml, hown, hts⟩ := id S
  have hl : lv_has ls 1 [(0, .ref re)] := hl
  refine lv_aload_n hx hb d_Re_isFine_0 rfl (lv_at hl 0 rfl) ?_
  refine ga_get S hK hP 0 rfl f_Re_25 rfl d_Re_isFine_1 ?_
  refine lv_iconst (v := (-1)) hx hb d_Re_isFine_4 (by decide) ?_
  refine lv_icmp_ne (tgt := 12) hx hb d_Re_isFine_5 (by decide) (fun c5 => ?_) (fun c5 => ?_)
  · have c5 : tr ≠ none := fun q => c5 (by rw [q]; rfl)
    refine lv_iconst (v := 0) hx hb d_Re_isFine_12 (by decide) ?_
    exact ga_rz S hrt hlk (Or.inl rfl) (Or.inr ⟨rfl, c5⟩) d_Re_isFine_13
  · have c5 : tr = none := tI_none htr c5
    refine lv_iconst (v := 1) hx hb d_Re_isFine_8 (by decide) ?_
    refine lv_goto (tgt := 13) hx hb d_Re_isFine_9 (by decide) ?_
    exact ga_rz S hrt hlk (Or.inr rfl) (Or.inl ⟨rfl, c5⟩) d_Re_isFine_13
set_option maxHeartbeats 4000000 in
set_option maxRecDepth 100000 in
theorem gc_Re_readSign (l : Launch) (D : va_G) (cI cZ cC cG : ClassId) (re te ta dr n pos : Nat) (sg : Nat → Nat) (tr : Option Nat) (hn : n ≤ 600) (hpos : pos ≤ n) (htr : ∀ t, tr = some t → t ≤ n) (ch : Nat) (hch : ch < 2 ^ 31) (hsg : ∀ j, sg j < 2 ^ 31) : ga_Mv l y_Re_readSign b_Re_readSign 2 1 0 0 D (ga_T cI cZ cC cG) [.ref re, .int (nI ch)] [(re, .inr (2, [.ref te, .ref dr, .int (nI pos), .int (tI tr)])), (te, .inr (4, [.ref ta, .int (nI n)])), (ta, .inl (cC, 600, .inl (nA sg)))] (fun (x : Nat × Option Nat) => [(re, .inr (2, [.ref te, .ref dr, .int (nI x.1), .int (tI x.2)])), (te, .inr (4, [.ref ta, .int (nI n)])), (ta, .inl (cC, 600, .inl (nA sg)))]) (fun x => x = gp_rs sg n ch (pos, tr)) := by
  refine ga_enV (by decide) (Nat.le_of_ble_eq_true rfl) ?_
  intro p e s m below meth c ls A S hrt hlk hnm hK hP hD hA hl
  have hS : va_S A s.heap s.heap [] := va_S.rf
  obtain ⟨hx, hb, hml, hown, hts⟩ := id S
  have hl : lv_has ls 2 [(0, .ref re), (1, .int (nI ch))] := hl
  refine lv_aload_n hx hb d_Re_readSign_0 rfl (lv_at hl 0 rfl) ?_
  refine ga_cr (As := []) (rest := []) (q0 := 0) S hK hP s_Re_38 (gc_Re_isFine l D cI cZ cC cG re te dr pos tr (fun t q => by have := htr t q; omega)) [0] rfl rfl rfl rfl hl.1 rfl (Nat.le_of_ble_eq_true rfl) ⟨Nat.le_of_ble_eq_true rfl, Nat.le_of_ble_eq_true rfl⟩ ⟨Nat.le_of_ble_eq_true rfl, Nat.le_of_ble_eq_true rfl⟩ d_Re_readSign_1 (fun r hp1 => ?_)
  rcases hp1 with ⟨rfl, hp1⟩ | ⟨rfl, hp1⟩
  · subst hp1
    refine lv_if_ne (tgt := 8) hx hb d_Re_readSign_4 (by decide) (fun c4 => ?_) (fun c4 => ?_)
    · refine lv_aload_n hx hb d_Re_readSign_8 rfl (lv_at hl 0 rfl) ?_
      refine ga_get S hK hP 0 rfl f_Re_12 rfl d_Re_readSign_9 ?_
      refine lv_aload_n hx hb d_Re_readSign_12 rfl (lv_at hl 0 rfl) ?_
      refine ga_get S hK hP 0 rfl f_Re_32 rfl d_Re_readSign_13 ?_
      refine ga_cr (As := [.int (nI pos)]) (rest := []) (q0 := 1) S hK hP s_Re_45 (gc_Te_signAt l D cI cZ cC cG te ta n pos sg (by omega) (by omega)) [1, 2] rfl rfl rfl rfl hl.1 rfl (Nat.le_of_ble_eq_true rfl) ⟨Nat.le_of_ble_eq_true rfl, Nat.le_of_ble_eq_true rfl⟩ ⟨Nat.le_of_ble_eq_true rfl, Nat.le_of_ble_eq_true rfl⟩ d_Re_readSign_16 (fun r hp16 => ?_)
      subst hp16
      have hg := gp_sg_lt hsg n pos
      refine lv_iload_n hx hb d_Re_readSign_19 rfl (lv_at hl 1 rfl) ?_
      refine lv_icmp_ne (tgt := 36) hx hb d_Re_readSign_20 (by decide) (fun c20 => ?_) (fun c20 => ?_)
      · have c20 : ¬ ((gp_sg sg n pos) = ch) := fun q => c20 ((nI_eq (a := (gp_sg sg n pos)) (b := ch) (by omega) (by omega)).mpr q)
        refine lv_aload_n hx hb d_Re_readSign_36 rfl (lv_at hl 0 rfl) ?_
        refine lv_aload_n hx hb d_Re_readSign_37 rfl (lv_at hl 0 rfl) ?_
        refine ga_get S hK hP 0 rfl f_Re_32 rfl d_Re_readSign_38 ?_
        refine ga_put (ws' := [(re, .inr (2, [.ref te, .ref dr, .int (nI pos), .int (nI pos)])), (te, .inr (4, [.ref ta, .int (nI n)])), (ta, .inl (cC, 600, .inl (nA sg)))]) S hK hP hD hS 0 rfl p_Re_25 rfl rfl (Nat.le_of_ble_eq_true rfl) rfl d_Re_readSign_41 (fun H locs hP hD hS => ?_)
        exact ga_wv (pos, some pos) S hrt hlk hP hD hS (by rw [gp_rs, if_pos rfl, if_neg c20]) d_Re_readSign_44
      · have c20 : (gp_sg sg n pos) = ch := (nI_eq (a := (gp_sg sg n pos)) (b := ch) (by omega) (by omega)).mp c20
        refine lv_aload_n hx hb d_Re_readSign_23 rfl (lv_at hl 0 rfl) ?_
        refine lv_dup hx hb d_Re_readSign_24 rfl ?_
        refine ga_get S hK hP 0 rfl f_Re_32 rfl d_Re_readSign_25 ?_
        refine lv_iconst (v := 1) hx hb d_Re_readSign_28 (by decide) ?_
        refine lv_iadd hx hb d_Re_readSign_29 ?_
        refine ga_top (nI (pos + 1)) (nI_add pos 1) ?_
        refine ga_put (ws' := [(re, .inr (2, [.ref te, .ref dr, .int (nI (pos + 1)), .int (tI none)])), (te, .inr (4, [.ref ta, .int (nI n)])), (ta, .inl (cC, 600, .inl (nA sg)))]) S hK hP hD hS 0 rfl p_Re_32 rfl rfl (Nat.le_of_ble_eq_true rfl) rfl d_Re_readSign_30 (fun H locs hP hD hS => ?_)
        refine lv_goto (tgt := 44) hx hb d_Re_readSign_33 (by decide) ?_
        exact ga_wv (pos + 1, none) S hrt hlk hP hD hS (by rw [gp_rs, if_pos rfl, if_pos c20]) d_Re_readSign_44
    · exact absurd c4 (by decide)
  · refine lv_if_ne (tgt := 8) hx hb d_Re_readSign_4 (by decide) (fun c4 => ?_) (fun c4 => ?_)
    · exact absurd c4 (by decide)
    · exact ga_wv (pos, tr) S hrt hlk hP hD hS (by rw [gp_rs, if_neg hp1]) d_Re_readSign_7
set_option maxHeartbeats 4000000 in
set_option maxRecDepth 100000 in
theorem gc_Re_readPlus (l : Launch) (D : va_G) (cI cZ cC cG : ClassId) (re te ta dr n pos : Nat) (sg : Nat → Nat) (tr : Option Nat) (hn : n ≤ 600) (hpos : pos ≤ n) (htr : ∀ t, tr = some t → t ≤ n) (hsg : ∀ j, sg j < 2 ^ 31) : ga_Mi l y_Re_readPlus b_Re_readPlus 1 (some .boolean) 1 0 0 D (ga_T cI cZ cC cG) [.ref re] [(re, .inr (2, [.ref te, .ref dr, .int (nI pos), .int (tI tr)])), (te, .inr (4, [.ref ta, .int (nI n)])), (ta, .inl (cC, 600, .inl (nA sg)))] (fun (x : Bool × Nat) => [(re, .inr (2, [.ref te, .ref dr, .int (nI x.2), .int (tI tr)])), (te, .inr (4, [.ref ta, .int (nI n)])), (ta, .inl (cC, 600, .inl (nA sg)))]) (fun r x => r = bI x.1 ∧ x = gp_rp sg n (pos, tr)) := by
  refine ga_enI (by decide) (Nat.le_of_ble_eq_true rfl) ?_
  intro p e s m below meth c ls A S hrt hlk hK hP hD hA hl
  have hS : va_S A s.heap s.heap [] := va_S.rf
  obtain ⟨hx, hb, hml, hown, hts⟩ := id S
  have hl : lv_has ls 1 [(0, .ref re)] := hl
  refine lv_aload_n hx hb d_Re_readPlus_0 rfl (lv_at hl 0 rfl) ?_
  refine ga_cr (As := []) (rest := []) (q0 := 0) S hK hP s_Re_38 (gc_Re_isFine l D cI cZ cC cG re te dr pos tr (fun t q => by have := htr t q; omega)) [0] rfl rfl rfl rfl hl.1 rfl (Nat.le_of_ble_eq_true rfl) ⟨Nat.le_of_ble_eq_true rfl, Nat.le_of_ble_eq_true rfl⟩ ⟨Nat.le_of_ble_eq_true rfl, Nat.le_of_ble_eq_true rfl⟩ d_Re_readPlus_1 (fun r hp1 => ?_)
  rcases hp1 with ⟨rfl, hp1⟩ | ⟨rfl, hp1⟩
  · subst hp1
    refine lv_if_eq (tgt := 23) hx hb d_Re_readPlus_4 (by decide) (fun c4 => ?_) (fun c4 => ?_)
    · exact absurd c4 (by decide)
    · refine lv_aload_n hx hb d_Re_readPlus_7 rfl (lv_at hl 0 rfl) ?_
      refine ga_get S hK hP 0 rfl f_Re_12 rfl d_Re_readPlus_8 ?_
      refine lv_aload_n hx hb d_Re_readPlus_11 rfl (lv_at hl 0 rfl) ?_
      refine ga_get S hK hP 0 rfl f_Re_32 rfl d_Re_readPlus_12 ?_
      refine ga_cr (As := [.int (nI pos)]) (rest := []) (q0 := 1) S hK hP s_Re_45 (gc_Te_signAt l D cI cZ cC cG te ta n pos sg (by omega) (by omega)) [1, 2] rfl rfl rfl rfl hl.1 rfl (Nat.le_of_ble_eq_true rfl) ⟨Nat.le_of_ble_eq_true rfl, Nat.le_of_ble_eq_true rfl⟩ ⟨Nat.le_of_ble_eq_true rfl, Nat.le_of_ble_eq_true rfl⟩ d_Re_readPlus_15 (fun r hp15 => ?_)
      subst hp15
      have hg := gp_sg_lt hsg n pos
      refine lv_bipush (v := 43) hx hb d_Re_readPlus_18 (by decide) ?_
      refine lv_icmp_eq (tgt := 25) hx hb d_Re_readPlus_20 (by decide) (fun c20 => ?_) (fun c20 => ?_)
      · have c20 : (gp_sg sg n pos) = 43 := (nI_eq (a := (gp_sg sg n pos)) (b := 43) (by omega) (by omega)).mp c20
        refine lv_aload_n hx hb d_Re_readPlus_25 rfl (lv_at hl 0 rfl) ?_
        refine lv_dup hx hb d_Re_readPlus_26 rfl ?_
        refine ga_get S hK hP 0 rfl f_Re_32 rfl d_Re_readPlus_27 ?_
        refine lv_iconst (v := 1) hx hb d_Re_readPlus_30 (by decide) ?_
        refine lv_iadd hx hb d_Re_readPlus_31 ?_
        refine ga_top (nI (pos + 1)) (nI_add pos 1) ?_
        refine ga_put (ws' := [(re, .inr (2, [.ref te, .ref dr, .int (nI (pos + 1)), .int (tI none)])), (te, .inr (4, [.ref ta, .int (nI n)])), (ta, .inl (cC, 600, .inl (nA sg)))]) S hK hP hD hS 0 rfl p_Re_32 rfl rfl (Nat.le_of_ble_eq_true rfl) rfl d_Re_readPlus_32 (fun H locs hP hD hS => ?_)
        refine lv_iconst (v := 1) hx hb d_Re_readPlus_35 (by decide) ?_
        exact ga_wz (true, pos + 1) S hrt hlk (Or.inr rfl) hP hD hS ⟨rfl, by rw [gp_rp, if_pos ⟨rfl, c20⟩]⟩ d_Re_readPlus_36
      · have c20 : ¬ ((gp_sg sg n pos) = 43) := fun q => c20 ((nI_eq (a := (gp_sg sg n pos)) (b := 43) (by omega) (by omega)).mpr q)
        refine lv_iconst (v := 0) hx hb d_Re_readPlus_23 (by decide) ?_
        exact ga_wz (false, pos) S hrt hlk (Or.inl rfl) hP hD hS ⟨rfl, by rw [gp_rp, if_neg (fun q => by first | exact hp1 q.1 | exact c20 q.2)]⟩ d_Re_readPlus_24
  · refine lv_if_eq (tgt := 23) hx hb d_Re_readPlus_4 (by decide) (fun c4 => ?_) (fun c4 => ?_)
    · refine lv_iconst (v := 0) hx hb d_Re_readPlus_23 (by decide) ?_
      exact ga_wz (false, pos) S hrt hlk (Or.inl rfl) hP hD hS ⟨rfl, by rw [gp_rp, if_neg (fun q => by first | exact hp1 q.1 | exact c20 q.2)]⟩ d_Re_readPlus_24
    · exact absurd c4 (by decide)
set_option maxHeartbeats 4000000 in
set_option maxRecDepth 100000 in
theorem gc_Re_readNumber (l : Launch) (D : va_G) (cI cZ cC cG : ClassId) (re te ta dr n pos : Nat) (sg : Nat → Nat) (tr : Option Nat) (hn : n ≤ 600) (hpos : pos ≤ n) (htr : ∀ t, tr = some t → t ≤ n) (lo hi : Nat) (hlo : lo < 2 ^ 31) (hhi : hi < 2 ^ 31) (hsg : ∀ j, sg j < 2 ^ 31) : ga_Mi l y_Re_readNumber b_Re_readNumber 6 (some .int) 2 0 0 D (ga_T cI cZ cC cG) [.ref re, .int (nI lo), .int (nI hi)] [(re, .inr (2, [.ref te, .ref dr, .int (nI pos), .int (tI tr)])), (te, .inr (4, [.ref ta, .int (nI n)])), (ta, .inl (cC, 600, .inl (nA sg)))] (fun (x : Nat × Nat × Option Nat) => [(re, .inr (2, [.ref te, .ref dr, .int (nI x.2.1), .int (tI x.2.2)])), (te, .inr (4, [.ref ta, .int (nI n)])), (ta, .inl (cC, 600, .inl (nA sg)))]) (fun r x => r = nI x.1 ∧ x = gp_rn sg n lo hi (pos, tr)) := by
  refine ga_enI (by decide) (Nat.le_of_ble_eq_true rfl) ?_
  intro p e s m below meth c ls A S hrt hlk hK hP hD hA hl
  have hS : va_S A s.heap s.heap [] := va_S.rf
  obtain ⟨hx, hb, hml, hown, hts⟩ := id S
  have hl : lv_has ls 6 [(0, .ref re), (1, .int (nI lo)), (2, .int (nI hi))] := hl
  refine lv_aload_n hx hb d_Re_readNumber_0 rfl (lv_at hl 0 rfl) ?_
  refine ga_cr (As := []) (rest := []) (q0 := 0) S hK hP s_Re_38 (gc_Re_isFine l D cI cZ cC cG re te dr pos tr (fun t q => by have := htr t q; omega)) [0] rfl rfl rfl rfl hl.1 rfl (Nat.le_of_ble_eq_true rfl) ⟨Nat.le_of_ble_eq_true rfl, Nat.le_of_ble_eq_true rfl⟩ ⟨Nat.le_of_ble_eq_true rfl, Nat.le_of_ble_eq_true rfl⟩ d_Re_readNumber_1 (fun r hp1 => ?_)
  rcases hp1 with ⟨rfl, hp1⟩ | ⟨rfl, hp1⟩
  · subst hp1
    refine lv_if_ne (tgt := 9) hx hb d_Re_readNumber_4 (by decide) (fun c4 => ?_) (fun c4 => ?_)
    · refine lv_aload_n hx hb d_Re_readNumber_9 rfl (lv_at hl 0 rfl) ?_
      refine ga_get S hK hP 0 rfl f_Re_32 rfl d_Re_readNumber_10 ?_
      refine lv_istore_n (lv' := [(3, .int (nI pos)), (0, .ref re), (1, .int (nI lo)), (2, .int (nI hi))]) hx hb d_Re_readNumber_13 rfl hl (by decide) rfl (fun ls hl => ?_)
      refine lv_iconst (v := 0) hx hb d_Re_readNumber_14 (by decide) ?_
      refine lv_istore (lv' := [(4, .int 0), (3, .int (nI pos)), (0, .ref re), (1, .int (nI lo)), (2, .int (nI hi))]) hx hb d_Re_readNumber_15 hl (by decide) rfl (fun ls hl => ?_)
      refine lv_iconst (v := 0) hx hb d_Re_readNumber_17 (by decide) ?_
      refine lv_istore (lv' := [(5, .int 0), (4, .int 0), (3, .int (nI pos)), (0, .ref re), (1, .int (nI lo)), (2, .int (nI hi))]) hx hb d_Re_readNumber_18 hl (by decide) rfl (fun ls hl => ?_)
      refine ga_loop (α := Nat × Nat × Nat) (fun x => match x with | (fg, nu, po) => 4 - fg) (fun x ls H locs => match x with | (fg, nu, po) => lv_has ls 6 [(5, .int (nI fg)), (4, .int (nI nu)), (3, .int (nI pos)), (0, .ref re), (1, .int (nI lo)), (2, .int (nI hi))] ∧ va_P D vwCl [(re, .inr (2, [.ref te, .ref dr, .int (nI po), .int (tI none)])), (te, .inr (4, [.ref ta, .int (nI n)])), (ta, .inl (cC, 600, .inl (nA sg)))] H ∧ va_D A [(re, .inr (2, [.ref te, .ref dr, .int (nI po), .int (tI none)])), (te, .inr (4, [.ref ta, .int (nI n)])), (ta, .inl (cC, 600, .inl (nA sg)))] ∧ va_S A s.heap H locs ∧ fg ≤ 4 ∧ po ≤ n ∧ nu < 10 ^ fg ∧ gp_dg sg n (4 - fg) po nu = gp_dg sg n 4 pos 0) ?_ (0, 0, pos) ⟨lv_sub hl [0, 1, 2, 3, 4, 5] rfl, hP, hD, hS, ⟨by decide, hpos, by decide, rfl⟩⟩
      intro x ls H locs hI ih
      obtain ⟨fg, nu, po⟩ := x
      obtain ⟨hl, hP, hD, hS, ⟨hfg, hpo, hnu, hiv⟩⟩ := hI
      have hl : lv_has ls 6 [(5, .int (nI fg)), (4, .int (nI nu)), (3, .int (nI pos)), (0, .ref re), (1, .int (nI lo)), (2, .int (nI hi))] := hl
      have hP : va_P D vwCl [(re, .inr (2, [.ref te, .ref dr, .int (nI po), .int (tI none)])), (te, .inr (4, [.ref ta, .int (nI n)])), (ta, .inl (cC, 600, .inl (nA sg)))] H := hP
      have hD : va_D A [(re, .inr (2, [.ref te, .ref dr, .int (nI po), .int (tI none)])), (te, .inr (4, [.ref ta, .int (nI n)])), (ta, .inl (cC, 600, .inl (nA sg)))] := hD
      have h10 := gp_p10 hfg
      refine lv_iload hx hb d_Re_readNumber_20 (lv_at hl 0 rfl) ?_
      refine lv_iconst (v := 4) hx hb d_Re_readNumber_22 (by decide) ?_
      refine lv_icmp_ge (tgt := 81) hx hb d_Re_readNumber_23 (by decide) (fun c23 => ?_) (fun c23 => ?_)
      · have c23 : 4 ≤ fg := (nI_leI (a := 4) (b := fg) (by omega) (by omega)).mp c23
        have hq : gp_dg sg n 4 pos 0 = (nu, po) := by rw [← hiv, show 4 - fg = 0 by omega]; rfl
        refine lv_aload_n hx hb d_Re_readNumber_81 rfl (lv_at hl 3 rfl) ?_
        refine ga_get S hK hP 0 rfl f_Re_32 rfl d_Re_readNumber_82 ?_
        refine lv_iload_n hx hb d_Re_readNumber_85 rfl (lv_at hl 2 rfl) ?_
        refine lv_icmp_eq (tgt := 99) hx hb d_Re_readNumber_86 (by decide) (fun c86 => ?_) (fun c86 => ?_)
        · have c86 : po = pos := (nI_eq (a := po) (b := pos) (by omega) (by omega)).mp c86
          refine lv_aload_n hx hb d_Re_readNumber_99 rfl (lv_at hl 3 rfl) ?_
          refine lv_iload_n hx hb d_Re_readNumber_100 rfl (lv_at hl 2 rfl) ?_
          refine ga_put (ws' := [(re, .inr (2, [.ref te, .ref dr, .int (nI po), .int (nI pos)])), (te, .inr (4, [.ref ta, .int (nI n)])), (ta, .inl (cC, 600, .inl (nA sg)))]) S hK hP hD hS 0 rfl p_Re_25 rfl rfl (Nat.le_of_ble_eq_true rfl) rfl d_Re_readNumber_101 (fun H locs hP hD hS => ?_)
          refine lv_iload_n hx hb d_Re_readNumber_104 rfl (lv_at hl 4 rfl) ?_
          exact ga_wi (lo, po, some pos) S hrt hlk hP hD hS ⟨rfl, (gp_rn_bad hq (by first | exact Or.inl c86 | exact Or.inr hp93)).symm⟩ d_Re_readNumber_105
        · have c86 : ¬ (po = pos) := fun q => c86 ((nI_eq (a := po) (b := pos) (by omega) (by omega)).mpr q)
          refine lv_iload hx hb d_Re_readNumber_89 (lv_at hl 1 rfl) ?_
          refine lv_iload_n hx hb d_Re_readNumber_91 rfl (lv_at hl 4 rfl) ?_
          refine lv_iload_n hx hb d_Re_readNumber_92 rfl (lv_at hl 5 rfl) ?_
          refine ga_cs (As := [.int (nI nu), .int (nI lo), .int (nI hi)]) (rest := []) S hK hP s_Re_90 (gc_SP_isWithin l D cI cZ cC cG (nI nu) (nI lo) (nI hi)) [] rfl rfl hl.1 rfl (Nat.le_of_ble_eq_true rfl) ⟨Nat.le_of_ble_eq_true rfl, Nat.le_of_ble_eq_true rfl⟩ ⟨Nat.le_of_ble_eq_true rfl, Nat.le_of_ble_eq_true rfl⟩ d_Re_readNumber_93 (fun r hp93 => ?_)
          rcases hp93 with ⟨rfl, hp93⟩ | ⟨rfl, hp93⟩
          · have hp93 : lo ≤ nu ∧ nu ≤ hi := ⟨(nI_leI (a := lo) (b := nu) (by omega) (by omega)).mp hp93.1, (nI_leI (a := nu) (b := hi) (by omega) (by omega)).mp hp93.2⟩
            refine lv_if_ne (tgt := 106) hx hb d_Re_readNumber_96 (by decide) (fun c96 => ?_) (fun c96 => ?_)
            · refine lv_iload hx hb d_Re_readNumber_106 (lv_at hl 1 rfl) ?_
              exact ga_wi (nu, po, none) S hrt hlk hP hD hS ⟨rfl, (gp_rn_ok hq c86 hp93).symm⟩ d_Re_readNumber_108
            · exact absurd c96 (by decide)
          · have hp93 : ¬ (lo ≤ nu ∧ nu ≤ hi) := fun q => hp93 ⟨(nI_leI (a := lo) (b := nu) (by omega) (by omega)).mpr q.1, (nI_leI (a := nu) (b := hi) (by omega) (by omega)).mpr q.2⟩
            refine lv_if_ne (tgt := 106) hx hb d_Re_readNumber_96 (by decide) (fun c96 => ?_) (fun c96 => ?_)
            · exact absurd c96 (by decide)
            · refine lv_aload_n hx hb d_Re_readNumber_99 rfl (lv_at hl 3 rfl) ?_
              refine lv_iload_n hx hb d_Re_readNumber_100 rfl (lv_at hl 2 rfl) ?_
              refine ga_put (ws' := [(re, .inr (2, [.ref te, .ref dr, .int (nI po), .int (nI pos)])), (te, .inr (4, [.ref ta, .int (nI n)])), (ta, .inl (cC, 600, .inl (nA sg)))]) S hK hP hD hS 0 rfl p_Re_25 rfl rfl (Nat.le_of_ble_eq_true rfl) rfl d_Re_readNumber_101 (fun H locs hP hD hS => ?_)
              refine lv_iload_n hx hb d_Re_readNumber_104 rfl (lv_at hl 4 rfl) ?_
              exact ga_wi (lo, po, some pos) S hrt hlk hP hD hS ⟨rfl, (gp_rn_bad hq (by first | exact Or.inl c86 | exact Or.inr hp93)).symm⟩ d_Re_readNumber_105
      · have c23 : ¬ (4 ≤ fg) := fun q => c23 ((nI_leI (a := 4) (b := fg) (by omega) (by omega)).mpr q)
        refine lv_aload_n hx hb d_Re_readNumber_26 rfl (lv_at hl 3 rfl) ?_
        refine ga_get S hK hP 0 rfl f_Re_12 rfl d_Re_readNumber_27 ?_
        refine lv_aload_n hx hb d_Re_readNumber_30 rfl (lv_at hl 3 rfl) ?_
        refine ga_get S hK hP 0 rfl f_Re_32 rfl d_Re_readNumber_31 ?_
        refine ga_cr (As := [.int (nI po)]) (rest := []) (q0 := 1) S hK hP s_Re_45 (gc_Te_signAt l D cI cZ cC cG te ta n po sg (by omega) (by omega)) [1, 2] rfl rfl rfl rfl hl.1 rfl (Nat.le_of_ble_eq_true rfl) ⟨Nat.le_of_ble_eq_true rfl, Nat.le_of_ble_eq_true rfl⟩ ⟨Nat.le_of_ble_eq_true rfl, Nat.le_of_ble_eq_true rfl⟩ d_Re_readNumber_34 (fun r hp34 => ?_)
        subst hp34
        have hg := gp_sg_lt hsg n po
        refine ga_cs (As := [.int (nI (gp_sg sg n po))]) (rest := []) S hK hP s_Re_86 (gc_Re_isFigure l D cI cZ cC cG (gp_sg sg n po) (by omega)) [] rfl rfl hl.1 rfl (Nat.le_of_ble_eq_true rfl) ⟨Nat.le_of_ble_eq_true rfl, Nat.le_of_ble_eq_true rfl⟩ ⟨Nat.le_of_ble_eq_true rfl, Nat.le_of_ble_eq_true rfl⟩ d_Re_readNumber_37 (fun r hp37 => ?_)
        rcases hp37 with ⟨rfl, hp37⟩ | ⟨rfl, hp37⟩
        · have hd : gp_dg sg n (4 - (fg + 1)) (po + 1) (((nu * 10) + (gp_sg sg n po)) - 48) = gp_dg sg n 4 pos 0 := by rw [← hiv, show 4 - fg = (4 - (fg + 1)) + 1 by omega, gp_dg, if_pos hp37]
          have hlt := gp_sg_pos (sg := sg) (n := n) (i := po) (by omega)
          refine lv_if_eq (tgt := 81) hx hb d_Re_readNumber_40 (by decide) (fun c40 => ?_) (fun c40 => ?_)
          · exact absurd c40 (by decide)
          · refine lv_iload hx hb d_Re_readNumber_43 (lv_at hl 1 rfl) ?_
            refine lv_bipush (v := 10) hx hb d_Re_readNumber_45 (by decide) ?_
            refine lv_imul hx hb d_Re_readNumber_47 ?_
            refine ga_top (nI (nu * 10)) (pk_mul nu 10) ?_
            refine lv_aload_n hx hb d_Re_readNumber_48 rfl (lv_at hl 3 rfl) ?_
            refine ga_get S hK hP 0 rfl f_Re_12 rfl d_Re_readNumber_49 ?_
            refine lv_aload_n hx hb d_Re_readNumber_52 rfl (lv_at hl 3 rfl) ?_
            refine ga_get S hK hP 0 rfl f_Re_32 rfl d_Re_readNumber_53 ?_
            refine ga_cr (As := [.int (nI po)]) (rest := [.int (nI (nu * 10))]) (q0 := 1) S hK hP s_Re_45 (gc_Te_signAt l D cI cZ cC cG te ta n po sg (by omega) (by omega)) [1, 2] rfl rfl rfl rfl hl.1 rfl (Nat.le_of_ble_eq_true rfl) ⟨Nat.le_of_ble_eq_true rfl, Nat.le_of_ble_eq_true rfl⟩ ⟨Nat.le_of_ble_eq_true rfl, Nat.le_of_ble_eq_true rfl⟩ d_Re_readNumber_56 (fun r hp56 => ?_)
            subst hp56
            refine lv_iadd hx hb d_Re_readNumber_59 ?_
            refine ga_top (nI ((nu * 10) + (gp_sg sg n po))) (nI_add (nu * 10) (gp_sg sg n po)) ?_
            refine lv_bipush (v := 48) hx hb d_Re_readNumber_60 (by decide) ?_
            refine lv_isub hx hb d_Re_readNumber_62 ?_
            refine ga_top (nI (((nu * 10) + (gp_sg sg n po)) - 48)) (pk_sub (a := ((nu * 10) + (gp_sg sg n po))) (b := 48) (by omega)) ?_
            refine lv_istore (lv' := [(4, .int (nI (((nu * 10) + (gp_sg sg n po)) - 48))), (5, .int (nI fg)), (3, .int (nI pos)), (0, .ref re), (1, .int (nI lo)), (2, .int (nI hi))]) hx hb d_Re_readNumber_63 hl (by decide) rfl (fun ls hl => ?_)
            refine lv_aload_n hx hb d_Re_readNumber_65 rfl (lv_at hl 3 rfl) ?_
            refine lv_dup hx hb d_Re_readNumber_66 rfl ?_
            refine ga_get S hK hP 0 rfl f_Re_32 rfl d_Re_readNumber_67 ?_
            refine lv_iconst (v := 1) hx hb d_Re_readNumber_70 (by decide) ?_
            refine lv_iadd hx hb d_Re_readNumber_71 ?_
            refine ga_top (nI (po + 1)) (nI_add po 1) ?_
            refine ga_put (ws' := [(re, .inr (2, [.ref te, .ref dr, .int (nI (po + 1)), .int (tI none)])), (te, .inr (4, [.ref ta, .int (nI n)])), (ta, .inl (cC, 600, .inl (nA sg)))]) S hK hP hD hS 0 rfl p_Re_32 rfl rfl (Nat.le_of_ble_eq_true rfl) rfl d_Re_readNumber_72 (fun H locs hP hD hS => ?_)
            refine lv_iinc (v := nI (fg + 1)) (lv' := [(5, .int (nI (fg + 1))), (4, .int (nI (((nu * 10) + (gp_sg sg n po)) - 48))), (3, .int (nI pos)), (0, .ref re), (1, .int (nI lo)), (2, .int (nI hi))]) hx hb d_Re_readNumber_75 hl (k := 1) rfl (ga_inc fg) (by decide) rfl (fun ls hl => ?_)
            refine lv_goto (tgt := 20) hx hb d_Re_readNumber_78 (by decide) ?_
            exact ih (fg + 1, ((nu * 10) + (gp_sg sg n po)) - 48, po + 1) _ _ _ (by show (4 - (fg + 1)) < (4 - fg); omega) ⟨lv_sub hl [0, 1, 2, 3, 4, 5] rfl, hP, hD, hS, by omega, by omega, by rw [Nat.pow_succ]; omega, hd⟩
        · have hq : gp_dg sg n 4 pos 0 = (nu, po) := by rw [← hiv, show 4 - fg = (4 - (fg + 1)) + 1 by omega, gp_dg, if_neg hp37]
          refine lv_if_eq (tgt := 81) hx hb d_Re_readNumber_40 (by decide) (fun c40 => ?_) (fun c40 => ?_)
          · refine lv_aload_n hx hb d_Re_readNumber_81 rfl (lv_at hl 3 rfl) ?_
            refine ga_get S hK hP 0 rfl f_Re_32 rfl d_Re_readNumber_82 ?_
            refine lv_iload_n hx hb d_Re_readNumber_85 rfl (lv_at hl 2 rfl) ?_
            refine lv_icmp_eq (tgt := 99) hx hb d_Re_readNumber_86 (by decide) (fun c86 => ?_) (fun c86 => ?_)
            · have c86 : po = pos := (nI_eq (a := po) (b := pos) (by omega) (by omega)).mp c86
              refine lv_aload_n hx hb d_Re_readNumber_99 rfl (lv_at hl 3 rfl) ?_
              refine lv_iload_n hx hb d_Re_readNumber_100 rfl (lv_at hl 2 rfl) ?_
              refine ga_put (ws' := [(re, .inr (2, [.ref te, .ref dr, .int (nI po), .int (nI pos)])), (te, .inr (4, [.ref ta, .int (nI n)])), (ta, .inl (cC, 600, .inl (nA sg)))]) S hK hP hD hS 0 rfl p_Re_25 rfl rfl (Nat.le_of_ble_eq_true rfl) rfl d_Re_readNumber_101 (fun H locs hP hD hS => ?_)
              refine lv_iload_n hx hb d_Re_readNumber_104 rfl (lv_at hl 4 rfl) ?_
              exact ga_wi (lo, po, some pos) S hrt hlk hP hD hS ⟨rfl, (gp_rn_bad hq (by first | exact Or.inl c86 | exact Or.inr hp93)).symm⟩ d_Re_readNumber_105
            · have c86 : ¬ (po = pos) := fun q => c86 ((nI_eq (a := po) (b := pos) (by omega) (by omega)).mpr q)
              refine lv_iload hx hb d_Re_readNumber_89 (lv_at hl 1 rfl) ?_
              refine lv_iload_n hx hb d_Re_readNumber_91 rfl (lv_at hl 4 rfl) ?_
              refine lv_iload_n hx hb d_Re_readNumber_92 rfl (lv_at hl 5 rfl) ?_
              refine ga_cs (As := [.int (nI nu), .int (nI lo), .int (nI hi)]) (rest := []) S hK hP s_Re_90 (gc_SP_isWithin l D cI cZ cC cG (nI nu) (nI lo) (nI hi)) [] rfl rfl hl.1 rfl (Nat.le_of_ble_eq_true rfl) ⟨Nat.le_of_ble_eq_true rfl, Nat.le_of_ble_eq_true rfl⟩ ⟨Nat.le_of_ble_eq_true rfl, Nat.le_of_ble_eq_true rfl⟩ d_Re_readNumber_93 (fun r hp93 => ?_)
              rcases hp93 with ⟨rfl, hp93⟩ | ⟨rfl, hp93⟩
              · have hp93 : lo ≤ nu ∧ nu ≤ hi := ⟨(nI_leI (a := lo) (b := nu) (by omega) (by omega)).mp hp93.1, (nI_leI (a := nu) (b := hi) (by omega) (by omega)).mp hp93.2⟩
                refine lv_if_ne (tgt := 106) hx hb d_Re_readNumber_96 (by decide) (fun c96 => ?_) (fun c96 => ?_)
                · refine lv_iload hx hb d_Re_readNumber_106 (lv_at hl 1 rfl) ?_
                  exact ga_wi (nu, po, none) S hrt hlk hP hD hS ⟨rfl, (gp_rn_ok hq c86 hp93).symm⟩ d_Re_readNumber_108
                · exact absurd c96 (by decide)
              · have hp93 : ¬ (lo ≤ nu ∧ nu ≤ hi) := fun q => hp93 ⟨(nI_leI (a := lo) (b := nu) (by omega) (by omega)).mpr q.1, (nI_leI (a := nu) (b := hi) (by omega) (by omega)).mpr q.2⟩
                refine lv_if_ne (tgt := 106) hx hb d_Re_readNumber_96 (by decide) (fun c96 => ?_) (fun c96 => ?_)
                · exact absurd c96 (by decide)
                · refine lv_aload_n hx hb d_Re_readNumber_99 rfl (lv_at hl 3 rfl) ?_
                  refine lv_iload_n hx hb d_Re_readNumber_100 rfl (lv_at hl 2 rfl) ?_
                  refine ga_put (ws' := [(re, .inr (2, [.ref te, .ref dr, .int (nI po), .int (nI pos)])), (te, .inr (4, [.ref ta, .int (nI n)])), (ta, .inl (cC, 600, .inl (nA sg)))]) S hK hP hD hS 0 rfl p_Re_25 rfl rfl (Nat.le_of_ble_eq_true rfl) rfl d_Re_readNumber_101 (fun H locs hP hD hS => ?_)
                  refine lv_iload_n hx hb d_Re_readNumber_104 rfl (lv_at hl 4 rfl) ?_
                  exact ga_wi (lo, po, some pos) S hrt hlk hP hD hS ⟨rfl, (gp_rn_bad hq (by first | exact Or.inl c86 | exact Or.inr hp93)).symm⟩ d_Re_readNumber_105
          · exact absurd c40 (by decide)
    · exact absurd c4 (by decide)
  · refine lv_if_ne (tgt := 9) hx hb d_Re_readNumber_4 (by decide) (fun c4 => ?_) (fun c4 => ?_)
    · exact absurd c4 (by decide)
    · refine lv_iload_n hx hb d_Re_readNumber_7 rfl (lv_at hl 1 rfl) ?_
      exact ga_wi (lo, pos, tr) S hrt hlk hP hD hS ⟨rfl, (gp_rn_some hp1).symm⟩ d_Re_readNumber_8
set_option maxHeartbeats 4000000 in
set_option maxRecDepth 100000 in
theorem gc_Re_readRange (l : Launch) (D : va_G) (cI cZ cC cG : ClassId) (re te ta dr n pos : Nat) (sg : Nat → Nat) (hn : n ≤ 600) (hpos : pos ≤ n) (q1 q2 q3 q4 q5 q6 q7 q8 q9 : Nat) (us : Nat → Bool) (r1 r2 r3 r4 : Nat → Nat) (rg : Nat) (hsg : ∀ j, sg j < 2 ^ 31) (hrg : 9 * rg + 1 ≤ pos) : ga_Mv l y_Re_readRange b_Re_readRange 5 3 0 0 D (ga_T cI cZ cC cG) [.ref re] [(re, .inr (2, [.ref te, .ref dr, .int (nI pos), .int (tI none)])), (te, .inr (4, [.ref ta, .int (nI n)])), (ta, .inl (cC, 600, .inl (nA sg))), (dr, .inr (1, [.ref q1, .ref q2, .ref q3, .ref q4, .ref q5, .ref q6, .ref q7, .ref q8, .ref q9, .int (nI rg)])), (q3, .inl (cZ, 41, .inl (zA us))), (q6, .inl (cI, 66, .inl (nA r1))), (q7, .inl (cI, 66, .inl (nA r2))), (q8, .inl (cI, 66, .inl (nA r3))), (q9, .inl (cI, 66, .inl (nA r4)))] (fun (x : Nat × Option Nat × (Nat → Bool) × (Nat → Nat) × (Nat → Nat) × (Nat → Nat) × (Nat → Nat) × Nat) => [(re, .inr (2, [.ref te, .ref dr, .int (nI x.1), .int (tI x.2.1)])), (te, .inr (4, [.ref ta, .int (nI n)])), (ta, .inl (cC, 600, .inl (nA sg))), (dr, .inr (1, [.ref q1, .ref q2, .ref q3, .ref q4, .ref q5, .ref q6, .ref q7, .ref q8, .ref q9, .int (nI x.2.2.2.2.2.2.2)])), (q3, .inl (cZ, 41, .inl (zA x.2.2.1))), (q6, .inl (cI, 66, .inl (nA x.2.2.2.1))), (q7, .inl (cI, 66, .inl (nA x.2.2.2.2.1))), (q8, .inl (cI, 66, .inl (nA x.2.2.2.2.2.1))), (q9, .inl (cI, 66, .inl (nA x.2.2.2.2.2.2.1)))]) (fun x => ∃ w1 w3 w5 w7, gp_T sg n pos = (w1, w3, w5, w7, x.1, x.2.1) ∧ ((x.2.1 = none ∧ x.2.2 = (va_up us w1 true, va_up r1 rg w1, va_up r2 rg w3, va_up r3 rg w5, va_up r4 rg w7, rg + 1)) ∨ (x.2.1 ≠ none ∧ x.2.2 = (us, r1, r2, r3, r4, rg)))) := by
  refine ga_enV (by decide) (Nat.le_of_ble_eq_true rfl) ?_
  intro p e s m below meth c ls A S hrt hlk hnm hK hP hD hA hl
  have hS : va_S A s.heap s.heap [] := va_S.rf
  obtain ⟨hx, hb, hml, hown, hts⟩ := id S
  have hl : lv_has ls 5 [(0, .ref re)] := hl
  have htr : ∀ t, (none : Option Nat) = some t → t ≤ n := (fun _ q => by cases q)
  refine lv_aload_n hx hb d_Re_readRange_0 rfl (lv_at hl 0 rfl) ?_
  refine lv_iconst (v := 1) hx hb d_Re_readRange_1 (by decide) ?_
  refine lv_bipush (v := 40) hx hb d_Re_readRange_2 (by decide) ?_
  refine ga_ji (wr := [(dr, .inr (1, [.ref q1, .ref q2, .ref q3, .ref q4, .ref q5, .ref q6, .ref q7, .ref q8, .ref q9, .int (nI rg)])), (q3, .inl (cZ, 41, .inl (zA us))), (q6, .inl (cI, 66, .inl (nA r1))), (q7, .inl (cI, 66, .inl (nA r2))), (q8, .inl (cI, 66, .inl (nA r3))), (q9, .inl (cI, 66, .inl (nA r4)))]) (ga_runV (As := [.int 1, .int 40]) (rest := []) S hK s_Re_59 (gc_Re_readNumber l D cI cZ cC cG re te ta dr n pos sg none (by omega) (by omega) htr 1 40 (by omega) (by omega) hsg _) (ga_prV (y := y_Re_readNumber) (q0 := 0) hK hP hD [0, 1, 2] rfl (by decide) rfl rfl) rfl hl.1 rfl (Nat.le_of_ble_eq_true rfl) ⟨Nat.le_of_ble_eq_true rfl, Nat.le_of_ble_eq_true rfl⟩ ⟨Nat.le_of_ble_eq_true rfl, Nat.le_of_ble_eq_true rfl⟩ d_Re_readRange_4) hP hD hS hA [0, 1, 2] [3, 4, 5, 6, 7, 8] rfl rfl (by decide) (by decide) [6, 7, 8, 0, 1, 2, 3, 4, 5] (fun (x : Nat × Nat × Option Nat) => [(re, .inr (2, [.ref te, .ref dr, .int (nI x.2.1), .int (tI x.2.2)])), (te, .inr (4, [.ref ta, .int (nI n)])), (ta, .inl (cC, 600, .inl (nA sg))), (dr, .inr (1, [.ref q1, .ref q2, .ref q3, .ref q4, .ref q5, .ref q6, .ref q7, .ref q8, .ref q9, .int (nI rg)])), (q3, .inl (cZ, 41, .inl (zA us))), (q6, .inl (cI, 66, .inl (nA r1))), (q7, .inl (cI, 66, .inl (nA r2))), (q8, .inl (cI, 66, .inl (nA r3))), (q9, .inl (cI, 66, .inl (nA r4)))]) (fun _ => rfl) (by decide) (fun r x H locs hp4 hP hD hS => ?_)
  obtain ⟨w1, po1, tr1⟩ := x
  have hP : va_P D vwCl [(re, .inr (2, [.ref te, .ref dr, .int (nI po1), .int (tI tr1)])), (te, .inr (4, [.ref ta, .int (nI n)])), (ta, .inl (cC, 600, .inl (nA sg))), (dr, .inr (1, [.ref q1, .ref q2, .ref q3, .ref q4, .ref q5, .ref q6, .ref q7, .ref q8, .ref q9, .int (nI rg)])), (q3, .inl (cZ, 41, .inl (zA us))), (q6, .inl (cI, 66, .inl (nA r1))), (q7, .inl (cI, 66, .inl (nA r2))), (q8, .inl (cI, 66, .inl (nA r3))), (q9, .inl (cI, 66, .inl (nA r4)))] H := hP
  have hD : va_D A [(re, .inr (2, [.ref te, .ref dr, .int (nI po1), .int (tI tr1)])), (te, .inr (4, [.ref ta, .int (nI n)])), (ta, .inl (cC, 600, .inl (nA sg))), (dr, .inr (1, [.ref q1, .ref q2, .ref q3, .ref q4, .ref q5, .ref q6, .ref q7, .ref q8, .ref q9, .int (nI rg)])), (q3, .inl (cZ, 41, .inl (zA us))), (q6, .inl (cI, 66, .inl (nA r1))), (q7, .inl (cI, 66, .inl (nA r2))), (q8, .inl (cI, 66, .inl (nA r3))), (q9, .inl (cI, 66, .inl (nA r4)))] := hD
  obtain ⟨rfl, hp4⟩ := hp4
  obtain ⟨ha1, hb1, hc1, hd1, he1, hf1⟩ := gp_rn_bd hp4 (by omega) (by omega) htr
  refine lv_istore_n (lv' := [(1, .int (nI w1)), (0, .ref re)]) hx hb d_Re_readRange_7 rfl hl (by decide) rfl (fun ls hl => ?_)
  refine lv_aload_n hx hb d_Re_readRange_8 rfl (lv_at hl 1 rfl) ?_
  refine lv_bipush (v := 44) hx hb d_Re_readRange_9 (by decide) ?_
  refine ga_jv (wr := [(dr, .inr (1, [.ref q1, .ref q2, .ref q3, .ref q4, .ref q5, .ref q6, .ref q7, .ref q8, .ref q9, .int (nI rg)])), (q3, .inl (cZ, 41, .inl (zA us))), (q6, .inl (cI, 66, .inl (nA r1))), (q7, .inl (cI, 66, .inl (nA r2))), (q8, .inl (cI, 66, .inl (nA r3))), (q9, .inl (cI, 66, .inl (nA r4)))]) (ga_runV (As := [.int 44]) (rest := []) S hK s_Re_63 (gc_Re_readSign l D cI cZ cC cG re te ta dr n po1 sg tr1 (by omega) (by omega) hf1 44 (by omega) hsg _) (ga_prV (y := y_Re_readSign) (q0 := 0) hK hP hD [0, 1, 2] rfl (by decide) rfl rfl) rfl hl.1 rfl (Nat.le_of_ble_eq_true rfl) ⟨Nat.le_of_ble_eq_true rfl, Nat.le_of_ble_eq_true rfl⟩ ⟨Nat.le_of_ble_eq_true rfl, Nat.le_of_ble_eq_true rfl⟩ d_Re_readRange_11) hP hD hS hA [0, 1, 2] [3, 4, 5, 6, 7, 8] rfl rfl (by decide) (by decide) [6, 7, 8, 0, 1, 2, 3, 4, 5] (fun (x : Nat × Option Nat) => [(re, .inr (2, [.ref te, .ref dr, .int (nI x.1), .int (tI x.2)])), (te, .inr (4, [.ref ta, .int (nI n)])), (ta, .inl (cC, 600, .inl (nA sg))), (dr, .inr (1, [.ref q1, .ref q2, .ref q3, .ref q4, .ref q5, .ref q6, .ref q7, .ref q8, .ref q9, .int (nI rg)])), (q3, .inl (cZ, 41, .inl (zA us))), (q6, .inl (cI, 66, .inl (nA r1))), (q7, .inl (cI, 66, .inl (nA r2))), (q8, .inl (cI, 66, .inl (nA r3))), (q9, .inl (cI, 66, .inl (nA r4)))]) (fun _ => rfl) (by decide) (fun x H locs hp11 hP hD hS => ?_)
  obtain ⟨po2, tr2⟩ := x
  have hP : va_P D vwCl [(re, .inr (2, [.ref te, .ref dr, .int (nI po2), .int (tI tr2)])), (te, .inr (4, [.ref ta, .int (nI n)])), (ta, .inl (cC, 600, .inl (nA sg))), (dr, .inr (1, [.ref q1, .ref q2, .ref q3, .ref q4, .ref q5, .ref q6, .ref q7, .ref q8, .ref q9, .int (nI rg)])), (q3, .inl (cZ, 41, .inl (zA us))), (q6, .inl (cI, 66, .inl (nA r1))), (q7, .inl (cI, 66, .inl (nA r2))), (q8, .inl (cI, 66, .inl (nA r3))), (q9, .inl (cI, 66, .inl (nA r4)))] H := hP
  have hD : va_D A [(re, .inr (2, [.ref te, .ref dr, .int (nI po2), .int (tI tr2)])), (te, .inr (4, [.ref ta, .int (nI n)])), (ta, .inl (cC, 600, .inl (nA sg))), (dr, .inr (1, [.ref q1, .ref q2, .ref q3, .ref q4, .ref q5, .ref q6, .ref q7, .ref q8, .ref q9, .int (nI rg)])), (q3, .inl (cZ, 41, .inl (zA us))), (q6, .inl (cI, 66, .inl (nA r1))), (q7, .inl (cI, 66, .inl (nA r2))), (q8, .inl (cI, 66, .inl (nA r3))), (q9, .inl (cI, 66, .inl (nA r4)))] := hD
  obtain ⟨hc2, hd2, he2, hf2⟩ := gp_rs_bd hp11 (by omega) (by omega) hf1
  refine lv_aload_n hx hb d_Re_readRange_14 rfl (lv_at hl 1 rfl) ?_
  refine lv_iconst (v := 0) hx hb d_Re_readRange_15 (by decide) ?_
  refine lv_sipush (v := 9999) hx hb d_Re_readRange_16 (by decide) ?_
  refine ga_ji (wr := [(dr, .inr (1, [.ref q1, .ref q2, .ref q3, .ref q4, .ref q5, .ref q6, .ref q7, .ref q8, .ref q9, .int (nI rg)])), (q3, .inl (cZ, 41, .inl (zA us))), (q6, .inl (cI, 66, .inl (nA r1))), (q7, .inl (cI, 66, .inl (nA r2))), (q8, .inl (cI, 66, .inl (nA r3))), (q9, .inl (cI, 66, .inl (nA r4)))]) (ga_runV (As := [.int 0, .int 9999]) (rest := []) S hK s_Re_59 (gc_Re_readNumber l D cI cZ cC cG re te ta dr n po2 sg tr2 (by omega) (by omega) hf2 0 9999 (by omega) (by omega) hsg _) (ga_prV (y := y_Re_readNumber) (q0 := 0) hK hP hD [0, 1, 2] rfl (by decide) rfl rfl) rfl hl.1 rfl (Nat.le_of_ble_eq_true rfl) ⟨Nat.le_of_ble_eq_true rfl, Nat.le_of_ble_eq_true rfl⟩ ⟨Nat.le_of_ble_eq_true rfl, Nat.le_of_ble_eq_true rfl⟩ d_Re_readRange_19) hP hD hS hA [0, 1, 2] [3, 4, 5, 6, 7, 8] rfl rfl (by decide) (by decide) [6, 7, 8, 0, 1, 2, 3, 4, 5] (fun (x : Nat × Nat × Option Nat) => [(re, .inr (2, [.ref te, .ref dr, .int (nI x.2.1), .int (tI x.2.2)])), (te, .inr (4, [.ref ta, .int (nI n)])), (ta, .inl (cC, 600, .inl (nA sg))), (dr, .inr (1, [.ref q1, .ref q2, .ref q3, .ref q4, .ref q5, .ref q6, .ref q7, .ref q8, .ref q9, .int (nI rg)])), (q3, .inl (cZ, 41, .inl (zA us))), (q6, .inl (cI, 66, .inl (nA r1))), (q7, .inl (cI, 66, .inl (nA r2))), (q8, .inl (cI, 66, .inl (nA r3))), (q9, .inl (cI, 66, .inl (nA r4)))]) (fun _ => rfl) (by decide) (fun r x H locs hp19 hP hD hS => ?_)
  obtain ⟨w3, po3, tr3⟩ := x
  have hP : va_P D vwCl [(re, .inr (2, [.ref te, .ref dr, .int (nI po3), .int (tI tr3)])), (te, .inr (4, [.ref ta, .int (nI n)])), (ta, .inl (cC, 600, .inl (nA sg))), (dr, .inr (1, [.ref q1, .ref q2, .ref q3, .ref q4, .ref q5, .ref q6, .ref q7, .ref q8, .ref q9, .int (nI rg)])), (q3, .inl (cZ, 41, .inl (zA us))), (q6, .inl (cI, 66, .inl (nA r1))), (q7, .inl (cI, 66, .inl (nA r2))), (q8, .inl (cI, 66, .inl (nA r3))), (q9, .inl (cI, 66, .inl (nA r4)))] H := hP
  have hD : va_D A [(re, .inr (2, [.ref te, .ref dr, .int (nI po3), .int (tI tr3)])), (te, .inr (4, [.ref ta, .int (nI n)])), (ta, .inl (cC, 600, .inl (nA sg))), (dr, .inr (1, [.ref q1, .ref q2, .ref q3, .ref q4, .ref q5, .ref q6, .ref q7, .ref q8, .ref q9, .int (nI rg)])), (q3, .inl (cZ, 41, .inl (zA us))), (q6, .inl (cI, 66, .inl (nA r1))), (q7, .inl (cI, 66, .inl (nA r2))), (q8, .inl (cI, 66, .inl (nA r3))), (q9, .inl (cI, 66, .inl (nA r4)))] := hD
  obtain ⟨rfl, hp19⟩ := hp19
  obtain ⟨ha3, hb3, hc3, hd3, he3, hf3⟩ := gp_rn_bd hp19 (by omega) (by omega) hf2
  refine lv_istore_n (lv' := [(2, .int (nI w3)), (1, .int (nI w1)), (0, .ref re)]) hx hb d_Re_readRange_22 rfl hl (by decide) rfl (fun ls hl => ?_)
  refine lv_aload_n hx hb d_Re_readRange_23 rfl (lv_at hl 2 rfl) ?_
  refine lv_bipush (v := 45) hx hb d_Re_readRange_24 (by decide) ?_
  refine ga_jv (wr := [(dr, .inr (1, [.ref q1, .ref q2, .ref q3, .ref q4, .ref q5, .ref q6, .ref q7, .ref q8, .ref q9, .int (nI rg)])), (q3, .inl (cZ, 41, .inl (zA us))), (q6, .inl (cI, 66, .inl (nA r1))), (q7, .inl (cI, 66, .inl (nA r2))), (q8, .inl (cI, 66, .inl (nA r3))), (q9, .inl (cI, 66, .inl (nA r4)))]) (ga_runV (As := [.int 45]) (rest := []) S hK s_Re_63 (gc_Re_readSign l D cI cZ cC cG re te ta dr n po3 sg tr3 (by omega) (by omega) hf3 45 (by omega) hsg _) (ga_prV (y := y_Re_readSign) (q0 := 0) hK hP hD [0, 1, 2] rfl (by decide) rfl rfl) rfl hl.1 rfl (Nat.le_of_ble_eq_true rfl) ⟨Nat.le_of_ble_eq_true rfl, Nat.le_of_ble_eq_true rfl⟩ ⟨Nat.le_of_ble_eq_true rfl, Nat.le_of_ble_eq_true rfl⟩ d_Re_readRange_26) hP hD hS hA [0, 1, 2] [3, 4, 5, 6, 7, 8] rfl rfl (by decide) (by decide) [6, 7, 8, 0, 1, 2, 3, 4, 5] (fun (x : Nat × Option Nat) => [(re, .inr (2, [.ref te, .ref dr, .int (nI x.1), .int (tI x.2)])), (te, .inr (4, [.ref ta, .int (nI n)])), (ta, .inl (cC, 600, .inl (nA sg))), (dr, .inr (1, [.ref q1, .ref q2, .ref q3, .ref q4, .ref q5, .ref q6, .ref q7, .ref q8, .ref q9, .int (nI rg)])), (q3, .inl (cZ, 41, .inl (zA us))), (q6, .inl (cI, 66, .inl (nA r1))), (q7, .inl (cI, 66, .inl (nA r2))), (q8, .inl (cI, 66, .inl (nA r3))), (q9, .inl (cI, 66, .inl (nA r4)))]) (fun _ => rfl) (by decide) (fun x H locs hp26 hP hD hS => ?_)
  obtain ⟨po4, tr4⟩ := x
  have hP : va_P D vwCl [(re, .inr (2, [.ref te, .ref dr, .int (nI po4), .int (tI tr4)])), (te, .inr (4, [.ref ta, .int (nI n)])), (ta, .inl (cC, 600, .inl (nA sg))), (dr, .inr (1, [.ref q1, .ref q2, .ref q3, .ref q4, .ref q5, .ref q6, .ref q7, .ref q8, .ref q9, .int (nI rg)])), (q3, .inl (cZ, 41, .inl (zA us))), (q6, .inl (cI, 66, .inl (nA r1))), (q7, .inl (cI, 66, .inl (nA r2))), (q8, .inl (cI, 66, .inl (nA r3))), (q9, .inl (cI, 66, .inl (nA r4)))] H := hP
  have hD : va_D A [(re, .inr (2, [.ref te, .ref dr, .int (nI po4), .int (tI tr4)])), (te, .inr (4, [.ref ta, .int (nI n)])), (ta, .inl (cC, 600, .inl (nA sg))), (dr, .inr (1, [.ref q1, .ref q2, .ref q3, .ref q4, .ref q5, .ref q6, .ref q7, .ref q8, .ref q9, .int (nI rg)])), (q3, .inl (cZ, 41, .inl (zA us))), (q6, .inl (cI, 66, .inl (nA r1))), (q7, .inl (cI, 66, .inl (nA r2))), (q8, .inl (cI, 66, .inl (nA r3))), (q9, .inl (cI, 66, .inl (nA r4)))] := hD
  obtain ⟨hc4, hd4, he4, hf4⟩ := gp_rs_bd hp26 (by omega) (by omega) hf3
  refine lv_aload_n hx hb d_Re_readRange_29 rfl (lv_at hl 2 rfl) ?_
  refine lv_iload_n hx hb d_Re_readRange_30 rfl (lv_at hl 0 rfl) ?_
  refine lv_sipush (v := 9999) hx hb d_Re_readRange_31 (by decide) ?_
  refine ga_ji (wr := [(dr, .inr (1, [.ref q1, .ref q2, .ref q3, .ref q4, .ref q5, .ref q6, .ref q7, .ref q8, .ref q9, .int (nI rg)])), (q3, .inl (cZ, 41, .inl (zA us))), (q6, .inl (cI, 66, .inl (nA r1))), (q7, .inl (cI, 66, .inl (nA r2))), (q8, .inl (cI, 66, .inl (nA r3))), (q9, .inl (cI, 66, .inl (nA r4)))]) (ga_runV (As := [.int (nI w3), .int 9999]) (rest := []) S hK s_Re_59 (gc_Re_readNumber l D cI cZ cC cG re te ta dr n po4 sg tr4 (by omega) (by omega) hf4 w3 9999 (by omega) (by omega) hsg _) (ga_prV (y := y_Re_readNumber) (q0 := 0) hK hP hD [0, 1, 2] rfl (by decide) rfl rfl) rfl hl.1 rfl (Nat.le_of_ble_eq_true rfl) ⟨Nat.le_of_ble_eq_true rfl, Nat.le_of_ble_eq_true rfl⟩ ⟨Nat.le_of_ble_eq_true rfl, Nat.le_of_ble_eq_true rfl⟩ d_Re_readRange_34) hP hD hS hA [0, 1, 2] [3, 4, 5, 6, 7, 8] rfl rfl (by decide) (by decide) [6, 7, 8, 0, 1, 2, 3, 4, 5] (fun (x : Nat × Nat × Option Nat) => [(re, .inr (2, [.ref te, .ref dr, .int (nI x.2.1), .int (tI x.2.2)])), (te, .inr (4, [.ref ta, .int (nI n)])), (ta, .inl (cC, 600, .inl (nA sg))), (dr, .inr (1, [.ref q1, .ref q2, .ref q3, .ref q4, .ref q5, .ref q6, .ref q7, .ref q8, .ref q9, .int (nI rg)])), (q3, .inl (cZ, 41, .inl (zA us))), (q6, .inl (cI, 66, .inl (nA r1))), (q7, .inl (cI, 66, .inl (nA r2))), (q8, .inl (cI, 66, .inl (nA r3))), (q9, .inl (cI, 66, .inl (nA r4)))]) (fun _ => rfl) (by decide) (fun r x H locs hp34 hP hD hS => ?_)
  obtain ⟨w5, po5, tr5⟩ := x
  have hP : va_P D vwCl [(re, .inr (2, [.ref te, .ref dr, .int (nI po5), .int (tI tr5)])), (te, .inr (4, [.ref ta, .int (nI n)])), (ta, .inl (cC, 600, .inl (nA sg))), (dr, .inr (1, [.ref q1, .ref q2, .ref q3, .ref q4, .ref q5, .ref q6, .ref q7, .ref q8, .ref q9, .int (nI rg)])), (q3, .inl (cZ, 41, .inl (zA us))), (q6, .inl (cI, 66, .inl (nA r1))), (q7, .inl (cI, 66, .inl (nA r2))), (q8, .inl (cI, 66, .inl (nA r3))), (q9, .inl (cI, 66, .inl (nA r4)))] H := hP
  have hD : va_D A [(re, .inr (2, [.ref te, .ref dr, .int (nI po5), .int (tI tr5)])), (te, .inr (4, [.ref ta, .int (nI n)])), (ta, .inl (cC, 600, .inl (nA sg))), (dr, .inr (1, [.ref q1, .ref q2, .ref q3, .ref q4, .ref q5, .ref q6, .ref q7, .ref q8, .ref q9, .int (nI rg)])), (q3, .inl (cZ, 41, .inl (zA us))), (q6, .inl (cI, 66, .inl (nA r1))), (q7, .inl (cI, 66, .inl (nA r2))), (q8, .inl (cI, 66, .inl (nA r3))), (q9, .inl (cI, 66, .inl (nA r4)))] := hD
  obtain ⟨rfl, hp34⟩ := hp34
  obtain ⟨ha5, hb5, hc5, hd5, he5, hf5⟩ := gp_rn_bd hp34 (by omega) (by omega) hf4
  refine lv_istore_n (lv' := [(3, .int (nI w5)), (2, .int (nI w3)), (1, .int (nI w1)), (0, .ref re)]) hx hb d_Re_readRange_37 rfl hl (by decide) rfl (fun ls hl => ?_)
  refine lv_aload_n hx hb d_Re_readRange_38 rfl (lv_at hl 3 rfl) ?_
  refine lv_bipush (v := 44) hx hb d_Re_readRange_39 (by decide) ?_
  refine ga_jv (wr := [(dr, .inr (1, [.ref q1, .ref q2, .ref q3, .ref q4, .ref q5, .ref q6, .ref q7, .ref q8, .ref q9, .int (nI rg)])), (q3, .inl (cZ, 41, .inl (zA us))), (q6, .inl (cI, 66, .inl (nA r1))), (q7, .inl (cI, 66, .inl (nA r2))), (q8, .inl (cI, 66, .inl (nA r3))), (q9, .inl (cI, 66, .inl (nA r4)))]) (ga_runV (As := [.int 44]) (rest := []) S hK s_Re_63 (gc_Re_readSign l D cI cZ cC cG re te ta dr n po5 sg tr5 (by omega) (by omega) hf5 44 (by omega) hsg _) (ga_prV (y := y_Re_readSign) (q0 := 0) hK hP hD [0, 1, 2] rfl (by decide) rfl rfl) rfl hl.1 rfl (Nat.le_of_ble_eq_true rfl) ⟨Nat.le_of_ble_eq_true rfl, Nat.le_of_ble_eq_true rfl⟩ ⟨Nat.le_of_ble_eq_true rfl, Nat.le_of_ble_eq_true rfl⟩ d_Re_readRange_41) hP hD hS hA [0, 1, 2] [3, 4, 5, 6, 7, 8] rfl rfl (by decide) (by decide) [6, 7, 8, 0, 1, 2, 3, 4, 5] (fun (x : Nat × Option Nat) => [(re, .inr (2, [.ref te, .ref dr, .int (nI x.1), .int (tI x.2)])), (te, .inr (4, [.ref ta, .int (nI n)])), (ta, .inl (cC, 600, .inl (nA sg))), (dr, .inr (1, [.ref q1, .ref q2, .ref q3, .ref q4, .ref q5, .ref q6, .ref q7, .ref q8, .ref q9, .int (nI rg)])), (q3, .inl (cZ, 41, .inl (zA us))), (q6, .inl (cI, 66, .inl (nA r1))), (q7, .inl (cI, 66, .inl (nA r2))), (q8, .inl (cI, 66, .inl (nA r3))), (q9, .inl (cI, 66, .inl (nA r4)))]) (fun _ => rfl) (by decide) (fun x H locs hp41 hP hD hS => ?_)
  obtain ⟨po6, tr6⟩ := x
  have hP : va_P D vwCl [(re, .inr (2, [.ref te, .ref dr, .int (nI po6), .int (tI tr6)])), (te, .inr (4, [.ref ta, .int (nI n)])), (ta, .inl (cC, 600, .inl (nA sg))), (dr, .inr (1, [.ref q1, .ref q2, .ref q3, .ref q4, .ref q5, .ref q6, .ref q7, .ref q8, .ref q9, .int (nI rg)])), (q3, .inl (cZ, 41, .inl (zA us))), (q6, .inl (cI, 66, .inl (nA r1))), (q7, .inl (cI, 66, .inl (nA r2))), (q8, .inl (cI, 66, .inl (nA r3))), (q9, .inl (cI, 66, .inl (nA r4)))] H := hP
  have hD : va_D A [(re, .inr (2, [.ref te, .ref dr, .int (nI po6), .int (tI tr6)])), (te, .inr (4, [.ref ta, .int (nI n)])), (ta, .inl (cC, 600, .inl (nA sg))), (dr, .inr (1, [.ref q1, .ref q2, .ref q3, .ref q4, .ref q5, .ref q6, .ref q7, .ref q8, .ref q9, .int (nI rg)])), (q3, .inl (cZ, 41, .inl (zA us))), (q6, .inl (cI, 66, .inl (nA r1))), (q7, .inl (cI, 66, .inl (nA r2))), (q8, .inl (cI, 66, .inl (nA r3))), (q9, .inl (cI, 66, .inl (nA r4)))] := hD
  obtain ⟨hc6, hd6, he6, hf6⟩ := gp_rs_bd hp41 (by omega) (by omega) hf5
  refine lv_aload_n hx hb d_Re_readRange_44 rfl (lv_at hl 3 rfl) ?_
  refine lv_iconst (v := 0) hx hb d_Re_readRange_45 (by decide) ?_
  refine lv_bipush (v := 9) hx hb d_Re_readRange_46 (by decide) ?_
  refine ga_ji (wr := [(dr, .inr (1, [.ref q1, .ref q2, .ref q3, .ref q4, .ref q5, .ref q6, .ref q7, .ref q8, .ref q9, .int (nI rg)])), (q3, .inl (cZ, 41, .inl (zA us))), (q6, .inl (cI, 66, .inl (nA r1))), (q7, .inl (cI, 66, .inl (nA r2))), (q8, .inl (cI, 66, .inl (nA r3))), (q9, .inl (cI, 66, .inl (nA r4)))]) (ga_runV (As := [.int 0, .int 9]) (rest := []) S hK s_Re_59 (gc_Re_readNumber l D cI cZ cC cG re te ta dr n po6 sg tr6 (by omega) (by omega) hf6 0 9 (by omega) (by omega) hsg _) (ga_prV (y := y_Re_readNumber) (q0 := 0) hK hP hD [0, 1, 2] rfl (by decide) rfl rfl) rfl hl.1 rfl (Nat.le_of_ble_eq_true rfl) ⟨Nat.le_of_ble_eq_true rfl, Nat.le_of_ble_eq_true rfl⟩ ⟨Nat.le_of_ble_eq_true rfl, Nat.le_of_ble_eq_true rfl⟩ d_Re_readRange_48) hP hD hS hA [0, 1, 2] [3, 4, 5, 6, 7, 8] rfl rfl (by decide) (by decide) [6, 7, 8, 0, 1, 2, 3, 4, 5] (fun (x : Nat × Nat × Option Nat) => [(re, .inr (2, [.ref te, .ref dr, .int (nI x.2.1), .int (tI x.2.2)])), (te, .inr (4, [.ref ta, .int (nI n)])), (ta, .inl (cC, 600, .inl (nA sg))), (dr, .inr (1, [.ref q1, .ref q2, .ref q3, .ref q4, .ref q5, .ref q6, .ref q7, .ref q8, .ref q9, .int (nI rg)])), (q3, .inl (cZ, 41, .inl (zA us))), (q6, .inl (cI, 66, .inl (nA r1))), (q7, .inl (cI, 66, .inl (nA r2))), (q8, .inl (cI, 66, .inl (nA r3))), (q9, .inl (cI, 66, .inl (nA r4)))]) (fun _ => rfl) (by decide) (fun r x H locs hp48 hP hD hS => ?_)
  obtain ⟨w7, po7, tr7⟩ := x
  have hP : va_P D vwCl [(re, .inr (2, [.ref te, .ref dr, .int (nI po7), .int (tI tr7)])), (te, .inr (4, [.ref ta, .int (nI n)])), (ta, .inl (cC, 600, .inl (nA sg))), (dr, .inr (1, [.ref q1, .ref q2, .ref q3, .ref q4, .ref q5, .ref q6, .ref q7, .ref q8, .ref q9, .int (nI rg)])), (q3, .inl (cZ, 41, .inl (zA us))), (q6, .inl (cI, 66, .inl (nA r1))), (q7, .inl (cI, 66, .inl (nA r2))), (q8, .inl (cI, 66, .inl (nA r3))), (q9, .inl (cI, 66, .inl (nA r4)))] H := hP
  have hD : va_D A [(re, .inr (2, [.ref te, .ref dr, .int (nI po7), .int (tI tr7)])), (te, .inr (4, [.ref ta, .int (nI n)])), (ta, .inl (cC, 600, .inl (nA sg))), (dr, .inr (1, [.ref q1, .ref q2, .ref q3, .ref q4, .ref q5, .ref q6, .ref q7, .ref q8, .ref q9, .int (nI rg)])), (q3, .inl (cZ, 41, .inl (zA us))), (q6, .inl (cI, 66, .inl (nA r1))), (q7, .inl (cI, 66, .inl (nA r2))), (q8, .inl (cI, 66, .inl (nA r3))), (q9, .inl (cI, 66, .inl (nA r4)))] := hD
  obtain ⟨rfl, hp48⟩ := hp48
  obtain ⟨ha7, hb7, hc7, hd7, he7, hf7⟩ := gp_rn_bd hp48 (by omega) (by omega) hf6
  refine lv_istore (lv' := [(4, .int (nI w7)), (3, .int (nI w5)), (2, .int (nI w3)), (1, .int (nI w1)), (0, .ref re)]) hx hb d_Re_readRange_51 hl (by decide) rfl (fun ls hl => ?_)
  refine lv_aload_n hx hb d_Re_readRange_53 rfl (lv_at hl 4 rfl) ?_
  refine lv_bipush (v := 59) hx hb d_Re_readRange_54 (by decide) ?_
  refine ga_jv (wr := [(dr, .inr (1, [.ref q1, .ref q2, .ref q3, .ref q4, .ref q5, .ref q6, .ref q7, .ref q8, .ref q9, .int (nI rg)])), (q3, .inl (cZ, 41, .inl (zA us))), (q6, .inl (cI, 66, .inl (nA r1))), (q7, .inl (cI, 66, .inl (nA r2))), (q8, .inl (cI, 66, .inl (nA r3))), (q9, .inl (cI, 66, .inl (nA r4)))]) (ga_runV (As := [.int 59]) (rest := []) S hK s_Re_63 (gc_Re_readSign l D cI cZ cC cG re te ta dr n po7 sg tr7 (by omega) (by omega) hf7 59 (by omega) hsg _) (ga_prV (y := y_Re_readSign) (q0 := 0) hK hP hD [0, 1, 2] rfl (by decide) rfl rfl) rfl hl.1 rfl (Nat.le_of_ble_eq_true rfl) ⟨Nat.le_of_ble_eq_true rfl, Nat.le_of_ble_eq_true rfl⟩ ⟨Nat.le_of_ble_eq_true rfl, Nat.le_of_ble_eq_true rfl⟩ d_Re_readRange_56) hP hD hS hA [0, 1, 2] [3, 4, 5, 6, 7, 8] rfl rfl (by decide) (by decide) [6, 7, 8, 0, 1, 2, 3, 4, 5] (fun (x : Nat × Option Nat) => [(re, .inr (2, [.ref te, .ref dr, .int (nI x.1), .int (tI x.2)])), (te, .inr (4, [.ref ta, .int (nI n)])), (ta, .inl (cC, 600, .inl (nA sg))), (dr, .inr (1, [.ref q1, .ref q2, .ref q3, .ref q4, .ref q5, .ref q6, .ref q7, .ref q8, .ref q9, .int (nI rg)])), (q3, .inl (cZ, 41, .inl (zA us))), (q6, .inl (cI, 66, .inl (nA r1))), (q7, .inl (cI, 66, .inl (nA r2))), (q8, .inl (cI, 66, .inl (nA r3))), (q9, .inl (cI, 66, .inl (nA r4)))]) (fun _ => rfl) (by decide) (fun x H locs hp56 hP hD hS => ?_)
  obtain ⟨po8, tr8⟩ := x
  have hP : va_P D vwCl [(re, .inr (2, [.ref te, .ref dr, .int (nI po8), .int (tI tr8)])), (te, .inr (4, [.ref ta, .int (nI n)])), (ta, .inl (cC, 600, .inl (nA sg))), (dr, .inr (1, [.ref q1, .ref q2, .ref q3, .ref q4, .ref q5, .ref q6, .ref q7, .ref q8, .ref q9, .int (nI rg)])), (q3, .inl (cZ, 41, .inl (zA us))), (q6, .inl (cI, 66, .inl (nA r1))), (q7, .inl (cI, 66, .inl (nA r2))), (q8, .inl (cI, 66, .inl (nA r3))), (q9, .inl (cI, 66, .inl (nA r4)))] H := hP
  have hD : va_D A [(re, .inr (2, [.ref te, .ref dr, .int (nI po8), .int (tI tr8)])), (te, .inr (4, [.ref ta, .int (nI n)])), (ta, .inl (cC, 600, .inl (nA sg))), (dr, .inr (1, [.ref q1, .ref q2, .ref q3, .ref q4, .ref q5, .ref q6, .ref q7, .ref q8, .ref q9, .int (nI rg)])), (q3, .inl (cZ, 41, .inl (zA us))), (q6, .inl (cI, 66, .inl (nA r1))), (q7, .inl (cI, 66, .inl (nA r2))), (q8, .inl (cI, 66, .inl (nA r3))), (q9, .inl (cI, 66, .inl (nA r4)))] := hD
  obtain ⟨hc8, hd8, he8, hf8⟩ := gp_rs_bd hp56 (by omega) (by omega) hf7
  refine lv_aload_n hx hb d_Re_readRange_59 rfl (lv_at hl 4 rfl) ?_
  refine ga_cr (As := []) (rest := []) (q0 := 0) S hK hP s_Re_38 (gc_Re_isFine l D cI cZ cC cG re te dr po8 tr8 (fun t q => by have := hf8 t q; omega)) [0] rfl rfl rfl rfl hl.1 rfl (Nat.le_of_ble_eq_true rfl) ⟨Nat.le_of_ble_eq_true rfl, Nat.le_of_ble_eq_true rfl⟩ ⟨Nat.le_of_ble_eq_true rfl, Nat.le_of_ble_eq_true rfl⟩ d_Re_readRange_60 (fun r hp60 => ?_)
  rcases hp60 with ⟨rfl, hp60⟩ | ⟨rfl, hp60⟩
  · subst hp60
    have hq1 := he8 rfl
    have hq2 := he7 hq1.1
    have hq3 := he6 hq2.1
    have hq4 := he5 hq3.1
    have hq5 := he4 hq4.1
    have hq6 := he3 hq5.1
    have hq7 := he2 hq6.1
    have hq8 := he1 hq7.1
    refine lv_if_eq (tgt := 78) hx hb d_Re_readRange_63 (by decide) (fun c63 => ?_) (fun c63 => ?_)
    · exact absurd c63 (by decide)
    · refine lv_aload_n hx hb d_Re_readRange_66 rfl (lv_at hl 4 rfl) ?_
      refine ga_get S hK hP 0 rfl f_Re_21 rfl d_Re_readRange_67 ?_
      refine lv_iload_n hx hb d_Re_readRange_70 rfl (lv_at hl 3 rfl) ?_
      refine lv_iload_n hx hb d_Re_readRange_71 rfl (lv_at hl 2 rfl) ?_
      refine lv_iload_n hx hb d_Re_readRange_72 rfl (lv_at hl 1 rfl) ?_
      refine lv_iload hx hb d_Re_readRange_73 (lv_at hl 0 rfl) ?_
      refine ga_jv (wr := [(re, .inr (2, [.ref te, .ref dr, .int (nI po8), .int (tI none)])), (te, .inr (4, [.ref ta, .int (nI n)])), (ta, .inl (cC, 600, .inl (nA sg)))]) (ga_runV (As := [.int (nI w1), .int (nI w3), .int (nI w5), .int (nI w7)]) (rest := []) S hK s_Re_67 (gc_Pl_addRange l D cI cZ cC cG dr q1 q2 q3 q4 q5 q6 q7 q8 q9 rg w1 w3 w5 w7 us r1 r2 r3 r4 (by omega) (by omega) _) (ga_prV (y := y_Pl_addRange) (q0 := 3) hK hP hD [3, 4, 5, 6, 7, 8] rfl (by decide) rfl rfl) rfl hl.1 rfl (Nat.le_of_ble_eq_true rfl) ⟨Nat.le_of_ble_eq_true rfl, Nat.le_of_ble_eq_true rfl⟩ ⟨Nat.le_of_ble_eq_true rfl, Nat.le_of_ble_eq_true rfl⟩ d_Re_readRange_75) hP hD hS hA [3, 4, 5, 6, 7, 8] [0, 1, 2] rfl rfl (by decide) (by decide) [0, 1, 2, 3, 4, 5, 6, 7, 8] (fun _ => [(re, .inr (2, [.ref te, .ref dr, .int (nI po8), .int (tI none)])), (te, .inr (4, [.ref ta, .int (nI n)])), (ta, .inl (cC, 600, .inl (nA sg))), (dr, .inr (1, [.ref q1, .ref q2, .ref q3, .ref q4, .ref q5, .ref q6, .ref q7, .ref q8, .ref q9, .int (nI (rg + 1))])), (q3, .inl (cZ, 41, .inl (zA (va_up us w1 true)))), (q6, .inl (cI, 66, .inl (nA (va_up r1 rg w1)))), (q7, .inl (cI, 66, .inl (nA (va_up r2 rg w3)))), (q8, .inl (cI, 66, .inl (nA (va_up r3 rg w5)))), (q9, .inl (cI, 66, .inl (nA (va_up r4 rg w7))))]) (fun _ => rfl) (by decide) (fun x H locs hp75 hP hD hS => ?_)
      exact ga_wv (po8, none, va_up us w1 true, va_up r1 rg w1, va_up r2 rg w3, va_up r3 rg w5, va_up r4 rg w7, rg + 1) S hrt hlk hP hD hS ⟨w1, w3, w5, w7, gp_T_eq hp4 hp11 hp19 hp26 hp34 hp41 hp48 hp56, Or.inl ⟨rfl, rfl⟩⟩ d_Re_readRange_78
  · refine lv_if_eq (tgt := 78) hx hb d_Re_readRange_63 (by decide) (fun c63 => ?_) (fun c63 => ?_)
    · exact ga_wv (po8, tr8, us, r1, r2, r3, r4, rg) S hrt hlk hP hD hS ⟨w1, w3, w5, w7, gp_T_eq hp4 hp11 hp19 hp26 hp34 hp41 hp48 hp56, Or.inr ⟨hp60, rfl⟩⟩ d_Re_readRange_78
    · exact absurd c63 (by decide)
set_option maxHeartbeats 4000000 in
set_option maxRecDepth 100000 in
theorem gc_Re_readBin (l : Launch) (D : va_G) (cI cZ cC cG : ClassId) (re te ta dr n pos : Nat) (sg : Nat → Nat) (hn : n ≤ 600) (hpos : pos ≤ n) (q1 q2 q3 q4 q5 q6 q7 q8 q9 : Nat) (rg st : Nat) (bn : Nat → Nat) (shr : Nat → Bool) (hsg : ∀ j, sg j < 2 ^ 31) (hbn : ∀ j, bn j < 2 ^ 31) : ga_Mv l y_Re_readBin b_Re_readBin 7 3 0 0 D (ga_T cI cZ cC cG) [.ref re, .int (nI st)] [(re, .inr (2, [.ref te, .ref dr, .int (nI pos), .int (tI none)])), (te, .inr (4, [.ref ta, .int (nI n)])), (ta, .inl (cC, 600, .inl (nA sg))), (dr, .inr (1, [.ref q1, .ref q2, .ref q3, .ref q4, .ref q5, .ref q6, .ref q7, .ref q8, .ref q9, .int (nI rg)])), (q1, .inl (cI, 480, .inl (nA bn))), (q2, .inl (cZ, 480, .inl (zA shr)))] (fun (x : Nat × Option Nat × (Nat → Nat) × (Nat → Bool)) => [(re, .inr (2, [.ref te, .ref dr, .int (nI x.1), .int (tI x.2.1)])), (te, .inr (4, [.ref ta, .int (nI n)])), (ta, .inl (cC, 600, .inl (nA sg))), (dr, .inr (1, [.ref q1, .ref q2, .ref q3, .ref q4, .ref q5, .ref q6, .ref q7, .ref q8, .ref q9, .int (nI rg)])), (q1, .inl (cI, 480, .inl (nA x.2.2.1))), (q2, .inl (cZ, 480, .inl (zA x.2.2.2)))]) (fun x => ∃ w1 w3 w5 w7 b8 t, gp_B sg n pos = (w1, w3, w5, w7, b8, x.1, t) ∧ ((t = none ∧ bn (gp_sl w1 w3 w5) = 0 ∧ x.2.1 = none ∧ x.2.2 = (va_up bn (gp_sl w1 w3 w5) w7, va_up shr (gp_sl w1 w3 w5) b8)) ∨ (t = none ∧ bn (gp_sl w1 w3 w5) ≠ 0 ∧ x.2.1 = some st ∧ x.2.2 = (bn, shr)) ∨ (t ≠ none ∧ x.2.1 = t ∧ x.2.2 = (bn, shr)))) := by
  refine ga_enV (by decide) (Nat.le_of_ble_eq_true rfl) ?_
  intro p e s m below meth c ls A S hrt hlk hnm hK hP hD hA hl
  have hS : va_S A s.heap s.heap [] := va_S.rf
  obtain ⟨hx, hb, hml, hown, hts⟩ := id S
  have hl : lv_has ls 7 [(0, .ref re), (1, .int (nI st))] := hl
  have htr : ∀ t, (none : Option Nat) = some t → t ≤ n := (fun _ q => by cases q)
  refine lv_aload_n hx hb d_Re_readBin_0 rfl (lv_at hl 0 rfl) ?_
  refine lv_iconst (v := 1) hx hb d_Re_readBin_1 (by decide) ?_
  refine lv_bipush (v := 40) hx hb d_Re_readBin_2 (by decide) ?_
  refine ga_ji (wr := [(dr, .inr (1, [.ref q1, .ref q2, .ref q3, .ref q4, .ref q5, .ref q6, .ref q7, .ref q8, .ref q9, .int (nI rg)])), (q1, .inl (cI, 480, .inl (nA bn))), (q2, .inl (cZ, 480, .inl (zA shr)))]) (ga_runV (As := [.int 1, .int 40]) (rest := []) S hK s_Re_59 (gc_Re_readNumber l D cI cZ cC cG re te ta dr n pos sg none (by omega) (by omega) htr 1 40 (by omega) (by omega) hsg _) (ga_prV (y := y_Re_readNumber) (q0 := 0) hK hP hD [0, 1, 2] rfl (by decide) rfl rfl) rfl hl.1 rfl (Nat.le_of_ble_eq_true rfl) ⟨Nat.le_of_ble_eq_true rfl, Nat.le_of_ble_eq_true rfl⟩ ⟨Nat.le_of_ble_eq_true rfl, Nat.le_of_ble_eq_true rfl⟩ d_Re_readBin_4) hP hD hS hA [0, 1, 2] [3, 4, 5] rfl rfl (by decide) (by decide) [3, 4, 5, 0, 1, 2] (fun (x : Nat × Nat × Option Nat) => [(re, .inr (2, [.ref te, .ref dr, .int (nI x.2.1), .int (tI x.2.2)])), (te, .inr (4, [.ref ta, .int (nI n)])), (ta, .inl (cC, 600, .inl (nA sg))), (dr, .inr (1, [.ref q1, .ref q2, .ref q3, .ref q4, .ref q5, .ref q6, .ref q7, .ref q8, .ref q9, .int (nI rg)])), (q1, .inl (cI, 480, .inl (nA bn))), (q2, .inl (cZ, 480, .inl (zA shr)))]) (fun _ => rfl) (by decide) (fun r x H locs hp4 hP hD hS => ?_)
  obtain ⟨w1, po1, tr1⟩ := x
  have hP : va_P D vwCl [(re, .inr (2, [.ref te, .ref dr, .int (nI po1), .int (tI tr1)])), (te, .inr (4, [.ref ta, .int (nI n)])), (ta, .inl (cC, 600, .inl (nA sg))), (dr, .inr (1, [.ref q1, .ref q2, .ref q3, .ref q4, .ref q5, .ref q6, .ref q7, .ref q8, .ref q9, .int (nI rg)])), (q1, .inl (cI, 480, .inl (nA bn))), (q2, .inl (cZ, 480, .inl (zA shr)))] H := hP
  have hD : va_D A [(re, .inr (2, [.ref te, .ref dr, .int (nI po1), .int (tI tr1)])), (te, .inr (4, [.ref ta, .int (nI n)])), (ta, .inl (cC, 600, .inl (nA sg))), (dr, .inr (1, [.ref q1, .ref q2, .ref q3, .ref q4, .ref q5, .ref q6, .ref q7, .ref q8, .ref q9, .int (nI rg)])), (q1, .inl (cI, 480, .inl (nA bn))), (q2, .inl (cZ, 480, .inl (zA shr)))] := hD
  obtain ⟨rfl, hp4⟩ := hp4
  obtain ⟨ha1, hb1, hc1, hd1, he1, hf1⟩ := gp_rn_bd hp4 (by omega) (by omega) htr
  refine lv_istore_n (lv' := [(2, .int (nI w1)), (0, .ref re), (1, .int (nI st))]) hx hb d_Re_readBin_7 rfl hl (by decide) rfl (fun ls hl => ?_)
  refine lv_aload_n hx hb d_Re_readBin_8 rfl (lv_at hl 1 rfl) ?_
  refine lv_bipush (v := 44) hx hb d_Re_readBin_9 (by decide) ?_
  refine ga_jv (wr := [(dr, .inr (1, [.ref q1, .ref q2, .ref q3, .ref q4, .ref q5, .ref q6, .ref q7, .ref q8, .ref q9, .int (nI rg)])), (q1, .inl (cI, 480, .inl (nA bn))), (q2, .inl (cZ, 480, .inl (zA shr)))]) (ga_runV (As := [.int 44]) (rest := []) S hK s_Re_63 (gc_Re_readSign l D cI cZ cC cG re te ta dr n po1 sg tr1 (by omega) (by omega) hf1 44 (by omega) hsg _) (ga_prV (y := y_Re_readSign) (q0 := 0) hK hP hD [0, 1, 2] rfl (by decide) rfl rfl) rfl hl.1 rfl (Nat.le_of_ble_eq_true rfl) ⟨Nat.le_of_ble_eq_true rfl, Nat.le_of_ble_eq_true rfl⟩ ⟨Nat.le_of_ble_eq_true rfl, Nat.le_of_ble_eq_true rfl⟩ d_Re_readBin_11) hP hD hS hA [0, 1, 2] [3, 4, 5] rfl rfl (by decide) (by decide) [3, 4, 5, 0, 1, 2] (fun (x : Nat × Option Nat) => [(re, .inr (2, [.ref te, .ref dr, .int (nI x.1), .int (tI x.2)])), (te, .inr (4, [.ref ta, .int (nI n)])), (ta, .inl (cC, 600, .inl (nA sg))), (dr, .inr (1, [.ref q1, .ref q2, .ref q3, .ref q4, .ref q5, .ref q6, .ref q7, .ref q8, .ref q9, .int (nI rg)])), (q1, .inl (cI, 480, .inl (nA bn))), (q2, .inl (cZ, 480, .inl (zA shr)))]) (fun _ => rfl) (by decide) (fun x H locs hp11 hP hD hS => ?_)
  obtain ⟨po2, tr2⟩ := x
  have hP : va_P D vwCl [(re, .inr (2, [.ref te, .ref dr, .int (nI po2), .int (tI tr2)])), (te, .inr (4, [.ref ta, .int (nI n)])), (ta, .inl (cC, 600, .inl (nA sg))), (dr, .inr (1, [.ref q1, .ref q2, .ref q3, .ref q4, .ref q5, .ref q6, .ref q7, .ref q8, .ref q9, .int (nI rg)])), (q1, .inl (cI, 480, .inl (nA bn))), (q2, .inl (cZ, 480, .inl (zA shr)))] H := hP
  have hD : va_D A [(re, .inr (2, [.ref te, .ref dr, .int (nI po2), .int (tI tr2)])), (te, .inr (4, [.ref ta, .int (nI n)])), (ta, .inl (cC, 600, .inl (nA sg))), (dr, .inr (1, [.ref q1, .ref q2, .ref q3, .ref q4, .ref q5, .ref q6, .ref q7, .ref q8, .ref q9, .int (nI rg)])), (q1, .inl (cI, 480, .inl (nA bn))), (q2, .inl (cZ, 480, .inl (zA shr)))] := hD
  obtain ⟨hc2, hd2, he2, hf2⟩ := gp_rs_bd hp11 (by omega) (by omega) hf1
  refine lv_aload_n hx hb d_Re_readBin_14 rfl (lv_at hl 1 rfl) ?_
  refine lv_iconst (v := 0) hx hb d_Re_readBin_15 (by decide) ?_
  refine lv_iconst (v := 3) hx hb d_Re_readBin_16 (by decide) ?_
  refine ga_ji (wr := [(dr, .inr (1, [.ref q1, .ref q2, .ref q3, .ref q4, .ref q5, .ref q6, .ref q7, .ref q8, .ref q9, .int (nI rg)])), (q1, .inl (cI, 480, .inl (nA bn))), (q2, .inl (cZ, 480, .inl (zA shr)))]) (ga_runV (As := [.int 0, .int 3]) (rest := []) S hK s_Re_59 (gc_Re_readNumber l D cI cZ cC cG re te ta dr n po2 sg tr2 (by omega) (by omega) hf2 0 3 (by omega) (by omega) hsg _) (ga_prV (y := y_Re_readNumber) (q0 := 0) hK hP hD [0, 1, 2] rfl (by decide) rfl rfl) rfl hl.1 rfl (Nat.le_of_ble_eq_true rfl) ⟨Nat.le_of_ble_eq_true rfl, Nat.le_of_ble_eq_true rfl⟩ ⟨Nat.le_of_ble_eq_true rfl, Nat.le_of_ble_eq_true rfl⟩ d_Re_readBin_17) hP hD hS hA [0, 1, 2] [3, 4, 5] rfl rfl (by decide) (by decide) [3, 4, 5, 0, 1, 2] (fun (x : Nat × Nat × Option Nat) => [(re, .inr (2, [.ref te, .ref dr, .int (nI x.2.1), .int (tI x.2.2)])), (te, .inr (4, [.ref ta, .int (nI n)])), (ta, .inl (cC, 600, .inl (nA sg))), (dr, .inr (1, [.ref q1, .ref q2, .ref q3, .ref q4, .ref q5, .ref q6, .ref q7, .ref q8, .ref q9, .int (nI rg)])), (q1, .inl (cI, 480, .inl (nA bn))), (q2, .inl (cZ, 480, .inl (zA shr)))]) (fun _ => rfl) (by decide) (fun r x H locs hp17 hP hD hS => ?_)
  obtain ⟨w3, po3, tr3⟩ := x
  have hP : va_P D vwCl [(re, .inr (2, [.ref te, .ref dr, .int (nI po3), .int (tI tr3)])), (te, .inr (4, [.ref ta, .int (nI n)])), (ta, .inl (cC, 600, .inl (nA sg))), (dr, .inr (1, [.ref q1, .ref q2, .ref q3, .ref q4, .ref q5, .ref q6, .ref q7, .ref q8, .ref q9, .int (nI rg)])), (q1, .inl (cI, 480, .inl (nA bn))), (q2, .inl (cZ, 480, .inl (zA shr)))] H := hP
  have hD : va_D A [(re, .inr (2, [.ref te, .ref dr, .int (nI po3), .int (tI tr3)])), (te, .inr (4, [.ref ta, .int (nI n)])), (ta, .inl (cC, 600, .inl (nA sg))), (dr, .inr (1, [.ref q1, .ref q2, .ref q3, .ref q4, .ref q5, .ref q6, .ref q7, .ref q8, .ref q9, .int (nI rg)])), (q1, .inl (cI, 480, .inl (nA bn))), (q2, .inl (cZ, 480, .inl (zA shr)))] := hD
  obtain ⟨rfl, hp17⟩ := hp17
  obtain ⟨ha3, hb3, hc3, hd3, he3, hf3⟩ := gp_rn_bd hp17 (by omega) (by omega) hf2
  refine lv_istore_n (lv' := [(3, .int (nI w3)), (2, .int (nI w1)), (0, .ref re), (1, .int (nI st))]) hx hb d_Re_readBin_20 rfl hl (by decide) rfl (fun ls hl => ?_)
  refine lv_aload_n hx hb d_Re_readBin_21 rfl (lv_at hl 2 rfl) ?_
  refine lv_bipush (v := 44) hx hb d_Re_readBin_22 (by decide) ?_
  refine ga_jv (wr := [(dr, .inr (1, [.ref q1, .ref q2, .ref q3, .ref q4, .ref q5, .ref q6, .ref q7, .ref q8, .ref q9, .int (nI rg)])), (q1, .inl (cI, 480, .inl (nA bn))), (q2, .inl (cZ, 480, .inl (zA shr)))]) (ga_runV (As := [.int 44]) (rest := []) S hK s_Re_63 (gc_Re_readSign l D cI cZ cC cG re te ta dr n po3 sg tr3 (by omega) (by omega) hf3 44 (by omega) hsg _) (ga_prV (y := y_Re_readSign) (q0 := 0) hK hP hD [0, 1, 2] rfl (by decide) rfl rfl) rfl hl.1 rfl (Nat.le_of_ble_eq_true rfl) ⟨Nat.le_of_ble_eq_true rfl, Nat.le_of_ble_eq_true rfl⟩ ⟨Nat.le_of_ble_eq_true rfl, Nat.le_of_ble_eq_true rfl⟩ d_Re_readBin_24) hP hD hS hA [0, 1, 2] [3, 4, 5] rfl rfl (by decide) (by decide) [3, 4, 5, 0, 1, 2] (fun (x : Nat × Option Nat) => [(re, .inr (2, [.ref te, .ref dr, .int (nI x.1), .int (tI x.2)])), (te, .inr (4, [.ref ta, .int (nI n)])), (ta, .inl (cC, 600, .inl (nA sg))), (dr, .inr (1, [.ref q1, .ref q2, .ref q3, .ref q4, .ref q5, .ref q6, .ref q7, .ref q8, .ref q9, .int (nI rg)])), (q1, .inl (cI, 480, .inl (nA bn))), (q2, .inl (cZ, 480, .inl (zA shr)))]) (fun _ => rfl) (by decide) (fun x H locs hp24 hP hD hS => ?_)
  obtain ⟨po4, tr4⟩ := x
  have hP : va_P D vwCl [(re, .inr (2, [.ref te, .ref dr, .int (nI po4), .int (tI tr4)])), (te, .inr (4, [.ref ta, .int (nI n)])), (ta, .inl (cC, 600, .inl (nA sg))), (dr, .inr (1, [.ref q1, .ref q2, .ref q3, .ref q4, .ref q5, .ref q6, .ref q7, .ref q8, .ref q9, .int (nI rg)])), (q1, .inl (cI, 480, .inl (nA bn))), (q2, .inl (cZ, 480, .inl (zA shr)))] H := hP
  have hD : va_D A [(re, .inr (2, [.ref te, .ref dr, .int (nI po4), .int (tI tr4)])), (te, .inr (4, [.ref ta, .int (nI n)])), (ta, .inl (cC, 600, .inl (nA sg))), (dr, .inr (1, [.ref q1, .ref q2, .ref q3, .ref q4, .ref q5, .ref q6, .ref q7, .ref q8, .ref q9, .int (nI rg)])), (q1, .inl (cI, 480, .inl (nA bn))), (q2, .inl (cZ, 480, .inl (zA shr)))] := hD
  obtain ⟨hc4, hd4, he4, hf4⟩ := gp_rs_bd hp24 (by omega) (by omega) hf3
  refine lv_aload_n hx hb d_Re_readBin_27 rfl (lv_at hl 2 rfl) ?_
  refine lv_iconst (v := 0) hx hb d_Re_readBin_28 (by decide) ?_
  refine lv_iconst (v := 2) hx hb d_Re_readBin_29 (by decide) ?_
  refine ga_ji (wr := [(dr, .inr (1, [.ref q1, .ref q2, .ref q3, .ref q4, .ref q5, .ref q6, .ref q7, .ref q8, .ref q9, .int (nI rg)])), (q1, .inl (cI, 480, .inl (nA bn))), (q2, .inl (cZ, 480, .inl (zA shr)))]) (ga_runV (As := [.int 0, .int 2]) (rest := []) S hK s_Re_59 (gc_Re_readNumber l D cI cZ cC cG re te ta dr n po4 sg tr4 (by omega) (by omega) hf4 0 2 (by omega) (by omega) hsg _) (ga_prV (y := y_Re_readNumber) (q0 := 0) hK hP hD [0, 1, 2] rfl (by decide) rfl rfl) rfl hl.1 rfl (Nat.le_of_ble_eq_true rfl) ⟨Nat.le_of_ble_eq_true rfl, Nat.le_of_ble_eq_true rfl⟩ ⟨Nat.le_of_ble_eq_true rfl, Nat.le_of_ble_eq_true rfl⟩ d_Re_readBin_30) hP hD hS hA [0, 1, 2] [3, 4, 5] rfl rfl (by decide) (by decide) [3, 4, 5, 0, 1, 2] (fun (x : Nat × Nat × Option Nat) => [(re, .inr (2, [.ref te, .ref dr, .int (nI x.2.1), .int (tI x.2.2)])), (te, .inr (4, [.ref ta, .int (nI n)])), (ta, .inl (cC, 600, .inl (nA sg))), (dr, .inr (1, [.ref q1, .ref q2, .ref q3, .ref q4, .ref q5, .ref q6, .ref q7, .ref q8, .ref q9, .int (nI rg)])), (q1, .inl (cI, 480, .inl (nA bn))), (q2, .inl (cZ, 480, .inl (zA shr)))]) (fun _ => rfl) (by decide) (fun r x H locs hp30 hP hD hS => ?_)
  obtain ⟨w5, po5, tr5⟩ := x
  have hP : va_P D vwCl [(re, .inr (2, [.ref te, .ref dr, .int (nI po5), .int (tI tr5)])), (te, .inr (4, [.ref ta, .int (nI n)])), (ta, .inl (cC, 600, .inl (nA sg))), (dr, .inr (1, [.ref q1, .ref q2, .ref q3, .ref q4, .ref q5, .ref q6, .ref q7, .ref q8, .ref q9, .int (nI rg)])), (q1, .inl (cI, 480, .inl (nA bn))), (q2, .inl (cZ, 480, .inl (zA shr)))] H := hP
  have hD : va_D A [(re, .inr (2, [.ref te, .ref dr, .int (nI po5), .int (tI tr5)])), (te, .inr (4, [.ref ta, .int (nI n)])), (ta, .inl (cC, 600, .inl (nA sg))), (dr, .inr (1, [.ref q1, .ref q2, .ref q3, .ref q4, .ref q5, .ref q6, .ref q7, .ref q8, .ref q9, .int (nI rg)])), (q1, .inl (cI, 480, .inl (nA bn))), (q2, .inl (cZ, 480, .inl (zA shr)))] := hD
  obtain ⟨rfl, hp30⟩ := hp30
  obtain ⟨ha5, hb5, hc5, hd5, he5, hf5⟩ := gp_rn_bd hp30 (by omega) (by omega) hf4
  refine lv_istore (lv' := [(4, .int (nI w5)), (3, .int (nI w3)), (2, .int (nI w1)), (0, .ref re), (1, .int (nI st))]) hx hb d_Re_readBin_33 hl (by decide) rfl (fun ls hl => ?_)
  refine lv_aload_n hx hb d_Re_readBin_35 rfl (lv_at hl 3 rfl) ?_
  refine lv_bipush (v := 44) hx hb d_Re_readBin_36 (by decide) ?_
  refine ga_jv (wr := [(dr, .inr (1, [.ref q1, .ref q2, .ref q3, .ref q4, .ref q5, .ref q6, .ref q7, .ref q8, .ref q9, .int (nI rg)])), (q1, .inl (cI, 480, .inl (nA bn))), (q2, .inl (cZ, 480, .inl (zA shr)))]) (ga_runV (As := [.int 44]) (rest := []) S hK s_Re_63 (gc_Re_readSign l D cI cZ cC cG re te ta dr n po5 sg tr5 (by omega) (by omega) hf5 44 (by omega) hsg _) (ga_prV (y := y_Re_readSign) (q0 := 0) hK hP hD [0, 1, 2] rfl (by decide) rfl rfl) rfl hl.1 rfl (Nat.le_of_ble_eq_true rfl) ⟨Nat.le_of_ble_eq_true rfl, Nat.le_of_ble_eq_true rfl⟩ ⟨Nat.le_of_ble_eq_true rfl, Nat.le_of_ble_eq_true rfl⟩ d_Re_readBin_38) hP hD hS hA [0, 1, 2] [3, 4, 5] rfl rfl (by decide) (by decide) [3, 4, 5, 0, 1, 2] (fun (x : Nat × Option Nat) => [(re, .inr (2, [.ref te, .ref dr, .int (nI x.1), .int (tI x.2)])), (te, .inr (4, [.ref ta, .int (nI n)])), (ta, .inl (cC, 600, .inl (nA sg))), (dr, .inr (1, [.ref q1, .ref q2, .ref q3, .ref q4, .ref q5, .ref q6, .ref q7, .ref q8, .ref q9, .int (nI rg)])), (q1, .inl (cI, 480, .inl (nA bn))), (q2, .inl (cZ, 480, .inl (zA shr)))]) (fun _ => rfl) (by decide) (fun x H locs hp38 hP hD hS => ?_)
  obtain ⟨po6, tr6⟩ := x
  have hP : va_P D vwCl [(re, .inr (2, [.ref te, .ref dr, .int (nI po6), .int (tI tr6)])), (te, .inr (4, [.ref ta, .int (nI n)])), (ta, .inl (cC, 600, .inl (nA sg))), (dr, .inr (1, [.ref q1, .ref q2, .ref q3, .ref q4, .ref q5, .ref q6, .ref q7, .ref q8, .ref q9, .int (nI rg)])), (q1, .inl (cI, 480, .inl (nA bn))), (q2, .inl (cZ, 480, .inl (zA shr)))] H := hP
  have hD : va_D A [(re, .inr (2, [.ref te, .ref dr, .int (nI po6), .int (tI tr6)])), (te, .inr (4, [.ref ta, .int (nI n)])), (ta, .inl (cC, 600, .inl (nA sg))), (dr, .inr (1, [.ref q1, .ref q2, .ref q3, .ref q4, .ref q5, .ref q6, .ref q7, .ref q8, .ref q9, .int (nI rg)])), (q1, .inl (cI, 480, .inl (nA bn))), (q2, .inl (cZ, 480, .inl (zA shr)))] := hD
  obtain ⟨hc6, hd6, he6, hf6⟩ := gp_rs_bd hp38 (by omega) (by omega) hf5
  refine lv_aload_n hx hb d_Re_readBin_41 rfl (lv_at hl 3 rfl) ?_
  refine lv_iconst (v := 1) hx hb d_Re_readBin_42 (by decide) ?_
  refine lv_bipush (v := 60) hx hb d_Re_readBin_43 (by decide) ?_
  refine ga_ji (wr := [(dr, .inr (1, [.ref q1, .ref q2, .ref q3, .ref q4, .ref q5, .ref q6, .ref q7, .ref q8, .ref q9, .int (nI rg)])), (q1, .inl (cI, 480, .inl (nA bn))), (q2, .inl (cZ, 480, .inl (zA shr)))]) (ga_runV (As := [.int 1, .int 60]) (rest := []) S hK s_Re_59 (gc_Re_readNumber l D cI cZ cC cG re te ta dr n po6 sg tr6 (by omega) (by omega) hf6 1 60 (by omega) (by omega) hsg _) (ga_prV (y := y_Re_readNumber) (q0 := 0) hK hP hD [0, 1, 2] rfl (by decide) rfl rfl) rfl hl.1 rfl (Nat.le_of_ble_eq_true rfl) ⟨Nat.le_of_ble_eq_true rfl, Nat.le_of_ble_eq_true rfl⟩ ⟨Nat.le_of_ble_eq_true rfl, Nat.le_of_ble_eq_true rfl⟩ d_Re_readBin_45) hP hD hS hA [0, 1, 2] [3, 4, 5] rfl rfl (by decide) (by decide) [3, 4, 5, 0, 1, 2] (fun (x : Nat × Nat × Option Nat) => [(re, .inr (2, [.ref te, .ref dr, .int (nI x.2.1), .int (tI x.2.2)])), (te, .inr (4, [.ref ta, .int (nI n)])), (ta, .inl (cC, 600, .inl (nA sg))), (dr, .inr (1, [.ref q1, .ref q2, .ref q3, .ref q4, .ref q5, .ref q6, .ref q7, .ref q8, .ref q9, .int (nI rg)])), (q1, .inl (cI, 480, .inl (nA bn))), (q2, .inl (cZ, 480, .inl (zA shr)))]) (fun _ => rfl) (by decide) (fun r x H locs hp45 hP hD hS => ?_)
  obtain ⟨w7, po7, tr7⟩ := x
  have hP : va_P D vwCl [(re, .inr (2, [.ref te, .ref dr, .int (nI po7), .int (tI tr7)])), (te, .inr (4, [.ref ta, .int (nI n)])), (ta, .inl (cC, 600, .inl (nA sg))), (dr, .inr (1, [.ref q1, .ref q2, .ref q3, .ref q4, .ref q5, .ref q6, .ref q7, .ref q8, .ref q9, .int (nI rg)])), (q1, .inl (cI, 480, .inl (nA bn))), (q2, .inl (cZ, 480, .inl (zA shr)))] H := hP
  have hD : va_D A [(re, .inr (2, [.ref te, .ref dr, .int (nI po7), .int (tI tr7)])), (te, .inr (4, [.ref ta, .int (nI n)])), (ta, .inl (cC, 600, .inl (nA sg))), (dr, .inr (1, [.ref q1, .ref q2, .ref q3, .ref q4, .ref q5, .ref q6, .ref q7, .ref q8, .ref q9, .int (nI rg)])), (q1, .inl (cI, 480, .inl (nA bn))), (q2, .inl (cZ, 480, .inl (zA shr)))] := hD
  obtain ⟨rfl, hp45⟩ := hp45
  obtain ⟨ha7, hb7, hc7, hd7, he7, hf7⟩ := gp_rn_bd hp45 (by omega) (by omega) hf6
  refine lv_istore (lv' := [(5, .int (nI w7)), (4, .int (nI w5)), (3, .int (nI w3)), (2, .int (nI w1)), (0, .ref re), (1, .int (nI st))]) hx hb d_Re_readBin_48 hl (by decide) rfl (fun ls hl => ?_)
  refine lv_aload_n hx hb d_Re_readBin_50 rfl (lv_at hl 4 rfl) ?_
  refine ga_ji (wr := [(dr, .inr (1, [.ref q1, .ref q2, .ref q3, .ref q4, .ref q5, .ref q6, .ref q7, .ref q8, .ref q9, .int (nI rg)])), (q1, .inl (cI, 480, .inl (nA bn))), (q2, .inl (cZ, 480, .inl (zA shr)))]) (ga_runV (As := []) (rest := []) S hK s_Re_71 (gc_Re_readPlus l D cI cZ cC cG re te ta dr n po7 sg tr7 (by omega) (by omega) hf7 hsg _) (ga_prV (y := y_Re_readPlus) (q0 := 0) hK hP hD [0, 1, 2] rfl (by decide) rfl rfl) rfl hl.1 rfl (Nat.le_of_ble_eq_true rfl) ⟨Nat.le_of_ble_eq_true rfl, Nat.le_of_ble_eq_true rfl⟩ ⟨Nat.le_of_ble_eq_true rfl, Nat.le_of_ble_eq_true rfl⟩ d_Re_readBin_51) hP hD hS hA [0, 1, 2] [3, 4, 5] rfl rfl (by decide) (by decide) [3, 4, 5, 0, 1, 2] (fun (x : Bool × Nat) => [(re, .inr (2, [.ref te, .ref dr, .int (nI x.2), .int (tI tr7)])), (te, .inr (4, [.ref ta, .int (nI n)])), (ta, .inl (cC, 600, .inl (nA sg))), (dr, .inr (1, [.ref q1, .ref q2, .ref q3, .ref q4, .ref q5, .ref q6, .ref q7, .ref q8, .ref q9, .int (nI rg)])), (q1, .inl (cI, 480, .inl (nA bn))), (q2, .inl (cZ, 480, .inl (zA shr)))]) (fun _ => rfl) (by decide) (fun r x H locs hp51 hP hD hS => ?_)
  obtain ⟨pb8, po8⟩ := x
  have hP : va_P D vwCl [(re, .inr (2, [.ref te, .ref dr, .int (nI po8), .int (tI tr7)])), (te, .inr (4, [.ref ta, .int (nI n)])), (ta, .inl (cC, 600, .inl (nA sg))), (dr, .inr (1, [.ref q1, .ref q2, .ref q3, .ref q4, .ref q5, .ref q6, .ref q7, .ref q8, .ref q9, .int (nI rg)])), (q1, .inl (cI, 480, .inl (nA bn))), (q2, .inl (cZ, 480, .inl (zA shr)))] H := hP
  have hD : va_D A [(re, .inr (2, [.ref te, .ref dr, .int (nI po8), .int (tI tr7)])), (te, .inr (4, [.ref ta, .int (nI n)])), (ta, .inl (cC, 600, .inl (nA sg))), (dr, .inr (1, [.ref q1, .ref q2, .ref q3, .ref q4, .ref q5, .ref q6, .ref q7, .ref q8, .ref q9, .int (nI rg)])), (q1, .inl (cI, 480, .inl (nA bn))), (q2, .inl (cZ, 480, .inl (zA shr)))] := hD
  obtain ⟨rfl, hp51⟩ := hp51
  obtain ⟨hc8, hd8⟩ := gp_rp_bd hp51 (by omega)
  refine lv_istore (lv' := [(6, .int (bI pb8)), (5, .int (nI w7)), (4, .int (nI w5)), (3, .int (nI w3)), (2, .int (nI w1)), (0, .ref re), (1, .int (nI st))]) hx hb d_Re_readBin_54 hl (by decide) rfl (fun ls hl => ?_)
  refine lv_aload_n hx hb d_Re_readBin_56 rfl (lv_at hl 5 rfl) ?_
  refine lv_bipush (v := 59) hx hb d_Re_readBin_57 (by decide) ?_
  refine ga_jv (wr := [(dr, .inr (1, [.ref q1, .ref q2, .ref q3, .ref q4, .ref q5, .ref q6, .ref q7, .ref q8, .ref q9, .int (nI rg)])), (q1, .inl (cI, 480, .inl (nA bn))), (q2, .inl (cZ, 480, .inl (zA shr)))]) (ga_runV (As := [.int 59]) (rest := []) S hK s_Re_63 (gc_Re_readSign l D cI cZ cC cG re te ta dr n po8 sg tr7 (by omega) (by omega) hf7 59 (by omega) hsg _) (ga_prV (y := y_Re_readSign) (q0 := 0) hK hP hD [0, 1, 2] rfl (by decide) rfl rfl) rfl hl.1 rfl (Nat.le_of_ble_eq_true rfl) ⟨Nat.le_of_ble_eq_true rfl, Nat.le_of_ble_eq_true rfl⟩ ⟨Nat.le_of_ble_eq_true rfl, Nat.le_of_ble_eq_true rfl⟩ d_Re_readBin_59) hP hD hS hA [0, 1, 2] [3, 4, 5] rfl rfl (by decide) (by decide) [3, 4, 5, 0, 1, 2] (fun (x : Nat × Option Nat) => [(re, .inr (2, [.ref te, .ref dr, .int (nI x.1), .int (tI x.2)])), (te, .inr (4, [.ref ta, .int (nI n)])), (ta, .inl (cC, 600, .inl (nA sg))), (dr, .inr (1, [.ref q1, .ref q2, .ref q3, .ref q4, .ref q5, .ref q6, .ref q7, .ref q8, .ref q9, .int (nI rg)])), (q1, .inl (cI, 480, .inl (nA bn))), (q2, .inl (cZ, 480, .inl (zA shr)))]) (fun _ => rfl) (by decide) (fun x H locs hp59 hP hD hS => ?_)
  obtain ⟨po9, tr9⟩ := x
  have hP : va_P D vwCl [(re, .inr (2, [.ref te, .ref dr, .int (nI po9), .int (tI tr9)])), (te, .inr (4, [.ref ta, .int (nI n)])), (ta, .inl (cC, 600, .inl (nA sg))), (dr, .inr (1, [.ref q1, .ref q2, .ref q3, .ref q4, .ref q5, .ref q6, .ref q7, .ref q8, .ref q9, .int (nI rg)])), (q1, .inl (cI, 480, .inl (nA bn))), (q2, .inl (cZ, 480, .inl (zA shr)))] H := hP
  have hD : va_D A [(re, .inr (2, [.ref te, .ref dr, .int (nI po9), .int (tI tr9)])), (te, .inr (4, [.ref ta, .int (nI n)])), (ta, .inl (cC, 600, .inl (nA sg))), (dr, .inr (1, [.ref q1, .ref q2, .ref q3, .ref q4, .ref q5, .ref q6, .ref q7, .ref q8, .ref q9, .int (nI rg)])), (q1, .inl (cI, 480, .inl (nA bn))), (q2, .inl (cZ, 480, .inl (zA shr)))] := hD
  obtain ⟨hc9, hd9, he9, hf9⟩ := gp_rs_bd hp59 (by omega) (by omega) hf7
  refine lv_aload_n hx hb d_Re_readBin_62 rfl (lv_at hl 5 rfl) ?_
  refine ga_cr (As := []) (rest := []) (q0 := 0) S hK hP s_Re_38 (gc_Re_isFine l D cI cZ cC cG re te dr po9 tr9 (fun t q => by have := hf9 t q; omega)) [0] rfl rfl rfl rfl hl.1 rfl (Nat.le_of_ble_eq_true rfl) ⟨Nat.le_of_ble_eq_true rfl, Nat.le_of_ble_eq_true rfl⟩ ⟨Nat.le_of_ble_eq_true rfl, Nat.le_of_ble_eq_true rfl⟩ d_Re_readBin_63 (fun r hp63 => ?_)
  rcases hp63 with ⟨rfl, hp63⟩ | ⟨rfl, hp63⟩
  · subst hp63
    refine lv_if_eq (tgt := 95) hx hb d_Re_readBin_66 (by decide) (fun c66 => ?_) (fun c66 => ?_)
    · exact absurd c66 (by decide)
    · refine lv_aload_n hx hb d_Re_readBin_69 rfl (lv_at hl 5 rfl) ?_
      refine ga_get S hK hP 0 rfl f_Re_21 rfl d_Re_readBin_70 ?_
      refine lv_iload_n hx hb d_Re_readBin_73 rfl (lv_at hl 4 rfl) ?_
      refine lv_iload_n hx hb d_Re_readBin_74 rfl (lv_at hl 3 rfl) ?_
      refine lv_iload hx hb d_Re_readBin_75 (lv_at hl 2 rfl) ?_
      refine ga_cs (As := [.int (nI w1), .int (nI w3), .int (nI w5)]) (rest := [.ref dr]) S hK hP s_Re_74 (gc_SP_slot l D cI cZ cC cG w1 w3 w5 (by omega)) [] rfl rfl hl.1 rfl (Nat.le_of_ble_eq_true rfl) ⟨Nat.le_of_ble_eq_true rfl, Nat.le_of_ble_eq_true rfl⟩ ⟨Nat.le_of_ble_eq_true rfl, Nat.le_of_ble_eq_true rfl⟩ d_Re_readBin_77 (fun r hp77 => ?_)
      subst hp77
      have hsl := gp_sl_lt (t := w1) (p := w3) (s := w5) (by omega) (by omega) (by omega) (by omega)
      refine lv_iload hx hb d_Re_readBin_80 (lv_at hl 1 rfl) ?_
      refine lv_iload hx hb d_Re_readBin_82 (lv_at hl 0 rfl) ?_
      refine ga_ji (wr := [(re, .inr (2, [.ref te, .ref dr, .int (nI po9), .int (tI none)])), (te, .inr (4, [.ref ta, .int (nI n)])), (ta, .inl (cC, 600, .inl (nA sg)))]) (ga_runV (As := [.int (nI (gp_sl w1 w3 w5)), .int (nI w7), .int (bI pb8)]) (rest := []) S hK s_Re_78 (gc_Pl_addBin l D cI cZ cC cG dr q1 q2 q3 q4 q5 q6 q7 q8 q9 rg (gp_sl w1 w3 w5) w7 bn shr pb8 (by omega) hbn _) (ga_prV (y := y_Pl_addBin) (q0 := 3) hK hP hD [3, 4, 5] rfl (by decide) rfl rfl) rfl hl.1 rfl (Nat.le_of_ble_eq_true rfl) ⟨Nat.le_of_ble_eq_true rfl, Nat.le_of_ble_eq_true rfl⟩ ⟨Nat.le_of_ble_eq_true rfl, Nat.le_of_ble_eq_true rfl⟩ d_Re_readBin_84) hP hD hS hA [3, 4, 5] [0, 1, 2] rfl rfl (by decide) (by decide) [0, 1, 2, 3, 4, 5] (fun (x : (Nat → Nat) × (Nat → Bool)) => [(re, .inr (2, [.ref te, .ref dr, .int (nI po9), .int (tI none)])), (te, .inr (4, [.ref ta, .int (nI n)])), (ta, .inl (cC, 600, .inl (nA sg))), (dr, .inr (1, [.ref q1, .ref q2, .ref q3, .ref q4, .ref q5, .ref q6, .ref q7, .ref q8, .ref q9, .int (nI rg)])), (q1, .inl (cI, 480, .inl (nA x.1))), (q2, .inl (cZ, 480, .inl (zA x.2)))]) (fun _ => rfl) (by decide) (fun r x H locs hp84 hP hD hS => ?_)
      rcases hp84 with ⟨rfl, hp84, hx9⟩ | ⟨rfl, hp84, hx9⟩
      · rw [hx9] at hP hD
        have hP : va_P D vwCl [(re, .inr (2, [.ref te, .ref dr, .int (nI po9), .int (tI none)])), (te, .inr (4, [.ref ta, .int (nI n)])), (ta, .inl (cC, 600, .inl (nA sg))), (dr, .inr (1, [.ref q1, .ref q2, .ref q3, .ref q4, .ref q5, .ref q6, .ref q7, .ref q8, .ref q9, .int (nI rg)])), (q1, .inl (cI, 480, .inl (nA (va_up bn (gp_sl w1 w3 w5) w7)))), (q2, .inl (cZ, 480, .inl (zA (va_up shr (gp_sl w1 w3 w5) pb8))))] H := hP
        have hD : va_D A [(re, .inr (2, [.ref te, .ref dr, .int (nI po9), .int (tI none)])), (te, .inr (4, [.ref ta, .int (nI n)])), (ta, .inl (cC, 600, .inl (nA sg))), (dr, .inr (1, [.ref q1, .ref q2, .ref q3, .ref q4, .ref q5, .ref q6, .ref q7, .ref q8, .ref q9, .int (nI rg)])), (q1, .inl (cI, 480, .inl (nA (va_up bn (gp_sl w1 w3 w5) w7)))), (q2, .inl (cZ, 480, .inl (zA (va_up shr (gp_sl w1 w3 w5) pb8))))] := hD
        refine lv_if_ne (tgt := 95) hx hb d_Re_readBin_87 (by decide) (fun c87 => ?_) (fun c87 => ?_)
        · exact ga_wv (po9, none, va_up bn (gp_sl w1 w3 w5) w7, va_up shr (gp_sl w1 w3 w5) pb8) S hrt hlk hP hD hS ⟨w1, w3, w5, w7, pb8, none, gp_B_eq hp4 hp11 hp17 hp24 hp30 hp38 hp45 hp51 hp59, Or.inl ⟨rfl, hp84, rfl, rfl⟩⟩ d_Re_readBin_95
        · exact absurd c87 (by decide)
      · rw [hx9] at hP hD
        have hP : va_P D vwCl [(re, .inr (2, [.ref te, .ref dr, .int (nI po9), .int (tI none)])), (te, .inr (4, [.ref ta, .int (nI n)])), (ta, .inl (cC, 600, .inl (nA sg))), (dr, .inr (1, [.ref q1, .ref q2, .ref q3, .ref q4, .ref q5, .ref q6, .ref q7, .ref q8, .ref q9, .int (nI rg)])), (q1, .inl (cI, 480, .inl (nA bn))), (q2, .inl (cZ, 480, .inl (zA shr)))] H := hP
        have hD : va_D A [(re, .inr (2, [.ref te, .ref dr, .int (nI po9), .int (tI none)])), (te, .inr (4, [.ref ta, .int (nI n)])), (ta, .inl (cC, 600, .inl (nA sg))), (dr, .inr (1, [.ref q1, .ref q2, .ref q3, .ref q4, .ref q5, .ref q6, .ref q7, .ref q8, .ref q9, .int (nI rg)])), (q1, .inl (cI, 480, .inl (nA bn))), (q2, .inl (cZ, 480, .inl (zA shr)))] := hD
        refine lv_if_ne (tgt := 95) hx hb d_Re_readBin_87 (by decide) (fun c87 => ?_) (fun c87 => ?_)
        · exact absurd c87 (by decide)
        · refine lv_aload_n hx hb d_Re_readBin_90 rfl (lv_at hl 5 rfl) ?_
          refine lv_iload_n hx hb d_Re_readBin_91 rfl (lv_at hl 6 rfl) ?_
          refine ga_put (ws' := [(re, .inr (2, [.ref te, .ref dr, .int (nI po9), .int (nI st)])), (te, .inr (4, [.ref ta, .int (nI n)])), (ta, .inl (cC, 600, .inl (nA sg))), (dr, .inr (1, [.ref q1, .ref q2, .ref q3, .ref q4, .ref q5, .ref q6, .ref q7, .ref q8, .ref q9, .int (nI rg)])), (q1, .inl (cI, 480, .inl (nA bn))), (q2, .inl (cZ, 480, .inl (zA shr)))]) S hK hP hD hS 0 rfl p_Re_25 rfl rfl (Nat.le_of_ble_eq_true rfl) rfl d_Re_readBin_92 (fun H locs hP hD hS => ?_)
          exact ga_wv (po9, some st, bn, shr) S hrt hlk hP hD hS ⟨w1, w3, w5, w7, pb8, none, gp_B_eq hp4 hp11 hp17 hp24 hp30 hp38 hp45 hp51 hp59, Or.inr (Or.inl ⟨rfl, hp84, rfl, rfl⟩)⟩ d_Re_readBin_95
  · refine lv_if_eq (tgt := 95) hx hb d_Re_readBin_66 (by decide) (fun c66 => ?_) (fun c66 => ?_)
    · exact ga_wv (po9, tr9, bn, shr) S hrt hlk hP hD hS ⟨w1, w3, w5, w7, pb8, tr9, gp_B_eq hp4 hp11 hp17 hp24 hp30 hp38 hp45 hp51 hp59, Or.inr (Or.inr ⟨hp63, rfl, rfl⟩)⟩ d_Re_readBin_95
    · exact absurd c66 (by decide)
set_option maxHeartbeats 4000000 in
set_option maxRecDepth 100000 in
theorem gc_Re_readGoingOn (l : Launch) (D : va_G) (cI cZ cC cG : ClassId) (re te ta dr n pos : Nat) (sg : Nat → Nat) (hn : n ≤ 600) (hpos : pos ≤ n) (q1 q2 q3 q4 q5 q6 q7 q8 q9 : Nat) (rg st : Nat) (ne : Nat → Nat) (hsg : ∀ j, sg j < 2 ^ 31) (hne : ∀ j, ne j < 2 ^ 31) : ga_Mv l y_Re_readGoingOn b_Re_readGoingOn 4 3 0 0 D (ga_T cI cZ cC cG) [.ref re, .int (nI st)] [(re, .inr (2, [.ref te, .ref dr, .int (nI pos), .int (tI none)])), (te, .inr (4, [.ref ta, .int (nI n)])), (ta, .inl (cC, 600, .inl (nA sg))), (dr, .inr (1, [.ref q1, .ref q2, .ref q3, .ref q4, .ref q5, .ref q6, .ref q7, .ref q8, .ref q9, .int (nI rg)])), (q5, .inl (cI, 61, .inl (nA ne)))] (fun (x : Nat × Option Nat × (Nat → Nat)) => [(re, .inr (2, [.ref te, .ref dr, .int (nI x.1), .int (tI x.2.1)])), (te, .inr (4, [.ref ta, .int (nI n)])), (ta, .inl (cC, 600, .inl (nA sg))), (dr, .inr (1, [.ref q1, .ref q2, .ref q3, .ref q4, .ref q5, .ref q6, .ref q7, .ref q8, .ref q9, .int (nI rg)])), (q5, .inl (cI, 61, .inl (nA x.2.2)))]) (fun x => ∃ w1 w3 t, gp_O sg n pos = (w1, w3, x.1, t) ∧ ((t = none ∧ ne w1 = 0 ∧ x.2.1 = none ∧ x.2.2 = va_up ne w1 w3) ∨ (t = none ∧ ne w1 ≠ 0 ∧ x.2.1 = some st ∧ x.2.2 = ne) ∨ (t ≠ none ∧ x.2.1 = t ∧ x.2.2 = ne))) := by
  refine ga_enV (by decide) (Nat.le_of_ble_eq_true rfl) ?_
  intro p e s m below meth c ls A S hrt hlk hnm hK hP hD hA hl
  have hS : va_S A s.heap s.heap [] := va_S.rf
  obtain ⟨hx, hb, hml, hown, hts⟩ := id S
  have hl : lv_has ls 4 [(0, .ref re), (1, .int (nI st))] := hl
  have htr : ∀ t, (none : Option Nat) = some t → t ≤ n := (fun _ q => by cases q)
  refine lv_aload_n hx hb d_Re_readGoingOn_0 rfl (lv_at hl 0 rfl) ?_
  refine lv_iconst (v := 1) hx hb d_Re_readGoingOn_1 (by decide) ?_
  refine lv_bipush (v := 60) hx hb d_Re_readGoingOn_2 (by decide) ?_
  refine ga_ji (wr := [(dr, .inr (1, [.ref q1, .ref q2, .ref q3, .ref q4, .ref q5, .ref q6, .ref q7, .ref q8, .ref q9, .int (nI rg)])), (q5, .inl (cI, 61, .inl (nA ne)))]) (ga_runV (As := [.int 1, .int 60]) (rest := []) S hK s_Re_59 (gc_Re_readNumber l D cI cZ cC cG re te ta dr n pos sg none (by omega) (by omega) htr 1 60 (by omega) (by omega) hsg _) (ga_prV (y := y_Re_readNumber) (q0 := 0) hK hP hD [0, 1, 2] rfl (by decide) rfl rfl) rfl hl.1 rfl (Nat.le_of_ble_eq_true rfl) ⟨Nat.le_of_ble_eq_true rfl, Nat.le_of_ble_eq_true rfl⟩ ⟨Nat.le_of_ble_eq_true rfl, Nat.le_of_ble_eq_true rfl⟩ d_Re_readGoingOn_4) hP hD hS hA [0, 1, 2] [3, 4] rfl rfl (by decide) (by decide) [2, 3, 4, 0, 1] (fun (x : Nat × Nat × Option Nat) => [(re, .inr (2, [.ref te, .ref dr, .int (nI x.2.1), .int (tI x.2.2)])), (te, .inr (4, [.ref ta, .int (nI n)])), (ta, .inl (cC, 600, .inl (nA sg))), (dr, .inr (1, [.ref q1, .ref q2, .ref q3, .ref q4, .ref q5, .ref q6, .ref q7, .ref q8, .ref q9, .int (nI rg)])), (q5, .inl (cI, 61, .inl (nA ne)))]) (fun _ => rfl) (by decide) (fun r x H locs hp4 hP hD hS => ?_)
  obtain ⟨w1, po1, tr1⟩ := x
  have hP : va_P D vwCl [(re, .inr (2, [.ref te, .ref dr, .int (nI po1), .int (tI tr1)])), (te, .inr (4, [.ref ta, .int (nI n)])), (ta, .inl (cC, 600, .inl (nA sg))), (dr, .inr (1, [.ref q1, .ref q2, .ref q3, .ref q4, .ref q5, .ref q6, .ref q7, .ref q8, .ref q9, .int (nI rg)])), (q5, .inl (cI, 61, .inl (nA ne)))] H := hP
  have hD : va_D A [(re, .inr (2, [.ref te, .ref dr, .int (nI po1), .int (tI tr1)])), (te, .inr (4, [.ref ta, .int (nI n)])), (ta, .inl (cC, 600, .inl (nA sg))), (dr, .inr (1, [.ref q1, .ref q2, .ref q3, .ref q4, .ref q5, .ref q6, .ref q7, .ref q8, .ref q9, .int (nI rg)])), (q5, .inl (cI, 61, .inl (nA ne)))] := hD
  obtain ⟨rfl, hp4⟩ := hp4
  obtain ⟨ha1, hb1, hc1, hd1, he1, hf1⟩ := gp_rn_bd hp4 (by omega) (by omega) htr
  refine lv_istore_n (lv' := [(2, .int (nI w1)), (0, .ref re), (1, .int (nI st))]) hx hb d_Re_readGoingOn_7 rfl hl (by decide) rfl (fun ls hl => ?_)
  refine lv_aload_n hx hb d_Re_readGoingOn_8 rfl (lv_at hl 1 rfl) ?_
  refine lv_bipush (v := 44) hx hb d_Re_readGoingOn_9 (by decide) ?_
  refine ga_jv (wr := [(dr, .inr (1, [.ref q1, .ref q2, .ref q3, .ref q4, .ref q5, .ref q6, .ref q7, .ref q8, .ref q9, .int (nI rg)])), (q5, .inl (cI, 61, .inl (nA ne)))]) (ga_runV (As := [.int 44]) (rest := []) S hK s_Re_63 (gc_Re_readSign l D cI cZ cC cG re te ta dr n po1 sg tr1 (by omega) (by omega) hf1 44 (by omega) hsg _) (ga_prV (y := y_Re_readSign) (q0 := 0) hK hP hD [0, 1, 2] rfl (by decide) rfl rfl) rfl hl.1 rfl (Nat.le_of_ble_eq_true rfl) ⟨Nat.le_of_ble_eq_true rfl, Nat.le_of_ble_eq_true rfl⟩ ⟨Nat.le_of_ble_eq_true rfl, Nat.le_of_ble_eq_true rfl⟩ d_Re_readGoingOn_11) hP hD hS hA [0, 1, 2] [3, 4] rfl rfl (by decide) (by decide) [2, 3, 4, 0, 1] (fun (x : Nat × Option Nat) => [(re, .inr (2, [.ref te, .ref dr, .int (nI x.1), .int (tI x.2)])), (te, .inr (4, [.ref ta, .int (nI n)])), (ta, .inl (cC, 600, .inl (nA sg))), (dr, .inr (1, [.ref q1, .ref q2, .ref q3, .ref q4, .ref q5, .ref q6, .ref q7, .ref q8, .ref q9, .int (nI rg)])), (q5, .inl (cI, 61, .inl (nA ne)))]) (fun _ => rfl) (by decide) (fun x H locs hp11 hP hD hS => ?_)
  obtain ⟨po2, tr2⟩ := x
  have hP : va_P D vwCl [(re, .inr (2, [.ref te, .ref dr, .int (nI po2), .int (tI tr2)])), (te, .inr (4, [.ref ta, .int (nI n)])), (ta, .inl (cC, 600, .inl (nA sg))), (dr, .inr (1, [.ref q1, .ref q2, .ref q3, .ref q4, .ref q5, .ref q6, .ref q7, .ref q8, .ref q9, .int (nI rg)])), (q5, .inl (cI, 61, .inl (nA ne)))] H := hP
  have hD : va_D A [(re, .inr (2, [.ref te, .ref dr, .int (nI po2), .int (tI tr2)])), (te, .inr (4, [.ref ta, .int (nI n)])), (ta, .inl (cC, 600, .inl (nA sg))), (dr, .inr (1, [.ref q1, .ref q2, .ref q3, .ref q4, .ref q5, .ref q6, .ref q7, .ref q8, .ref q9, .int (nI rg)])), (q5, .inl (cI, 61, .inl (nA ne)))] := hD
  obtain ⟨hc2, hd2, he2, hf2⟩ := gp_rs_bd hp11 (by omega) (by omega) hf1
  refine lv_aload_n hx hb d_Re_readGoingOn_14 rfl (lv_at hl 1 rfl) ?_
  refine lv_iconst (v := 1) hx hb d_Re_readGoingOn_15 (by decide) ?_
  refine lv_bipush (v := 60) hx hb d_Re_readGoingOn_16 (by decide) ?_
  refine ga_ji (wr := [(dr, .inr (1, [.ref q1, .ref q2, .ref q3, .ref q4, .ref q5, .ref q6, .ref q7, .ref q8, .ref q9, .int (nI rg)])), (q5, .inl (cI, 61, .inl (nA ne)))]) (ga_runV (As := [.int 1, .int 60]) (rest := []) S hK s_Re_59 (gc_Re_readNumber l D cI cZ cC cG re te ta dr n po2 sg tr2 (by omega) (by omega) hf2 1 60 (by omega) (by omega) hsg _) (ga_prV (y := y_Re_readNumber) (q0 := 0) hK hP hD [0, 1, 2] rfl (by decide) rfl rfl) rfl hl.1 rfl (Nat.le_of_ble_eq_true rfl) ⟨Nat.le_of_ble_eq_true rfl, Nat.le_of_ble_eq_true rfl⟩ ⟨Nat.le_of_ble_eq_true rfl, Nat.le_of_ble_eq_true rfl⟩ d_Re_readGoingOn_18) hP hD hS hA [0, 1, 2] [3, 4] rfl rfl (by decide) (by decide) [2, 3, 4, 0, 1] (fun (x : Nat × Nat × Option Nat) => [(re, .inr (2, [.ref te, .ref dr, .int (nI x.2.1), .int (tI x.2.2)])), (te, .inr (4, [.ref ta, .int (nI n)])), (ta, .inl (cC, 600, .inl (nA sg))), (dr, .inr (1, [.ref q1, .ref q2, .ref q3, .ref q4, .ref q5, .ref q6, .ref q7, .ref q8, .ref q9, .int (nI rg)])), (q5, .inl (cI, 61, .inl (nA ne)))]) (fun _ => rfl) (by decide) (fun r x H locs hp18 hP hD hS => ?_)
  obtain ⟨w3, po3, tr3⟩ := x
  have hP : va_P D vwCl [(re, .inr (2, [.ref te, .ref dr, .int (nI po3), .int (tI tr3)])), (te, .inr (4, [.ref ta, .int (nI n)])), (ta, .inl (cC, 600, .inl (nA sg))), (dr, .inr (1, [.ref q1, .ref q2, .ref q3, .ref q4, .ref q5, .ref q6, .ref q7, .ref q8, .ref q9, .int (nI rg)])), (q5, .inl (cI, 61, .inl (nA ne)))] H := hP
  have hD : va_D A [(re, .inr (2, [.ref te, .ref dr, .int (nI po3), .int (tI tr3)])), (te, .inr (4, [.ref ta, .int (nI n)])), (ta, .inl (cC, 600, .inl (nA sg))), (dr, .inr (1, [.ref q1, .ref q2, .ref q3, .ref q4, .ref q5, .ref q6, .ref q7, .ref q8, .ref q9, .int (nI rg)])), (q5, .inl (cI, 61, .inl (nA ne)))] := hD
  obtain ⟨rfl, hp18⟩ := hp18
  obtain ⟨ha3, hb3, hc3, hd3, he3, hf3⟩ := gp_rn_bd hp18 (by omega) (by omega) hf2
  refine lv_istore_n (lv' := [(3, .int (nI w3)), (2, .int (nI w1)), (0, .ref re), (1, .int (nI st))]) hx hb d_Re_readGoingOn_21 rfl hl (by decide) rfl (fun ls hl => ?_)
  refine lv_aload_n hx hb d_Re_readGoingOn_22 rfl (lv_at hl 2 rfl) ?_
  refine lv_bipush (v := 59) hx hb d_Re_readGoingOn_23 (by decide) ?_
  refine ga_jv (wr := [(dr, .inr (1, [.ref q1, .ref q2, .ref q3, .ref q4, .ref q5, .ref q6, .ref q7, .ref q8, .ref q9, .int (nI rg)])), (q5, .inl (cI, 61, .inl (nA ne)))]) (ga_runV (As := [.int 59]) (rest := []) S hK s_Re_63 (gc_Re_readSign l D cI cZ cC cG re te ta dr n po3 sg tr3 (by omega) (by omega) hf3 59 (by omega) hsg _) (ga_prV (y := y_Re_readSign) (q0 := 0) hK hP hD [0, 1, 2] rfl (by decide) rfl rfl) rfl hl.1 rfl (Nat.le_of_ble_eq_true rfl) ⟨Nat.le_of_ble_eq_true rfl, Nat.le_of_ble_eq_true rfl⟩ ⟨Nat.le_of_ble_eq_true rfl, Nat.le_of_ble_eq_true rfl⟩ d_Re_readGoingOn_25) hP hD hS hA [0, 1, 2] [3, 4] rfl rfl (by decide) (by decide) [2, 3, 4, 0, 1] (fun (x : Nat × Option Nat) => [(re, .inr (2, [.ref te, .ref dr, .int (nI x.1), .int (tI x.2)])), (te, .inr (4, [.ref ta, .int (nI n)])), (ta, .inl (cC, 600, .inl (nA sg))), (dr, .inr (1, [.ref q1, .ref q2, .ref q3, .ref q4, .ref q5, .ref q6, .ref q7, .ref q8, .ref q9, .int (nI rg)])), (q5, .inl (cI, 61, .inl (nA ne)))]) (fun _ => rfl) (by decide) (fun x H locs hp25 hP hD hS => ?_)
  obtain ⟨po4, tr4⟩ := x
  have hP : va_P D vwCl [(re, .inr (2, [.ref te, .ref dr, .int (nI po4), .int (tI tr4)])), (te, .inr (4, [.ref ta, .int (nI n)])), (ta, .inl (cC, 600, .inl (nA sg))), (dr, .inr (1, [.ref q1, .ref q2, .ref q3, .ref q4, .ref q5, .ref q6, .ref q7, .ref q8, .ref q9, .int (nI rg)])), (q5, .inl (cI, 61, .inl (nA ne)))] H := hP
  have hD : va_D A [(re, .inr (2, [.ref te, .ref dr, .int (nI po4), .int (tI tr4)])), (te, .inr (4, [.ref ta, .int (nI n)])), (ta, .inl (cC, 600, .inl (nA sg))), (dr, .inr (1, [.ref q1, .ref q2, .ref q3, .ref q4, .ref q5, .ref q6, .ref q7, .ref q8, .ref q9, .int (nI rg)])), (q5, .inl (cI, 61, .inl (nA ne)))] := hD
  obtain ⟨hc4, hd4, he4, hf4⟩ := gp_rs_bd hp25 (by omega) (by omega) hf3
  refine lv_aload_n hx hb d_Re_readGoingOn_28 rfl (lv_at hl 2 rfl) ?_
  refine ga_cr (As := []) (rest := []) (q0 := 0) S hK hP s_Re_38 (gc_Re_isFine l D cI cZ cC cG re te dr po4 tr4 (fun t q => by have := hf4 t q; omega)) [0] rfl rfl rfl rfl hl.1 rfl (Nat.le_of_ble_eq_true rfl) ⟨Nat.le_of_ble_eq_true rfl, Nat.le_of_ble_eq_true rfl⟩ ⟨Nat.le_of_ble_eq_true rfl, Nat.le_of_ble_eq_true rfl⟩ d_Re_readGoingOn_29 (fun r hp29 => ?_)
  rcases hp29 with ⟨rfl, hp29⟩ | ⟨rfl, hp29⟩
  · subst hp29
    refine lv_if_eq (tgt := 52) hx hb d_Re_readGoingOn_32 (by decide) (fun c32 => ?_) (fun c32 => ?_)
    · exact absurd c32 (by decide)
    · refine lv_aload_n hx hb d_Re_readGoingOn_35 rfl (lv_at hl 2 rfl) ?_
      refine ga_get S hK hP 0 rfl f_Re_21 rfl d_Re_readGoingOn_36 ?_
      refine lv_iload_n hx hb d_Re_readGoingOn_39 rfl (lv_at hl 1 rfl) ?_
      refine lv_iload_n hx hb d_Re_readGoingOn_40 rfl (lv_at hl 0 rfl) ?_
      refine ga_ji (wr := [(re, .inr (2, [.ref te, .ref dr, .int (nI po4), .int (tI none)])), (te, .inr (4, [.ref ta, .int (nI n)])), (ta, .inl (cC, 600, .inl (nA sg)))]) (ga_runV (As := [.int (nI w1), .int (nI w3)]) (rest := []) S hK s_Re_82 (gc_Pl_addGoingOn l D cI cZ cC cG dr q1 q2 q3 q4 q5 q6 q7 q8 q9 rg w1 w3 ne (by omega) hne _) (ga_prV (y := y_Pl_addGoingOn) (q0 := 3) hK hP hD [3, 4] rfl (by decide) rfl rfl) rfl hl.1 rfl (Nat.le_of_ble_eq_true rfl) ⟨Nat.le_of_ble_eq_true rfl, Nat.le_of_ble_eq_true rfl⟩ ⟨Nat.le_of_ble_eq_true rfl, Nat.le_of_ble_eq_true rfl⟩ d_Re_readGoingOn_41) hP hD hS hA [3, 4] [0, 1, 2] rfl rfl (by decide) (by decide) [0, 1, 2, 3, 4] (fun (x : Nat → Nat) => [(re, .inr (2, [.ref te, .ref dr, .int (nI po4), .int (tI none)])), (te, .inr (4, [.ref ta, .int (nI n)])), (ta, .inl (cC, 600, .inl (nA sg))), (dr, .inr (1, [.ref q1, .ref q2, .ref q3, .ref q4, .ref q5, .ref q6, .ref q7, .ref q8, .ref q9, .int (nI rg)])), (q5, .inl (cI, 61, .inl (nA x)))]) (fun _ => rfl) (by decide) (fun r x H locs hp41 hP hD hS => ?_)
      rcases hp41 with ⟨rfl, hp41, hx9⟩ | ⟨rfl, hp41, hx9⟩
      · rw [hx9] at hP hD
        have hP : va_P D vwCl [(re, .inr (2, [.ref te, .ref dr, .int (nI po4), .int (tI none)])), (te, .inr (4, [.ref ta, .int (nI n)])), (ta, .inl (cC, 600, .inl (nA sg))), (dr, .inr (1, [.ref q1, .ref q2, .ref q3, .ref q4, .ref q5, .ref q6, .ref q7, .ref q8, .ref q9, .int (nI rg)])), (q5, .inl (cI, 61, .inl (nA (va_up ne w1 w3))))] H := hP
        have hD : va_D A [(re, .inr (2, [.ref te, .ref dr, .int (nI po4), .int (tI none)])), (te, .inr (4, [.ref ta, .int (nI n)])), (ta, .inl (cC, 600, .inl (nA sg))), (dr, .inr (1, [.ref q1, .ref q2, .ref q3, .ref q4, .ref q5, .ref q6, .ref q7, .ref q8, .ref q9, .int (nI rg)])), (q5, .inl (cI, 61, .inl (nA (va_up ne w1 w3))))] := hD
        refine lv_if_ne (tgt := 52) hx hb d_Re_readGoingOn_44 (by decide) (fun c44 => ?_) (fun c44 => ?_)
        · exact ga_wv (po4, none, va_up ne w1 w3) S hrt hlk hP hD hS ⟨w1, w3, none, gp_O_eq hp4 hp11 hp18 hp25, Or.inl ⟨rfl, hp41, rfl, rfl⟩⟩ d_Re_readGoingOn_52
        · exact absurd c44 (by decide)
      · rw [hx9] at hP hD
        have hP : va_P D vwCl [(re, .inr (2, [.ref te, .ref dr, .int (nI po4), .int (tI none)])), (te, .inr (4, [.ref ta, .int (nI n)])), (ta, .inl (cC, 600, .inl (nA sg))), (dr, .inr (1, [.ref q1, .ref q2, .ref q3, .ref q4, .ref q5, .ref q6, .ref q7, .ref q8, .ref q9, .int (nI rg)])), (q5, .inl (cI, 61, .inl (nA ne)))] H := hP
        have hD : va_D A [(re, .inr (2, [.ref te, .ref dr, .int (nI po4), .int (tI none)])), (te, .inr (4, [.ref ta, .int (nI n)])), (ta, .inl (cC, 600, .inl (nA sg))), (dr, .inr (1, [.ref q1, .ref q2, .ref q3, .ref q4, .ref q5, .ref q6, .ref q7, .ref q8, .ref q9, .int (nI rg)])), (q5, .inl (cI, 61, .inl (nA ne)))] := hD
        refine lv_if_ne (tgt := 52) hx hb d_Re_readGoingOn_44 (by decide) (fun c44 => ?_) (fun c44 => ?_)
        · exact absurd c44 (by decide)
        · refine lv_aload_n hx hb d_Re_readGoingOn_47 rfl (lv_at hl 2 rfl) ?_
          refine lv_iload_n hx hb d_Re_readGoingOn_48 rfl (lv_at hl 3 rfl) ?_
          refine ga_put (ws' := [(re, .inr (2, [.ref te, .ref dr, .int (nI po4), .int (nI st)])), (te, .inr (4, [.ref ta, .int (nI n)])), (ta, .inl (cC, 600, .inl (nA sg))), (dr, .inr (1, [.ref q1, .ref q2, .ref q3, .ref q4, .ref q5, .ref q6, .ref q7, .ref q8, .ref q9, .int (nI rg)])), (q5, .inl (cI, 61, .inl (nA ne)))]) S hK hP hD hS 0 rfl p_Re_25 rfl rfl (Nat.le_of_ble_eq_true rfl) rfl d_Re_readGoingOn_49 (fun H locs hP hD hS => ?_)
          exact ga_wv (po4, some st, ne) S hrt hlk hP hD hS ⟨w1, w3, none, gp_O_eq hp4 hp11 hp18 hp25, Or.inr (Or.inl ⟨rfl, hp41, rfl, rfl⟩)⟩ d_Re_readGoingOn_52
  · refine lv_if_eq (tgt := 52) hx hb d_Re_readGoingOn_32 (by decide) (fun c32 => ?_) (fun c32 => ?_)
    · exact ga_wv (po4, tr4, ne) S hrt hlk hP hD hS ⟨w1, w3, tr4, gp_O_eq hp4 hp11 hp18 hp25, Or.inr (Or.inr ⟨hp29, rfl, rfl⟩)⟩ d_Re_readGoingOn_52
    · exact absurd c32 (by decide)
end
section
set_option maxHeartbeats 4000000 in
set_option maxRecDepth 100000 in
theorem gc_Re_readSentence (l : Launch) (D : va_G) (cI cZ cC cG : ClassId) (re te ta dr n pos : Nat) (sg : Nat → Nat) (hn : n ≤ 600) (hpos : pos < n) (q1 q2 q3 q4 q5 q6 q7 q8 q9 : Nat) (bn : Nat → Nat) (shr us : Nat → Bool) (ne r1 r2 r3 r4 : Nat → Nat) (rg : Nat) (hsg : ∀ j, sg j < 2 ^ 31) (hbn : ∀ j, bn j < 2 ^ 31) (hne : ∀ j, ne j < 2 ^ 31) (hrg : 9 * rg ≤ pos) : ga_Mv l y_Re_readSentence b_Re_readSentence 3 4 0 0 D (ga_T cI cZ cC cG) [.ref re] [(re, .inr (2, [.ref te, .ref dr, .int (nI pos), .int (tI none)])), (te, .inr (4, [.ref ta, .int (nI n)])), (ta, .inl (cC, 600, .inl (nA sg))), (dr, .inr (1, [.ref q1, .ref q2, .ref q3, .ref q4, .ref q5, .ref q6, .ref q7, .ref q8, .ref q9, .int (nI rg)])), (q1, .inl (cI, 480, .inl (nA bn))), (q2, .inl (cZ, 480, .inl (zA shr))), (q3, .inl (cZ, 41, .inl (zA us))), (q5, .inl (cI, 61, .inl (nA ne))), (q6, .inl (cI, 66, .inl (nA r1))), (q7, .inl (cI, 66, .inl (nA r2))), (q8, .inl (cI, 66, .inl (nA r3))), (q9, .inl (cI, 66, .inl (nA r4)))] (fun (x : Nat × Option Nat × gp_D) => [(re, .inr (2, [.ref te, .ref dr, .int (nI x.1), .int (tI x.2.1)])), (te, .inr (4, [.ref ta, .int (nI n)])), (ta, .inl (cC, 600, .inl (nA sg))), (dr, .inr (1, [.ref q1, .ref q2, .ref q3, .ref q4, .ref q5, .ref q6, .ref q7, .ref q8, .ref q9, .int (nI x.2.2.2.2.2.2.2.2.2.2)])), (q1, .inl (cI, 480, .inl (nA x.2.2.1))), (q2, .inl (cZ, 480, .inl (zA x.2.2.2.1))), (q3, .inl (cZ, 41, .inl (zA x.2.2.2.2.1))), (q5, .inl (cI, 61, .inl (nA x.2.2.2.2.2.1))), (q6, .inl (cI, 66, .inl (nA x.2.2.2.2.2.2.1))), (q7, .inl (cI, 66, .inl (nA x.2.2.2.2.2.2.2.1))), (q8, .inl (cI, 66, .inl (nA x.2.2.2.2.2.2.2.2.1))), (q9, .inl (cI, 66, .inl (nA x.2.2.2.2.2.2.2.2.2.1)))]) (fun x => x = gp_se sg n pos (bn, shr, us, ne, r1, r2, r3, r4, rg)) := by
  refine ga_enV (by decide) (Nat.le_of_ble_eq_true rfl) ?_
  intro p e s m below meth c ls A S hrt hlk hnm hK hP hD hA hl
  have hS : va_S A s.heap s.heap [] := va_S.rf
  obtain ⟨hx, hb, hml, hown, hts⟩ := id S
  have hl : lv_has ls 3 [(0, .ref re)] := hl
  refine lv_aload_n hx hb d_Re_readSentence_0 rfl (lv_at hl 0 rfl) ?_
  refine ga_get S hK hP 0 rfl f_Re_32 rfl d_Re_readSentence_1 ?_
  refine lv_istore_n (lv' := [(1, .int (nI pos)), (0, .ref re)]) hx hb d_Re_readSentence_4 rfl hl (by decide) rfl (fun ls hl => ?_)
  refine lv_aload_n hx hb d_Re_readSentence_5 rfl (lv_at hl 1 rfl) ?_
  refine ga_get S hK hP 0 rfl f_Re_12 rfl d_Re_readSentence_6 ?_
  refine lv_aload_n hx hb d_Re_readSentence_9 rfl (lv_at hl 1 rfl) ?_
  refine ga_get S hK hP 0 rfl f_Re_32 rfl d_Re_readSentence_10 ?_
  refine ga_cr (As := [.int (nI pos)]) (rest := []) (q0 := 1) S hK hP s_Re_45 (gc_Te_signAt l D cI cZ cC cG te ta n pos sg (by omega) (by omega)) [1, 2] rfl rfl rfl rfl hl.1 rfl (Nat.le_of_ble_eq_true rfl) ⟨Nat.le_of_ble_eq_true rfl, Nat.le_of_ble_eq_true rfl⟩ ⟨Nat.le_of_ble_eq_true rfl, Nat.le_of_ble_eq_true rfl⟩ d_Re_readSentence_13 (fun r hp13 => ?_)
  subst hp13
  have hg := gp_sg_lt hsg n pos
  refine lv_istore_n (lv' := [(2, .int (nI (gp_sg sg n pos))), (1, .int (nI pos)), (0, .ref re)]) hx hb d_Re_readSentence_16 rfl hl (by decide) rfl (fun ls hl => ?_)
  refine lv_aload_n hx hb d_Re_readSentence_17 rfl (lv_at hl 2 rfl) ?_
  refine lv_dup hx hb d_Re_readSentence_18 rfl ?_
  refine ga_get S hK hP 0 rfl f_Re_32 rfl d_Re_readSentence_19 ?_
  refine lv_iconst (v := 1) hx hb d_Re_readSentence_22 (by decide) ?_
  refine lv_iadd hx hb d_Re_readSentence_23 ?_
  refine ga_top (nI (pos + 1)) (nI_add pos 1) ?_
  refine ga_put (ws' := [(re, .inr (2, [.ref te, .ref dr, .int (nI (pos + 1)), .int (tI none)])), (te, .inr (4, [.ref ta, .int (nI n)])), (ta, .inl (cC, 600, .inl (nA sg))), (dr, .inr (1, [.ref q1, .ref q2, .ref q3, .ref q4, .ref q5, .ref q6, .ref q7, .ref q8, .ref q9, .int (nI rg)])), (q1, .inl (cI, 480, .inl (nA bn))), (q2, .inl (cZ, 480, .inl (zA shr))), (q3, .inl (cZ, 41, .inl (zA us))), (q5, .inl (cI, 61, .inl (nA ne))), (q6, .inl (cI, 66, .inl (nA r1))), (q7, .inl (cI, 66, .inl (nA r2))), (q8, .inl (cI, 66, .inl (nA r3))), (q9, .inl (cI, 66, .inl (nA r4)))]) S hK hP hD hS 0 rfl p_Re_32 rfl rfl (Nat.le_of_ble_eq_true rfl) rfl d_Re_readSentence_24 (fun H locs hP hD hS => ?_)
  refine lv_iload_n hx hb d_Re_readSentence_27 rfl (lv_at hl 0 rfl) ?_
  rcases (show (gp_sg sg n pos) = 84 ∨ (gp_sg sg n pos) = 66 ∨ (gp_sg sg n pos) = 79 ∨ ((gp_sg sg n pos) ≠ 66 ∧ (gp_sg sg n pos) ≠ 79 ∧ (gp_sg sg n pos) ≠ 84) by omega) with hc | hc | hc | hc
  · refine lv_lookup (tgt := 64) hx hb d_Re_readSentence_28 (by decide) (by rw [hc]) (by decide) ?_
    refine lv_aload_n hx hb d_Re_readSentence_64 rfl (lv_at hl 2 rfl) ?_
    refine ga_jv (wr := [(q1, .inl (cI, 480, .inl (nA bn))), (q2, .inl (cZ, 480, .inl (zA shr))), (q5, .inl (cI, 61, .inl (nA ne)))]) (ga_runV (As := []) (rest := []) S hK s_Re_49 (gc_Re_readRange l D cI cZ cC cG re te ta dr n (pos + 1) sg (by omega) (by omega) q1 q2 q3 q4 q5 q6 q7 q8 q9 us r1 r2 r3 r4 rg hsg (by omega) _) (ga_prV (y := y_Re_readRange) (q0 := 0) hK hP hD [0, 1, 2, 3, 6, 8, 9, 10, 11] rfl (by decide) rfl rfl) rfl hl.1 rfl (Nat.le_of_ble_eq_true rfl) ⟨Nat.le_of_ble_eq_true rfl, Nat.le_of_ble_eq_true rfl⟩ ⟨Nat.le_of_ble_eq_true rfl, Nat.le_of_ble_eq_true rfl⟩ d_Re_readSentence_65) hP hD hS hA [0, 1, 2, 3, 6, 8, 9, 10, 11] [4, 5, 7] rfl rfl (by decide) (by decide) [3, 4, 5, 6, 0, 1, 7, 2, 8, 9, 10, 11] (fun (x : Nat × Option Nat × (Nat → Bool) × (Nat → Nat) × (Nat → Nat) × (Nat → Nat) × (Nat → Nat) × Nat) => [(re, .inr (2, [.ref te, .ref dr, .int (nI x.1), .int (tI x.2.1)])), (te, .inr (4, [.ref ta, .int (nI n)])), (ta, .inl (cC, 600, .inl (nA sg))), (dr, .inr (1, [.ref q1, .ref q2, .ref q3, .ref q4, .ref q5, .ref q6, .ref q7, .ref q8, .ref q9, .int (nI x.2.2.2.2.2.2.2)])), (q1, .inl (cI, 480, .inl (nA bn))), (q2, .inl (cZ, 480, .inl (zA shr))), (q3, .inl (cZ, 41, .inl (zA x.2.2.1))), (q5, .inl (cI, 61, .inl (nA ne))), (q6, .inl (cI, 66, .inl (nA x.2.2.2.1))), (q7, .inl (cI, 66, .inl (nA x.2.2.2.2.1))), (q8, .inl (cI, 66, .inl (nA x.2.2.2.2.2.1))), (q9, .inl (cI, 66, .inl (nA x.2.2.2.2.2.2.1)))]) (fun _ => rfl) (by decide) (fun x H locs hp65 hP hD hS => ?_)
    obtain ⟨po, tq, us9, s1, s2, s3, s4, rg9⟩ := x
    have hP : va_P D vwCl [(re, .inr (2, [.ref te, .ref dr, .int (nI po), .int (tI tq)])), (te, .inr (4, [.ref ta, .int (nI n)])), (ta, .inl (cC, 600, .inl (nA sg))), (dr, .inr (1, [.ref q1, .ref q2, .ref q3, .ref q4, .ref q5, .ref q6, .ref q7, .ref q8, .ref q9, .int (nI rg9)])), (q1, .inl (cI, 480, .inl (nA bn))), (q2, .inl (cZ, 480, .inl (zA shr))), (q3, .inl (cZ, 41, .inl (zA us9))), (q5, .inl (cI, 61, .inl (nA ne))), (q6, .inl (cI, 66, .inl (nA s1))), (q7, .inl (cI, 66, .inl (nA s2))), (q8, .inl (cI, 66, .inl (nA s3))), (q9, .inl (cI, 66, .inl (nA s4)))] H := hP
    have hD : va_D A [(re, .inr (2, [.ref te, .ref dr, .int (nI po), .int (tI tq)])), (te, .inr (4, [.ref ta, .int (nI n)])), (ta, .inl (cC, 600, .inl (nA sg))), (dr, .inr (1, [.ref q1, .ref q2, .ref q3, .ref q4, .ref q5, .ref q6, .ref q7, .ref q8, .ref q9, .int (nI rg9)])), (q1, .inl (cI, 480, .inl (nA bn))), (q2, .inl (cZ, 480, .inl (zA shr))), (q3, .inl (cZ, 41, .inl (zA us9))), (q5, .inl (cI, 61, .inl (nA ne))), (q6, .inl (cI, 66, .inl (nA s1))), (q7, .inl (cI, 66, .inl (nA s2))), (q8, .inl (cI, 66, .inl (nA s3))), (q9, .inl (cI, 66, .inl (nA s4)))] := hD
    refine lv_goto (tgt := 92) hx hb d_Re_readSentence_68 (by decide) ?_
    obtain ⟨w1, w3, w5, w7, hT, h9⟩ := hp65
    exact ga_wv (po, tq, bn, shr, us9, ne, s1, s2, s3, s4, rg9) S hrt hlk hP hD hS (by rw [gp_se, if_pos hc, hT]; rcases h9 with ⟨hn9, hE⟩ | ⟨hn9, hE⟩ <;> (simp only [Prod.mk.injEq] at hE hn9; obtain ⟨rfl, rfl, rfl, rfl, rfl, rfl⟩ := hE; simp [gp_sT, hn9])) d_Re_readSentence_92
  · refine lv_lookup (tgt := 71) hx hb d_Re_readSentence_28 (by decide) (by rw [hc]) (by decide) ?_
    refine lv_aload_n hx hb d_Re_readSentence_71 rfl (lv_at hl 2 rfl) ?_
    refine lv_iload_n hx hb d_Re_readSentence_72 rfl (lv_at hl 1 rfl) ?_
    refine ga_jv (wr := [(q3, .inl (cZ, 41, .inl (zA us))), (q5, .inl (cI, 61, .inl (nA ne))), (q6, .inl (cI, 66, .inl (nA r1))), (q7, .inl (cI, 66, .inl (nA r2))), (q8, .inl (cI, 66, .inl (nA r3))), (q9, .inl (cI, 66, .inl (nA r4)))]) (ga_runV (As := [.int (nI pos)]) (rest := []) S hK s_Re_52 (gc_Re_readBin l D cI cZ cC cG re te ta dr n (pos + 1) sg (by omega) (by omega) q1 q2 q3 q4 q5 q6 q7 q8 q9 rg pos bn shr hsg hbn _) (ga_prV (y := y_Re_readBin) (q0 := 0) hK hP hD [0, 1, 2, 3, 4, 5] rfl (by decide) rfl rfl) rfl hl.1 rfl (Nat.le_of_ble_eq_true rfl) ⟨Nat.le_of_ble_eq_true rfl, Nat.le_of_ble_eq_true rfl⟩ ⟨Nat.le_of_ble_eq_true rfl, Nat.le_of_ble_eq_true rfl⟩ d_Re_readSentence_73) hP hD hS hA [0, 1, 2, 3, 4, 5] [6, 7, 8, 9, 10, 11] rfl rfl (by decide) (by decide) [6, 7, 8, 9, 10, 11, 0, 1, 2, 3, 4, 5] (fun (x : Nat × Option Nat × (Nat → Nat) × (Nat → Bool)) => [(re, .inr (2, [.ref te, .ref dr, .int (nI x.1), .int (tI x.2.1)])), (te, .inr (4, [.ref ta, .int (nI n)])), (ta, .inl (cC, 600, .inl (nA sg))), (dr, .inr (1, [.ref q1, .ref q2, .ref q3, .ref q4, .ref q5, .ref q6, .ref q7, .ref q8, .ref q9, .int (nI rg)])), (q1, .inl (cI, 480, .inl (nA x.2.2.1))), (q2, .inl (cZ, 480, .inl (zA x.2.2.2))), (q3, .inl (cZ, 41, .inl (zA us))), (q5, .inl (cI, 61, .inl (nA ne))), (q6, .inl (cI, 66, .inl (nA r1))), (q7, .inl (cI, 66, .inl (nA r2))), (q8, .inl (cI, 66, .inl (nA r3))), (q9, .inl (cI, 66, .inl (nA r4)))]) (fun _ => rfl) (by decide) (fun x H locs hp73 hP hD hS => ?_)
    obtain ⟨po, tq, bn9, sh9⟩ := x
    have hP : va_P D vwCl [(re, .inr (2, [.ref te, .ref dr, .int (nI po), .int (tI tq)])), (te, .inr (4, [.ref ta, .int (nI n)])), (ta, .inl (cC, 600, .inl (nA sg))), (dr, .inr (1, [.ref q1, .ref q2, .ref q3, .ref q4, .ref q5, .ref q6, .ref q7, .ref q8, .ref q9, .int (nI rg)])), (q1, .inl (cI, 480, .inl (nA bn9))), (q2, .inl (cZ, 480, .inl (zA sh9))), (q3, .inl (cZ, 41, .inl (zA us))), (q5, .inl (cI, 61, .inl (nA ne))), (q6, .inl (cI, 66, .inl (nA r1))), (q7, .inl (cI, 66, .inl (nA r2))), (q8, .inl (cI, 66, .inl (nA r3))), (q9, .inl (cI, 66, .inl (nA r4)))] H := hP
    have hD : va_D A [(re, .inr (2, [.ref te, .ref dr, .int (nI po), .int (tI tq)])), (te, .inr (4, [.ref ta, .int (nI n)])), (ta, .inl (cC, 600, .inl (nA sg))), (dr, .inr (1, [.ref q1, .ref q2, .ref q3, .ref q4, .ref q5, .ref q6, .ref q7, .ref q8, .ref q9, .int (nI rg)])), (q1, .inl (cI, 480, .inl (nA bn9))), (q2, .inl (cZ, 480, .inl (zA sh9))), (q3, .inl (cZ, 41, .inl (zA us))), (q5, .inl (cI, 61, .inl (nA ne))), (q6, .inl (cI, 66, .inl (nA r1))), (q7, .inl (cI, 66, .inl (nA r2))), (q8, .inl (cI, 66, .inl (nA r3))), (q9, .inl (cI, 66, .inl (nA r4)))] := hD
    refine lv_goto (tgt := 92) hx hb d_Re_readSentence_76 (by decide) ?_
    obtain ⟨w1, w3, w5, w7, b8, t9, hT, h9⟩ := hp73
    exact ga_wv (po, tq, bn9, sh9, us, ne, r1, r2, r3, r4, rg) S hrt hlk hP hD hS (by rw [gp_se, if_neg (by omega), if_pos hc, hT]; rcases h9 with ⟨hn9, hz9, ht9, hE⟩ | ⟨hn9, hz9, ht9, hE⟩ | ⟨hn9, ht9, hE⟩ <;> (simp only [Prod.mk.injEq] at hE ht9; obtain ⟨rfl, rfl⟩ := hE; subst ht9; simp [gp_sB, *])) d_Re_readSentence_92
  · refine lv_lookup (tgt := 79) hx hb d_Re_readSentence_28 (by decide) (by rw [hc]) (by decide) ?_
    refine lv_aload_n hx hb d_Re_readSentence_79 rfl (lv_at hl 2 rfl) ?_
    refine lv_iload_n hx hb d_Re_readSentence_80 rfl (lv_at hl 1 rfl) ?_
    refine ga_jv (wr := [(q1, .inl (cI, 480, .inl (nA bn))), (q2, .inl (cZ, 480, .inl (zA shr))), (q3, .inl (cZ, 41, .inl (zA us))), (q6, .inl (cI, 66, .inl (nA r1))), (q7, .inl (cI, 66, .inl (nA r2))), (q8, .inl (cI, 66, .inl (nA r3))), (q9, .inl (cI, 66, .inl (nA r4)))]) (ga_runV (As := [.int (nI pos)]) (rest := []) S hK s_Re_56 (gc_Re_readGoingOn l D cI cZ cC cG re te ta dr n (pos + 1) sg (by omega) (by omega) q1 q2 q3 q4 q5 q6 q7 q8 q9 rg pos ne hsg hne _) (ga_prV (y := y_Re_readGoingOn) (q0 := 0) hK hP hD [0, 1, 2, 3, 7] rfl (by decide) rfl rfl) rfl hl.1 rfl (Nat.le_of_ble_eq_true rfl) ⟨Nat.le_of_ble_eq_true rfl, Nat.le_of_ble_eq_true rfl⟩ ⟨Nat.le_of_ble_eq_true rfl, Nat.le_of_ble_eq_true rfl⟩ d_Re_readSentence_81) hP hD hS hA [0, 1, 2, 3, 7] [4, 5, 6, 8, 9, 10, 11] rfl rfl (by decide) (by decide) [7, 8, 9, 10, 0, 1, 2, 11, 3, 4, 5, 6] (fun (x : Nat × Option Nat × (Nat → Nat)) => [(re, .inr (2, [.ref te, .ref dr, .int (nI x.1), .int (tI x.2.1)])), (te, .inr (4, [.ref ta, .int (nI n)])), (ta, .inl (cC, 600, .inl (nA sg))), (dr, .inr (1, [.ref q1, .ref q2, .ref q3, .ref q4, .ref q5, .ref q6, .ref q7, .ref q8, .ref q9, .int (nI rg)])), (q1, .inl (cI, 480, .inl (nA bn))), (q2, .inl (cZ, 480, .inl (zA shr))), (q3, .inl (cZ, 41, .inl (zA us))), (q5, .inl (cI, 61, .inl (nA x.2.2))), (q6, .inl (cI, 66, .inl (nA r1))), (q7, .inl (cI, 66, .inl (nA r2))), (q8, .inl (cI, 66, .inl (nA r3))), (q9, .inl (cI, 66, .inl (nA r4)))]) (fun _ => rfl) (by decide) (fun x H locs hp81 hP hD hS => ?_)
    obtain ⟨po, tq, ne9⟩ := x
    have hP : va_P D vwCl [(re, .inr (2, [.ref te, .ref dr, .int (nI po), .int (tI tq)])), (te, .inr (4, [.ref ta, .int (nI n)])), (ta, .inl (cC, 600, .inl (nA sg))), (dr, .inr (1, [.ref q1, .ref q2, .ref q3, .ref q4, .ref q5, .ref q6, .ref q7, .ref q8, .ref q9, .int (nI rg)])), (q1, .inl (cI, 480, .inl (nA bn))), (q2, .inl (cZ, 480, .inl (zA shr))), (q3, .inl (cZ, 41, .inl (zA us))), (q5, .inl (cI, 61, .inl (nA ne9))), (q6, .inl (cI, 66, .inl (nA r1))), (q7, .inl (cI, 66, .inl (nA r2))), (q8, .inl (cI, 66, .inl (nA r3))), (q9, .inl (cI, 66, .inl (nA r4)))] H := hP
    have hD : va_D A [(re, .inr (2, [.ref te, .ref dr, .int (nI po), .int (tI tq)])), (te, .inr (4, [.ref ta, .int (nI n)])), (ta, .inl (cC, 600, .inl (nA sg))), (dr, .inr (1, [.ref q1, .ref q2, .ref q3, .ref q4, .ref q5, .ref q6, .ref q7, .ref q8, .ref q9, .int (nI rg)])), (q1, .inl (cI, 480, .inl (nA bn))), (q2, .inl (cZ, 480, .inl (zA shr))), (q3, .inl (cZ, 41, .inl (zA us))), (q5, .inl (cI, 61, .inl (nA ne9))), (q6, .inl (cI, 66, .inl (nA r1))), (q7, .inl (cI, 66, .inl (nA r2))), (q8, .inl (cI, 66, .inl (nA r3))), (q9, .inl (cI, 66, .inl (nA r4)))] := hD
    refine lv_goto (tgt := 92) hx hb d_Re_readSentence_84 (by decide) ?_
    obtain ⟨w1, w3, t9, hT, h9⟩ := hp81
    exact ga_wv (po, tq, bn, shr, us, ne9, r1, r2, r3, r4, rg) S hrt hlk hP hD hS (by rw [gp_se, if_neg (by omega), if_neg (by omega), if_pos hc, hT]; rcases h9 with ⟨hn9, hz9, ht9, hE⟩ | ⟨hn9, hz9, ht9, hE⟩ | ⟨hn9, ht9, hE⟩ <;> (simp only at hE ht9; subst hE; subst ht9; simp [gp_sO, *])) d_Re_readSentence_92
  · refine lv_lookup (tgt := 87) hx hb d_Re_readSentence_28 (by decide) (by show Op.lookupswitch.offset [(66, 43), (79, 51), (84, 36)] 59 _ = 59; rw [lv_osw (k := 66) (a := 66) (fun q => hc.1 ((nI_eq (a := (gp_sg sg n pos)) (b := 66) (by omega) (by omega)).mp q)) rfl, lv_osw (k := 79) (a := 79) (fun q => hc.2.1 ((nI_eq (a := (gp_sg sg n pos)) (b := 79) (by omega) (by omega)).mp q)) rfl, lv_osw (k := 84) (a := 84) (fun q => hc.2.2 ((nI_eq (a := (gp_sg sg n pos)) (b := 84) (by omega) (by omega)).mp q)) rfl]; rfl) (by decide) ?_
    refine lv_aload_n hx hb d_Re_readSentence_87 rfl (lv_at hl 2 rfl) ?_
    refine lv_iload_n hx hb d_Re_readSentence_88 rfl (lv_at hl 1 rfl) ?_
    refine ga_put (ws' := [(re, .inr (2, [.ref te, .ref dr, .int (nI (pos + 1)), .int (nI pos)])), (te, .inr (4, [.ref ta, .int (nI n)])), (ta, .inl (cC, 600, .inl (nA sg))), (dr, .inr (1, [.ref q1, .ref q2, .ref q3, .ref q4, .ref q5, .ref q6, .ref q7, .ref q8, .ref q9, .int (nI rg)])), (q1, .inl (cI, 480, .inl (nA bn))), (q2, .inl (cZ, 480, .inl (zA shr))), (q3, .inl (cZ, 41, .inl (zA us))), (q5, .inl (cI, 61, .inl (nA ne))), (q6, .inl (cI, 66, .inl (nA r1))), (q7, .inl (cI, 66, .inl (nA r2))), (q8, .inl (cI, 66, .inl (nA r3))), (q9, .inl (cI, 66, .inl (nA r4)))]) S hK hP hD hS 0 rfl p_Re_25 rfl rfl (Nat.le_of_ble_eq_true rfl) rfl d_Re_readSentence_89 (fun H locs hP hD hS => ?_)
    exact ga_wv (pos + 1, some pos, bn, shr, us, ne, r1, r2, r3, r4, rg) S hrt hlk hP hD hS (by rw [gp_se, if_neg hc.2.2, if_neg hc.1, if_neg hc.2.1]) d_Re_readSentence_92
set_option maxHeartbeats 4000000 in
set_option maxRecDepth 100000 in
theorem gc_Re_readText (l : Launch) (D : va_G) (cI cZ cC cG : ClassId) (re te ta dr n pos : Nat) (sg : Nat → Nat) (tr0 : Option Nat) (hn : n ≤ 600) (q1 q2 q3 q4 q5 q6 q7 q8 q9 : Nat) (bn : Nat → Nat) (shr us : Nat → Bool) (ne r1 r2 r3 r4 : Nat → Nat) (rg : Nat) (he : Nat → Bool) (hsg : ∀ j, sg j < 2 ^ 31) : ga_Mi l y_Re_readText b_Re_readText 2 (some .int) 5 0 0 D (ga_T cI cZ cC cG) [.ref re] [(re, .inr (2, [.ref te, .ref dr, .int (nI pos), .int (tI tr0)])), (te, .inr (4, [.ref ta, .int (nI n)])), (ta, .inl (cC, 600, .inl (nA sg))), (dr, .inr (1, [.ref q1, .ref q2, .ref q3, .ref q4, .ref q5, .ref q6, .ref q7, .ref q8, .ref q9, .int (nI rg)])), (q1, .inl (cI, 480, .inl (nA bn))), (q2, .inl (cZ, 480, .inl (zA shr))), (q3, .inl (cZ, 41, .inl (zA us))), (q4, .inl (cZ, 41, .inl (zA he))), (q5, .inl (cI, 61, .inl (nA ne))), (q6, .inl (cI, 66, .inl (nA r1))), (q7, .inl (cI, 66, .inl (nA r2))), (q8, .inl (cI, 66, .inl (nA r3))), (q9, .inl (cI, 66, .inl (nA r4)))] (fun (x : Nat × Nat × Option Nat × gp_D) => [(re, .inr (2, [.ref te, .ref dr, .int (nI x.2.1), .int (tI x.2.2.1)])), (te, .inr (4, [.ref ta, .int (nI n)])), (ta, .inl (cC, 600, .inl (nA sg))), (dr, .inr (1, [.ref q1, .ref q2, .ref q3, .ref q4, .ref q5, .ref q6, .ref q7, .ref q8, .ref q9, .int (nI x.2.2.2.2.2.2.2.2.2.2.2)])), (q1, .inl (cI, 480, .inl (nA x.2.2.2.1))), (q2, .inl (cZ, 480, .inl (zA x.2.2.2.2.1))), (q3, .inl (cZ, 41, .inl (zA x.2.2.2.2.2.1))), (q4, .inl (cZ, 41, .inl (zA (fun _ => false)))), (q5, .inl (cI, 61, .inl (nA x.2.2.2.2.2.2.1))), (q6, .inl (cI, 66, .inl (nA x.2.2.2.2.2.2.2.1))), (q7, .inl (cI, 66, .inl (nA x.2.2.2.2.2.2.2.2.1))), (q8, .inl (cI, 66, .inl (nA x.2.2.2.2.2.2.2.2.2.1))), (q9, .inl (cI, 66, .inl (nA x.2.2.2.2.2.2.2.2.2.2.1)))]) (fun r x => r = nI x.1 ∧ x = gp_all sg n 600 0 (0, none, fun _ => 0, shr, fun _ => false, fun _ => 0, r1, r2, r3, r4, 0) ∧ gp_ok n x.2) := by
  refine ga_enI (by decide) (Nat.le_of_ble_eq_true rfl) ?_
  intro p e s m below meth c ls A S hrt hlk hK hP hD hA hl
  have hS : va_S A s.heap s.heap [] := va_S.rf
  obtain ⟨hx, hb, hml, hown, hts⟩ := id S
  have hl : lv_has ls 2 [(0, .ref re)] := hl
  refine lv_aload_n hx hb d_Re_readText_0 rfl (lv_at hl 0 rfl) ?_
  refine ga_get S hK hP 0 rfl f_Re_21 rfl d_Re_readText_1 ?_
  refine ga_jv (wr := [(re, .inr (2, [.ref te, .ref dr, .int (nI pos), .int (tI tr0)])), (te, .inr (4, [.ref ta, .int (nI n)])), (ta, .inl (cC, 600, .inl (nA sg))), (q2, .inl (cZ, 480, .inl (zA shr))), (q6, .inl (cI, 66, .inl (nA r1))), (q7, .inl (cI, 66, .inl (nA r2))), (q8, .inl (cI, 66, .inl (nA r3))), (q9, .inl (cI, 66, .inl (nA r4)))]) (ga_runV (As := []) (rest := []) S hK s_Re_29 (gc_Pl_clear l D cI cZ cC cG dr q1 q2 q3 q4 q5 q6 q7 q8 q9 rg bn ne us he _) (ga_prV (y := y_Pl_clear) (q0 := 3) hK hP hD [3, 4, 6, 7, 8] rfl (by decide) rfl rfl) rfl hl.1 rfl (Nat.le_of_ble_eq_true rfl) ⟨Nat.le_of_ble_eq_true rfl, Nat.le_of_ble_eq_true rfl⟩ ⟨Nat.le_of_ble_eq_true rfl, Nat.le_of_ble_eq_true rfl⟩ d_Re_readText_4) hP hD hS hA [3, 4, 6, 7, 8] [0, 1, 2, 5, 9, 10, 11, 12] rfl rfl (by decide) (by decide) [0, 1, 2, 8, 9, 3, 10, 11, 12, 4, 5, 6, 7] (fun _ => [(re, .inr (2, [.ref te, .ref dr, .int (nI pos), .int (tI tr0)])), (te, .inr (4, [.ref ta, .int (nI n)])), (ta, .inl (cC, 600, .inl (nA sg))), (dr, .inr (1, [.ref q1, .ref q2, .ref q3, .ref q4, .ref q5, .ref q6, .ref q7, .ref q8, .ref q9, .int (nI 0)])), (q1, .inl (cI, 480, .inl (nA (fun _ => 0)))), (q2, .inl (cZ, 480, .inl (zA shr))), (q3, .inl (cZ, 41, .inl (zA (fun _ => false)))), (q4, .inl (cZ, 41, .inl (zA (fun _ => false)))), (q5, .inl (cI, 61, .inl (nA (fun _ => 0)))), (q6, .inl (cI, 66, .inl (nA r1))), (q7, .inl (cI, 66, .inl (nA r2))), (q8, .inl (cI, 66, .inl (nA r3))), (q9, .inl (cI, 66, .inl (nA r4)))]) (fun _ => rfl) (by decide) (fun x H locs hp4 hP hD hS => ?_)
  refine lv_aload_n hx hb d_Re_readText_7 rfl (lv_at hl 0 rfl) ?_
  refine lv_iconst (v := 0) hx hb d_Re_readText_8 (by decide) ?_
  refine ga_put (ws' := [(re, .inr (2, [.ref te, .ref dr, .int 0, .int (tI tr0)])), (te, .inr (4, [.ref ta, .int (nI n)])), (ta, .inl (cC, 600, .inl (nA sg))), (dr, .inr (1, [.ref q1, .ref q2, .ref q3, .ref q4, .ref q5, .ref q6, .ref q7, .ref q8, .ref q9, .int (nI 0)])), (q1, .inl (cI, 480, .inl (nA (fun _ => 0)))), (q2, .inl (cZ, 480, .inl (zA shr))), (q3, .inl (cZ, 41, .inl (zA (fun _ => false)))), (q4, .inl (cZ, 41, .inl (zA (fun _ => false)))), (q5, .inl (cI, 61, .inl (nA (fun _ => 0)))), (q6, .inl (cI, 66, .inl (nA r1))), (q7, .inl (cI, 66, .inl (nA r2))), (q8, .inl (cI, 66, .inl (nA r3))), (q9, .inl (cI, 66, .inl (nA r4)))]) S hK hP hD hS 0 rfl p_Re_32 rfl rfl (Nat.le_of_ble_eq_true rfl) rfl d_Re_readText_9 (fun H locs hP hD hS => ?_)
  refine lv_aload_n hx hb d_Re_readText_12 rfl (lv_at hl 0 rfl) ?_
  refine lv_iconst (v := (-1)) hx hb d_Re_readText_13 (by decide) ?_
  refine ga_put (ws' := [(re, .inr (2, [.ref te, .ref dr, .int 0, .int (-1)])), (te, .inr (4, [.ref ta, .int (nI n)])), (ta, .inl (cC, 600, .inl (nA sg))), (dr, .inr (1, [.ref q1, .ref q2, .ref q3, .ref q4, .ref q5, .ref q6, .ref q7, .ref q8, .ref q9, .int (nI 0)])), (q1, .inl (cI, 480, .inl (nA (fun _ => 0)))), (q2, .inl (cZ, 480, .inl (zA shr))), (q3, .inl (cZ, 41, .inl (zA (fun _ => false)))), (q4, .inl (cZ, 41, .inl (zA (fun _ => false)))), (q5, .inl (cI, 61, .inl (nA (fun _ => 0)))), (q6, .inl (cI, 66, .inl (nA r1))), (q7, .inl (cI, 66, .inl (nA r2))), (q8, .inl (cI, 66, .inl (nA r3))), (q9, .inl (cI, 66, .inl (nA r4)))]) S hK hP hD hS 0 rfl p_Re_25 rfl rfl (Nat.le_of_ble_eq_true rfl) rfl d_Re_readText_14 (fun H locs hP hD hS => ?_)
  refine lv_iconst (v := 0) hx hb d_Re_readText_17 (by decide) ?_
  refine lv_istore_n (lv' := [(1, .int 0), (0, .ref re)]) hx hb d_Re_readText_18 rfl hl (by decide) rfl (fun ls hl => ?_)
  refine ga_loop (α := Nat × Nat × Option Nat × (Nat → Nat) × (Nat → Bool) × (Nat → Bool) × (Nat → Nat) × (Nat → Nat) × (Nat → Nat) × (Nat → Nat) × (Nat → Nat) × Nat) (fun x => match x with | (cnt, po, tr, bm, sm, um, nm9, a1, a2, a3, a4, rm) => 600 - cnt) (fun x ls H locs => match x with | (cnt, po, tr, bm, sm, um, nm9, a1, a2, a3, a4, rm) => lv_has ls 2 [(1, .int (nI cnt)), (0, .ref re)] ∧ va_P D vwCl [(re, .inr (2, [.ref te, .ref dr, .int (nI po), .int (tI tr)])), (te, .inr (4, [.ref ta, .int (nI n)])), (ta, .inl (cC, 600, .inl (nA sg))), (dr, .inr (1, [.ref q1, .ref q2, .ref q3, .ref q4, .ref q5, .ref q6, .ref q7, .ref q8, .ref q9, .int (nI rm)])), (q1, .inl (cI, 480, .inl (nA bm))), (q2, .inl (cZ, 480, .inl (zA sm))), (q3, .inl (cZ, 41, .inl (zA um))), (q4, .inl (cZ, 41, .inl (zA (fun _ => false)))), (q5, .inl (cI, 61, .inl (nA nm9))), (q6, .inl (cI, 66, .inl (nA a1))), (q7, .inl (cI, 66, .inl (nA a2))), (q8, .inl (cI, 66, .inl (nA a3))), (q9, .inl (cI, 66, .inl (nA a4)))] H ∧ va_D A [(re, .inr (2, [.ref te, .ref dr, .int (nI po), .int (tI tr)])), (te, .inr (4, [.ref ta, .int (nI n)])), (ta, .inl (cC, 600, .inl (nA sg))), (dr, .inr (1, [.ref q1, .ref q2, .ref q3, .ref q4, .ref q5, .ref q6, .ref q7, .ref q8, .ref q9, .int (nI rm)])), (q1, .inl (cI, 480, .inl (nA bm))), (q2, .inl (cZ, 480, .inl (zA sm))), (q3, .inl (cZ, 41, .inl (zA um))), (q4, .inl (cZ, 41, .inl (zA (fun _ => false)))), (q5, .inl (cI, 61, .inl (nA nm9))), (q6, .inl (cI, 66, .inl (nA a1))), (q7, .inl (cI, 66, .inl (nA a2))), (q8, .inl (cI, 66, .inl (nA a3))), (q9, .inl (cI, 66, .inl (nA a4)))] ∧ va_S A s.heap H locs ∧ cnt ≤ 600 ∧ gp_all sg n (600 - cnt) cnt (po, tr, bm, sm, um, nm9, a1, a2, a3, a4, rm) = gp_all sg n 600 0 (0, none, fun _ => 0, shr, fun _ => false, fun _ => 0, r1, r2, r3, r4, 0) ∧ gp_ok n (po, tr, bm, sm, um, nm9, a1, a2, a3, a4, rm)) ?_ (0, 0, none, fun _ => 0, shr, fun _ => false, fun _ => 0, r1, r2, r3, r4, 0) ⟨lv_sub hl [0, 1] rfl, hP, hD, hS, ⟨by decide, rfl, Nat.zero_le _, (fun _ q => by cases q), (fun _ => Nat.zero_le _), (fun _ => Nat.zero_le _), Nat.zero_le _, (fun k hk => absurd hk (Nat.not_lt_zero _)), fun t => ⟨(fun q => by cases q), fun ⟨k, hk, _⟩ => absurd hk (Nat.not_lt_zero _)⟩⟩⟩
  intro x ls H locs hI ih
  obtain ⟨cnt, po, tr, bm, sm, um, nm9, a1, a2, a3, a4, rm⟩ := x
  obtain ⟨hl, hP, hD, hS, ⟨hcn, hiv, hok⟩⟩ := hI
  have hl : lv_has ls 2 [(1, .int (nI cnt)), (0, .ref re)] := hl
  have hP : va_P D vwCl [(re, .inr (2, [.ref te, .ref dr, .int (nI po), .int (tI tr)])), (te, .inr (4, [.ref ta, .int (nI n)])), (ta, .inl (cC, 600, .inl (nA sg))), (dr, .inr (1, [.ref q1, .ref q2, .ref q3, .ref q4, .ref q5, .ref q6, .ref q7, .ref q8, .ref q9, .int (nI rm)])), (q1, .inl (cI, 480, .inl (nA bm))), (q2, .inl (cZ, 480, .inl (zA sm))), (q3, .inl (cZ, 41, .inl (zA um))), (q4, .inl (cZ, 41, .inl (zA (fun _ => false)))), (q5, .inl (cI, 61, .inl (nA nm9))), (q6, .inl (cI, 66, .inl (nA a1))), (q7, .inl (cI, 66, .inl (nA a2))), (q8, .inl (cI, 66, .inl (nA a3))), (q9, .inl (cI, 66, .inl (nA a4)))] H := hP
  have hD : va_D A [(re, .inr (2, [.ref te, .ref dr, .int (nI po), .int (tI tr)])), (te, .inr (4, [.ref ta, .int (nI n)])), (ta, .inl (cC, 600, .inl (nA sg))), (dr, .inr (1, [.ref q1, .ref q2, .ref q3, .ref q4, .ref q5, .ref q6, .ref q7, .ref q8, .ref q9, .int (nI rm)])), (q1, .inl (cI, 480, .inl (nA bm))), (q2, .inl (cZ, 480, .inl (zA sm))), (q3, .inl (cZ, 41, .inl (zA um))), (q4, .inl (cZ, 41, .inl (zA (fun _ => false)))), (q5, .inl (cI, 61, .inl (nA nm9))), (q6, .inl (cI, 66, .inl (nA a1))), (q7, .inl (cI, 66, .inl (nA a2))), (q8, .inl (cI, 66, .inl (nA a3))), (q9, .inl (cI, 66, .inl (nA a4)))] := hD
  have hok2 := id hok
  obtain ⟨hpo, htr, hbn, hne, hrg, -, -⟩ := hok2
  refine lv_iload_n hx hb d_Re_readText_19 rfl (lv_at hl 0 rfl) ?_
  refine lv_sipush (v := 600) hx hb d_Re_readText_20 (by decide) ?_
  refine lv_icmp_ge (tgt := 57) hx hb d_Re_readText_23 (by decide) (fun c23 => ?_) (fun c23 => ?_)
  · have c23 : 600 ≤ cnt := (nI_leI (a := 600) (b := cnt) (by omega) (by omega)).mp c23
    refine lv_iload_n hx hb d_Re_readText_57 rfl (lv_at hl 0 rfl) ?_
    exact ga_wi (cnt, po, tr, bm, sm, um, nm9, a1, a2, a3, a4, rm) S hrt hlk hP hD hS ⟨rfl, by rw [← hiv]; exact (gp_all_stop (by first | exact Or.inl (by omega) | exact Or.inr (Or.inl (by omega)) | exact Or.inr (Or.inr (by assumption)))).symm, hok⟩ d_Re_readText_58
  · have c23 : ¬ (600 ≤ cnt) := fun q => c23 ((nI_leI (a := 600) (b := cnt) (by omega) (by omega)).mpr q)
    refine lv_aload_n hx hb d_Re_readText_26 rfl (lv_at hl 1 rfl) ?_
    refine ga_get S hK hP 0 rfl f_Re_32 rfl d_Re_readText_27 ?_
    refine lv_aload_n hx hb d_Re_readText_30 rfl (lv_at hl 1 rfl) ?_
    refine ga_get S hK hP 0 rfl f_Re_12 rfl d_Re_readText_31 ?_
    refine ga_get S hK hP 1 rfl f_Re_35 rfl d_Re_readText_34 ?_
    refine lv_icmp_ge (tgt := 57) hx hb d_Re_readText_37 (by decide) (fun c37 => ?_) (fun c37 => ?_)
    · have c37 : n ≤ po := (nI_leI (a := n) (b := po) (by omega) (by omega)).mp c37
      refine lv_iload_n hx hb d_Re_readText_57 rfl (lv_at hl 0 rfl) ?_
      exact ga_wi (cnt, po, tr, bm, sm, um, nm9, a1, a2, a3, a4, rm) S hrt hlk hP hD hS ⟨rfl, by rw [← hiv]; exact (gp_all_stop (by first | exact Or.inl (by omega) | exact Or.inr (Or.inl (by omega)) | exact Or.inr (Or.inr (by assumption)))).symm, hok⟩ d_Re_readText_58
    · have c37 : ¬ (n ≤ po) := fun q => c37 ((nI_leI (a := n) (b := po) (by omega) (by omega)).mpr q)
      refine lv_aload_n hx hb d_Re_readText_40 rfl (lv_at hl 1 rfl) ?_
      refine ga_cr (As := []) (rest := []) (q0 := 0) S hK hP s_Re_38 (gc_Re_isFine l D cI cZ cC cG re te dr po tr (fun t q => by have := htr t q; omega)) [0] rfl rfl rfl rfl hl.1 rfl (Nat.le_of_ble_eq_true rfl) ⟨Nat.le_of_ble_eq_true rfl, Nat.le_of_ble_eq_true rfl⟩ ⟨Nat.le_of_ble_eq_true rfl, Nat.le_of_ble_eq_true rfl⟩ d_Re_readText_41 (fun r hp41 => ?_)
      rcases hp41 with ⟨rfl, hp41⟩ | ⟨rfl, hp41⟩
      · subst hp41
        refine lv_if_eq (tgt := 57) hx hb d_Re_readText_44 (by decide) (fun c44 => ?_) (fun c44 => ?_)
        · exact absurd c44 (by decide)
        · refine lv_aload_n hx hb d_Re_readText_47 rfl (lv_at hl 1 rfl) ?_
          refine ga_jv (wr := [(q4, .inl (cZ, 41, .inl (zA (fun _ => false))))]) (ga_runV (As := []) (rest := []) S hK s_Re_42 (gc_Re_readSentence l D cI cZ cC cG re te ta dr n po sg (by omega) (by omega) q1 q2 q3 q4 q5 q6 q7 q8 q9 bm sm um nm9 a1 a2 a3 a4 rm hsg (fun j => by have := hbn j; omega) (fun j => by have := hne j; omega) (by omega) _) (ga_prV (y := y_Re_readSentence) (q0 := 0) hK hP hD [0, 1, 2, 3, 4, 5, 6, 8, 9, 10, 11, 12] rfl (by decide) rfl rfl) rfl hl.1 rfl (Nat.le_of_ble_eq_true rfl) ⟨Nat.le_of_ble_eq_true rfl, Nat.le_of_ble_eq_true rfl⟩ ⟨Nat.le_of_ble_eq_true rfl, Nat.le_of_ble_eq_true rfl⟩ d_Re_readText_48) hP hD hS hA [0, 1, 2, 3, 4, 5, 6, 8, 9, 10, 11, 12] [7] rfl rfl (by decide) (by decide) [1, 2, 3, 4, 5, 6, 7, 0, 8, 9, 10, 11, 12] (fun (x : Nat × Option Nat × gp_D) => [(re, .inr (2, [.ref te, .ref dr, .int (nI x.1), .int (tI x.2.1)])), (te, .inr (4, [.ref ta, .int (nI n)])), (ta, .inl (cC, 600, .inl (nA sg))), (dr, .inr (1, [.ref q1, .ref q2, .ref q3, .ref q4, .ref q5, .ref q6, .ref q7, .ref q8, .ref q9, .int (nI x.2.2.2.2.2.2.2.2.2.2)])), (q1, .inl (cI, 480, .inl (nA x.2.2.1))), (q2, .inl (cZ, 480, .inl (zA x.2.2.2.1))), (q3, .inl (cZ, 41, .inl (zA x.2.2.2.2.1))), (q4, .inl (cZ, 41, .inl (zA (fun _ => false)))), (q5, .inl (cI, 61, .inl (nA x.2.2.2.2.2.1))), (q6, .inl (cI, 66, .inl (nA x.2.2.2.2.2.2.1))), (q7, .inl (cI, 66, .inl (nA x.2.2.2.2.2.2.2.1))), (q8, .inl (cI, 66, .inl (nA x.2.2.2.2.2.2.2.2.1))), (q9, .inl (cI, 66, .inl (nA x.2.2.2.2.2.2.2.2.2.1)))]) (fun _ => rfl) (by decide) (fun x H locs hp48 hP hD hS => ?_)
          obtain ⟨po, tq, bn9, sh9, us9, ne9, s1, s2, s3, s4, rg9⟩ := x
          have hP : va_P D vwCl [(re, .inr (2, [.ref te, .ref dr, .int (nI po), .int (tI tq)])), (te, .inr (4, [.ref ta, .int (nI n)])), (ta, .inl (cC, 600, .inl (nA sg))), (dr, .inr (1, [.ref q1, .ref q2, .ref q3, .ref q4, .ref q5, .ref q6, .ref q7, .ref q8, .ref q9, .int (nI rg9)])), (q1, .inl (cI, 480, .inl (nA bn9))), (q2, .inl (cZ, 480, .inl (zA sh9))), (q3, .inl (cZ, 41, .inl (zA us9))), (q4, .inl (cZ, 41, .inl (zA (fun _ => false)))), (q5, .inl (cI, 61, .inl (nA ne9))), (q6, .inl (cI, 66, .inl (nA s1))), (q7, .inl (cI, 66, .inl (nA s2))), (q8, .inl (cI, 66, .inl (nA s3))), (q9, .inl (cI, 66, .inl (nA s4)))] H := hP
          have hD : va_D A [(re, .inr (2, [.ref te, .ref dr, .int (nI po), .int (tI tq)])), (te, .inr (4, [.ref ta, .int (nI n)])), (ta, .inl (cC, 600, .inl (nA sg))), (dr, .inr (1, [.ref q1, .ref q2, .ref q3, .ref q4, .ref q5, .ref q6, .ref q7, .ref q8, .ref q9, .int (nI rg9)])), (q1, .inl (cI, 480, .inl (nA bn9))), (q2, .inl (cZ, 480, .inl (zA sh9))), (q3, .inl (cZ, 41, .inl (zA us9))), (q4, .inl (cZ, 41, .inl (zA (fun _ => false)))), (q5, .inl (cI, 61, .inl (nA ne9))), (q6, .inl (cI, 66, .inl (nA s1))), (q7, .inl (cI, 66, .inl (nA s2))), (q8, .inl (cI, 66, .inl (nA s3))), (q9, .inl (cI, 66, .inl (nA s4)))] := hD
          refine lv_iinc (v := nI (cnt + 1)) (lv' := [(1, .int (nI (cnt + 1))), (0, .ref re)]) hx hb d_Re_readText_51 hl (k := 0) rfl (ga_inc cnt) (by decide) rfl (fun ls hl => ?_)
          refine lv_goto (tgt := 19) hx hb d_Re_readText_54 (by decide) ?_
          exact ih (cnt + 1, po, tq, bn9, sh9, us9, ne9, s1, s2, s3, s4, rg9) _ _ _ (by show (600 - (cnt + 1)) < (600 - cnt); omega) ⟨lv_sub hl [0, 1] rfl, hP, hD, hS, ⟨by omega, by rw [← hiv, show 600 - cnt = (600 - (cnt + 1)) + 1 by omega, gp_all_go (by omega), ← hp48], by rw [hp48]; exact (gp_se_ok (by omega) hok).1⟩⟩
      · refine lv_if_eq (tgt := 57) hx hb d_Re_readText_44 (by decide) (fun c44 => ?_) (fun c44 => ?_)
        · refine lv_iload_n hx hb d_Re_readText_57 rfl (lv_at hl 0 rfl) ?_
          exact ga_wi (cnt, po, tr, bm, sm, um, nm9, a1, a2, a3, a4, rm) S hrt hlk hP hD hS ⟨rfl, by rw [← hiv]; exact (gp_all_stop (by first | exact Or.inl (by omega) | exact Or.inr (Or.inl (by omega)) | exact Or.inr (Or.inr (by assumption)))).symm, hok⟩ d_Re_readText_58
        · exact absurd c44 (by decide)
end
section
set_option maxHeartbeats 4000000 in
set_option maxRecDepth 100000 in
theorem gc_Pl_leastTargetOf (l : Launch) (D : va_G) (cI cZ cC cG : ClassId) (pl q1 q2 q3 q4 q5 q6 q7 q8 q9 : Nat) (rg code kind : Nat) (r1 r2 r3 r4 : Nat → Nat) (hrg : rg ≤ 66) (hco : code < 2 ^ 31) (hki : kind < 2 ^ 31) (hr : ∀ k, k < rg → 1 ≤ r1 k ∧ r1 k ≤ 40 ∧ r2 k ≤ 9999 ∧ r3 k ≤ 9999 ∧ r4 k ≤ 9) : ga_Mr l y_Pl_leastTargetOf b_Pl_leastTargetOf 6 (some .int) 1 D (ga_T cI cZ cC cG) [.ref pl, .int (nI code), .int (nI kind)] [(pl, .inr (1, [.ref q1, .ref q2, .ref q3, .ref q4, .ref q5, .ref q6, .ref q7, .ref q8, .ref q9, .int (nI rg)])), (q6, .inl (cI, 66, .inl (nA r1))), (q7, .inl (cI, 66, .inl (nA r2))), (q8, .inl (cI, 66, .inl (nA r3))), (q9, .inl (cI, 66, .inl (nA r4)))] (fun r => ∃ q, r = nI q ∧ gp_isL r1 r2 r3 r4 rg code kind q) := by
  refine ga_enR (by decide) (Nat.le_of_ble_eq_true rfl) ?_
  intro p e s m below meth c ls S hrt hlk hK hP hl
  obtain ⟨hx, hb, hml, hown, hts⟩ := id S
  have hl : lv_has ls 6 [(0, .ref pl), (1, .int (nI code)), (2, .int (nI kind))] := hl
  refine lv_iconst (v := 0) hx hb d_Pl_leastTargetOf_0 (by decide) ?_
  refine lv_istore_n (lv' := [(3, .int 0), (0, .ref pl), (1, .int (nI code)), (2, .int (nI kind))]) hx hb d_Pl_leastTargetOf_1 rfl hl (by decide) rfl (fun ls hl => ?_)
  refine lv_iconst (v := 0) hx hb d_Pl_leastTargetOf_2 (by decide) ?_
  refine lv_istore (lv' := [(4, .int 0), (3, .int 0), (0, .ref pl), (1, .int (nI code)), (2, .int (nI kind))]) hx hb d_Pl_leastTargetOf_3 hl (by decide) rfl (fun ls hl => ?_)
  refine ga_loopR (α := Nat × Nat) (fun x => match x with | (i, le) => rg - i) (fun x ls => match x with | (i, le) => lv_has ls 6 [(4, .int (nI i)), (3, .int (nI le)), (0, .ref pl), (1, .int (nI code)), (2, .int (nI kind))] ∧ i ≤ rg ∧ le ≤ 40 ∧ gp_isL r1 r2 r3 r4 i code kind le) ?_ (0, 0) ⟨lv_sub hl [0, 1, 2, 3, 4] rfl, ⟨Nat.zero_le _, by decide, Or.inl ⟨rfl, fun k hk => absurd hk (Nat.not_lt_zero _)⟩⟩⟩
  intro x ls hI ih
  obtain ⟨i, le⟩ := x
  obtain ⟨hl, ⟨hi, hle, hil⟩⟩ := hI
  have hl : lv_has ls 6 [(4, .int (nI i)), (3, .int (nI le)), (0, .ref pl), (1, .int (nI code)), (2, .int (nI kind))] := hl
  refine lv_iload hx hb d_Pl_leastTargetOf_5 (lv_at hl 0 rfl) ?_
  refine lv_aload_n hx hb d_Pl_leastTargetOf_7 rfl (lv_at hl 2 rfl) ?_
  refine ga_get S hK hP 0 rfl f_Pl_48 rfl d_Pl_leastTargetOf_8 ?_
  refine lv_icmp_ge (tgt := 87) hx hb d_Pl_leastTargetOf_11 (by decide) (fun c11 => ?_) (fun c11 => ?_)
  · have c11 : rg ≤ i := (nI_leI (a := rg) (b := i) (by omega) (by omega)).mp c11
    refine lv_iload_n hx hb d_Pl_leastTargetOf_87 rfl (lv_at hl 1 rfl) ?_
    exact ga_ri S hrt hlk ⟨le, rfl, by rw [show rg = i by omega]; exact hil⟩ d_Pl_leastTargetOf_88
  · have c11 : ¬ (rg ≤ i) := fun q => c11 ((nI_leI (a := rg) (b := i) (by omega) (by omega)).mpr q)
    have hri := hr i (by omega)
    refine lv_aload_n hx hb d_Pl_leastTargetOf_14 rfl (lv_at hl 2 rfl) ?_
    refine ga_get S hK hP 0 rfl f_Pl_39 rfl d_Pl_leastTargetOf_15 ?_
    refine lv_iload hx hb d_Pl_leastTargetOf_18 (lv_at hl 0 rfl) ?_
    refine ga_ild S hK hP 4 0 rfl rfl i (by omega) (by decide) d_Pl_leastTargetOf_20 ?_
    refine lv_iload_n hx hb d_Pl_leastTargetOf_21 rfl (lv_at hl 4 rfl) ?_
    refine lv_icmp_ne (tgt := 50) hx hb d_Pl_leastTargetOf_22 (by decide) (fun c22 => ?_) (fun c22 => ?_)
    · have c22 : ¬ ((r4 i) = kind) := fun q => c22 ((nI_eq (a := (r4 i)) (b := kind) (by omega) (by omega)).mpr q)
      have hft : ¬ gp_ft r2 r3 r4 code kind i := fun q => c22 q.1
      refine lv_iconst (v := 0) hx hb d_Pl_leastTargetOf_50 (by decide) ?_
      refine lv_istore (lv' := [(5, .int 0), (4, .int (nI i)), (3, .int (nI le)), (0, .ref pl), (1, .int (nI code)), (2, .int (nI kind))]) hx hb d_Pl_leastTargetOf_51 hl (by decide) rfl (fun ls hl => ?_)
      refine lv_iload hx hb d_Pl_leastTargetOf_53 (lv_at hl 0 rfl) ?_
      refine lv_if_eq (tgt := 81) hx hb d_Pl_leastTargetOf_55 (by decide) (fun c55 => ?_) (fun c55 => ?_)
      · refine lv_iinc (v := nI (i + 1)) (lv' := [(4, .int (nI (i + 1))), (5, .int 0), (3, .int (nI le)), (0, .ref pl), (1, .int (nI code)), (2, .int (nI kind))]) hx hb d_Pl_leastTargetOf_81 hl (k := 1) rfl (ga_inc i) (by decide) rfl (fun ls hl => ?_)
        refine lv_goto (tgt := 5) hx hb d_Pl_leastTargetOf_84 (by decide) ?_
        exact ih (i + 1, le) _ (by show (rg - (i + 1)) < (rg - i); omega) ⟨lv_sub hl [0, 2, 3, 4, 5] rfl, ⟨by omega, by omega, by first | exact gp_isL_no hil hft | exact gp_isL_keep hil (by omega) (by omega)⟩⟩
      · exact absurd c55 (by decide)
    · have c22 : (r4 i) = kind := (nI_eq (a := (r4 i)) (b := kind) (by omega) (by omega)).mp c22
      refine lv_iload_n hx hb d_Pl_leastTargetOf_25 rfl (lv_at hl 3 rfl) ?_
      refine lv_aload_n hx hb d_Pl_leastTargetOf_26 rfl (lv_at hl 2 rfl) ?_
      refine ga_get S hK hP 0 rfl f_Pl_33 rfl d_Pl_leastTargetOf_27 ?_
      refine lv_iload hx hb d_Pl_leastTargetOf_30 (lv_at hl 0 rfl) ?_
      refine ga_ild S hK hP 2 0 rfl rfl i (by omega) (by decide) d_Pl_leastTargetOf_32 ?_
      refine lv_aload_n hx hb d_Pl_leastTargetOf_33 rfl (lv_at hl 2 rfl) ?_
      refine ga_get S hK hP 0 rfl f_Pl_36 rfl d_Pl_leastTargetOf_34 ?_
      refine lv_iload hx hb d_Pl_leastTargetOf_37 (lv_at hl 0 rfl) ?_
      refine ga_ild S hK hP 3 0 rfl rfl i (by omega) (by decide) d_Pl_leastTargetOf_39 ?_
      refine ga_cs (As := [.int (nI code), .int (nI (r2 i)), .int (nI (r3 i))]) (rest := []) S hK hP s_Pl_52 (gc_SP_isWithin l D cI cZ cC cG (nI code) (nI (r2 i)) (nI (r3 i))) [] rfl rfl hl.1 rfl (Nat.le_of_ble_eq_true rfl) ⟨Nat.le_of_ble_eq_true rfl, Nat.le_of_ble_eq_true rfl⟩ ⟨Nat.le_of_ble_eq_true rfl, Nat.le_of_ble_eq_true rfl⟩ d_Pl_leastTargetOf_40 (fun r hp40 => ?_)
      rcases hp40 with ⟨rfl, hp40⟩ | ⟨rfl, hp40⟩
      · have hp40 : (r2 i) ≤ code ∧ code ≤ (r3 i) := ⟨(nI_leI (a := (r2 i)) (b := code) (by omega) (by omega)).mp hp40.1, (nI_leI (a := code) (b := (r3 i)) (by omega) (by omega)).mp hp40.2⟩
        have hft : gp_ft r2 r3 r4 code kind i := ⟨c22, hp40.1, hp40.2⟩
        refine lv_if_eq (tgt := 50) hx hb d_Pl_leastTargetOf_43 (by decide) (fun c43 => ?_) (fun c43 => ?_)
        · exact absurd c43 (by decide)
        · refine lv_iconst (v := 1) hx hb d_Pl_leastTargetOf_46 (by decide) ?_
          refine lv_goto (tgt := 51) hx hb d_Pl_leastTargetOf_47 (by decide) ?_
          refine lv_istore (lv' := [(5, .int 1), (4, .int (nI i)), (3, .int (nI le)), (0, .ref pl), (1, .int (nI code)), (2, .int (nI kind))]) hx hb d_Pl_leastTargetOf_51 hl (by decide) rfl (fun ls hl => ?_)
          refine lv_iload hx hb d_Pl_leastTargetOf_53 (lv_at hl 0 rfl) ?_
          refine lv_if_eq (tgt := 81) hx hb d_Pl_leastTargetOf_55 (by decide) (fun c55 => ?_) (fun c55 => ?_)
          · exact absurd c55 (by decide)
          · refine lv_iload_n hx hb d_Pl_leastTargetOf_58 rfl (lv_at hl 2 rfl) ?_
            refine lv_if_eq (tgt := 73) hx hb d_Pl_leastTargetOf_59 (by decide) (fun c59 => ?_) (fun c59 => ?_)
            · have c59 : le = 0 := (nI_eq (a := le) (b := 0) (by omega) (by omega)).mp c59
              refine lv_aload_n hx hb d_Pl_leastTargetOf_73 rfl (lv_at hl 3 rfl) ?_
              refine ga_get S hK hP 0 rfl f_Pl_30 rfl d_Pl_leastTargetOf_74 ?_
              refine lv_iload hx hb d_Pl_leastTargetOf_77 (lv_at hl 1 rfl) ?_
              refine ga_ild S hK hP 1 0 rfl rfl i (by omega) (by decide) d_Pl_leastTargetOf_79 ?_
              have hb1 := hr i (by omega)
              refine lv_istore_n (lv' := [(3, .int (nI (r1 i))), (5, .int 1), (4, .int (nI i)), (0, .ref pl), (1, .int (nI code)), (2, .int (nI kind))]) hx hb d_Pl_leastTargetOf_80 rfl hl (by decide) rfl (fun ls hl => ?_)
              refine lv_iinc (v := nI (i + 1)) (lv' := [(4, .int (nI (i + 1))), (3, .int (nI (r1 i))), (5, .int 1), (0, .ref pl), (1, .int (nI code)), (2, .int (nI kind))]) hx hb d_Pl_leastTargetOf_81 hl (k := 2) rfl (ga_inc i) (by decide) rfl (fun ls hl => ?_)
              refine lv_goto (tgt := 5) hx hb d_Pl_leastTargetOf_84 (by decide) ?_
              exact ih (i + 1, r1 i) _ (by show (rg - (i + 1)) < (rg - i); omega) ⟨lv_sub hl [0, 1, 3, 4, 5] rfl, ⟨by omega, by omega, gp_isL_up hil hft (fun k hk => (hr k (by omega)).1) (by omega)⟩⟩
            · have c59 : ¬ (le = 0) := fun q => c59 ((nI_eq (a := le) (b := 0) (by omega) (by omega)).mpr q)
              refine lv_aload_n hx hb d_Pl_leastTargetOf_62 rfl (lv_at hl 3 rfl) ?_
              refine ga_get S hK hP 0 rfl f_Pl_30 rfl d_Pl_leastTargetOf_63 ?_
              refine lv_iload hx hb d_Pl_leastTargetOf_66 (lv_at hl 1 rfl) ?_
              refine ga_ild S hK hP 1 0 rfl rfl i (by omega) (by decide) d_Pl_leastTargetOf_68 ?_
              have hb2 := hr i (by omega)
              refine lv_iload_n hx hb d_Pl_leastTargetOf_69 rfl (lv_at hl 2 rfl) ?_
              refine lv_icmp_ge (tgt := 81) hx hb d_Pl_leastTargetOf_70 (by decide) (fun c70 => ?_) (fun c70 => ?_)
              · have c70 : le ≤ (r1 i) := (nI_leI (a := le) (b := (r1 i)) (by omega) (by omega)).mp c70
                refine lv_iinc (v := nI (i + 1)) (lv' := [(4, .int (nI (i + 1))), (5, .int 1), (3, .int (nI le)), (0, .ref pl), (1, .int (nI code)), (2, .int (nI kind))]) hx hb d_Pl_leastTargetOf_81 hl (k := 1) rfl (ga_inc i) (by decide) rfl (fun ls hl => ?_)
                refine lv_goto (tgt := 5) hx hb d_Pl_leastTargetOf_84 (by decide) ?_
                exact ih (i + 1, le) _ (by show (rg - (i + 1)) < (rg - i); omega) ⟨lv_sub hl [0, 2, 3, 4, 5] rfl, ⟨by omega, by omega, by first | exact gp_isL_no hil hft | exact gp_isL_keep hil (by omega) (by omega)⟩⟩
              · have c70 : ¬ (le ≤ (r1 i)) := fun q => c70 ((nI_leI (a := le) (b := (r1 i)) (by omega) (by omega)).mpr q)
                refine lv_aload_n hx hb d_Pl_leastTargetOf_73 rfl (lv_at hl 3 rfl) ?_
                refine ga_get S hK hP 0 rfl f_Pl_30 rfl d_Pl_leastTargetOf_74 ?_
                refine lv_iload hx hb d_Pl_leastTargetOf_77 (lv_at hl 1 rfl) ?_
                refine ga_ild S hK hP 1 0 rfl rfl i (by omega) (by decide) d_Pl_leastTargetOf_79 ?_
                have hb3 := hr i (by omega)
                refine lv_istore_n (lv' := [(3, .int (nI (r1 i))), (5, .int 1), (4, .int (nI i)), (0, .ref pl), (1, .int (nI code)), (2, .int (nI kind))]) hx hb d_Pl_leastTargetOf_80 rfl hl (by decide) rfl (fun ls hl => ?_)
                refine lv_iinc (v := nI (i + 1)) (lv' := [(4, .int (nI (i + 1))), (3, .int (nI (r1 i))), (5, .int 1), (0, .ref pl), (1, .int (nI code)), (2, .int (nI kind))]) hx hb d_Pl_leastTargetOf_81 hl (k := 2) rfl (ga_inc i) (by decide) rfl (fun ls hl => ?_)
                refine lv_goto (tgt := 5) hx hb d_Pl_leastTargetOf_84 (by decide) ?_
                exact ih (i + 1, r1 i) _ (by show (rg - (i + 1)) < (rg - i); omega) ⟨lv_sub hl [0, 1, 3, 4, 5] rfl, ⟨by omega, by omega, gp_isL_up hil hft (fun k hk => (hr k (by omega)).1) (by omega)⟩⟩
      · have hp40 : ¬ ((r2 i) ≤ code ∧ code ≤ (r3 i)) := fun q => hp40 ⟨(nI_leI (a := (r2 i)) (b := code) (by omega) (by omega)).mpr q.1, (nI_leI (a := code) (b := (r3 i)) (by omega) (by omega)).mpr q.2⟩
        have hft : ¬ gp_ft r2 r3 r4 code kind i := fun q => hp40 ⟨q.2.1, q.2.2⟩
        refine lv_if_eq (tgt := 50) hx hb d_Pl_leastTargetOf_43 (by decide) (fun c43 => ?_) (fun c43 => ?_)
        · refine lv_iconst (v := 0) hx hb d_Pl_leastTargetOf_50 (by decide) ?_
          refine lv_istore (lv' := [(5, .int 0), (4, .int (nI i)), (3, .int (nI le)), (0, .ref pl), (1, .int (nI code)), (2, .int (nI kind))]) hx hb d_Pl_leastTargetOf_51 hl (by decide) rfl (fun ls hl => ?_)
          refine lv_iload hx hb d_Pl_leastTargetOf_53 (lv_at hl 0 rfl) ?_
          refine lv_if_eq (tgt := 81) hx hb d_Pl_leastTargetOf_55 (by decide) (fun c55 => ?_) (fun c55 => ?_)
          · refine lv_iinc (v := nI (i + 1)) (lv' := [(4, .int (nI (i + 1))), (5, .int 0), (3, .int (nI le)), (0, .ref pl), (1, .int (nI code)), (2, .int (nI kind))]) hx hb d_Pl_leastTargetOf_81 hl (k := 1) rfl (ga_inc i) (by decide) rfl (fun ls hl => ?_)
            refine lv_goto (tgt := 5) hx hb d_Pl_leastTargetOf_84 (by decide) ?_
            exact ih (i + 1, le) _ (by show (rg - (i + 1)) < (rg - i); omega) ⟨lv_sub hl [0, 2, 3, 4, 5] rfl, ⟨by omega, by omega, by first | exact gp_isL_no hil hft | exact gp_isL_keep hil (by omega) (by omega)⟩⟩
          · exact absurd c55 (by decide)
        · exact absurd c43 (by decide)
set_option maxHeartbeats 4000000 in
set_option maxRecDepth 100000 in
theorem gc_Pl_passesOf (l : Launch) (D : va_G) (cI cZ cC cG : ClassId) (pl q1 q2 q3 q4 q5 q6 q7 q8 q9 : Nat) (rg sh : Nat) (bn : Nat → Nat) (hsh : sh < 3) (hbn : ∀ j, bn j ≤ 60) : ga_Mr l y_Pl_passesOf b_Pl_passesOf 5 (some .int) 1 D (ga_T cI cZ cC cG) [.ref pl, .int (nI sh)] [(pl, .inr (1, [.ref q1, .ref q2, .ref q3, .ref q4, .ref q5, .ref q6, .ref q7, .ref q8, .ref q9, .int (nI rg)])), (q1, .inl (cI, 480, .inl (nA bn)))] (fun r => ∃ q, r = nI q ∧ gp_isP bn sh q) := by
  refine ga_enR (by decide) (Nat.le_of_ble_eq_true rfl) ?_
  intro p e s m below meth c ls S hrt hlk hK hP hl
  obtain ⟨hx, hb, hml, hown, hts⟩ := id S
  have hl : lv_has ls 5 [(0, .ref pl), (1, .int (nI sh))] := hl
  refine lv_iconst (v := 0) hx hb d_Pl_passesOf_0 (by decide) ?_
  refine lv_istore_n (lv' := [(2, .int 0), (0, .ref pl), (1, .int (nI sh))]) hx hb d_Pl_passesOf_1 rfl hl (by decide) rfl (fun ls hl => ?_)
  refine lv_iconst (v := 1) hx hb d_Pl_passesOf_2 (by decide) ?_
  refine lv_istore_n (lv' := [(3, .int 1), (2, .int 0), (0, .ref pl), (1, .int (nI sh))]) hx hb d_Pl_passesOf_3 rfl hl (by decide) rfl (fun ls hl => ?_)
  refine ga_loopR (α := Nat × Nat) (fun x => match x with | (t, ps) => 41 - t) (fun x ls => match x with | (t, ps) => lv_has ls 5 [(3, .int (nI t)), (2, .int (nI ps)), (0, .ref pl), (1, .int (nI sh))] ∧ 1 ≤ t ∧ t ≤ 41 ∧ ps ≤ 4 ∧ (∀ u v, 1 ≤ u → u < t → v < 4 → bn (gp_sl u v sh) ≠ 0 → v < ps) ∧ (0 < ps → ∃ u, 1 ≤ u ∧ u ≤ 40 ∧ bn (gp_sl u (ps - 1) sh) ≠ 0)) ?_ (1, 0) ⟨lv_sub hl [0, 1, 2, 3] rfl, ⟨by decide, by decide, by decide, (fun u v h1 h2 => by omega), fun h => absurd h (by decide)⟩⟩
  intro x ls hI ih1
  obtain ⟨t, ps⟩ := x
  obtain ⟨hl, ⟨h1, h2, h3, h4, h5⟩⟩ := hI
  have hl : lv_has ls 5 [(3, .int (nI t)), (2, .int (nI ps)), (0, .ref pl), (1, .int (nI sh))] := hl
  refine lv_iload_n hx hb d_Pl_passesOf_4 rfl (lv_at hl 0 rfl) ?_
  refine lv_bipush (v := 40) hx hb d_Pl_passesOf_5 (by decide) ?_
  refine lv_icmp_gt (tgt := 51) hx hb d_Pl_passesOf_7 (by decide) (fun c7 => ?_) (fun c7 => ?_)
  · have c7 : 40 < t := (nI_ltI (a := 40) (b := t) (by omega) (by omega)).mp c7
    refine lv_iload_n hx hb d_Pl_passesOf_51 rfl (lv_at hl 1 rfl) ?_
    exact ga_ri S hrt hlk ⟨ps, rfl, h3, (fun u v a b c d => h4 u v a (by omega) c d), h5⟩ d_Pl_passesOf_52
  · have c7 : ¬ (40 < t) := fun q => c7 ((nI_ltI (a := 40) (b := t) (by omega) (by omega)).mpr q)
    refine lv_iload_n hx hb d_Pl_passesOf_10 rfl (lv_at hl 1 rfl) ?_
    refine lv_istore (lv' := [(4, .int (nI ps)), (3, .int (nI t)), (2, .int (nI ps)), (0, .ref pl), (1, .int (nI sh))]) hx hb d_Pl_passesOf_11 hl (by decide) rfl (fun ls hl => ?_)
    refine ga_loopR (α := Nat × Nat) (fun x => match x with | (pa, ps2) => 4 - pa) (fun x ls => match x with | (pa, ps2) => lv_has ls 5 [(4, .int (nI pa)), (3, .int (nI t)), (2, .int (nI ps2)), (0, .ref pl), (1, .int (nI sh))] ∧ ps2 ≤ pa ∧ pa ≤ 4 ∧ (∀ u v, 1 ≤ u → u < t → v < 4 → bn (gp_sl u v sh) ≠ 0 → v < ps2) ∧ (∀ v, v < pa → bn (gp_sl t v sh) ≠ 0 → v < ps2) ∧ (0 < ps2 → ∃ u, 1 ≤ u ∧ u ≤ 40 ∧ bn (gp_sl u (ps2 - 1) sh) ≠ 0)) ?_ (ps, ps) ⟨lv_sub hl [0, 1, 2, 3, 4] rfl, ⟨Nat.le_refl _, h3, h4, (fun v a b => a), h5⟩⟩
    intro x ls hI ih2
    obtain ⟨pa, ps2⟩ := x
    obtain ⟨hl, ⟨g1, g2, g3, g4, g5⟩⟩ := hI
    have hl : lv_has ls 5 [(4, .int (nI pa)), (3, .int (nI t)), (2, .int (nI ps2)), (0, .ref pl), (1, .int (nI sh))] := hl
    refine lv_iload hx hb d_Pl_passesOf_13 (lv_at hl 0 rfl) ?_
    refine lv_iconst (v := 4) hx hb d_Pl_passesOf_15 (by decide) ?_
    refine lv_icmp_ge (tgt := 45) hx hb d_Pl_passesOf_16 (by decide) (fun c16 => ?_) (fun c16 => ?_)
    · have c16 : 4 ≤ pa := (nI_leI (a := 4) (b := pa) (by omega) (by omega)).mp c16
      refine lv_iinc (v := nI (t + 1)) (lv' := [(3, .int (nI (t + 1))), (4, .int (nI pa)), (2, .int (nI ps2)), (0, .ref pl), (1, .int (nI sh))]) hx hb d_Pl_passesOf_45 hl (k := 1) rfl (ga_inc t) (by decide) rfl (fun ls hl => ?_)
      refine lv_goto (tgt := 4) hx hb d_Pl_passesOf_48 (by decide) ?_
      exact ih1 (t + 1, ps2) _ (by show (41 - (t + 1)) < (41 - t); omega) ⟨lv_sub hl [0, 2, 3, 4] rfl, ⟨by omega, by omega, by omega, (fun u v a b c d => by rcases (show u < t ∨ u = t by omega) with z | z; exact g3 u v a z c d; subst z; exact g4 v (by omega) d), g5⟩⟩
    · have c16 : ¬ (4 ≤ pa) := fun q => c16 ((nI_leI (a := 4) (b := pa) (by omega) (by omega)).mpr q)
      refine lv_aload_n hx hb d_Pl_passesOf_19 rfl (lv_at hl 3 rfl) ?_
      refine ga_get S hK hP 0 rfl f_Pl_11 rfl d_Pl_passesOf_20 ?_
      refine lv_iload_n hx hb d_Pl_passesOf_23 rfl (lv_at hl 1 rfl) ?_
      refine lv_iload hx hb d_Pl_passesOf_24 (lv_at hl 0 rfl) ?_
      refine lv_iload_n hx hb d_Pl_passesOf_26 rfl (lv_at hl 4 rfl) ?_
      refine ga_cs (As := [.int (nI t), .int (nI pa), .int (nI sh)]) (rest := [.ref q1]) S hK hP s_Pl_56 (gc_SP_slot l D cI cZ cC cG t pa sh (by omega)) [] rfl rfl hl.1 rfl (Nat.le_of_ble_eq_true rfl) ⟨Nat.le_of_ble_eq_true rfl, Nat.le_of_ble_eq_true rfl⟩ ⟨Nat.le_of_ble_eq_true rfl, Nat.le_of_ble_eq_true rfl⟩ d_Pl_passesOf_27 (fun r hp27 => ?_)
      subst hp27
      have hsl := gp_sl_lt (t := t) (p := pa) (s := sh) (by omega) (by omega) (by omega) (by omega)
      refine ga_ild S hK hP 1 0 rfl rfl (gp_sl t pa sh) (by omega) (by decide) d_Pl_passesOf_30 ?_
      have hb1 := hbn (gp_sl t pa sh)
      refine lv_if_eq (tgt := 39) hx hb d_Pl_passesOf_31 (by decide) (fun c31 => ?_) (fun c31 => ?_)
      · have c31 : (bn (gp_sl t pa sh)) = 0 := (nI_eq (a := (bn (gp_sl t pa sh))) (b := 0) (by omega) (by omega)).mp c31
        refine lv_iinc (v := nI (pa + 1)) (lv' := [(4, .int (nI (pa + 1))), (3, .int (nI t)), (2, .int (nI ps2)), (0, .ref pl), (1, .int (nI sh))]) hx hb d_Pl_passesOf_39 hl (k := 0) rfl (ga_inc pa) (by decide) rfl (fun ls hl => ?_)
        refine lv_goto (tgt := 13) hx hb d_Pl_passesOf_42 (by decide) ?_
        exact ih2 (pa + 1, ps2) _ (by show (4 - (pa + 1)) < (4 - pa); omega) ⟨lv_sub hl [0, 1, 2, 3, 4] rfl, ⟨by omega, by omega, (fun u v a b c d => by have := g3 u v a b c d; omega), (fun v a d => by rcases (show v < pa ∨ v = pa by omega) with z | z; have := g4 v z d; omega; subst z; first | omega | exact absurd c31 d), g5⟩⟩
      · have c31 : ¬ ((bn (gp_sl t pa sh)) = 0) := fun q => c31 ((nI_eq (a := (bn (gp_sl t pa sh))) (b := 0) (by omega) (by omega)).mpr q)
        refine lv_iload hx hb d_Pl_passesOf_34 (lv_at hl 0 rfl) ?_
        refine lv_iconst (v := 1) hx hb d_Pl_passesOf_36 (by decide) ?_
        refine lv_iadd hx hb d_Pl_passesOf_37 ?_
        refine ga_top (nI (pa + 1)) (nI_add pa 1) ?_
        refine lv_istore_n (lv' := [(2, .int (nI (pa + 1))), (4, .int (nI pa)), (3, .int (nI t)), (0, .ref pl), (1, .int (nI sh))]) hx hb d_Pl_passesOf_38 rfl hl (by decide) rfl (fun ls hl => ?_)
        refine lv_iinc (v := nI (pa + 1)) (lv' := [(4, .int (nI (pa + 1))), (2, .int (nI (pa + 1))), (3, .int (nI t)), (0, .ref pl), (1, .int (nI sh))]) hx hb d_Pl_passesOf_39 hl (k := 1) rfl (ga_inc pa) (by decide) rfl (fun ls hl => ?_)
        refine lv_goto (tgt := 13) hx hb d_Pl_passesOf_42 (by decide) ?_
        exact ih2 (pa + 1, pa + 1) _ (by show (4 - (pa + 1)) < (4 - pa); omega) ⟨lv_sub hl [0, 2, 1, 3, 4] rfl, ⟨by omega, by omega, (fun u v a b c d => by have := g3 u v a b c d; omega), (fun v a d => by rcases (show v < pa ∨ v = pa by omega) with z | z; have := g4 v z d; omega; subst z; first | omega | exact absurd c31 d), fun _ => ⟨t, h1, by omega, c31⟩⟩⟩
set_option maxHeartbeats 4000000 in
set_option maxRecDepth 100000 in
theorem gc_Pl_isOtherThan (l : Launch) (D : va_G) (cI cZ cC cG : ClassId) (pl q1 q2 q3 q4 q5 q6 q7 q8 q9 : Nat) (rg ea t : Nat) (bn ed : Nat → Nat) (h1 : 1 ≤ t) (h2 : t ≤ 40) (hbn : ∀ j, bn j ≤ 60) (hed : ∀ j, ed j ≤ 60) : ga_Mr l y_Pl_isOtherThan b_Pl_isOtherThan 5 (some .boolean) 1 D (ga_T cI cZ cC cG) [.ref pl, .ref ea, .int (nI t)] [(pl, .inr (1, [.ref q1, .ref q2, .ref q3, .ref q4, .ref q5, .ref q6, .ref q7, .ref q8, .ref q9, .int (nI rg)])), (q1, .inl (cI, 480, .inl (nA bn))), (ea, .inl (cI, 480, .inl (nA ed)))] (fun r => (r = 1 ∧ gp_otn bn ed (gp_sl t 0 0) 12 = true) ∨ (r = 0 ∧ gp_otn bn ed (gp_sl t 0 0) 12 = false)) := by
  refine ga_enR (by decide) (Nat.le_of_ble_eq_true rfl) ?_
  intro p e s m below meth c ls S hrt hlk hK hP hl
  obtain ⟨hx, hb, hml, hown, hts⟩ := id S
  have hl : lv_has ls 5 [(0, .ref pl), (1, .ref ea), (2, .int (nI t))] := hl
  refine lv_iload_n hx hb d_Pl_isOtherThan_0 rfl (lv_at hl 2 rfl) ?_
  refine lv_iconst (v := 0) hx hb d_Pl_isOtherThan_1 (by decide) ?_
  refine lv_iconst (v := 0) hx hb d_Pl_isOtherThan_2 (by decide) ?_
  refine ga_cs (As := [.int (nI t), .int 0, .int 0]) (rest := []) S hK hP s_Pl_56 (gc_SP_slot l D cI cZ cC cG t 0 0 (by omega)) [] rfl rfl hl.1 rfl (Nat.le_of_ble_eq_true rfl) ⟨Nat.le_of_ble_eq_true rfl, Nat.le_of_ble_eq_true rfl⟩ ⟨Nat.le_of_ble_eq_true rfl, Nat.le_of_ble_eq_true rfl⟩ d_Pl_isOtherThan_3 (fun r hp3 => ?_)
  subst hp3
  have hsl := gp_sl_lt (t := t) (p := 0) (s := 0) (by omega) (by omega) (by omega) (by omega)
  have hb0 : gp_sl t 0 0 ≤ 468 := by unfold gp_sl; omega
  refine lv_istore_n (lv' := [(3, .int (nI (gp_sl t 0 0))), (0, .ref pl), (1, .ref ea), (2, .int (nI t))]) hx hb d_Pl_isOtherThan_6 rfl hl (by decide) rfl (fun ls hl => ?_)
  refine lv_iload_n hx hb d_Pl_isOtherThan_7 rfl (lv_at hl 0 rfl) ?_
  refine lv_istore (lv' := [(4, .int (nI (gp_sl t 0 0))), (3, .int (nI (gp_sl t 0 0))), (0, .ref pl), (1, .ref ea), (2, .int (nI t))]) hx hb d_Pl_isOtherThan_8 hl (by decide) rfl (fun ls hl => ?_)
  refine ga_loopR (α := Nat) (fun i => 480 - i) (fun i ls => lv_has ls 5 [(4, .int (nI i)), (3, .int (nI (gp_sl t 0 0))), (0, .ref pl), (1, .ref ea), (2, .int (nI t))] ∧ gp_sl t 0 0 ≤ i ∧ i ≤ gp_sl t 0 0 + 12 ∧ gp_otn bn ed (gp_sl t 0 0) (i - gp_sl t 0 0) = false) ?_ (gp_sl t 0 0) ⟨lv_sub hl [0, 1, 2, 3, 4] rfl, ⟨Nat.le_refl _, by omega, by rw [Nat.sub_self]; rfl⟩⟩
  intro x ls hI ih
  obtain ⟨i, rfl⟩ : ∃ z, z = x := ⟨_, rfl⟩
  obtain ⟨hl, ⟨g1, g2, g3⟩⟩ := hI
  refine lv_iload hx hb d_Pl_isOtherThan_10 (lv_at hl 0 rfl) ?_
  refine lv_iload_n hx hb d_Pl_isOtherThan_12 rfl (lv_at hl 1 rfl) ?_
  refine lv_bipush (v := 12) hx hb d_Pl_isOtherThan_13 (by decide) ?_
  refine lv_iadd hx hb d_Pl_isOtherThan_15 ?_
  refine ga_top (nI ((gp_sl t 0 0) + 12)) (nI_add (gp_sl t 0 0) 12) ?_
  refine lv_icmp_ge (tgt := 41) hx hb d_Pl_isOtherThan_16 (by decide) (fun c16 => ?_) (fun c16 => ?_)
  · have c16 : ((gp_sl t 0 0) + 12) ≤ i := (nI_leI (a := ((gp_sl t 0 0) + 12)) (b := i) (by omega) (by omega)).mp c16
    refine lv_iconst (v := 0) hx hb d_Pl_isOtherThan_41 (by decide) ?_
    exact ga_rz S hrt hlk (Or.inl rfl) (Or.inr ⟨rfl, by rw [show 12 = i - gp_sl t 0 0 by omega]; exact g3⟩) d_Pl_isOtherThan_42
  · have c16 : ¬ (((gp_sl t 0 0) + 12) ≤ i) := fun q => c16 ((nI_leI (a := ((gp_sl t 0 0) + 12)) (b := i) (by omega) (by omega)).mpr q)
    refine lv_aload_n hx hb d_Pl_isOtherThan_19 rfl (lv_at hl 2 rfl) ?_
    refine ga_get S hK hP 0 rfl f_Pl_11 rfl d_Pl_isOtherThan_20 ?_
    refine lv_iload hx hb d_Pl_isOtherThan_23 (lv_at hl 0 rfl) ?_
    refine ga_ild S hK hP 1 0 rfl rfl i (by omega) (by decide) d_Pl_isOtherThan_25 ?_
    have hb1 := hbn i
    refine lv_aload_n hx hb d_Pl_isOtherThan_26 rfl (lv_at hl 3 rfl) ?_
    refine lv_iload hx hb d_Pl_isOtherThan_27 (lv_at hl 0 rfl) ?_
    refine ga_ild S hK hP 2 0 rfl rfl i (by omega) (by decide) d_Pl_isOtherThan_29 ?_
    have hb2 := hed i
    refine lv_icmp_eq (tgt := 35) hx hb d_Pl_isOtherThan_30 (by decide) (fun c30 => ?_) (fun c30 => ?_)
    · have c30 : (bn i) = (ed i) := (nI_eq (a := (bn i)) (b := (ed i)) (by omega) (by omega)).mp c30
      refine lv_iinc (v := nI (i + 1)) (lv' := [(4, .int (nI (i + 1))), (3, .int (nI (gp_sl t 0 0))), (0, .ref pl), (1, .ref ea), (2, .int (nI t))]) hx hb d_Pl_isOtherThan_35 hl (k := 0) rfl (ga_inc i) (by decide) rfl (fun ls hl => ?_)
      refine lv_goto (tgt := 10) hx hb d_Pl_isOtherThan_38 (by decide) ?_
      exact ih (i + 1) _ (by show (480 - (i + 1)) < (480 - i); omega) ⟨lv_sub hl [0, 1, 2, 3, 4] rfl, ⟨by omega, by omega, by rw [show i + 1 - gp_sl t 0 0 = (i - gp_sl t 0 0) + 1 by omega, gp_otn, g3, show gp_sl t 0 0 + (i - gp_sl t 0 0) = i by omega]; simp [c30]⟩⟩
    · have c30 : ¬ ((bn i) = (ed i)) := fun q => c30 ((nI_eq (a := (bn i)) (b := (ed i)) (by omega) (by omega)).mpr q)
      refine lv_iconst (v := 1) hx hb d_Pl_isOtherThan_33 (by decide) ?_
      exact ga_rz S hrt hlk (Or.inr rfl) (Or.inl ⟨rfl, gp_otn_mono (k := (i - gp_sl t 0 0) + 1) (by rw [gp_otn, show gp_sl t 0 0 + (i - gp_sl t 0 0) = i by omega]; simp [c30]) 12 (by omega)⟩) d_Pl_isOtherThan_34
set_option maxHeartbeats 4000000 in
set_option maxRecDepth 100000 in
theorem gc_Pl_countTargetsOtherThan (l : Launch) (D : va_G) (cI cZ cC cG : ClassId) (pl q1 q2 q3 q4 q5 q6 q7 q8 q9 : Nat) (rg ea : Nat) (bn ed : Nat → Nat) (hbn : ∀ j, bn j ≤ 60) (hed : ∀ j, ed j ≤ 60) : ga_Mr l y_Pl_countTargetsOtherThan b_Pl_countTargetsOtherThan 4 (some .int) 2 D (ga_T cI cZ cC cG) [.ref pl, .ref ea] [(pl, .inr (1, [.ref q1, .ref q2, .ref q3, .ref q4, .ref q5, .ref q6, .ref q7, .ref q8, .ref q9, .int (nI rg)])), (q1, .inl (cI, 480, .inl (nA bn))), (ea, .inl (cI, 480, .inl (nA ed)))] (fun r => r = nI (gp_cn (fun k => gp_otn bn ed (gp_sl (k + 1) 0 0) 12) 40)) := by
  refine ga_enR (by decide) (Nat.le_of_ble_eq_true rfl) ?_
  intro p e s m below meth c ls S hrt hlk hK hP hl
  obtain ⟨hx, hb, hml, hown, hts⟩ := id S
  have hl : lv_has ls 4 [(0, .ref pl), (1, .ref ea)] := hl
  refine lv_iconst (v := 0) hx hb d_Pl_countTargetsOtherThan_0 (by decide) ?_
  refine lv_istore_n (lv' := [(2, .int 0), (0, .ref pl), (1, .ref ea)]) hx hb d_Pl_countTargetsOtherThan_1 rfl hl (by decide) rfl (fun ls hl => ?_)
  refine lv_iconst (v := 1) hx hb d_Pl_countTargetsOtherThan_2 (by decide) ?_
  refine lv_istore_n (lv' := [(3, .int 1), (2, .int 0), (0, .ref pl), (1, .ref ea)]) hx hb d_Pl_countTargetsOtherThan_3 rfl hl (by decide) rfl (fun ls hl => ?_)
  refine ga_loopR (α := Nat × Nat) (fun x => match x with | (t, ct) => 41 - t) (fun x ls => match x with | (t, ct) => lv_has ls 4 [(3, .int (nI t)), (2, .int (nI ct)), (0, .ref pl), (1, .ref ea)] ∧ 1 ≤ t ∧ t ≤ 41 ∧ ct = gp_cn (fun k => gp_otn bn ed (gp_sl (k + 1) 0 0) 12) (t - 1)) ?_ (1, 0) ⟨lv_sub hl [0, 1, 2, 3] rfl, ⟨by decide, by decide, rfl⟩⟩
  intro x ls hI ih
  obtain ⟨t, ct⟩ := x
  obtain ⟨hl, ⟨h1, h2, h3⟩⟩ := hI
  have hl : lv_has ls 4 [(3, .int (nI t)), (2, .int (nI ct)), (0, .ref pl), (1, .ref ea)] := hl
  refine lv_iload_n hx hb d_Pl_countTargetsOtherThan_4 rfl (lv_at hl 0 rfl) ?_
  refine lv_bipush (v := 40) hx hb d_Pl_countTargetsOtherThan_5 (by decide) ?_
  refine lv_icmp_gt (tgt := 28) hx hb d_Pl_countTargetsOtherThan_7 (by decide) (fun c7 => ?_) (fun c7 => ?_)
  · have c7 : 40 < t := (nI_ltI (a := 40) (b := t) (by omega) (by omega)).mp c7
    refine lv_iload_n hx hb d_Pl_countTargetsOtherThan_28 rfl (lv_at hl 1 rfl) ?_
    exact ga_ri S hrt hlk (by rw [h3, show t - 1 = 40 by omega]) d_Pl_countTargetsOtherThan_29
  · have c7 : ¬ (40 < t) := fun q => c7 ((nI_ltI (a := 40) (b := t) (by omega) (by omega)).mpr q)
    refine lv_aload_n hx hb d_Pl_countTargetsOtherThan_10 rfl (lv_at hl 2 rfl) ?_
    refine lv_aload_n hx hb d_Pl_countTargetsOtherThan_11 rfl (lv_at hl 3 rfl) ?_
    refine lv_iload_n hx hb d_Pl_countTargetsOtherThan_12 rfl (lv_at hl 0 rfl) ?_
    refine ga_cr (As := [.ref ea, .int (nI t)]) (rest := []) (q0 := 0) S hK hP s_Pl_60 (gc_Pl_isOtherThan l D cI cZ cC cG pl q1 q2 q3 q4 q5 q6 q7 q8 q9 rg ea t bn ed (by omega) (by omega) hbn hed) [0, 1, 2] rfl rfl rfl rfl hl.1 rfl (Nat.le_of_ble_eq_true rfl) ⟨Nat.le_of_ble_eq_true rfl, Nat.le_of_ble_eq_true rfl⟩ ⟨Nat.le_of_ble_eq_true rfl, Nat.le_of_ble_eq_true rfl⟩ d_Pl_countTargetsOtherThan_13 (fun r hp13 => ?_)
    rcases hp13 with ⟨rfl, hp13⟩ | ⟨rfl, hp13⟩
    · refine lv_if_eq (tgt := 22) hx hb d_Pl_countTargetsOtherThan_16 (by decide) (fun c16 => ?_) (fun c16 => ?_)
      · exact absurd c16 (by decide)
      · refine lv_iinc (v := nI (ct + 1)) (lv' := [(2, .int (nI (ct + 1))), (3, .int (nI t)), (0, .ref pl), (1, .ref ea)]) hx hb d_Pl_countTargetsOtherThan_19 hl (k := 1) rfl (ga_inc ct) (by decide) rfl (fun ls hl => ?_)
        refine lv_iinc (v := nI (t + 1)) (lv' := [(3, .int (nI (t + 1))), (2, .int (nI (ct + 1))), (0, .ref pl), (1, .ref ea)]) hx hb d_Pl_countTargetsOtherThan_22 hl (k := 1) rfl (ga_inc t) (by decide) rfl (fun ls hl => ?_)
        refine lv_goto (tgt := 4) hx hb d_Pl_countTargetsOtherThan_25 (by decide) ?_
        exact ih (t + 1, ct + 1) _ (by show (41 - (t + 1)) < (41 - t); omega) ⟨lv_sub hl [0, 1, 2, 3] rfl, ⟨by omega, by omega, by rw [show t + 1 - 1 = (t - 1) + 1 by omega, gp_cn, show t - 1 + 1 = t by omega, hp13, h3]; rfl⟩⟩
    · refine lv_if_eq (tgt := 22) hx hb d_Pl_countTargetsOtherThan_16 (by decide) (fun c16 => ?_) (fun c16 => ?_)
      · refine lv_iinc (v := nI (t + 1)) (lv' := [(3, .int (nI (t + 1))), (2, .int (nI ct)), (0, .ref pl), (1, .ref ea)]) hx hb d_Pl_countTargetsOtherThan_22 hl (k := 0) rfl (ga_inc t) (by decide) rfl (fun ls hl => ?_)
        refine lv_goto (tgt := 4) hx hb d_Pl_countTargetsOtherThan_25 (by decide) ?_
        exact ih (t + 1, ct) _ (by show (41 - (t + 1)) < (41 - t); omega) ⟨lv_sub hl [0, 1, 2, 3] rfl, ⟨by omega, by omega, by rw [show t + 1 - 1 = (t - 1) + 1 by omega, gp_cn, show t - 1 + 1 = t by omega, hp13, h3]; rfl⟩⟩
      · exact absurd c16 (by decide)
set_option maxHeartbeats 4000000 in
set_option maxRecDepth 100000 in
theorem gc_Pl_exchange (l : Launch) (D : va_G) (cI cZ cC cG : ClassId) (pl q1 q2 q3 q4 q5 q6 q7 q8 q9 : Nat) (rg a b : Nat) (bn : Nat → Nat) (ha : a ≤ 60) (hb9 : b ≤ 60) (hbn : ∀ j, bn j ≤ 60) : ga_Mi l y_Pl_exchange b_Pl_exchange 6 (some .int) 0 0 0 D (ga_T cI cZ cC cG) [.ref pl, .int (nI a), .int (nI b)] [(pl, .inr (1, [.ref q1, .ref q2, .ref q3, .ref q4, .ref q5, .ref q6, .ref q7, .ref q8, .ref q9, .int (nI rg)])), (q1, .inl (cI, 480, .inl (nA bn)))] (fun (_ : Unit) => [(pl, .inr (1, [.ref q1, .ref q2, .ref q3, .ref q4, .ref q5, .ref q6, .ref q7, .ref q8, .ref q9, .int (nI rg)])), (q1, .inl (cI, 480, .inl (nA (gp_ex bn a b 480))))]) (fun r _ => r = nI (gp_cn (fun j => decide (bn j = a ∨ bn j = b)) 480)) := by
  refine ga_enI (by decide) (Nat.le_of_ble_eq_true rfl) ?_
  intro p e s m below meth c ls A S hrt hlk hK hP hD hA hl
  have hS : va_S A s.heap s.heap [] := va_S.rf
  obtain ⟨hx, hb, hml, hown, hts⟩ := id S
  have hl : lv_has ls 6 [(0, .ref pl), (1, .int (nI a)), (2, .int (nI b))] := hl
  refine lv_iconst (v := 0) hx hb d_Pl_exchange_0 (by decide) ?_
  refine lv_istore_n (lv' := [(3, .int 0), (0, .ref pl), (1, .int (nI a)), (2, .int (nI b))]) hx hb d_Pl_exchange_1 rfl hl (by decide) rfl (fun ls hl => ?_)
  refine lv_iconst (v := 0) hx hb d_Pl_exchange_2 (by decide) ?_
  refine lv_istore (lv' := [(4, .int 0), (3, .int 0), (0, .ref pl), (1, .int (nI a)), (2, .int (nI b))]) hx hb d_Pl_exchange_3 hl (by decide) rfl (fun ls hl => ?_)
  refine ga_loop (α := Nat × Nat × (Nat → Nat)) (fun x => match x with | (i, ct, bm) => 480 - i) (fun x ls H locs => match x with | (i, ct, bm) => lv_has ls 6 [(4, .int (nI i)), (3, .int (nI ct)), (0, .ref pl), (1, .int (nI a)), (2, .int (nI b))] ∧ va_P D vwCl [(pl, .inr (1, [.ref q1, .ref q2, .ref q3, .ref q4, .ref q5, .ref q6, .ref q7, .ref q8, .ref q9, .int (nI rg)])), (q1, .inl (cI, 480, .inl (nA bm)))] H ∧ va_D A [(pl, .inr (1, [.ref q1, .ref q2, .ref q3, .ref q4, .ref q5, .ref q6, .ref q7, .ref q8, .ref q9, .int (nI rg)])), (q1, .inl (cI, 480, .inl (nA bm)))] ∧ va_S A s.heap H locs ∧ i ≤ 480 ∧ ct = gp_cn (fun j => decide (bn j = a ∨ bn j = b)) i ∧ bm = gp_ex bn a b i) ?_ (0, 0, bn) ⟨lv_sub hl [0, 1, 2, 3, 4] rfl, hP, hD, hS, ⟨by decide, rfl, (gp_ex_0 _ _ _).symm⟩⟩
  intro x ls H locs hI ih
  obtain ⟨i, ct, bm⟩ := x
  obtain ⟨hl, hP, hD, hS, ⟨hi, hct, hbm⟩⟩ := hI
  have hl : lv_has ls 6 [(4, .int (nI i)), (3, .int (nI ct)), (0, .ref pl), (1, .int (nI a)), (2, .int (nI b))] := hl
  have hP : va_P D vwCl [(pl, .inr (1, [.ref q1, .ref q2, .ref q3, .ref q4, .ref q5, .ref q6, .ref q7, .ref q8, .ref q9, .int (nI rg)])), (q1, .inl (cI, 480, .inl (nA bm)))] H := hP
  have hD : va_D A [(pl, .inr (1, [.ref q1, .ref q2, .ref q3, .ref q4, .ref q5, .ref q6, .ref q7, .ref q8, .ref q9, .int (nI rg)])), (q1, .inl (cI, 480, .inl (nA bm)))] := hD
  refine lv_iload hx hb d_Pl_exchange_5 (lv_at hl 0 rfl) ?_
  refine lv_sipush (v := 480) hx hb d_Pl_exchange_7 (by decide) ?_
  refine lv_icmp_ge (tgt := 61) hx hb d_Pl_exchange_10 (by decide) (fun c10 => ?_) (fun c10 => ?_)
  · have c10 : 480 ≤ i := (nI_leI (a := 480) (b := i) (by omega) (by omega)).mp c10
    refine lv_iload_n hx hb d_Pl_exchange_61 rfl (lv_at hl 1 rfl) ?_
    obtain rfl : i = 480 := by omega
    exact ga_wi () S hrt hlk (by rw [← hbm]; exact hP) (by rw [← hbm]; exact hD) hS (by rw [hct]) d_Pl_exchange_62
  · have c10 : ¬ (480 ≤ i) := fun q => c10 ((nI_leI (a := 480) (b := i) (by omega) (by omega)).mpr q)
    refine lv_aload_n hx hb d_Pl_exchange_13 rfl (lv_at hl 2 rfl) ?_
    refine ga_get S hK hP 0 rfl f_Pl_11 rfl d_Pl_exchange_14 ?_
    refine lv_iload hx hb d_Pl_exchange_17 (lv_at hl 0 rfl) ?_
    refine ga_ild S hK hP 1 0 rfl rfl i (by omega) (by decide) d_Pl_exchange_19 ?_
    have hbi : bm i = bn i := by rw [hbm]; simp [gp_ex]
    have hb60 := hbn i
    refine lv_istore (lv' := [(5, .int (nI (bm i))), (4, .int (nI i)), (3, .int (nI ct)), (0, .ref pl), (1, .int (nI a)), (2, .int (nI b))]) hx hb d_Pl_exchange_20 hl (by decide) rfl (fun ls hl => ?_)
    refine lv_iload hx hb d_Pl_exchange_22 (lv_at hl 0 rfl) ?_
    refine lv_iload_n hx hb d_Pl_exchange_24 rfl (lv_at hl 4 rfl) ?_
    refine lv_icmp_eq (tgt := 34) hx hb d_Pl_exchange_25 (by decide) (fun c25 => ?_) (fun c25 => ?_)
    · have c25 : (bm i) = a := (nI_eq (a := (bm i)) (b := a) (by omega) (by omega)).mp c25
      refine lv_aload_n hx hb d_Pl_exchange_34 rfl (lv_at hl 3 rfl) ?_
      refine ga_get S hK hP 0 rfl f_Pl_11 rfl d_Pl_exchange_35 ?_
      refine lv_iload hx hb d_Pl_exchange_38 (lv_at hl 1 rfl) ?_
      refine lv_iload hx hb d_Pl_exchange_40 (lv_at hl 0 rfl) ?_
      refine lv_iload_n hx hb d_Pl_exchange_42 rfl (lv_at hl 4 rfl) ?_
      refine lv_icmp_ne (tgt := 50) hx hb d_Pl_exchange_43 (by decide) (fun c43 => ?_) (fun c43 => ?_)
      · have c43 : ¬ ((bm i) = a) := fun q => c43 ((nI_eq (a := (bm i)) (b := a) (by omega) (by omega)).mpr q)
        refine lv_iload_n hx hb d_Pl_exchange_50 rfl (lv_at hl 4 rfl) ?_
        refine ga_ist (ws' := [(pl, .inr (1, [.ref q1, .ref q2, .ref q3, .ref q4, .ref q5, .ref q6, .ref q7, .ref q8, .ref q9, .int (nI rg)])), (q1, .inl (cI, 480, .inl (nA (va_up bm i a))))]) S hK hP hD hS 1 0 rfl rfl i a (by omega) (by decide) rfl d_Pl_exchange_51 (fun H locs hP hD hS => ?_)
        refine lv_iinc (v := nI (ct + 1)) (lv' := [(3, .int (nI (ct + 1))), (5, .int (nI (bm i))), (4, .int (nI i)), (0, .ref pl), (1, .int (nI a)), (2, .int (nI b))]) hx hb d_Pl_exchange_52 hl (k := 2) rfl (ga_inc ct) (by decide) rfl (fun ls hl => ?_)
        refine lv_iinc (v := nI (i + 1)) (lv' := [(4, .int (nI (i + 1))), (3, .int (nI (ct + 1))), (5, .int (nI (bm i))), (0, .ref pl), (1, .int (nI a)), (2, .int (nI b))]) hx hb d_Pl_exchange_55 hl (k := 2) rfl (ga_inc i) (by decide) rfl (fun ls hl => ?_)
        refine lv_goto (tgt := 5) hx hb d_Pl_exchange_58 (by decide) ?_
        exact ih (i + 1, ct + 1, va_up bm i a) _ _ _ (by show (480 - (i + 1)) < (480 - i); omega) ⟨lv_sub hl [0, 1, 3, 4, 5] rfl, hP, hD, hS, ⟨by omega, by rw [gp_cn, hct]; simp; first | omega | (rw [if_pos (by omega)]) | (rw [if_neg (by omega)]; done), by rw [hbm]; exact gp_ex_up _ _ _ _ _ (by unfold gp_sw; first | (exfalso; omega) | rw [if_pos (by omega)] | rw [if_neg (by omega), if_pos (by omega)])⟩⟩
      · have c43 : (bm i) = a := (nI_eq (a := (bm i)) (b := a) (by omega) (by omega)).mp c43
        refine lv_iload_n hx hb d_Pl_exchange_46 rfl (lv_at hl 5 rfl) ?_
        refine lv_goto (tgt := 51) hx hb d_Pl_exchange_47 (by decide) ?_
        refine ga_ist (ws' := [(pl, .inr (1, [.ref q1, .ref q2, .ref q3, .ref q4, .ref q5, .ref q6, .ref q7, .ref q8, .ref q9, .int (nI rg)])), (q1, .inl (cI, 480, .inl (nA (va_up bm i b))))]) S hK hP hD hS 1 0 rfl rfl i b (by omega) (by decide) rfl d_Pl_exchange_51 (fun H locs hP hD hS => ?_)
        refine lv_iinc (v := nI (ct + 1)) (lv' := [(3, .int (nI (ct + 1))), (5, .int (nI (bm i))), (4, .int (nI i)), (0, .ref pl), (1, .int (nI a)), (2, .int (nI b))]) hx hb d_Pl_exchange_52 hl (k := 2) rfl (ga_inc ct) (by decide) rfl (fun ls hl => ?_)
        refine lv_iinc (v := nI (i + 1)) (lv' := [(4, .int (nI (i + 1))), (3, .int (nI (ct + 1))), (5, .int (nI (bm i))), (0, .ref pl), (1, .int (nI a)), (2, .int (nI b))]) hx hb d_Pl_exchange_55 hl (k := 2) rfl (ga_inc i) (by decide) rfl (fun ls hl => ?_)
        refine lv_goto (tgt := 5) hx hb d_Pl_exchange_58 (by decide) ?_
        exact ih (i + 1, ct + 1, va_up bm i b) _ _ _ (by show (480 - (i + 1)) < (480 - i); omega) ⟨lv_sub hl [0, 1, 3, 4, 5] rfl, hP, hD, hS, ⟨by omega, by rw [gp_cn, hct]; simp; first | omega | (rw [if_pos (by omega)]) | (rw [if_neg (by omega)]; done), by rw [hbm]; exact gp_ex_up _ _ _ _ _ (by unfold gp_sw; first | (exfalso; omega) | rw [if_pos (by omega)] | rw [if_neg (by omega), if_pos (by omega)])⟩⟩
    · have c25 : ¬ ((bm i) = a) := fun q => c25 ((nI_eq (a := (bm i)) (b := a) (by omega) (by omega)).mpr q)
      refine lv_iload hx hb d_Pl_exchange_28 (lv_at hl 0 rfl) ?_
      refine lv_iload_n hx hb d_Pl_exchange_30 rfl (lv_at hl 5 rfl) ?_
      refine lv_icmp_ne (tgt := 55) hx hb d_Pl_exchange_31 (by decide) (fun c31 => ?_) (fun c31 => ?_)
      · have c31 : ¬ ((bm i) = b) := fun q => c31 ((nI_eq (a := (bm i)) (b := b) (by omega) (by omega)).mpr q)
        refine lv_iinc (v := nI (i + 1)) (lv' := [(4, .int (nI (i + 1))), (5, .int (nI (bm i))), (3, .int (nI ct)), (0, .ref pl), (1, .int (nI a)), (2, .int (nI b))]) hx hb d_Pl_exchange_55 hl (k := 1) rfl (ga_inc i) (by decide) rfl (fun ls hl => ?_)
        refine lv_goto (tgt := 5) hx hb d_Pl_exchange_58 (by decide) ?_
        exact ih (i + 1, ct, bm) _ _ _ (by show (480 - (i + 1)) < (480 - i); omega) ⟨lv_sub hl [0, 2, 3, 4, 5] rfl, hP, hD, hS, ⟨by omega, by rw [gp_cn, hct]; simp; first | omega | (rw [if_pos (by omega)]) | (rw [if_neg (by omega)]; done), by rw [hbm]; exact gp_ex_id _ _ _ _ (by unfold gp_sw; rw [if_neg (by omega), if_neg (by omega)])⟩⟩
      · have c31 : (bm i) = b := (nI_eq (a := (bm i)) (b := b) (by omega) (by omega)).mp c31
        refine lv_aload_n hx hb d_Pl_exchange_34 rfl (lv_at hl 3 rfl) ?_
        refine ga_get S hK hP 0 rfl f_Pl_11 rfl d_Pl_exchange_35 ?_
        refine lv_iload hx hb d_Pl_exchange_38 (lv_at hl 1 rfl) ?_
        refine lv_iload hx hb d_Pl_exchange_40 (lv_at hl 0 rfl) ?_
        refine lv_iload_n hx hb d_Pl_exchange_42 rfl (lv_at hl 4 rfl) ?_
        refine lv_icmp_ne (tgt := 50) hx hb d_Pl_exchange_43 (by decide) (fun c43 => ?_) (fun c43 => ?_)
        · have c43 : ¬ ((bm i) = a) := fun q => c43 ((nI_eq (a := (bm i)) (b := a) (by omega) (by omega)).mpr q)
          refine lv_iload_n hx hb d_Pl_exchange_50 rfl (lv_at hl 4 rfl) ?_
          refine ga_ist (ws' := [(pl, .inr (1, [.ref q1, .ref q2, .ref q3, .ref q4, .ref q5, .ref q6, .ref q7, .ref q8, .ref q9, .int (nI rg)])), (q1, .inl (cI, 480, .inl (nA (va_up bm i a))))]) S hK hP hD hS 1 0 rfl rfl i a (by omega) (by decide) rfl d_Pl_exchange_51 (fun H locs hP hD hS => ?_)
          refine lv_iinc (v := nI (ct + 1)) (lv' := [(3, .int (nI (ct + 1))), (5, .int (nI (bm i))), (4, .int (nI i)), (0, .ref pl), (1, .int (nI a)), (2, .int (nI b))]) hx hb d_Pl_exchange_52 hl (k := 2) rfl (ga_inc ct) (by decide) rfl (fun ls hl => ?_)
          refine lv_iinc (v := nI (i + 1)) (lv' := [(4, .int (nI (i + 1))), (3, .int (nI (ct + 1))), (5, .int (nI (bm i))), (0, .ref pl), (1, .int (nI a)), (2, .int (nI b))]) hx hb d_Pl_exchange_55 hl (k := 2) rfl (ga_inc i) (by decide) rfl (fun ls hl => ?_)
          refine lv_goto (tgt := 5) hx hb d_Pl_exchange_58 (by decide) ?_
          exact ih (i + 1, ct + 1, va_up bm i a) _ _ _ (by show (480 - (i + 1)) < (480 - i); omega) ⟨lv_sub hl [0, 1, 3, 4, 5] rfl, hP, hD, hS, ⟨by omega, by rw [gp_cn, hct]; simp; first | omega | (rw [if_pos (by omega)]) | (rw [if_neg (by omega)]; done), by rw [hbm]; exact gp_ex_up _ _ _ _ _ (by unfold gp_sw; first | (exfalso; omega) | rw [if_pos (by omega)] | rw [if_neg (by omega), if_pos (by omega)])⟩⟩
        · have c43 : (bm i) = a := (nI_eq (a := (bm i)) (b := a) (by omega) (by omega)).mp c43
          refine lv_iload_n hx hb d_Pl_exchange_46 rfl (lv_at hl 5 rfl) ?_
          refine lv_goto (tgt := 51) hx hb d_Pl_exchange_47 (by decide) ?_
          refine ga_ist (ws' := [(pl, .inr (1, [.ref q1, .ref q2, .ref q3, .ref q4, .ref q5, .ref q6, .ref q7, .ref q8, .ref q9, .int (nI rg)])), (q1, .inl (cI, 480, .inl (nA (va_up bm i b))))]) S hK hP hD hS 1 0 rfl rfl i b (by omega) (by decide) rfl d_Pl_exchange_51 (fun H locs hP hD hS => ?_)
          refine lv_iinc (v := nI (ct + 1)) (lv' := [(3, .int (nI (ct + 1))), (5, .int (nI (bm i))), (4, .int (nI i)), (0, .ref pl), (1, .int (nI a)), (2, .int (nI b))]) hx hb d_Pl_exchange_52 hl (k := 2) rfl (ga_inc ct) (by decide) rfl (fun ls hl => ?_)
          refine lv_iinc (v := nI (i + 1)) (lv' := [(4, .int (nI (i + 1))), (3, .int (nI (ct + 1))), (5, .int (nI (bm i))), (0, .ref pl), (1, .int (nI a)), (2, .int (nI b))]) hx hb d_Pl_exchange_55 hl (k := 2) rfl (ga_inc i) (by decide) rfl (fun ls hl => ?_)
          refine lv_goto (tgt := 5) hx hb d_Pl_exchange_58 (by decide) ?_
          exact ih (i + 1, ct + 1, va_up bm i b) _ _ _ (by show (480 - (i + 1)) < (480 - i); omega) ⟨lv_sub hl [0, 1, 3, 4, 5] rfl, hP, hD, hS, ⟨by omega, by rw [gp_cn, hct]; simp; first | omega | (rw [if_pos (by omega)]) | (rw [if_neg (by omega)]; done), by rw [hbm]; exact gp_ex_up _ _ _ _ _ (by unfold gp_sw; first | (exfalso; omega) | rw [if_pos (by omega)] | rw [if_neg (by omega), if_pos (by omega)])⟩⟩
set_option maxHeartbeats 4000000 in
set_option maxRecDepth 100000 in
theorem gc_Pl_endOfGoingOn (l : Launch) (D : va_G) (cI cZ cC cG : ClassId) (pl q1 q2 q3 q4 q5 q6 q7 q8 q9 : Nat) (rg bi : Nat) (ne : Nat → Nat) (hbi : bi ≤ 60) (hne : ∀ j, ne j ≤ 60) : ga_Mr l y_Pl_endOfGoingOn b_Pl_endOfGoingOn 4 (some .int) 0 D (ga_T cI cZ cC cG) [.ref pl, .int (nI bi)] [(pl, .inr (1, [.ref q1, .ref q2, .ref q3, .ref q4, .ref q5, .ref q6, .ref q7, .ref q8, .ref q9, .int (nI rg)])), (q5, .inl (cI, 61, .inl (nA ne)))] (fun r => (∃ j, j < 60 ∧ (∀ i, i < j → ne (gp_it ne bi i) ≠ 0) ∧ ne (gp_it ne bi j) = 0 ∧ r = nI (gp_it ne bi j)) ∨ ((∀ i, i < 60 → ne (gp_it ne bi i) ≠ 0) ∧ r = -1)) := by
  refine ga_enR (by decide) (Nat.le_of_ble_eq_true rfl) ?_
  intro p e s m below meth c ls S hrt hlk hK hP hl
  obtain ⟨hx, hb, hml, hown, hts⟩ := id S
  have hl : lv_has ls 4 [(0, .ref pl), (1, .int (nI bi))] := hl
  refine lv_iload_n hx hb d_Pl_endOfGoingOn_0 rfl (lv_at hl 1 rfl) ?_
  refine lv_istore_n (lv' := [(2, .int (nI bi)), (0, .ref pl), (1, .int (nI bi))]) hx hb d_Pl_endOfGoingOn_1 rfl hl (by decide) rfl (fun ls hl => ?_)
  refine lv_iconst (v := 0) hx hb d_Pl_endOfGoingOn_2 (by decide) ?_
  refine lv_istore_n (lv' := [(3, .int 0), (2, .int (nI bi)), (0, .ref pl), (1, .int (nI bi))]) hx hb d_Pl_endOfGoingOn_3 rfl hl (by decide) rfl (fun ls hl => ?_)
  refine ga_loopR (α := Nat × Nat) (fun x => match x with | (sp, cu) => 60 - sp) (fun x ls => match x with | (sp, cu) => lv_has ls 4 [(3, .int (nI sp)), (2, .int (nI cu)), (0, .ref pl), (1, .int (nI bi))] ∧ sp ≤ 60 ∧ cu ≤ 60 ∧ cu = gp_it ne bi sp ∧ ∀ i, i < sp → ne (gp_it ne bi i) ≠ 0) ?_ (0, bi) ⟨lv_sub hl [0, 1, 2, 3] rfl, ⟨by decide, hbi, rfl, fun i h => absurd h (Nat.not_lt_zero _)⟩⟩
  intro x ls hI ih
  obtain ⟨sp, cu⟩ := x
  obtain ⟨hl, ⟨h1, h2, h3, h4⟩⟩ := hI
  have hl : lv_has ls 4 [(3, .int (nI sp)), (2, .int (nI cu)), (0, .ref pl), (1, .int (nI bi))] := hl
  refine lv_iload_n hx hb d_Pl_endOfGoingOn_4 rfl (lv_at hl 0 rfl) ?_
  refine lv_bipush (v := 60) hx hb d_Pl_endOfGoingOn_5 (by decide) ?_
  refine lv_icmp_ge (tgt := 34) hx hb d_Pl_endOfGoingOn_7 (by decide) (fun c7 => ?_) (fun c7 => ?_)
  · have c7 : 60 ≤ sp := (nI_leI (a := 60) (b := sp) (by omega) (by omega)).mp c7
    refine lv_iconst (v := (-1)) hx hb d_Pl_endOfGoingOn_34 (by decide) ?_
    exact ga_ri S hrt hlk (Or.inr ⟨fun i hi => h4 i (by omega), rfl⟩) d_Pl_endOfGoingOn_35
  · have c7 : ¬ (60 ≤ sp) := fun q => c7 ((nI_leI (a := 60) (b := sp) (by omega) (by omega)).mpr q)
    refine lv_aload_n hx hb d_Pl_endOfGoingOn_10 rfl (lv_at hl 2 rfl) ?_
    refine ga_get S hK hP 0 rfl f_Pl_27 rfl d_Pl_endOfGoingOn_11 ?_
    refine lv_iload_n hx hb d_Pl_endOfGoingOn_14 rfl (lv_at hl 1 rfl) ?_
    refine ga_ild S hK hP 1 0 rfl rfl cu (by omega) (by decide) d_Pl_endOfGoingOn_15 ?_
    have hb1 := hne cu
    refine lv_if_ne (tgt := 21) hx hb d_Pl_endOfGoingOn_16 (by decide) (fun c16 => ?_) (fun c16 => ?_)
    · have c16 : ¬ ((ne cu) = 0) := fun q => c16 ((nI_eq (a := (ne cu)) (b := 0) (by omega) (by omega)).mpr q)
      refine lv_aload_n hx hb d_Pl_endOfGoingOn_21 rfl (lv_at hl 2 rfl) ?_
      refine ga_get S hK hP 0 rfl f_Pl_27 rfl d_Pl_endOfGoingOn_22 ?_
      refine lv_iload_n hx hb d_Pl_endOfGoingOn_25 rfl (lv_at hl 1 rfl) ?_
      refine ga_ild S hK hP 1 0 rfl rfl cu (by omega) (by decide) d_Pl_endOfGoingOn_26 ?_
      have hb2 := hne cu
      refine lv_istore_n (lv' := [(2, .int (nI (ne cu))), (3, .int (nI sp)), (0, .ref pl), (1, .int (nI bi))]) hx hb d_Pl_endOfGoingOn_27 rfl hl (by decide) rfl (fun ls hl => ?_)
      refine lv_iinc (v := nI (sp + 1)) (lv' := [(3, .int (nI (sp + 1))), (2, .int (nI (ne cu))), (0, .ref pl), (1, .int (nI bi))]) hx hb d_Pl_endOfGoingOn_28 hl (k := 1) rfl (ga_inc sp) (by decide) rfl (fun ls hl => ?_)
      refine lv_goto (tgt := 4) hx hb d_Pl_endOfGoingOn_31 (by decide) ?_
      exact ih (sp + 1, ne cu) _ (by show (60 - (sp + 1)) < (60 - sp); omega) ⟨lv_sub hl [0, 1, 2, 3] rfl, ⟨by omega, by omega, by rw [gp_it, h3], lt_s h4 (by rw [← h3]; exact c16)⟩⟩
    · have c16 : (ne cu) = 0 := (nI_eq (a := (ne cu)) (b := 0) (by omega) (by omega)).mp c16
      refine lv_iload_n hx hb d_Pl_endOfGoingOn_19 rfl (lv_at hl 1 rfl) ?_
      exact ga_ri S hrt hlk (Or.inl ⟨sp, by omega, h4, by rw [← h3]; exact c16, by rw [← h3]⟩) d_Pl_endOfGoingOn_20
end
section
set_option maxHeartbeats 4000000 in
set_option maxRecDepth 100000 in
theorem gc_Fa_findHoles (l : Launch) (D : va_G) (cI cZ cC cG : ClassId) (fa fo k : Nat) (told : Nat → Nat) (pl q1 q2 q3 q4 q5 q6 q7 q8 q9 : Nat) (rg sh pa : Nat) (hsh : sh < 3) (hpa : pa < 4) (bn : Nat → Nat) (us : Nat → Bool) (hbn : ∀ j, bn j ≤ 60) (hk : k < 2 ^ 29) : ga_Mv l y_Fa_findHoles b_Fa_findHoles 5 1 0 0 D (ga_T cI cZ cC cG) [.ref fa, .ref pl, .int (nI sh), .int (nI pa)] [(fa, .inr (0, [.ref fo, .int (nI k)])), (fo, .inl (cI, 500, .inl (nA told))), (pl, .inr (1, [.ref q1, .ref q2, .ref q3, .ref q4, .ref q5, .ref q6, .ref q7, .ref q8, .ref q9, .int (nI rg)])), (q1, .inl (cI, 480, .inl (nA bn))), (q3, .inl (cZ, 41, .inl (zA us)))] (fun (x : gp_F) => [(fa, .inr (0, [.ref fo, .int (nI x.2)])), (fo, .inl (cI, 500, .inl (nA x.1))), (pl, .inr (1, [.ref q1, .ref q2, .ref q3, .ref q4, .ref q5, .ref q6, .ref q7, .ref q8, .ref q9, .int (nI rg)])), (q1, .inl (cI, 480, .inl (nA bn))), (q3, .inl (cZ, 41, .inl (zA us)))]) (fun x => x = gp_hl us bn sh pa (told, k) 40) := by
  refine ga_enV (by decide) (Nat.le_of_ble_eq_true rfl) ?_
  intro p e s m below meth c ls A S hrt hlk hnm hK hP hD hA hl
  have hS : va_S A s.heap s.heap [] := va_S.rf
  obtain ⟨hx, hb, hml, hown, hts⟩ := id S
  have hl : lv_has ls 5 [(0, .ref fa), (1, .ref pl), (2, .int (nI sh)), (3, .int (nI pa))] := hl
  refine lv_iconst (v := 1) hx hb d_Fa_findHoles_0 (by decide) ?_
  refine lv_istore (lv' := [(4, .int 1), (0, .ref fa), (1, .ref pl), (2, .int (nI sh)), (3, .int (nI pa))]) hx hb d_Fa_findHoles_1 hl (by decide) rfl (fun ls hl => ?_)
  refine ga_loop (α := Nat × (Nat → Nat) × Nat) (fun x => match x with | (t, td, kk) => 41 - t) (fun x ls H locs => match x with | (t, td, kk) => lv_has ls 5 [(4, .int (nI t)), (0, .ref fa), (1, .ref pl), (2, .int (nI sh)), (3, .int (nI pa))] ∧ va_P D vwCl [(fa, .inr (0, [.ref fo, .int (nI kk)])), (fo, .inl (cI, 500, .inl (nA td))), (pl, .inr (1, [.ref q1, .ref q2, .ref q3, .ref q4, .ref q5, .ref q6, .ref q7, .ref q8, .ref q9, .int (nI rg)])), (q1, .inl (cI, 480, .inl (nA bn))), (q3, .inl (cZ, 41, .inl (zA us)))] H ∧ va_D A [(fa, .inr (0, [.ref fo, .int (nI kk)])), (fo, .inl (cI, 500, .inl (nA td))), (pl, .inr (1, [.ref q1, .ref q2, .ref q3, .ref q4, .ref q5, .ref q6, .ref q7, .ref q8, .ref q9, .int (nI rg)])), (q1, .inl (cI, 480, .inl (nA bn))), (q3, .inl (cZ, 41, .inl (zA us)))] ∧ va_S A s.heap H locs ∧ 1 ≤ t ∧ t ≤ 41 ∧ kk ≤ k + (t - 1) ∧ (td, kk) = gp_hl us bn sh pa (told, k) (t - 1)) ?_ (1, told, k) ⟨lv_sub hl [0, 1, 2, 3, 4] rfl, hP, hD, hS, ⟨by decide, by decide, by omega, rfl⟩⟩
  intro x ls H locs hI ih
  obtain ⟨t, td, kk⟩ := x
  obtain ⟨hl, hP, hD, hS, ⟨h1, h2, h3, h4⟩⟩ := hI
  have hl : lv_has ls 5 [(4, .int (nI t)), (0, .ref fa), (1, .ref pl), (2, .int (nI sh)), (3, .int (nI pa))] := hl
  have hP : va_P D vwCl [(fa, .inr (0, [.ref fo, .int (nI kk)])), (fo, .inl (cI, 500, .inl (nA td))), (pl, .inr (1, [.ref q1, .ref q2, .ref q3, .ref q4, .ref q5, .ref q6, .ref q7, .ref q8, .ref q9, .int (nI rg)])), (q1, .inl (cI, 480, .inl (nA bn))), (q3, .inl (cZ, 41, .inl (zA us)))] H := hP
  have hD : va_D A [(fa, .inr (0, [.ref fo, .int (nI kk)])), (fo, .inl (cI, 500, .inl (nA td))), (pl, .inr (1, [.ref q1, .ref q2, .ref q3, .ref q4, .ref q5, .ref q6, .ref q7, .ref q8, .ref q9, .int (nI rg)])), (q1, .inl (cI, 480, .inl (nA bn))), (q3, .inl (cZ, 41, .inl (zA us)))] := hD
  refine lv_iload hx hb d_Fa_findHoles_3 (lv_at hl 0 rfl) ?_
  refine lv_bipush (v := 40) hx hb d_Fa_findHoles_5 (by decide) ?_
  refine lv_icmp_gt (tgt := 51) hx hb d_Fa_findHoles_7 (by decide) (fun c7 => ?_) (fun c7 => ?_)
  · have c7 : 40 < t := (nI_ltI (a := 40) (b := t) (by omega) (by omega)).mp c7
    exact ga_wv (td, kk) S hrt hlk hP hD hS (by rw [h4, show t - 1 = 40 by omega]) d_Fa_findHoles_51
  · have c7 : ¬ (40 < t) := fun q => c7 ((nI_ltI (a := 40) (b := t) (by omega) (by omega)).mpr q)
    refine lv_aload_n hx hb d_Fa_findHoles_10 rfl (lv_at hl 2 rfl) ?_
    refine ga_get S hK hP 2 rfl f_Fa_32 rfl d_Fa_findHoles_11 ?_
    refine lv_iload hx hb d_Fa_findHoles_14 (lv_at hl 0 rfl) ?_
    refine ga_zld S hK hP 4 1 rfl rfl t (by omega) (by decide) d_Fa_findHoles_16 ?_
    refine lv_if_eq (tgt := 45) hx hb d_Fa_findHoles_17 (by decide) (fun c17 => ?_) (fun c17 => ?_)
    · have c17 : us t = false := bI_0 c17
      refine lv_iinc (v := nI (t + 1)) (lv' := [(4, .int (nI (t + 1))), (0, .ref fa), (1, .ref pl), (2, .int (nI sh)), (3, .int (nI pa))]) hx hb d_Fa_findHoles_45 hl (k := 0) rfl (ga_inc t) (by decide) rfl (fun ls hl => ?_)
      refine lv_goto (tgt := 3) hx hb d_Fa_findHoles_48 (by decide) ?_
      exact ih (t + 1, td, kk) _ _ _ (by show (41 - (t + 1)) < (41 - t); omega) ⟨lv_sub hl [0, 1, 2, 3, 4] rfl, hP, hD, hS, ⟨by omega, by omega, by omega, by rw [show t + 1 - 1 = (t - 1) + 1 by omega, gp_hl, show t - 1 + 1 = t by omega, ← h4]; rw [if_neg (fun q => by first | exact c32 q.2 | (rw [c17] at q; exact absurd q.1 (by decide)))]⟩⟩
    · have c17 : us t = true := bI_1 c17
      refine lv_aload_n hx hb d_Fa_findHoles_20 rfl (lv_at hl 2 rfl) ?_
      refine ga_get S hK hP 2 rfl f_Fa_36 rfl d_Fa_findHoles_21 ?_
      refine lv_iload hx hb d_Fa_findHoles_24 (lv_at hl 0 rfl) ?_
      refine lv_iload_n hx hb d_Fa_findHoles_26 rfl (lv_at hl 4 rfl) ?_
      refine lv_iload_n hx hb d_Fa_findHoles_27 rfl (lv_at hl 3 rfl) ?_
      refine ga_cs (As := [.int (nI t), .int (nI pa), .int (nI sh)]) (rest := [.ref q1]) S hK hP s_Fa_39 (gc_SP_slot l D cI cZ cC cG t pa sh (by omega)) [] rfl rfl hl.1 rfl (Nat.le_of_ble_eq_true rfl) ⟨Nat.le_of_ble_eq_true rfl, Nat.le_of_ble_eq_true rfl⟩ ⟨Nat.le_of_ble_eq_true rfl, Nat.le_of_ble_eq_true rfl⟩ d_Fa_findHoles_28 (fun r hp28 => ?_)
      subst hp28
      have hsl := gp_sl_lt (t := t) (p := pa) (s := sh) (by omega) (by omega) (by omega) (by omega)
      refine ga_ild S hK hP 3 0 rfl rfl (gp_sl t pa sh) (by omega) (by decide) d_Fa_findHoles_31 ?_
      have hb1 := hbn (gp_sl t pa sh)
      refine lv_if_ne (tgt := 45) hx hb d_Fa_findHoles_32 (by decide) (fun c32 => ?_) (fun c32 => ?_)
      · have c32 : ¬ ((bn (gp_sl t pa sh)) = 0) := fun q => c32 ((nI_eq (a := (bn (gp_sl t pa sh))) (b := 0) (by omega) (by omega)).mpr q)
        refine lv_iinc (v := nI (t + 1)) (lv' := [(4, .int (nI (t + 1))), (0, .ref fa), (1, .ref pl), (2, .int (nI sh)), (3, .int (nI pa))]) hx hb d_Fa_findHoles_45 hl (k := 0) rfl (ga_inc t) (by decide) rfl (fun ls hl => ?_)
        refine lv_goto (tgt := 3) hx hb d_Fa_findHoles_48 (by decide) ?_
        exact ih (t + 1, td, kk) _ _ _ (by show (41 - (t + 1)) < (41 - t); omega) ⟨lv_sub hl [0, 1, 2, 3, 4] rfl, hP, hD, hS, ⟨by omega, by omega, by omega, by rw [show t + 1 - 1 = (t - 1) + 1 by omega, gp_hl, show t - 1 + 1 = t by omega, ← h4]; rw [if_neg (fun q => by first | exact c32 q.2 | (rw [c17] at q; exact absurd q.1 (by decide)))]⟩⟩
      · have c32 : (bn (gp_sl t pa sh)) = 0 := (nI_eq (a := (bn (gp_sl t pa sh))) (b := 0) (by omega) (by omega)).mp c32
        refine lv_aload_n hx hb d_Fa_findHoles_35 rfl (lv_at hl 1 rfl) ?_
        refine lv_iload_n hx hb d_Fa_findHoles_36 rfl (lv_at hl 3 rfl) ?_
        refine lv_iload_n hx hb d_Fa_findHoles_37 rfl (lv_at hl 4 rfl) ?_
        refine lv_iload hx hb d_Fa_findHoles_38 (lv_at hl 0 rfl) ?_
        refine lv_iconst (v := 0) hx hb d_Fa_findHoles_40 (by decide) ?_
        refine lv_iconst (v := 0) hx hb d_Fa_findHoles_41 (by decide) ?_
        refine ga_jv (wr := [(pl, .inr (1, [.ref q1, .ref q2, .ref q3, .ref q4, .ref q5, .ref q6, .ref q7, .ref q8, .ref q9, .int (nI rg)])), (q1, .inl (cI, 480, .inl (nA bn))), (q3, .inl (cZ, 41, .inl (zA us)))]) (ga_runV (As := [.int (nI sh), .int (nI pa), .int (nI t), .int 0, .int 0]) (rest := []) S hK s_Fa_43 (gc_Fa_add l D cI cZ cC cG fa fo kk sh pa t 0 0 td (by omega) _) (ga_prV (y := y_Fa_add) (q0 := 0) hK hP hD [0, 1] rfl (by decide) rfl rfl) rfl hl.1 rfl (Nat.le_of_ble_eq_true rfl) ⟨Nat.le_of_ble_eq_true rfl, Nat.le_of_ble_eq_true rfl⟩ ⟨Nat.le_of_ble_eq_true rfl, Nat.le_of_ble_eq_true rfl⟩ d_Fa_findHoles_42) hP hD hS hA [0, 1] [2, 3, 4] rfl rfl (by decide) (by decide) [3, 4, 0, 1, 2] (fun _ => [(fa, .inr (0, [.ref fo, .int (nI ((gp_add (td, kk) sh pa t 0 0).2))])), (fo, .inl (cI, 500, .inl (nA ((gp_add (td, kk) sh pa t 0 0).1)))), (pl, .inr (1, [.ref q1, .ref q2, .ref q3, .ref q4, .ref q5, .ref q6, .ref q7, .ref q8, .ref q9, .int (nI rg)])), (q1, .inl (cI, 480, .inl (nA bn))), (q3, .inl (cZ, 41, .inl (zA us)))]) (fun _ => rfl) (by decide) (fun x H locs hp42 hP hD hS => ?_)
        obtain ⟨⟨td2, kk2⟩, htd2⟩ : ∃ z, z = gp_add (td, kk) sh pa t 0 0 := ⟨_, rfl⟩
        rw [← htd2] at hP hD
        have hP : va_P D vwCl [(fa, .inr (0, [.ref fo, .int (nI kk2)])), (fo, .inl (cI, 500, .inl (nA td2))), (pl, .inr (1, [.ref q1, .ref q2, .ref q3, .ref q4, .ref q5, .ref q6, .ref q7, .ref q8, .ref q9, .int (nI rg)])), (q1, .inl (cI, 480, .inl (nA bn))), (q3, .inl (cZ, 41, .inl (zA us)))] H := hP
        have hD : va_D A [(fa, .inr (0, [.ref fo, .int (nI kk2)])), (fo, .inl (cI, 500, .inl (nA td2))), (pl, .inr (1, [.ref q1, .ref q2, .ref q3, .ref q4, .ref q5, .ref q6, .ref q7, .ref q8, .ref q9, .int (nI rg)])), (q1, .inl (cI, 480, .inl (nA bn))), (q3, .inl (cZ, 41, .inl (zA us)))] := hD
        have hktd2 : kk2 = kk + 1 := by have := gp_add_2 (td, kk) sh pa t 0 0; rw [← htd2] at this; exact this
        refine lv_iinc (v := nI (t + 1)) (lv' := [(4, .int (nI (t + 1))), (0, .ref fa), (1, .ref pl), (2, .int (nI sh)), (3, .int (nI pa))]) hx hb d_Fa_findHoles_45 hl (k := 0) rfl (ga_inc t) (by decide) rfl (fun ls hl => ?_)
        refine lv_goto (tgt := 3) hx hb d_Fa_findHoles_48 (by decide) ?_
        exact ih (t + 1, td2, kk2) _ _ _ (by show (41 - (t + 1)) < (41 - t); omega) ⟨lv_sub hl [0, 1, 2, 3, 4] rfl, hP, hD, hS, ⟨by omega, by omega, by omega, by rw [show t + 1 - 1 = (t - 1) + 1 by omega, gp_hl, show t - 1 + 1 = t by omega, ← h4]; rw [if_pos ⟨c17, c32⟩, htd2]⟩⟩
set_option maxHeartbeats 4000000 in
set_option maxRecDepth 100000 in
theorem gc_Fa_findDoublesOf (l : Launch) (D : va_G) (cI cZ cC cG : ClassId) (fa fo k : Nat) (told : Nat → Nat) (pl q1 q2 q3 q4 q5 q6 q7 q8 q9 : Nat) (rg sh pa : Nat) (hsh : sh < 3) (hpa : pa < 4) (bn : Nat → Nat) (shr us : Nat → Bool) (st0 : gp_F) (a : Nat) (h9 : 1 ≤ a) (h8 : a < 40) (hus : us a = true) (hz : bn (gp_sl a pa sh) ≠ 0) (hst : (told, k) = gp_db us bn shr sh pa st0 (40 * (a - 1))) (hbn : ∀ j, bn j ≤ 60) (hk : k < 2 ^ 29) : ga_Mv l y_Fa_findDoublesOf b_Fa_findDoublesOf 9 1 0 0 D (ga_T cI cZ cC cG) [.ref fa, .ref pl, .int (nI sh), .int (nI pa), .int (nI a), .int (nI (bn (gp_sl a pa sh)))] [(fa, .inr (0, [.ref fo, .int (nI k)])), (fo, .inl (cI, 500, .inl (nA told))), (pl, .inr (1, [.ref q1, .ref q2, .ref q3, .ref q4, .ref q5, .ref q6, .ref q7, .ref q8, .ref q9, .int (nI rg)])), (q1, .inl (cI, 480, .inl (nA bn))), (q2, .inl (cZ, 480, .inl (zA shr))), (q3, .inl (cZ, 41, .inl (zA us)))] (fun (x : gp_F) => [(fa, .inr (0, [.ref fo, .int (nI x.2)])), (fo, .inl (cI, 500, .inl (nA x.1))), (pl, .inr (1, [.ref q1, .ref q2, .ref q3, .ref q4, .ref q5, .ref q6, .ref q7, .ref q8, .ref q9, .int (nI rg)])), (q1, .inl (cI, 480, .inl (nA bn))), (q2, .inl (cZ, 480, .inl (zA shr))), (q3, .inl (cZ, 41, .inl (zA us)))]) (fun x => x = gp_db us bn shr sh pa st0 (40 * a)) := by
  refine ga_enV (by decide) (Nat.le_of_ble_eq_true rfl) ?_
  intro p e s m below meth c ls A S hrt hlk hnm hK hP hD hA hl
  have hS : va_S A s.heap s.heap [] := va_S.rf
  obtain ⟨hx, hb, hml, hown, hts⟩ := id S
  have hl : lv_has ls 9 [(0, .ref fa), (1, .ref pl), (2, .int (nI sh)), (3, .int (nI pa)), (4, .int (nI a)), (5, .int (nI (bn (gp_sl a pa sh))))] := hl
  refine lv_aload_n hx hb d_Fa_findDoublesOf_0 rfl (lv_at hl 1 rfl) ?_
  refine ga_get S hK hP 2 rfl f_Fa_51 rfl d_Fa_findDoublesOf_1 ?_
  refine lv_iload hx hb d_Fa_findDoublesOf_4 (lv_at hl 4 rfl) ?_
  refine lv_iload_n hx hb d_Fa_findDoublesOf_6 rfl (lv_at hl 3 rfl) ?_
  refine lv_iload_n hx hb d_Fa_findDoublesOf_7 rfl (lv_at hl 2 rfl) ?_
  refine ga_cs (As := [.int (nI a), .int (nI pa), .int (nI sh)]) (rest := [.ref q2]) S hK hP s_Fa_39 (gc_SP_slot l D cI cZ cC cG a pa sh (by omega)) [] rfl rfl hl.1 rfl (Nat.le_of_ble_eq_true rfl) ⟨Nat.le_of_ble_eq_true rfl, Nat.le_of_ble_eq_true rfl⟩ ⟨Nat.le_of_ble_eq_true rfl, Nat.le_of_ble_eq_true rfl⟩ d_Fa_findDoublesOf_8 (fun r hp8 => ?_)
  subst hp8
  have hsl := gp_sl_lt (t := a) (p := pa) (s := sh) (by omega) (by omega) (by omega) (by omega)
  have hsa := hbn (gp_sl a pa sh)
  refine ga_zld S hK hP 4 1 rfl rfl (gp_sl a pa sh) (by omega) (by decide) d_Fa_findDoublesOf_11 ?_
  refine lv_istore (lv' := [(6, .int (bI (shr (gp_sl a pa sh)))), (0, .ref fa), (1, .ref pl), (2, .int (nI sh)), (3, .int (nI pa)), (4, .int (nI a)), (5, .int (nI (bn (gp_sl a pa sh))))]) hx hb d_Fa_findDoublesOf_12 hl (by decide) rfl (fun ls hl => ?_)
  refine lv_iload hx hb d_Fa_findDoublesOf_14 (lv_at hl 5 rfl) ?_
  refine lv_iconst (v := 1) hx hb d_Fa_findDoublesOf_16 (by decide) ?_
  refine lv_iadd hx hb d_Fa_findDoublesOf_17 ?_
  refine ga_top (nI (a + 1)) (nI_add a 1) ?_
  refine lv_istore (lv' := [(7, .int (nI (a + 1))), (6, .int (bI (shr (gp_sl a pa sh)))), (0, .ref fa), (1, .ref pl), (2, .int (nI sh)), (3, .int (nI pa)), (4, .int (nI a)), (5, .int (nI (bn (gp_sl a pa sh))))]) hx hb d_Fa_findDoublesOf_18 hl (by decide) rfl (fun ls hl => ?_)
  refine ga_loop (α := Nat × (Nat → Nat) × Nat) (fun x => match x with | (o, td, kk) => 41 - o) (fun x ls H locs => match x with | (o, td, kk) => lv_has ls 9 [(7, .int (nI o)), (6, .int (bI (shr (gp_sl a pa sh)))), (0, .ref fa), (1, .ref pl), (2, .int (nI sh)), (3, .int (nI pa)), (4, .int (nI a)), (5, .int (nI (bn (gp_sl a pa sh))))] ∧ va_P D vwCl [(fa, .inr (0, [.ref fo, .int (nI kk)])), (fo, .inl (cI, 500, .inl (nA td))), (pl, .inr (1, [.ref q1, .ref q2, .ref q3, .ref q4, .ref q5, .ref q6, .ref q7, .ref q8, .ref q9, .int (nI rg)])), (q1, .inl (cI, 480, .inl (nA bn))), (q2, .inl (cZ, 480, .inl (zA shr))), (q3, .inl (cZ, 41, .inl (zA us)))] H ∧ va_D A [(fa, .inr (0, [.ref fo, .int (nI kk)])), (fo, .inl (cI, 500, .inl (nA td))), (pl, .inr (1, [.ref q1, .ref q2, .ref q3, .ref q4, .ref q5, .ref q6, .ref q7, .ref q8, .ref q9, .int (nI rg)])), (q1, .inl (cI, 480, .inl (nA bn))), (q2, .inl (cZ, 480, .inl (zA shr))), (q3, .inl (cZ, 41, .inl (zA us)))] ∧ va_S A s.heap H locs ∧ a + 1 ≤ o ∧ o ≤ 41 ∧ kk ≤ k + o ∧ (td, kk) = gp_db us bn shr sh pa st0 (40 * (a - 1) + (o - 1))) ?_ (a + 1, told, k) ⟨lv_sub hl [0, 1, 2, 3, 4, 5, 6, 7] rfl, hP, hD, hS, ⟨Nat.le_refl _, by omega, by omega, by rw [show a + 1 - 1 = a by omega, gp_db_skip h9 (by omega) (Nat.le_refl _)]; exact hst⟩⟩
  intro x ls H locs hI ih
  obtain ⟨o, td, kk⟩ := x
  obtain ⟨hl, hP, hD, hS, ⟨g1, g2, g3, g4⟩⟩ := hI
  have hl : lv_has ls 9 [(7, .int (nI o)), (6, .int (bI (shr (gp_sl a pa sh)))), (0, .ref fa), (1, .ref pl), (2, .int (nI sh)), (3, .int (nI pa)), (4, .int (nI a)), (5, .int (nI (bn (gp_sl a pa sh))))] := hl
  have hP : va_P D vwCl [(fa, .inr (0, [.ref fo, .int (nI kk)])), (fo, .inl (cI, 500, .inl (nA td))), (pl, .inr (1, [.ref q1, .ref q2, .ref q3, .ref q4, .ref q5, .ref q6, .ref q7, .ref q8, .ref q9, .int (nI rg)])), (q1, .inl (cI, 480, .inl (nA bn))), (q2, .inl (cZ, 480, .inl (zA shr))), (q3, .inl (cZ, 41, .inl (zA us)))] H := hP
  have hD : va_D A [(fa, .inr (0, [.ref fo, .int (nI kk)])), (fo, .inl (cI, 500, .inl (nA td))), (pl, .inr (1, [.ref q1, .ref q2, .ref q3, .ref q4, .ref q5, .ref q6, .ref q7, .ref q8, .ref q9, .int (nI rg)])), (q1, .inl (cI, 480, .inl (nA bn))), (q2, .inl (cZ, 480, .inl (zA shr))), (q3, .inl (cZ, 41, .inl (zA us)))] := hD
  refine lv_iload hx hb d_Fa_findDoublesOf_20 (lv_at hl 0 rfl) ?_
  refine lv_bipush (v := 40) hx hb d_Fa_findDoublesOf_22 (by decide) ?_
  refine lv_icmp_gt (tgt := 91) hx hb d_Fa_findDoublesOf_24 (by decide) (fun c24 => ?_) (fun c24 => ?_)
  · have c24 : 40 < o := (nI_ltI (a := 40) (b := o) (by omega) (by omega)).mp c24
    exact ga_wv (td, kk) S hrt hlk hP hD hS (by rw [g4, show 40 * (a - 1) + (o - 1) = 40 * a by omega]) d_Fa_findDoublesOf_91
  · have c24 : ¬ (40 < o) := fun q => c24 ((nI_ltI (a := 40) (b := o) (by omega) (by omega)).mpr q)
    refine lv_iload hx hb d_Fa_findDoublesOf_27 (lv_at hl 0 rfl) ?_
    refine lv_iload_n hx hb d_Fa_findDoublesOf_29 rfl (lv_at hl 5 rfl) ?_
    refine lv_iload_n hx hb d_Fa_findDoublesOf_30 rfl (lv_at hl 4 rfl) ?_
    refine ga_cs (As := [.int (nI o), .int (nI pa), .int (nI sh)]) (rest := []) S hK hP s_Fa_39 (gc_SP_slot l D cI cZ cC cG o pa sh (by omega)) [] rfl rfl hl.1 rfl (Nat.le_of_ble_eq_true rfl) ⟨Nat.le_of_ble_eq_true rfl, Nat.le_of_ble_eq_true rfl⟩ ⟨Nat.le_of_ble_eq_true rfl, Nat.le_of_ble_eq_true rfl⟩ d_Fa_findDoublesOf_31 (fun r hp31 => ?_)
    subst hp31
    have hsl := gp_sl_lt (t := o) (p := pa) (s := sh) (by omega) (by omega) (by omega) (by omega)
    refine lv_istore (lv' := [(8, .int (nI (gp_sl o pa sh))), (7, .int (nI o)), (6, .int (bI (shr (gp_sl a pa sh)))), (0, .ref fa), (1, .ref pl), (2, .int (nI sh)), (3, .int (nI pa)), (4, .int (nI a)), (5, .int (nI (bn (gp_sl a pa sh))))]) hx hb d_Fa_findDoublesOf_34 hl (by decide) rfl (fun ls hl => ?_)
    refine lv_aload_n hx hb d_Fa_findDoublesOf_36 rfl (lv_at hl 4 rfl) ?_
    refine ga_get S hK hP 2 rfl f_Fa_32 rfl d_Fa_findDoublesOf_37 ?_
    refine lv_iload hx hb d_Fa_findDoublesOf_40 (lv_at hl 1 rfl) ?_
    refine ga_zld S hK hP 5 1 rfl rfl o (by omega) (by decide) d_Fa_findDoublesOf_42 ?_
    refine lv_if_eq (tgt := 85) hx hb d_Fa_findDoublesOf_43 (by decide) (fun c43 => ?_) (fun c43 => ?_)
    · have c43 : us o = false := bI_0 c43
      refine lv_iinc (v := nI (o + 1)) (lv' := [(7, .int (nI (o + 1))), (8, .int (nI (gp_sl o pa sh))), (6, .int (bI (shr (gp_sl a pa sh)))), (0, .ref fa), (1, .ref pl), (2, .int (nI sh)), (3, .int (nI pa)), (4, .int (nI a)), (5, .int (nI (bn (gp_sl a pa sh))))]) hx hb d_Fa_findDoublesOf_85 hl (k := 1) rfl (ga_inc o) (by decide) rfl (fun ls hl => ?_)
      refine lv_goto (tgt := 20) hx hb d_Fa_findDoublesOf_88 (by decide) ?_
      exact ih (o + 1, td, kk) _ _ _ (by show (41 - (o + 1)) < (41 - o); omega) ⟨lv_sub hl [0, 2, 3, 4, 5, 6, 7, 8] rfl, hP, hD, hS, ⟨by omega, by omega, by omega, by rw [show 40 * (a - 1) + (o + 1 - 1) = 40 * (a - 1) + (o - 1) + 1 by omega, gp_db_step h9 (by omega) (by omega), ← g4]; rw [if_neg (fun q => by first | exact c55 q.2.2.1.symm | exact q.2.2.2.1 ⟨c60, c70⟩ | (have := q.2.2.2.2.2; rw [c43] at this; exact absurd this (by decide)))]⟩⟩
    · have c43 : us o = true := bI_1 c43
      refine lv_aload_n hx hb d_Fa_findDoublesOf_46 rfl (lv_at hl 4 rfl) ?_
      refine ga_get S hK hP 2 rfl f_Fa_36 rfl d_Fa_findDoublesOf_47 ?_
      refine lv_iload hx hb d_Fa_findDoublesOf_50 (lv_at hl 0 rfl) ?_
      refine ga_ild S hK hP 3 0 rfl rfl (gp_sl o pa sh) (by omega) (by decide) d_Fa_findDoublesOf_52 ?_
      have hb1 := hbn (gp_sl o pa sh)
      refine lv_iload hx hb d_Fa_findDoublesOf_53 (lv_at hl 8 rfl) ?_
      refine lv_icmp_ne (tgt := 85) hx hb d_Fa_findDoublesOf_55 (by decide) (fun c55 => ?_) (fun c55 => ?_)
      · have c55 : ¬ ((bn (gp_sl o pa sh)) = (bn (gp_sl a pa sh))) := fun q => c55 ((nI_eq (a := (bn (gp_sl o pa sh))) (b := (bn (gp_sl a pa sh))) (by omega) (by omega)).mpr q)
        refine lv_iinc (v := nI (o + 1)) (lv' := [(7, .int (nI (o + 1))), (8, .int (nI (gp_sl o pa sh))), (6, .int (bI (shr (gp_sl a pa sh)))), (0, .ref fa), (1, .ref pl), (2, .int (nI sh)), (3, .int (nI pa)), (4, .int (nI a)), (5, .int (nI (bn (gp_sl a pa sh))))]) hx hb d_Fa_findDoublesOf_85 hl (k := 1) rfl (ga_inc o) (by decide) rfl (fun ls hl => ?_)
        refine lv_goto (tgt := 20) hx hb d_Fa_findDoublesOf_88 (by decide) ?_
        exact ih (o + 1, td, kk) _ _ _ (by show (41 - (o + 1)) < (41 - o); omega) ⟨lv_sub hl [0, 2, 3, 4, 5, 6, 7, 8] rfl, hP, hD, hS, ⟨by omega, by omega, by omega, by rw [show 40 * (a - 1) + (o + 1 - 1) = 40 * (a - 1) + (o - 1) + 1 by omega, gp_db_step h9 (by omega) (by omega), ← g4]; rw [if_neg (fun q => by first | exact c55 q.2.2.1.symm | exact q.2.2.2.1 ⟨c60, c70⟩ | (have := q.2.2.2.2.2; rw [c43] at this; exact absurd this (by decide)))]⟩⟩
      · have c55 : (bn (gp_sl o pa sh)) = (bn (gp_sl a pa sh)) := (nI_eq (a := (bn (gp_sl o pa sh))) (b := (bn (gp_sl a pa sh))) (by omega) (by omega)).mp c55
        refine lv_iload hx hb d_Fa_findDoublesOf_58 (lv_at hl 2 rfl) ?_
        refine lv_if_eq (tgt := 73) hx hb d_Fa_findDoublesOf_60 (by decide) (fun c60 => ?_) (fun c60 => ?_)
        · have c60 : shr (gp_sl a pa sh) = false := bI_0 c60
          refine lv_aload_n hx hb d_Fa_findDoublesOf_73 rfl (lv_at hl 3 rfl) ?_
          refine lv_iload_n hx hb d_Fa_findDoublesOf_74 rfl (lv_at hl 5 rfl) ?_
          refine lv_iload_n hx hb d_Fa_findDoublesOf_75 rfl (lv_at hl 6 rfl) ?_
          refine lv_iload hx hb d_Fa_findDoublesOf_76 (lv_at hl 7 rfl) ?_
          refine lv_iload hx hb d_Fa_findDoublesOf_78 (lv_at hl 1 rfl) ?_
          refine lv_iload hx hb d_Fa_findDoublesOf_80 (lv_at hl 8 rfl) ?_
          refine ga_jv (wr := [(pl, .inr (1, [.ref q1, .ref q2, .ref q3, .ref q4, .ref q5, .ref q6, .ref q7, .ref q8, .ref q9, .int (nI rg)])), (q1, .inl (cI, 480, .inl (nA bn))), (q2, .inl (cZ, 480, .inl (zA shr))), (q3, .inl (cZ, 41, .inl (zA us)))]) (ga_runV (As := [.int (nI sh), .int (nI pa), .int (nI a), .int (nI o), .int (nI (bn (gp_sl a pa sh)))]) (rest := []) S hK s_Fa_43 (gc_Fa_add l D cI cZ cC cG fa fo kk sh pa a o (bn (gp_sl a pa sh)) td (by omega) _) (ga_prV (y := y_Fa_add) (q0 := 0) hK hP hD [0, 1] rfl (by decide) rfl rfl) rfl hl.1 rfl (Nat.le_of_ble_eq_true rfl) ⟨Nat.le_of_ble_eq_true rfl, Nat.le_of_ble_eq_true rfl⟩ ⟨Nat.le_of_ble_eq_true rfl, Nat.le_of_ble_eq_true rfl⟩ d_Fa_findDoublesOf_82) hP hD hS hA [0, 1] [2, 3, 4, 5] rfl rfl (by decide) (by decide) [4, 5, 0, 1, 2, 3] (fun _ => [(fa, .inr (0, [.ref fo, .int (nI ((gp_add (td, kk) sh pa a o (bn (gp_sl a pa sh))).2))])), (fo, .inl (cI, 500, .inl (nA ((gp_add (td, kk) sh pa a o (bn (gp_sl a pa sh))).1)))), (pl, .inr (1, [.ref q1, .ref q2, .ref q3, .ref q4, .ref q5, .ref q6, .ref q7, .ref q8, .ref q9, .int (nI rg)])), (q1, .inl (cI, 480, .inl (nA bn))), (q2, .inl (cZ, 480, .inl (zA shr))), (q3, .inl (cZ, 41, .inl (zA us)))]) (fun _ => rfl) (by decide) (fun x H locs hp82 hP hD hS => ?_)
          obtain ⟨⟨td2, kk2⟩, htd2⟩ : ∃ z, z = gp_add (td, kk) sh pa a o (bn (gp_sl a pa sh)) := ⟨_, rfl⟩
          rw [← htd2] at hP hD
          have hP : va_P D vwCl [(fa, .inr (0, [.ref fo, .int (nI kk2)])), (fo, .inl (cI, 500, .inl (nA td2))), (pl, .inr (1, [.ref q1, .ref q2, .ref q3, .ref q4, .ref q5, .ref q6, .ref q7, .ref q8, .ref q9, .int (nI rg)])), (q1, .inl (cI, 480, .inl (nA bn))), (q2, .inl (cZ, 480, .inl (zA shr))), (q3, .inl (cZ, 41, .inl (zA us)))] H := hP
          have hD : va_D A [(fa, .inr (0, [.ref fo, .int (nI kk2)])), (fo, .inl (cI, 500, .inl (nA td2))), (pl, .inr (1, [.ref q1, .ref q2, .ref q3, .ref q4, .ref q5, .ref q6, .ref q7, .ref q8, .ref q9, .int (nI rg)])), (q1, .inl (cI, 480, .inl (nA bn))), (q2, .inl (cZ, 480, .inl (zA shr))), (q3, .inl (cZ, 41, .inl (zA us)))] := hD
          have hktd2 : kk2 = kk + 1 := by have := gp_add_2 (td, kk) sh pa a o (bn (gp_sl a pa sh)); rw [← htd2] at this; exact this
          refine lv_iinc (v := nI (o + 1)) (lv' := [(7, .int (nI (o + 1))), (8, .int (nI (gp_sl o pa sh))), (6, .int (bI (shr (gp_sl a pa sh)))), (0, .ref fa), (1, .ref pl), (2, .int (nI sh)), (3, .int (nI pa)), (4, .int (nI a)), (5, .int (nI (bn (gp_sl a pa sh))))]) hx hb d_Fa_findDoublesOf_85 hl (k := 1) rfl (ga_inc o) (by decide) rfl (fun ls hl => ?_)
          refine lv_goto (tgt := 20) hx hb d_Fa_findDoublesOf_88 (by decide) ?_
          exact ih (o + 1, td2, kk2) _ _ _ (by show (41 - (o + 1)) < (41 - o); omega) ⟨lv_sub hl [0, 2, 3, 4, 5, 6, 7, 8] rfl, hP, hD, hS, ⟨by omega, by omega, by omega, by rw [show 40 * (a - 1) + (o + 1 - 1) = 40 * (a - 1) + (o - 1) + 1 by omega, gp_db_step h9 (by omega) (by omega), ← g4]; rw [if_pos ⟨by omega, hz, c55.symm, (fun q => by first | (rw [c60] at q; exact absurd q.1 (by decide)) | (rw [c70] at q; exact absurd q.2 (by decide))), hus, c43⟩, htd2]⟩⟩
        · have c60 : shr (gp_sl a pa sh) = true := bI_1 c60
          refine lv_aload_n hx hb d_Fa_findDoublesOf_63 rfl (lv_at hl 4 rfl) ?_
          refine ga_get S hK hP 2 rfl f_Fa_51 rfl d_Fa_findDoublesOf_64 ?_
          refine lv_iload hx hb d_Fa_findDoublesOf_67 (lv_at hl 0 rfl) ?_
          refine ga_zld S hK hP 4 1 rfl rfl (gp_sl o pa sh) (by omega) (by decide) d_Fa_findDoublesOf_69 ?_
          refine lv_if_ne (tgt := 85) hx hb d_Fa_findDoublesOf_70 (by decide) (fun c70 => ?_) (fun c70 => ?_)
          · have c70 : shr (gp_sl o pa sh) = true := bI_1 c70
            refine lv_iinc (v := nI (o + 1)) (lv' := [(7, .int (nI (o + 1))), (8, .int (nI (gp_sl o pa sh))), (6, .int (bI (shr (gp_sl a pa sh)))), (0, .ref fa), (1, .ref pl), (2, .int (nI sh)), (3, .int (nI pa)), (4, .int (nI a)), (5, .int (nI (bn (gp_sl a pa sh))))]) hx hb d_Fa_findDoublesOf_85 hl (k := 1) rfl (ga_inc o) (by decide) rfl (fun ls hl => ?_)
            refine lv_goto (tgt := 20) hx hb d_Fa_findDoublesOf_88 (by decide) ?_
            exact ih (o + 1, td, kk) _ _ _ (by show (41 - (o + 1)) < (41 - o); omega) ⟨lv_sub hl [0, 2, 3, 4, 5, 6, 7, 8] rfl, hP, hD, hS, ⟨by omega, by omega, by omega, by rw [show 40 * (a - 1) + (o + 1 - 1) = 40 * (a - 1) + (o - 1) + 1 by omega, gp_db_step h9 (by omega) (by omega), ← g4]; rw [if_neg (fun q => by first | exact c55 q.2.2.1.symm | exact q.2.2.2.1 ⟨c60, c70⟩ | (have := q.2.2.2.2.2; rw [c43] at this; exact absurd this (by decide)))]⟩⟩
          · have c70 : shr (gp_sl o pa sh) = false := bI_0 c70
            refine lv_aload_n hx hb d_Fa_findDoublesOf_73 rfl (lv_at hl 3 rfl) ?_
            refine lv_iload_n hx hb d_Fa_findDoublesOf_74 rfl (lv_at hl 5 rfl) ?_
            refine lv_iload_n hx hb d_Fa_findDoublesOf_75 rfl (lv_at hl 6 rfl) ?_
            refine lv_iload hx hb d_Fa_findDoublesOf_76 (lv_at hl 7 rfl) ?_
            refine lv_iload hx hb d_Fa_findDoublesOf_78 (lv_at hl 1 rfl) ?_
            refine lv_iload hx hb d_Fa_findDoublesOf_80 (lv_at hl 8 rfl) ?_
            refine ga_jv (wr := [(pl, .inr (1, [.ref q1, .ref q2, .ref q3, .ref q4, .ref q5, .ref q6, .ref q7, .ref q8, .ref q9, .int (nI rg)])), (q1, .inl (cI, 480, .inl (nA bn))), (q2, .inl (cZ, 480, .inl (zA shr))), (q3, .inl (cZ, 41, .inl (zA us)))]) (ga_runV (As := [.int (nI sh), .int (nI pa), .int (nI a), .int (nI o), .int (nI (bn (gp_sl a pa sh)))]) (rest := []) S hK s_Fa_43 (gc_Fa_add l D cI cZ cC cG fa fo kk sh pa a o (bn (gp_sl a pa sh)) td (by omega) _) (ga_prV (y := y_Fa_add) (q0 := 0) hK hP hD [0, 1] rfl (by decide) rfl rfl) rfl hl.1 rfl (Nat.le_of_ble_eq_true rfl) ⟨Nat.le_of_ble_eq_true rfl, Nat.le_of_ble_eq_true rfl⟩ ⟨Nat.le_of_ble_eq_true rfl, Nat.le_of_ble_eq_true rfl⟩ d_Fa_findDoublesOf_82) hP hD hS hA [0, 1] [2, 3, 4, 5] rfl rfl (by decide) (by decide) [4, 5, 0, 1, 2, 3] (fun _ => [(fa, .inr (0, [.ref fo, .int (nI ((gp_add (td, kk) sh pa a o (bn (gp_sl a pa sh))).2))])), (fo, .inl (cI, 500, .inl (nA ((gp_add (td, kk) sh pa a o (bn (gp_sl a pa sh))).1)))), (pl, .inr (1, [.ref q1, .ref q2, .ref q3, .ref q4, .ref q5, .ref q6, .ref q7, .ref q8, .ref q9, .int (nI rg)])), (q1, .inl (cI, 480, .inl (nA bn))), (q2, .inl (cZ, 480, .inl (zA shr))), (q3, .inl (cZ, 41, .inl (zA us)))]) (fun _ => rfl) (by decide) (fun x H locs hp82 hP hD hS => ?_)
            obtain ⟨⟨td3, kk3⟩, htd3⟩ : ∃ z, z = gp_add (td, kk) sh pa a o (bn (gp_sl a pa sh)) := ⟨_, rfl⟩
            rw [← htd3] at hP hD
            have hP : va_P D vwCl [(fa, .inr (0, [.ref fo, .int (nI kk3)])), (fo, .inl (cI, 500, .inl (nA td3))), (pl, .inr (1, [.ref q1, .ref q2, .ref q3, .ref q4, .ref q5, .ref q6, .ref q7, .ref q8, .ref q9, .int (nI rg)])), (q1, .inl (cI, 480, .inl (nA bn))), (q2, .inl (cZ, 480, .inl (zA shr))), (q3, .inl (cZ, 41, .inl (zA us)))] H := hP
            have hD : va_D A [(fa, .inr (0, [.ref fo, .int (nI kk3)])), (fo, .inl (cI, 500, .inl (nA td3))), (pl, .inr (1, [.ref q1, .ref q2, .ref q3, .ref q4, .ref q5, .ref q6, .ref q7, .ref q8, .ref q9, .int (nI rg)])), (q1, .inl (cI, 480, .inl (nA bn))), (q2, .inl (cZ, 480, .inl (zA shr))), (q3, .inl (cZ, 41, .inl (zA us)))] := hD
            have hktd3 : kk3 = kk + 1 := by have := gp_add_2 (td, kk) sh pa a o (bn (gp_sl a pa sh)); rw [← htd3] at this; exact this
            refine lv_iinc (v := nI (o + 1)) (lv' := [(7, .int (nI (o + 1))), (8, .int (nI (gp_sl o pa sh))), (6, .int (bI (shr (gp_sl a pa sh)))), (0, .ref fa), (1, .ref pl), (2, .int (nI sh)), (3, .int (nI pa)), (4, .int (nI a)), (5, .int (nI (bn (gp_sl a pa sh))))]) hx hb d_Fa_findDoublesOf_85 hl (k := 1) rfl (ga_inc o) (by decide) rfl (fun ls hl => ?_)
            refine lv_goto (tgt := 20) hx hb d_Fa_findDoublesOf_88 (by decide) ?_
            exact ih (o + 1, td3, kk3) _ _ _ (by show (41 - (o + 1)) < (41 - o); omega) ⟨lv_sub hl [0, 2, 3, 4, 5, 6, 7, 8] rfl, hP, hD, hS, ⟨by omega, by omega, by omega, by rw [show 40 * (a - 1) + (o + 1 - 1) = 40 * (a - 1) + (o - 1) + 1 by omega, gp_db_step h9 (by omega) (by omega), ← g4]; rw [if_pos ⟨by omega, hz, c55.symm, (fun q => by first | (rw [c60] at q; exact absurd q.1 (by decide)) | (rw [c70] at q; exact absurd q.2 (by decide))), hus, c43⟩, htd3]⟩⟩
end
section
set_option maxHeartbeats 4000000 in
set_option maxRecDepth 100000 in
theorem gc_Fa_findDoubles (l : Launch) (D : va_G) (cI cZ cC cG : ClassId) (fa fo k : Nat) (told : Nat → Nat) (pl q1 q2 q3 q4 q5 q6 q7 q8 q9 : Nat) (rg sh pa : Nat) (hsh : sh < 3) (hpa : pa < 4) (bn : Nat → Nat) (shr us : Nat → Bool) (hbn : ∀ j, bn j ≤ 60) (hk : k < 2 ^ 28) : ga_Mv l y_Fa_findDoubles b_Fa_findDoubles 6 2 0 0 D (ga_T cI cZ cC cG) [.ref fa, .ref pl, .int (nI sh), .int (nI pa)] [(fa, .inr (0, [.ref fo, .int (nI k)])), (fo, .inl (cI, 500, .inl (nA told))), (pl, .inr (1, [.ref q1, .ref q2, .ref q3, .ref q4, .ref q5, .ref q6, .ref q7, .ref q8, .ref q9, .int (nI rg)])), (q1, .inl (cI, 480, .inl (nA bn))), (q2, .inl (cZ, 480, .inl (zA shr))), (q3, .inl (cZ, 41, .inl (zA us)))] (fun (x : gp_F) => [(fa, .inr (0, [.ref fo, .int (nI x.2)])), (fo, .inl (cI, 500, .inl (nA x.1))), (pl, .inr (1, [.ref q1, .ref q2, .ref q3, .ref q4, .ref q5, .ref q6, .ref q7, .ref q8, .ref q9, .int (nI rg)])), (q1, .inl (cI, 480, .inl (nA bn))), (q2, .inl (cZ, 480, .inl (zA shr))), (q3, .inl (cZ, 41, .inl (zA us)))]) (fun x => x = gp_db us bn shr sh pa (told, k) 1600) := by
  refine ga_enV (by decide) (Nat.le_of_ble_eq_true rfl) ?_
  intro p e s m below meth c ls A S hrt hlk hnm hK hP hD hA hl
  have hS : va_S A s.heap s.heap [] := va_S.rf
  obtain ⟨hx, hb, hml, hown, hts⟩ := id S
  have hl : lv_has ls 6 [(0, .ref fa), (1, .ref pl), (2, .int (nI sh)), (3, .int (nI pa))] := hl
  obtain ⟨st0, hst0⟩ : ∃ z, (told, k) = z := ⟨_, rfl⟩
  have hst2 : st0.2 < 2 ^ 28 := by rw [← hst0]; exact hk
  refine lv_iconst (v := 1) hx hb d_Fa_findDoubles_0 (by decide) ?_
  refine lv_istore (lv' := [(4, .int 1), (0, .ref fa), (1, .ref pl), (2, .int (nI sh)), (3, .int (nI pa))]) hx hb d_Fa_findDoubles_1 hl (by decide) rfl (fun ls hl => ?_)
  refine ga_loop (α := Nat × (Nat → Nat) × Nat) (fun x => match x with | (a, td, kk) => 41 - a) (fun x ls H locs => match x with | (a, td, kk) => lv_has ls 6 [(4, .int (nI a)), (0, .ref fa), (1, .ref pl), (2, .int (nI sh)), (3, .int (nI pa))] ∧ va_P D vwCl [(fa, .inr (0, [.ref fo, .int (nI kk)])), (fo, .inl (cI, 500, .inl (nA td))), (pl, .inr (1, [.ref q1, .ref q2, .ref q3, .ref q4, .ref q5, .ref q6, .ref q7, .ref q8, .ref q9, .int (nI rg)])), (q1, .inl (cI, 480, .inl (nA bn))), (q2, .inl (cZ, 480, .inl (zA shr))), (q3, .inl (cZ, 41, .inl (zA us)))] H ∧ va_D A [(fa, .inr (0, [.ref fo, .int (nI kk)])), (fo, .inl (cI, 500, .inl (nA td))), (pl, .inr (1, [.ref q1, .ref q2, .ref q3, .ref q4, .ref q5, .ref q6, .ref q7, .ref q8, .ref q9, .int (nI rg)])), (q1, .inl (cI, 480, .inl (nA bn))), (q2, .inl (cZ, 480, .inl (zA shr))), (q3, .inl (cZ, 41, .inl (zA us)))] ∧ va_S A s.heap H locs ∧ 1 ≤ a ∧ a ≤ 40 ∧ kk ≤ st0.2 + 40 * a ∧ (td, kk) = gp_db us bn shr sh pa st0 (40 * (a - 1))) ?_ (1, told, k) ⟨lv_sub hl [0, 1, 2, 3, 4] rfl, hP, hD, hS, ⟨by decide, by decide, by rw [← hst0]; simp only; omega, by rw [← hst0]; rfl⟩⟩
  intro x ls H locs hI ih
  obtain ⟨a, td, kk⟩ := x
  obtain ⟨hl, hP, hD, hS, ⟨g1, g2, g3, g4⟩⟩ := hI
  have hl : lv_has ls 6 [(4, .int (nI a)), (0, .ref fa), (1, .ref pl), (2, .int (nI sh)), (3, .int (nI pa))] := hl
  have hP : va_P D vwCl [(fa, .inr (0, [.ref fo, .int (nI kk)])), (fo, .inl (cI, 500, .inl (nA td))), (pl, .inr (1, [.ref q1, .ref q2, .ref q3, .ref q4, .ref q5, .ref q6, .ref q7, .ref q8, .ref q9, .int (nI rg)])), (q1, .inl (cI, 480, .inl (nA bn))), (q2, .inl (cZ, 480, .inl (zA shr))), (q3, .inl (cZ, 41, .inl (zA us)))] H := hP
  have hD : va_D A [(fa, .inr (0, [.ref fo, .int (nI kk)])), (fo, .inl (cI, 500, .inl (nA td))), (pl, .inr (1, [.ref q1, .ref q2, .ref q3, .ref q4, .ref q5, .ref q6, .ref q7, .ref q8, .ref q9, .int (nI rg)])), (q1, .inl (cI, 480, .inl (nA bn))), (q2, .inl (cZ, 480, .inl (zA shr))), (q3, .inl (cZ, 41, .inl (zA us)))] := hD
  refine lv_iload hx hb d_Fa_findDoubles_3 (lv_at hl 0 rfl) ?_
  refine lv_bipush (v := 40) hx hb d_Fa_findDoubles_5 (by decide) ?_
  refine lv_icmp_ge (tgt := 56) hx hb d_Fa_findDoubles_7 (by decide) (fun c7 => ?_) (fun c7 => ?_)
  · have c7 : 40 ≤ a := (nI_leI (a := 40) (b := a) (by omega) (by omega)).mp c7
    exact ga_wv (td, kk) S hrt hlk hP hD hS (by rw [hst0, g4, ← gp_db_skip (j := 40) (by omega) (by omega) (by omega), show 40 * (a - 1) + 40 = 1600 by omega]) d_Fa_findDoubles_56
  · have c7 : ¬ (40 ≤ a) := fun q => c7 ((nI_leI (a := 40) (b := a) (by omega) (by omega)).mpr q)
    refine lv_aload_n hx hb d_Fa_findDoubles_10 rfl (lv_at hl 2 rfl) ?_
    refine ga_get S hK hP 2 rfl f_Fa_36 rfl d_Fa_findDoubles_11 ?_
    refine lv_iload hx hb d_Fa_findDoubles_14 (lv_at hl 0 rfl) ?_
    refine lv_iload_n hx hb d_Fa_findDoubles_16 rfl (lv_at hl 4 rfl) ?_
    refine lv_iload_n hx hb d_Fa_findDoubles_17 rfl (lv_at hl 3 rfl) ?_
    refine ga_cs (As := [.int (nI a), .int (nI pa), .int (nI sh)]) (rest := [.ref q1]) S hK hP s_Fa_39 (gc_SP_slot l D cI cZ cC cG a pa sh (by omega)) [] rfl rfl hl.1 rfl (Nat.le_of_ble_eq_true rfl) ⟨Nat.le_of_ble_eq_true rfl, Nat.le_of_ble_eq_true rfl⟩ ⟨Nat.le_of_ble_eq_true rfl, Nat.le_of_ble_eq_true rfl⟩ d_Fa_findDoubles_18 (fun r hp18 => ?_)
    subst hp18
    have hsl := gp_sl_lt (t := a) (p := pa) (s := sh) (by omega) (by omega) (by omega) (by omega)
    refine ga_ild S hK hP 3 0 rfl rfl (gp_sl a pa sh) (by omega) (by decide) d_Fa_findDoubles_21 ?_
    have hb1 := hbn (gp_sl a pa sh)
    refine lv_istore (lv' := [(5, .int (nI (bn (gp_sl a pa sh)))), (4, .int (nI a)), (0, .ref fa), (1, .ref pl), (2, .int (nI sh)), (3, .int (nI pa))]) hx hb d_Fa_findDoubles_22 hl (by decide) rfl (fun ls hl => ?_)
    refine lv_aload_n hx hb d_Fa_findDoubles_24 rfl (lv_at hl 3 rfl) ?_
    refine ga_get S hK hP 2 rfl f_Fa_32 rfl d_Fa_findDoubles_25 ?_
    refine lv_iload hx hb d_Fa_findDoubles_28 (lv_at hl 1 rfl) ?_
    refine ga_zld S hK hP 5 1 rfl rfl a (by omega) (by decide) d_Fa_findDoubles_30 ?_
    refine lv_if_eq (tgt := 50) hx hb d_Fa_findDoubles_31 (by decide) (fun c31 => ?_) (fun c31 => ?_)
    · have c31 : us a = false := bI_0 c31
      refine lv_iinc (v := nI (a + 1)) (lv' := [(4, .int (nI (a + 1))), (5, .int (nI (bn (gp_sl a pa sh)))), (0, .ref fa), (1, .ref pl), (2, .int (nI sh)), (3, .int (nI pa))]) hx hb d_Fa_findDoubles_50 hl (k := 1) rfl (ga_inc a) (by decide) rfl (fun ls hl => ?_)
      refine lv_goto (tgt := 3) hx hb d_Fa_findDoubles_53 (by decide) ?_
      exact ih (a + 1, td, kk) _ _ _ (by show (41 - (a + 1)) < (41 - a); omega) ⟨lv_sub hl [0, 2, 3, 4, 5] rfl, hP, hD, hS, ⟨by omega, by omega, by omega, by rw [show 40 * (a + 1 - 1) = 40 * a by omega]; rw [gp_db_skipA g1 (by first | exact Or.inl c31 | exact Or.inr c36)]; exact g4⟩⟩
    · have c31 : us a = true := bI_1 c31
      refine lv_iload hx hb d_Fa_findDoubles_34 (lv_at hl 0 rfl) ?_
      refine lv_if_eq (tgt := 50) hx hb d_Fa_findDoubles_36 (by decide) (fun c36 => ?_) (fun c36 => ?_)
      · have c36 : (bn (gp_sl a pa sh)) = 0 := (nI_eq (a := (bn (gp_sl a pa sh))) (b := 0) (by omega) (by omega)).mp c36
        refine lv_iinc (v := nI (a + 1)) (lv' := [(4, .int (nI (a + 1))), (5, .int (nI (bn (gp_sl a pa sh)))), (0, .ref fa), (1, .ref pl), (2, .int (nI sh)), (3, .int (nI pa))]) hx hb d_Fa_findDoubles_50 hl (k := 1) rfl (ga_inc a) (by decide) rfl (fun ls hl => ?_)
        refine lv_goto (tgt := 3) hx hb d_Fa_findDoubles_53 (by decide) ?_
        exact ih (a + 1, td, kk) _ _ _ (by show (41 - (a + 1)) < (41 - a); omega) ⟨lv_sub hl [0, 2, 3, 4, 5] rfl, hP, hD, hS, ⟨by omega, by omega, by omega, by rw [show 40 * (a + 1 - 1) = 40 * a by omega]; rw [gp_db_skipA g1 (by first | exact Or.inl c31 | exact Or.inr c36)]; exact g4⟩⟩
      · have c36 : ¬ ((bn (gp_sl a pa sh)) = 0) := fun q => c36 ((nI_eq (a := (bn (gp_sl a pa sh))) (b := 0) (by omega) (by omega)).mpr q)
        refine lv_aload_n hx hb d_Fa_findDoubles_39 rfl (lv_at hl 2 rfl) ?_
        refine lv_aload_n hx hb d_Fa_findDoubles_40 rfl (lv_at hl 3 rfl) ?_
        refine lv_iload_n hx hb d_Fa_findDoubles_41 rfl (lv_at hl 4 rfl) ?_
        refine lv_iload_n hx hb d_Fa_findDoubles_42 rfl (lv_at hl 5 rfl) ?_
        refine lv_iload hx hb d_Fa_findDoubles_43 (lv_at hl 1 rfl) ?_
        refine lv_iload hx hb d_Fa_findDoubles_45 (lv_at hl 0 rfl) ?_
        refine ga_jv (wr := []) (ga_runV (As := [.ref pl, .int (nI sh), .int (nI pa), .int (nI a), .int (nI (bn (gp_sl a pa sh)))]) (rest := []) S hK s_Fa_47 (gc_Fa_findDoublesOf l D cI cZ cC cG fa fo kk td pl q1 q2 q3 q4 q5 q6 q7 q8 q9 rg sh pa (by omega) (by omega) bn shr us st0 a (by omega) (by omega) c31 c36 g4 hbn (by omega) _) (ga_prV (y := y_Fa_findDoublesOf) (q0 := 0) hK hP hD [0, 1, 2, 3, 4, 5] rfl (by decide) rfl rfl) rfl hl.1 rfl (Nat.le_of_ble_eq_true rfl) ⟨Nat.le_of_ble_eq_true rfl, Nat.le_of_ble_eq_true rfl⟩ ⟨Nat.le_of_ble_eq_true rfl, Nat.le_of_ble_eq_true rfl⟩ d_Fa_findDoubles_47) hP hD hS hA [0, 1, 2, 3, 4, 5] [] rfl rfl (by decide) (by decide) [0, 1, 2, 3, 4, 5] (fun (x : gp_F) => [(fa, .inr (0, [.ref fo, .int (nI x.2)])), (fo, .inl (cI, 500, .inl (nA x.1))), (pl, .inr (1, [.ref q1, .ref q2, .ref q3, .ref q4, .ref q5, .ref q6, .ref q7, .ref q8, .ref q9, .int (nI rg)])), (q1, .inl (cI, 480, .inl (nA bn))), (q2, .inl (cZ, 480, .inl (zA shr))), (q3, .inl (cZ, 41, .inl (zA us)))]) (fun _ => rfl) (by decide) (fun x H locs hp47 hP hD hS => ?_)
        obtain ⟨td2, kk2⟩ := x
        have hP : va_P D vwCl [(fa, .inr (0, [.ref fo, .int (nI kk2)])), (fo, .inl (cI, 500, .inl (nA td2))), (pl, .inr (1, [.ref q1, .ref q2, .ref q3, .ref q4, .ref q5, .ref q6, .ref q7, .ref q8, .ref q9, .int (nI rg)])), (q1, .inl (cI, 480, .inl (nA bn))), (q2, .inl (cZ, 480, .inl (zA shr))), (q3, .inl (cZ, 41, .inl (zA us)))] H := hP
        have hD : va_D A [(fa, .inr (0, [.ref fo, .int (nI kk2)])), (fo, .inl (cI, 500, .inl (nA td2))), (pl, .inr (1, [.ref q1, .ref q2, .ref q3, .ref q4, .ref q5, .ref q6, .ref q7, .ref q8, .ref q9, .int (nI rg)])), (q1, .inl (cI, 480, .inl (nA bn))), (q2, .inl (cZ, 480, .inl (zA shr))), (q3, .inl (cZ, 41, .inl (zA us)))] := hD
        have hl2 : kk2 ≤ st0.2 + 40 * a := by have := gp_db_le us bn shr sh pa st0 (40 * a); rw [← hp47] at this; exact this
        refine lv_iinc (v := nI (a + 1)) (lv' := [(4, .int (nI (a + 1))), (5, .int (nI (bn (gp_sl a pa sh)))), (0, .ref fa), (1, .ref pl), (2, .int (nI sh)), (3, .int (nI pa))]) hx hb d_Fa_findDoubles_50 hl (k := 1) rfl (ga_inc a) (by decide) rfl (fun ls hl => ?_)
        refine lv_goto (tgt := 3) hx hb d_Fa_findDoubles_53 (by decide) ?_
        exact ih (a + 1, td2, kk2) _ _ _ (by show (41 - (a + 1)) < (41 - a); omega) ⟨lv_sub hl [0, 2, 3, 4, 5] rfl, hP, hD, hS, ⟨by omega, by omega, by omega, by rw [show 40 * (a + 1 - 1) = 40 * a by omega]; exact hp47⟩⟩
theorem gp_isP_un {bn : Nat → Nat} {sh a b : Nat} (ha : gp_isP bn sh a) (hb : gp_isP bn sh b) : a = b := by
  have key : ∀ x y : Nat, gp_isP bn sh x → gp_isP bn sh y → x ≤ y := by
    intro x y hx hy
    rcases Nat.lt_or_ge y x with h | h
    · obtain ⟨t, h1, h2, h3⟩ := hx.2.2 (by omega)
      have := hy.2.1 t (x - 1) h1 h2 (by have := hx.1; omega) h3
      omega
    · exact h
  exact Nat.le_antisymm (key a b ha hb) (key b a hb ha)
set_option maxHeartbeats 4000000 in
set_option maxRecDepth 100000 in
theorem gc_Fa_findIn (l : Launch) (D : va_G) (cI cZ cC cG : ClassId) (fa fo k : Nat) (told : Nat → Nat) (pl q1 q2 q3 q4 q5 q6 q7 q8 q9 : Nat) (rg : Nat) (bn : Nat → Nat) (shr us : Nat → Bool) (pq : Nat → Nat) (hpq : ∀ sh, sh < 3 → gp_isP bn sh (pq sh)) (hbn : ∀ j, bn j ≤ 60) : ga_Mv l y_Fa_findIn b_Fa_findIn 5 3 0 0 D (ga_T cI cZ cC cG) [.ref fa, .ref pl] [(fa, .inr (0, [.ref fo, .int (nI k)])), (fo, .inl (cI, 500, .inl (nA told))), (pl, .inr (1, [.ref q1, .ref q2, .ref q3, .ref q4, .ref q5, .ref q6, .ref q7, .ref q8, .ref q9, .int (nI rg)])), (q1, .inl (cI, 480, .inl (nA bn))), (q2, .inl (cZ, 480, .inl (zA shr))), (q3, .inl (cZ, 41, .inl (zA us)))] (fun (x : gp_F) => [(fa, .inr (0, [.ref fo, .int (nI x.2)])), (fo, .inl (cI, 500, .inl (nA x.1))), (pl, .inr (1, [.ref q1, .ref q2, .ref q3, .ref q4, .ref q5, .ref q6, .ref q7, .ref q8, .ref q9, .int (nI rg)])), (q1, .inl (cI, 480, .inl (nA bn))), (q2, .inl (cZ, 480, .inl (zA shr))), (q3, .inl (cZ, 41, .inl (zA us)))]) (fun x => x = gp_ck us bn shr pq (told, 0) 12) := by
  refine ga_enV (by decide) (Nat.le_of_ble_eq_true rfl) ?_
  intro p e s m below meth c ls A S hrt hlk hnm hK hP hD hA hl
  have hS : va_S A s.heap s.heap [] := va_S.rf
  obtain ⟨hx, hb, hml, hown, hts⟩ := id S
  have hl : lv_has ls 5 [(0, .ref fa), (1, .ref pl)] := hl
  refine lv_aload_n hx hb d_Fa_findIn_0 rfl (lv_at hl 0 rfl) ?_
  refine lv_iconst (v := 0) hx hb d_Fa_findIn_1 (by decide) ?_
  refine ga_put (ws' := [(fa, .inr (0, [.ref fo, .int 0])), (fo, .inl (cI, 500, .inl (nA told))), (pl, .inr (1, [.ref q1, .ref q2, .ref q3, .ref q4, .ref q5, .ref q6, .ref q7, .ref q8, .ref q9, .int (nI rg)])), (q1, .inl (cI, 480, .inl (nA bn))), (q2, .inl (cZ, 480, .inl (zA shr))), (q3, .inl (cZ, 41, .inl (zA us)))]) S hK hP hD hS 0 rfl p_Fa_15 rfl rfl (Nat.le_of_ble_eq_true rfl) rfl d_Fa_findIn_2 (fun H locs hP hD hS => ?_)
  refine lv_iconst (v := 0) hx hb d_Fa_findIn_5 (by decide) ?_
  refine lv_istore_n (lv' := [(2, .int 0), (0, .ref fa), (1, .ref pl)]) hx hb d_Fa_findIn_6 rfl hl (by decide) rfl (fun ls hl => ?_)
  refine ga_loop (α := Nat × (Nat → Nat) × Nat) (fun x => match x with | (sh, td, kk) => 3 - sh) (fun x ls H locs => match x with | (sh, td, kk) => lv_has ls 5 [(2, .int (nI sh)), (0, .ref fa), (1, .ref pl)] ∧ va_P D vwCl [(fa, .inr (0, [.ref fo, .int (nI kk)])), (fo, .inl (cI, 500, .inl (nA td))), (pl, .inr (1, [.ref q1, .ref q2, .ref q3, .ref q4, .ref q5, .ref q6, .ref q7, .ref q8, .ref q9, .int (nI rg)])), (q1, .inl (cI, 480, .inl (nA bn))), (q2, .inl (cZ, 480, .inl (zA shr))), (q3, .inl (cZ, 41, .inl (zA us)))] H ∧ va_D A [(fa, .inr (0, [.ref fo, .int (nI kk)])), (fo, .inl (cI, 500, .inl (nA td))), (pl, .inr (1, [.ref q1, .ref q2, .ref q3, .ref q4, .ref q5, .ref q6, .ref q7, .ref q8, .ref q9, .int (nI rg)])), (q1, .inl (cI, 480, .inl (nA bn))), (q2, .inl (cZ, 480, .inl (zA shr))), (q3, .inl (cZ, 41, .inl (zA us)))] ∧ va_S A s.heap H locs ∧ sh ≤ 3 ∧ (td, kk) = gp_ck us bn shr pq (told, 0) (4 * sh)) ?_ (0, told, 0) ⟨lv_sub hl [0, 1, 2] rfl, hP, hD, hS, ⟨by decide, rfl⟩⟩
  intro x ls H locs hI ih1
  obtain ⟨sh, td, kk⟩ := x
  obtain ⟨hl, hP, hD, hS, ⟨g1, g2⟩⟩ := hI
  have hl : lv_has ls 5 [(2, .int (nI sh)), (0, .ref fa), (1, .ref pl)] := hl
  have hP : va_P D vwCl [(fa, .inr (0, [.ref fo, .int (nI kk)])), (fo, .inl (cI, 500, .inl (nA td))), (pl, .inr (1, [.ref q1, .ref q2, .ref q3, .ref q4, .ref q5, .ref q6, .ref q7, .ref q8, .ref q9, .int (nI rg)])), (q1, .inl (cI, 480, .inl (nA bn))), (q2, .inl (cZ, 480, .inl (zA shr))), (q3, .inl (cZ, 41, .inl (zA us)))] H := hP
  have hD : va_D A [(fa, .inr (0, [.ref fo, .int (nI kk)])), (fo, .inl (cI, 500, .inl (nA td))), (pl, .inr (1, [.ref q1, .ref q2, .ref q3, .ref q4, .ref q5, .ref q6, .ref q7, .ref q8, .ref q9, .int (nI rg)])), (q1, .inl (cI, 480, .inl (nA bn))), (q2, .inl (cZ, 480, .inl (zA shr))), (q3, .inl (cZ, 41, .inl (zA us)))] := hD
  refine lv_iload_n hx hb d_Fa_findIn_7 rfl (lv_at hl 0 rfl) ?_
  refine lv_iconst (v := 3) hx hb d_Fa_findIn_8 (by decide) ?_
  refine lv_icmp_ge (tgt := 55) hx hb d_Fa_findIn_9 (by decide) (fun c9 => ?_) (fun c9 => ?_)
  · have c9 : 3 ≤ sh := (nI_leI (a := 3) (b := sh) (by omega) (by omega)).mp c9
    exact ga_wv (td, kk) S hrt hlk hP hD hS (by rw [g2, show 4 * sh = 12 by omega]) d_Fa_findIn_55
  · have c9 : ¬ (3 ≤ sh) := fun q => c9 ((nI_leI (a := 3) (b := sh) (by omega) (by omega)).mpr q)
    refine lv_aload_n hx hb d_Fa_findIn_12 rfl (lv_at hl 2 rfl) ?_
    refine lv_iload_n hx hb d_Fa_findIn_13 rfl (lv_at hl 0 rfl) ?_
    refine ga_cr (As := [.int (nI sh)]) (rest := []) (q0 := 2) S hK hP s_Fa_19 (gc_Pl_passesOf l D cI cZ cC cG pl q1 q2 q3 q4 q5 q6 q7 q8 q9 rg sh bn (by omega) hbn) [2, 3] rfl rfl rfl rfl hl.1 rfl (Nat.le_of_ble_eq_true rfl) ⟨Nat.le_of_ble_eq_true rfl, Nat.le_of_ble_eq_true rfl⟩ ⟨Nat.le_of_ble_eq_true rfl, Nat.le_of_ble_eq_true rfl⟩ d_Fa_findIn_14 (fun r hp14 => ?_)
    obtain ⟨ps, rfl, hps⟩ := hp14
    have hps4 := hps.1
    obtain rfl : ps = pq sh := gp_isP_un hps (hpq sh (by omega))
    refine lv_istore_n (lv' := [(3, .int (nI (pq sh))), (2, .int (nI sh)), (0, .ref fa), (1, .ref pl)]) hx hb d_Fa_findIn_17 rfl hl (by decide) rfl (fun ls hl => ?_)
    refine lv_iconst (v := 0) hx hb d_Fa_findIn_18 (by decide) ?_
    refine lv_istore (lv' := [(4, .int 0), (3, .int (nI (pq sh))), (2, .int (nI sh)), (0, .ref fa), (1, .ref pl)]) hx hb d_Fa_findIn_19 hl (by decide) rfl (fun ls hl => ?_)
    refine ga_loop (α := Nat × (Nat → Nat) × Nat) (fun x => match x with | (pa, td2, kk2) => 4 - pa) (fun x ls H locs => match x with | (pa, td2, kk2) => lv_has ls 5 [(4, .int (nI pa)), (3, .int (nI (pq sh))), (2, .int (nI sh)), (0, .ref fa), (1, .ref pl)] ∧ va_P D vwCl [(fa, .inr (0, [.ref fo, .int (nI kk2)])), (fo, .inl (cI, 500, .inl (nA td2))), (pl, .inr (1, [.ref q1, .ref q2, .ref q3, .ref q4, .ref q5, .ref q6, .ref q7, .ref q8, .ref q9, .int (nI rg)])), (q1, .inl (cI, 480, .inl (nA bn))), (q2, .inl (cZ, 480, .inl (zA shr))), (q3, .inl (cZ, 41, .inl (zA us)))] H ∧ va_D A [(fa, .inr (0, [.ref fo, .int (nI kk2)])), (fo, .inl (cI, 500, .inl (nA td2))), (pl, .inr (1, [.ref q1, .ref q2, .ref q3, .ref q4, .ref q5, .ref q6, .ref q7, .ref q8, .ref q9, .int (nI rg)])), (q1, .inl (cI, 480, .inl (nA bn))), (q2, .inl (cZ, 480, .inl (zA shr))), (q3, .inl (cZ, 41, .inl (zA us)))] ∧ va_S A s.heap H locs ∧ pa ≤ pq sh ∧ (td2, kk2) = gp_ck us bn shr pq (told, 0) (4 * sh + pa)) ?_ (0, td, kk) ⟨lv_sub hl [0, 1, 2, 3, 4] rfl, hP, hD, hS, ⟨Nat.zero_le _, g2⟩⟩
    intro x ls H locs hI ih2
    obtain ⟨pa, td2, kk2⟩ := x
    obtain ⟨hl, hP, hD, hS, ⟨f1, f2⟩⟩ := hI
    have hl : lv_has ls 5 [(4, .int (nI pa)), (3, .int (nI (pq sh))), (2, .int (nI sh)), (0, .ref fa), (1, .ref pl)] := hl
    have hP : va_P D vwCl [(fa, .inr (0, [.ref fo, .int (nI kk2)])), (fo, .inl (cI, 500, .inl (nA td2))), (pl, .inr (1, [.ref q1, .ref q2, .ref q3, .ref q4, .ref q5, .ref q6, .ref q7, .ref q8, .ref q9, .int (nI rg)])), (q1, .inl (cI, 480, .inl (nA bn))), (q2, .inl (cZ, 480, .inl (zA shr))), (q3, .inl (cZ, 41, .inl (zA us)))] H := hP
    have hD : va_D A [(fa, .inr (0, [.ref fo, .int (nI kk2)])), (fo, .inl (cI, 500, .inl (nA td2))), (pl, .inr (1, [.ref q1, .ref q2, .ref q3, .ref q4, .ref q5, .ref q6, .ref q7, .ref q8, .ref q9, .int (nI rg)])), (q1, .inl (cI, 480, .inl (nA bn))), (q2, .inl (cZ, 480, .inl (zA shr))), (q3, .inl (cZ, 41, .inl (zA us)))] := hD
    have hkk : kk2 ≤ 0 + 1640 * (4 * sh + pa) := by have := gp_ck_le us bn shr pq (told, 0) (4 * sh + pa); rw [← f2] at this; exact this
    refine lv_iload hx hb d_Fa_findIn_21 (lv_at hl 0 rfl) ?_
    refine lv_iload_n hx hb d_Fa_findIn_23 rfl (lv_at hl 1 rfl) ?_
    refine lv_icmp_ge (tgt := 49) hx hb d_Fa_findIn_24 (by decide) (fun c24 => ?_) (fun c24 => ?_)
    · have c24 : (pq sh) ≤ pa := (nI_leI (a := (pq sh)) (b := pa) (by omega) (by omega)).mp c24
      refine lv_iinc (v := nI (sh + 1)) (lv' := [(2, .int (nI (sh + 1))), (4, .int (nI pa)), (3, .int (nI (pq sh))), (0, .ref fa), (1, .ref pl)]) hx hb d_Fa_findIn_49 hl (k := 2) rfl (ga_inc sh) (by decide) rfl (fun ls hl => ?_)
      refine lv_goto (tgt := 7) hx hb d_Fa_findIn_52 (by decide) ?_
      exact ih1 (sh + 1, td2, kk2) _ _ _ (by show (3 - (sh + 1)) < (3 - sh); omega) ⟨lv_sub hl [0, 3, 4] rfl, hP, hD, hS, ⟨by omega, by rw [show 4 * (sh + 1) = 4 * sh + (pq sh + (4 - pq sh)) by omega, gp_ck_end (hpq sh (by omega)) _ (by omega), f2, show pa = pq sh by omega]⟩⟩
    · have c24 : ¬ ((pq sh) ≤ pa) := fun q => c24 ((nI_leI (a := (pq sh)) (b := pa) (by omega) (by omega)).mpr q)
      refine lv_aload_n hx hb d_Fa_findIn_27 rfl (lv_at hl 3 rfl) ?_
      refine lv_aload_n hx hb d_Fa_findIn_28 rfl (lv_at hl 4 rfl) ?_
      refine lv_iload_n hx hb d_Fa_findIn_29 rfl (lv_at hl 2 rfl) ?_
      refine lv_iload hx hb d_Fa_findIn_30 (lv_at hl 0 rfl) ?_
      refine ga_jv (wr := [(q2, .inl (cZ, 480, .inl (zA shr)))]) (ga_runV (As := [.ref pl, .int (nI sh), .int (nI pa)]) (rest := []) S hK s_Fa_25 (gc_Fa_findHoles l D cI cZ cC cG fa fo kk2 td2 pl q1 q2 q3 q4 q5 q6 q7 q8 q9 rg sh pa (by omega) (by omega) bn us hbn (by omega) _) (ga_prV (y := y_Fa_findHoles) (q0 := 0) hK hP hD [0, 1, 2, 3, 5] rfl (by decide) rfl rfl) rfl hl.1 rfl (Nat.le_of_ble_eq_true rfl) ⟨Nat.le_of_ble_eq_true rfl, Nat.le_of_ble_eq_true rfl⟩ ⟨Nat.le_of_ble_eq_true rfl, Nat.le_of_ble_eq_true rfl⟩ d_Fa_findIn_32) hP hD hS hA [0, 1, 2, 3, 5] [4] rfl rfl (by decide) (by decide) [1, 2, 3, 4, 0, 5] (fun (x : gp_F) => [(fa, .inr (0, [.ref fo, .int (nI x.2)])), (fo, .inl (cI, 500, .inl (nA x.1))), (pl, .inr (1, [.ref q1, .ref q2, .ref q3, .ref q4, .ref q5, .ref q6, .ref q7, .ref q8, .ref q9, .int (nI rg)])), (q1, .inl (cI, 480, .inl (nA bn))), (q2, .inl (cZ, 480, .inl (zA shr))), (q3, .inl (cZ, 41, .inl (zA us)))]) (fun _ => rfl) (by decide) (fun x H locs hp32 hP hD hS => ?_)
      obtain ⟨td1, kk1⟩ := x
      have hP : va_P D vwCl [(fa, .inr (0, [.ref fo, .int (nI kk1)])), (fo, .inl (cI, 500, .inl (nA td1))), (pl, .inr (1, [.ref q1, .ref q2, .ref q3, .ref q4, .ref q5, .ref q6, .ref q7, .ref q8, .ref q9, .int (nI rg)])), (q1, .inl (cI, 480, .inl (nA bn))), (q2, .inl (cZ, 480, .inl (zA shr))), (q3, .inl (cZ, 41, .inl (zA us)))] H := hP
      have hD : va_D A [(fa, .inr (0, [.ref fo, .int (nI kk1)])), (fo, .inl (cI, 500, .inl (nA td1))), (pl, .inr (1, [.ref q1, .ref q2, .ref q3, .ref q4, .ref q5, .ref q6, .ref q7, .ref q8, .ref q9, .int (nI rg)])), (q1, .inl (cI, 480, .inl (nA bn))), (q2, .inl (cZ, 480, .inl (zA shr))), (q3, .inl (cZ, 41, .inl (zA us)))] := hD
      have hl1 : kk1 ≤ kk2 + 40 := by have := gp_hl_le us bn sh pa (td2, kk2) 40; rw [← hp32] at this; exact this
      refine lv_aload_n hx hb d_Fa_findIn_35 rfl (lv_at hl 3 rfl) ?_
      refine lv_aload_n hx hb d_Fa_findIn_36 rfl (lv_at hl 4 rfl) ?_
      refine lv_iload_n hx hb d_Fa_findIn_37 rfl (lv_at hl 2 rfl) ?_
      refine lv_iload hx hb d_Fa_findIn_38 (lv_at hl 0 rfl) ?_
      refine ga_jv (wr := []) (ga_runV (As := [.ref pl, .int (nI sh), .int (nI pa)]) (rest := []) S hK s_Fa_29 (gc_Fa_findDoubles l D cI cZ cC cG fa fo kk1 td1 pl q1 q2 q3 q4 q5 q6 q7 q8 q9 rg sh pa (by omega) (by omega) bn shr us hbn (by omega) _) (ga_prV (y := y_Fa_findDoubles) (q0 := 0) hK hP hD [0, 1, 2, 3, 4, 5] rfl (by decide) rfl rfl) rfl hl.1 rfl (Nat.le_of_ble_eq_true rfl) ⟨Nat.le_of_ble_eq_true rfl, Nat.le_of_ble_eq_true rfl⟩ ⟨Nat.le_of_ble_eq_true rfl, Nat.le_of_ble_eq_true rfl⟩ d_Fa_findIn_40) hP hD hS hA [0, 1, 2, 3, 4, 5] [] rfl rfl (by decide) (by decide) [0, 1, 2, 3, 4, 5] (fun (x : gp_F) => [(fa, .inr (0, [.ref fo, .int (nI x.2)])), (fo, .inl (cI, 500, .inl (nA x.1))), (pl, .inr (1, [.ref q1, .ref q2, .ref q3, .ref q4, .ref q5, .ref q6, .ref q7, .ref q8, .ref q9, .int (nI rg)])), (q1, .inl (cI, 480, .inl (nA bn))), (q2, .inl (cZ, 480, .inl (zA shr))), (q3, .inl (cZ, 41, .inl (zA us)))]) (fun _ => rfl) (by decide) (fun x H locs hp40 hP hD hS => ?_)
      obtain ⟨td2, kk2⟩ := x
      have hP : va_P D vwCl [(fa, .inr (0, [.ref fo, .int (nI kk2)])), (fo, .inl (cI, 500, .inl (nA td2))), (pl, .inr (1, [.ref q1, .ref q2, .ref q3, .ref q4, .ref q5, .ref q6, .ref q7, .ref q8, .ref q9, .int (nI rg)])), (q1, .inl (cI, 480, .inl (nA bn))), (q2, .inl (cZ, 480, .inl (zA shr))), (q3, .inl (cZ, 41, .inl (zA us)))] H := hP
      have hD : va_D A [(fa, .inr (0, [.ref fo, .int (nI kk2)])), (fo, .inl (cI, 500, .inl (nA td2))), (pl, .inr (1, [.ref q1, .ref q2, .ref q3, .ref q4, .ref q5, .ref q6, .ref q7, .ref q8, .ref q9, .int (nI rg)])), (q1, .inl (cI, 480, .inl (nA bn))), (q2, .inl (cZ, 480, .inl (zA shr))), (q3, .inl (cZ, 41, .inl (zA us)))] := hD
      refine lv_iinc (v := nI (pa + 1)) (lv' := [(4, .int (nI (pa + 1))), (3, .int (nI (pq sh))), (2, .int (nI sh)), (0, .ref fa), (1, .ref pl)]) hx hb d_Fa_findIn_43 hl (k := 0) rfl (ga_inc pa) (by decide) rfl (fun ls hl => ?_)
      refine lv_goto (tgt := 21) hx hb d_Fa_findIn_46 (by decide) ?_
      exact ih2 (pa + 1, td2, kk2) _ _ _ (by show (4 - (pa + 1)) < (4 - pa); omega) ⟨lv_sub hl [0, 1, 2, 3, 4] rfl, hP, hD, hS, ⟨by omega, by rw [show 4 * sh + (pa + 1) = 4 * sh + pa + 1 by omega, gp_ck_in (by omega) (by omega), ← f2, ← hp32, ← hp40]⟩⟩
end
section
/-! the sheet as a list of signs -/
def gp_hs (sg : Nat → Nat) (n : Nat) (L : List Nat) : Prop := n = L.length ∧ ∀ j, j < L.length → L[j]? = some (sg j)
theorem gp_hs_0 (sg : Nat → Nat) : gp_hs sg 0 [] := ⟨rfl, fun j h => absurd h (Nat.not_lt_zero _)⟩
theorem gp_hs_up {sg : Nat → Nat} {n ch : Nat} {L : List Nat} (h : gp_hs sg n L) : gp_hs (va_up sg n ch) (n + 1) (L ++ [ch]) := by
  obtain ⟨h1, h2⟩ := h
  subst h1
  refine ⟨by simp, fun j hj => ?_⟩
  rw [List.length_append, List.length_singleton] at hj
  by_cases e : j = L.length
  · subst e
    rw [va_up_self]
    simp
  · rw [va_up_ne _ _ e, List.getElem?_append_left (by omega)]
    exact h2 j (by omega)
theorem gp_hs_put {sg : Nat → Nat} {n ch : Nat} {L : List Nat} (h : gp_hs sg n L) (hL : L.length < 240) {x : (Nat → Nat) × Nat} (hx : x = gp_sp (sg, n) ch) : gp_hs x.1 x.2 (L ++ [ch]) := by
  rw [hx, gp_sp, if_pos (by simp only; rw [h.1]; exact hL)]
  exact gp_hs_up h
def gp_dl (k : Nat) : List Nat := if 10 ≤ k then [48 + k / 10, 48 + k % 10] else [48 + k % 10]
theorem gp_dl_le (k : Nat) : 1 ≤ (gp_dl k).length ∧ (gp_dl k).length ≤ 2 := by
  unfold gp_dl
  split <;> simp
def gp_rw (f : Nat → Nat) (b : Nat) : Nat → List Nat
  | 0 => []
  | i + 1 => if f i = b then gp_rw f b i ++ ((if gp_rw f b i = [] then gp_dl b ++ [58] else [44]) ++ gp_dl (i + 1)) else gp_rw f b i
def gp_ln (f : Nat → Nat) (b : Nat) : List Nat := if gp_rw f b 40 = [] then [] else gp_rw f b 40 ++ [59]
def gp_ou (f : Nat → Nat) : Nat → List Nat
  | 0 => []
  | i + 1 => gp_ou f i ++ gp_ln f (i + 1)
abbrev gp_ht (f : Nat → Nat) (b i : Nat) : Nat := gp_cn (fun j => decide (f j = b)) i
theorem gp_ht_s (f : Nat → Nat) (b i : Nat) : gp_ht f b (i + 1) = gp_ht f b i + (if f i = b then 1 else 0) := by
  unfold gp_ht
  rw [gp_cn]
  by_cases h : f i = b <;> simp [h]
theorem gp_ht_mono (f : Nat → Nat) (b : Nat) : ∀ i m, i ≤ m → gp_ht f b i ≤ gp_ht f b m := by
  intro i m h
  induction m with
  | zero =>
    rw [show i = 0 by omega]
    exact Nat.le_refl _
  | succ m ih =>
    by_cases e : i = m + 1
    · rw [e]
      exact Nat.le_refl _
    · have := ih (by omega)
      rw [gp_ht_s]
      omega
theorem gp_rw_le (f : Nat → Nat) (b : Nat) : ∀ i, (gp_ht f b i = 0 → gp_rw f b i = []) ∧ (gp_rw f b i).length ≤ 3 * gp_ht f b i + 2 ∧ (gp_ht f b i ≠ 0 → gp_rw f b i ≠ [] ∧ 3 ≤ (gp_rw f b i).length)
  | 0 => ⟨fun _ => rfl, by simp [gp_rw], fun h => absurd rfl h⟩
  | i + 1 => by
    obtain ⟨h1, h2, h3⟩ := gp_rw_le f b i
    have d1 := gp_dl_le b
    have d2 := gp_dl_le (i + 1)
    rw [gp_ht_s, gp_rw]
    by_cases e : f i = b
    · rw [if_pos e, if_pos e]
      by_cases z : gp_rw f b i = []
      · rw [if_pos z, z]
        have hl : (([] : List Nat) ++ ((gp_dl b ++ [58]) ++ gp_dl (i + 1))).length = (gp_dl b).length + 1 + (gp_dl (i + 1)).length := by simp; omega
        refine ⟨fun q => by omega, by rw [hl]; omega, fun _ => ⟨?_, by rw [hl]; omega⟩⟩
        intro q
        rw [q] at hl
        simp at hl
        omega
      · rw [if_neg z]
        have hl : (gp_rw f b i ++ ([44] ++ gp_dl (i + 1))).length = (gp_rw f b i).length + 1 + (gp_dl (i + 1)).length := by simp; omega
        have hne : gp_ht f b i ≠ 0 := fun q => z (h1 q)
        have h4 := h3 hne
        refine ⟨fun q => by omega, by rw [hl]; omega, fun _ => ⟨?_, by rw [hl]; omega⟩⟩
        intro q
        rw [q] at hl
        simp at hl
        omega
    · rw [if_neg e, if_neg e, Nat.add_zero]
      exact ⟨h1, h2, h3⟩
theorem gp_ln_le (f : Nat → Nat) (b : Nat) : (gp_ln f b).length ≤ 6 * gp_ht f b 40 := by
  obtain ⟨h1, h2, h3⟩ := gp_rw_le f b 40
  unfold gp_ln
  split
  · exact Nat.zero_le _
  · rename_i hz
    have : gp_ht f b 40 ≠ 0 := fun q => hz (h1 q)
    rw [List.length_append, List.length_singleton]
    omega
def gp_sm (g : Nat → Nat) : Nat → Nat
  | 0 => 0
  | i + 1 => gp_sm g i + g i
theorem gp_sm_congr {f g : Nat → Nat} : ∀ k, (∀ j, j < k → f j = g j) → gp_sm f k = gp_sm g k
  | 0, _ => rfl
  | k + 1, h => by rw [gp_sm, gp_sm, gp_sm_congr k (fun j hj => h j (by omega)), h k (by omega)]
theorem gp_sm_add (f g : Nat → Nat) : ∀ k, gp_sm (fun j => f j + g j) k = gp_sm f k + gp_sm g k
  | 0 => rfl
  | k + 1 => by
    rw [gp_sm, gp_sm, gp_sm, gp_sm_add f g k]
    omega
theorem gp_sm_one (v : Nat) : ∀ i, gp_sm (fun j => if v = j + 1 then 1 else 0) i ≤ 1 ∧ (i < v → gp_sm (fun j => if v = j + 1 then 1 else 0) i = 0)
  | 0 => ⟨Nat.zero_le _, fun _ => rfl⟩
  | i + 1 => by
    obtain ⟨h1, h2⟩ := gp_sm_one v i
    rw [gp_sm]
    by_cases e : v = i + 1
    · rw [if_pos e, h2 (by omega)]
      exact ⟨Nat.le_refl _, fun q => by omega⟩
    · rw [if_neg e]
      exact ⟨h1, fun q => h2 (by omega)⟩
theorem gp_ht_sum (f : Nat → Nat) (i : Nat) : ∀ m, gp_sm (fun j => gp_ht f (j + 1) m) i ≤ m
  | 0 => by
    have h : gp_sm (fun j => gp_ht f (j + 1) 0) i = gp_sm (fun _ => 0) i := gp_sm_congr i (fun j _ => rfl)
    have h0 : ∀ k, gp_sm (fun _ => 0) k = 0 := fun k => by
      induction k with
      | zero => rfl
      | succ k ih => rw [gp_sm, ih]
    rw [h, h0]
    exact Nat.le_refl _
  | m + 1 => by
    have ih := gp_ht_sum f i m
    have h : gp_sm (fun j => gp_ht f (j + 1) (m + 1)) i = gp_sm (fun j => gp_ht f (j + 1) m) i + gp_sm (fun j => if f m = j + 1 then 1 else 0) i := by
      rw [← gp_sm_add]
      exact gp_sm_congr i (fun j _ => gp_ht_s f (j + 1) m)
    have h1 := (gp_sm_one (f m) i).1
    omega
theorem gp_ou_le (f : Nat → Nat) : ∀ i, (gp_ou f i).length ≤ 6 * gp_sm (fun j => gp_ht f (j + 1) 40) i
  | 0 => Nat.zero_le _
  | i + 1 => by
    have h1 := gp_ou_le f i
    have h2 := gp_ln_le f (i + 1)
    rw [gp_ou, gp_sm, List.length_append]
    omega
/-- there is room for the next bin's line -/
theorem gp_ou_room (f : Nat → Nat) (i : Nat) : (gp_ou f i).length + 6 * gp_ht f (i + 1) 40 ≤ 240 := by
  have h1 := gp_ou_le f i
  have h2 := gp_ht_sum f (i + 1) 40
  rw [gp_sm] at h2
  omega
theorem gp_dl_in (k : Nat) : ∀ c, c ∈ gp_dl k → 48 ≤ c ∧ (k ≤ 99 → c ≤ 57) := by
  intro c hc
  unfold gp_dl at hc
  split at hc
  · simp at hc
    rcases hc with rfl | rfl <;> omega
  · simp at hc
    subst hc
    omega
theorem gp_rw_no {f : Nat → Nat} {b i : Nat} (h : f i ≠ b) : gp_rw f b (i + 1) = gp_rw f b i := by rw [gp_rw, if_neg h]
theorem gp_rw_h0 {f : Nat → Nat} {b i : Nat} (h : f i = b) (z : gp_rw f b i = []) : gp_rw f b (i + 1) = gp_dl b ++ ([58] ++ gp_dl (i + 1)) := by rw [gp_rw, if_pos h, if_pos z, z]; simp
theorem gp_rw_h1 {f : Nat → Nat} {b i : Nat} (h : f i = b) (z : gp_rw f b i ≠ []) : gp_rw f b (i + 1) = gp_rw f b i ++ ([44] ++ gp_dl (i + 1)) := by rw [gp_rw, if_pos h, if_neg z]
/-- room for one more target in a line -/
theorem gp_rw_room {f : Nat → Nat} {b i : Nat} {L : List Nat} (hi : i < 40) (h : f i = b) (hr : L.length + 6 * gp_ht f b 40 ≤ 240) : (L ++ gp_rw f b i).length + 5 ≤ 240 := by
  obtain ⟨h1, h2, h3⟩ := gp_rw_le f b i
  have h4 := gp_ht_mono f b (i + 1) 40 (by omega)
  rw [gp_ht_s, if_pos h] at h4
  rw [List.length_append]
  by_cases z : gp_ht f b i = 0
  · rw [h1 z]
    simp
    omega
  · omega
theorem gp_rw_room2 {f : Nat → Nat} {b : Nat} {L : List Nat} (h : gp_rw f b 40 ≠ []) (hr : L.length + 6 * gp_ht f b 40 ≤ 240) : (L ++ gp_rw f b 40).length < 240 := by
  obtain ⟨h1, h2, h3⟩ := gp_rw_le f b 40
  have z : gp_ht f b 40 ≠ 0 := fun q => h (h1 q)
  rw [List.length_append]
  omega
end
section
set_option maxHeartbeats 4000000 in
set_option maxRecDepth 100000 in
theorem gc_Sh_putNumber (l : Launch) (D : va_G) (cI cZ cC cG : ClassId) (shh sha n k : Nat) (sg : Nat → Nat) (L : List Nat) (hk : k ≤ 99) (hL : gp_hs sg n L) (hlen : L.length + 2 ≤ 240) : ga_Mv l y_Sh_putNumber b_Sh_putNumber 2 1 0 0 D (ga_T cI cZ cC cG) [.ref shh, .int (nI k)] [(shh, .inr (3, [.ref sha, .int (nI n)])), (sha, .inl (cC, 240, .inl (nA sg)))] (fun (x : (Nat → Nat) × Nat) => [(shh, .inr (3, [.ref sha, .int (nI x.2)])), (sha, .inl (cC, 240, .inl (nA x.1)))]) (fun x => gp_hs x.1 x.2 (L ++ gp_dl k)) := by
  refine ga_enV (by decide) (Nat.le_of_ble_eq_true rfl) ?_
  intro p e s m below meth c ls A S hrt hlk hnm hK hP hD hA hl
  have hS : va_S A s.heap s.heap [] := va_S.rf
  obtain ⟨hx, hb, hml, hown, hts⟩ := id S
  have hl : lv_has ls 2 [(0, .ref shh), (1, .int (nI k))] := hl
  refine lv_iload_n hx hb d_Sh_putNumber_0 rfl (lv_at hl 1 rfl) ?_
  refine lv_bipush (v := 10) hx hb d_Sh_putNumber_1 (by decide) ?_
  refine lv_icmp_lt (tgt := 18) hx hb d_Sh_putNumber_3 (by decide) (fun c3 => ?_) (fun c3 => ?_)
  · have c3 : k < 10 := (nI_ltI (a := k) (b := 10) (by omega) (by omega)).mp c3
    refine lv_aload_n hx hb d_Sh_putNumber_18 rfl (lv_at hl 0 rfl) ?_
    refine lv_bipush (v := 48) hx hb d_Sh_putNumber_19 (by decide) ?_
    refine lv_iload_n hx hb d_Sh_putNumber_21 rfl (lv_at hl 1 rfl) ?_
    refine lv_bipush (v := 10) hx hb d_Sh_putNumber_22 (by decide) ?_
    refine lv_irem hx hb d_Sh_putNumber_24 (by decide) ?_
    refine ga_top (nI (k % 10)) (pk_rem (a := k) (d := 10) (by omega) (by decide) (by decide)) ?_
    refine lv_iadd hx hb d_Sh_putNumber_25 ?_
    refine ga_top (nI (48 + (k % 10))) (nI_add 48 (k % 10)) ?_
    refine lv_i2c hx hb d_Sh_putNumber_26 rfl ?_
    refine ga_top (nI (48 + (k % 10))) (ga_c16 (q := (48 + (k % 10))) (by omega)) ?_
    refine ga_jv (wr := []) (ga_runV (As := [.int (nI (48 + (k % 10)))]) (rest := []) S hK s_Sh_33 (gc_Sh_put l D cI cZ cC cG shh sha n (48 + (k % 10)) sg (by have h0 := hL.1; have h9 := hlen; (try simp only [List.length_append, List.length_singleton, List.length_cons, List.length_nil] at h9 h0); (try simp only [List.length_append, List.length_singleton, List.length_cons, List.length_nil]); omega) (by omega) _) (ga_prV (y := y_Sh_put) (q0 := 0) hK hP hD [0, 1] rfl (by decide) rfl rfl) rfl hl.1 rfl (Nat.le_of_ble_eq_true rfl) ⟨Nat.le_of_ble_eq_true rfl, Nat.le_of_ble_eq_true rfl⟩ ⟨Nat.le_of_ble_eq_true rfl, Nat.le_of_ble_eq_true rfl⟩ d_Sh_putNumber_27) hP hD hS hA [0, 1] [] rfl rfl (by decide) (by decide) [0, 1] (fun _ => [(shh, .inr (3, [.ref sha, .int (nI ((gp_sp (sg, n) (48 + (k % 10))).2))])), (sha, .inl (cC, 240, .inl (nA ((gp_sp (sg, n) (48 + (k % 10))).1))))]) (fun _ => rfl) (by decide) (fun x H locs hp27 hP hD hS => ?_)
    obtain ⟨⟨g1, n1⟩, hg1⟩ : ∃ z, z = gp_sp (sg, n) (48 + (k % 10)) := ⟨_, rfl⟩
    rw [← hg1] at hP hD
    have hP : va_P D vwCl [(shh, .inr (3, [.ref sha, .int (nI n1)])), (sha, .inl (cC, 240, .inl (nA g1)))] H := hP
    have hD : va_D A [(shh, .inr (3, [.ref sha, .int (nI n1)])), (sha, .inl (cC, 240, .inl (nA g1)))] := hD
    have hg1z : gp_hs g1 n1 (L ++ [48 + (k % 10)]) := gp_hs_put hL (by have h9 := hlen; (try simp only [List.length_append, List.length_singleton, List.length_cons, List.length_nil] at h9); (try simp only [List.length_append, List.length_singleton, List.length_cons, List.length_nil]); omega) hg1
    exact ga_wv (g1, n1) S hrt hlk hP hD hS (by rw [gp_dl, if_neg (by omega)]; simpa using hg1z) d_Sh_putNumber_30
  · have c3 : ¬ (k < 10) := fun q => c3 ((nI_ltI (a := k) (b := 10) (by omega) (by omega)).mpr q)
    refine lv_aload_n hx hb d_Sh_putNumber_6 rfl (lv_at hl 0 rfl) ?_
    refine lv_bipush (v := 48) hx hb d_Sh_putNumber_7 (by decide) ?_
    refine lv_iload_n hx hb d_Sh_putNumber_9 rfl (lv_at hl 1 rfl) ?_
    refine lv_bipush (v := 10) hx hb d_Sh_putNumber_10 (by decide) ?_
    refine lv_idiv hx hb d_Sh_putNumber_12 (by decide) ?_
    refine ga_top (nI (k / 10)) (pk_div (a := k) (d := 10) (by omega) (by decide) (by decide)) ?_
    refine lv_iadd hx hb d_Sh_putNumber_13 ?_
    refine ga_top (nI (48 + (k / 10))) (nI_add 48 (k / 10)) ?_
    refine lv_i2c hx hb d_Sh_putNumber_14 rfl ?_
    refine ga_top (nI (48 + (k / 10))) (ga_c16 (q := (48 + (k / 10))) (by omega)) ?_
    refine ga_jv (wr := []) (ga_runV (As := [.int (nI (48 + (k / 10)))]) (rest := []) S hK s_Sh_33 (gc_Sh_put l D cI cZ cC cG shh sha n (48 + (k / 10)) sg (by have h0 := hL.1; have h9 := hlen; (try simp only [List.length_append, List.length_singleton, List.length_cons, List.length_nil] at h9 h0); (try simp only [List.length_append, List.length_singleton, List.length_cons, List.length_nil]); omega) (by omega) _) (ga_prV (y := y_Sh_put) (q0 := 0) hK hP hD [0, 1] rfl (by decide) rfl rfl) rfl hl.1 rfl (Nat.le_of_ble_eq_true rfl) ⟨Nat.le_of_ble_eq_true rfl, Nat.le_of_ble_eq_true rfl⟩ ⟨Nat.le_of_ble_eq_true rfl, Nat.le_of_ble_eq_true rfl⟩ d_Sh_putNumber_15) hP hD hS hA [0, 1] [] rfl rfl (by decide) (by decide) [0, 1] (fun _ => [(shh, .inr (3, [.ref sha, .int (nI ((gp_sp (sg, n) (48 + (k / 10))).2))])), (sha, .inl (cC, 240, .inl (nA ((gp_sp (sg, n) (48 + (k / 10))).1))))]) (fun _ => rfl) (by decide) (fun x H locs hp15 hP hD hS => ?_)
    obtain ⟨⟨g2, n2⟩, hg2⟩ : ∃ z, z = gp_sp (sg, n) (48 + (k / 10)) := ⟨_, rfl⟩
    rw [← hg2] at hP hD
    have hP : va_P D vwCl [(shh, .inr (3, [.ref sha, .int (nI n2)])), (sha, .inl (cC, 240, .inl (nA g2)))] H := hP
    have hD : va_D A [(shh, .inr (3, [.ref sha, .int (nI n2)])), (sha, .inl (cC, 240, .inl (nA g2)))] := hD
    have hg2z : gp_hs g2 n2 (L ++ [48 + (k / 10)]) := gp_hs_put hL (by have h9 := hlen; (try simp only [List.length_append, List.length_singleton, List.length_cons, List.length_nil] at h9); (try simp only [List.length_append, List.length_singleton, List.length_cons, List.length_nil]); omega) hg2
    refine lv_aload_n hx hb d_Sh_putNumber_18 rfl (lv_at hl 0 rfl) ?_
    refine lv_bipush (v := 48) hx hb d_Sh_putNumber_19 (by decide) ?_
    refine lv_iload_n hx hb d_Sh_putNumber_21 rfl (lv_at hl 1 rfl) ?_
    refine lv_bipush (v := 10) hx hb d_Sh_putNumber_22 (by decide) ?_
    refine lv_irem hx hb d_Sh_putNumber_24 (by decide) ?_
    refine ga_top (nI (k % 10)) (pk_rem (a := k) (d := 10) (by omega) (by decide) (by decide)) ?_
    refine lv_iadd hx hb d_Sh_putNumber_25 ?_
    refine ga_top (nI (48 + (k % 10))) (nI_add 48 (k % 10)) ?_
    refine lv_i2c hx hb d_Sh_putNumber_26 rfl ?_
    refine ga_top (nI (48 + (k % 10))) (ga_c16 (q := (48 + (k % 10))) (by omega)) ?_
    refine ga_jv (wr := []) (ga_runV (As := [.int (nI (48 + (k % 10)))]) (rest := []) S hK s_Sh_33 (gc_Sh_put l D cI cZ cC cG shh sha n2 (48 + (k % 10)) g2 (by have h0 := hg2z.1; have h9 := hlen; (try simp only [List.length_append, List.length_singleton, List.length_cons, List.length_nil] at h9 h0); (try simp only [List.length_append, List.length_singleton, List.length_cons, List.length_nil]); omega) (by omega) _) (ga_prV (y := y_Sh_put) (q0 := 0) hK hP hD [0, 1] rfl (by decide) rfl rfl) rfl hl.1 rfl (Nat.le_of_ble_eq_true rfl) ⟨Nat.le_of_ble_eq_true rfl, Nat.le_of_ble_eq_true rfl⟩ ⟨Nat.le_of_ble_eq_true rfl, Nat.le_of_ble_eq_true rfl⟩ d_Sh_putNumber_27) hP hD hS hA [0, 1] [] rfl rfl (by decide) (by decide) [0, 1] (fun _ => [(shh, .inr (3, [.ref sha, .int (nI ((gp_sp (g2, n2) (48 + (k % 10))).2))])), (sha, .inl (cC, 240, .inl (nA ((gp_sp (g2, n2) (48 + (k % 10))).1))))]) (fun _ => rfl) (by decide) (fun x H locs hp27 hP hD hS => ?_)
    obtain ⟨⟨g3, n3⟩, hg3⟩ : ∃ z, z = gp_sp (g2, n2) (48 + (k % 10)) := ⟨_, rfl⟩
    rw [← hg3] at hP hD
    have hP : va_P D vwCl [(shh, .inr (3, [.ref sha, .int (nI n3)])), (sha, .inl (cC, 240, .inl (nA g3)))] H := hP
    have hD : va_D A [(shh, .inr (3, [.ref sha, .int (nI n3)])), (sha, .inl (cC, 240, .inl (nA g3)))] := hD
    have hg3z : gp_hs g3 n3 ((L ++ [48 + (k / 10)]) ++ [48 + (k % 10)]) := gp_hs_put hg2z (by have h9 := hlen; (try simp only [List.length_append, List.length_singleton, List.length_cons, List.length_nil] at h9); (try simp only [List.length_append, List.length_singleton, List.length_cons, List.length_nil]); omega) hg3
    exact ga_wv (g3, n3) S hrt hlk hP hD hS (by rw [gp_dl, if_pos (by omega)]; simpa using hg3z) d_Sh_putNumber_30
set_option maxHeartbeats 4000000 in
set_option maxRecDepth 100000 in
theorem gc_Sh_writeBin (l : Launch) (D : va_G) (cI cZ cC cG : ClassId) (shh sha n b : Nat) (sg : Nat → Nat) (L : List Nat) (pl q1 q2 q3 q4 q5 q6 q7 q8 q9 : Nat) (rg : Nat) (bn : Nat → Nat) (hb60 : b ≤ 60) (hbn : ∀ j, bn j ≤ 60) (hL : gp_hs sg n L) (hroom : L.length + 6 * gp_ht (fun j => bn (gp_sl (j + 1) 0 0)) b 40 ≤ 240) : ga_Mv l y_Sh_writeBin b_Sh_writeBin 5 2 0 0 D (ga_T cI cZ cC cG) [.ref shh, .ref pl, .int (nI b)] [(shh, .inr (3, [.ref sha, .int (nI n)])), (sha, .inl (cC, 240, .inl (nA sg))), (pl, .inr (1, [.ref q1, .ref q2, .ref q3, .ref q4, .ref q5, .ref q6, .ref q7, .ref q8, .ref q9, .int (nI rg)])), (q1, .inl (cI, 480, .inl (nA bn)))] (fun (x : (Nat → Nat) × Nat) => [(shh, .inr (3, [.ref sha, .int (nI x.2)])), (sha, .inl (cC, 240, .inl (nA x.1))), (pl, .inr (1, [.ref q1, .ref q2, .ref q3, .ref q4, .ref q5, .ref q6, .ref q7, .ref q8, .ref q9, .int (nI rg)])), (q1, .inl (cI, 480, .inl (nA bn)))]) (fun x => gp_hs x.1 x.2 (L ++ gp_ln (fun j => bn (gp_sl (j + 1) 0 0)) b)) := by
  refine ga_enV (by decide) (Nat.le_of_ble_eq_true rfl) ?_
  intro p e s m below meth c ls A S hrt hlk hnm hK hP hD hA hl
  have hS : va_S A s.heap s.heap [] := va_S.rf
  obtain ⟨hx, hb, hml, hown, hts⟩ := id S
  have hl : lv_has ls 5 [(0, .ref shh), (1, .ref pl), (2, .int (nI b))] := hl
  refine lv_iconst (v := 0) hx hb d_Sh_writeBin_0 (by decide) ?_
  refine lv_istore_n (lv' := [(3, .int 0), (0, .ref shh), (1, .ref pl), (2, .int (nI b))]) hx hb d_Sh_writeBin_1 rfl hl (by decide) rfl (fun ls hl => ?_)
  refine lv_iconst (v := 1) hx hb d_Sh_writeBin_2 (by decide) ?_
  refine lv_istore (lv' := [(4, .int 1), (3, .int 0), (0, .ref shh), (1, .ref pl), (2, .int (nI b))]) hx hb d_Sh_writeBin_3 hl (by decide) rfl (fun ls hl => ?_)
  refine ga_loop (α := Nat × Bool × (Nat → Nat) × Nat) (fun x => match x with | (t, bg, g, nn) => 41 - t) (fun x ls H locs => match x with | (t, bg, g, nn) => lv_has ls 5 [(4, .int (nI t)), (3, .int (bI bg)), (0, .ref shh), (1, .ref pl), (2, .int (nI b))] ∧ va_P D vwCl [(shh, .inr (3, [.ref sha, .int (nI nn)])), (sha, .inl (cC, 240, .inl (nA g))), (pl, .inr (1, [.ref q1, .ref q2, .ref q3, .ref q4, .ref q5, .ref q6, .ref q7, .ref q8, .ref q9, .int (nI rg)])), (q1, .inl (cI, 480, .inl (nA bn)))] H ∧ va_D A [(shh, .inr (3, [.ref sha, .int (nI nn)])), (sha, .inl (cC, 240, .inl (nA g))), (pl, .inr (1, [.ref q1, .ref q2, .ref q3, .ref q4, .ref q5, .ref q6, .ref q7, .ref q8, .ref q9, .int (nI rg)])), (q1, .inl (cI, 480, .inl (nA bn)))] ∧ va_S A s.heap H locs ∧ 1 ≤ t ∧ t ≤ 41 ∧ bg = decide ((gp_rw (fun j => bn (gp_sl (j + 1) 0 0)) b (t - 1)) ≠ []) ∧ gp_hs g nn (L ++ (gp_rw (fun j => bn (gp_sl (j + 1) 0 0)) b (t - 1)))) ?_ (1, false, sg, n) ⟨lv_sub hl [0, 1, 2, 3, 4] rfl, hP, hD, hS, ⟨by decide, by decide, rfl, by rw [show 1 - 1 = 0 from rfl]; simpa [gp_rw] using hL⟩⟩
  intro x ls H locs hI ih
  obtain ⟨t, bg, g, nn⟩ := x
  obtain ⟨hl, hP, hD, hS, ⟨h1, h2, hbg, hz⟩⟩ := hI
  have hl : lv_has ls 5 [(4, .int (nI t)), (3, .int (bI bg)), (0, .ref shh), (1, .ref pl), (2, .int (nI b))] := hl
  have hP : va_P D vwCl [(shh, .inr (3, [.ref sha, .int (nI nn)])), (sha, .inl (cC, 240, .inl (nA g))), (pl, .inr (1, [.ref q1, .ref q2, .ref q3, .ref q4, .ref q5, .ref q6, .ref q7, .ref q8, .ref q9, .int (nI rg)])), (q1, .inl (cI, 480, .inl (nA bn)))] H := hP
  have hD : va_D A [(shh, .inr (3, [.ref sha, .int (nI nn)])), (sha, .inl (cC, 240, .inl (nA g))), (pl, .inr (1, [.ref q1, .ref q2, .ref q3, .ref q4, .ref q5, .ref q6, .ref q7, .ref q8, .ref q9, .int (nI rg)])), (q1, .inl (cI, 480, .inl (nA bn)))] := hD
  refine lv_iload hx hb d_Sh_writeBin_5 (lv_at hl 0 rfl) ?_
  refine lv_bipush (v := 40) hx hb d_Sh_writeBin_7 (by decide) ?_
  refine lv_icmp_gt (tgt := 69) hx hb d_Sh_writeBin_9 (by decide) (fun c9 => ?_) (fun c9 => ?_)
  · have c9 : 40 < t := (nI_ltI (a := 40) (b := t) (by omega) (by omega)).mp c9
    refine lv_iload_n hx hb d_Sh_writeBin_69 rfl (lv_at hl 1 rfl) ?_
    refine lv_if_eq (tgt := 79) hx hb d_Sh_writeBin_70 (by decide) (fun c70 => ?_) (fun c70 => ?_)
    · have c70 : bg = false := bI_0 c70
      have hem : gp_rw (fun j => bn (gp_sl (j + 1) 0 0)) b 40 = [] := by rw [hbg, show t - 1 = 40 by omega] at c70; simpa using c70
      exact ga_wv (g, nn) S hrt hlk hP hD hS (by rw [gp_ln, if_pos hem]; rw [show t - 1 = 40 by omega, hem] at hz; exact hz) d_Sh_writeBin_79
    · have c70 : bg = true := bI_1 c70
      have hne : gp_rw (fun j => bn (gp_sl (j + 1) 0 0)) b 40 ≠ [] := by rw [hbg, show t - 1 = 40 by omega] at c70; simpa using c70
      have hlen := gp_rw_room2 (L := L) hne hroom
      rw [show t - 1 = 40 by omega] at hz
      refine lv_aload_n hx hb d_Sh_writeBin_73 rfl (lv_at hl 2 rfl) ?_
      refine lv_bipush (v := 59) hx hb d_Sh_writeBin_74 (by decide) ?_
      refine ga_jv (wr := [(pl, .inr (1, [.ref q1, .ref q2, .ref q3, .ref q4, .ref q5, .ref q6, .ref q7, .ref q8, .ref q9, .int (nI rg)])), (q1, .inl (cI, 480, .inl (nA bn)))]) (ga_runV (As := [.int 59]) (rest := []) S hK s_Sh_33 (gc_Sh_put l D cI cZ cC cG shh sha nn 59 g (by have h0 := hz.1; have h9 := hlen; have h8 := gp_dl_le b; (try simp only [List.length_append, List.length_singleton, List.length_cons, List.length_nil] at h9 h0); (try simp only [List.length_append, List.length_singleton, List.length_cons, List.length_nil]); omega) (by omega) _) (ga_prV (y := y_Sh_put) (q0 := 0) hK hP hD [0, 1] rfl (by decide) rfl rfl) rfl hl.1 rfl (Nat.le_of_ble_eq_true rfl) ⟨Nat.le_of_ble_eq_true rfl, Nat.le_of_ble_eq_true rfl⟩ ⟨Nat.le_of_ble_eq_true rfl, Nat.le_of_ble_eq_true rfl⟩ d_Sh_writeBin_76) hP hD hS hA [0, 1] [2, 3] rfl rfl (by decide) (by decide) [2, 3, 0, 1] (fun _ => [(shh, .inr (3, [.ref sha, .int (nI ((gp_sp (g, nn) 59).2))])), (sha, .inl (cC, 240, .inl (nA ((gp_sp (g, nn) 59).1)))), (pl, .inr (1, [.ref q1, .ref q2, .ref q3, .ref q4, .ref q5, .ref q6, .ref q7, .ref q8, .ref q9, .int (nI rg)])), (q1, .inl (cI, 480, .inl (nA bn)))]) (fun _ => rfl) (by decide) (fun x H locs hp76 hP hD hS => ?_)
      obtain ⟨⟨g1, n1⟩, hg1⟩ : ∃ z, z = gp_sp (g, nn) 59 := ⟨_, rfl⟩
      rw [← hg1] at hP hD
      have hP : va_P D vwCl [(shh, .inr (3, [.ref sha, .int (nI n1)])), (sha, .inl (cC, 240, .inl (nA g1))), (pl, .inr (1, [.ref q1, .ref q2, .ref q3, .ref q4, .ref q5, .ref q6, .ref q7, .ref q8, .ref q9, .int (nI rg)])), (q1, .inl (cI, 480, .inl (nA bn)))] H := hP
      have hD : va_D A [(shh, .inr (3, [.ref sha, .int (nI n1)])), (sha, .inl (cC, 240, .inl (nA g1))), (pl, .inr (1, [.ref q1, .ref q2, .ref q3, .ref q4, .ref q5, .ref q6, .ref q7, .ref q8, .ref q9, .int (nI rg)])), (q1, .inl (cI, 480, .inl (nA bn)))] := hD
      have hg1z : gp_hs g1 n1 ((L ++ gp_rw (fun j => bn (gp_sl (j + 1) 0 0)) b 40) ++ [59]) := gp_hs_put hz (by have h9 := hlen; have h8 := gp_dl_le b; (try simp only [List.length_append, List.length_singleton, List.length_cons, List.length_nil] at h9); (try simp only [List.length_append, List.length_singleton, List.length_cons, List.length_nil]); omega) hg1
      exact ga_wv (g1, n1) S hrt hlk hP hD hS (by rw [gp_ln, if_neg hne]; simpa [List.append_assoc] using hg1z) d_Sh_writeBin_79
  · have c9 : ¬ (40 < t) := fun q => c9 ((nI_ltI (a := 40) (b := t) (by omega) (by omega)).mpr q)
    refine lv_aload_n hx hb d_Sh_writeBin_12 rfl (lv_at hl 3 rfl) ?_
    refine ga_get S hK hP 2 rfl f_Sh_23 rfl d_Sh_writeBin_13 ?_
    refine lv_iload hx hb d_Sh_writeBin_16 (lv_at hl 0 rfl) ?_
    refine lv_iconst (v := 0) hx hb d_Sh_writeBin_18 (by decide) ?_
    refine lv_iconst (v := 0) hx hb d_Sh_writeBin_19 (by decide) ?_
    refine ga_cs (As := [.int (nI t), .int 0, .int 0]) (rest := [.ref q1]) S hK hP s_Sh_29 (gc_SP_slot l D cI cZ cC cG t 0 0 (by omega)) [] rfl rfl hl.1 rfl (Nat.le_of_ble_eq_true rfl) ⟨Nat.le_of_ble_eq_true rfl, Nat.le_of_ble_eq_true rfl⟩ ⟨Nat.le_of_ble_eq_true rfl, Nat.le_of_ble_eq_true rfl⟩ d_Sh_writeBin_20 (fun r hp20 => ?_)
    subst hp20
    have hsl := gp_sl_lt (t := t) (p := 0) (s := 0) (by omega) (by omega) (by omega) (by omega)
    refine ga_ild S hK hP 3 0 rfl rfl (gp_sl t 0 0) (by omega) (by decide) d_Sh_writeBin_23 ?_
    have hb2 := hbn (gp_sl t 0 0)
    refine lv_iload_n hx hb d_Sh_writeBin_24 rfl (lv_at hl 4 rfl) ?_
    refine lv_icmp_eq (tgt := 31) hx hb d_Sh_writeBin_25 (by decide) (fun c25 => ?_) (fun c25 => ?_)
    · have c25 : (bn (gp_sl t 0 0)) = b := (nI_eq (a := (bn (gp_sl t 0 0))) (b := b) (by omega) (by omega)).mp c25
      have hlen := gp_rw_room (f := (fun j => bn (gp_sl (j + 1) 0 0))) (i := t - 1) (L := L) (by omega) (show bn (gp_sl (t - 1 + 1) 0 0) = b by rw [show t - 1 + 1 = t by omega]; exact c25) hroom
      refine lv_iload_n hx hb d_Sh_writeBin_31 rfl (lv_at hl 1 rfl) ?_
      refine lv_if_eq (tgt := 44) hx hb d_Sh_writeBin_32 (by decide) (fun c32 => ?_) (fun c32 => ?_)
      · have c32 : bg = false := bI_0 c32
        have hem : (gp_rw (fun j => bn (gp_sl (j + 1) 0 0)) b (t - 1)) = [] := by rw [hbg] at c32; simpa using c32
        refine lv_aload_n hx hb d_Sh_writeBin_44 rfl (lv_at hl 2 rfl) ?_
        refine lv_iload_n hx hb d_Sh_writeBin_45 rfl (lv_at hl 4 rfl) ?_
        refine ga_jv (wr := [(pl, .inr (1, [.ref q1, .ref q2, .ref q3, .ref q4, .ref q5, .ref q6, .ref q7, .ref q8, .ref q9, .int (nI rg)])), (q1, .inl (cI, 480, .inl (nA bn)))]) (ga_runV (As := [.int (nI b)]) (rest := []) S hK s_Sh_37 (gc_Sh_putNumber l D cI cZ cC cG shh sha nn b g (L ++ (gp_rw (fun j => bn (gp_sl (j + 1) 0 0)) b (t - 1))) (by omega) hz (by have h9 := hlen; have h8 := gp_dl_le b; (try simp only [List.length_append, List.length_singleton, List.length_cons, List.length_nil] at h9); (try simp only [List.length_append, List.length_singleton, List.length_cons, List.length_nil]); omega) _) (ga_prV (y := y_Sh_putNumber) (q0 := 0) hK hP hD [0, 1] rfl (by decide) rfl rfl) rfl hl.1 rfl (Nat.le_of_ble_eq_true rfl) ⟨Nat.le_of_ble_eq_true rfl, Nat.le_of_ble_eq_true rfl⟩ ⟨Nat.le_of_ble_eq_true rfl, Nat.le_of_ble_eq_true rfl⟩ d_Sh_writeBin_46) hP hD hS hA [0, 1] [2, 3] rfl rfl (by decide) (by decide) [2, 3, 0, 1] (fun (x : (Nat → Nat) × Nat) => [(shh, .inr (3, [.ref sha, .int (nI x.2)])), (sha, .inl (cC, 240, .inl (nA x.1))), (pl, .inr (1, [.ref q1, .ref q2, .ref q3, .ref q4, .ref q5, .ref q6, .ref q7, .ref q8, .ref q9, .int (nI rg)])), (q1, .inl (cI, 480, .inl (nA bn)))]) (fun _ => rfl) (by decide) (fun x H locs hp46 hP hD hS => ?_)
        obtain ⟨g3, n3⟩ := x
        have hP : va_P D vwCl [(shh, .inr (3, [.ref sha, .int (nI n3)])), (sha, .inl (cC, 240, .inl (nA g3))), (pl, .inr (1, [.ref q1, .ref q2, .ref q3, .ref q4, .ref q5, .ref q6, .ref q7, .ref q8, .ref q9, .int (nI rg)])), (q1, .inl (cI, 480, .inl (nA bn)))] H := hP
        have hD : va_D A [(shh, .inr (3, [.ref sha, .int (nI n3)])), (sha, .inl (cC, 240, .inl (nA g3))), (pl, .inr (1, [.ref q1, .ref q2, .ref q3, .ref q4, .ref q5, .ref q6, .ref q7, .ref q8, .ref q9, .int (nI rg)])), (q1, .inl (cI, 480, .inl (nA bn)))] := hD
        have hz3 : gp_hs g3 n3 ((L ++ (gp_rw (fun j => bn (gp_sl (j + 1) 0 0)) b (t - 1))) ++ gp_dl b) := hp46
        refine lv_aload_n hx hb d_Sh_writeBin_49 rfl (lv_at hl 2 rfl) ?_
        refine lv_bipush (v := 58) hx hb d_Sh_writeBin_50 (by decide) ?_
        refine ga_jv (wr := [(pl, .inr (1, [.ref q1, .ref q2, .ref q3, .ref q4, .ref q5, .ref q6, .ref q7, .ref q8, .ref q9, .int (nI rg)])), (q1, .inl (cI, 480, .inl (nA bn)))]) (ga_runV (As := [.int 58]) (rest := []) S hK s_Sh_33 (gc_Sh_put l D cI cZ cC cG shh sha n3 58 g3 (by have h0 := hz3.1; have h9 := hlen; have h8 := gp_dl_le b; (try simp only [List.length_append, List.length_singleton, List.length_cons, List.length_nil] at h9 h0); (try simp only [List.length_append, List.length_singleton, List.length_cons, List.length_nil]); omega) (by omega) _) (ga_prV (y := y_Sh_put) (q0 := 0) hK hP hD [0, 1] rfl (by decide) rfl rfl) rfl hl.1 rfl (Nat.le_of_ble_eq_true rfl) ⟨Nat.le_of_ble_eq_true rfl, Nat.le_of_ble_eq_true rfl⟩ ⟨Nat.le_of_ble_eq_true rfl, Nat.le_of_ble_eq_true rfl⟩ d_Sh_writeBin_52) hP hD hS hA [0, 1] [2, 3] rfl rfl (by decide) (by decide) [2, 3, 0, 1] (fun _ => [(shh, .inr (3, [.ref sha, .int (nI ((gp_sp (g3, n3) 58).2))])), (sha, .inl (cC, 240, .inl (nA ((gp_sp (g3, n3) 58).1)))), (pl, .inr (1, [.ref q1, .ref q2, .ref q3, .ref q4, .ref q5, .ref q6, .ref q7, .ref q8, .ref q9, .int (nI rg)])), (q1, .inl (cI, 480, .inl (nA bn)))]) (fun _ => rfl) (by decide) (fun x H locs hp52 hP hD hS => ?_)
        obtain ⟨⟨g4, n4⟩, hg4⟩ : ∃ z, z = gp_sp (g3, n3) 58 := ⟨_, rfl⟩
        rw [← hg4] at hP hD
        have hP : va_P D vwCl [(shh, .inr (3, [.ref sha, .int (nI n4)])), (sha, .inl (cC, 240, .inl (nA g4))), (pl, .inr (1, [.ref q1, .ref q2, .ref q3, .ref q4, .ref q5, .ref q6, .ref q7, .ref q8, .ref q9, .int (nI rg)])), (q1, .inl (cI, 480, .inl (nA bn)))] H := hP
        have hD : va_D A [(shh, .inr (3, [.ref sha, .int (nI n4)])), (sha, .inl (cC, 240, .inl (nA g4))), (pl, .inr (1, [.ref q1, .ref q2, .ref q3, .ref q4, .ref q5, .ref q6, .ref q7, .ref q8, .ref q9, .int (nI rg)])), (q1, .inl (cI, 480, .inl (nA bn)))] := hD
        have hg4z : gp_hs g4 n4 (((L ++ (gp_rw (fun j => bn (gp_sl (j + 1) 0 0)) b (t - 1))) ++ gp_dl b) ++ [58]) := gp_hs_put hz3 (by have h9 := hlen; have h8 := gp_dl_le b; (try simp only [List.length_append, List.length_singleton, List.length_cons, List.length_nil] at h9); (try simp only [List.length_append, List.length_singleton, List.length_cons, List.length_nil]); omega) hg4
        refine lv_iconst (v := 1) hx hb d_Sh_writeBin_55 (by decide) ?_
        refine lv_istore_n (lv' := [(3, .int 1), (4, .int (nI t)), (0, .ref shh), (1, .ref pl), (2, .int (nI b))]) hx hb d_Sh_writeBin_56 rfl hl (by decide) rfl (fun ls hl => ?_)
        refine lv_aload_n hx hb d_Sh_writeBin_57 rfl (lv_at hl 2 rfl) ?_
        refine lv_iload hx hb d_Sh_writeBin_58 (lv_at hl 1 rfl) ?_
        refine ga_jv (wr := [(pl, .inr (1, [.ref q1, .ref q2, .ref q3, .ref q4, .ref q5, .ref q6, .ref q7, .ref q8, .ref q9, .int (nI rg)])), (q1, .inl (cI, 480, .inl (nA bn)))]) (ga_runV (As := [.int (nI t)]) (rest := []) S hK s_Sh_37 (gc_Sh_putNumber l D cI cZ cC cG shh sha n4 t g4 (((L ++ (gp_rw (fun j => bn (gp_sl (j + 1) 0 0)) b (t - 1))) ++ gp_dl b) ++ [58]) (by omega) hg4z (by have h9 := hlen; have h8 := gp_dl_le b; (try simp only [List.length_append, List.length_singleton, List.length_cons, List.length_nil] at h9); (try simp only [List.length_append, List.length_singleton, List.length_cons, List.length_nil]); omega) _) (ga_prV (y := y_Sh_putNumber) (q0 := 0) hK hP hD [0, 1] rfl (by decide) rfl rfl) rfl hl.1 rfl (Nat.le_of_ble_eq_true rfl) ⟨Nat.le_of_ble_eq_true rfl, Nat.le_of_ble_eq_true rfl⟩ ⟨Nat.le_of_ble_eq_true rfl, Nat.le_of_ble_eq_true rfl⟩ d_Sh_writeBin_60) hP hD hS hA [0, 1] [2, 3] rfl rfl (by decide) (by decide) [2, 3, 0, 1] (fun (x : (Nat → Nat) × Nat) => [(shh, .inr (3, [.ref sha, .int (nI x.2)])), (sha, .inl (cC, 240, .inl (nA x.1))), (pl, .inr (1, [.ref q1, .ref q2, .ref q3, .ref q4, .ref q5, .ref q6, .ref q7, .ref q8, .ref q9, .int (nI rg)])), (q1, .inl (cI, 480, .inl (nA bn)))]) (fun _ => rfl) (by decide) (fun x H locs hp60 hP hD hS => ?_)
        obtain ⟨g5, n5⟩ := x
        have hP : va_P D vwCl [(shh, .inr (3, [.ref sha, .int (nI n5)])), (sha, .inl (cC, 240, .inl (nA g5))), (pl, .inr (1, [.ref q1, .ref q2, .ref q3, .ref q4, .ref q5, .ref q6, .ref q7, .ref q8, .ref q9, .int (nI rg)])), (q1, .inl (cI, 480, .inl (nA bn)))] H := hP
        have hD : va_D A [(shh, .inr (3, [.ref sha, .int (nI n5)])), (sha, .inl (cC, 240, .inl (nA g5))), (pl, .inr (1, [.ref q1, .ref q2, .ref q3, .ref q4, .ref q5, .ref q6, .ref q7, .ref q8, .ref q9, .int (nI rg)])), (q1, .inl (cI, 480, .inl (nA bn)))] := hD
        have hz5 : gp_hs g5 n5 ((((L ++ (gp_rw (fun j => bn (gp_sl (j + 1) 0 0)) b (t - 1))) ++ gp_dl b) ++ [58]) ++ gp_dl t) := hp60
        refine lv_iinc (v := nI (t + 1)) (lv' := [(4, .int (nI (t + 1))), (3, .int 1), (0, .ref shh), (1, .ref pl), (2, .int (nI b))]) hx hb d_Sh_writeBin_63 hl (k := 1) rfl (ga_inc t) (by decide) rfl (fun ls hl => ?_)
        refine lv_goto (tgt := 5) hx hb d_Sh_writeBin_66 (by decide) ?_
        exact ih (t + 1, true, g5, n5) _ _ _ (by show (41 - (t + 1)) < (41 - t); omega) ⟨lv_sub hl [0, 1, 2, 3, 4] rfl, hP, hD, hS, ⟨by omega, by omega, by rw [show t + 1 - 1 = (t - 1) + 1 by omega]; rw [gp_rw_h0 (f := (fun j => bn (gp_sl (j + 1) 0 0))) (i := t - 1) (show (fun j => bn (gp_sl (j + 1) 0 0)) (t - 1) = b by show bn (gp_sl (t - 1 + 1) 0 0) = b; rw [show t - 1 + 1 = t by omega]; exact c25) hem]; simp, by rw [show t + 1 - 1 = (t - 1) + 1 by omega]; rw [gp_rw_h0 (f := (fun j => bn (gp_sl (j + 1) 0 0))) (i := t - 1) (show (fun j => bn (gp_sl (j + 1) 0 0)) (t - 1) = b by show bn (gp_sl (t - 1 + 1) 0 0) = b; rw [show t - 1 + 1 = t by omega]; exact c25) hem, show t - 1 + 1 = t by omega]; simpa [List.append_assoc, hem] using hz5⟩⟩
      · have c32 : bg = true := bI_1 c32
        have hne : (gp_rw (fun j => bn (gp_sl (j + 1) 0 0)) b (t - 1)) ≠ [] := by rw [hbg] at c32; simpa using c32
        refine lv_aload_n hx hb d_Sh_writeBin_35 rfl (lv_at hl 2 rfl) ?_
        refine lv_bipush (v := 44) hx hb d_Sh_writeBin_36 (by decide) ?_
        refine ga_jv (wr := [(pl, .inr (1, [.ref q1, .ref q2, .ref q3, .ref q4, .ref q5, .ref q6, .ref q7, .ref q8, .ref q9, .int (nI rg)])), (q1, .inl (cI, 480, .inl (nA bn)))]) (ga_runV (As := [.int 44]) (rest := []) S hK s_Sh_33 (gc_Sh_put l D cI cZ cC cG shh sha nn 44 g (by have h0 := hz.1; have h9 := hlen; have h8 := gp_dl_le b; (try simp only [List.length_append, List.length_singleton, List.length_cons, List.length_nil] at h9 h0); (try simp only [List.length_append, List.length_singleton, List.length_cons, List.length_nil]); omega) (by omega) _) (ga_prV (y := y_Sh_put) (q0 := 0) hK hP hD [0, 1] rfl (by decide) rfl rfl) rfl hl.1 rfl (Nat.le_of_ble_eq_true rfl) ⟨Nat.le_of_ble_eq_true rfl, Nat.le_of_ble_eq_true rfl⟩ ⟨Nat.le_of_ble_eq_true rfl, Nat.le_of_ble_eq_true rfl⟩ d_Sh_writeBin_38) hP hD hS hA [0, 1] [2, 3] rfl rfl (by decide) (by decide) [2, 3, 0, 1] (fun _ => [(shh, .inr (3, [.ref sha, .int (nI ((gp_sp (g, nn) 44).2))])), (sha, .inl (cC, 240, .inl (nA ((gp_sp (g, nn) 44).1)))), (pl, .inr (1, [.ref q1, .ref q2, .ref q3, .ref q4, .ref q5, .ref q6, .ref q7, .ref q8, .ref q9, .int (nI rg)])), (q1, .inl (cI, 480, .inl (nA bn)))]) (fun _ => rfl) (by decide) (fun x H locs hp38 hP hD hS => ?_)
        obtain ⟨⟨g6, n6⟩, hg6⟩ : ∃ z, z = gp_sp (g, nn) 44 := ⟨_, rfl⟩
        rw [← hg6] at hP hD
        have hP : va_P D vwCl [(shh, .inr (3, [.ref sha, .int (nI n6)])), (sha, .inl (cC, 240, .inl (nA g6))), (pl, .inr (1, [.ref q1, .ref q2, .ref q3, .ref q4, .ref q5, .ref q6, .ref q7, .ref q8, .ref q9, .int (nI rg)])), (q1, .inl (cI, 480, .inl (nA bn)))] H := hP
        have hD : va_D A [(shh, .inr (3, [.ref sha, .int (nI n6)])), (sha, .inl (cC, 240, .inl (nA g6))), (pl, .inr (1, [.ref q1, .ref q2, .ref q3, .ref q4, .ref q5, .ref q6, .ref q7, .ref q8, .ref q9, .int (nI rg)])), (q1, .inl (cI, 480, .inl (nA bn)))] := hD
        have hg6z : gp_hs g6 n6 ((L ++ (gp_rw (fun j => bn (gp_sl (j + 1) 0 0)) b (t - 1))) ++ [44]) := gp_hs_put hz (by have h9 := hlen; have h8 := gp_dl_le b; (try simp only [List.length_append, List.length_singleton, List.length_cons, List.length_nil] at h9); (try simp only [List.length_append, List.length_singleton, List.length_cons, List.length_nil]); omega) hg6
        refine lv_goto (tgt := 57) hx hb d_Sh_writeBin_41 (by decide) ?_
        refine lv_aload_n hx hb d_Sh_writeBin_57 rfl (lv_at hl 2 rfl) ?_
        refine lv_iload hx hb d_Sh_writeBin_58 (lv_at hl 0 rfl) ?_
        refine ga_jv (wr := [(pl, .inr (1, [.ref q1, .ref q2, .ref q3, .ref q4, .ref q5, .ref q6, .ref q7, .ref q8, .ref q9, .int (nI rg)])), (q1, .inl (cI, 480, .inl (nA bn)))]) (ga_runV (As := [.int (nI t)]) (rest := []) S hK s_Sh_37 (gc_Sh_putNumber l D cI cZ cC cG shh sha n6 t g6 ((L ++ (gp_rw (fun j => bn (gp_sl (j + 1) 0 0)) b (t - 1))) ++ [44]) (by omega) hg6z (by have h9 := hlen; have h8 := gp_dl_le b; (try simp only [List.length_append, List.length_singleton, List.length_cons, List.length_nil] at h9); (try simp only [List.length_append, List.length_singleton, List.length_cons, List.length_nil]); omega) _) (ga_prV (y := y_Sh_putNumber) (q0 := 0) hK hP hD [0, 1] rfl (by decide) rfl rfl) rfl hl.1 rfl (Nat.le_of_ble_eq_true rfl) ⟨Nat.le_of_ble_eq_true rfl, Nat.le_of_ble_eq_true rfl⟩ ⟨Nat.le_of_ble_eq_true rfl, Nat.le_of_ble_eq_true rfl⟩ d_Sh_writeBin_60) hP hD hS hA [0, 1] [2, 3] rfl rfl (by decide) (by decide) [2, 3, 0, 1] (fun (x : (Nat → Nat) × Nat) => [(shh, .inr (3, [.ref sha, .int (nI x.2)])), (sha, .inl (cC, 240, .inl (nA x.1))), (pl, .inr (1, [.ref q1, .ref q2, .ref q3, .ref q4, .ref q5, .ref q6, .ref q7, .ref q8, .ref q9, .int (nI rg)])), (q1, .inl (cI, 480, .inl (nA bn)))]) (fun _ => rfl) (by decide) (fun x H locs hp60 hP hD hS => ?_)
        obtain ⟨g7, n7⟩ := x
        have hP : va_P D vwCl [(shh, .inr (3, [.ref sha, .int (nI n7)])), (sha, .inl (cC, 240, .inl (nA g7))), (pl, .inr (1, [.ref q1, .ref q2, .ref q3, .ref q4, .ref q5, .ref q6, .ref q7, .ref q8, .ref q9, .int (nI rg)])), (q1, .inl (cI, 480, .inl (nA bn)))] H := hP
        have hD : va_D A [(shh, .inr (3, [.ref sha, .int (nI n7)])), (sha, .inl (cC, 240, .inl (nA g7))), (pl, .inr (1, [.ref q1, .ref q2, .ref q3, .ref q4, .ref q5, .ref q6, .ref q7, .ref q8, .ref q9, .int (nI rg)])), (q1, .inl (cI, 480, .inl (nA bn)))] := hD
        have hz7 : gp_hs g7 n7 (((L ++ (gp_rw (fun j => bn (gp_sl (j + 1) 0 0)) b (t - 1))) ++ [44]) ++ gp_dl t) := hp60
        refine lv_iinc (v := nI (t + 1)) (lv' := [(4, .int (nI (t + 1))), (3, .int (bI bg)), (0, .ref shh), (1, .ref pl), (2, .int (nI b))]) hx hb d_Sh_writeBin_63 hl (k := 0) rfl (ga_inc t) (by decide) rfl (fun ls hl => ?_)
        refine lv_goto (tgt := 5) hx hb d_Sh_writeBin_66 (by decide) ?_
        exact ih (t + 1, bg, g7, n7) _ _ _ (by show (41 - (t + 1)) < (41 - t); omega) ⟨lv_sub hl [0, 1, 2, 3, 4] rfl, hP, hD, hS, ⟨by omega, by omega, by rw [show t + 1 - 1 = (t - 1) + 1 by omega]; rw [gp_rw_h1 (f := (fun j => bn (gp_sl (j + 1) 0 0))) (i := t - 1) (show (fun j => bn (gp_sl (j + 1) 0 0)) (t - 1) = b by show bn (gp_sl (t - 1 + 1) 0 0) = b; rw [show t - 1 + 1 = t by omega]; exact c25) hne, c32]; simp, by rw [show t + 1 - 1 = (t - 1) + 1 by omega]; rw [gp_rw_h1 (f := (fun j => bn (gp_sl (j + 1) 0 0))) (i := t - 1) (show (fun j => bn (gp_sl (j + 1) 0 0)) (t - 1) = b by show bn (gp_sl (t - 1 + 1) 0 0) = b; rw [show t - 1 + 1 = t by omega]; exact c25) hne, show t - 1 + 1 = t by omega]; simpa [List.append_assoc] using hz7⟩⟩
    · have c25 : ¬ ((bn (gp_sl t 0 0)) = b) := fun q => c25 ((nI_eq (a := (bn (gp_sl t 0 0))) (b := b) (by omega) (by omega)).mpr q)
      refine lv_goto (tgt := 63) hx hb d_Sh_writeBin_28 (by decide) ?_
      refine lv_iinc (v := nI (t + 1)) (lv' := [(4, .int (nI (t + 1))), (3, .int (bI bg)), (0, .ref shh), (1, .ref pl), (2, .int (nI b))]) hx hb d_Sh_writeBin_63 hl (k := 0) rfl (ga_inc t) (by decide) rfl (fun ls hl => ?_)
      refine lv_goto (tgt := 5) hx hb d_Sh_writeBin_66 (by decide) ?_
      exact ih (t + 1, bg, g, nn) _ _ _ (by show (41 - (t + 1)) < (41 - t); omega) ⟨lv_sub hl [0, 1, 2, 3, 4] rfl, hP, hD, hS, ⟨by omega, by omega, by rw [show t + 1 - 1 = (t - 1) + 1 by omega]; rw [gp_rw_no (f := (fun j => bn (gp_sl (j + 1) 0 0))) (i := t - 1) (show (fun j => bn (gp_sl (j + 1) 0 0)) (t - 1) ≠ b by show bn (gp_sl (t - 1 + 1) 0 0) ≠ b; rw [show t - 1 + 1 = t by omega]; exact c25)]; exact hbg, by rw [show t + 1 - 1 = (t - 1) + 1 by omega]; rw [gp_rw_no (f := (fun j => bn (gp_sl (j + 1) 0 0))) (i := t - 1) (show (fun j => bn (gp_sl (j + 1) 0 0)) (t - 1) ≠ b by show bn (gp_sl (t - 1 + 1) 0 0) ≠ b; rw [show t - 1 + 1 = t by omega]; exact c25)]; exact hz⟩⟩
set_option maxHeartbeats 4000000 in
set_option maxRecDepth 100000 in
theorem gc_Sh_write (l : Launch) (D : va_G) (cI cZ cC cG : ClassId) (shh sha n : Nat) (sg : Nat → Nat) (pl q1 q2 q3 q4 q5 q6 q7 q8 q9 : Nat) (rg : Nat) (bn : Nat → Nat) (hbn : ∀ j, bn j ≤ 60) : ga_Mv l y_Sh_write b_Sh_write 3 3 0 0 D (ga_T cI cZ cC cG) [.ref shh, .ref pl] [(shh, .inr (3, [.ref sha, .int (nI n)])), (sha, .inl (cC, 240, .inl (nA sg))), (pl, .inr (1, [.ref q1, .ref q2, .ref q3, .ref q4, .ref q5, .ref q6, .ref q7, .ref q8, .ref q9, .int (nI rg)])), (q1, .inl (cI, 480, .inl (nA bn)))] (fun (x : (Nat → Nat) × Nat) => [(shh, .inr (3, [.ref sha, .int (nI x.2)])), (sha, .inl (cC, 240, .inl (nA x.1))), (pl, .inr (1, [.ref q1, .ref q2, .ref q3, .ref q4, .ref q5, .ref q6, .ref q7, .ref q8, .ref q9, .int (nI rg)])), (q1, .inl (cI, 480, .inl (nA bn)))]) (fun x => gp_hs x.1 x.2 (gp_ou (fun j => bn (gp_sl (j + 1) 0 0)) 60)) := by
  refine ga_enV (by decide) (Nat.le_of_ble_eq_true rfl) ?_
  intro p e s m below meth c ls A S hrt hlk hnm hK hP hD hA hl
  have hS : va_S A s.heap s.heap [] := va_S.rf
  obtain ⟨hx, hb, hml, hown, hts⟩ := id S
  have hl : lv_has ls 3 [(0, .ref shh), (1, .ref pl)] := hl
  refine lv_aload_n hx hb d_Sh_write_0 rfl (lv_at hl 0 rfl) ?_
  refine lv_iconst (v := 0) hx hb d_Sh_write_1 (by decide) ?_
  refine ga_put (ws' := [(shh, .inr (3, [.ref sha, .int 0])), (sha, .inl (cC, 240, .inl (nA sg))), (pl, .inr (1, [.ref q1, .ref q2, .ref q3, .ref q4, .ref q5, .ref q6, .ref q7, .ref q8, .ref q9, .int (nI rg)])), (q1, .inl (cI, 480, .inl (nA bn)))]) S hK hP hD hS 0 rfl p_Sh_15 rfl rfl (Nat.le_of_ble_eq_true rfl) rfl d_Sh_write_2 (fun H locs hP hD hS => ?_)
  refine lv_iconst (v := 1) hx hb d_Sh_write_5 (by decide) ?_
  refine lv_istore_n (lv' := [(2, .int 1), (0, .ref shh), (1, .ref pl)]) hx hb d_Sh_write_6 rfl hl (by decide) rfl (fun ls hl => ?_)
  refine ga_loop (α := Nat × (Nat → Nat) × Nat) (fun x => match x with | (b, g, nn) => 61 - b) (fun x ls H locs => match x with | (b, g, nn) => lv_has ls 3 [(2, .int (nI b)), (0, .ref shh), (1, .ref pl)] ∧ va_P D vwCl [(shh, .inr (3, [.ref sha, .int (nI nn)])), (sha, .inl (cC, 240, .inl (nA g))), (pl, .inr (1, [.ref q1, .ref q2, .ref q3, .ref q4, .ref q5, .ref q6, .ref q7, .ref q8, .ref q9, .int (nI rg)])), (q1, .inl (cI, 480, .inl (nA bn)))] H ∧ va_D A [(shh, .inr (3, [.ref sha, .int (nI nn)])), (sha, .inl (cC, 240, .inl (nA g))), (pl, .inr (1, [.ref q1, .ref q2, .ref q3, .ref q4, .ref q5, .ref q6, .ref q7, .ref q8, .ref q9, .int (nI rg)])), (q1, .inl (cI, 480, .inl (nA bn)))] ∧ va_S A s.heap H locs ∧ 1 ≤ b ∧ b ≤ 61 ∧ gp_hs g nn (gp_ou (fun j => bn (gp_sl (j + 1) 0 0)) (b - 1))) ?_ (1, sg, 0) ⟨lv_sub hl [0, 1, 2] rfl, hP, hD, hS, ⟨by decide, by decide, gp_hs_0 _⟩⟩
  intro x ls H locs hI ih
  obtain ⟨b, g, nn⟩ := x
  obtain ⟨hl, hP, hD, hS, ⟨h1, h2, hz⟩⟩ := hI
  have hl : lv_has ls 3 [(2, .int (nI b)), (0, .ref shh), (1, .ref pl)] := hl
  have hP : va_P D vwCl [(shh, .inr (3, [.ref sha, .int (nI nn)])), (sha, .inl (cC, 240, .inl (nA g))), (pl, .inr (1, [.ref q1, .ref q2, .ref q3, .ref q4, .ref q5, .ref q6, .ref q7, .ref q8, .ref q9, .int (nI rg)])), (q1, .inl (cI, 480, .inl (nA bn)))] H := hP
  have hD : va_D A [(shh, .inr (3, [.ref sha, .int (nI nn)])), (sha, .inl (cC, 240, .inl (nA g))), (pl, .inr (1, [.ref q1, .ref q2, .ref q3, .ref q4, .ref q5, .ref q6, .ref q7, .ref q8, .ref q9, .int (nI rg)])), (q1, .inl (cI, 480, .inl (nA bn)))] := hD
  refine lv_iload_n hx hb d_Sh_write_7 rfl (lv_at hl 0 rfl) ?_
  refine lv_bipush (v := 60) hx hb d_Sh_write_8 (by decide) ?_
  refine lv_icmp_gt (tgt := 25) hx hb d_Sh_write_10 (by decide) (fun c10 => ?_) (fun c10 => ?_)
  · have c10 : 60 < b := (nI_ltI (a := 60) (b := b) (by omega) (by omega)).mp c10
    exact ga_wv (g, nn) S hrt hlk hP hD hS (by rw [show 60 = b - 1 by omega]; exact hz) d_Sh_write_25
  · have c10 : ¬ (60 < b) := fun q => c10 ((nI_ltI (a := 60) (b := b) (by omega) (by omega)).mpr q)
    refine lv_aload_n hx hb d_Sh_write_13 rfl (lv_at hl 1 rfl) ?_
    refine lv_aload_n hx hb d_Sh_write_14 rfl (lv_at hl 2 rfl) ?_
    refine lv_iload_n hx hb d_Sh_write_15 rfl (lv_at hl 0 rfl) ?_
    refine ga_jv (wr := []) (ga_runV (As := [.ref pl, .int (nI b)]) (rest := []) S hK s_Sh_19 (gc_Sh_writeBin l D cI cZ cC cG shh sha nn b g (gp_ou (fun j => bn (gp_sl (j + 1) 0 0)) (b - 1)) pl q1 q2 q3 q4 q5 q6 q7 q8 q9 rg bn (by omega) hbn hz (by have := gp_ou_room (fun j => bn (gp_sl (j + 1) 0 0)) (b - 1); rw [show b - 1 + 1 = b by omega] at this; exact this) _) (ga_prV (y := y_Sh_writeBin) (q0 := 0) hK hP hD [0, 1, 2, 3] rfl (by decide) rfl rfl) rfl hl.1 rfl (Nat.le_of_ble_eq_true rfl) ⟨Nat.le_of_ble_eq_true rfl, Nat.le_of_ble_eq_true rfl⟩ ⟨Nat.le_of_ble_eq_true rfl, Nat.le_of_ble_eq_true rfl⟩ d_Sh_write_16) hP hD hS hA [0, 1, 2, 3] [] rfl rfl (by decide) (by decide) [0, 1, 2, 3] (fun (x : (Nat → Nat) × Nat) => [(shh, .inr (3, [.ref sha, .int (nI x.2)])), (sha, .inl (cC, 240, .inl (nA x.1))), (pl, .inr (1, [.ref q1, .ref q2, .ref q3, .ref q4, .ref q5, .ref q6, .ref q7, .ref q8, .ref q9, .int (nI rg)])), (q1, .inl (cI, 480, .inl (nA bn)))]) (fun _ => rfl) (by decide) (fun x H locs hp16 hP hD hS => ?_)
    obtain ⟨g1, n1⟩ := x
    have hP : va_P D vwCl [(shh, .inr (3, [.ref sha, .int (nI n1)])), (sha, .inl (cC, 240, .inl (nA g1))), (pl, .inr (1, [.ref q1, .ref q2, .ref q3, .ref q4, .ref q5, .ref q6, .ref q7, .ref q8, .ref q9, .int (nI rg)])), (q1, .inl (cI, 480, .inl (nA bn)))] H := hP
    have hD : va_D A [(shh, .inr (3, [.ref sha, .int (nI n1)])), (sha, .inl (cC, 240, .inl (nA g1))), (pl, .inr (1, [.ref q1, .ref q2, .ref q3, .ref q4, .ref q5, .ref q6, .ref q7, .ref q8, .ref q9, .int (nI rg)])), (q1, .inl (cI, 480, .inl (nA bn)))] := hD
    refine lv_iinc (v := nI (b + 1)) (lv' := [(2, .int (nI (b + 1))), (0, .ref shh), (1, .ref pl)]) hx hb d_Sh_write_19 hl (k := 0) rfl (ga_inc b) (by decide) rfl (fun ls hl => ?_)
    refine lv_goto (tgt := 7) hx hb d_Sh_write_22 (by decide) ?_
    exact ih (b + 1, g1, n1) _ _ _ (by show (61 - (b + 1)) < (61 - b); omega) ⟨lv_sub hl [0, 1, 2] rfl, hP, hD, hS, ⟨by omega, by omega, by rw [show b + 1 - 1 = (b - 1) + 1 by omega, gp_ou, show b - 1 + 1 = b by omega]; exact hp16⟩⟩
end
section
theorem ko_i : Cond.instanceMethod objectInit ∈ gw := gw_at 46 (by decide +kernel) (by decide +kernel)
theorem ko_c : Cond.code objectInit ⟨#[0xb1]⟩ 1 none ∈ gw := gw_at 47 (by decide +kernel) (by decide +kernel)
theorem oi_SP_3 : Cond.methodLink "SortPlans" 3 objectInit ∈ gw := gw_at 45 (by decide +kernel) (by decide +kernel)
theorem oi_Re_3 : Cond.methodLink "SortPlans$Reading" 3 objectInit ∈ gw := gw_at 53 (by decide +kernel) (by decide +kernel)
theorem oi_Te_1 : Cond.methodLink "SortPlans$Text" 1 objectInit ∈ gw := gw_at 59 (by decide +kernel) (by decide +kernel)
theorem ac_char : Cond.arrayClass .char ∈ gw := gw_at 69 (by decide +kernel) (by decide +kernel)
theorem oi_Pl_5 : Cond.methodLink "SortPlans$Plan" 5 objectInit ∈ gw := gw_at 75 (by decide +kernel) (by decide +kernel)
theorem ac_int : Cond.arrayClass .int ∈ gw := gw_at 113 (by decide +kernel) (by decide +kernel)
theorem ac_boolean : Cond.arrayClass .boolean ∈ gw := gw_at 114 (by decide +kernel) (by decide +kernel)
theorem oi_Fa_3 : Cond.methodLink "SortPlans$Faults" 3 objectInit ∈ gw := gw_at 135 (by decide +kernel) (by decide +kernel)
theorem oi_Sh_3 : Cond.methodLink "SortPlans$Sheet" 3 objectInit ∈ gw := gw_at 149 (by decide +kernel) (by decide +kernel)
theorem cl_SP_30 : Cond.classLink "SortPlans" 30 "[[I" ∈ gw := gw_at 157 (by decide +kernel) (by decide +kernel)
theorem sy_SP_134 : Cond.methodLink "SortPlans" 134 arraycopyName ∈ gw := gw_at 270 (by decide +kernel) (by decide +kernel)
theorem oi_Mo_1 : Cond.methodLink "SortPlansModel" 1 objectInit ∈ gw := gw_at 398 (by decide +kernel) (by decide +kernel)
theorem sy_n : Cond.native arraycopyName ∈ gw := gw_at 272 (by decide +kernel) (by decide +kernel)
theorem sy_s : Cond.static arraycopyName ∈ gw := gw_at 271 (by decide +kernel) (by decide +kernel)
theorem sy_i : Cond.initialized "java/lang/System" ∈ gw := gw_at 39 (by decide +kernel) (by decide +kernel)
section GM
variable {p : Program} {l : Launch} {e : Env} {R : Room} {s : State} {m : MethodId} {args : Array Value} {below : List Frame} {meth : Method} {c : Code} {H : Heap} {locs : List Loc} {cells slots : Nat} {Q : State → Prop}
variable {cc : ByteArray} {nL pc : Nat} {own : String} {ls : Array Slot} {rest st0 : List Value} {D : va_G} {tys : List (ClassId × FieldType)} {ws ws' : va_W} {A : Nat → Prop} {a : Nat}
theorem ga_oi {index o : Nat} (S : CallFix p m c cc nL s args gw own) (hl : ls.size = nL) (h : Cond.methodLink own index objectInit ∈ gw) (hd : decode cc pc = .ok (.invokespecial index, 3)) (hf : 1 ≤ R.frames) (hlo : 2 * (F0 m pc ls (.ref o :: rest)).monitorRoom + (rest.map fun v => v.category).sum + 12 ≤ R.locals) (kk : W p l e R s m args below meth c H locs cells slots Q (F0 m (pc + 3) ls rest)) : W p l e R s m args below meth c H locs cells slots Q (F0 m pc ls (.ref o :: rest)) :=
  W.objInit S.1 S.2.1 S.2.2.2.1 (S.2.2.2.2 _ h) (S.2.2.2.2 _ ko_i) (S.2.2.2.2 _ ko_c) rfl (by rw [S.2.2.1]; exact hl) rfl hd hf hlo kk
theorem ga_zd : ∀ c : ClassId, Jvm.Free.Multi.innerC c 480 (defaultValue .int) = vp_cell c (480, .inl (nA (fun _ => 0))) := fun c => arrV_new c 480 (.int 0)
set_option maxRecDepth 20000 in
/-- new int[8][480] -/
theorem ga_mna {cI cG : ClassId} {index : Nat} (S : CallFix p m c cc nL s args gw own) (hK : ga_K D tys s) (hP : va_P D vwCl ws H) (hD : va_D A ws) (hS : va_S A s.heap H locs) (hA : ∀ q, s.heap.size ≤ q → A q) (ht0 : tys[0]? = some (cI, .int)) (ht3 : tys[3]? = some (cG, .array .int)) (hcl : Cond.classLink own index "[[I" ∈ gw) (hcells : cells + (1 + 8) ≤ R.cells) (hslots : slots + (8 + 8 * 480) ≤ R.slots) (hdg : decode cc pc = .ok (.multianewarray index 2, 4))
    (kk : ∀ (q : Nat) (r : Nat → Nat) (H1 : Heap), va_P D vwCl (ws ++ ((q, .inl (cG, 8, .inr (.inr (.inr (.inr (fun i => if i < 8 then some (r i) else none)))))) :: (List.range 8).map (fun i => (r i, .inl (cI, 480, .inl (nA (fun _ => 0))))))) H1 → va_D A (ws ++ ((q, .inl (cG, 8, .inr (.inr (.inr (.inr (fun i => if i < 8 then some (r i) else none)))))) :: (List.range 8).map (fun i => (r i, .inl (cI, 480, .inl (nA (fun _ => 0))))))) → va_S A s.heap H1 locs → W p l e R s m args below meth c H1 locs (cells + 1 + 8) (slots + 8 + 8 * 480) Q (F0 m (pc + 4) ls (.ref q :: rest))) : W p l e R s m args below meth c H locs cells slots Q (F0 m pc ls (.int 480 :: .int 8 :: rest)) := by
  have e1 : "[" ++ (FieldType.array .int).toString = "[[I" := by decide
  have hc1 := S.2.2.2.2 _ hcl
  rw [← e1] at hc1
  have hI : s.vm.findClass (FieldType.array .int).toString = some cI := (hK.1.2 0 _ ht0).2
  have hG : s.vm.findClass ("[" ++ (FieldType.array .int).toString) = some cG := (hK.1.2 3 _ ht3).2
  refine va_mna (X := ws) (L := []) (f := fun _ => .inl (cI, 480, .inl (nA (fun _ => 0)))) (N' := 8) (K' := 480) (ty := .int) S.1 S.2.1 S.2.2.2.1 hc1 hK.2.2 (S.2.2.2.2 _ ac_int) hI hK.1 (by simpa [va_pl] using hP) (by simpa [va_pl] using hD) hS hA (by decide) (by decide) (by decide) (by decide) (by decide) (by decide) (by decide) rfl rfl hcells hslots ga_zd hdg (fun q r cA H1 _ _ hK1 hP1 hD1 hS1 => ?_)
  have hA2 : s.vm.findClass ("[" ++ (FieldType.array .int).toString) = some cA := (hK1.2 tys.length (cA, .array .int) (by simp)).2
  obtain rfl : cA = cG := Option.some.inj (hA2.symm.trans hG)
  have ew : va_pl ([] ++ (List.range 8).map r) (vr_up (fun _ => .inl (cI, 480, .inl (nA (fun _ => 0)))) ((List.range 8).map r) (.inl (cI, 480, .inl (nA (fun _ => 0))))) = (List.range 8).map (fun i => (r i, .inl (cI, 480, .inl (nA (fun _ => 0))))) := by
    unfold va_pl
    rw [List.nil_append, List.map_map]
    apply List.map_congr_left
    intro i hi
    show (r i, vr_up _ _ _ (r i)) = _
    rw [vr_up_in (List.mem_map.mpr ⟨i, hi, rfl⟩)]
  rw [ew, List.append_assoc] at hP1 hD1
  exact kk q r H1 hP1 hD1 hS1
end GM
end
section
set_option maxHeartbeats 4000000 in
set_option maxRecDepth 100000 in
theorem gc_Te_init (l : Launch) (D : va_G) (cI cZ cC cG : ClassId) (ob : Nat) : ga_Mv l y_Te_init b_Te_init 1 1 1 600 D (ga_T cI cZ cC cG) [.ref ob] [(ob, .inr (4, [.null, .int 0]))] (fun (x : Nat) => [(ob, .inr (4, [.ref x, .int 0])), (x, .inl (cC, 600, .inl (nA (fun _ => 0))))]) (fun x => True) := by
  refine ga_enV (by decide) (Nat.le_of_ble_eq_true rfl) ?_
  intro p e s m below meth c ls A S hrt hlk hnm hK hP hD hA hl
  have hS : va_S A s.heap s.heap [] := va_S.rf
  obtain ⟨hx, hb, hml, hown, hts⟩ := id S
  have hl : lv_has ls 1 [(0, .ref ob)] := hl
  refine lv_aload_n hx hb d_Te_init_0 rfl (lv_at hl 0 rfl) ?_
  refine ga_oi S hl.1 oi_Te_1 d_Te_init_1 (Nat.le_of_ble_eq_true rfl) (Nat.le_of_ble_eq_true rfl) ?_
  refine lv_aload_n hx hb d_Te_init_4 rfl (lv_at hl 0 rfl) ?_
  refine lv_sipush (v := 600) hx hb d_Te_init_5 (by decide) ?_
  refine ga_newa (atype := .char) (ty := .char) (N' := 600) (a0 := (600, .inl (nA (fun _ => 0)))) S hK hP hD hS hA ac_char rfl (fun _ _ h => h) 2 rfl (fun _ => rfl) (by decide) (by decide) (by decide) (Nat.le_of_ble_eq_true rfl) (Nat.le_of_ble_eq_true rfl) d_Te_init_8 (fun na H hP hD hS => ?_)
  have hP : va_P D vwCl [(ob, .inr (4, [.null, .int 0])), (na, .inl (cC, 600, .inl (nA (fun _ => 0))))] H := hP
  have hD : va_D A [(ob, .inr (4, [.null, .int 0])), (na, .inl (cC, 600, .inl (nA (fun _ => 0))))] := hD
  refine ga_putF (ws' := [(ob, .inr (4, [.ref na, .int 0])), (na, .inl (cC, 600, .inl (nA (fun _ => 0))))]) S hnm hK hP hD hS 0 rfl p_Te_9 rfl rfl (Nat.le_of_ble_eq_true rfl) rfl d_Te_init_10 (fun H locs hP hD hS => ?_)
  exact ga_wv na S hrt hlk hP hD hS trivial d_Te_init_13
set_option maxHeartbeats 4000000 in
set_option maxRecDepth 100000 in
theorem gc_Fa_init (l : Launch) (D : va_G) (cI cZ cC cG : ClassId) (ob : Nat) : ga_Mv l y_Fa_init b_Fa_init 1 1 1 500 D (ga_T cI cZ cC cG) [.ref ob] [(ob, .inr (0, [.null, .int 0]))] (fun (x : Nat) => [(ob, .inr (0, [.ref x, .int 0])), (x, .inl (cI, 500, .inl (nA (fun _ => 0))))]) (fun x => True) := by
  refine ga_enV (by decide) (Nat.le_of_ble_eq_true rfl) ?_
  intro p e s m below meth c ls A S hrt hlk hnm hK hP hD hA hl
  have hS : va_S A s.heap s.heap [] := va_S.rf
  obtain ⟨hx, hb, hml, hown, hts⟩ := id S
  have hl : lv_has ls 1 [(0, .ref ob)] := hl
  refine lv_aload_n hx hb d_Fa_init_0 rfl (lv_at hl 0 rfl) ?_
  refine ga_oi S hl.1 oi_Fa_3 d_Fa_init_1 (Nat.le_of_ble_eq_true rfl) (Nat.le_of_ble_eq_true rfl) ?_
  refine lv_aload_n hx hb d_Fa_init_4 rfl (lv_at hl 0 rfl) ?_
  refine lv_sipush (v := 500) hx hb d_Fa_init_5 (by decide) ?_
  refine ga_newa (atype := .int) (ty := .int) (N' := 500) (a0 := (500, .inl (nA (fun _ => 0)))) S hK hP hD hS hA ac_int rfl (fun _ _ h => h) 0 rfl (fun _ => rfl) (by decide) (by decide) (by decide) (Nat.le_of_ble_eq_true rfl) (Nat.le_of_ble_eq_true rfl) d_Fa_init_8 (fun na H hP hD hS => ?_)
  have hP : va_P D vwCl [(ob, .inr (0, [.null, .int 0])), (na, .inl (cI, 500, .inl (nA (fun _ => 0))))] H := hP
  have hD : va_D A [(ob, .inr (0, [.null, .int 0])), (na, .inl (cI, 500, .inl (nA (fun _ => 0))))] := hD
  refine ga_putF (ws' := [(ob, .inr (0, [.ref na, .int 0])), (na, .inl (cI, 500, .inl (nA (fun _ => 0))))]) S hnm hK hP hD hS 0 rfl p_Fa_11 rfl rfl (Nat.le_of_ble_eq_true rfl) rfl d_Fa_init_10 (fun H locs hP hD hS => ?_)
  exact ga_wv na S hrt hlk hP hD hS trivial d_Fa_init_13
set_option maxHeartbeats 4000000 in
set_option maxRecDepth 100000 in
theorem gc_Sh_init (l : Launch) (D : va_G) (cI cZ cC cG : ClassId) (ob : Nat) : ga_Mv l y_Sh_init b_Sh_init 1 1 1 240 D (ga_T cI cZ cC cG) [.ref ob] [(ob, .inr (3, [.null, .int 0]))] (fun (x : Nat) => [(ob, .inr (3, [.ref x, .int 0])), (x, .inl (cC, 240, .inl (nA (fun _ => 0))))]) (fun x => True) := by
  refine ga_enV (by decide) (Nat.le_of_ble_eq_true rfl) ?_
  intro p e s m below meth c ls A S hrt hlk hnm hK hP hD hA hl
  have hS : va_S A s.heap s.heap [] := va_S.rf
  obtain ⟨hx, hb, hml, hown, hts⟩ := id S
  have hl : lv_has ls 1 [(0, .ref ob)] := hl
  refine lv_aload_n hx hb d_Sh_init_0 rfl (lv_at hl 0 rfl) ?_
  refine ga_oi S hl.1 oi_Sh_3 d_Sh_init_1 (Nat.le_of_ble_eq_true rfl) (Nat.le_of_ble_eq_true rfl) ?_
  refine lv_aload_n hx hb d_Sh_init_4 rfl (lv_at hl 0 rfl) ?_
  refine lv_sipush (v := 240) hx hb d_Sh_init_5 (by decide) ?_
  refine ga_newa (atype := .char) (ty := .char) (N' := 240) (a0 := (240, .inl (nA (fun _ => 0)))) S hK hP hD hS hA ac_char rfl (fun _ _ h => h) 2 rfl (fun _ => rfl) (by decide) (by decide) (by decide) (Nat.le_of_ble_eq_true rfl) (Nat.le_of_ble_eq_true rfl) d_Sh_init_8 (fun na H hP hD hS => ?_)
  have hP : va_P D vwCl [(ob, .inr (3, [.null, .int 0])), (na, .inl (cC, 240, .inl (nA (fun _ => 0))))] H := hP
  have hD : va_D A [(ob, .inr (3, [.null, .int 0])), (na, .inl (cC, 240, .inl (nA (fun _ => 0))))] := hD
  refine ga_putF (ws' := [(ob, .inr (3, [.ref na, .int 0])), (na, .inl (cC, 240, .inl (nA (fun _ => 0))))]) S hnm hK hP hD hS 0 rfl p_Sh_11 rfl rfl (Nat.le_of_ble_eq_true rfl) rfl d_Sh_init_10 (fun H locs hP hD hS => ?_)
  exact ga_wv na S hrt hlk hP hD hS trivial d_Sh_init_13
set_option maxHeartbeats 4000000 in
set_option maxRecDepth 100000 in
theorem gc_Pl_init (l : Launch) (D : va_G) (cI cZ cC cG : ClassId) (ob : Nat) : ga_Mv l y_Pl_init b_Pl_init 1 1 9 1367 D (ga_T cI cZ cC cG) [.ref ob] [(ob, .inr (1, [.null, .null, .null, .null, .null, .null, .null, .null, .null, .int 0]))] (fun (x : Nat × Nat × Nat × Nat × Nat × Nat × Nat × Nat × Nat) => [(ob, .inr (1, [.ref x.1, .ref x.2.1, .ref x.2.2.1, .ref x.2.2.2.1, .ref x.2.2.2.2.1, .ref x.2.2.2.2.2.1, .ref x.2.2.2.2.2.2.1, .ref x.2.2.2.2.2.2.2.1, .ref x.2.2.2.2.2.2.2.2, .int 0])), (x.1, .inl (cI, 480, .inl (nA (fun _ => 0)))), (x.2.1, .inl (cZ, 480, .inl (zA (fun _ => false)))), (x.2.2.1, .inl (cZ, 41, .inl (zA (fun _ => false)))), (x.2.2.2.1, .inl (cZ, 41, .inl (zA (fun _ => false)))), (x.2.2.2.2.1, .inl (cI, 61, .inl (nA (fun _ => 0)))), (x.2.2.2.2.2.1, .inl (cI, 66, .inl (nA (fun _ => 0)))), (x.2.2.2.2.2.2.1, .inl (cI, 66, .inl (nA (fun _ => 0)))), (x.2.2.2.2.2.2.2.1, .inl (cI, 66, .inl (nA (fun _ => 0)))), (x.2.2.2.2.2.2.2.2, .inl (cI, 66, .inl (nA (fun _ => 0))))]) (fun x => True) := by
  refine ga_enV (by decide) (Nat.le_of_ble_eq_true rfl) ?_
  intro p e s m below meth c ls A S hrt hlk hnm hK hP hD hA hl
  have hS : va_S A s.heap s.heap [] := va_S.rf
  obtain ⟨hx, hb, hml, hown, hts⟩ := id S
  have hl : lv_has ls 1 [(0, .ref ob)] := hl
  refine lv_aload_n hx hb d_Pl_init_0 rfl (lv_at hl 0 rfl) ?_
  refine ga_oi S hl.1 oi_Pl_5 d_Pl_init_1 (Nat.le_of_ble_eq_true rfl) (Nat.le_of_ble_eq_true rfl) ?_
  refine lv_aload_n hx hb d_Pl_init_4 rfl (lv_at hl 0 rfl) ?_
  refine lv_sipush (v := 480) hx hb d_Pl_init_5 (by decide) ?_
  refine ga_newa (atype := .int) (ty := .int) (N' := 480) (a0 := (480, .inl (nA (fun _ => 0)))) S hK hP hD hS hA ac_int rfl (fun _ _ h => h) 0 rfl (fun _ => rfl) (by decide) (by decide) (by decide) (Nat.le_of_ble_eq_true rfl) (Nat.le_of_ble_eq_true rfl) d_Pl_init_8 (fun z1 H hP hD hS => ?_)
  have hP : va_P D vwCl [(ob, .inr (1, [.null, .null, .null, .null, .null, .null, .null, .null, .null, .int 0])), (z1, .inl (cI, 480, .inl (nA (fun _ => 0))))] H := hP
  have hD : va_D A [(ob, .inr (1, [.null, .null, .null, .null, .null, .null, .null, .null, .null, .int 0])), (z1, .inl (cI, 480, .inl (nA (fun _ => 0))))] := hD
  refine ga_putF (ws' := [(ob, .inr (1, [.ref z1, .null, .null, .null, .null, .null, .null, .null, .null, .int 0])), (z1, .inl (cI, 480, .inl (nA (fun _ => 0))))]) S hnm hK hP hD hS 0 rfl p_Pl_11 rfl rfl (Nat.le_of_ble_eq_true rfl) rfl d_Pl_init_10 (fun H locs hP hD hS => ?_)
  refine lv_aload_n hx hb d_Pl_init_13 rfl (lv_at hl 0 rfl) ?_
  refine lv_sipush (v := 480) hx hb d_Pl_init_14 (by decide) ?_
  refine ga_newa (atype := .boolean) (ty := .boolean) (N' := 480) (a0 := (480, .inl (zA (fun _ => false)))) S hK hP hD hS hA ac_boolean rfl (fun _ _ h => h) 1 rfl (fun _ => rfl) (by decide) (by decide) (by decide) (Nat.le_of_ble_eq_true rfl) (Nat.le_of_ble_eq_true rfl) d_Pl_init_17 (fun z2 H hP hD hS => ?_)
  have hP : va_P D vwCl [(ob, .inr (1, [.ref z1, .null, .null, .null, .null, .null, .null, .null, .null, .int 0])), (z1, .inl (cI, 480, .inl (nA (fun _ => 0)))), (z2, .inl (cZ, 480, .inl (zA (fun _ => false))))] H := hP
  have hD : va_D A [(ob, .inr (1, [.ref z1, .null, .null, .null, .null, .null, .null, .null, .null, .int 0])), (z1, .inl (cI, 480, .inl (nA (fun _ => 0)))), (z2, .inl (cZ, 480, .inl (zA (fun _ => false))))] := hD
  refine ga_putF (ws' := [(ob, .inr (1, [.ref z1, .ref z2, .null, .null, .null, .null, .null, .null, .null, .int 0])), (z1, .inl (cI, 480, .inl (nA (fun _ => 0)))), (z2, .inl (cZ, 480, .inl (zA (fun _ => false))))]) S hnm hK hP hD hS 0 rfl p_Pl_17 rfl rfl (Nat.le_of_ble_eq_true rfl) rfl d_Pl_init_19 (fun H locs hP hD hS => ?_)
  refine lv_aload_n hx hb d_Pl_init_22 rfl (lv_at hl 0 rfl) ?_
  refine lv_bipush (v := 41) hx hb d_Pl_init_23 (by decide) ?_
  refine ga_newa (atype := .boolean) (ty := .boolean) (N' := 41) (a0 := (41, .inl (zA (fun _ => false)))) S hK hP hD hS hA ac_boolean rfl (fun _ _ h => h) 1 rfl (fun _ => rfl) (by decide) (by decide) (by decide) (Nat.le_of_ble_eq_true rfl) (Nat.le_of_ble_eq_true rfl) d_Pl_init_25 (fun z3 H hP hD hS => ?_)
  have hP : va_P D vwCl [(ob, .inr (1, [.ref z1, .ref z2, .null, .null, .null, .null, .null, .null, .null, .int 0])), (z1, .inl (cI, 480, .inl (nA (fun _ => 0)))), (z2, .inl (cZ, 480, .inl (zA (fun _ => false)))), (z3, .inl (cZ, 41, .inl (zA (fun _ => false))))] H := hP
  have hD : va_D A [(ob, .inr (1, [.ref z1, .ref z2, .null, .null, .null, .null, .null, .null, .null, .int 0])), (z1, .inl (cI, 480, .inl (nA (fun _ => 0)))), (z2, .inl (cZ, 480, .inl (zA (fun _ => false)))), (z3, .inl (cZ, 41, .inl (zA (fun _ => false))))] := hD
  refine ga_putF (ws' := [(ob, .inr (1, [.ref z1, .ref z2, .ref z3, .null, .null, .null, .null, .null, .null, .int 0])), (z1, .inl (cI, 480, .inl (nA (fun _ => 0)))), (z2, .inl (cZ, 480, .inl (zA (fun _ => false)))), (z3, .inl (cZ, 41, .inl (zA (fun _ => false))))]) S hnm hK hP hD hS 0 rfl p_Pl_21 rfl rfl (Nat.le_of_ble_eq_true rfl) rfl d_Pl_init_27 (fun H locs hP hD hS => ?_)
  refine lv_aload_n hx hb d_Pl_init_30 rfl (lv_at hl 0 rfl) ?_
  refine lv_bipush (v := 41) hx hb d_Pl_init_31 (by decide) ?_
  refine ga_newa (atype := .boolean) (ty := .boolean) (N' := 41) (a0 := (41, .inl (zA (fun _ => false)))) S hK hP hD hS hA ac_boolean rfl (fun _ _ h => h) 1 rfl (fun _ => rfl) (by decide) (by decide) (by decide) (Nat.le_of_ble_eq_true rfl) (Nat.le_of_ble_eq_true rfl) d_Pl_init_33 (fun z4 H hP hD hS => ?_)
  have hP : va_P D vwCl [(ob, .inr (1, [.ref z1, .ref z2, .ref z3, .null, .null, .null, .null, .null, .null, .int 0])), (z1, .inl (cI, 480, .inl (nA (fun _ => 0)))), (z2, .inl (cZ, 480, .inl (zA (fun _ => false)))), (z3, .inl (cZ, 41, .inl (zA (fun _ => false)))), (z4, .inl (cZ, 41, .inl (zA (fun _ => false))))] H := hP
  have hD : va_D A [(ob, .inr (1, [.ref z1, .ref z2, .ref z3, .null, .null, .null, .null, .null, .null, .int 0])), (z1, .inl (cI, 480, .inl (nA (fun _ => 0)))), (z2, .inl (cZ, 480, .inl (zA (fun _ => false)))), (z3, .inl (cZ, 41, .inl (zA (fun _ => false)))), (z4, .inl (cZ, 41, .inl (zA (fun _ => false))))] := hD
  refine ga_putF (ws' := [(ob, .inr (1, [.ref z1, .ref z2, .ref z3, .ref z4, .null, .null, .null, .null, .null, .int 0])), (z1, .inl (cI, 480, .inl (nA (fun _ => 0)))), (z2, .inl (cZ, 480, .inl (zA (fun _ => false)))), (z3, .inl (cZ, 41, .inl (zA (fun _ => false)))), (z4, .inl (cZ, 41, .inl (zA (fun _ => false))))]) S hnm hK hP hD hS 0 rfl p_Pl_24 rfl rfl (Nat.le_of_ble_eq_true rfl) rfl d_Pl_init_35 (fun H locs hP hD hS => ?_)
  refine lv_aload_n hx hb d_Pl_init_38 rfl (lv_at hl 0 rfl) ?_
  refine lv_bipush (v := 61) hx hb d_Pl_init_39 (by decide) ?_
  refine ga_newa (atype := .int) (ty := .int) (N' := 61) (a0 := (61, .inl (nA (fun _ => 0)))) S hK hP hD hS hA ac_int rfl (fun _ _ h => h) 0 rfl (fun _ => rfl) (by decide) (by decide) (by decide) (Nat.le_of_ble_eq_true rfl) (Nat.le_of_ble_eq_true rfl) d_Pl_init_41 (fun z5 H hP hD hS => ?_)
  have hP : va_P D vwCl [(ob, .inr (1, [.ref z1, .ref z2, .ref z3, .ref z4, .null, .null, .null, .null, .null, .int 0])), (z1, .inl (cI, 480, .inl (nA (fun _ => 0)))), (z2, .inl (cZ, 480, .inl (zA (fun _ => false)))), (z3, .inl (cZ, 41, .inl (zA (fun _ => false)))), (z4, .inl (cZ, 41, .inl (zA (fun _ => false)))), (z5, .inl (cI, 61, .inl (nA (fun _ => 0))))] H := hP
  have hD : va_D A [(ob, .inr (1, [.ref z1, .ref z2, .ref z3, .ref z4, .null, .null, .null, .null, .null, .int 0])), (z1, .inl (cI, 480, .inl (nA (fun _ => 0)))), (z2, .inl (cZ, 480, .inl (zA (fun _ => false)))), (z3, .inl (cZ, 41, .inl (zA (fun _ => false)))), (z4, .inl (cZ, 41, .inl (zA (fun _ => false)))), (z5, .inl (cI, 61, .inl (nA (fun _ => 0))))] := hD
  refine ga_putF (ws' := [(ob, .inr (1, [.ref z1, .ref z2, .ref z3, .ref z4, .ref z5, .null, .null, .null, .null, .int 0])), (z1, .inl (cI, 480, .inl (nA (fun _ => 0)))), (z2, .inl (cZ, 480, .inl (zA (fun _ => false)))), (z3, .inl (cZ, 41, .inl (zA (fun _ => false)))), (z4, .inl (cZ, 41, .inl (zA (fun _ => false)))), (z5, .inl (cI, 61, .inl (nA (fun _ => 0))))]) S hnm hK hP hD hS 0 rfl p_Pl_27 rfl rfl (Nat.le_of_ble_eq_true rfl) rfl d_Pl_init_43 (fun H locs hP hD hS => ?_)
  refine lv_aload_n hx hb d_Pl_init_46 rfl (lv_at hl 0 rfl) ?_
  refine lv_bipush (v := 66) hx hb d_Pl_init_47 (by decide) ?_
  refine ga_newa (atype := .int) (ty := .int) (N' := 66) (a0 := (66, .inl (nA (fun _ => 0)))) S hK hP hD hS hA ac_int rfl (fun _ _ h => h) 0 rfl (fun _ => rfl) (by decide) (by decide) (by decide) (Nat.le_of_ble_eq_true rfl) (Nat.le_of_ble_eq_true rfl) d_Pl_init_49 (fun z6 H hP hD hS => ?_)
  have hP : va_P D vwCl [(ob, .inr (1, [.ref z1, .ref z2, .ref z3, .ref z4, .ref z5, .null, .null, .null, .null, .int 0])), (z1, .inl (cI, 480, .inl (nA (fun _ => 0)))), (z2, .inl (cZ, 480, .inl (zA (fun _ => false)))), (z3, .inl (cZ, 41, .inl (zA (fun _ => false)))), (z4, .inl (cZ, 41, .inl (zA (fun _ => false)))), (z5, .inl (cI, 61, .inl (nA (fun _ => 0)))), (z6, .inl (cI, 66, .inl (nA (fun _ => 0))))] H := hP
  have hD : va_D A [(ob, .inr (1, [.ref z1, .ref z2, .ref z3, .ref z4, .ref z5, .null, .null, .null, .null, .int 0])), (z1, .inl (cI, 480, .inl (nA (fun _ => 0)))), (z2, .inl (cZ, 480, .inl (zA (fun _ => false)))), (z3, .inl (cZ, 41, .inl (zA (fun _ => false)))), (z4, .inl (cZ, 41, .inl (zA (fun _ => false)))), (z5, .inl (cI, 61, .inl (nA (fun _ => 0)))), (z6, .inl (cI, 66, .inl (nA (fun _ => 0))))] := hD
  refine ga_putF (ws' := [(ob, .inr (1, [.ref z1, .ref z2, .ref z3, .ref z4, .ref z5, .ref z6, .null, .null, .null, .int 0])), (z1, .inl (cI, 480, .inl (nA (fun _ => 0)))), (z2, .inl (cZ, 480, .inl (zA (fun _ => false)))), (z3, .inl (cZ, 41, .inl (zA (fun _ => false)))), (z4, .inl (cZ, 41, .inl (zA (fun _ => false)))), (z5, .inl (cI, 61, .inl (nA (fun _ => 0)))), (z6, .inl (cI, 66, .inl (nA (fun _ => 0))))]) S hnm hK hP hD hS 0 rfl p_Pl_30 rfl rfl (Nat.le_of_ble_eq_true rfl) rfl d_Pl_init_51 (fun H locs hP hD hS => ?_)
  refine lv_aload_n hx hb d_Pl_init_54 rfl (lv_at hl 0 rfl) ?_
  refine lv_bipush (v := 66) hx hb d_Pl_init_55 (by decide) ?_
  refine ga_newa (atype := .int) (ty := .int) (N' := 66) (a0 := (66, .inl (nA (fun _ => 0)))) S hK hP hD hS hA ac_int rfl (fun _ _ h => h) 0 rfl (fun _ => rfl) (by decide) (by decide) (by decide) (Nat.le_of_ble_eq_true rfl) (Nat.le_of_ble_eq_true rfl) d_Pl_init_57 (fun z7 H hP hD hS => ?_)
  have hP : va_P D vwCl [(ob, .inr (1, [.ref z1, .ref z2, .ref z3, .ref z4, .ref z5, .ref z6, .null, .null, .null, .int 0])), (z1, .inl (cI, 480, .inl (nA (fun _ => 0)))), (z2, .inl (cZ, 480, .inl (zA (fun _ => false)))), (z3, .inl (cZ, 41, .inl (zA (fun _ => false)))), (z4, .inl (cZ, 41, .inl (zA (fun _ => false)))), (z5, .inl (cI, 61, .inl (nA (fun _ => 0)))), (z6, .inl (cI, 66, .inl (nA (fun _ => 0)))), (z7, .inl (cI, 66, .inl (nA (fun _ => 0))))] H := hP
  have hD : va_D A [(ob, .inr (1, [.ref z1, .ref z2, .ref z3, .ref z4, .ref z5, .ref z6, .null, .null, .null, .int 0])), (z1, .inl (cI, 480, .inl (nA (fun _ => 0)))), (z2, .inl (cZ, 480, .inl (zA (fun _ => false)))), (z3, .inl (cZ, 41, .inl (zA (fun _ => false)))), (z4, .inl (cZ, 41, .inl (zA (fun _ => false)))), (z5, .inl (cI, 61, .inl (nA (fun _ => 0)))), (z6, .inl (cI, 66, .inl (nA (fun _ => 0)))), (z7, .inl (cI, 66, .inl (nA (fun _ => 0))))] := hD
  refine ga_putF (ws' := [(ob, .inr (1, [.ref z1, .ref z2, .ref z3, .ref z4, .ref z5, .ref z6, .ref z7, .null, .null, .int 0])), (z1, .inl (cI, 480, .inl (nA (fun _ => 0)))), (z2, .inl (cZ, 480, .inl (zA (fun _ => false)))), (z3, .inl (cZ, 41, .inl (zA (fun _ => false)))), (z4, .inl (cZ, 41, .inl (zA (fun _ => false)))), (z5, .inl (cI, 61, .inl (nA (fun _ => 0)))), (z6, .inl (cI, 66, .inl (nA (fun _ => 0)))), (z7, .inl (cI, 66, .inl (nA (fun _ => 0))))]) S hnm hK hP hD hS 0 rfl p_Pl_33 rfl rfl (Nat.le_of_ble_eq_true rfl) rfl d_Pl_init_59 (fun H locs hP hD hS => ?_)
  refine lv_aload_n hx hb d_Pl_init_62 rfl (lv_at hl 0 rfl) ?_
  refine lv_bipush (v := 66) hx hb d_Pl_init_63 (by decide) ?_
  refine ga_newa (atype := .int) (ty := .int) (N' := 66) (a0 := (66, .inl (nA (fun _ => 0)))) S hK hP hD hS hA ac_int rfl (fun _ _ h => h) 0 rfl (fun _ => rfl) (by decide) (by decide) (by decide) (Nat.le_of_ble_eq_true rfl) (Nat.le_of_ble_eq_true rfl) d_Pl_init_65 (fun z8 H hP hD hS => ?_)
  have hP : va_P D vwCl [(ob, .inr (1, [.ref z1, .ref z2, .ref z3, .ref z4, .ref z5, .ref z6, .ref z7, .null, .null, .int 0])), (z1, .inl (cI, 480, .inl (nA (fun _ => 0)))), (z2, .inl (cZ, 480, .inl (zA (fun _ => false)))), (z3, .inl (cZ, 41, .inl (zA (fun _ => false)))), (z4, .inl (cZ, 41, .inl (zA (fun _ => false)))), (z5, .inl (cI, 61, .inl (nA (fun _ => 0)))), (z6, .inl (cI, 66, .inl (nA (fun _ => 0)))), (z7, .inl (cI, 66, .inl (nA (fun _ => 0)))), (z8, .inl (cI, 66, .inl (nA (fun _ => 0))))] H := hP
  have hD : va_D A [(ob, .inr (1, [.ref z1, .ref z2, .ref z3, .ref z4, .ref z5, .ref z6, .ref z7, .null, .null, .int 0])), (z1, .inl (cI, 480, .inl (nA (fun _ => 0)))), (z2, .inl (cZ, 480, .inl (zA (fun _ => false)))), (z3, .inl (cZ, 41, .inl (zA (fun _ => false)))), (z4, .inl (cZ, 41, .inl (zA (fun _ => false)))), (z5, .inl (cI, 61, .inl (nA (fun _ => 0)))), (z6, .inl (cI, 66, .inl (nA (fun _ => 0)))), (z7, .inl (cI, 66, .inl (nA (fun _ => 0)))), (z8, .inl (cI, 66, .inl (nA (fun _ => 0))))] := hD
  refine ga_putF (ws' := [(ob, .inr (1, [.ref z1, .ref z2, .ref z3, .ref z4, .ref z5, .ref z6, .ref z7, .ref z8, .null, .int 0])), (z1, .inl (cI, 480, .inl (nA (fun _ => 0)))), (z2, .inl (cZ, 480, .inl (zA (fun _ => false)))), (z3, .inl (cZ, 41, .inl (zA (fun _ => false)))), (z4, .inl (cZ, 41, .inl (zA (fun _ => false)))), (z5, .inl (cI, 61, .inl (nA (fun _ => 0)))), (z6, .inl (cI, 66, .inl (nA (fun _ => 0)))), (z7, .inl (cI, 66, .inl (nA (fun _ => 0)))), (z8, .inl (cI, 66, .inl (nA (fun _ => 0))))]) S hnm hK hP hD hS 0 rfl p_Pl_36 rfl rfl (Nat.le_of_ble_eq_true rfl) rfl d_Pl_init_67 (fun H locs hP hD hS => ?_)
  refine lv_aload_n hx hb d_Pl_init_70 rfl (lv_at hl 0 rfl) ?_
  refine lv_bipush (v := 66) hx hb d_Pl_init_71 (by decide) ?_
  refine ga_newa (atype := .int) (ty := .int) (N' := 66) (a0 := (66, .inl (nA (fun _ => 0)))) S hK hP hD hS hA ac_int rfl (fun _ _ h => h) 0 rfl (fun _ => rfl) (by decide) (by decide) (by decide) (Nat.le_of_ble_eq_true rfl) (Nat.le_of_ble_eq_true rfl) d_Pl_init_73 (fun z9 H hP hD hS => ?_)
  have hP : va_P D vwCl [(ob, .inr (1, [.ref z1, .ref z2, .ref z3, .ref z4, .ref z5, .ref z6, .ref z7, .ref z8, .null, .int 0])), (z1, .inl (cI, 480, .inl (nA (fun _ => 0)))), (z2, .inl (cZ, 480, .inl (zA (fun _ => false)))), (z3, .inl (cZ, 41, .inl (zA (fun _ => false)))), (z4, .inl (cZ, 41, .inl (zA (fun _ => false)))), (z5, .inl (cI, 61, .inl (nA (fun _ => 0)))), (z6, .inl (cI, 66, .inl (nA (fun _ => 0)))), (z7, .inl (cI, 66, .inl (nA (fun _ => 0)))), (z8, .inl (cI, 66, .inl (nA (fun _ => 0)))), (z9, .inl (cI, 66, .inl (nA (fun _ => 0))))] H := hP
  have hD : va_D A [(ob, .inr (1, [.ref z1, .ref z2, .ref z3, .ref z4, .ref z5, .ref z6, .ref z7, .ref z8, .null, .int 0])), (z1, .inl (cI, 480, .inl (nA (fun _ => 0)))), (z2, .inl (cZ, 480, .inl (zA (fun _ => false)))), (z3, .inl (cZ, 41, .inl (zA (fun _ => false)))), (z4, .inl (cZ, 41, .inl (zA (fun _ => false)))), (z5, .inl (cI, 61, .inl (nA (fun _ => 0)))), (z6, .inl (cI, 66, .inl (nA (fun _ => 0)))), (z7, .inl (cI, 66, .inl (nA (fun _ => 0)))), (z8, .inl (cI, 66, .inl (nA (fun _ => 0)))), (z9, .inl (cI, 66, .inl (nA (fun _ => 0))))] := hD
  refine ga_putF (ws' := [(ob, .inr (1, [.ref z1, .ref z2, .ref z3, .ref z4, .ref z5, .ref z6, .ref z7, .ref z8, .ref z9, .int 0])), (z1, .inl (cI, 480, .inl (nA (fun _ => 0)))), (z2, .inl (cZ, 480, .inl (zA (fun _ => false)))), (z3, .inl (cZ, 41, .inl (zA (fun _ => false)))), (z4, .inl (cZ, 41, .inl (zA (fun _ => false)))), (z5, .inl (cI, 61, .inl (nA (fun _ => 0)))), (z6, .inl (cI, 66, .inl (nA (fun _ => 0)))), (z7, .inl (cI, 66, .inl (nA (fun _ => 0)))), (z8, .inl (cI, 66, .inl (nA (fun _ => 0)))), (z9, .inl (cI, 66, .inl (nA (fun _ => 0))))]) S hnm hK hP hD hS 0 rfl p_Pl_39 rfl rfl (Nat.le_of_ble_eq_true rfl) rfl d_Pl_init_75 (fun H locs hP hD hS => ?_)
  exact ga_wv (z1, z2, z3, z4, z5, z6, z7, z8, z9) S hrt hlk hP hD hS trivial d_Pl_init_78
set_option maxHeartbeats 4000000 in
set_option maxRecDepth 100000 in
theorem gc_Re_init (l : Launch) (D : va_G) (cI cZ cC cG : ClassId) (ob : Nat) : ga_Mv l y_Re_init b_Re_init 1 2 12 1979 D (ga_T cI cZ cC cG) [.ref ob] [(ob, .inr (2, [.null, .null, .int 0, .int 0]))] (fun (x : Nat × Nat × Nat × Nat × Nat × Nat × Nat × Nat × Nat × Nat × Nat × Nat) => [(ob, .inr (2, [.ref x.1, .ref x.2.2.1, .int 0, .int ((-1))])), (x.1, .inr (4, [.ref x.2.1, .int 0])), (x.2.1, .inl (cC, 600, .inl (nA (fun _ => 0)))), (x.2.2.1, .inr (1, [.ref x.2.2.2.1, .ref x.2.2.2.2.1, .ref x.2.2.2.2.2.1, .ref x.2.2.2.2.2.2.1, .ref x.2.2.2.2.2.2.2.1, .ref x.2.2.2.2.2.2.2.2.1, .ref x.2.2.2.2.2.2.2.2.2.1, .ref x.2.2.2.2.2.2.2.2.2.2.1, .ref x.2.2.2.2.2.2.2.2.2.2.2, .int 0])), (x.2.2.2.1, .inl (cI, 480, .inl (nA (fun _ => 0)))), (x.2.2.2.2.1, .inl (cZ, 480, .inl (zA (fun _ => false)))), (x.2.2.2.2.2.1, .inl (cZ, 41, .inl (zA (fun _ => false)))), (x.2.2.2.2.2.2.1, .inl (cZ, 41, .inl (zA (fun _ => false)))), (x.2.2.2.2.2.2.2.1, .inl (cI, 61, .inl (nA (fun _ => 0)))), (x.2.2.2.2.2.2.2.2.1, .inl (cI, 66, .inl (nA (fun _ => 0)))), (x.2.2.2.2.2.2.2.2.2.1, .inl (cI, 66, .inl (nA (fun _ => 0)))), (x.2.2.2.2.2.2.2.2.2.2.1, .inl (cI, 66, .inl (nA (fun _ => 0)))), (x.2.2.2.2.2.2.2.2.2.2.2, .inl (cI, 66, .inl (nA (fun _ => 0))))]) (fun x => True) := by
  refine ga_enV (by decide) (Nat.le_of_ble_eq_true rfl) ?_
  intro p e s m below meth c ls A S hrt hlk hnm hK hP hD hA hl
  have hS : va_S A s.heap s.heap [] := va_S.rf
  obtain ⟨hx, hb, hml, hown, hts⟩ := id S
  have hl : lv_has ls 1 [(0, .ref ob)] := hl
  refine lv_aload_n hx hb d_Re_init_0 rfl (lv_at hl 0 rfl) ?_
  refine ga_oi S hl.1 oi_Re_3 d_Re_init_1 (Nat.le_of_ble_eq_true rfl) (Nat.le_of_ble_eq_true rfl) ?_
  refine lv_aload_n hx hb d_Re_init_4 rfl (lv_at hl 0 rfl) ?_
  refine ga_new S hK hP hD hS hA n_Re_9 (Nat.le_of_ble_eq_true rfl) (Nat.le_of_ble_eq_true rfl) d_Re_init_5 (fun te H hP hD hS => ?_)
  have hP : va_P D vwCl [(ob, .inr (2, [.null, .null, .int 0, .int 0])), (te, .inr (4, [.null, .int 0]))] H := hP
  have hD : va_D A [(ob, .inr (2, [.null, .null, .int 0, .int 0])), (te, .inr (4, [.null, .int 0]))] := hD
  refine lv_dup hx hb d_Re_init_8 rfl ?_
  refine ga_jv (wr := [(ob, .inr (2, [.null, .null, .int 0, .int 0]))]) (ga_runI (As := []) (rest := [.ref te, .ref ob]) S hK s_Re_11 (gc_Te_init l D cI cZ cC cG te _) (ga_prS hK hP hD [1] rfl (by decide)) rfl hl.1 rfl (Nat.le_of_ble_eq_true rfl) ⟨Nat.le_of_ble_eq_true rfl, Nat.le_of_ble_eq_true rfl⟩ ⟨Nat.le_of_ble_eq_true rfl, Nat.le_of_ble_eq_true rfl⟩ d_Re_init_9) hP hD hS hA [1] [0] rfl rfl (by decide) (by decide) [0, 1, 2] (fun (x : Nat) => [(ob, .inr (2, [.null, .null, .int 0, .int 0])), (te, .inr (4, [.ref x, .int 0])), (x, .inl (cC, 600, .inl (nA (fun _ => 0))))]) (fun _ => rfl) (by decide) (fun x H locs hp9 hP hD hS => ?_)
  obtain ⟨ta, rfl⟩ : ∃ z, z = x := ⟨_, rfl⟩
  have hP : va_P D vwCl [(ob, .inr (2, [.null, .null, .int 0, .int 0])), (te, .inr (4, [.ref ta, .int 0])), (ta, .inl (cC, 600, .inl (nA (fun _ => 0))))] H := hP
  have hD : va_D A [(ob, .inr (2, [.null, .null, .int 0, .int 0])), (te, .inr (4, [.ref ta, .int 0])), (ta, .inl (cC, 600, .inl (nA (fun _ => 0))))] := hD
  refine ga_putF (ws' := [(ob, .inr (2, [.ref te, .null, .int 0, .int 0])), (te, .inr (4, [.ref ta, .int 0])), (ta, .inl (cC, 600, .inl (nA (fun _ => 0))))]) S hnm hK hP hD hS 0 rfl p_Re_12 rfl rfl (Nat.le_of_ble_eq_true rfl) rfl d_Re_init_12 (fun H locs hP hD hS => ?_)
  refine lv_aload_n hx hb d_Re_init_15 rfl (lv_at hl 0 rfl) ?_
  refine ga_new S hK hP hD hS hA n_Re_18 (Nat.le_of_ble_eq_true rfl) (Nat.le_of_ble_eq_true rfl) d_Re_init_16 (fun dr H hP hD hS => ?_)
  have hP : va_P D vwCl [(ob, .inr (2, [.ref te, .null, .int 0, .int 0])), (te, .inr (4, [.ref ta, .int 0])), (ta, .inl (cC, 600, .inl (nA (fun _ => 0)))), (dr, .inr (1, [.null, .null, .null, .null, .null, .null, .null, .null, .null, .int 0]))] H := hP
  have hD : va_D A [(ob, .inr (2, [.ref te, .null, .int 0, .int 0])), (te, .inr (4, [.ref ta, .int 0])), (ta, .inl (cC, 600, .inl (nA (fun _ => 0)))), (dr, .inr (1, [.null, .null, .null, .null, .null, .null, .null, .null, .null, .int 0]))] := hD
  refine lv_dup hx hb d_Re_init_19 rfl ?_
  refine ga_jv (wr := [(ob, .inr (2, [.ref te, .null, .int 0, .int 0])), (te, .inr (4, [.ref ta, .int 0])), (ta, .inl (cC, 600, .inl (nA (fun _ => 0))))]) (ga_runI (As := []) (rest := [.ref dr, .ref ob]) S hK s_Re_20 (gc_Pl_init l D cI cZ cC cG dr _) (ga_prS hK hP hD [3] rfl (by decide)) rfl hl.1 rfl (Nat.le_of_ble_eq_true rfl) ⟨Nat.le_of_ble_eq_true rfl, Nat.le_of_ble_eq_true rfl⟩ ⟨Nat.le_of_ble_eq_true rfl, Nat.le_of_ble_eq_true rfl⟩ d_Re_init_20) hP hD hS hA [3] [0, 1, 2] rfl rfl (by decide) (by decide) [0, 1, 2, 3, 4, 5, 6, 7, 8, 9, 10, 11, 12] (fun (x : Nat × Nat × Nat × Nat × Nat × Nat × Nat × Nat × Nat) => [(ob, .inr (2, [.ref te, .null, .int 0, .int 0])), (te, .inr (4, [.ref ta, .int 0])), (ta, .inl (cC, 600, .inl (nA (fun _ => 0)))), (dr, .inr (1, [.ref x.1, .ref x.2.1, .ref x.2.2.1, .ref x.2.2.2.1, .ref x.2.2.2.2.1, .ref x.2.2.2.2.2.1, .ref x.2.2.2.2.2.2.1, .ref x.2.2.2.2.2.2.2.1, .ref x.2.2.2.2.2.2.2.2, .int 0])), (x.1, .inl (cI, 480, .inl (nA (fun _ => 0)))), (x.2.1, .inl (cZ, 480, .inl (zA (fun _ => false)))), (x.2.2.1, .inl (cZ, 41, .inl (zA (fun _ => false)))), (x.2.2.2.1, .inl (cZ, 41, .inl (zA (fun _ => false)))), (x.2.2.2.2.1, .inl (cI, 61, .inl (nA (fun _ => 0)))), (x.2.2.2.2.2.1, .inl (cI, 66, .inl (nA (fun _ => 0)))), (x.2.2.2.2.2.2.1, .inl (cI, 66, .inl (nA (fun _ => 0)))), (x.2.2.2.2.2.2.2.1, .inl (cI, 66, .inl (nA (fun _ => 0)))), (x.2.2.2.2.2.2.2.2, .inl (cI, 66, .inl (nA (fun _ => 0))))]) (fun _ => rfl) (by decide) (fun x H locs hp20 hP hD hS => ?_)
  obtain ⟨d1, d2, d3, d4, d5, d6, d7, d8, d9⟩ := x
  have hP : va_P D vwCl [(ob, .inr (2, [.ref te, .null, .int 0, .int 0])), (te, .inr (4, [.ref ta, .int 0])), (ta, .inl (cC, 600, .inl (nA (fun _ => 0)))), (dr, .inr (1, [.ref d1, .ref d2, .ref d3, .ref d4, .ref d5, .ref d6, .ref d7, .ref d8, .ref d9, .int 0])), (d1, .inl (cI, 480, .inl (nA (fun _ => 0)))), (d2, .inl (cZ, 480, .inl (zA (fun _ => false)))), (d3, .inl (cZ, 41, .inl (zA (fun _ => false)))), (d4, .inl (cZ, 41, .inl (zA (fun _ => false)))), (d5, .inl (cI, 61, .inl (nA (fun _ => 0)))), (d6, .inl (cI, 66, .inl (nA (fun _ => 0)))), (d7, .inl (cI, 66, .inl (nA (fun _ => 0)))), (d8, .inl (cI, 66, .inl (nA (fun _ => 0)))), (d9, .inl (cI, 66, .inl (nA (fun _ => 0))))] H := hP
  have hD : va_D A [(ob, .inr (2, [.ref te, .null, .int 0, .int 0])), (te, .inr (4, [.ref ta, .int 0])), (ta, .inl (cC, 600, .inl (nA (fun _ => 0)))), (dr, .inr (1, [.ref d1, .ref d2, .ref d3, .ref d4, .ref d5, .ref d6, .ref d7, .ref d8, .ref d9, .int 0])), (d1, .inl (cI, 480, .inl (nA (fun _ => 0)))), (d2, .inl (cZ, 480, .inl (zA (fun _ => false)))), (d3, .inl (cZ, 41, .inl (zA (fun _ => false)))), (d4, .inl (cZ, 41, .inl (zA (fun _ => false)))), (d5, .inl (cI, 61, .inl (nA (fun _ => 0)))), (d6, .inl (cI, 66, .inl (nA (fun _ => 0)))), (d7, .inl (cI, 66, .inl (nA (fun _ => 0)))), (d8, .inl (cI, 66, .inl (nA (fun _ => 0)))), (d9, .inl (cI, 66, .inl (nA (fun _ => 0))))] := hD
  refine ga_put (ws' := [(ob, .inr (2, [.ref te, .ref dr, .int 0, .int 0])), (te, .inr (4, [.ref ta, .int 0])), (ta, .inl (cC, 600, .inl (nA (fun _ => 0)))), (dr, .inr (1, [.ref d1, .ref d2, .ref d3, .ref d4, .ref d5, .ref d6, .ref d7, .ref d8, .ref d9, .int 0])), (d1, .inl (cI, 480, .inl (nA (fun _ => 0)))), (d2, .inl (cZ, 480, .inl (zA (fun _ => false)))), (d3, .inl (cZ, 41, .inl (zA (fun _ => false)))), (d4, .inl (cZ, 41, .inl (zA (fun _ => false)))), (d5, .inl (cI, 61, .inl (nA (fun _ => 0)))), (d6, .inl (cI, 66, .inl (nA (fun _ => 0)))), (d7, .inl (cI, 66, .inl (nA (fun _ => 0)))), (d8, .inl (cI, 66, .inl (nA (fun _ => 0)))), (d9, .inl (cI, 66, .inl (nA (fun _ => 0))))]) S hK hP hD hS 0 rfl p_Re_21 rfl rfl (Nat.le_of_ble_eq_true rfl) rfl d_Re_init_23 (fun H locs hP hD hS => ?_)
  refine lv_aload_n hx hb d_Re_init_26 rfl (lv_at hl 0 rfl) ?_
  refine lv_iconst (v := (-1)) hx hb d_Re_init_27 (by decide) ?_
  refine ga_put (ws' := [(ob, .inr (2, [.ref te, .ref dr, .int 0, .int (-1)])), (te, .inr (4, [.ref ta, .int 0])), (ta, .inl (cC, 600, .inl (nA (fun _ => 0)))), (dr, .inr (1, [.ref d1, .ref d2, .ref d3, .ref d4, .ref d5, .ref d6, .ref d7, .ref d8, .ref d9, .int 0])), (d1, .inl (cI, 480, .inl (nA (fun _ => 0)))), (d2, .inl (cZ, 480, .inl (zA (fun _ => false)))), (d3, .inl (cZ, 41, .inl (zA (fun _ => false)))), (d4, .inl (cZ, 41, .inl (zA (fun _ => false)))), (d5, .inl (cI, 61, .inl (nA (fun _ => 0)))), (d6, .inl (cI, 66, .inl (nA (fun _ => 0)))), (d7, .inl (cI, 66, .inl (nA (fun _ => 0)))), (d8, .inl (cI, 66, .inl (nA (fun _ => 0)))), (d9, .inl (cI, 66, .inl (nA (fun _ => 0))))]) S hK hP hD hS 0 rfl p_Re_25 rfl rfl (Nat.le_of_ble_eq_true rfl) rfl d_Re_init_28 (fun H locs hP hD hS => ?_)
  exact ga_wv (te, ta, dr, d1, d2, d3, d4, d5, d6, d7, d8, d9) S hrt hlk hP hD hS trivial d_Re_init_31
set_option maxHeartbeats 4000000 in
set_option maxRecDepth 100000 in
theorem gc_SP_init (l : Launch) (D : va_G) (cI cZ cC cG : ClassId) (ob : Nat) : ga_Mv l y_SP_init b_SP_init 1 3 36 7952 D (ga_T cI cZ cC cG) [.ref ob] [(ob, .inr (5, [.null, .null, .null, .null, .int 0, .null]))] (fun (x : (Nat → Nat) × (Nat → Nat)) => [(ob, .inr (5, [.ref ((x.1 0)), .ref ((x.1 13)), .ref ((x.1 15)), .ref ((x.1 17)), .int 0, .ref ((x.1 18))])), ((x.1 0), .inr (2, [.ref ((x.1 1)), .ref ((x.1 3)), .int 0, .int ((-1))])), ((x.1 1), .inr (4, [.ref ((x.1 2)), .int 0])), ((x.1 2), .inl (cC, 600, .inl (nA (fun _ => 0)))), ((x.1 3), .inr (1, [.ref ((x.1 4)), .ref ((x.1 5)), .ref ((x.1 6)), .ref ((x.1 7)), .ref ((x.1 8)), .ref ((x.1 9)), .ref ((x.1 10)), .ref ((x.1 11)), .ref ((x.1 12)), .int 0])), ((x.1 4), .inl (cI, 480, .inl (nA (fun _ => 0)))), ((x.1 5), .inl (cZ, 480, .inl (zA (fun _ => false)))), ((x.1 6), .inl (cZ, 41, .inl (zA (fun _ => false)))), ((x.1 7), .inl (cZ, 41, .inl (zA (fun _ => false)))), ((x.1 8), .inl (cI, 61, .inl (nA (fun _ => 0)))), ((x.1 9), .inl (cI, 66, .inl (nA (fun _ => 0)))), ((x.1 10), .inl (cI, 66, .inl (nA (fun _ => 0)))), ((x.1 11), .inl (cI, 66, .inl (nA (fun _ => 0)))), ((x.1 12), .inl (cI, 66, .inl (nA (fun _ => 0)))), ((x.1 13), .inr (0, [.ref ((x.1 14)), .int 0])), ((x.1 14), .inl (cI, 500, .inl (nA (fun _ => 0)))), ((x.1 15), .inr (3, [.ref ((x.1 16)), .int 0])), ((x.1 16), .inl (cC, 240, .inl (nA (fun _ => 0)))), ((x.1 17), .inl (cG, 8, .inr (.inr (.inr (.inr (fun i => if i < 8 then some (x.2 i) else none)))))), ((x.2 0), .inl (cI, 480, .inl (nA (fun _ => 0)))), ((x.2 1), .inl (cI, 480, .inl (nA (fun _ => 0)))), ((x.2 2), .inl (cI, 480, .inl (nA (fun _ => 0)))), ((x.2 3), .inl (cI, 480, .inl (nA (fun _ => 0)))), ((x.2 4), .inl (cI, 480, .inl (nA (fun _ => 0)))), ((x.2 5), .inl (cI, 480, .inl (nA (fun _ => 0)))), ((x.2 6), .inl (cI, 480, .inl (nA (fun _ => 0)))), ((x.2 7), .inl (cI, 480, .inl (nA (fun _ => 0)))), ((x.1 18), .inr (1, [.ref ((x.1 19)), .ref ((x.1 20)), .ref ((x.1 21)), .ref ((x.1 22)), .ref ((x.1 23)), .ref ((x.1 24)), .ref ((x.1 25)), .ref ((x.1 26)), .ref ((x.1 27)), .int 0])), ((x.1 19), .inl (cI, 480, .inl (nA (fun _ => 0)))), ((x.1 20), .inl (cZ, 480, .inl (zA (fun _ => false)))), ((x.1 21), .inl (cZ, 41, .inl (zA (fun _ => false)))), ((x.1 22), .inl (cZ, 41, .inl (zA (fun _ => false)))), ((x.1 23), .inl (cI, 61, .inl (nA (fun _ => 0)))), ((x.1 24), .inl (cI, 66, .inl (nA (fun _ => 0)))), ((x.1 25), .inl (cI, 66, .inl (nA (fun _ => 0)))), ((x.1 26), .inl (cI, 66, .inl (nA (fun _ => 0)))), ((x.1 27), .inl (cI, 66, .inl (nA (fun _ => 0))))]) (fun x => True) := by
  refine ga_enV (by decide) (Nat.le_of_ble_eq_true rfl) ?_
  intro p e s m below meth c ls A S hrt hlk hnm hK hP hD hA hl
  have hS : va_S A s.heap s.heap [] := va_S.rf
  obtain ⟨hx, hb, hml, hown, hts⟩ := id S
  have hl : lv_has ls 1 [(0, .ref ob)] := hl
  refine lv_aload_n hx hb d_SP_init_0 rfl (lv_at hl 0 rfl) ?_
  refine ga_oi S hl.1 oi_SP_3 d_SP_init_1 (Nat.le_of_ble_eq_true rfl) (Nat.le_of_ble_eq_true rfl) ?_
  refine lv_aload_n hx hb d_SP_init_4 rfl (lv_at hl 0 rfl) ?_
  refine ga_new S hK hP hD hS hA n_SP_9 (Nat.le_of_ble_eq_true rfl) (Nat.le_of_ble_eq_true rfl) d_SP_init_5 (fun re H hP hD hS => ?_)
  have hP : va_P D vwCl [(ob, .inr (5, [.null, .null, .null, .null, .int 0, .null])), (re, .inr (2, [.null, .null, .int 0, .int 0]))] H := hP
  have hD : va_D A [(ob, .inr (5, [.null, .null, .null, .null, .int 0, .null])), (re, .inr (2, [.null, .null, .int 0, .int 0]))] := hD
  refine lv_dup hx hb d_SP_init_8 rfl ?_
  refine ga_jv (wr := [(ob, .inr (5, [.null, .null, .null, .null, .int 0, .null]))]) (ga_runI (As := []) (rest := [.ref re, .ref ob]) S hK s_SP_11 (gc_Re_init l D cI cZ cC cG re _) (ga_prS hK hP hD [1] rfl (by decide)) rfl hl.1 rfl (Nat.le_of_ble_eq_true rfl) ⟨Nat.le_of_ble_eq_true rfl, Nat.le_of_ble_eq_true rfl⟩ ⟨Nat.le_of_ble_eq_true rfl, Nat.le_of_ble_eq_true rfl⟩ d_SP_init_9) hP hD hS hA [1] [0] rfl rfl (by decide) (by decide) [0, 1, 2, 3, 4, 5, 6, 7, 8, 9, 10, 11, 12, 13] (fun (x : Nat × Nat × Nat × Nat × Nat × Nat × Nat × Nat × Nat × Nat × Nat × Nat) => [(ob, .inr (5, [.null, .null, .null, .null, .int 0, .null])), (re, .inr (2, [.ref x.1, .ref x.2.2.1, .int 0, .int ((-1))])), (x.1, .inr (4, [.ref x.2.1, .int 0])), (x.2.1, .inl (cC, 600, .inl (nA (fun _ => 0)))), (x.2.2.1, .inr (1, [.ref x.2.2.2.1, .ref x.2.2.2.2.1, .ref x.2.2.2.2.2.1, .ref x.2.2.2.2.2.2.1, .ref x.2.2.2.2.2.2.2.1, .ref x.2.2.2.2.2.2.2.2.1, .ref x.2.2.2.2.2.2.2.2.2.1, .ref x.2.2.2.2.2.2.2.2.2.2.1, .ref x.2.2.2.2.2.2.2.2.2.2.2, .int 0])), (x.2.2.2.1, .inl (cI, 480, .inl (nA (fun _ => 0)))), (x.2.2.2.2.1, .inl (cZ, 480, .inl (zA (fun _ => false)))), (x.2.2.2.2.2.1, .inl (cZ, 41, .inl (zA (fun _ => false)))), (x.2.2.2.2.2.2.1, .inl (cZ, 41, .inl (zA (fun _ => false)))), (x.2.2.2.2.2.2.2.1, .inl (cI, 61, .inl (nA (fun _ => 0)))), (x.2.2.2.2.2.2.2.2.1, .inl (cI, 66, .inl (nA (fun _ => 0)))), (x.2.2.2.2.2.2.2.2.2.1, .inl (cI, 66, .inl (nA (fun _ => 0)))), (x.2.2.2.2.2.2.2.2.2.2.1, .inl (cI, 66, .inl (nA (fun _ => 0)))), (x.2.2.2.2.2.2.2.2.2.2.2, .inl (cI, 66, .inl (nA (fun _ => 0))))]) (fun _ => rfl) (by decide) (fun x H locs hp9 hP hD hS => ?_)
  obtain ⟨te, ta, dr, d1, d2, d3, d4, d5, d6, d7, d8, d9⟩ := x
  have hP : va_P D vwCl [(ob, .inr (5, [.null, .null, .null, .null, .int 0, .null])), (re, .inr (2, [.ref te, .ref dr, .int 0, .int ((-1))])), (te, .inr (4, [.ref ta, .int 0])), (ta, .inl (cC, 600, .inl (nA (fun _ => 0)))), (dr, .inr (1, [.ref d1, .ref d2, .ref d3, .ref d4, .ref d5, .ref d6, .ref d7, .ref d8, .ref d9, .int 0])), (d1, .inl (cI, 480, .inl (nA (fun _ => 0)))), (d2, .inl (cZ, 480, .inl (zA (fun _ => false)))), (d3, .inl (cZ, 41, .inl (zA (fun _ => false)))), (d4, .inl (cZ, 41, .inl (zA (fun _ => false)))), (d5, .inl (cI, 61, .inl (nA (fun _ => 0)))), (d6, .inl (cI, 66, .inl (nA (fun _ => 0)))), (d7, .inl (cI, 66, .inl (nA (fun _ => 0)))), (d8, .inl (cI, 66, .inl (nA (fun _ => 0)))), (d9, .inl (cI, 66, .inl (nA (fun _ => 0))))] H := hP
  have hD : va_D A [(ob, .inr (5, [.null, .null, .null, .null, .int 0, .null])), (re, .inr (2, [.ref te, .ref dr, .int 0, .int ((-1))])), (te, .inr (4, [.ref ta, .int 0])), (ta, .inl (cC, 600, .inl (nA (fun _ => 0)))), (dr, .inr (1, [.ref d1, .ref d2, .ref d3, .ref d4, .ref d5, .ref d6, .ref d7, .ref d8, .ref d9, .int 0])), (d1, .inl (cI, 480, .inl (nA (fun _ => 0)))), (d2, .inl (cZ, 480, .inl (zA (fun _ => false)))), (d3, .inl (cZ, 41, .inl (zA (fun _ => false)))), (d4, .inl (cZ, 41, .inl (zA (fun _ => false)))), (d5, .inl (cI, 61, .inl (nA (fun _ => 0)))), (d6, .inl (cI, 66, .inl (nA (fun _ => 0)))), (d7, .inl (cI, 66, .inl (nA (fun _ => 0)))), (d8, .inl (cI, 66, .inl (nA (fun _ => 0)))), (d9, .inl (cI, 66, .inl (nA (fun _ => 0))))] := hD
  refine ga_putF (ws' := [(ob, .inr (5, [.ref re, .null, .null, .null, .int 0, .null])), (re, .inr (2, [.ref te, .ref dr, .int 0, .int ((-1))])), (te, .inr (4, [.ref ta, .int 0])), (ta, .inl (cC, 600, .inl (nA (fun _ => 0)))), (dr, .inr (1, [.ref d1, .ref d2, .ref d3, .ref d4, .ref d5, .ref d6, .ref d7, .ref d8, .ref d9, .int 0])), (d1, .inl (cI, 480, .inl (nA (fun _ => 0)))), (d2, .inl (cZ, 480, .inl (zA (fun _ => false)))), (d3, .inl (cZ, 41, .inl (zA (fun _ => false)))), (d4, .inl (cZ, 41, .inl (zA (fun _ => false)))), (d5, .inl (cI, 61, .inl (nA (fun _ => 0)))), (d6, .inl (cI, 66, .inl (nA (fun _ => 0)))), (d7, .inl (cI, 66, .inl (nA (fun _ => 0)))), (d8, .inl (cI, 66, .inl (nA (fun _ => 0)))), (d9, .inl (cI, 66, .inl (nA (fun _ => 0))))]) S hnm hK hP hD hS 0 rfl p_SP_12 rfl rfl (Nat.le_of_ble_eq_true rfl) rfl d_SP_init_12 (fun H locs hP hD hS => ?_)
  refine lv_aload_n hx hb d_SP_init_15 rfl (lv_at hl 0 rfl) ?_
  refine ga_new S hK hP hD hS hA n_SP_16 (Nat.le_of_ble_eq_true rfl) (Nat.le_of_ble_eq_true rfl) d_SP_init_16 (fun fa H hP hD hS => ?_)
  have hP : va_P D vwCl [(ob, .inr (5, [.ref re, .null, .null, .null, .int 0, .null])), (re, .inr (2, [.ref te, .ref dr, .int 0, .int ((-1))])), (te, .inr (4, [.ref ta, .int 0])), (ta, .inl (cC, 600, .inl (nA (fun _ => 0)))), (dr, .inr (1, [.ref d1, .ref d2, .ref d3, .ref d4, .ref d5, .ref d6, .ref d7, .ref d8, .ref d9, .int 0])), (d1, .inl (cI, 480, .inl (nA (fun _ => 0)))), (d2, .inl (cZ, 480, .inl (zA (fun _ => false)))), (d3, .inl (cZ, 41, .inl (zA (fun _ => false)))), (d4, .inl (cZ, 41, .inl (zA (fun _ => false)))), (d5, .inl (cI, 61, .inl (nA (fun _ => 0)))), (d6, .inl (cI, 66, .inl (nA (fun _ => 0)))), (d7, .inl (cI, 66, .inl (nA (fun _ => 0)))), (d8, .inl (cI, 66, .inl (nA (fun _ => 0)))), (d9, .inl (cI, 66, .inl (nA (fun _ => 0)))), (fa, .inr (0, [.null, .int 0]))] H := hP
  have hD : va_D A [(ob, .inr (5, [.ref re, .null, .null, .null, .int 0, .null])), (re, .inr (2, [.ref te, .ref dr, .int 0, .int ((-1))])), (te, .inr (4, [.ref ta, .int 0])), (ta, .inl (cC, 600, .inl (nA (fun _ => 0)))), (dr, .inr (1, [.ref d1, .ref d2, .ref d3, .ref d4, .ref d5, .ref d6, .ref d7, .ref d8, .ref d9, .int 0])), (d1, .inl (cI, 480, .inl (nA (fun _ => 0)))), (d2, .inl (cZ, 480, .inl (zA (fun _ => false)))), (d3, .inl (cZ, 41, .inl (zA (fun _ => false)))), (d4, .inl (cZ, 41, .inl (zA (fun _ => false)))), (d5, .inl (cI, 61, .inl (nA (fun _ => 0)))), (d6, .inl (cI, 66, .inl (nA (fun _ => 0)))), (d7, .inl (cI, 66, .inl (nA (fun _ => 0)))), (d8, .inl (cI, 66, .inl (nA (fun _ => 0)))), (d9, .inl (cI, 66, .inl (nA (fun _ => 0)))), (fa, .inr (0, [.null, .int 0]))] := hD
  refine lv_dup hx hb d_SP_init_19 rfl ?_
  refine ga_jv (wr := [(ob, .inr (5, [.ref re, .null, .null, .null, .int 0, .null])), (re, .inr (2, [.ref te, .ref dr, .int 0, .int ((-1))])), (te, .inr (4, [.ref ta, .int 0])), (ta, .inl (cC, 600, .inl (nA (fun _ => 0)))), (dr, .inr (1, [.ref d1, .ref d2, .ref d3, .ref d4, .ref d5, .ref d6, .ref d7, .ref d8, .ref d9, .int 0])), (d1, .inl (cI, 480, .inl (nA (fun _ => 0)))), (d2, .inl (cZ, 480, .inl (zA (fun _ => false)))), (d3, .inl (cZ, 41, .inl (zA (fun _ => false)))), (d4, .inl (cZ, 41, .inl (zA (fun _ => false)))), (d5, .inl (cI, 61, .inl (nA (fun _ => 0)))), (d6, .inl (cI, 66, .inl (nA (fun _ => 0)))), (d7, .inl (cI, 66, .inl (nA (fun _ => 0)))), (d8, .inl (cI, 66, .inl (nA (fun _ => 0)))), (d9, .inl (cI, 66, .inl (nA (fun _ => 0))))]) (ga_runI (As := []) (rest := [.ref fa, .ref ob]) S hK s_SP_18 (gc_Fa_init l D cI cZ cC cG fa _) (ga_prS hK hP hD [14] rfl (by decide)) rfl hl.1 rfl (Nat.le_of_ble_eq_true rfl) ⟨Nat.le_of_ble_eq_true rfl, Nat.le_of_ble_eq_true rfl⟩ ⟨Nat.le_of_ble_eq_true rfl, Nat.le_of_ble_eq_true rfl⟩ d_SP_init_20) hP hD hS hA [14] [0, 1, 2, 3, 4, 5, 6, 7, 8, 9, 10, 11, 12, 13] rfl rfl (by decide) (by decide) [0, 1, 2, 3, 4, 5, 6, 7, 8, 9, 10, 11, 12, 13, 14, 15] (fun (x : Nat) => [(ob, .inr (5, [.ref re, .null, .null, .null, .int 0, .null])), (re, .inr (2, [.ref te, .ref dr, .int 0, .int ((-1))])), (te, .inr (4, [.ref ta, .int 0])), (ta, .inl (cC, 600, .inl (nA (fun _ => 0)))), (dr, .inr (1, [.ref d1, .ref d2, .ref d3, .ref d4, .ref d5, .ref d6, .ref d7, .ref d8, .ref d9, .int 0])), (d1, .inl (cI, 480, .inl (nA (fun _ => 0)))), (d2, .inl (cZ, 480, .inl (zA (fun _ => false)))), (d3, .inl (cZ, 41, .inl (zA (fun _ => false)))), (d4, .inl (cZ, 41, .inl (zA (fun _ => false)))), (d5, .inl (cI, 61, .inl (nA (fun _ => 0)))), (d6, .inl (cI, 66, .inl (nA (fun _ => 0)))), (d7, .inl (cI, 66, .inl (nA (fun _ => 0)))), (d8, .inl (cI, 66, .inl (nA (fun _ => 0)))), (d9, .inl (cI, 66, .inl (nA (fun _ => 0)))), (fa, .inr (0, [.ref x, .int 0])), (x, .inl (cI, 500, .inl (nA (fun _ => 0))))]) (fun _ => rfl) (by decide) (fun x H locs hp20 hP hD hS => ?_)
  obtain ⟨fo, rfl⟩ : ∃ z, z = x := ⟨_, rfl⟩
  have hP : va_P D vwCl [(ob, .inr (5, [.ref re, .null, .null, .null, .int 0, .null])), (re, .inr (2, [.ref te, .ref dr, .int 0, .int ((-1))])), (te, .inr (4, [.ref ta, .int 0])), (ta, .inl (cC, 600, .inl (nA (fun _ => 0)))), (dr, .inr (1, [.ref d1, .ref d2, .ref d3, .ref d4, .ref d5, .ref d6, .ref d7, .ref d8, .ref d9, .int 0])), (d1, .inl (cI, 480, .inl (nA (fun _ => 0)))), (d2, .inl (cZ, 480, .inl (zA (fun _ => false)))), (d3, .inl (cZ, 41, .inl (zA (fun _ => false)))), (d4, .inl (cZ, 41, .inl (zA (fun _ => false)))), (d5, .inl (cI, 61, .inl (nA (fun _ => 0)))), (d6, .inl (cI, 66, .inl (nA (fun _ => 0)))), (d7, .inl (cI, 66, .inl (nA (fun _ => 0)))), (d8, .inl (cI, 66, .inl (nA (fun _ => 0)))), (d9, .inl (cI, 66, .inl (nA (fun _ => 0)))), (fa, .inr (0, [.ref fo, .int 0])), (fo, .inl (cI, 500, .inl (nA (fun _ => 0))))] H := hP
  have hD : va_D A [(ob, .inr (5, [.ref re, .null, .null, .null, .int 0, .null])), (re, .inr (2, [.ref te, .ref dr, .int 0, .int ((-1))])), (te, .inr (4, [.ref ta, .int 0])), (ta, .inl (cC, 600, .inl (nA (fun _ => 0)))), (dr, .inr (1, [.ref d1, .ref d2, .ref d3, .ref d4, .ref d5, .ref d6, .ref d7, .ref d8, .ref d9, .int 0])), (d1, .inl (cI, 480, .inl (nA (fun _ => 0)))), (d2, .inl (cZ, 480, .inl (zA (fun _ => false)))), (d3, .inl (cZ, 41, .inl (zA (fun _ => false)))), (d4, .inl (cZ, 41, .inl (zA (fun _ => false)))), (d5, .inl (cI, 61, .inl (nA (fun _ => 0)))), (d6, .inl (cI, 66, .inl (nA (fun _ => 0)))), (d7, .inl (cI, 66, .inl (nA (fun _ => 0)))), (d8, .inl (cI, 66, .inl (nA (fun _ => 0)))), (d9, .inl (cI, 66, .inl (nA (fun _ => 0)))), (fa, .inr (0, [.ref fo, .int 0])), (fo, .inl (cI, 500, .inl (nA (fun _ => 0))))] := hD
  refine ga_putF (ws' := [(ob, .inr (5, [.ref re, .ref fa, .null, .null, .int 0, .null])), (re, .inr (2, [.ref te, .ref dr, .int 0, .int ((-1))])), (te, .inr (4, [.ref ta, .int 0])), (ta, .inl (cC, 600, .inl (nA (fun _ => 0)))), (dr, .inr (1, [.ref d1, .ref d2, .ref d3, .ref d4, .ref d5, .ref d6, .ref d7, .ref d8, .ref d9, .int 0])), (d1, .inl (cI, 480, .inl (nA (fun _ => 0)))), (d2, .inl (cZ, 480, .inl (zA (fun _ => false)))), (d3, .inl (cZ, 41, .inl (zA (fun _ => false)))), (d4, .inl (cZ, 41, .inl (zA (fun _ => false)))), (d5, .inl (cI, 61, .inl (nA (fun _ => 0)))), (d6, .inl (cI, 66, .inl (nA (fun _ => 0)))), (d7, .inl (cI, 66, .inl (nA (fun _ => 0)))), (d8, .inl (cI, 66, .inl (nA (fun _ => 0)))), (d9, .inl (cI, 66, .inl (nA (fun _ => 0)))), (fa, .inr (0, [.ref fo, .int 0])), (fo, .inl (cI, 500, .inl (nA (fun _ => 0))))]) S hnm hK hP hD hS 0 rfl p_SP_19 rfl rfl (Nat.le_of_ble_eq_true rfl) rfl d_SP_init_23 (fun H locs hP hD hS => ?_)
  refine lv_aload_n hx hb d_SP_init_26 rfl (lv_at hl 0 rfl) ?_
  refine ga_new S hK hP hD hS hA n_SP_23 (Nat.le_of_ble_eq_true rfl) (Nat.le_of_ble_eq_true rfl) d_SP_init_27 (fun shh H hP hD hS => ?_)
  have hP : va_P D vwCl [(ob, .inr (5, [.ref re, .ref fa, .null, .null, .int 0, .null])), (re, .inr (2, [.ref te, .ref dr, .int 0, .int ((-1))])), (te, .inr (4, [.ref ta, .int 0])), (ta, .inl (cC, 600, .inl (nA (fun _ => 0)))), (dr, .inr (1, [.ref d1, .ref d2, .ref d3, .ref d4, .ref d5, .ref d6, .ref d7, .ref d8, .ref d9, .int 0])), (d1, .inl (cI, 480, .inl (nA (fun _ => 0)))), (d2, .inl (cZ, 480, .inl (zA (fun _ => false)))), (d3, .inl (cZ, 41, .inl (zA (fun _ => false)))), (d4, .inl (cZ, 41, .inl (zA (fun _ => false)))), (d5, .inl (cI, 61, .inl (nA (fun _ => 0)))), (d6, .inl (cI, 66, .inl (nA (fun _ => 0)))), (d7, .inl (cI, 66, .inl (nA (fun _ => 0)))), (d8, .inl (cI, 66, .inl (nA (fun _ => 0)))), (d9, .inl (cI, 66, .inl (nA (fun _ => 0)))), (fa, .inr (0, [.ref fo, .int 0])), (fo, .inl (cI, 500, .inl (nA (fun _ => 0)))), (shh, .inr (3, [.null, .int 0]))] H := hP
  have hD : va_D A [(ob, .inr (5, [.ref re, .ref fa, .null, .null, .int 0, .null])), (re, .inr (2, [.ref te, .ref dr, .int 0, .int ((-1))])), (te, .inr (4, [.ref ta, .int 0])), (ta, .inl (cC, 600, .inl (nA (fun _ => 0)))), (dr, .inr (1, [.ref d1, .ref d2, .ref d3, .ref d4, .ref d5, .ref d6, .ref d7, .ref d8, .ref d9, .int 0])), (d1, .inl (cI, 480, .inl (nA (fun _ => 0)))), (d2, .inl (cZ, 480, .inl (zA (fun _ => false)))), (d3, .inl (cZ, 41, .inl (zA (fun _ => false)))), (d4, .inl (cZ, 41, .inl (zA (fun _ => false)))), (d5, .inl (cI, 61, .inl (nA (fun _ => 0)))), (d6, .inl (cI, 66, .inl (nA (fun _ => 0)))), (d7, .inl (cI, 66, .inl (nA (fun _ => 0)))), (d8, .inl (cI, 66, .inl (nA (fun _ => 0)))), (d9, .inl (cI, 66, .inl (nA (fun _ => 0)))), (fa, .inr (0, [.ref fo, .int 0])), (fo, .inl (cI, 500, .inl (nA (fun _ => 0)))), (shh, .inr (3, [.null, .int 0]))] := hD
  refine lv_dup hx hb d_SP_init_30 rfl ?_
  refine ga_jv (wr := [(ob, .inr (5, [.ref re, .ref fa, .null, .null, .int 0, .null])), (re, .inr (2, [.ref te, .ref dr, .int 0, .int ((-1))])), (te, .inr (4, [.ref ta, .int 0])), (ta, .inl (cC, 600, .inl (nA (fun _ => 0)))), (dr, .inr (1, [.ref d1, .ref d2, .ref d3, .ref d4, .ref d5, .ref d6, .ref d7, .ref d8, .ref d9, .int 0])), (d1, .inl (cI, 480, .inl (nA (fun _ => 0)))), (d2, .inl (cZ, 480, .inl (zA (fun _ => false)))), (d3, .inl (cZ, 41, .inl (zA (fun _ => false)))), (d4, .inl (cZ, 41, .inl (zA (fun _ => false)))), (d5, .inl (cI, 61, .inl (nA (fun _ => 0)))), (d6, .inl (cI, 66, .inl (nA (fun _ => 0)))), (d7, .inl (cI, 66, .inl (nA (fun _ => 0)))), (d8, .inl (cI, 66, .inl (nA (fun _ => 0)))), (d9, .inl (cI, 66, .inl (nA (fun _ => 0)))), (fa, .inr (0, [.ref fo, .int 0])), (fo, .inl (cI, 500, .inl (nA (fun _ => 0))))]) (ga_runI (As := []) (rest := [.ref shh, .ref ob]) S hK s_SP_25 (gc_Sh_init l D cI cZ cC cG shh _) (ga_prS hK hP hD [16] rfl (by decide)) rfl hl.1 rfl (Nat.le_of_ble_eq_true rfl) ⟨Nat.le_of_ble_eq_true rfl, Nat.le_of_ble_eq_true rfl⟩ ⟨Nat.le_of_ble_eq_true rfl, Nat.le_of_ble_eq_true rfl⟩ d_SP_init_31) hP hD hS hA [16] [0, 1, 2, 3, 4, 5, 6, 7, 8, 9, 10, 11, 12, 13, 14, 15] rfl rfl (by decide) (by decide) [0, 1, 2, 3, 4, 5, 6, 7, 8, 9, 10, 11, 12, 13, 14, 15, 16, 17] (fun (x : Nat) => [(ob, .inr (5, [.ref re, .ref fa, .null, .null, .int 0, .null])), (re, .inr (2, [.ref te, .ref dr, .int 0, .int ((-1))])), (te, .inr (4, [.ref ta, .int 0])), (ta, .inl (cC, 600, .inl (nA (fun _ => 0)))), (dr, .inr (1, [.ref d1, .ref d2, .ref d3, .ref d4, .ref d5, .ref d6, .ref d7, .ref d8, .ref d9, .int 0])), (d1, .inl (cI, 480, .inl (nA (fun _ => 0)))), (d2, .inl (cZ, 480, .inl (zA (fun _ => false)))), (d3, .inl (cZ, 41, .inl (zA (fun _ => false)))), (d4, .inl (cZ, 41, .inl (zA (fun _ => false)))), (d5, .inl (cI, 61, .inl (nA (fun _ => 0)))), (d6, .inl (cI, 66, .inl (nA (fun _ => 0)))), (d7, .inl (cI, 66, .inl (nA (fun _ => 0)))), (d8, .inl (cI, 66, .inl (nA (fun _ => 0)))), (d9, .inl (cI, 66, .inl (nA (fun _ => 0)))), (fa, .inr (0, [.ref fo, .int 0])), (fo, .inl (cI, 500, .inl (nA (fun _ => 0)))), (shh, .inr (3, [.ref x, .int 0])), (x, .inl (cC, 240, .inl (nA (fun _ => 0))))]) (fun _ => rfl) (by decide) (fun x H locs hp31 hP hD hS => ?_)
  obtain ⟨sha, rfl⟩ : ∃ z, z = x := ⟨_, rfl⟩
  have hP : va_P D vwCl [(ob, .inr (5, [.ref re, .ref fa, .null, .null, .int 0, .null])), (re, .inr (2, [.ref te, .ref dr, .int 0, .int ((-1))])), (te, .inr (4, [.ref ta, .int 0])), (ta, .inl (cC, 600, .inl (nA (fun _ => 0)))), (dr, .inr (1, [.ref d1, .ref d2, .ref d3, .ref d4, .ref d5, .ref d6, .ref d7, .ref d8, .ref d9, .int 0])), (d1, .inl (cI, 480, .inl (nA (fun _ => 0)))), (d2, .inl (cZ, 480, .inl (zA (fun _ => false)))), (d3, .inl (cZ, 41, .inl (zA (fun _ => false)))), (d4, .inl (cZ, 41, .inl (zA (fun _ => false)))), (d5, .inl (cI, 61, .inl (nA (fun _ => 0)))), (d6, .inl (cI, 66, .inl (nA (fun _ => 0)))), (d7, .inl (cI, 66, .inl (nA (fun _ => 0)))), (d8, .inl (cI, 66, .inl (nA (fun _ => 0)))), (d9, .inl (cI, 66, .inl (nA (fun _ => 0)))), (fa, .inr (0, [.ref fo, .int 0])), (fo, .inl (cI, 500, .inl (nA (fun _ => 0)))), (shh, .inr (3, [.ref sha, .int 0])), (sha, .inl (cC, 240, .inl (nA (fun _ => 0))))] H := hP
  have hD : va_D A [(ob, .inr (5, [.ref re, .ref fa, .null, .null, .int 0, .null])), (re, .inr (2, [.ref te, .ref dr, .int 0, .int ((-1))])), (te, .inr (4, [.ref ta, .int 0])), (ta, .inl (cC, 600, .inl (nA (fun _ => 0)))), (dr, .inr (1, [.ref d1, .ref d2, .ref d3, .ref d4, .ref d5, .ref d6, .ref d7, .ref d8, .ref d9, .int 0])), (d1, .inl (cI, 480, .inl (nA (fun _ => 0)))), (d2, .inl (cZ, 480, .inl (zA (fun _ => false)))), (d3, .inl (cZ, 41, .inl (zA (fun _ => false)))), (d4, .inl (cZ, 41, .inl (zA (fun _ => false)))), (d5, .inl (cI, 61, .inl (nA (fun _ => 0)))), (d6, .inl (cI, 66, .inl (nA (fun _ => 0)))), (d7, .inl (cI, 66, .inl (nA (fun _ => 0)))), (d8, .inl (cI, 66, .inl (nA (fun _ => 0)))), (d9, .inl (cI, 66, .inl (nA (fun _ => 0)))), (fa, .inr (0, [.ref fo, .int 0])), (fo, .inl (cI, 500, .inl (nA (fun _ => 0)))), (shh, .inr (3, [.ref sha, .int 0])), (sha, .inl (cC, 240, .inl (nA (fun _ => 0))))] := hD
  refine ga_putF (ws' := [(ob, .inr (5, [.ref re, .ref fa, .ref shh, .null, .int 0, .null])), (re, .inr (2, [.ref te, .ref dr, .int 0, .int ((-1))])), (te, .inr (4, [.ref ta, .int 0])), (ta, .inl (cC, 600, .inl (nA (fun _ => 0)))), (dr, .inr (1, [.ref d1, .ref d2, .ref d3, .ref d4, .ref d5, .ref d6, .ref d7, .ref d8, .ref d9, .int 0])), (d1, .inl (cI, 480, .inl (nA (fun _ => 0)))), (d2, .inl (cZ, 480, .inl (zA (fun _ => false)))), (d3, .inl (cZ, 41, .inl (zA (fun _ => false)))), (d4, .inl (cZ, 41, .inl (zA (fun _ => false)))), (d5, .inl (cI, 61, .inl (nA (fun _ => 0)))), (d6, .inl (cI, 66, .inl (nA (fun _ => 0)))), (d7, .inl (cI, 66, .inl (nA (fun _ => 0)))), (d8, .inl (cI, 66, .inl (nA (fun _ => 0)))), (d9, .inl (cI, 66, .inl (nA (fun _ => 0)))), (fa, .inr (0, [.ref fo, .int 0])), (fo, .inl (cI, 500, .inl (nA (fun _ => 0)))), (shh, .inr (3, [.ref sha, .int 0])), (sha, .inl (cC, 240, .inl (nA (fun _ => 0))))]) S hnm hK hP hD hS 0 rfl p_SP_26 rfl rfl (Nat.le_of_ble_eq_true rfl) rfl d_SP_init_34 (fun H locs hP hD hS => ?_)
  refine lv_aload_n hx hb d_SP_init_37 rfl (lv_at hl 0 rfl) ?_
  refine lv_bipush (v := 8) hx hb d_SP_init_38 (by decide) ?_
  refine lv_sipush (v := 480) hx hb d_SP_init_40 (by decide) ?_
  refine ga_mna (cI := cI) (cG := cG) S hK hP hD hS hA rfl rfl cl_SP_30 (Nat.le_of_ble_eq_true rfl) (Nat.le_of_ble_eq_true rfl) d_SP_init_43 (fun eo ea H hP hD hS => ?_)
  have hP : va_P D vwCl [(ob, .inr (5, [.ref re, .ref fa, .ref shh, .null, .int 0, .null])), (re, .inr (2, [.ref te, .ref dr, .int 0, .int ((-1))])), (te, .inr (4, [.ref ta, .int 0])), (ta, .inl (cC, 600, .inl (nA (fun _ => 0)))), (dr, .inr (1, [.ref d1, .ref d2, .ref d3, .ref d4, .ref d5, .ref d6, .ref d7, .ref d8, .ref d9, .int 0])), (d1, .inl (cI, 480, .inl (nA (fun _ => 0)))), (d2, .inl (cZ, 480, .inl (zA (fun _ => false)))), (d3, .inl (cZ, 41, .inl (zA (fun _ => false)))), (d4, .inl (cZ, 41, .inl (zA (fun _ => false)))), (d5, .inl (cI, 61, .inl (nA (fun _ => 0)))), (d6, .inl (cI, 66, .inl (nA (fun _ => 0)))), (d7, .inl (cI, 66, .inl (nA (fun _ => 0)))), (d8, .inl (cI, 66, .inl (nA (fun _ => 0)))), (d9, .inl (cI, 66, .inl (nA (fun _ => 0)))), (fa, .inr (0, [.ref fo, .int 0])), (fo, .inl (cI, 500, .inl (nA (fun _ => 0)))), (shh, .inr (3, [.ref sha, .int 0])), (sha, .inl (cC, 240, .inl (nA (fun _ => 0)))), (eo, .inl (cG, 8, .inr (.inr (.inr (.inr (fun i => if i < 8 then some (ea i) else none)))))), ((ea 0), .inl (cI, 480, .inl (nA (fun _ => 0)))), ((ea 1), .inl (cI, 480, .inl (nA (fun _ => 0)))), ((ea 2), .inl (cI, 480, .inl (nA (fun _ => 0)))), ((ea 3), .inl (cI, 480, .inl (nA (fun _ => 0)))), ((ea 4), .inl (cI, 480, .inl (nA (fun _ => 0)))), ((ea 5), .inl (cI, 480, .inl (nA (fun _ => 0)))), ((ea 6), .inl (cI, 480, .inl (nA (fun _ => 0)))), ((ea 7), .inl (cI, 480, .inl (nA (fun _ => 0))))] H := hP
  have hD : va_D A [(ob, .inr (5, [.ref re, .ref fa, .ref shh, .null, .int 0, .null])), (re, .inr (2, [.ref te, .ref dr, .int 0, .int ((-1))])), (te, .inr (4, [.ref ta, .int 0])), (ta, .inl (cC, 600, .inl (nA (fun _ => 0)))), (dr, .inr (1, [.ref d1, .ref d2, .ref d3, .ref d4, .ref d5, .ref d6, .ref d7, .ref d8, .ref d9, .int 0])), (d1, .inl (cI, 480, .inl (nA (fun _ => 0)))), (d2, .inl (cZ, 480, .inl (zA (fun _ => false)))), (d3, .inl (cZ, 41, .inl (zA (fun _ => false)))), (d4, .inl (cZ, 41, .inl (zA (fun _ => false)))), (d5, .inl (cI, 61, .inl (nA (fun _ => 0)))), (d6, .inl (cI, 66, .inl (nA (fun _ => 0)))), (d7, .inl (cI, 66, .inl (nA (fun _ => 0)))), (d8, .inl (cI, 66, .inl (nA (fun _ => 0)))), (d9, .inl (cI, 66, .inl (nA (fun _ => 0)))), (fa, .inr (0, [.ref fo, .int 0])), (fo, .inl (cI, 500, .inl (nA (fun _ => 0)))), (shh, .inr (3, [.ref sha, .int 0])), (sha, .inl (cC, 240, .inl (nA (fun _ => 0)))), (eo, .inl (cG, 8, .inr (.inr (.inr (.inr (fun i => if i < 8 then some (ea i) else none)))))), ((ea 0), .inl (cI, 480, .inl (nA (fun _ => 0)))), ((ea 1), .inl (cI, 480, .inl (nA (fun _ => 0)))), ((ea 2), .inl (cI, 480, .inl (nA (fun _ => 0)))), ((ea 3), .inl (cI, 480, .inl (nA (fun _ => 0)))), ((ea 4), .inl (cI, 480, .inl (nA (fun _ => 0)))), ((ea 5), .inl (cI, 480, .inl (nA (fun _ => 0)))), ((ea 6), .inl (cI, 480, .inl (nA (fun _ => 0)))), ((ea 7), .inl (cI, 480, .inl (nA (fun _ => 0))))] := hD
  refine ga_putF (ws' := [(ob, .inr (5, [.ref re, .ref fa, .ref shh, .ref eo, .int 0, .null])), (re, .inr (2, [.ref te, .ref dr, .int 0, .int ((-1))])), (te, .inr (4, [.ref ta, .int 0])), (ta, .inl (cC, 600, .inl (nA (fun _ => 0)))), (dr, .inr (1, [.ref d1, .ref d2, .ref d3, .ref d4, .ref d5, .ref d6, .ref d7, .ref d8, .ref d9, .int 0])), (d1, .inl (cI, 480, .inl (nA (fun _ => 0)))), (d2, .inl (cZ, 480, .inl (zA (fun _ => false)))), (d3, .inl (cZ, 41, .inl (zA (fun _ => false)))), (d4, .inl (cZ, 41, .inl (zA (fun _ => false)))), (d5, .inl (cI, 61, .inl (nA (fun _ => 0)))), (d6, .inl (cI, 66, .inl (nA (fun _ => 0)))), (d7, .inl (cI, 66, .inl (nA (fun _ => 0)))), (d8, .inl (cI, 66, .inl (nA (fun _ => 0)))), (d9, .inl (cI, 66, .inl (nA (fun _ => 0)))), (fa, .inr (0, [.ref fo, .int 0])), (fo, .inl (cI, 500, .inl (nA (fun _ => 0)))), (shh, .inr (3, [.ref sha, .int 0])), (sha, .inl (cC, 240, .inl (nA (fun _ => 0)))), (eo, .inl (cG, 8, .inr (.inr (.inr (.inr (fun i => if i < 8 then some (ea i) else none)))))), ((ea 0), .inl (cI, 480, .inl (nA (fun _ => 0)))), ((ea 1), .inl (cI, 480, .inl (nA (fun _ => 0)))), ((ea 2), .inl (cI, 480, .inl (nA (fun _ => 0)))), ((ea 3), .inl (cI, 480, .inl (nA (fun _ => 0)))), ((ea 4), .inl (cI, 480, .inl (nA (fun _ => 0)))), ((ea 5), .inl (cI, 480, .inl (nA (fun _ => 0)))), ((ea 6), .inl (cI, 480, .inl (nA (fun _ => 0)))), ((ea 7), .inl (cI, 480, .inl (nA (fun _ => 0))))]) S hnm hK hP hD hS 0 rfl p_SP_32 rfl rfl (Nat.le_of_ble_eq_true rfl) rfl d_SP_init_47 (fun H locs hP hD hS => ?_)
  refine lv_aload_n hx hb d_SP_init_50 rfl (lv_at hl 0 rfl) ?_
  refine ga_new S hK hP hD hS hA n_SP_35 (Nat.le_of_ble_eq_true rfl) (Nat.le_of_ble_eq_true rfl) d_SP_init_51 (fun pl H hP hD hS => ?_)
  have hP : va_P D vwCl [(ob, .inr (5, [.ref re, .ref fa, .ref shh, .ref eo, .int 0, .null])), (re, .inr (2, [.ref te, .ref dr, .int 0, .int ((-1))])), (te, .inr (4, [.ref ta, .int 0])), (ta, .inl (cC, 600, .inl (nA (fun _ => 0)))), (dr, .inr (1, [.ref d1, .ref d2, .ref d3, .ref d4, .ref d5, .ref d6, .ref d7, .ref d8, .ref d9, .int 0])), (d1, .inl (cI, 480, .inl (nA (fun _ => 0)))), (d2, .inl (cZ, 480, .inl (zA (fun _ => false)))), (d3, .inl (cZ, 41, .inl (zA (fun _ => false)))), (d4, .inl (cZ, 41, .inl (zA (fun _ => false)))), (d5, .inl (cI, 61, .inl (nA (fun _ => 0)))), (d6, .inl (cI, 66, .inl (nA (fun _ => 0)))), (d7, .inl (cI, 66, .inl (nA (fun _ => 0)))), (d8, .inl (cI, 66, .inl (nA (fun _ => 0)))), (d9, .inl (cI, 66, .inl (nA (fun _ => 0)))), (fa, .inr (0, [.ref fo, .int 0])), (fo, .inl (cI, 500, .inl (nA (fun _ => 0)))), (shh, .inr (3, [.ref sha, .int 0])), (sha, .inl (cC, 240, .inl (nA (fun _ => 0)))), (eo, .inl (cG, 8, .inr (.inr (.inr (.inr (fun i => if i < 8 then some (ea i) else none)))))), ((ea 0), .inl (cI, 480, .inl (nA (fun _ => 0)))), ((ea 1), .inl (cI, 480, .inl (nA (fun _ => 0)))), ((ea 2), .inl (cI, 480, .inl (nA (fun _ => 0)))), ((ea 3), .inl (cI, 480, .inl (nA (fun _ => 0)))), ((ea 4), .inl (cI, 480, .inl (nA (fun _ => 0)))), ((ea 5), .inl (cI, 480, .inl (nA (fun _ => 0)))), ((ea 6), .inl (cI, 480, .inl (nA (fun _ => 0)))), ((ea 7), .inl (cI, 480, .inl (nA (fun _ => 0)))), (pl, .inr (1, [.null, .null, .null, .null, .null, .null, .null, .null, .null, .int 0]))] H := hP
  have hD : va_D A [(ob, .inr (5, [.ref re, .ref fa, .ref shh, .ref eo, .int 0, .null])), (re, .inr (2, [.ref te, .ref dr, .int 0, .int ((-1))])), (te, .inr (4, [.ref ta, .int 0])), (ta, .inl (cC, 600, .inl (nA (fun _ => 0)))), (dr, .inr (1, [.ref d1, .ref d2, .ref d3, .ref d4, .ref d5, .ref d6, .ref d7, .ref d8, .ref d9, .int 0])), (d1, .inl (cI, 480, .inl (nA (fun _ => 0)))), (d2, .inl (cZ, 480, .inl (zA (fun _ => false)))), (d3, .inl (cZ, 41, .inl (zA (fun _ => false)))), (d4, .inl (cZ, 41, .inl (zA (fun _ => false)))), (d5, .inl (cI, 61, .inl (nA (fun _ => 0)))), (d6, .inl (cI, 66, .inl (nA (fun _ => 0)))), (d7, .inl (cI, 66, .inl (nA (fun _ => 0)))), (d8, .inl (cI, 66, .inl (nA (fun _ => 0)))), (d9, .inl (cI, 66, .inl (nA (fun _ => 0)))), (fa, .inr (0, [.ref fo, .int 0])), (fo, .inl (cI, 500, .inl (nA (fun _ => 0)))), (shh, .inr (3, [.ref sha, .int 0])), (sha, .inl (cC, 240, .inl (nA (fun _ => 0)))), (eo, .inl (cG, 8, .inr (.inr (.inr (.inr (fun i => if i < 8 then some (ea i) else none)))))), ((ea 0), .inl (cI, 480, .inl (nA (fun _ => 0)))), ((ea 1), .inl (cI, 480, .inl (nA (fun _ => 0)))), ((ea 2), .inl (cI, 480, .inl (nA (fun _ => 0)))), ((ea 3), .inl (cI, 480, .inl (nA (fun _ => 0)))), ((ea 4), .inl (cI, 480, .inl (nA (fun _ => 0)))), ((ea 5), .inl (cI, 480, .inl (nA (fun _ => 0)))), ((ea 6), .inl (cI, 480, .inl (nA (fun _ => 0)))), ((ea 7), .inl (cI, 480, .inl (nA (fun _ => 0)))), (pl, .inr (1, [.null, .null, .null, .null, .null, .null, .null, .null, .null, .int 0]))] := hD
  refine lv_dup hx hb d_SP_init_54 rfl ?_
  refine ga_jv (wr := [(ob, .inr (5, [.ref re, .ref fa, .ref shh, .ref eo, .int 0, .null])), (re, .inr (2, [.ref te, .ref dr, .int 0, .int ((-1))])), (te, .inr (4, [.ref ta, .int 0])), (ta, .inl (cC, 600, .inl (nA (fun _ => 0)))), (dr, .inr (1, [.ref d1, .ref d2, .ref d3, .ref d4, .ref d5, .ref d6, .ref d7, .ref d8, .ref d9, .int 0])), (d1, .inl (cI, 480, .inl (nA (fun _ => 0)))), (d2, .inl (cZ, 480, .inl (zA (fun _ => false)))), (d3, .inl (cZ, 41, .inl (zA (fun _ => false)))), (d4, .inl (cZ, 41, .inl (zA (fun _ => false)))), (d5, .inl (cI, 61, .inl (nA (fun _ => 0)))), (d6, .inl (cI, 66, .inl (nA (fun _ => 0)))), (d7, .inl (cI, 66, .inl (nA (fun _ => 0)))), (d8, .inl (cI, 66, .inl (nA (fun _ => 0)))), (d9, .inl (cI, 66, .inl (nA (fun _ => 0)))), (fa, .inr (0, [.ref fo, .int 0])), (fo, .inl (cI, 500, .inl (nA (fun _ => 0)))), (shh, .inr (3, [.ref sha, .int 0])), (sha, .inl (cC, 240, .inl (nA (fun _ => 0)))), (eo, .inl (cG, 8, .inr (.inr (.inr (.inr (fun i => if i < 8 then some (ea i) else none)))))), ((ea 0), .inl (cI, 480, .inl (nA (fun _ => 0)))), ((ea 1), .inl (cI, 480, .inl (nA (fun _ => 0)))), ((ea 2), .inl (cI, 480, .inl (nA (fun _ => 0)))), ((ea 3), .inl (cI, 480, .inl (nA (fun _ => 0)))), ((ea 4), .inl (cI, 480, .inl (nA (fun _ => 0)))), ((ea 5), .inl (cI, 480, .inl (nA (fun _ => 0)))), ((ea 6), .inl (cI, 480, .inl (nA (fun _ => 0)))), ((ea 7), .inl (cI, 480, .inl (nA (fun _ => 0))))]) (ga_runI (As := []) (rest := [.ref pl, .ref ob]) S hK s_SP_37 (gc_Pl_init l D cI cZ cC cG pl _) (ga_prS hK hP hD [27] rfl (by decide)) rfl hl.1 rfl (Nat.le_of_ble_eq_true rfl) ⟨Nat.le_of_ble_eq_true rfl, Nat.le_of_ble_eq_true rfl⟩ ⟨Nat.le_of_ble_eq_true rfl, Nat.le_of_ble_eq_true rfl⟩ d_SP_init_55) hP hD hS hA [27] [0, 1, 2, 3, 4, 5, 6, 7, 8, 9, 10, 11, 12, 13, 14, 15, 16, 17, 18, 19, 20, 21, 22, 23, 24, 25, 26] rfl rfl (by decide) (by decide) [0, 1, 2, 3, 4, 5, 6, 7, 8, 9, 10, 11, 12, 13, 14, 15, 16, 17, 18, 19, 20, 21, 22, 23, 24, 25, 26, 27, 28, 29, 30, 31, 32, 33, 34, 35, 36] (fun (x : Nat × Nat × Nat × Nat × Nat × Nat × Nat × Nat × Nat) => [(ob, .inr (5, [.ref re, .ref fa, .ref shh, .ref eo, .int 0, .null])), (re, .inr (2, [.ref te, .ref dr, .int 0, .int ((-1))])), (te, .inr (4, [.ref ta, .int 0])), (ta, .inl (cC, 600, .inl (nA (fun _ => 0)))), (dr, .inr (1, [.ref d1, .ref d2, .ref d3, .ref d4, .ref d5, .ref d6, .ref d7, .ref d8, .ref d9, .int 0])), (d1, .inl (cI, 480, .inl (nA (fun _ => 0)))), (d2, .inl (cZ, 480, .inl (zA (fun _ => false)))), (d3, .inl (cZ, 41, .inl (zA (fun _ => false)))), (d4, .inl (cZ, 41, .inl (zA (fun _ => false)))), (d5, .inl (cI, 61, .inl (nA (fun _ => 0)))), (d6, .inl (cI, 66, .inl (nA (fun _ => 0)))), (d7, .inl (cI, 66, .inl (nA (fun _ => 0)))), (d8, .inl (cI, 66, .inl (nA (fun _ => 0)))), (d9, .inl (cI, 66, .inl (nA (fun _ => 0)))), (fa, .inr (0, [.ref fo, .int 0])), (fo, .inl (cI, 500, .inl (nA (fun _ => 0)))), (shh, .inr (3, [.ref sha, .int 0])), (sha, .inl (cC, 240, .inl (nA (fun _ => 0)))), (eo, .inl (cG, 8, .inr (.inr (.inr (.inr (fun i => if i < 8 then some (ea i) else none)))))), ((ea 0), .inl (cI, 480, .inl (nA (fun _ => 0)))), ((ea 1), .inl (cI, 480, .inl (nA (fun _ => 0)))), ((ea 2), .inl (cI, 480, .inl (nA (fun _ => 0)))), ((ea 3), .inl (cI, 480, .inl (nA (fun _ => 0)))), ((ea 4), .inl (cI, 480, .inl (nA (fun _ => 0)))), ((ea 5), .inl (cI, 480, .inl (nA (fun _ => 0)))), ((ea 6), .inl (cI, 480, .inl (nA (fun _ => 0)))), ((ea 7), .inl (cI, 480, .inl (nA (fun _ => 0)))), (pl, .inr (1, [.ref x.1, .ref x.2.1, .ref x.2.2.1, .ref x.2.2.2.1, .ref x.2.2.2.2.1, .ref x.2.2.2.2.2.1, .ref x.2.2.2.2.2.2.1, .ref x.2.2.2.2.2.2.2.1, .ref x.2.2.2.2.2.2.2.2, .int 0])), (x.1, .inl (cI, 480, .inl (nA (fun _ => 0)))), (x.2.1, .inl (cZ, 480, .inl (zA (fun _ => false)))), (x.2.2.1, .inl (cZ, 41, .inl (zA (fun _ => false)))), (x.2.2.2.1, .inl (cZ, 41, .inl (zA (fun _ => false)))), (x.2.2.2.2.1, .inl (cI, 61, .inl (nA (fun _ => 0)))), (x.2.2.2.2.2.1, .inl (cI, 66, .inl (nA (fun _ => 0)))), (x.2.2.2.2.2.2.1, .inl (cI, 66, .inl (nA (fun _ => 0)))), (x.2.2.2.2.2.2.2.1, .inl (cI, 66, .inl (nA (fun _ => 0)))), (x.2.2.2.2.2.2.2.2, .inl (cI, 66, .inl (nA (fun _ => 0))))]) (fun _ => rfl) (by decide) (fun x H locs hp55 hP hD hS => ?_)
  obtain ⟨q1, q2, q3, q4, q5, q6, q7, q8, q9⟩ := x
  have hP : va_P D vwCl [(ob, .inr (5, [.ref re, .ref fa, .ref shh, .ref eo, .int 0, .null])), (re, .inr (2, [.ref te, .ref dr, .int 0, .int ((-1))])), (te, .inr (4, [.ref ta, .int 0])), (ta, .inl (cC, 600, .inl (nA (fun _ => 0)))), (dr, .inr (1, [.ref d1, .ref d2, .ref d3, .ref d4, .ref d5, .ref d6, .ref d7, .ref d8, .ref d9, .int 0])), (d1, .inl (cI, 480, .inl (nA (fun _ => 0)))), (d2, .inl (cZ, 480, .inl (zA (fun _ => false)))), (d3, .inl (cZ, 41, .inl (zA (fun _ => false)))), (d4, .inl (cZ, 41, .inl (zA (fun _ => false)))), (d5, .inl (cI, 61, .inl (nA (fun _ => 0)))), (d6, .inl (cI, 66, .inl (nA (fun _ => 0)))), (d7, .inl (cI, 66, .inl (nA (fun _ => 0)))), (d8, .inl (cI, 66, .inl (nA (fun _ => 0)))), (d9, .inl (cI, 66, .inl (nA (fun _ => 0)))), (fa, .inr (0, [.ref fo, .int 0])), (fo, .inl (cI, 500, .inl (nA (fun _ => 0)))), (shh, .inr (3, [.ref sha, .int 0])), (sha, .inl (cC, 240, .inl (nA (fun _ => 0)))), (eo, .inl (cG, 8, .inr (.inr (.inr (.inr (fun i => if i < 8 then some (ea i) else none)))))), ((ea 0), .inl (cI, 480, .inl (nA (fun _ => 0)))), ((ea 1), .inl (cI, 480, .inl (nA (fun _ => 0)))), ((ea 2), .inl (cI, 480, .inl (nA (fun _ => 0)))), ((ea 3), .inl (cI, 480, .inl (nA (fun _ => 0)))), ((ea 4), .inl (cI, 480, .inl (nA (fun _ => 0)))), ((ea 5), .inl (cI, 480, .inl (nA (fun _ => 0)))), ((ea 6), .inl (cI, 480, .inl (nA (fun _ => 0)))), ((ea 7), .inl (cI, 480, .inl (nA (fun _ => 0)))), (pl, .inr (1, [.ref q1, .ref q2, .ref q3, .ref q4, .ref q5, .ref q6, .ref q7, .ref q8, .ref q9, .int 0])), (q1, .inl (cI, 480, .inl (nA (fun _ => 0)))), (q2, .inl (cZ, 480, .inl (zA (fun _ => false)))), (q3, .inl (cZ, 41, .inl (zA (fun _ => false)))), (q4, .inl (cZ, 41, .inl (zA (fun _ => false)))), (q5, .inl (cI, 61, .inl (nA (fun _ => 0)))), (q6, .inl (cI, 66, .inl (nA (fun _ => 0)))), (q7, .inl (cI, 66, .inl (nA (fun _ => 0)))), (q8, .inl (cI, 66, .inl (nA (fun _ => 0)))), (q9, .inl (cI, 66, .inl (nA (fun _ => 0))))] H := hP
  have hD : va_D A [(ob, .inr (5, [.ref re, .ref fa, .ref shh, .ref eo, .int 0, .null])), (re, .inr (2, [.ref te, .ref dr, .int 0, .int ((-1))])), (te, .inr (4, [.ref ta, .int 0])), (ta, .inl (cC, 600, .inl (nA (fun _ => 0)))), (dr, .inr (1, [.ref d1, .ref d2, .ref d3, .ref d4, .ref d5, .ref d6, .ref d7, .ref d8, .ref d9, .int 0])), (d1, .inl (cI, 480, .inl (nA (fun _ => 0)))), (d2, .inl (cZ, 480, .inl (zA (fun _ => false)))), (d3, .inl (cZ, 41, .inl (zA (fun _ => false)))), (d4, .inl (cZ, 41, .inl (zA (fun _ => false)))), (d5, .inl (cI, 61, .inl (nA (fun _ => 0)))), (d6, .inl (cI, 66, .inl (nA (fun _ => 0)))), (d7, .inl (cI, 66, .inl (nA (fun _ => 0)))), (d8, .inl (cI, 66, .inl (nA (fun _ => 0)))), (d9, .inl (cI, 66, .inl (nA (fun _ => 0)))), (fa, .inr (0, [.ref fo, .int 0])), (fo, .inl (cI, 500, .inl (nA (fun _ => 0)))), (shh, .inr (3, [.ref sha, .int 0])), (sha, .inl (cC, 240, .inl (nA (fun _ => 0)))), (eo, .inl (cG, 8, .inr (.inr (.inr (.inr (fun i => if i < 8 then some (ea i) else none)))))), ((ea 0), .inl (cI, 480, .inl (nA (fun _ => 0)))), ((ea 1), .inl (cI, 480, .inl (nA (fun _ => 0)))), ((ea 2), .inl (cI, 480, .inl (nA (fun _ => 0)))), ((ea 3), .inl (cI, 480, .inl (nA (fun _ => 0)))), ((ea 4), .inl (cI, 480, .inl (nA (fun _ => 0)))), ((ea 5), .inl (cI, 480, .inl (nA (fun _ => 0)))), ((ea 6), .inl (cI, 480, .inl (nA (fun _ => 0)))), ((ea 7), .inl (cI, 480, .inl (nA (fun _ => 0)))), (pl, .inr (1, [.ref q1, .ref q2, .ref q3, .ref q4, .ref q5, .ref q6, .ref q7, .ref q8, .ref q9, .int 0])), (q1, .inl (cI, 480, .inl (nA (fun _ => 0)))), (q2, .inl (cZ, 480, .inl (zA (fun _ => false)))), (q3, .inl (cZ, 41, .inl (zA (fun _ => false)))), (q4, .inl (cZ, 41, .inl (zA (fun _ => false)))), (q5, .inl (cI, 61, .inl (nA (fun _ => 0)))), (q6, .inl (cI, 66, .inl (nA (fun _ => 0)))), (q7, .inl (cI, 66, .inl (nA (fun _ => 0)))), (q8, .inl (cI, 66, .inl (nA (fun _ => 0)))), (q9, .inl (cI, 66, .inl (nA (fun _ => 0))))] := hD
  refine ga_put (ws' := [(ob, .inr (5, [.ref re, .ref fa, .ref shh, .ref eo, .int 0, .ref pl])), (re, .inr (2, [.ref te, .ref dr, .int 0, .int ((-1))])), (te, .inr (4, [.ref ta, .int 0])), (ta, .inl (cC, 600, .inl (nA (fun _ => 0)))), (dr, .inr (1, [.ref d1, .ref d2, .ref d3, .ref d4, .ref d5, .ref d6, .ref d7, .ref d8, .ref d9, .int 0])), (d1, .inl (cI, 480, .inl (nA (fun _ => 0)))), (d2, .inl (cZ, 480, .inl (zA (fun _ => false)))), (d3, .inl (cZ, 41, .inl (zA (fun _ => false)))), (d4, .inl (cZ, 41, .inl (zA (fun _ => false)))), (d5, .inl (cI, 61, .inl (nA (fun _ => 0)))), (d6, .inl (cI, 66, .inl (nA (fun _ => 0)))), (d7, .inl (cI, 66, .inl (nA (fun _ => 0)))), (d8, .inl (cI, 66, .inl (nA (fun _ => 0)))), (d9, .inl (cI, 66, .inl (nA (fun _ => 0)))), (fa, .inr (0, [.ref fo, .int 0])), (fo, .inl (cI, 500, .inl (nA (fun _ => 0)))), (shh, .inr (3, [.ref sha, .int 0])), (sha, .inl (cC, 240, .inl (nA (fun _ => 0)))), (eo, .inl (cG, 8, .inr (.inr (.inr (.inr (fun i => if i < 8 then some (ea i) else none)))))), ((ea 0), .inl (cI, 480, .inl (nA (fun _ => 0)))), ((ea 1), .inl (cI, 480, .inl (nA (fun _ => 0)))), ((ea 2), .inl (cI, 480, .inl (nA (fun _ => 0)))), ((ea 3), .inl (cI, 480, .inl (nA (fun _ => 0)))), ((ea 4), .inl (cI, 480, .inl (nA (fun _ => 0)))), ((ea 5), .inl (cI, 480, .inl (nA (fun _ => 0)))), ((ea 6), .inl (cI, 480, .inl (nA (fun _ => 0)))), ((ea 7), .inl (cI, 480, .inl (nA (fun _ => 0)))), (pl, .inr (1, [.ref q1, .ref q2, .ref q3, .ref q4, .ref q5, .ref q6, .ref q7, .ref q8, .ref q9, .int 0])), (q1, .inl (cI, 480, .inl (nA (fun _ => 0)))), (q2, .inl (cZ, 480, .inl (zA (fun _ => false)))), (q3, .inl (cZ, 41, .inl (zA (fun _ => false)))), (q4, .inl (cZ, 41, .inl (zA (fun _ => false)))), (q5, .inl (cI, 61, .inl (nA (fun _ => 0)))), (q6, .inl (cI, 66, .inl (nA (fun _ => 0)))), (q7, .inl (cI, 66, .inl (nA (fun _ => 0)))), (q8, .inl (cI, 66, .inl (nA (fun _ => 0)))), (q9, .inl (cI, 66, .inl (nA (fun _ => 0))))]) S hK hP hD hS 0 rfl p_SP_38 rfl rfl (Nat.le_of_ble_eq_true rfl) rfl d_SP_init_58 (fun H locs hP hD hS => ?_)
  have hP := hP.sub (ws' := [(ob, .inr (5, [.ref re, .ref fa, .ref shh, .ref eo, .int 0, .ref pl])), (re, .inr (2, [.ref te, .ref dr, .int 0, .int ((-1))])), (te, .inr (4, [.ref ta, .int 0])), (ta, .inl (cC, 600, .inl (nA (fun _ => 0)))), (dr, .inr (1, [.ref d1, .ref d2, .ref d3, .ref d4, .ref d5, .ref d6, .ref d7, .ref d8, .ref d9, .int 0])), (d1, .inl (cI, 480, .inl (nA (fun _ => 0)))), (d2, .inl (cZ, 480, .inl (zA (fun _ => false)))), (d3, .inl (cZ, 41, .inl (zA (fun _ => false)))), (d4, .inl (cZ, 41, .inl (zA (fun _ => false)))), (d5, .inl (cI, 61, .inl (nA (fun _ => 0)))), (d6, .inl (cI, 66, .inl (nA (fun _ => 0)))), (d7, .inl (cI, 66, .inl (nA (fun _ => 0)))), (d8, .inl (cI, 66, .inl (nA (fun _ => 0)))), (d9, .inl (cI, 66, .inl (nA (fun _ => 0)))), (fa, .inr (0, [.ref fo, .int 0])), (fo, .inl (cI, 500, .inl (nA (fun _ => 0)))), (shh, .inr (3, [.ref sha, .int 0])), (sha, .inl (cC, 240, .inl (nA (fun _ => 0)))), (eo, .inl (cG, 8, .inr (.inr (.inr (.inr (fun i => if i < 8 then some (ea i) else none)))))), ((ea 0), .inl (cI, 480, .inl (nA (fun _ => 0)))), ((ea 1), .inl (cI, 480, .inl (nA (fun _ => 0)))), ((ea 2), .inl (cI, 480, .inl (nA (fun _ => 0)))), ((ea 3), .inl (cI, 480, .inl (nA (fun _ => 0)))), ((ea 4), .inl (cI, 480, .inl (nA (fun _ => 0)))), ((ea 5), .inl (cI, 480, .inl (nA (fun _ => 0)))), ((ea 6), .inl (cI, 480, .inl (nA (fun _ => 0)))), ((ea 7), .inl (cI, 480, .inl (nA (fun _ => 0)))), (pl, .inr (1, [.ref q1, .ref q2, .ref q3, .ref q4, .ref q5, .ref q6, .ref q7, .ref q8, .ref q9, .int 0])), (q1, .inl (cI, 480, .inl (nA (fun _ => 0)))), (q2, .inl (cZ, 480, .inl (zA (fun _ => false)))), (q3, .inl (cZ, 41, .inl (zA (fun _ => false)))), (q4, .inl (cZ, 41, .inl (zA (fun _ => false)))), (q5, .inl (cI, 61, .inl (nA (fun _ => 0)))), (q6, .inl (cI, 66, .inl (nA (fun _ => 0)))), (q7, .inl (cI, 66, .inl (nA (fun _ => 0)))), (q8, .inl (cI, 66, .inl (nA (fun _ => 0)))), (q9, .inl (cI, 66, .inl (nA (fun _ => 0))))]) [0, 1, 2, 3, 4, 5, 6, 7, 8, 9, 10, 11, 12, 13, 14, 15, 16, 17, 18, 19, 20, 21, 22, 23, 24, 25, 26, 27, 28, 29, 30, 31, 32, 33, 34, 35, 36] rfl
  have hD := hD.sub (ws' := [(ob, .inr (5, [.ref re, .ref fa, .ref shh, .ref eo, .int 0, .ref pl])), (re, .inr (2, [.ref te, .ref dr, .int 0, .int ((-1))])), (te, .inr (4, [.ref ta, .int 0])), (ta, .inl (cC, 600, .inl (nA (fun _ => 0)))), (dr, .inr (1, [.ref d1, .ref d2, .ref d3, .ref d4, .ref d5, .ref d6, .ref d7, .ref d8, .ref d9, .int 0])), (d1, .inl (cI, 480, .inl (nA (fun _ => 0)))), (d2, .inl (cZ, 480, .inl (zA (fun _ => false)))), (d3, .inl (cZ, 41, .inl (zA (fun _ => false)))), (d4, .inl (cZ, 41, .inl (zA (fun _ => false)))), (d5, .inl (cI, 61, .inl (nA (fun _ => 0)))), (d6, .inl (cI, 66, .inl (nA (fun _ => 0)))), (d7, .inl (cI, 66, .inl (nA (fun _ => 0)))), (d8, .inl (cI, 66, .inl (nA (fun _ => 0)))), (d9, .inl (cI, 66, .inl (nA (fun _ => 0)))), (fa, .inr (0, [.ref fo, .int 0])), (fo, .inl (cI, 500, .inl (nA (fun _ => 0)))), (shh, .inr (3, [.ref sha, .int 0])), (sha, .inl (cC, 240, .inl (nA (fun _ => 0)))), (eo, .inl (cG, 8, .inr (.inr (.inr (.inr (fun i => if i < 8 then some (ea i) else none)))))), ((ea 0), .inl (cI, 480, .inl (nA (fun _ => 0)))), ((ea 1), .inl (cI, 480, .inl (nA (fun _ => 0)))), ((ea 2), .inl (cI, 480, .inl (nA (fun _ => 0)))), ((ea 3), .inl (cI, 480, .inl (nA (fun _ => 0)))), ((ea 4), .inl (cI, 480, .inl (nA (fun _ => 0)))), ((ea 5), .inl (cI, 480, .inl (nA (fun _ => 0)))), ((ea 6), .inl (cI, 480, .inl (nA (fun _ => 0)))), ((ea 7), .inl (cI, 480, .inl (nA (fun _ => 0)))), (pl, .inr (1, [.ref q1, .ref q2, .ref q3, .ref q4, .ref q5, .ref q6, .ref q7, .ref q8, .ref q9, .int 0])), (q1, .inl (cI, 480, .inl (nA (fun _ => 0)))), (q2, .inl (cZ, 480, .inl (zA (fun _ => false)))), (q3, .inl (cZ, 41, .inl (zA (fun _ => false)))), (q4, .inl (cZ, 41, .inl (zA (fun _ => false)))), (q5, .inl (cI, 61, .inl (nA (fun _ => 0)))), (q6, .inl (cI, 66, .inl (nA (fun _ => 0)))), (q7, .inl (cI, 66, .inl (nA (fun _ => 0)))), (q8, .inl (cI, 66, .inl (nA (fun _ => 0)))), (q9, .inl (cI, 66, .inl (nA (fun _ => 0))))]) [0, 1, 2, 3, 4, 5, 6, 7, 8, 9, 10, 11, 12, 13, 14, 15, 16, 17, 18, 19, 20, 21, 22, 23, 24, 25, 26, 27, 28, 29, 30, 31, 32, 33, 34, 35, 36] (by decide) rfl
  exact ga_wv ((fun i => match i with | 0 => re | 1 => te | 2 => ta | 3 => dr | 4 => d1 | 5 => d2 | 6 => d3 | 7 => d4 | 8 => d5 | 9 => d6 | 10 => d7 | 11 => d8 | 12 => d9 | 13 => fa | 14 => fo | 15 => shh | 16 => sha | 17 => eo | 18 => pl | 19 => q1 | 20 => q2 | 21 => q3 | 22 => q4 | 23 => q5 | 24 => q6 | 25 => q7 | 26 => q8 | _ => q9, ea) : (Nat → Nat) × (Nat → Nat)) S hrt hlk hP hD hS trivial d_SP_init_61
end
section
set_option maxHeartbeats 4000000 in
set_option maxRecDepth 100000 in
theorem gc_SP_hasPlan (l : Launch) (D : va_G) (cI cZ cC cG : ClassId) (spo re fa shh eo ec pl : Nat) (hec : ec ≤ 8) : ga_Mr l y_SP_hasPlan b_SP_hasPlan 1 (some .boolean) 0 D (ga_T cI cZ cC cG) [.ref spo] [(spo, .inr (5, [.ref re, .ref fa, .ref shh, .ref eo, .int (nI ec), .ref pl]))] (fun r => (r = 1 ∧ ec ≠ 0) ∨ (r = 0 ∧ ec = 0)) := by
  refine ga_enR (by decide) (Nat.le_of_ble_eq_true rfl) ?_
  intro p e s m below meth c ls S hrt hlk hK hP hl
  obtain ⟨hx, hb, hml, hown, hts⟩ := id S
  have hl : lv_has ls 1 [(0, .ref spo)] := hl
  refine lv_aload_n hx hb d_SP_hasPlan_0 rfl (lv_at hl 0 rfl) ?_
  refine ga_get S hK hP 0 rfl f_SP_67 rfl d_SP_hasPlan_1 ?_
  refine lv_if_le (tgt := 11) hx hb d_SP_hasPlan_4 (by decide) (fun c4 => ?_) (fun c4 => ?_)
  · have c4 : ec ≤ 0 := (nI_leI (a := ec) (b := 0) (by omega) (by omega)).mp c4
    refine lv_iconst (v := 0) hx hb d_SP_hasPlan_11 (by decide) ?_
    exact ga_rz S hrt hlk (Or.inl rfl) (Or.inr ⟨rfl, by omega⟩) d_SP_hasPlan_12
  · have c4 : ¬ (ec ≤ 0) := fun q => c4 ((nI_leI (a := ec) (b := 0) (by omega) (by omega)).mpr q)
    refine lv_iconst (v := 1) hx hb d_SP_hasPlan_7 (by decide) ?_
    refine lv_goto (tgt := 12) hx hb d_SP_hasPlan_8 (by decide) ?_
    exact ga_rz S hrt hlk (Or.inr rfl) (Or.inl ⟨rfl, by omega⟩) d_SP_hasPlan_12
set_option maxHeartbeats 4000000 in
set_option maxRecDepth 100000 in
theorem gc_SP_target (l : Launch) (D : va_G) (cI cZ cC cG : ClassId) (spo re fa shh eo ec pl : Nat) (hec : ec ≤ 8) (q1 q2 q3 q4 q5 q6 q7 q8 q9 rg : Nat) (r1 r2 r3 r4 : Nat → Nat) (code kind : Int32) (hrg : rg ≤ 66) (hr : ∀ k, k < rg → 1 ≤ r1 k ∧ r1 k ≤ 40 ∧ r2 k ≤ 9999 ∧ r3 k ≤ 9999 ∧ r4 k ≤ 9) : ga_Mr l y_SP_target b_SP_target 3 (some .int) 6 D (ga_T cI cZ cC cG) [.ref spo, .int code, .int kind] [(spo, .inr (5, [.ref re, .ref fa, .ref shh, .ref eo, .int (nI ec), .ref pl])), (pl, .inr (1, [.ref q1, .ref q2, .ref q3, .ref q4, .ref q5, .ref q6, .ref q7, .ref q8, .ref q9, .int (nI rg)])), (q6, .inl (cI, 66, .inl (nA r1))), (q7, .inl (cI, 66, .inl (nA r2))), (q8, .inl (cI, 66, .inl (nA r3))), (q9, .inl (cI, 66, .inl (nA r4)))] (fun r => (¬ ((0 ≤ code ∧ code ≤ 9999) ∧ (0 ≤ kind ∧ kind ≤ 9)) ∧ r = -102) ∨ (((0 ≤ code ∧ code ≤ 9999) ∧ (0 ≤ kind ∧ kind ≤ 9)) ∧ ec = 0 ∧ r = -103) ∨ (((0 ≤ code ∧ code ≤ 9999) ∧ (0 ≤ kind ∧ kind ≤ 9)) ∧ ec ≠ 0 ∧ ∃ q, r = nI q ∧ gp_isL r1 r2 r3 r4 rg code.toNatClampNeg kind.toNatClampNeg q)) := by
  refine ga_enR (by decide) (Nat.le_of_ble_eq_true rfl) ?_
  intro p e s m below meth c ls S hrt hlk hK hP hl
  obtain ⟨hx, hb, hml, hown, hts⟩ := id S
  have hl : lv_has ls 3 [(0, .ref spo), (1, .int code), (2, .int kind)] := hl
  refine lv_iload_n hx hb d_SP_target_0 rfl (lv_at hl 1 rfl) ?_
  refine lv_iconst (v := 0) hx hb d_SP_target_1 (by decide) ?_
  refine lv_sipush (v := 9999) hx hb d_SP_target_2 (by decide) ?_
  refine ga_cs (As := [.int code, .int 0, .int 9999]) (rest := []) S hK hP s_SP_73 (gc_SP_isWithin l D cI cZ cC cG code 0 9999) [] rfl rfl hl.1 rfl (Nat.le_of_ble_eq_true rfl) ⟨Nat.le_of_ble_eq_true rfl, Nat.le_of_ble_eq_true rfl⟩ ⟨Nat.le_of_ble_eq_true rfl, Nat.le_of_ble_eq_true rfl⟩ d_SP_target_5 (fun r hp5 => ?_)
  rcases hp5 with ⟨rfl, hp5⟩ | ⟨rfl, hp5⟩
  · obtain ⟨cN, hcN, rfl⟩ := nI_of2 (M := 9999) (n := 9999) rfl (fun q => absurd (Int32.lt_of_le_of_lt hp5.1 q) (by decide)) hp5.2
    refine lv_if_eq (tgt := 21) hx hb d_SP_target_8 (by decide) (fun c8 => ?_) (fun c8 => ?_)
    · exact absurd c8 (by decide)
    · refine lv_iload_n hx hb d_SP_target_11 rfl (lv_at hl 2 rfl) ?_
      refine lv_iconst (v := 0) hx hb d_SP_target_12 (by decide) ?_
      refine lv_bipush (v := 9) hx hb d_SP_target_13 (by decide) ?_
      refine ga_cs (As := [.int kind, .int 0, .int 9]) (rest := []) S hK hP s_SP_73 (gc_SP_isWithin l D cI cZ cC cG kind 0 9) [] rfl rfl hl.1 rfl (Nat.le_of_ble_eq_true rfl) ⟨Nat.le_of_ble_eq_true rfl, Nat.le_of_ble_eq_true rfl⟩ ⟨Nat.le_of_ble_eq_true rfl, Nat.le_of_ble_eq_true rfl⟩ d_SP_target_15 (fun r hp15 => ?_)
      rcases hp15 with ⟨rfl, hp15⟩ | ⟨rfl, hp15⟩
      · obtain ⟨kN, hkN, rfl⟩ := nI_of2 (M := 9) (n := 9) rfl (fun q => absurd (Int32.lt_of_le_of_lt hp15.1 q) (by decide)) hp15.2
        refine lv_if_ne (tgt := 24) hx hb d_SP_target_18 (by decide) (fun c18 => ?_) (fun c18 => ?_)
        · refine lv_aload_n hx hb d_SP_target_24 rfl (lv_at hl 0 rfl) ?_
          refine ga_cr (As := []) (rest := []) (q0 := 0) S hK hP s_SP_77 (gc_SP_hasPlan l D cI cZ cC cG spo re fa shh eo ec pl (by omega)) [0] rfl rfl rfl rfl hl.1 rfl (Nat.le_of_ble_eq_true rfl) ⟨Nat.le_of_ble_eq_true rfl, Nat.le_of_ble_eq_true rfl⟩ ⟨Nat.le_of_ble_eq_true rfl, Nat.le_of_ble_eq_true rfl⟩ d_SP_target_25 (fun r hp25 => ?_)
          rcases hp25 with ⟨rfl, hp25⟩ | ⟨rfl, hp25⟩
          · refine lv_if_eq (tgt := 43) hx hb d_SP_target_28 (by decide) (fun c28 => ?_) (fun c28 => ?_)
            · exact absurd c28 (by decide)
            · refine lv_aload_n hx hb d_SP_target_31 rfl (lv_at hl 0 rfl) ?_
              refine ga_get S hK hP 0 rfl f_SP_38 rfl d_SP_target_32 ?_
              refine lv_iload_n hx hb d_SP_target_35 rfl (lv_at hl 1 rfl) ?_
              refine lv_iload_n hx hb d_SP_target_36 rfl (lv_at hl 2 rfl) ?_
              refine ga_cr (As := [.int (nI cN), .int (nI kN)]) (rest := []) (q0 := 1) S hK hP s_SP_80 (gc_Pl_leastTargetOf l D cI cZ cC cG pl q1 q2 q3 q4 q5 q6 q7 q8 q9 rg cN kN r1 r2 r3 r4 (by omega) (by omega) (by omega) hr) [1, 2, 3, 4, 5] rfl rfl rfl rfl hl.1 rfl (Nat.le_of_ble_eq_true rfl) ⟨Nat.le_of_ble_eq_true rfl, Nat.le_of_ble_eq_true rfl⟩ ⟨Nat.le_of_ble_eq_true rfl, Nat.le_of_ble_eq_true rfl⟩ d_SP_target_37 (fun r hp37 => ?_)
              obtain ⟨qz, rfl, hqz⟩ := hp37
              refine lv_goto (tgt := 45) hx hb d_SP_target_40 (by decide) ?_
              exact ga_ri S hrt hlk (Or.inr (Or.inr ⟨⟨hp5, hp15⟩, hp25, qz, rfl, by rw [nI_clamp (by omega), nI_clamp (by omega)]; exact hqz⟩)) d_SP_target_45
          · refine lv_if_eq (tgt := 43) hx hb d_SP_target_28 (by decide) (fun c28 => ?_) (fun c28 => ?_)
            · refine lv_bipush (v := (-103)) hx hb d_SP_target_43 (by decide) ?_
              exact ga_ri S hrt hlk (Or.inr (Or.inl ⟨⟨hp5, hp15⟩, hp25, rfl⟩)) d_SP_target_45
            · exact absurd c28 (by decide)
        · exact absurd c18 (by decide)
      · refine lv_if_ne (tgt := 24) hx hb d_SP_target_18 (by decide) (fun c18 => ?_) (fun c18 => ?_)
        · exact absurd c18 (by decide)
        · refine lv_bipush (v := (-102)) hx hb d_SP_target_21 (by decide) ?_
          exact ga_ri S hrt hlk (Or.inl ⟨(fun q => by first | exact hp5 q.1 | exact hp15 q.2), rfl⟩) d_SP_target_23
  · refine lv_if_eq (tgt := 21) hx hb d_SP_target_8 (by decide) (fun c8 => ?_) (fun c8 => ?_)
    · refine lv_bipush (v := (-102)) hx hb d_SP_target_21 (by decide) ?_
      exact ga_ri S hrt hlk (Or.inl ⟨(fun q => by first | exact hp5 q.1 | exact hp15 q.2), rfl⟩) d_SP_target_23
    · exact absurd c8 (by decide)
set_option maxHeartbeats 4000000 in
set_option maxRecDepth 100000 in
theorem gc_SP_bin (l : Launch) (D : va_G) (cI cZ cC cG : ClassId) (spo re fa shh eo ec pl : Nat) (hec : ec ≤ 8) (q1 q2 q3 q4 q5 q6 q7 q8 q9 rg : Nat) (bn : Nat → Nat) (he : Nat → Bool) (t pa sh : Int32) (hbn : ∀ j, bn j ≤ 60) : ga_Mr l y_SP_bin b_SP_bin 4 (some .int) 6 D (ga_T cI cZ cC cG) [.ref spo, .int t, .int pa, .int sh] [(spo, .inr (5, [.ref re, .ref fa, .ref shh, .ref eo, .int (nI ec), .ref pl])), (pl, .inr (1, [.ref q1, .ref q2, .ref q3, .ref q4, .ref q5, .ref q6, .ref q7, .ref q8, .ref q9, .int (nI rg)])), (q1, .inl (cI, 480, .inl (nA bn))), (q4, .inl (cZ, 41, .inl (zA he)))] (fun r => (¬ (1 ≤ t ∧ t ≤ 40) ∧ r = -101) ∨ ((1 ≤ t ∧ t ≤ 40) ∧ ¬ ((0 ≤ pa ∧ pa ≤ 3) ∧ (0 ≤ sh ∧ sh ≤ 2)) ∧ r = -102) ∨ ((1 ≤ t ∧ t ≤ 40) ∧ ((0 ≤ pa ∧ pa ≤ 3) ∧ (0 ≤ sh ∧ sh ≤ 2)) ∧ ec = 0 ∧ r = -103) ∨ ((1 ≤ t ∧ t ≤ 40) ∧ ((0 ≤ pa ∧ pa ≤ 3) ∧ (0 ≤ sh ∧ sh ≤ 2)) ∧ ec ≠ 0 ∧ r = nI (if he t.toNatClampNeg = true then 0 else bn (gp_sl t.toNatClampNeg pa.toNatClampNeg sh.toNatClampNeg)))) := by
  refine ga_enR (by decide) (Nat.le_of_ble_eq_true rfl) ?_
  intro p e s m below meth c ls S hrt hlk hK hP hl
  obtain ⟨hx, hb, hml, hown, hts⟩ := id S
  have hl : lv_has ls 4 [(0, .ref spo), (1, .int t), (2, .int pa), (3, .int sh)] := hl
  refine lv_iload_n hx hb d_SP_bin_0 rfl (lv_at hl 1 rfl) ?_
  refine ga_cs (As := [.int t]) (rest := []) S hK hP s_SP_84 (gc_SP_isTarget l D cI cZ cC cG t) [] rfl rfl hl.1 rfl (Nat.le_of_ble_eq_true rfl) ⟨Nat.le_of_ble_eq_true rfl, Nat.le_of_ble_eq_true rfl⟩ ⟨Nat.le_of_ble_eq_true rfl, Nat.le_of_ble_eq_true rfl⟩ d_SP_bin_1 (fun r hp1 => ?_)
  rcases hp1 with ⟨rfl, hp1⟩ | ⟨rfl, hp1⟩
  · obtain ⟨tN, htN, rfl⟩ := nI_of2 (M := 40) (n := 40) rfl (fun q => absurd (Int32.lt_of_le_of_lt hp1.1 q) (by decide)) hp1.2
    have ht1 : 1 ≤ tN := (nI_leI (a := 1) (b := tN) (by omega) (by omega)).mp hp1.1
    refine lv_if_ne (tgt := 10) hx hb d_SP_bin_4 (by decide) (fun c4 => ?_) (fun c4 => ?_)
    · refine lv_iload_n hx hb d_SP_bin_10 rfl (lv_at hl 2 rfl) ?_
      refine lv_iconst (v := 0) hx hb d_SP_bin_11 (by decide) ?_
      refine lv_iconst (v := 3) hx hb d_SP_bin_12 (by decide) ?_
      refine ga_cs (As := [.int pa, .int 0, .int 3]) (rest := []) S hK hP s_SP_73 (gc_SP_isWithin l D cI cZ cC cG pa 0 3) [] rfl rfl hl.1 rfl (Nat.le_of_ble_eq_true rfl) ⟨Nat.le_of_ble_eq_true rfl, Nat.le_of_ble_eq_true rfl⟩ ⟨Nat.le_of_ble_eq_true rfl, Nat.le_of_ble_eq_true rfl⟩ d_SP_bin_13 (fun r hp13 => ?_)
      rcases hp13 with ⟨rfl, hp13⟩ | ⟨rfl, hp13⟩
      · obtain ⟨pN, hpN, rfl⟩ := nI_of2 (M := 3) (n := 3) rfl (fun q => absurd (Int32.lt_of_le_of_lt hp13.1 q) (by decide)) hp13.2
        refine lv_if_eq (tgt := 28) hx hb d_SP_bin_16 (by decide) (fun c16 => ?_) (fun c16 => ?_)
        · exact absurd c16 (by decide)
        · refine lv_iload_n hx hb d_SP_bin_19 rfl (lv_at hl 3 rfl) ?_
          refine lv_iconst (v := 0) hx hb d_SP_bin_20 (by decide) ?_
          refine lv_iconst (v := 2) hx hb d_SP_bin_21 (by decide) ?_
          refine ga_cs (As := [.int sh, .int 0, .int 2]) (rest := []) S hK hP s_SP_73 (gc_SP_isWithin l D cI cZ cC cG sh 0 2) [] rfl rfl hl.1 rfl (Nat.le_of_ble_eq_true rfl) ⟨Nat.le_of_ble_eq_true rfl, Nat.le_of_ble_eq_true rfl⟩ ⟨Nat.le_of_ble_eq_true rfl, Nat.le_of_ble_eq_true rfl⟩ d_SP_bin_22 (fun r hp22 => ?_)
          rcases hp22 with ⟨rfl, hp22⟩ | ⟨rfl, hp22⟩
          · obtain ⟨sN, hsN, rfl⟩ := nI_of2 (M := 2) (n := 2) rfl (fun q => absurd (Int32.lt_of_le_of_lt hp22.1 q) (by decide)) hp22.2
            refine lv_if_ne (tgt := 31) hx hb d_SP_bin_25 (by decide) (fun c25 => ?_) (fun c25 => ?_)
            · refine lv_aload_n hx hb d_SP_bin_31 rfl (lv_at hl 0 rfl) ?_
              refine ga_cr (As := []) (rest := []) (q0 := 0) S hK hP s_SP_77 (gc_SP_hasPlan l D cI cZ cC cG spo re fa shh eo ec pl (by omega)) [0] rfl rfl rfl rfl hl.1 rfl (Nat.le_of_ble_eq_true rfl) ⟨Nat.le_of_ble_eq_true rfl, Nat.le_of_ble_eq_true rfl⟩ ⟨Nat.le_of_ble_eq_true rfl, Nat.le_of_ble_eq_true rfl⟩ d_SP_bin_32 (fun r hp32 => ?_)
              rcases hp32 with ⟨rfl, hp32⟩ | ⟨rfl, hp32⟩
              · refine lv_if_ne (tgt := 41) hx hb d_SP_bin_35 (by decide) (fun c35 => ?_) (fun c35 => ?_)
                · refine lv_aload_n hx hb d_SP_bin_41 rfl (lv_at hl 0 rfl) ?_
                  refine ga_get S hK hP 0 rfl f_SP_38 rfl d_SP_bin_42 ?_
                  refine ga_get S hK hP 1 rfl f_SP_88 rfl d_SP_bin_45 ?_
                  refine lv_iload_n hx hb d_SP_bin_48 rfl (lv_at hl 1 rfl) ?_
                  refine ga_zld S hK hP 3 1 rfl rfl tN (by omega) (by decide) d_SP_bin_49 ?_
                  refine lv_if_eq (tgt := 57) hx hb d_SP_bin_50 (by decide) (fun c50 => ?_) (fun c50 => ?_)
                  · have c50 : he tN = false := bI_0 c50
                    refine lv_aload_n hx hb d_SP_bin_57 rfl (lv_at hl 0 rfl) ?_
                    refine ga_get S hK hP 0 rfl f_SP_38 rfl d_SP_bin_58 ?_
                    refine ga_get S hK hP 1 rfl f_SP_92 rfl d_SP_bin_61 ?_
                    refine lv_iload_n hx hb d_SP_bin_64 rfl (lv_at hl 1 rfl) ?_
                    refine lv_iload_n hx hb d_SP_bin_65 rfl (lv_at hl 2 rfl) ?_
                    refine lv_iload_n hx hb d_SP_bin_66 rfl (lv_at hl 3 rfl) ?_
                    refine ga_cs (As := [.int (nI tN), .int (nI pN), .int (nI sN)]) (rest := [.ref q1]) S hK hP s_SP_96 (gc_SP_slot l D cI cZ cC cG tN pN sN (by omega)) [] rfl rfl hl.1 rfl (Nat.le_of_ble_eq_true rfl) ⟨Nat.le_of_ble_eq_true rfl, Nat.le_of_ble_eq_true rfl⟩ ⟨Nat.le_of_ble_eq_true rfl, Nat.le_of_ble_eq_true rfl⟩ d_SP_bin_67 (fun r hp67 => ?_)
                    subst hp67
                    have hsl := gp_sl_lt (t := tN) (p := pN) (s := sN) (by omega) (by omega) (by omega) (by omega)
                    refine ga_ild S hK hP 2 0 rfl rfl (gp_sl tN pN sN) (by omega) (by decide) d_SP_bin_70 ?_
                    have hb1 := hbn (gp_sl tN pN sN)
                    exact ga_ri S hrt hlk (Or.inr (Or.inr (Or.inr ⟨hp1, ⟨hp13, hp22⟩, hp32, by rw [nI_clamp (by omega), nI_clamp (by omega), nI_clamp (by omega), c50]; rfl⟩))) d_SP_bin_71
                  · have c50 : he tN = true := bI_1 c50
                    refine lv_iconst (v := 0) hx hb d_SP_bin_53 (by decide) ?_
                    refine lv_goto (tgt := 71) hx hb d_SP_bin_54 (by decide) ?_
                    exact ga_ri S hrt hlk (Or.inr (Or.inr (Or.inr ⟨hp1, ⟨hp13, hp22⟩, hp32, by rw [nI_clamp (by omega), nI_clamp (by omega), nI_clamp (by omega), c50]; rfl⟩))) d_SP_bin_71
                · exact absurd c35 (by decide)
              · refine lv_if_ne (tgt := 41) hx hb d_SP_bin_35 (by decide) (fun c35 => ?_) (fun c35 => ?_)
                · exact absurd c35 (by decide)
                · refine lv_bipush (v := (-103)) hx hb d_SP_bin_38 (by decide) ?_
                  exact ga_ri S hrt hlk (Or.inr (Or.inr (Or.inl ⟨hp1, ⟨hp13, hp22⟩, hp32, rfl⟩))) d_SP_bin_40
            · exact absurd c25 (by decide)
          · refine lv_if_ne (tgt := 31) hx hb d_SP_bin_25 (by decide) (fun c25 => ?_) (fun c25 => ?_)
            · exact absurd c25 (by decide)
            · refine lv_bipush (v := (-102)) hx hb d_SP_bin_28 (by decide) ?_
              exact ga_ri S hrt hlk (Or.inr (Or.inl ⟨hp1, (fun q => by first | exact hp13 q.1 | exact hp22 q.2), rfl⟩)) d_SP_bin_30
      · refine lv_if_eq (tgt := 28) hx hb d_SP_bin_16 (by decide) (fun c16 => ?_) (fun c16 => ?_)
        · refine lv_bipush (v := (-102)) hx hb d_SP_bin_28 (by decide) ?_
          exact ga_ri S hrt hlk (Or.inr (Or.inl ⟨hp1, (fun q => by first | exact hp13 q.1 | exact hp22 q.2), rfl⟩)) d_SP_bin_30
        · exact absurd c16 (by decide)
    · exact absurd c4 (by decide)
  · refine lv_if_ne (tgt := 10) hx hb d_SP_bin_4 (by decide) (fun c4 => ?_) (fun c4 => ?_)
    · exact absurd c4 (by decide)
    · refine lv_bipush (v := (-101)) hx hb d_SP_bin_7 (by decide) ?_
      exact ga_ri S hrt hlk (Or.inl ⟨hp1, rfl⟩) d_SP_bin_9
set_option maxHeartbeats 4000000 in
set_option maxRecDepth 100000 in
theorem gc_SP_check (l : Launch) (D : va_G) (cI cZ cC cG : ClassId) (spo re fa shh eo ec pl : Nat) (hec : ec ≤ 8) (q1 q2 q3 q4 q5 q6 q7 q8 q9 rg : Nat) (fo k : Nat) (told bn : Nat → Nat) (shr us : Nat → Bool) (pq : Nat → Nat) (hpq : ∀ sh, sh < 3 → gp_isP bn sh (pq sh)) (hbn : ∀ j, bn j ≤ 60) : ga_Mi l y_SP_check b_SP_check 1 (some .int) 6 0 0 D (ga_T cI cZ cC cG) [.ref spo] [(spo, .inr (5, [.ref re, .ref fa, .ref shh, .ref eo, .int (nI ec), .ref pl])), (fa, .inr (0, [.ref fo, .int (nI k)])), (fo, .inl (cI, 500, .inl (nA told))), (pl, .inr (1, [.ref q1, .ref q2, .ref q3, .ref q4, .ref q5, .ref q6, .ref q7, .ref q8, .ref q9, .int (nI rg)])), (q1, .inl (cI, 480, .inl (nA bn))), (q2, .inl (cZ, 480, .inl (zA shr))), (q3, .inl (cZ, 41, .inl (zA us)))] (fun (x : gp_F) => [(spo, .inr (5, [.ref re, .ref fa, .ref shh, .ref eo, .int (nI ec), .ref pl])), (fa, .inr (0, [.ref fo, .int (nI x.2)])), (fo, .inl (cI, 500, .inl (nA x.1))), (pl, .inr (1, [.ref q1, .ref q2, .ref q3, .ref q4, .ref q5, .ref q6, .ref q7, .ref q8, .ref q9, .int (nI rg)])), (q1, .inl (cI, 480, .inl (nA bn))), (q2, .inl (cZ, 480, .inl (zA shr))), (q3, .inl (cZ, 41, .inl (zA us)))]) (fun r x => (ec = 0 ∧ r = -103 ∧ x = (told, k)) ∨ (ec ≠ 0 ∧ x = gp_ck us bn shr pq (told, 0) 12 ∧ r = nI x.2)) := by
  refine ga_enI (by decide) (Nat.le_of_ble_eq_true rfl) ?_
  intro p e s m below meth c ls A S hrt hlk hK hP hD hA hl
  have hS : va_S A s.heap s.heap [] := va_S.rf
  obtain ⟨hx, hb, hml, hown, hts⟩ := id S
  have hl : lv_has ls 1 [(0, .ref spo)] := hl
  refine lv_aload_n hx hb d_SP_check_0 rfl (lv_at hl 0 rfl) ?_
  refine ga_cr (As := []) (rest := []) (q0 := 0) S hK hP s_SP_77 (gc_SP_hasPlan l D cI cZ cC cG spo re fa shh eo ec pl (by omega)) [0] rfl rfl rfl rfl hl.1 rfl (Nat.le_of_ble_eq_true rfl) ⟨Nat.le_of_ble_eq_true rfl, Nat.le_of_ble_eq_true rfl⟩ ⟨Nat.le_of_ble_eq_true rfl, Nat.le_of_ble_eq_true rfl⟩ d_SP_check_1 (fun r hp1 => ?_)
  rcases hp1 with ⟨rfl, hp1⟩ | ⟨rfl, hp1⟩
  · refine lv_if_ne (tgt := 10) hx hb d_SP_check_4 (by decide) (fun c4 => ?_) (fun c4 => ?_)
    · refine lv_aload_n hx hb d_SP_check_10 rfl (lv_at hl 0 rfl) ?_
      refine ga_get S hK hP 0 rfl f_SP_19 rfl d_SP_check_11 ?_
      refine lv_aload_n hx hb d_SP_check_14 rfl (lv_at hl 0 rfl) ?_
      refine ga_get S hK hP 0 rfl f_SP_38 rfl d_SP_check_15 ?_
      refine ga_jv (wr := [(spo, .inr (5, [.ref re, .ref fa, .ref shh, .ref eo, .int (nI ec), .ref pl]))]) (ga_runV (As := [.ref pl]) (rest := []) S hK s_SP_100 (gc_Fa_findIn l D cI cZ cC cG fa fo k told pl q1 q2 q3 q4 q5 q6 q7 q8 q9 rg bn shr us pq hpq hbn _) (ga_prV (y := y_Fa_findIn) (q0 := 1) hK hP hD [1, 2, 3, 4, 5, 6] rfl (by decide) rfl rfl) rfl hl.1 rfl (Nat.le_of_ble_eq_true rfl) ⟨Nat.le_of_ble_eq_true rfl, Nat.le_of_ble_eq_true rfl⟩ ⟨Nat.le_of_ble_eq_true rfl, Nat.le_of_ble_eq_true rfl⟩ d_SP_check_18) hP hD hS hA [1, 2, 3, 4, 5, 6] [0] rfl rfl (by decide) (by decide) [0, 1, 2, 3, 4, 5, 6] (fun (x : gp_F) => [(spo, .inr (5, [.ref re, .ref fa, .ref shh, .ref eo, .int (nI ec), .ref pl])), (fa, .inr (0, [.ref fo, .int (nI x.2)])), (fo, .inl (cI, 500, .inl (nA x.1))), (pl, .inr (1, [.ref q1, .ref q2, .ref q3, .ref q4, .ref q5, .ref q6, .ref q7, .ref q8, .ref q9, .int (nI rg)])), (q1, .inl (cI, 480, .inl (nA bn))), (q2, .inl (cZ, 480, .inl (zA shr))), (q3, .inl (cZ, 41, .inl (zA us)))]) (fun _ => rfl) (by decide) (fun x H locs hp18 hP hD hS => ?_)
      obtain ⟨td9, kk9⟩ := x
      have hP : va_P D vwCl [(spo, .inr (5, [.ref re, .ref fa, .ref shh, .ref eo, .int (nI ec), .ref pl])), (fa, .inr (0, [.ref fo, .int (nI kk9)])), (fo, .inl (cI, 500, .inl (nA td9))), (pl, .inr (1, [.ref q1, .ref q2, .ref q3, .ref q4, .ref q5, .ref q6, .ref q7, .ref q8, .ref q9, .int (nI rg)])), (q1, .inl (cI, 480, .inl (nA bn))), (q2, .inl (cZ, 480, .inl (zA shr))), (q3, .inl (cZ, 41, .inl (zA us)))] H := hP
      have hD : va_D A [(spo, .inr (5, [.ref re, .ref fa, .ref shh, .ref eo, .int (nI ec), .ref pl])), (fa, .inr (0, [.ref fo, .int (nI kk9)])), (fo, .inl (cI, 500, .inl (nA td9))), (pl, .inr (1, [.ref q1, .ref q2, .ref q3, .ref q4, .ref q5, .ref q6, .ref q7, .ref q8, .ref q9, .int (nI rg)])), (q1, .inl (cI, 480, .inl (nA bn))), (q2, .inl (cZ, 480, .inl (zA shr))), (q3, .inl (cZ, 41, .inl (zA us)))] := hD
      refine lv_aload_n hx hb d_SP_check_21 rfl (lv_at hl 0 rfl) ?_
      refine ga_get S hK hP 0 rfl f_SP_19 rfl d_SP_check_22 ?_
      refine ga_get S hK hP 1 rfl f_SP_104 rfl d_SP_check_25 ?_
      exact ga_wi (td9, kk9) S hrt hlk hP hD hS (Or.inr ⟨hp1, hp18, rfl⟩) d_SP_check_28
    · exact absurd c4 (by decide)
  · refine lv_if_ne (tgt := 10) hx hb d_SP_check_4 (by decide) (fun c4 => ?_) (fun c4 => ?_)
    · exact absurd c4 (by decide)
    · refine lv_bipush (v := (-103)) hx hb d_SP_check_7 (by decide) ?_
      exact ga_wi (told, k) S hrt hlk hP hD hS (Or.inl ⟨hp1, rfl, rfl⟩) d_SP_check_9
set_option maxHeartbeats 4000000 in
set_option maxRecDepth 100000 in
theorem gc_SP_fault (l : Launch) (D : va_G) (cI cZ cC cG : ClassId) (spo re fa shh eo ec pl : Nat) (hec : ec ≤ 8) (fo k : Nat) (told : Nat → Nat) (i w : Int32) (hk : k < 2 ^ 30) : ga_Mr l y_SP_fault b_SP_fault 3 (some .int) 6 D (ga_T cI cZ cC cG) [.ref spo, .int i, .int w] [(spo, .inr (5, [.ref re, .ref fa, .ref shh, .ref eo, .int (nI ec), .ref pl])), (fa, .inr (0, [.ref fo, .int (nI k)])), (fo, .inl (cI, 500, .inl (nA told)))] (fun r => r = gp_tell told k i w) := by
  refine ga_enR (by decide) (Nat.le_of_ble_eq_true rfl) ?_
  intro p e s m below meth c ls S hrt hlk hK hP hl
  obtain ⟨hx, hb, hml, hown, hts⟩ := id S
  have hl : lv_has ls 3 [(0, .ref spo), (1, .int i), (2, .int w)] := hl
  refine lv_aload_n hx hb d_SP_fault_0 rfl (lv_at hl 0 rfl) ?_
  refine ga_get S hK hP 0 rfl f_SP_19 rfl d_SP_fault_1 ?_
  refine lv_iload_n hx hb d_SP_fault_4 rfl (lv_at hl 1 rfl) ?_
  refine lv_iload_n hx hb d_SP_fault_5 rfl (lv_at hl 2 rfl) ?_
  refine ga_cr (As := [.int i, .int w]) (rest := []) (q0 := 1) S hK hP s_SP_107 (gc_Fa_tell l D cI cZ cC cG fa fo k told i w (by omega)) [1, 2] rfl rfl rfl rfl hl.1 rfl (Nat.le_of_ble_eq_true rfl) ⟨Nat.le_of_ble_eq_true rfl, Nat.le_of_ble_eq_true rfl⟩ ⟨Nat.le_of_ble_eq_true rfl, Nat.le_of_ble_eq_true rfl⟩ d_SP_fault_6 (fun r hp6 => ?_)
  exact ga_ri S hrt hlk hp6 d_SP_fault_9
set_option maxHeartbeats 4000000 in
set_option maxRecDepth 100000 in
theorem gc_SP_hold (l : Launch) (D : va_G) (cI cZ cC cG : ClassId) (spo re fa shh eo ec pl : Nat) (hec : ec ≤ 8) (q1 q2 q3 q4 q5 q6 q7 q8 q9 rg : Nat) (he : Nat → Bool) (t : Int32) (on : Bool) : ga_Mi l y_SP_hold b_SP_hold 3 (some .int) 6 0 0 D (ga_T cI cZ cC cG) [.ref spo, .int t, .int (bI on)] [(spo, .inr (5, [.ref re, .ref fa, .ref shh, .ref eo, .int (nI ec), .ref pl])), (pl, .inr (1, [.ref q1, .ref q2, .ref q3, .ref q4, .ref q5, .ref q6, .ref q7, .ref q8, .ref q9, .int (nI rg)])), (q4, .inl (cZ, 41, .inl (zA he)))] (fun (x : Nat → Bool) => [(spo, .inr (5, [.ref re, .ref fa, .ref shh, .ref eo, .int (nI ec), .ref pl])), (pl, .inr (1, [.ref q1, .ref q2, .ref q3, .ref q4, .ref q5, .ref q6, .ref q7, .ref q8, .ref q9, .int (nI rg)])), (q4, .inl (cZ, 41, .inl (zA x)))]) (fun r x => (¬ (1 ≤ t ∧ t ≤ 40) ∧ r = -101 ∧ x = he) ∨ ((1 ≤ t ∧ t ≤ 40) ∧ ec = 0 ∧ r = -103 ∧ x = he) ∨ ((1 ≤ t ∧ t ≤ 40) ∧ ec ≠ 0 ∧ he t.toNatClampNeg = on ∧ r = 0 ∧ x = he) ∨ ((1 ≤ t ∧ t ≤ 40) ∧ ec ≠ 0 ∧ he t.toNatClampNeg ≠ on ∧ r = 1 ∧ x = va_up he t.toNatClampNeg on)) := by
  refine ga_enI (by decide) (Nat.le_of_ble_eq_true rfl) ?_
  intro p e s m below meth c ls A S hrt hlk hK hP hD hA hl
  have hS : va_S A s.heap s.heap [] := va_S.rf
  obtain ⟨hx, hb, hml, hown, hts⟩ := id S
  have hl : lv_has ls 3 [(0, .ref spo), (1, .int t), (2, .int (bI on))] := hl
  refine lv_iload_n hx hb d_SP_hold_0 rfl (lv_at hl 1 rfl) ?_
  refine ga_cs (As := [.int t]) (rest := []) S hK hP s_SP_84 (gc_SP_isTarget l D cI cZ cC cG t) [] rfl rfl hl.1 rfl (Nat.le_of_ble_eq_true rfl) ⟨Nat.le_of_ble_eq_true rfl, Nat.le_of_ble_eq_true rfl⟩ ⟨Nat.le_of_ble_eq_true rfl, Nat.le_of_ble_eq_true rfl⟩ d_SP_hold_1 (fun r hp1 => ?_)
  rcases hp1 with ⟨rfl, hp1⟩ | ⟨rfl, hp1⟩
  · obtain ⟨tN, htN, rfl⟩ := nI_of2 (M := 40) (n := 40) rfl (fun q => absurd (Int32.lt_of_le_of_lt hp1.1 q) (by decide)) hp1.2
    have ht1 : 1 ≤ tN := (nI_leI (a := 1) (b := tN) (by omega) (by omega)).mp hp1.1
    refine lv_if_ne (tgt := 10) hx hb d_SP_hold_4 (by decide) (fun c4 => ?_) (fun c4 => ?_)
    · refine lv_aload_n hx hb d_SP_hold_10 rfl (lv_at hl 0 rfl) ?_
      refine ga_cr (As := []) (rest := []) (q0 := 0) S hK hP s_SP_77 (gc_SP_hasPlan l D cI cZ cC cG spo re fa shh eo ec pl (by omega)) [0] rfl rfl rfl rfl hl.1 rfl (Nat.le_of_ble_eq_true rfl) ⟨Nat.le_of_ble_eq_true rfl, Nat.le_of_ble_eq_true rfl⟩ ⟨Nat.le_of_ble_eq_true rfl, Nat.le_of_ble_eq_true rfl⟩ d_SP_hold_11 (fun r hp11 => ?_)
      rcases hp11 with ⟨rfl, hp11⟩ | ⟨rfl, hp11⟩
      · refine lv_if_ne (tgt := 20) hx hb d_SP_hold_14 (by decide) (fun c14 => ?_) (fun c14 => ?_)
        · refine lv_aload_n hx hb d_SP_hold_20 rfl (lv_at hl 0 rfl) ?_
          refine ga_get S hK hP 0 rfl f_SP_38 rfl d_SP_hold_21 ?_
          refine ga_get S hK hP 1 rfl f_SP_88 rfl d_SP_hold_24 ?_
          refine lv_iload_n hx hb d_SP_hold_27 rfl (lv_at hl 1 rfl) ?_
          refine ga_zld S hK hP 2 1 rfl rfl tN (by omega) (by decide) d_SP_hold_28 ?_
          refine lv_iload_n hx hb d_SP_hold_29 rfl (lv_at hl 2 rfl) ?_
          refine lv_icmp_ne (tgt := 35) hx hb d_SP_hold_30 (by decide) (fun c30 => ?_) (fun c30 => ?_)
          · have c30 : he tN ≠ on := fun q => c30 (by rw [q])
            refine lv_aload_n hx hb d_SP_hold_35 rfl (lv_at hl 0 rfl) ?_
            refine ga_get S hK hP 0 rfl f_SP_38 rfl d_SP_hold_36 ?_
            refine ga_get S hK hP 1 rfl f_SP_88 rfl d_SP_hold_39 ?_
            refine lv_iload_n hx hb d_SP_hold_42 rfl (lv_at hl 1 rfl) ?_
            refine lv_iload_n hx hb d_SP_hold_43 rfl (lv_at hl 2 rfl) ?_
            refine ga_zst (ws' := [(spo, .inr (5, [.ref re, .ref fa, .ref shh, .ref eo, .int (nI ec), .ref pl])), (pl, .inr (1, [.ref q1, .ref q2, .ref q3, .ref q4, .ref q5, .ref q6, .ref q7, .ref q8, .ref q9, .int (nI rg)])), (q4, .inl (cZ, 41, .inl (zA (va_up he tN on))))]) S hK hP hD hS 2 1 rfl rfl tN on (by omega) (by decide) rfl d_SP_hold_44 (fun H locs hP hD hS => ?_)
            refine lv_iconst (v := 1) hx hb d_SP_hold_45 (by decide) ?_
            exact ga_wi (va_up he tN on) S hrt hlk hP hD hS (Or.inr (Or.inr (Or.inr ⟨hp1, hp11, by rw [nI_clamp (by omega)]; exact c30, rfl, by rw [nI_clamp (by omega)]⟩))) d_SP_hold_46
          · have c30 : he tN = on := bI_inj c30
            refine lv_iconst (v := 0) hx hb d_SP_hold_33 (by decide) ?_
            exact ga_wi he S hrt hlk hP hD hS (Or.inr (Or.inr (Or.inl ⟨hp1, hp11, by rw [nI_clamp (by omega)]; exact c30, rfl, rfl⟩))) d_SP_hold_34
        · exact absurd c14 (by decide)
      · refine lv_if_ne (tgt := 20) hx hb d_SP_hold_14 (by decide) (fun c14 => ?_) (fun c14 => ?_)
        · exact absurd c14 (by decide)
        · refine lv_bipush (v := (-103)) hx hb d_SP_hold_17 (by decide) ?_
          exact ga_wi he S hrt hlk hP hD hS (Or.inr (Or.inl ⟨hp1, hp11, rfl, rfl⟩)) d_SP_hold_19
    · exact absurd c4 (by decide)
  · refine lv_if_ne (tgt := 10) hx hb d_SP_hold_4 (by decide) (fun c4 => ?_) (fun c4 => ?_)
    · exact absurd c4 (by decide)
    · refine lv_bipush (v := (-101)) hx hb d_SP_hold_7 (by decide) ?_
      exact ga_wi he S hrt hlk hP hD hS (Or.inl ⟨hp1, rfl, rfl⟩) d_SP_hold_9
set_option maxHeartbeats 4000000 in
set_option maxRecDepth 100000 in
theorem gc_SP_swap (l : Launch) (D : va_G) (cI cZ cC cG : ClassId) (spo re fa shh eo ec pl : Nat) (hec : ec ≤ 8) (q1 q2 q3 q4 q5 q6 q7 q8 q9 rg : Nat) (bn : Nat → Nat) (a b : Int32) (hbn : ∀ j, bn j ≤ 60) : ga_Mi l y_SP_swap b_SP_swap 3 (some .int) 6 0 0 D (ga_T cI cZ cC cG) [.ref spo, .int a, .int b] [(spo, .inr (5, [.ref re, .ref fa, .ref shh, .ref eo, .int (nI ec), .ref pl])), (pl, .inr (1, [.ref q1, .ref q2, .ref q3, .ref q4, .ref q5, .ref q6, .ref q7, .ref q8, .ref q9, .int (nI rg)])), (q1, .inl (cI, 480, .inl (nA bn)))] (fun (x : Nat → Nat) => [(spo, .inr (5, [.ref re, .ref fa, .ref shh, .ref eo, .int (nI ec), .ref pl])), (pl, .inr (1, [.ref q1, .ref q2, .ref q3, .ref q4, .ref q5, .ref q6, .ref q7, .ref q8, .ref q9, .int (nI rg)])), (q1, .inl (cI, 480, .inl (nA x)))]) (fun r x => (¬ ((1 ≤ a ∧ a ≤ 60) ∧ (1 ≤ b ∧ b ≤ 60)) ∧ r = -101 ∧ x = bn) ∨ (((1 ≤ a ∧ a ≤ 60) ∧ (1 ≤ b ∧ b ≤ 60)) ∧ ec = 0 ∧ r = -103 ∧ x = bn) ∨ (((1 ≤ a ∧ a ≤ 60) ∧ (1 ≤ b ∧ b ≤ 60)) ∧ ec ≠ 0 ∧ r = nI (gp_cn (fun j => decide (bn j = a.toNatClampNeg ∨ bn j = b.toNatClampNeg)) 480) ∧ x = gp_ex bn a.toNatClampNeg b.toNatClampNeg 480)) := by
  refine ga_enI (by decide) (Nat.le_of_ble_eq_true rfl) ?_
  intro p e s m below meth c ls A S hrt hlk hK hP hD hA hl
  have hS : va_S A s.heap s.heap [] := va_S.rf
  obtain ⟨hx, hb, hml, hown, hts⟩ := id S
  have hl : lv_has ls 3 [(0, .ref spo), (1, .int a), (2, .int b)] := hl
  refine lv_iload_n hx hb d_SP_swap_0 rfl (lv_at hl 1 rfl) ?_
  refine ga_cs (As := [.int a]) (rest := []) S hK hP s_SP_114 (gc_SP_isBin l D cI cZ cC cG a) [] rfl rfl hl.1 rfl (Nat.le_of_ble_eq_true rfl) ⟨Nat.le_of_ble_eq_true rfl, Nat.le_of_ble_eq_true rfl⟩ ⟨Nat.le_of_ble_eq_true rfl, Nat.le_of_ble_eq_true rfl⟩ d_SP_swap_1 (fun r hp1 => ?_)
  rcases hp1 with ⟨rfl, hp1⟩ | ⟨rfl, hp1⟩
  · obtain ⟨aN, haN, rfl⟩ := nI_of2 (M := 60) (n := 60) rfl (fun q => absurd (Int32.lt_of_le_of_lt hp1.1 q) (by decide)) hp1.2
    refine lv_if_eq (tgt := 14) hx hb d_SP_swap_4 (by decide) (fun c4 => ?_) (fun c4 => ?_)
    · exact absurd c4 (by decide)
    · refine lv_iload_n hx hb d_SP_swap_7 rfl (lv_at hl 2 rfl) ?_
      refine ga_cs (As := [.int b]) (rest := []) S hK hP s_SP_114 (gc_SP_isBin l D cI cZ cC cG b) [] rfl rfl hl.1 rfl (Nat.le_of_ble_eq_true rfl) ⟨Nat.le_of_ble_eq_true rfl, Nat.le_of_ble_eq_true rfl⟩ ⟨Nat.le_of_ble_eq_true rfl, Nat.le_of_ble_eq_true rfl⟩ d_SP_swap_8 (fun r hp8 => ?_)
      rcases hp8 with ⟨rfl, hp8⟩ | ⟨rfl, hp8⟩
      · obtain ⟨bN, hbN, rfl⟩ := nI_of2 (M := 60) (n := 60) rfl (fun q => absurd (Int32.lt_of_le_of_lt hp8.1 q) (by decide)) hp8.2
        refine lv_if_ne (tgt := 17) hx hb d_SP_swap_11 (by decide) (fun c11 => ?_) (fun c11 => ?_)
        · refine lv_aload_n hx hb d_SP_swap_17 rfl (lv_at hl 0 rfl) ?_
          refine ga_cr (As := []) (rest := []) (q0 := 0) S hK hP s_SP_77 (gc_SP_hasPlan l D cI cZ cC cG spo re fa shh eo ec pl (by omega)) [0] rfl rfl rfl rfl hl.1 rfl (Nat.le_of_ble_eq_true rfl) ⟨Nat.le_of_ble_eq_true rfl, Nat.le_of_ble_eq_true rfl⟩ ⟨Nat.le_of_ble_eq_true rfl, Nat.le_of_ble_eq_true rfl⟩ d_SP_swap_18 (fun r hp18 => ?_)
          rcases hp18 with ⟨rfl, hp18⟩ | ⟨rfl, hp18⟩
          · refine lv_if_eq (tgt := 36) hx hb d_SP_swap_21 (by decide) (fun c21 => ?_) (fun c21 => ?_)
            · exact absurd c21 (by decide)
            · refine lv_aload_n hx hb d_SP_swap_24 rfl (lv_at hl 0 rfl) ?_
              refine ga_get S hK hP 0 rfl f_SP_38 rfl d_SP_swap_25 ?_
              refine lv_iload_n hx hb d_SP_swap_28 rfl (lv_at hl 1 rfl) ?_
              refine lv_iload_n hx hb d_SP_swap_29 rfl (lv_at hl 2 rfl) ?_
              refine ga_ji (wr := [(spo, .inr (5, [.ref re, .ref fa, .ref shh, .ref eo, .int (nI ec), .ref pl]))]) (ga_runV (As := [.int (nI aN), .int (nI bN)]) (rest := []) S hK s_SP_117 (gc_Pl_exchange l D cI cZ cC cG pl q1 q2 q3 q4 q5 q6 q7 q8 q9 rg aN bN bn (by omega) (by omega) hbn _) (ga_prV (y := y_Pl_exchange) (q0 := 1) hK hP hD [1, 2] rfl (by decide) rfl rfl) rfl hl.1 rfl (Nat.le_of_ble_eq_true rfl) ⟨Nat.le_of_ble_eq_true rfl, Nat.le_of_ble_eq_true rfl⟩ ⟨Nat.le_of_ble_eq_true rfl, Nat.le_of_ble_eq_true rfl⟩ d_SP_swap_30) hP hD hS hA [1, 2] [0] rfl rfl (by decide) (by decide) [0, 1, 2] (fun _ => [(spo, .inr (5, [.ref re, .ref fa, .ref shh, .ref eo, .int (nI ec), .ref pl])), (pl, .inr (1, [.ref q1, .ref q2, .ref q3, .ref q4, .ref q5, .ref q6, .ref q7, .ref q8, .ref q9, .int (nI rg)])), (q1, .inl (cI, 480, .inl (nA (gp_ex bn aN bN 480))))]) (fun _ => rfl) (by decide) (fun r x H locs hp30 hP hD hS => ?_)
              obtain rfl := hp30
              refine lv_goto (tgt := 38) hx hb d_SP_swap_33 (by decide) ?_
              exact ga_wi (gp_ex bn aN bN 480) S hrt hlk hP hD hS (Or.inr (Or.inr ⟨⟨hp1, hp8⟩, hp18, by rw [nI_clamp (by omega), nI_clamp (by omega)], by rw [nI_clamp (by omega), nI_clamp (by omega)]⟩)) d_SP_swap_38
          · refine lv_if_eq (tgt := 36) hx hb d_SP_swap_21 (by decide) (fun c21 => ?_) (fun c21 => ?_)
            · refine lv_bipush (v := (-103)) hx hb d_SP_swap_36 (by decide) ?_
              exact ga_wi bn S hrt hlk hP hD hS (Or.inr (Or.inl ⟨⟨hp1, hp8⟩, hp18, rfl, rfl⟩)) d_SP_swap_38
            · exact absurd c21 (by decide)
        · exact absurd c11 (by decide)
      · refine lv_if_ne (tgt := 17) hx hb d_SP_swap_11 (by decide) (fun c11 => ?_) (fun c11 => ?_)
        · exact absurd c11 (by decide)
        · refine lv_bipush (v := (-101)) hx hb d_SP_swap_14 (by decide) ?_
          exact ga_wi bn S hrt hlk hP hD hS (Or.inl ⟨(fun q => by first | exact hp1 q.1 | exact hp8 q.2), rfl, rfl⟩) d_SP_swap_16
  · refine lv_if_eq (tgt := 14) hx hb d_SP_swap_4 (by decide) (fun c4 => ?_) (fun c4 => ?_)
    · refine lv_bipush (v := (-101)) hx hb d_SP_swap_14 (by decide) ?_
      exact ga_wi bn S hrt hlk hP hD hS (Or.inl ⟨(fun q => by first | exact hp1 q.1 | exact hp8 q.2), rfl, rfl⟩) d_SP_swap_16
    · exact absurd c4 (by decide)
set_option maxHeartbeats 4000000 in
set_option maxRecDepth 100000 in
theorem gc_SP_overflow (l : Launch) (D : va_G) (cI cZ cC cG : ClassId) (spo re fa shh eo ec pl : Nat) (hec : ec ≤ 8) (q1 q2 q3 q4 q5 q6 q7 q8 q9 rg : Nat) (ne : Nat → Nat) (b : Int32) (hne : ∀ j, ne j ≤ 60) : ga_Mr l y_SP_overflow b_SP_overflow 2 (some .int) 6 D (ga_T cI cZ cC cG) [.ref spo, .int b] [(spo, .inr (5, [.ref re, .ref fa, .ref shh, .ref eo, .int (nI ec), .ref pl])), (pl, .inr (1, [.ref q1, .ref q2, .ref q3, .ref q4, .ref q5, .ref q6, .ref q7, .ref q8, .ref q9, .int (nI rg)])), (q5, .inl (cI, 61, .inl (nA ne)))] (fun r => (¬ (1 ≤ b ∧ b ≤ 60) ∧ r = -101) ∨ ((1 ≤ b ∧ b ≤ 60) ∧ ec = 0 ∧ r = -103) ∨ ((1 ≤ b ∧ b ≤ 60) ∧ ec ≠ 0 ∧ ((∃ j, j < 60 ∧ (∀ i, i < j → ne (gp_it ne b.toNatClampNeg i) ≠ 0) ∧ ne (gp_it ne b.toNatClampNeg j) = 0 ∧ r = nI (gp_it ne b.toNatClampNeg j)) ∨ ((∀ i, i < 60 → ne (gp_it ne b.toNatClampNeg i) ≠ 0) ∧ r = -1)))) := by
  refine ga_enR (by decide) (Nat.le_of_ble_eq_true rfl) ?_
  intro p e s m below meth c ls S hrt hlk hK hP hl
  obtain ⟨hx, hb, hml, hown, hts⟩ := id S
  have hl : lv_has ls 2 [(0, .ref spo), (1, .int b)] := hl
  refine lv_iload_n hx hb d_SP_overflow_0 rfl (lv_at hl 1 rfl) ?_
  refine ga_cs (As := [.int b]) (rest := []) S hK hP s_SP_114 (gc_SP_isBin l D cI cZ cC cG b) [] rfl rfl hl.1 rfl (Nat.le_of_ble_eq_true rfl) ⟨Nat.le_of_ble_eq_true rfl, Nat.le_of_ble_eq_true rfl⟩ ⟨Nat.le_of_ble_eq_true rfl, Nat.le_of_ble_eq_true rfl⟩ d_SP_overflow_1 (fun r hp1 => ?_)
  rcases hp1 with ⟨rfl, hp1⟩ | ⟨rfl, hp1⟩
  · obtain ⟨bN, hbN, rfl⟩ := nI_of2 (M := 60) (n := 60) rfl (fun q => absurd (Int32.lt_of_le_of_lt hp1.1 q) (by decide)) hp1.2
    refine lv_if_ne (tgt := 10) hx hb d_SP_overflow_4 (by decide) (fun c4 => ?_) (fun c4 => ?_)
    · refine lv_aload_n hx hb d_SP_overflow_10 rfl (lv_at hl 0 rfl) ?_
      refine ga_cr (As := []) (rest := []) (q0 := 0) S hK hP s_SP_77 (gc_SP_hasPlan l D cI cZ cC cG spo re fa shh eo ec pl (by omega)) [0] rfl rfl rfl rfl hl.1 rfl (Nat.le_of_ble_eq_true rfl) ⟨Nat.le_of_ble_eq_true rfl, Nat.le_of_ble_eq_true rfl⟩ ⟨Nat.le_of_ble_eq_true rfl, Nat.le_of_ble_eq_true rfl⟩ d_SP_overflow_11 (fun r hp11 => ?_)
      rcases hp11 with ⟨rfl, hp11⟩ | ⟨rfl, hp11⟩
      · refine lv_if_eq (tgt := 28) hx hb d_SP_overflow_14 (by decide) (fun c14 => ?_) (fun c14 => ?_)
        · exact absurd c14 (by decide)
        · refine lv_aload_n hx hb d_SP_overflow_17 rfl (lv_at hl 0 rfl) ?_
          refine ga_get S hK hP 0 rfl f_SP_38 rfl d_SP_overflow_18 ?_
          refine lv_iload_n hx hb d_SP_overflow_21 rfl (lv_at hl 1 rfl) ?_
          refine ga_cr (As := [.int (nI bN)]) (rest := []) (q0 := 1) S hK hP s_SP_120 (gc_Pl_endOfGoingOn l D cI cZ cC cG pl q1 q2 q3 q4 q5 q6 q7 q8 q9 rg bN ne (by omega) hne) [1, 2] rfl rfl rfl rfl hl.1 rfl (Nat.le_of_ble_eq_true rfl) ⟨Nat.le_of_ble_eq_true rfl, Nat.le_of_ble_eq_true rfl⟩ ⟨Nat.le_of_ble_eq_true rfl, Nat.le_of_ble_eq_true rfl⟩ d_SP_overflow_22 (fun r hp22 => ?_)
          refine lv_goto (tgt := 30) hx hb d_SP_overflow_25 (by decide) ?_
          exact ga_ri S hrt hlk (Or.inr (Or.inr ⟨hp1, hp11, by rw [nI_clamp (by omega)]; exact hp22⟩)) d_SP_overflow_30
      · refine lv_if_eq (tgt := 28) hx hb d_SP_overflow_14 (by decide) (fun c14 => ?_) (fun c14 => ?_)
        · refine lv_bipush (v := (-103)) hx hb d_SP_overflow_28 (by decide) ?_
          exact ga_ri S hrt hlk (Or.inr (Or.inl ⟨hp1, hp11, rfl⟩)) d_SP_overflow_30
        · exact absurd c14 (by decide)
    · exact absurd c4 (by decide)
  · refine lv_if_ne (tgt := 10) hx hb d_SP_overflow_4 (by decide) (fun c4 => ?_) (fun c4 => ?_)
    · exact absurd c4 (by decide)
    · refine lv_bipush (v := (-101)) hx hb d_SP_overflow_7 (by decide) ?_
      exact ga_ri S hrt hlk (Or.inl ⟨hp1, rfl⟩) d_SP_overflow_9
set_option maxHeartbeats 4000000 in
set_option maxRecDepth 100000 in
theorem gc_SP_print (l : Launch) (D : va_G) (cI cZ cC cG : ClassId) (spo re fa shh eo ec pl : Nat) (hec : ec ≤ 8) (q1 q2 q3 q4 q5 q6 q7 q8 q9 rg : Nat) (sha n : Nat) (sg bn : Nat → Nat) (i : Int32) (hbn : ∀ j, bn j ≤ 60) : ga_Mi l y_SP_print b_SP_print 2 (some .int) 6 0 0 D (ga_T cI cZ cC cG) [.ref spo, .int i] [(spo, .inr (5, [.ref re, .ref fa, .ref shh, .ref eo, .int (nI ec), .ref pl])), (shh, .inr (3, [.ref sha, .int (nI n)])), (sha, .inl (cC, 240, .inl (nA sg))), (pl, .inr (1, [.ref q1, .ref q2, .ref q3, .ref q4, .ref q5, .ref q6, .ref q7, .ref q8, .ref q9, .int (nI rg)])), (q1, .inl (cI, 480, .inl (nA bn)))] (fun (x : (Nat → Nat) × Nat) => [(spo, .inr (5, [.ref re, .ref fa, .ref shh, .ref eo, .int (nI ec), .ref pl])), (shh, .inr (3, [.ref sha, .int (nI x.2)])), (sha, .inl (cC, 240, .inl (nA x.1))), (pl, .inr (1, [.ref q1, .ref q2, .ref q3, .ref q4, .ref q5, .ref q6, .ref q7, .ref q8, .ref q9, .int (nI rg)])), (q1, .inl (cI, 480, .inl (nA bn)))]) (fun r x => (ec = 0 ∧ r = 0) ∨ (ec ≠ 0 ∧ gp_hs x.1 x.2 (gp_ou (fun j => bn (gp_sl (j + 1) 0 0)) 60) ∧ r = gp_si x.1 x.2 i)) := by
  refine ga_enI (by decide) (Nat.le_of_ble_eq_true rfl) ?_
  intro p e s m below meth c ls A S hrt hlk hK hP hD hA hl
  have hS : va_S A s.heap s.heap [] := va_S.rf
  obtain ⟨hx, hb, hml, hown, hts⟩ := id S
  have hl : lv_has ls 2 [(0, .ref spo), (1, .int i)] := hl
  refine lv_aload_n hx hb d_SP_print_0 rfl (lv_at hl 0 rfl) ?_
  refine ga_cr (As := []) (rest := []) (q0 := 0) S hK hP s_SP_77 (gc_SP_hasPlan l D cI cZ cC cG spo re fa shh eo ec pl (by omega)) [0] rfl rfl rfl rfl hl.1 rfl (Nat.le_of_ble_eq_true rfl) ⟨Nat.le_of_ble_eq_true rfl, Nat.le_of_ble_eq_true rfl⟩ ⟨Nat.le_of_ble_eq_true rfl, Nat.le_of_ble_eq_true rfl⟩ d_SP_print_1 (fun r hp1 => ?_)
  rcases hp1 with ⟨rfl, hp1⟩ | ⟨rfl, hp1⟩
  · refine lv_if_ne (tgt := 9) hx hb d_SP_print_4 (by decide) (fun c4 => ?_) (fun c4 => ?_)
    · refine lv_aload_n hx hb d_SP_print_9 rfl (lv_at hl 0 rfl) ?_
      refine ga_get S hK hP 0 rfl f_SP_26 rfl d_SP_print_10 ?_
      refine lv_aload_n hx hb d_SP_print_13 rfl (lv_at hl 0 rfl) ?_
      refine ga_get S hK hP 0 rfl f_SP_38 rfl d_SP_print_14 ?_
      refine ga_jv (wr := [(spo, .inr (5, [.ref re, .ref fa, .ref shh, .ref eo, .int (nI ec), .ref pl]))]) (ga_runV (As := [.ref pl]) (rest := []) S hK s_SP_124 (gc_Sh_write l D cI cZ cC cG shh sha n sg pl q1 q2 q3 q4 q5 q6 q7 q8 q9 rg bn hbn _) (ga_prV (y := y_Sh_write) (q0 := 1) hK hP hD [1, 2, 3, 4] rfl (by decide) rfl rfl) rfl hl.1 rfl (Nat.le_of_ble_eq_true rfl) ⟨Nat.le_of_ble_eq_true rfl, Nat.le_of_ble_eq_true rfl⟩ ⟨Nat.le_of_ble_eq_true rfl, Nat.le_of_ble_eq_true rfl⟩ d_SP_print_17) hP hD hS hA [1, 2, 3, 4] [0] rfl rfl (by decide) (by decide) [0, 1, 2, 3, 4] (fun (x : (Nat → Nat) × Nat) => [(spo, .inr (5, [.ref re, .ref fa, .ref shh, .ref eo, .int (nI ec), .ref pl])), (shh, .inr (3, [.ref sha, .int (nI x.2)])), (sha, .inl (cC, 240, .inl (nA x.1))), (pl, .inr (1, [.ref q1, .ref q2, .ref q3, .ref q4, .ref q5, .ref q6, .ref q7, .ref q8, .ref q9, .int (nI rg)])), (q1, .inl (cI, 480, .inl (nA bn)))]) (fun _ => rfl) (by decide) (fun x H locs hp17 hP hD hS => ?_)
      obtain ⟨g9, n9⟩ := x
      have hP : va_P D vwCl [(spo, .inr (5, [.ref re, .ref fa, .ref shh, .ref eo, .int (nI ec), .ref pl])), (shh, .inr (3, [.ref sha, .int (nI n9)])), (sha, .inl (cC, 240, .inl (nA g9))), (pl, .inr (1, [.ref q1, .ref q2, .ref q3, .ref q4, .ref q5, .ref q6, .ref q7, .ref q8, .ref q9, .int (nI rg)])), (q1, .inl (cI, 480, .inl (nA bn)))] H := hP
      have hD : va_D A [(spo, .inr (5, [.ref re, .ref fa, .ref shh, .ref eo, .int (nI ec), .ref pl])), (shh, .inr (3, [.ref sha, .int (nI n9)])), (sha, .inl (cC, 240, .inl (nA g9))), (pl, .inr (1, [.ref q1, .ref q2, .ref q3, .ref q4, .ref q5, .ref q6, .ref q7, .ref q8, .ref q9, .int (nI rg)])), (q1, .inl (cI, 480, .inl (nA bn)))] := hD
      have hn9 : n9 ≤ 240 := by have h0 := hp17.1; have h1 := gp_ou_le (fun j => bn (gp_sl (j + 1) 0 0)) 60; have h2 := gp_ht_sum (fun j => bn (gp_sl (j + 1) 0 0)) 60 40; simp only at h0; omega
      refine lv_aload_n hx hb d_SP_print_20 rfl (lv_at hl 0 rfl) ?_
      refine ga_get S hK hP 0 rfl f_SP_26 rfl d_SP_print_21 ?_
      refine lv_iload_n hx hb d_SP_print_24 rfl (lv_at hl 1 rfl) ?_
      refine ga_cr (As := [.int i]) (rest := []) (q0 := 1) S hK hP s_SP_127 (gc_Sh_signAt l D cI cZ cC cG shh sha n9 g9 i (by omega)) [1, 2] rfl rfl rfl rfl hl.1 rfl (Nat.le_of_ble_eq_true rfl) ⟨Nat.le_of_ble_eq_true rfl, Nat.le_of_ble_eq_true rfl⟩ ⟨Nat.le_of_ble_eq_true rfl, Nat.le_of_ble_eq_true rfl⟩ d_SP_print_25 (fun r hp25 => ?_)
      exact ga_wi (g9, n9) S hrt hlk hP hD hS (Or.inr ⟨hp1, hp17, hp25⟩) d_SP_print_28
    · exact absurd c4 (by decide)
  · refine lv_if_ne (tgt := 9) hx hb d_SP_print_4 (by decide) (fun c4 => ?_) (fun c4 => ?_)
    · exact absurd c4 (by decide)
    · refine lv_iconst (v := 0) hx hb d_SP_print_7 (by decide) ?_
      exact ga_wi (sg, n) S hrt hlk hP hD hS (Or.inl ⟨hp1, rfl⟩) d_SP_print_8
set_option maxHeartbeats 4000000 in
set_option maxRecDepth 100000 in
theorem gc_SP_sign (l : Launch) (D : va_G) (cI cZ cC cG : ClassId) (spo re fa shh eo ec pl : Nat) (hec : ec ≤ 8) (te ta dr pos n : Nat) (tr : Option Nat) (sg : Nat → Nat) (ch : Int32) (hn : n ≤ 600) : ga_Mv l y_SP_sign b_SP_sign 2 6 0 0 D (ga_T cI cZ cC cG) [.ref spo, .int ch] [(spo, .inr (5, [.ref re, .ref fa, .ref shh, .ref eo, .int (nI ec), .ref pl])), (re, .inr (2, [.ref te, .ref dr, .int (nI pos), .int (tI tr)])), (te, .inr (4, [.ref ta, .int (nI n)])), (ta, .inl (cC, 600, .inl (nA sg)))] (fun (_ : Unit) => [(spo, .inr (5, [.ref re, .ref fa, .ref shh, .ref eo, .int (nI ec), .ref pl])), (re, .inr (2, [.ref te, .ref dr, .int (nI pos), .int (tI tr)])), (te, .inr (4, [.ref ta, .int (nI ((gp_put ch (sg, n)).2))])), (ta, .inl (cC, 600, .inl (nA ((gp_put ch (sg, n)).1))))]) (fun _ => True) := by
  refine ga_enV (by decide) (Nat.le_of_ble_eq_true rfl) ?_
  intro p e s m below meth c ls A S hrt hlk hnm hK hP hD hA hl
  have hS : va_S A s.heap s.heap [] := va_S.rf
  obtain ⟨hx, hb, hml, hown, hts⟩ := id S
  have hl : lv_has ls 2 [(0, .ref spo), (1, .int ch)] := hl
  refine lv_aload_n hx hb d_SP_sign_0 rfl (lv_at hl 0 rfl) ?_
  refine ga_get S hK hP 0 rfl f_SP_12 rfl d_SP_sign_1 ?_
  refine ga_get S hK hP 1 rfl f_SP_42 rfl d_SP_sign_4 ?_
  refine lv_iload_n hx hb d_SP_sign_7 rfl (lv_at hl 1 rfl) ?_
  refine ga_jv (wr := [(spo, .inr (5, [.ref re, .ref fa, .ref shh, .ref eo, .int (nI ec), .ref pl])), (re, .inr (2, [.ref te, .ref dr, .int (nI pos), .int (tI tr)]))]) (ga_runV (As := [.int ch]) (rest := []) S hK s_SP_46 (gc_Te_put l D cI cZ cC cG te ta n sg ch (by omega) _) (ga_prV (y := y_Te_put) (q0 := 2) hK hP hD [2, 3] rfl (by decide) rfl rfl) rfl hl.1 rfl (Nat.le_of_ble_eq_true rfl) ⟨Nat.le_of_ble_eq_true rfl, Nat.le_of_ble_eq_true rfl⟩ ⟨Nat.le_of_ble_eq_true rfl, Nat.le_of_ble_eq_true rfl⟩ d_SP_sign_8) hP hD hS hA [2, 3] [0, 1] rfl rfl (by decide) (by decide) [0, 1, 2, 3] (fun _ => [(spo, .inr (5, [.ref re, .ref fa, .ref shh, .ref eo, .int (nI ec), .ref pl])), (re, .inr (2, [.ref te, .ref dr, .int (nI pos), .int (tI tr)])), (te, .inr (4, [.ref ta, .int (nI ((gp_put ch (sg, n)).2))])), (ta, .inl (cC, 600, .inl (nA ((gp_put ch (sg, n)).1))))]) (fun _ => rfl) (by decide) (fun x H locs hp8 hP hD hS => ?_)
  exact ga_wv () S hrt hlk hP hD hS trivial d_SP_sign_11
end
section
section GQ
variable {p : Program} {l : Launch} {e : Env} {R : Room} {s : State} {m : MethodId} {args : Array Value} {below : List Frame} {meth : Method} {c : Code} {H : Heap} {locs : List Loc} {cells slots : Nat} {Q : State → Prop}
variable {cc : ByteArray} {nL pc : Nat} {own : String} {ls : Array Slot} {rest st0 : List Value} {D : va_G} {tys : List (ClassId × FieldType)} {ws ws' : va_W} {A : Nat → Prop} {a : Nat}
theorem ga_aaN (S : CallFix p m c cc nL s args gw own) (hK : ga_K D tys s) (hP : va_P D vwCl ws H) (q0 t0 : Nat) {cA : ClassId} {n : Nat} {f : Nat → Option Nat} (ha : ws[q0]? = some (a, .inl (cA, n, .inr (.inr (.inr (.inr f)))))) (ht : tys[t0]? = some (cA, .array .int)) (j : Nat) (hj : j < n) (hn : n < 2 ^ 31) {a1 : Nat} (hf : f j = some a1) (hdg : decode cc pc = .ok (.aaload, 1)) (kk : W p l e R s m args below meth c H locs cells slots Q (F0 m (pc + 1) ls (.ref a1 :: rest))) : W p l e R s m args below meth c H locs cells slots Q (F0 m pc ls (.int (nI j) :: .ref a :: rest)) := by
  refine ga_aald S hK hP q0 t0 ha ht (vp_in_nI hj hn) hdg ?_
  rw [nI_clamp (Nat.lt_trans hj hn), hf]
  exact kk
theorem ga_copy {index a0 : Nat} {cI : ClassId} {f g : Nat → Nat} (S : CallFix p m c cc nL s args gw own) (hl : ls.size = nL) (hlink : Cond.methodLink own index arraycopyName ∈ gw) (hK : ga_K D tys s) (hP : va_P D vwCl ws H) (hD : va_D A ws) (hS : va_S A s.heap H locs) (q0 q1 : Nat) (ha0 : ws[q0]? = some (a0, .inl (cI, 480, .inl (nA f)))) (ha1 : ws[q1]? = some (a, .inl (cI, 480, .inl (nA g)))) (ht : tys[0]? = some (cI, .int)) (hframes : 1 ≤ R.frames) (hlocals : (rest.map fun v => v.category).sum + (nativeFrameWords "java/lang/System" "arraycopy" 5 + 11) ≤ R.locals) (hw : ws.set q1 (a, .inl (cI, 480, .inl (nA f))) = ws') (hdg : decode cc pc = .ok (.invokestatic index, 3)) (kk : ∀ (H1 : Heap) (locs1 : List Loc), va_P D vwCl ws' H1 → va_D A ws' → va_S A s.heap H1 locs1 → W p l e R s m args below meth c H1 locs1 cells slots Q (F0 m (pc + 3) ls rest)) : W p l e R s m args below meth c H locs cells slots Q (F0 m pc ls (.int 480 :: .int 0 :: .ref a :: .int 0 :: .ref a0 :: rest)) := by
  refine va_copyi S.1 S.2.1 (S.2.2.1.trans hl.symm) S.2.2.2.1 (S.2.2.2.2 _ hlink) (S.2.2.2.2 _ sy_n) (S.2.2.2.2 _ sy_s) (S.2.2.2.2 _ sy_i) hK.1 hP hD hS q0 q1 0 0 ha0 ha1 ht ht rfl (by decide) (by decide) (by decide) (by decide) (by decide) (fun i _ => rfl) hframes hlocals hdg (fun H1 locs1 hP1 hD1 hS1 => ?_)
  have hlen : q1 < ws.length := (List.getElem?_eq_some_iff.mp ha1).1
  obtain ⟨h1, h2⟩ := ga_setf (q := q1) (g := nA f) (ws' := ws') hP1 hD1 (by rw [List.getElem?_set_self hlen]) (fun j hj => by
    show va_cpy (nA f) (nA g) 0 0 480 j = nA f j
    rw [pk_cpy_in (by omega) (by omega)]
    simp) (by rw [List.set_set]; exact hw)
  exact kk H1 locs1 h1 h2 hS1
end GQ
end
section
set_option maxHeartbeats 4000000 in
set_option maxRecDepth 100000 in
theorem gc_Re_giveDraftFor (l : Launch) (D : va_G) (cI cZ cC cG : ClassId) (re te dr pos pl : Nat) (tr : Option Nat) : ga_Mq l y_Re_giveDraftFor b_Re_giveDraftFor 3 (some (.object "SortPlans$Plan")) 0 0 0 D (ga_T cI cZ cC cG) [.ref re, .ref pl] [(re, .inr (2, [.ref te, .ref dr, .int (nI pos), .int (tI tr)]))] (fun (_ : Unit) => [(re, .inr (2, [.ref te, .ref pl, .int (nI pos), .int (tI tr)]))]) (fun _ => dr) (fun _ => True) := by
  refine ga_enQ (by decide) (Nat.le_of_ble_eq_true rfl) ?_
  intro p e s m below meth c ls A S hrt hlk hK hP hD hA hl
  have hS : va_S A s.heap s.heap [] := va_S.rf
  obtain ⟨hx, hb, hml, hown, hts⟩ := id S
  have hl : lv_has ls 3 [(0, .ref re), (1, .ref pl)] := hl
  refine lv_aload_n hx hb d_Re_giveDraftFor_0 rfl (lv_at hl 0 rfl) ?_
  refine ga_get S hK hP 0 rfl f_Re_21 rfl d_Re_giveDraftFor_1 ?_
  refine lv_astore_n (lv' := [(2, .ref dr), (0, .ref re), (1, .ref pl)]) hx hb d_Re_giveDraftFor_4 rfl hl (by decide) rfl (fun ls hl => ?_)
  refine lv_aload_n hx hb d_Re_giveDraftFor_5 rfl (lv_at hl 1 rfl) ?_
  refine lv_aload_n hx hb d_Re_giveDraftFor_6 rfl (lv_at hl 2 rfl) ?_
  refine ga_put (ws' := [(re, .inr (2, [.ref te, .ref pl, .int (nI pos), .int (tI tr)]))]) S hK hP hD hS 0 rfl p_Re_21 rfl rfl (Nat.le_of_ble_eq_true rfl) rfl d_Re_giveDraftFor_7 (fun H locs hP hD hS => ?_)
  refine lv_aload_n hx hb d_Re_giveDraftFor_10 rfl (lv_at hl 0 rfl) ?_
  exact ga_wq () S hrt (Or.inl ⟨_, rfl⟩) hlk hP hD hS trivial d_Re_giveDraftFor_11
set_option maxHeartbeats 4000000 in
set_option maxRecDepth 100000 in
theorem gc_SP_addEdition (l : Launch) (D : va_G) (cI cZ cC cG : ClassId) (spo re fa shh eo ec pl : Nat) (hec : ec ≤ 8) (te dr pos : Nat) (tr : Option Nat) (d1 d2 d3 d4 d5 d6 d7 d8 d9 drg : Nat) (ea : Nat → Nat) (ed : Nat → Nat → Nat) (bn : Nat → Nat) (h8 : ec < 8) : ga_Mv l y_SP_addEdition b_SP_addEdition 1 1 0 0 D (ga_T cI cZ cC cG) [.ref spo] [(spo, .inr (5, [.ref re, .ref fa, .ref shh, .ref eo, .int (nI ec), .ref pl])), (re, .inr (2, [.ref te, .ref dr, .int (nI pos), .int (tI tr)])), (dr, .inr (1, [.ref d1, .ref d2, .ref d3, .ref d4, .ref d5, .ref d6, .ref d7, .ref d8, .ref d9, .int (nI drg)])), (d1, .inl (cI, 480, .inl (nA bn))), (eo, .inl (cG, 8, .inr (.inr (.inr (.inr (fun i => if i < 8 then some (ea i) else none)))))), ((ea 0), .inl (cI, 480, .inl (nA (ed 0)))), ((ea 1), .inl (cI, 480, .inl (nA (ed 1)))), ((ea 2), .inl (cI, 480, .inl (nA (ed 2)))), ((ea 3), .inl (cI, 480, .inl (nA (ed 3)))), ((ea 4), .inl (cI, 480, .inl (nA (ed 4)))), ((ea 5), .inl (cI, 480, .inl (nA (ed 5)))), ((ea 6), .inl (cI, 480, .inl (nA (ed 6)))), ((ea 7), .inl (cI, 480, .inl (nA (ed 7))))] (fun (_ : Unit) => [(spo, .inr (5, [.ref re, .ref fa, .ref shh, .ref eo, .int (nI (ec + 1)), .ref dr])), (re, .inr (2, [.ref te, .ref pl, .int (nI pos), .int (tI tr)])), (dr, .inr (1, [.ref d1, .ref d2, .ref d3, .ref d4, .ref d5, .ref d6, .ref d7, .ref d8, .ref d9, .int (nI drg)])), (d1, .inl (cI, 480, .inl (nA bn))), (eo, .inl (cG, 8, .inr (.inr (.inr (.inr (fun i => if i < 8 then some (ea i) else none)))))), ((ea 0), .inl (cI, 480, .inl (nA (va_up ed ec bn 0)))), ((ea 1), .inl (cI, 480, .inl (nA (va_up ed ec bn 1)))), ((ea 2), .inl (cI, 480, .inl (nA (va_up ed ec bn 2)))), ((ea 3), .inl (cI, 480, .inl (nA (va_up ed ec bn 3)))), ((ea 4), .inl (cI, 480, .inl (nA (va_up ed ec bn 4)))), ((ea 5), .inl (cI, 480, .inl (nA (va_up ed ec bn 5)))), ((ea 6), .inl (cI, 480, .inl (nA (va_up ed ec bn 6)))), ((ea 7), .inl (cI, 480, .inl (nA (va_up ed ec bn 7))))]) (fun _ => True) := by
  refine ga_enV (by decide) (Nat.le_of_ble_eq_true rfl) ?_
  intro p e s m below meth c ls A S hrt hlk hnm hK hP hD hA hl
  have hS : va_S A s.heap s.heap [] := va_S.rf
  obtain ⟨hx, hb, hml, hown, hts⟩ := id S
  have hl : lv_has ls 1 [(0, .ref spo)] := hl
  rcases (show ec = 0 ∨ ec = 1 ∨ ec = 2 ∨ ec = 3 ∨ ec = 4 ∨ ec = 5 ∨ ec = 6 ∨ ec = 7 by omega) with rfl | rfl | rfl | rfl | rfl | rfl | rfl | rfl
  · refine lv_aload_n hx hb d_SP_addEdition_0 rfl (lv_at hl 0 rfl) ?_
    refine lv_aload_n hx hb d_SP_addEdition_1 rfl (lv_at hl 0 rfl) ?_
    refine ga_get S hK hP 0 rfl f_SP_12 rfl d_SP_addEdition_2 ?_
    refine lv_aload_n hx hb d_SP_addEdition_5 rfl (lv_at hl 0 rfl) ?_
    refine ga_get S hK hP 0 rfl f_SP_38 rfl d_SP_addEdition_6 ?_
    refine ga_jq (wr := [(spo, .inr (5, [.ref re, .ref fa, .ref shh, .ref eo, .int (nI 0), .ref pl])), (dr, .inr (1, [.ref d1, .ref d2, .ref d3, .ref d4, .ref d5, .ref d6, .ref d7, .ref d8, .ref d9, .int (nI drg)])), (d1, .inl (cI, 480, .inl (nA bn))), (eo, .inl (cG, 8, .inr (.inr (.inr (.inr (fun i => if i < 8 then some (ea i) else none)))))), ((ea 0), .inl (cI, 480, .inl (nA (ed 0)))), ((ea 1), .inl (cI, 480, .inl (nA (ed 1)))), ((ea 2), .inl (cI, 480, .inl (nA (ed 2)))), ((ea 3), .inl (cI, 480, .inl (nA (ed 3)))), ((ea 4), .inl (cI, 480, .inl (nA (ed 4)))), ((ea 5), .inl (cI, 480, .inl (nA (ed 5)))), ((ea 6), .inl (cI, 480, .inl (nA (ed 6)))), ((ea 7), .inl (cI, 480, .inl (nA (ed 7))))]) (ga_runV (As := [.ref pl]) (rest := [.ref spo]) S hK s_SP_130 (gc_Re_giveDraftFor l D cI cZ cC cG re te dr pos pl tr _) (ga_prV (y := y_Re_giveDraftFor) (q0 := 1) hK hP hD [1] rfl (by decide) rfl rfl) rfl hl.1 rfl (Nat.le_of_ble_eq_true rfl) ⟨Nat.le_of_ble_eq_true rfl, Nat.le_of_ble_eq_true rfl⟩ ⟨Nat.le_of_ble_eq_true rfl, Nat.le_of_ble_eq_true rfl⟩ d_SP_addEdition_9) hP hD hS hA [1] [0, 2, 3, 4, 5, 6, 7, 8, 9, 10, 11, 12] rfl rfl (by decide) (by decide) [0, 12, 1, 2, 3, 4, 5, 6, 7, 8, 9, 10, 11] (fun _ => [(spo, .inr (5, [.ref re, .ref fa, .ref shh, .ref eo, .int (nI 0), .ref pl])), (re, .inr (2, [.ref te, .ref pl, .int (nI pos), .int (tI tr)])), (dr, .inr (1, [.ref d1, .ref d2, .ref d3, .ref d4, .ref d5, .ref d6, .ref d7, .ref d8, .ref d9, .int (nI drg)])), (d1, .inl (cI, 480, .inl (nA bn))), (eo, .inl (cG, 8, .inr (.inr (.inr (.inr (fun i => if i < 8 then some (ea i) else none)))))), ((ea 0), .inl (cI, 480, .inl (nA (ed 0)))), ((ea 1), .inl (cI, 480, .inl (nA (ed 1)))), ((ea 2), .inl (cI, 480, .inl (nA (ed 2)))), ((ea 3), .inl (cI, 480, .inl (nA (ed 3)))), ((ea 4), .inl (cI, 480, .inl (nA (ed 4)))), ((ea 5), .inl (cI, 480, .inl (nA (ed 5)))), ((ea 6), .inl (cI, 480, .inl (nA (ed 6)))), ((ea 7), .inl (cI, 480, .inl (nA (ed 7))))]) (fun _ => rfl) (by decide) (fun x H locs hp9 hP hD hS => ?_)
    refine ga_put (ws' := [(spo, .inr (5, [.ref re, .ref fa, .ref shh, .ref eo, .int (nI 0), .ref dr])), (re, .inr (2, [.ref te, .ref pl, .int (nI pos), .int (tI tr)])), (dr, .inr (1, [.ref d1, .ref d2, .ref d3, .ref d4, .ref d5, .ref d6, .ref d7, .ref d8, .ref d9, .int (nI drg)])), (d1, .inl (cI, 480, .inl (nA bn))), (eo, .inl (cG, 8, .inr (.inr (.inr (.inr (fun i => if i < 8 then some (ea i) else none)))))), ((ea 0), .inl (cI, 480, .inl (nA (ed 0)))), ((ea 1), .inl (cI, 480, .inl (nA (ed 1)))), ((ea 2), .inl (cI, 480, .inl (nA (ed 2)))), ((ea 3), .inl (cI, 480, .inl (nA (ed 3)))), ((ea 4), .inl (cI, 480, .inl (nA (ed 4)))), ((ea 5), .inl (cI, 480, .inl (nA (ed 5)))), ((ea 6), .inl (cI, 480, .inl (nA (ed 6)))), ((ea 7), .inl (cI, 480, .inl (nA (ed 7))))]) S hK hP hD hS 0 rfl p_SP_38 rfl rfl (Nat.le_of_ble_eq_true rfl) rfl d_SP_addEdition_12 (fun H locs hP hD hS => ?_)
    refine lv_aload_n hx hb d_SP_addEdition_15 rfl (lv_at hl 0 rfl) ?_
    refine ga_get S hK hP 0 rfl f_SP_38 rfl d_SP_addEdition_16 ?_
    refine ga_get S hK hP 2 rfl f_SP_92 rfl d_SP_addEdition_19 ?_
    refine lv_iconst (v := 0) hx hb d_SP_addEdition_22 (by decide) ?_
    refine lv_aload_n hx hb d_SP_addEdition_23 rfl (lv_at hl 0 rfl) ?_
    refine ga_get S hK hP 0 rfl f_SP_32 rfl d_SP_addEdition_24 ?_
    refine lv_aload_n hx hb d_SP_addEdition_27 rfl (lv_at hl 0 rfl) ?_
    refine ga_get S hK hP 0 rfl f_SP_67 rfl d_SP_addEdition_28 ?_
    refine ga_aaN S hK hP 4 3 rfl rfl 0 (by decide) (by decide) (a1 := ea 0) rfl d_SP_addEdition_31 ?_
    refine lv_iconst (v := 0) hx hb d_SP_addEdition_32 (by decide) ?_
    refine lv_sipush (v := 480) hx hb d_SP_addEdition_33 (by decide) ?_
    refine ga_copy (ws' := [(spo, .inr (5, [.ref re, .ref fa, .ref shh, .ref eo, .int (nI 0), .ref dr])), (re, .inr (2, [.ref te, .ref pl, .int (nI pos), .int (tI tr)])), (dr, .inr (1, [.ref d1, .ref d2, .ref d3, .ref d4, .ref d5, .ref d6, .ref d7, .ref d8, .ref d9, .int (nI drg)])), (d1, .inl (cI, 480, .inl (nA bn))), (eo, .inl (cG, 8, .inr (.inr (.inr (.inr (fun i => if i < 8 then some (ea i) else none)))))), ((ea 0), .inl (cI, 480, .inl (nA bn))), ((ea 1), .inl (cI, 480, .inl (nA (ed 1)))), ((ea 2), .inl (cI, 480, .inl (nA (ed 2)))), ((ea 3), .inl (cI, 480, .inl (nA (ed 3)))), ((ea 4), .inl (cI, 480, .inl (nA (ed 4)))), ((ea 5), .inl (cI, 480, .inl (nA (ed 5)))), ((ea 6), .inl (cI, 480, .inl (nA (ed 6)))), ((ea 7), .inl (cI, 480, .inl (nA (ed 7))))]) S hl.1 sy_SP_134 hK hP hD hS 3 5 rfl rfl rfl (Nat.le_of_ble_eq_true rfl) (by decide +kernel) rfl d_SP_addEdition_36 (fun H locs hP hD hS => ?_)
    refine lv_aload_n hx hb d_SP_addEdition_39 rfl (lv_at hl 0 rfl) ?_
    refine lv_dup hx hb d_SP_addEdition_40 rfl ?_
    refine ga_get S hK hP 0 rfl f_SP_67 rfl d_SP_addEdition_41 ?_
    refine lv_iconst (v := 1) hx hb d_SP_addEdition_44 (by decide) ?_
    refine lv_iadd hx hb d_SP_addEdition_45 ?_
    refine ga_top (nI (0 + 1)) (nI_add 0 1) ?_
    refine ga_put (ws' := [(spo, .inr (5, [.ref re, .ref fa, .ref shh, .ref eo, .int (nI (0 + 1)), .ref dr])), (re, .inr (2, [.ref te, .ref pl, .int (nI pos), .int (tI tr)])), (dr, .inr (1, [.ref d1, .ref d2, .ref d3, .ref d4, .ref d5, .ref d6, .ref d7, .ref d8, .ref d9, .int (nI drg)])), (d1, .inl (cI, 480, .inl (nA bn))), (eo, .inl (cG, 8, .inr (.inr (.inr (.inr (fun i => if i < 8 then some (ea i) else none)))))), ((ea 0), .inl (cI, 480, .inl (nA bn))), ((ea 1), .inl (cI, 480, .inl (nA (ed 1)))), ((ea 2), .inl (cI, 480, .inl (nA (ed 2)))), ((ea 3), .inl (cI, 480, .inl (nA (ed 3)))), ((ea 4), .inl (cI, 480, .inl (nA (ed 4)))), ((ea 5), .inl (cI, 480, .inl (nA (ed 5)))), ((ea 6), .inl (cI, 480, .inl (nA (ed 6)))), ((ea 7), .inl (cI, 480, .inl (nA (ed 7))))]) S hK hP hD hS 0 rfl p_SP_67 rfl rfl (Nat.le_of_ble_eq_true rfl) rfl d_SP_addEdition_46 (fun H locs hP hD hS => ?_)
    exact ga_wv () S hrt hlk hP hD hS trivial d_SP_addEdition_49
  · refine lv_aload_n hx hb d_SP_addEdition_0 rfl (lv_at hl 0 rfl) ?_
    refine lv_aload_n hx hb d_SP_addEdition_1 rfl (lv_at hl 0 rfl) ?_
    refine ga_get S hK hP 0 rfl f_SP_12 rfl d_SP_addEdition_2 ?_
    refine lv_aload_n hx hb d_SP_addEdition_5 rfl (lv_at hl 0 rfl) ?_
    refine ga_get S hK hP 0 rfl f_SP_38 rfl d_SP_addEdition_6 ?_
    refine ga_jq (wr := [(spo, .inr (5, [.ref re, .ref fa, .ref shh, .ref eo, .int (nI 1), .ref pl])), (dr, .inr (1, [.ref d1, .ref d2, .ref d3, .ref d4, .ref d5, .ref d6, .ref d7, .ref d8, .ref d9, .int (nI drg)])), (d1, .inl (cI, 480, .inl (nA bn))), (eo, .inl (cG, 8, .inr (.inr (.inr (.inr (fun i => if i < 8 then some (ea i) else none)))))), ((ea 0), .inl (cI, 480, .inl (nA (ed 0)))), ((ea 1), .inl (cI, 480, .inl (nA (ed 1)))), ((ea 2), .inl (cI, 480, .inl (nA (ed 2)))), ((ea 3), .inl (cI, 480, .inl (nA (ed 3)))), ((ea 4), .inl (cI, 480, .inl (nA (ed 4)))), ((ea 5), .inl (cI, 480, .inl (nA (ed 5)))), ((ea 6), .inl (cI, 480, .inl (nA (ed 6)))), ((ea 7), .inl (cI, 480, .inl (nA (ed 7))))]) (ga_runV (As := [.ref pl]) (rest := [.ref spo]) S hK s_SP_130 (gc_Re_giveDraftFor l D cI cZ cC cG re te dr pos pl tr _) (ga_prV (y := y_Re_giveDraftFor) (q0 := 1) hK hP hD [1] rfl (by decide) rfl rfl) rfl hl.1 rfl (Nat.le_of_ble_eq_true rfl) ⟨Nat.le_of_ble_eq_true rfl, Nat.le_of_ble_eq_true rfl⟩ ⟨Nat.le_of_ble_eq_true rfl, Nat.le_of_ble_eq_true rfl⟩ d_SP_addEdition_9) hP hD hS hA [1] [0, 2, 3, 4, 5, 6, 7, 8, 9, 10, 11, 12] rfl rfl (by decide) (by decide) [0, 12, 1, 2, 3, 4, 5, 6, 7, 8, 9, 10, 11] (fun _ => [(spo, .inr (5, [.ref re, .ref fa, .ref shh, .ref eo, .int (nI 1), .ref pl])), (re, .inr (2, [.ref te, .ref pl, .int (nI pos), .int (tI tr)])), (dr, .inr (1, [.ref d1, .ref d2, .ref d3, .ref d4, .ref d5, .ref d6, .ref d7, .ref d8, .ref d9, .int (nI drg)])), (d1, .inl (cI, 480, .inl (nA bn))), (eo, .inl (cG, 8, .inr (.inr (.inr (.inr (fun i => if i < 8 then some (ea i) else none)))))), ((ea 0), .inl (cI, 480, .inl (nA (ed 0)))), ((ea 1), .inl (cI, 480, .inl (nA (ed 1)))), ((ea 2), .inl (cI, 480, .inl (nA (ed 2)))), ((ea 3), .inl (cI, 480, .inl (nA (ed 3)))), ((ea 4), .inl (cI, 480, .inl (nA (ed 4)))), ((ea 5), .inl (cI, 480, .inl (nA (ed 5)))), ((ea 6), .inl (cI, 480, .inl (nA (ed 6)))), ((ea 7), .inl (cI, 480, .inl (nA (ed 7))))]) (fun _ => rfl) (by decide) (fun x H locs hp9 hP hD hS => ?_)
    refine ga_put (ws' := [(spo, .inr (5, [.ref re, .ref fa, .ref shh, .ref eo, .int (nI 1), .ref dr])), (re, .inr (2, [.ref te, .ref pl, .int (nI pos), .int (tI tr)])), (dr, .inr (1, [.ref d1, .ref d2, .ref d3, .ref d4, .ref d5, .ref d6, .ref d7, .ref d8, .ref d9, .int (nI drg)])), (d1, .inl (cI, 480, .inl (nA bn))), (eo, .inl (cG, 8, .inr (.inr (.inr (.inr (fun i => if i < 8 then some (ea i) else none)))))), ((ea 0), .inl (cI, 480, .inl (nA (ed 0)))), ((ea 1), .inl (cI, 480, .inl (nA (ed 1)))), ((ea 2), .inl (cI, 480, .inl (nA (ed 2)))), ((ea 3), .inl (cI, 480, .inl (nA (ed 3)))), ((ea 4), .inl (cI, 480, .inl (nA (ed 4)))), ((ea 5), .inl (cI, 480, .inl (nA (ed 5)))), ((ea 6), .inl (cI, 480, .inl (nA (ed 6)))), ((ea 7), .inl (cI, 480, .inl (nA (ed 7))))]) S hK hP hD hS 0 rfl p_SP_38 rfl rfl (Nat.le_of_ble_eq_true rfl) rfl d_SP_addEdition_12 (fun H locs hP hD hS => ?_)
    refine lv_aload_n hx hb d_SP_addEdition_15 rfl (lv_at hl 0 rfl) ?_
    refine ga_get S hK hP 0 rfl f_SP_38 rfl d_SP_addEdition_16 ?_
    refine ga_get S hK hP 2 rfl f_SP_92 rfl d_SP_addEdition_19 ?_
    refine lv_iconst (v := 0) hx hb d_SP_addEdition_22 (by decide) ?_
    refine lv_aload_n hx hb d_SP_addEdition_23 rfl (lv_at hl 0 rfl) ?_
    refine ga_get S hK hP 0 rfl f_SP_32 rfl d_SP_addEdition_24 ?_
    refine lv_aload_n hx hb d_SP_addEdition_27 rfl (lv_at hl 0 rfl) ?_
    refine ga_get S hK hP 0 rfl f_SP_67 rfl d_SP_addEdition_28 ?_
    refine ga_aaN S hK hP 4 3 rfl rfl 1 (by decide) (by decide) (a1 := ea 1) rfl d_SP_addEdition_31 ?_
    refine lv_iconst (v := 0) hx hb d_SP_addEdition_32 (by decide) ?_
    refine lv_sipush (v := 480) hx hb d_SP_addEdition_33 (by decide) ?_
    refine ga_copy (ws' := [(spo, .inr (5, [.ref re, .ref fa, .ref shh, .ref eo, .int (nI 1), .ref dr])), (re, .inr (2, [.ref te, .ref pl, .int (nI pos), .int (tI tr)])), (dr, .inr (1, [.ref d1, .ref d2, .ref d3, .ref d4, .ref d5, .ref d6, .ref d7, .ref d8, .ref d9, .int (nI drg)])), (d1, .inl (cI, 480, .inl (nA bn))), (eo, .inl (cG, 8, .inr (.inr (.inr (.inr (fun i => if i < 8 then some (ea i) else none)))))), ((ea 0), .inl (cI, 480, .inl (nA (ed 0)))), ((ea 1), .inl (cI, 480, .inl (nA bn))), ((ea 2), .inl (cI, 480, .inl (nA (ed 2)))), ((ea 3), .inl (cI, 480, .inl (nA (ed 3)))), ((ea 4), .inl (cI, 480, .inl (nA (ed 4)))), ((ea 5), .inl (cI, 480, .inl (nA (ed 5)))), ((ea 6), .inl (cI, 480, .inl (nA (ed 6)))), ((ea 7), .inl (cI, 480, .inl (nA (ed 7))))]) S hl.1 sy_SP_134 hK hP hD hS 3 6 rfl rfl rfl (Nat.le_of_ble_eq_true rfl) (by decide +kernel) rfl d_SP_addEdition_36 (fun H locs hP hD hS => ?_)
    refine lv_aload_n hx hb d_SP_addEdition_39 rfl (lv_at hl 0 rfl) ?_
    refine lv_dup hx hb d_SP_addEdition_40 rfl ?_
    refine ga_get S hK hP 0 rfl f_SP_67 rfl d_SP_addEdition_41 ?_
    refine lv_iconst (v := 1) hx hb d_SP_addEdition_44 (by decide) ?_
    refine lv_iadd hx hb d_SP_addEdition_45 ?_
    refine ga_top (nI (1 + 1)) (nI_add 1 1) ?_
    refine ga_put (ws' := [(spo, .inr (5, [.ref re, .ref fa, .ref shh, .ref eo, .int (nI (1 + 1)), .ref dr])), (re, .inr (2, [.ref te, .ref pl, .int (nI pos), .int (tI tr)])), (dr, .inr (1, [.ref d1, .ref d2, .ref d3, .ref d4, .ref d5, .ref d6, .ref d7, .ref d8, .ref d9, .int (nI drg)])), (d1, .inl (cI, 480, .inl (nA bn))), (eo, .inl (cG, 8, .inr (.inr (.inr (.inr (fun i => if i < 8 then some (ea i) else none)))))), ((ea 0), .inl (cI, 480, .inl (nA (ed 0)))), ((ea 1), .inl (cI, 480, .inl (nA bn))), ((ea 2), .inl (cI, 480, .inl (nA (ed 2)))), ((ea 3), .inl (cI, 480, .inl (nA (ed 3)))), ((ea 4), .inl (cI, 480, .inl (nA (ed 4)))), ((ea 5), .inl (cI, 480, .inl (nA (ed 5)))), ((ea 6), .inl (cI, 480, .inl (nA (ed 6)))), ((ea 7), .inl (cI, 480, .inl (nA (ed 7))))]) S hK hP hD hS 0 rfl p_SP_67 rfl rfl (Nat.le_of_ble_eq_true rfl) rfl d_SP_addEdition_46 (fun H locs hP hD hS => ?_)
    exact ga_wv () S hrt hlk hP hD hS trivial d_SP_addEdition_49
  · refine lv_aload_n hx hb d_SP_addEdition_0 rfl (lv_at hl 0 rfl) ?_
    refine lv_aload_n hx hb d_SP_addEdition_1 rfl (lv_at hl 0 rfl) ?_
    refine ga_get S hK hP 0 rfl f_SP_12 rfl d_SP_addEdition_2 ?_
    refine lv_aload_n hx hb d_SP_addEdition_5 rfl (lv_at hl 0 rfl) ?_
    refine ga_get S hK hP 0 rfl f_SP_38 rfl d_SP_addEdition_6 ?_
    refine ga_jq (wr := [(spo, .inr (5, [.ref re, .ref fa, .ref shh, .ref eo, .int (nI 2), .ref pl])), (dr, .inr (1, [.ref d1, .ref d2, .ref d3, .ref d4, .ref d5, .ref d6, .ref d7, .ref d8, .ref d9, .int (nI drg)])), (d1, .inl (cI, 480, .inl (nA bn))), (eo, .inl (cG, 8, .inr (.inr (.inr (.inr (fun i => if i < 8 then some (ea i) else none)))))), ((ea 0), .inl (cI, 480, .inl (nA (ed 0)))), ((ea 1), .inl (cI, 480, .inl (nA (ed 1)))), ((ea 2), .inl (cI, 480, .inl (nA (ed 2)))), ((ea 3), .inl (cI, 480, .inl (nA (ed 3)))), ((ea 4), .inl (cI, 480, .inl (nA (ed 4)))), ((ea 5), .inl (cI, 480, .inl (nA (ed 5)))), ((ea 6), .inl (cI, 480, .inl (nA (ed 6)))), ((ea 7), .inl (cI, 480, .inl (nA (ed 7))))]) (ga_runV (As := [.ref pl]) (rest := [.ref spo]) S hK s_SP_130 (gc_Re_giveDraftFor l D cI cZ cC cG re te dr pos pl tr _) (ga_prV (y := y_Re_giveDraftFor) (q0 := 1) hK hP hD [1] rfl (by decide) rfl rfl) rfl hl.1 rfl (Nat.le_of_ble_eq_true rfl) ⟨Nat.le_of_ble_eq_true rfl, Nat.le_of_ble_eq_true rfl⟩ ⟨Nat.le_of_ble_eq_true rfl, Nat.le_of_ble_eq_true rfl⟩ d_SP_addEdition_9) hP hD hS hA [1] [0, 2, 3, 4, 5, 6, 7, 8, 9, 10, 11, 12] rfl rfl (by decide) (by decide) [0, 12, 1, 2, 3, 4, 5, 6, 7, 8, 9, 10, 11] (fun _ => [(spo, .inr (5, [.ref re, .ref fa, .ref shh, .ref eo, .int (nI 2), .ref pl])), (re, .inr (2, [.ref te, .ref pl, .int (nI pos), .int (tI tr)])), (dr, .inr (1, [.ref d1, .ref d2, .ref d3, .ref d4, .ref d5, .ref d6, .ref d7, .ref d8, .ref d9, .int (nI drg)])), (d1, .inl (cI, 480, .inl (nA bn))), (eo, .inl (cG, 8, .inr (.inr (.inr (.inr (fun i => if i < 8 then some (ea i) else none)))))), ((ea 0), .inl (cI, 480, .inl (nA (ed 0)))), ((ea 1), .inl (cI, 480, .inl (nA (ed 1)))), ((ea 2), .inl (cI, 480, .inl (nA (ed 2)))), ((ea 3), .inl (cI, 480, .inl (nA (ed 3)))), ((ea 4), .inl (cI, 480, .inl (nA (ed 4)))), ((ea 5), .inl (cI, 480, .inl (nA (ed 5)))), ((ea 6), .inl (cI, 480, .inl (nA (ed 6)))), ((ea 7), .inl (cI, 480, .inl (nA (ed 7))))]) (fun _ => rfl) (by decide) (fun x H locs hp9 hP hD hS => ?_)
    refine ga_put (ws' := [(spo, .inr (5, [.ref re, .ref fa, .ref shh, .ref eo, .int (nI 2), .ref dr])), (re, .inr (2, [.ref te, .ref pl, .int (nI pos), .int (tI tr)])), (dr, .inr (1, [.ref d1, .ref d2, .ref d3, .ref d4, .ref d5, .ref d6, .ref d7, .ref d8, .ref d9, .int (nI drg)])), (d1, .inl (cI, 480, .inl (nA bn))), (eo, .inl (cG, 8, .inr (.inr (.inr (.inr (fun i => if i < 8 then some (ea i) else none)))))), ((ea 0), .inl (cI, 480, .inl (nA (ed 0)))), ((ea 1), .inl (cI, 480, .inl (nA (ed 1)))), ((ea 2), .inl (cI, 480, .inl (nA (ed 2)))), ((ea 3), .inl (cI, 480, .inl (nA (ed 3)))), ((ea 4), .inl (cI, 480, .inl (nA (ed 4)))), ((ea 5), .inl (cI, 480, .inl (nA (ed 5)))), ((ea 6), .inl (cI, 480, .inl (nA (ed 6)))), ((ea 7), .inl (cI, 480, .inl (nA (ed 7))))]) S hK hP hD hS 0 rfl p_SP_38 rfl rfl (Nat.le_of_ble_eq_true rfl) rfl d_SP_addEdition_12 (fun H locs hP hD hS => ?_)
    refine lv_aload_n hx hb d_SP_addEdition_15 rfl (lv_at hl 0 rfl) ?_
    refine ga_get S hK hP 0 rfl f_SP_38 rfl d_SP_addEdition_16 ?_
    refine ga_get S hK hP 2 rfl f_SP_92 rfl d_SP_addEdition_19 ?_
    refine lv_iconst (v := 0) hx hb d_SP_addEdition_22 (by decide) ?_
    refine lv_aload_n hx hb d_SP_addEdition_23 rfl (lv_at hl 0 rfl) ?_
    refine ga_get S hK hP 0 rfl f_SP_32 rfl d_SP_addEdition_24 ?_
    refine lv_aload_n hx hb d_SP_addEdition_27 rfl (lv_at hl 0 rfl) ?_
    refine ga_get S hK hP 0 rfl f_SP_67 rfl d_SP_addEdition_28 ?_
    refine ga_aaN S hK hP 4 3 rfl rfl 2 (by decide) (by decide) (a1 := ea 2) rfl d_SP_addEdition_31 ?_
    refine lv_iconst (v := 0) hx hb d_SP_addEdition_32 (by decide) ?_
    refine lv_sipush (v := 480) hx hb d_SP_addEdition_33 (by decide) ?_
    refine ga_copy (ws' := [(spo, .inr (5, [.ref re, .ref fa, .ref shh, .ref eo, .int (nI 2), .ref dr])), (re, .inr (2, [.ref te, .ref pl, .int (nI pos), .int (tI tr)])), (dr, .inr (1, [.ref d1, .ref d2, .ref d3, .ref d4, .ref d5, .ref d6, .ref d7, .ref d8, .ref d9, .int (nI drg)])), (d1, .inl (cI, 480, .inl (nA bn))), (eo, .inl (cG, 8, .inr (.inr (.inr (.inr (fun i => if i < 8 then some (ea i) else none)))))), ((ea 0), .inl (cI, 480, .inl (nA (ed 0)))), ((ea 1), .inl (cI, 480, .inl (nA (ed 1)))), ((ea 2), .inl (cI, 480, .inl (nA bn))), ((ea 3), .inl (cI, 480, .inl (nA (ed 3)))), ((ea 4), .inl (cI, 480, .inl (nA (ed 4)))), ((ea 5), .inl (cI, 480, .inl (nA (ed 5)))), ((ea 6), .inl (cI, 480, .inl (nA (ed 6)))), ((ea 7), .inl (cI, 480, .inl (nA (ed 7))))]) S hl.1 sy_SP_134 hK hP hD hS 3 7 rfl rfl rfl (Nat.le_of_ble_eq_true rfl) (by decide +kernel) rfl d_SP_addEdition_36 (fun H locs hP hD hS => ?_)
    refine lv_aload_n hx hb d_SP_addEdition_39 rfl (lv_at hl 0 rfl) ?_
    refine lv_dup hx hb d_SP_addEdition_40 rfl ?_
    refine ga_get S hK hP 0 rfl f_SP_67 rfl d_SP_addEdition_41 ?_
    refine lv_iconst (v := 1) hx hb d_SP_addEdition_44 (by decide) ?_
    refine lv_iadd hx hb d_SP_addEdition_45 ?_
    refine ga_top (nI (2 + 1)) (nI_add 2 1) ?_
    refine ga_put (ws' := [(spo, .inr (5, [.ref re, .ref fa, .ref shh, .ref eo, .int (nI (2 + 1)), .ref dr])), (re, .inr (2, [.ref te, .ref pl, .int (nI pos), .int (tI tr)])), (dr, .inr (1, [.ref d1, .ref d2, .ref d3, .ref d4, .ref d5, .ref d6, .ref d7, .ref d8, .ref d9, .int (nI drg)])), (d1, .inl (cI, 480, .inl (nA bn))), (eo, .inl (cG, 8, .inr (.inr (.inr (.inr (fun i => if i < 8 then some (ea i) else none)))))), ((ea 0), .inl (cI, 480, .inl (nA (ed 0)))), ((ea 1), .inl (cI, 480, .inl (nA (ed 1)))), ((ea 2), .inl (cI, 480, .inl (nA bn))), ((ea 3), .inl (cI, 480, .inl (nA (ed 3)))), ((ea 4), .inl (cI, 480, .inl (nA (ed 4)))), ((ea 5), .inl (cI, 480, .inl (nA (ed 5)))), ((ea 6), .inl (cI, 480, .inl (nA (ed 6)))), ((ea 7), .inl (cI, 480, .inl (nA (ed 7))))]) S hK hP hD hS 0 rfl p_SP_67 rfl rfl (Nat.le_of_ble_eq_true rfl) rfl d_SP_addEdition_46 (fun H locs hP hD hS => ?_)
    exact ga_wv () S hrt hlk hP hD hS trivial d_SP_addEdition_49
  · refine lv_aload_n hx hb d_SP_addEdition_0 rfl (lv_at hl 0 rfl) ?_
    refine lv_aload_n hx hb d_SP_addEdition_1 rfl (lv_at hl 0 rfl) ?_
    refine ga_get S hK hP 0 rfl f_SP_12 rfl d_SP_addEdition_2 ?_
    refine lv_aload_n hx hb d_SP_addEdition_5 rfl (lv_at hl 0 rfl) ?_
    refine ga_get S hK hP 0 rfl f_SP_38 rfl d_SP_addEdition_6 ?_
    refine ga_jq (wr := [(spo, .inr (5, [.ref re, .ref fa, .ref shh, .ref eo, .int (nI 3), .ref pl])), (dr, .inr (1, [.ref d1, .ref d2, .ref d3, .ref d4, .ref d5, .ref d6, .ref d7, .ref d8, .ref d9, .int (nI drg)])), (d1, .inl (cI, 480, .inl (nA bn))), (eo, .inl (cG, 8, .inr (.inr (.inr (.inr (fun i => if i < 8 then some (ea i) else none)))))), ((ea 0), .inl (cI, 480, .inl (nA (ed 0)))), ((ea 1), .inl (cI, 480, .inl (nA (ed 1)))), ((ea 2), .inl (cI, 480, .inl (nA (ed 2)))), ((ea 3), .inl (cI, 480, .inl (nA (ed 3)))), ((ea 4), .inl (cI, 480, .inl (nA (ed 4)))), ((ea 5), .inl (cI, 480, .inl (nA (ed 5)))), ((ea 6), .inl (cI, 480, .inl (nA (ed 6)))), ((ea 7), .inl (cI, 480, .inl (nA (ed 7))))]) (ga_runV (As := [.ref pl]) (rest := [.ref spo]) S hK s_SP_130 (gc_Re_giveDraftFor l D cI cZ cC cG re te dr pos pl tr _) (ga_prV (y := y_Re_giveDraftFor) (q0 := 1) hK hP hD [1] rfl (by decide) rfl rfl) rfl hl.1 rfl (Nat.le_of_ble_eq_true rfl) ⟨Nat.le_of_ble_eq_true rfl, Nat.le_of_ble_eq_true rfl⟩ ⟨Nat.le_of_ble_eq_true rfl, Nat.le_of_ble_eq_true rfl⟩ d_SP_addEdition_9) hP hD hS hA [1] [0, 2, 3, 4, 5, 6, 7, 8, 9, 10, 11, 12] rfl rfl (by decide) (by decide) [0, 12, 1, 2, 3, 4, 5, 6, 7, 8, 9, 10, 11] (fun _ => [(spo, .inr (5, [.ref re, .ref fa, .ref shh, .ref eo, .int (nI 3), .ref pl])), (re, .inr (2, [.ref te, .ref pl, .int (nI pos), .int (tI tr)])), (dr, .inr (1, [.ref d1, .ref d2, .ref d3, .ref d4, .ref d5, .ref d6, .ref d7, .ref d8, .ref d9, .int (nI drg)])), (d1, .inl (cI, 480, .inl (nA bn))), (eo, .inl (cG, 8, .inr (.inr (.inr (.inr (fun i => if i < 8 then some (ea i) else none)))))), ((ea 0), .inl (cI, 480, .inl (nA (ed 0)))), ((ea 1), .inl (cI, 480, .inl (nA (ed 1)))), ((ea 2), .inl (cI, 480, .inl (nA (ed 2)))), ((ea 3), .inl (cI, 480, .inl (nA (ed 3)))), ((ea 4), .inl (cI, 480, .inl (nA (ed 4)))), ((ea 5), .inl (cI, 480, .inl (nA (ed 5)))), ((ea 6), .inl (cI, 480, .inl (nA (ed 6)))), ((ea 7), .inl (cI, 480, .inl (nA (ed 7))))]) (fun _ => rfl) (by decide) (fun x H locs hp9 hP hD hS => ?_)
    refine ga_put (ws' := [(spo, .inr (5, [.ref re, .ref fa, .ref shh, .ref eo, .int (nI 3), .ref dr])), (re, .inr (2, [.ref te, .ref pl, .int (nI pos), .int (tI tr)])), (dr, .inr (1, [.ref d1, .ref d2, .ref d3, .ref d4, .ref d5, .ref d6, .ref d7, .ref d8, .ref d9, .int (nI drg)])), (d1, .inl (cI, 480, .inl (nA bn))), (eo, .inl (cG, 8, .inr (.inr (.inr (.inr (fun i => if i < 8 then some (ea i) else none)))))), ((ea 0), .inl (cI, 480, .inl (nA (ed 0)))), ((ea 1), .inl (cI, 480, .inl (nA (ed 1)))), ((ea 2), .inl (cI, 480, .inl (nA (ed 2)))), ((ea 3), .inl (cI, 480, .inl (nA (ed 3)))), ((ea 4), .inl (cI, 480, .inl (nA (ed 4)))), ((ea 5), .inl (cI, 480, .inl (nA (ed 5)))), ((ea 6), .inl (cI, 480, .inl (nA (ed 6)))), ((ea 7), .inl (cI, 480, .inl (nA (ed 7))))]) S hK hP hD hS 0 rfl p_SP_38 rfl rfl (Nat.le_of_ble_eq_true rfl) rfl d_SP_addEdition_12 (fun H locs hP hD hS => ?_)
    refine lv_aload_n hx hb d_SP_addEdition_15 rfl (lv_at hl 0 rfl) ?_
    refine ga_get S hK hP 0 rfl f_SP_38 rfl d_SP_addEdition_16 ?_
    refine ga_get S hK hP 2 rfl f_SP_92 rfl d_SP_addEdition_19 ?_
    refine lv_iconst (v := 0) hx hb d_SP_addEdition_22 (by decide) ?_
    refine lv_aload_n hx hb d_SP_addEdition_23 rfl (lv_at hl 0 rfl) ?_
    refine ga_get S hK hP 0 rfl f_SP_32 rfl d_SP_addEdition_24 ?_
    refine lv_aload_n hx hb d_SP_addEdition_27 rfl (lv_at hl 0 rfl) ?_
    refine ga_get S hK hP 0 rfl f_SP_67 rfl d_SP_addEdition_28 ?_
    refine ga_aaN S hK hP 4 3 rfl rfl 3 (by decide) (by decide) (a1 := ea 3) rfl d_SP_addEdition_31 ?_
    refine lv_iconst (v := 0) hx hb d_SP_addEdition_32 (by decide) ?_
    refine lv_sipush (v := 480) hx hb d_SP_addEdition_33 (by decide) ?_
    refine ga_copy (ws' := [(spo, .inr (5, [.ref re, .ref fa, .ref shh, .ref eo, .int (nI 3), .ref dr])), (re, .inr (2, [.ref te, .ref pl, .int (nI pos), .int (tI tr)])), (dr, .inr (1, [.ref d1, .ref d2, .ref d3, .ref d4, .ref d5, .ref d6, .ref d7, .ref d8, .ref d9, .int (nI drg)])), (d1, .inl (cI, 480, .inl (nA bn))), (eo, .inl (cG, 8, .inr (.inr (.inr (.inr (fun i => if i < 8 then some (ea i) else none)))))), ((ea 0), .inl (cI, 480, .inl (nA (ed 0)))), ((ea 1), .inl (cI, 480, .inl (nA (ed 1)))), ((ea 2), .inl (cI, 480, .inl (nA (ed 2)))), ((ea 3), .inl (cI, 480, .inl (nA bn))), ((ea 4), .inl (cI, 480, .inl (nA (ed 4)))), ((ea 5), .inl (cI, 480, .inl (nA (ed 5)))), ((ea 6), .inl (cI, 480, .inl (nA (ed 6)))), ((ea 7), .inl (cI, 480, .inl (nA (ed 7))))]) S hl.1 sy_SP_134 hK hP hD hS 3 8 rfl rfl rfl (Nat.le_of_ble_eq_true rfl) (by decide +kernel) rfl d_SP_addEdition_36 (fun H locs hP hD hS => ?_)
    refine lv_aload_n hx hb d_SP_addEdition_39 rfl (lv_at hl 0 rfl) ?_
    refine lv_dup hx hb d_SP_addEdition_40 rfl ?_
    refine ga_get S hK hP 0 rfl f_SP_67 rfl d_SP_addEdition_41 ?_
    refine lv_iconst (v := 1) hx hb d_SP_addEdition_44 (by decide) ?_
    refine lv_iadd hx hb d_SP_addEdition_45 ?_
    refine ga_top (nI (3 + 1)) (nI_add 3 1) ?_
    refine ga_put (ws' := [(spo, .inr (5, [.ref re, .ref fa, .ref shh, .ref eo, .int (nI (3 + 1)), .ref dr])), (re, .inr (2, [.ref te, .ref pl, .int (nI pos), .int (tI tr)])), (dr, .inr (1, [.ref d1, .ref d2, .ref d3, .ref d4, .ref d5, .ref d6, .ref d7, .ref d8, .ref d9, .int (nI drg)])), (d1, .inl (cI, 480, .inl (nA bn))), (eo, .inl (cG, 8, .inr (.inr (.inr (.inr (fun i => if i < 8 then some (ea i) else none)))))), ((ea 0), .inl (cI, 480, .inl (nA (ed 0)))), ((ea 1), .inl (cI, 480, .inl (nA (ed 1)))), ((ea 2), .inl (cI, 480, .inl (nA (ed 2)))), ((ea 3), .inl (cI, 480, .inl (nA bn))), ((ea 4), .inl (cI, 480, .inl (nA (ed 4)))), ((ea 5), .inl (cI, 480, .inl (nA (ed 5)))), ((ea 6), .inl (cI, 480, .inl (nA (ed 6)))), ((ea 7), .inl (cI, 480, .inl (nA (ed 7))))]) S hK hP hD hS 0 rfl p_SP_67 rfl rfl (Nat.le_of_ble_eq_true rfl) rfl d_SP_addEdition_46 (fun H locs hP hD hS => ?_)
    exact ga_wv () S hrt hlk hP hD hS trivial d_SP_addEdition_49
  · refine lv_aload_n hx hb d_SP_addEdition_0 rfl (lv_at hl 0 rfl) ?_
    refine lv_aload_n hx hb d_SP_addEdition_1 rfl (lv_at hl 0 rfl) ?_
    refine ga_get S hK hP 0 rfl f_SP_12 rfl d_SP_addEdition_2 ?_
    refine lv_aload_n hx hb d_SP_addEdition_5 rfl (lv_at hl 0 rfl) ?_
    refine ga_get S hK hP 0 rfl f_SP_38 rfl d_SP_addEdition_6 ?_
    refine ga_jq (wr := [(spo, .inr (5, [.ref re, .ref fa, .ref shh, .ref eo, .int (nI 4), .ref pl])), (dr, .inr (1, [.ref d1, .ref d2, .ref d3, .ref d4, .ref d5, .ref d6, .ref d7, .ref d8, .ref d9, .int (nI drg)])), (d1, .inl (cI, 480, .inl (nA bn))), (eo, .inl (cG, 8, .inr (.inr (.inr (.inr (fun i => if i < 8 then some (ea i) else none)))))), ((ea 0), .inl (cI, 480, .inl (nA (ed 0)))), ((ea 1), .inl (cI, 480, .inl (nA (ed 1)))), ((ea 2), .inl (cI, 480, .inl (nA (ed 2)))), ((ea 3), .inl (cI, 480, .inl (nA (ed 3)))), ((ea 4), .inl (cI, 480, .inl (nA (ed 4)))), ((ea 5), .inl (cI, 480, .inl (nA (ed 5)))), ((ea 6), .inl (cI, 480, .inl (nA (ed 6)))), ((ea 7), .inl (cI, 480, .inl (nA (ed 7))))]) (ga_runV (As := [.ref pl]) (rest := [.ref spo]) S hK s_SP_130 (gc_Re_giveDraftFor l D cI cZ cC cG re te dr pos pl tr _) (ga_prV (y := y_Re_giveDraftFor) (q0 := 1) hK hP hD [1] rfl (by decide) rfl rfl) rfl hl.1 rfl (Nat.le_of_ble_eq_true rfl) ⟨Nat.le_of_ble_eq_true rfl, Nat.le_of_ble_eq_true rfl⟩ ⟨Nat.le_of_ble_eq_true rfl, Nat.le_of_ble_eq_true rfl⟩ d_SP_addEdition_9) hP hD hS hA [1] [0, 2, 3, 4, 5, 6, 7, 8, 9, 10, 11, 12] rfl rfl (by decide) (by decide) [0, 12, 1, 2, 3, 4, 5, 6, 7, 8, 9, 10, 11] (fun _ => [(spo, .inr (5, [.ref re, .ref fa, .ref shh, .ref eo, .int (nI 4), .ref pl])), (re, .inr (2, [.ref te, .ref pl, .int (nI pos), .int (tI tr)])), (dr, .inr (1, [.ref d1, .ref d2, .ref d3, .ref d4, .ref d5, .ref d6, .ref d7, .ref d8, .ref d9, .int (nI drg)])), (d1, .inl (cI, 480, .inl (nA bn))), (eo, .inl (cG, 8, .inr (.inr (.inr (.inr (fun i => if i < 8 then some (ea i) else none)))))), ((ea 0), .inl (cI, 480, .inl (nA (ed 0)))), ((ea 1), .inl (cI, 480, .inl (nA (ed 1)))), ((ea 2), .inl (cI, 480, .inl (nA (ed 2)))), ((ea 3), .inl (cI, 480, .inl (nA (ed 3)))), ((ea 4), .inl (cI, 480, .inl (nA (ed 4)))), ((ea 5), .inl (cI, 480, .inl (nA (ed 5)))), ((ea 6), .inl (cI, 480, .inl (nA (ed 6)))), ((ea 7), .inl (cI, 480, .inl (nA (ed 7))))]) (fun _ => rfl) (by decide) (fun x H locs hp9 hP hD hS => ?_)
    refine ga_put (ws' := [(spo, .inr (5, [.ref re, .ref fa, .ref shh, .ref eo, .int (nI 4), .ref dr])), (re, .inr (2, [.ref te, .ref pl, .int (nI pos), .int (tI tr)])), (dr, .inr (1, [.ref d1, .ref d2, .ref d3, .ref d4, .ref d5, .ref d6, .ref d7, .ref d8, .ref d9, .int (nI drg)])), (d1, .inl (cI, 480, .inl (nA bn))), (eo, .inl (cG, 8, .inr (.inr (.inr (.inr (fun i => if i < 8 then some (ea i) else none)))))), ((ea 0), .inl (cI, 480, .inl (nA (ed 0)))), ((ea 1), .inl (cI, 480, .inl (nA (ed 1)))), ((ea 2), .inl (cI, 480, .inl (nA (ed 2)))), ((ea 3), .inl (cI, 480, .inl (nA (ed 3)))), ((ea 4), .inl (cI, 480, .inl (nA (ed 4)))), ((ea 5), .inl (cI, 480, .inl (nA (ed 5)))), ((ea 6), .inl (cI, 480, .inl (nA (ed 6)))), ((ea 7), .inl (cI, 480, .inl (nA (ed 7))))]) S hK hP hD hS 0 rfl p_SP_38 rfl rfl (Nat.le_of_ble_eq_true rfl) rfl d_SP_addEdition_12 (fun H locs hP hD hS => ?_)
    refine lv_aload_n hx hb d_SP_addEdition_15 rfl (lv_at hl 0 rfl) ?_
    refine ga_get S hK hP 0 rfl f_SP_38 rfl d_SP_addEdition_16 ?_
    refine ga_get S hK hP 2 rfl f_SP_92 rfl d_SP_addEdition_19 ?_
    refine lv_iconst (v := 0) hx hb d_SP_addEdition_22 (by decide) ?_
    refine lv_aload_n hx hb d_SP_addEdition_23 rfl (lv_at hl 0 rfl) ?_
    refine ga_get S hK hP 0 rfl f_SP_32 rfl d_SP_addEdition_24 ?_
    refine lv_aload_n hx hb d_SP_addEdition_27 rfl (lv_at hl 0 rfl) ?_
    refine ga_get S hK hP 0 rfl f_SP_67 rfl d_SP_addEdition_28 ?_
    refine ga_aaN S hK hP 4 3 rfl rfl 4 (by decide) (by decide) (a1 := ea 4) rfl d_SP_addEdition_31 ?_
    refine lv_iconst (v := 0) hx hb d_SP_addEdition_32 (by decide) ?_
    refine lv_sipush (v := 480) hx hb d_SP_addEdition_33 (by decide) ?_
    refine ga_copy (ws' := [(spo, .inr (5, [.ref re, .ref fa, .ref shh, .ref eo, .int (nI 4), .ref dr])), (re, .inr (2, [.ref te, .ref pl, .int (nI pos), .int (tI tr)])), (dr, .inr (1, [.ref d1, .ref d2, .ref d3, .ref d4, .ref d5, .ref d6, .ref d7, .ref d8, .ref d9, .int (nI drg)])), (d1, .inl (cI, 480, .inl (nA bn))), (eo, .inl (cG, 8, .inr (.inr (.inr (.inr (fun i => if i < 8 then some (ea i) else none)))))), ((ea 0), .inl (cI, 480, .inl (nA (ed 0)))), ((ea 1), .inl (cI, 480, .inl (nA (ed 1)))), ((ea 2), .inl (cI, 480, .inl (nA (ed 2)))), ((ea 3), .inl (cI, 480, .inl (nA (ed 3)))), ((ea 4), .inl (cI, 480, .inl (nA bn))), ((ea 5), .inl (cI, 480, .inl (nA (ed 5)))), ((ea 6), .inl (cI, 480, .inl (nA (ed 6)))), ((ea 7), .inl (cI, 480, .inl (nA (ed 7))))]) S hl.1 sy_SP_134 hK hP hD hS 3 9 rfl rfl rfl (Nat.le_of_ble_eq_true rfl) (by decide +kernel) rfl d_SP_addEdition_36 (fun H locs hP hD hS => ?_)
    refine lv_aload_n hx hb d_SP_addEdition_39 rfl (lv_at hl 0 rfl) ?_
    refine lv_dup hx hb d_SP_addEdition_40 rfl ?_
    refine ga_get S hK hP 0 rfl f_SP_67 rfl d_SP_addEdition_41 ?_
    refine lv_iconst (v := 1) hx hb d_SP_addEdition_44 (by decide) ?_
    refine lv_iadd hx hb d_SP_addEdition_45 ?_
    refine ga_top (nI (4 + 1)) (nI_add 4 1) ?_
    refine ga_put (ws' := [(spo, .inr (5, [.ref re, .ref fa, .ref shh, .ref eo, .int (nI (4 + 1)), .ref dr])), (re, .inr (2, [.ref te, .ref pl, .int (nI pos), .int (tI tr)])), (dr, .inr (1, [.ref d1, .ref d2, .ref d3, .ref d4, .ref d5, .ref d6, .ref d7, .ref d8, .ref d9, .int (nI drg)])), (d1, .inl (cI, 480, .inl (nA bn))), (eo, .inl (cG, 8, .inr (.inr (.inr (.inr (fun i => if i < 8 then some (ea i) else none)))))), ((ea 0), .inl (cI, 480, .inl (nA (ed 0)))), ((ea 1), .inl (cI, 480, .inl (nA (ed 1)))), ((ea 2), .inl (cI, 480, .inl (nA (ed 2)))), ((ea 3), .inl (cI, 480, .inl (nA (ed 3)))), ((ea 4), .inl (cI, 480, .inl (nA bn))), ((ea 5), .inl (cI, 480, .inl (nA (ed 5)))), ((ea 6), .inl (cI, 480, .inl (nA (ed 6)))), ((ea 7), .inl (cI, 480, .inl (nA (ed 7))))]) S hK hP hD hS 0 rfl p_SP_67 rfl rfl (Nat.le_of_ble_eq_true rfl) rfl d_SP_addEdition_46 (fun H locs hP hD hS => ?_)
    exact ga_wv () S hrt hlk hP hD hS trivial d_SP_addEdition_49
  · refine lv_aload_n hx hb d_SP_addEdition_0 rfl (lv_at hl 0 rfl) ?_
    refine lv_aload_n hx hb d_SP_addEdition_1 rfl (lv_at hl 0 rfl) ?_
    refine ga_get S hK hP 0 rfl f_SP_12 rfl d_SP_addEdition_2 ?_
    refine lv_aload_n hx hb d_SP_addEdition_5 rfl (lv_at hl 0 rfl) ?_
    refine ga_get S hK hP 0 rfl f_SP_38 rfl d_SP_addEdition_6 ?_
    refine ga_jq (wr := [(spo, .inr (5, [.ref re, .ref fa, .ref shh, .ref eo, .int (nI 5), .ref pl])), (dr, .inr (1, [.ref d1, .ref d2, .ref d3, .ref d4, .ref d5, .ref d6, .ref d7, .ref d8, .ref d9, .int (nI drg)])), (d1, .inl (cI, 480, .inl (nA bn))), (eo, .inl (cG, 8, .inr (.inr (.inr (.inr (fun i => if i < 8 then some (ea i) else none)))))), ((ea 0), .inl (cI, 480, .inl (nA (ed 0)))), ((ea 1), .inl (cI, 480, .inl (nA (ed 1)))), ((ea 2), .inl (cI, 480, .inl (nA (ed 2)))), ((ea 3), .inl (cI, 480, .inl (nA (ed 3)))), ((ea 4), .inl (cI, 480, .inl (nA (ed 4)))), ((ea 5), .inl (cI, 480, .inl (nA (ed 5)))), ((ea 6), .inl (cI, 480, .inl (nA (ed 6)))), ((ea 7), .inl (cI, 480, .inl (nA (ed 7))))]) (ga_runV (As := [.ref pl]) (rest := [.ref spo]) S hK s_SP_130 (gc_Re_giveDraftFor l D cI cZ cC cG re te dr pos pl tr _) (ga_prV (y := y_Re_giveDraftFor) (q0 := 1) hK hP hD [1] rfl (by decide) rfl rfl) rfl hl.1 rfl (Nat.le_of_ble_eq_true rfl) ⟨Nat.le_of_ble_eq_true rfl, Nat.le_of_ble_eq_true rfl⟩ ⟨Nat.le_of_ble_eq_true rfl, Nat.le_of_ble_eq_true rfl⟩ d_SP_addEdition_9) hP hD hS hA [1] [0, 2, 3, 4, 5, 6, 7, 8, 9, 10, 11, 12] rfl rfl (by decide) (by decide) [0, 12, 1, 2, 3, 4, 5, 6, 7, 8, 9, 10, 11] (fun _ => [(spo, .inr (5, [.ref re, .ref fa, .ref shh, .ref eo, .int (nI 5), .ref pl])), (re, .inr (2, [.ref te, .ref pl, .int (nI pos), .int (tI tr)])), (dr, .inr (1, [.ref d1, .ref d2, .ref d3, .ref d4, .ref d5, .ref d6, .ref d7, .ref d8, .ref d9, .int (nI drg)])), (d1, .inl (cI, 480, .inl (nA bn))), (eo, .inl (cG, 8, .inr (.inr (.inr (.inr (fun i => if i < 8 then some (ea i) else none)))))), ((ea 0), .inl (cI, 480, .inl (nA (ed 0)))), ((ea 1), .inl (cI, 480, .inl (nA (ed 1)))), ((ea 2), .inl (cI, 480, .inl (nA (ed 2)))), ((ea 3), .inl (cI, 480, .inl (nA (ed 3)))), ((ea 4), .inl (cI, 480, .inl (nA (ed 4)))), ((ea 5), .inl (cI, 480, .inl (nA (ed 5)))), ((ea 6), .inl (cI, 480, .inl (nA (ed 6)))), ((ea 7), .inl (cI, 480, .inl (nA (ed 7))))]) (fun _ => rfl) (by decide) (fun x H locs hp9 hP hD hS => ?_)
    refine ga_put (ws' := [(spo, .inr (5, [.ref re, .ref fa, .ref shh, .ref eo, .int (nI 5), .ref dr])), (re, .inr (2, [.ref te, .ref pl, .int (nI pos), .int (tI tr)])), (dr, .inr (1, [.ref d1, .ref d2, .ref d3, .ref d4, .ref d5, .ref d6, .ref d7, .ref d8, .ref d9, .int (nI drg)])), (d1, .inl (cI, 480, .inl (nA bn))), (eo, .inl (cG, 8, .inr (.inr (.inr (.inr (fun i => if i < 8 then some (ea i) else none)))))), ((ea 0), .inl (cI, 480, .inl (nA (ed 0)))), ((ea 1), .inl (cI, 480, .inl (nA (ed 1)))), ((ea 2), .inl (cI, 480, .inl (nA (ed 2)))), ((ea 3), .inl (cI, 480, .inl (nA (ed 3)))), ((ea 4), .inl (cI, 480, .inl (nA (ed 4)))), ((ea 5), .inl (cI, 480, .inl (nA (ed 5)))), ((ea 6), .inl (cI, 480, .inl (nA (ed 6)))), ((ea 7), .inl (cI, 480, .inl (nA (ed 7))))]) S hK hP hD hS 0 rfl p_SP_38 rfl rfl (Nat.le_of_ble_eq_true rfl) rfl d_SP_addEdition_12 (fun H locs hP hD hS => ?_)
    refine lv_aload_n hx hb d_SP_addEdition_15 rfl (lv_at hl 0 rfl) ?_
    refine ga_get S hK hP 0 rfl f_SP_38 rfl d_SP_addEdition_16 ?_
    refine ga_get S hK hP 2 rfl f_SP_92 rfl d_SP_addEdition_19 ?_
    refine lv_iconst (v := 0) hx hb d_SP_addEdition_22 (by decide) ?_
    refine lv_aload_n hx hb d_SP_addEdition_23 rfl (lv_at hl 0 rfl) ?_
    refine ga_get S hK hP 0 rfl f_SP_32 rfl d_SP_addEdition_24 ?_
    refine lv_aload_n hx hb d_SP_addEdition_27 rfl (lv_at hl 0 rfl) ?_
    refine ga_get S hK hP 0 rfl f_SP_67 rfl d_SP_addEdition_28 ?_
    refine ga_aaN S hK hP 4 3 rfl rfl 5 (by decide) (by decide) (a1 := ea 5) rfl d_SP_addEdition_31 ?_
    refine lv_iconst (v := 0) hx hb d_SP_addEdition_32 (by decide) ?_
    refine lv_sipush (v := 480) hx hb d_SP_addEdition_33 (by decide) ?_
    refine ga_copy (ws' := [(spo, .inr (5, [.ref re, .ref fa, .ref shh, .ref eo, .int (nI 5), .ref dr])), (re, .inr (2, [.ref te, .ref pl, .int (nI pos), .int (tI tr)])), (dr, .inr (1, [.ref d1, .ref d2, .ref d3, .ref d4, .ref d5, .ref d6, .ref d7, .ref d8, .ref d9, .int (nI drg)])), (d1, .inl (cI, 480, .inl (nA bn))), (eo, .inl (cG, 8, .inr (.inr (.inr (.inr (fun i => if i < 8 then some (ea i) else none)))))), ((ea 0), .inl (cI, 480, .inl (nA (ed 0)))), ((ea 1), .inl (cI, 480, .inl (nA (ed 1)))), ((ea 2), .inl (cI, 480, .inl (nA (ed 2)))), ((ea 3), .inl (cI, 480, .inl (nA (ed 3)))), ((ea 4), .inl (cI, 480, .inl (nA (ed 4)))), ((ea 5), .inl (cI, 480, .inl (nA bn))), ((ea 6), .inl (cI, 480, .inl (nA (ed 6)))), ((ea 7), .inl (cI, 480, .inl (nA (ed 7))))]) S hl.1 sy_SP_134 hK hP hD hS 3 10 rfl rfl rfl (Nat.le_of_ble_eq_true rfl) (by decide +kernel) rfl d_SP_addEdition_36 (fun H locs hP hD hS => ?_)
    refine lv_aload_n hx hb d_SP_addEdition_39 rfl (lv_at hl 0 rfl) ?_
    refine lv_dup hx hb d_SP_addEdition_40 rfl ?_
    refine ga_get S hK hP 0 rfl f_SP_67 rfl d_SP_addEdition_41 ?_
    refine lv_iconst (v := 1) hx hb d_SP_addEdition_44 (by decide) ?_
    refine lv_iadd hx hb d_SP_addEdition_45 ?_
    refine ga_top (nI (5 + 1)) (nI_add 5 1) ?_
    refine ga_put (ws' := [(spo, .inr (5, [.ref re, .ref fa, .ref shh, .ref eo, .int (nI (5 + 1)), .ref dr])), (re, .inr (2, [.ref te, .ref pl, .int (nI pos), .int (tI tr)])), (dr, .inr (1, [.ref d1, .ref d2, .ref d3, .ref d4, .ref d5, .ref d6, .ref d7, .ref d8, .ref d9, .int (nI drg)])), (d1, .inl (cI, 480, .inl (nA bn))), (eo, .inl (cG, 8, .inr (.inr (.inr (.inr (fun i => if i < 8 then some (ea i) else none)))))), ((ea 0), .inl (cI, 480, .inl (nA (ed 0)))), ((ea 1), .inl (cI, 480, .inl (nA (ed 1)))), ((ea 2), .inl (cI, 480, .inl (nA (ed 2)))), ((ea 3), .inl (cI, 480, .inl (nA (ed 3)))), ((ea 4), .inl (cI, 480, .inl (nA (ed 4)))), ((ea 5), .inl (cI, 480, .inl (nA bn))), ((ea 6), .inl (cI, 480, .inl (nA (ed 6)))), ((ea 7), .inl (cI, 480, .inl (nA (ed 7))))]) S hK hP hD hS 0 rfl p_SP_67 rfl rfl (Nat.le_of_ble_eq_true rfl) rfl d_SP_addEdition_46 (fun H locs hP hD hS => ?_)
    exact ga_wv () S hrt hlk hP hD hS trivial d_SP_addEdition_49
  · refine lv_aload_n hx hb d_SP_addEdition_0 rfl (lv_at hl 0 rfl) ?_
    refine lv_aload_n hx hb d_SP_addEdition_1 rfl (lv_at hl 0 rfl) ?_
    refine ga_get S hK hP 0 rfl f_SP_12 rfl d_SP_addEdition_2 ?_
    refine lv_aload_n hx hb d_SP_addEdition_5 rfl (lv_at hl 0 rfl) ?_
    refine ga_get S hK hP 0 rfl f_SP_38 rfl d_SP_addEdition_6 ?_
    refine ga_jq (wr := [(spo, .inr (5, [.ref re, .ref fa, .ref shh, .ref eo, .int (nI 6), .ref pl])), (dr, .inr (1, [.ref d1, .ref d2, .ref d3, .ref d4, .ref d5, .ref d6, .ref d7, .ref d8, .ref d9, .int (nI drg)])), (d1, .inl (cI, 480, .inl (nA bn))), (eo, .inl (cG, 8, .inr (.inr (.inr (.inr (fun i => if i < 8 then some (ea i) else none)))))), ((ea 0), .inl (cI, 480, .inl (nA (ed 0)))), ((ea 1), .inl (cI, 480, .inl (nA (ed 1)))), ((ea 2), .inl (cI, 480, .inl (nA (ed 2)))), ((ea 3), .inl (cI, 480, .inl (nA (ed 3)))), ((ea 4), .inl (cI, 480, .inl (nA (ed 4)))), ((ea 5), .inl (cI, 480, .inl (nA (ed 5)))), ((ea 6), .inl (cI, 480, .inl (nA (ed 6)))), ((ea 7), .inl (cI, 480, .inl (nA (ed 7))))]) (ga_runV (As := [.ref pl]) (rest := [.ref spo]) S hK s_SP_130 (gc_Re_giveDraftFor l D cI cZ cC cG re te dr pos pl tr _) (ga_prV (y := y_Re_giveDraftFor) (q0 := 1) hK hP hD [1] rfl (by decide) rfl rfl) rfl hl.1 rfl (Nat.le_of_ble_eq_true rfl) ⟨Nat.le_of_ble_eq_true rfl, Nat.le_of_ble_eq_true rfl⟩ ⟨Nat.le_of_ble_eq_true rfl, Nat.le_of_ble_eq_true rfl⟩ d_SP_addEdition_9) hP hD hS hA [1] [0, 2, 3, 4, 5, 6, 7, 8, 9, 10, 11, 12] rfl rfl (by decide) (by decide) [0, 12, 1, 2, 3, 4, 5, 6, 7, 8, 9, 10, 11] (fun _ => [(spo, .inr (5, [.ref re, .ref fa, .ref shh, .ref eo, .int (nI 6), .ref pl])), (re, .inr (2, [.ref te, .ref pl, .int (nI pos), .int (tI tr)])), (dr, .inr (1, [.ref d1, .ref d2, .ref d3, .ref d4, .ref d5, .ref d6, .ref d7, .ref d8, .ref d9, .int (nI drg)])), (d1, .inl (cI, 480, .inl (nA bn))), (eo, .inl (cG, 8, .inr (.inr (.inr (.inr (fun i => if i < 8 then some (ea i) else none)))))), ((ea 0), .inl (cI, 480, .inl (nA (ed 0)))), ((ea 1), .inl (cI, 480, .inl (nA (ed 1)))), ((ea 2), .inl (cI, 480, .inl (nA (ed 2)))), ((ea 3), .inl (cI, 480, .inl (nA (ed 3)))), ((ea 4), .inl (cI, 480, .inl (nA (ed 4)))), ((ea 5), .inl (cI, 480, .inl (nA (ed 5)))), ((ea 6), .inl (cI, 480, .inl (nA (ed 6)))), ((ea 7), .inl (cI, 480, .inl (nA (ed 7))))]) (fun _ => rfl) (by decide) (fun x H locs hp9 hP hD hS => ?_)
    refine ga_put (ws' := [(spo, .inr (5, [.ref re, .ref fa, .ref shh, .ref eo, .int (nI 6), .ref dr])), (re, .inr (2, [.ref te, .ref pl, .int (nI pos), .int (tI tr)])), (dr, .inr (1, [.ref d1, .ref d2, .ref d3, .ref d4, .ref d5, .ref d6, .ref d7, .ref d8, .ref d9, .int (nI drg)])), (d1, .inl (cI, 480, .inl (nA bn))), (eo, .inl (cG, 8, .inr (.inr (.inr (.inr (fun i => if i < 8 then some (ea i) else none)))))), ((ea 0), .inl (cI, 480, .inl (nA (ed 0)))), ((ea 1), .inl (cI, 480, .inl (nA (ed 1)))), ((ea 2), .inl (cI, 480, .inl (nA (ed 2)))), ((ea 3), .inl (cI, 480, .inl (nA (ed 3)))), ((ea 4), .inl (cI, 480, .inl (nA (ed 4)))), ((ea 5), .inl (cI, 480, .inl (nA (ed 5)))), ((ea 6), .inl (cI, 480, .inl (nA (ed 6)))), ((ea 7), .inl (cI, 480, .inl (nA (ed 7))))]) S hK hP hD hS 0 rfl p_SP_38 rfl rfl (Nat.le_of_ble_eq_true rfl) rfl d_SP_addEdition_12 (fun H locs hP hD hS => ?_)
    refine lv_aload_n hx hb d_SP_addEdition_15 rfl (lv_at hl 0 rfl) ?_
    refine ga_get S hK hP 0 rfl f_SP_38 rfl d_SP_addEdition_16 ?_
    refine ga_get S hK hP 2 rfl f_SP_92 rfl d_SP_addEdition_19 ?_
    refine lv_iconst (v := 0) hx hb d_SP_addEdition_22 (by decide) ?_
    refine lv_aload_n hx hb d_SP_addEdition_23 rfl (lv_at hl 0 rfl) ?_
    refine ga_get S hK hP 0 rfl f_SP_32 rfl d_SP_addEdition_24 ?_
    refine lv_aload_n hx hb d_SP_addEdition_27 rfl (lv_at hl 0 rfl) ?_
    refine ga_get S hK hP 0 rfl f_SP_67 rfl d_SP_addEdition_28 ?_
    refine ga_aaN S hK hP 4 3 rfl rfl 6 (by decide) (by decide) (a1 := ea 6) rfl d_SP_addEdition_31 ?_
    refine lv_iconst (v := 0) hx hb d_SP_addEdition_32 (by decide) ?_
    refine lv_sipush (v := 480) hx hb d_SP_addEdition_33 (by decide) ?_
    refine ga_copy (ws' := [(spo, .inr (5, [.ref re, .ref fa, .ref shh, .ref eo, .int (nI 6), .ref dr])), (re, .inr (2, [.ref te, .ref pl, .int (nI pos), .int (tI tr)])), (dr, .inr (1, [.ref d1, .ref d2, .ref d3, .ref d4, .ref d5, .ref d6, .ref d7, .ref d8, .ref d9, .int (nI drg)])), (d1, .inl (cI, 480, .inl (nA bn))), (eo, .inl (cG, 8, .inr (.inr (.inr (.inr (fun i => if i < 8 then some (ea i) else none)))))), ((ea 0), .inl (cI, 480, .inl (nA (ed 0)))), ((ea 1), .inl (cI, 480, .inl (nA (ed 1)))), ((ea 2), .inl (cI, 480, .inl (nA (ed 2)))), ((ea 3), .inl (cI, 480, .inl (nA (ed 3)))), ((ea 4), .inl (cI, 480, .inl (nA (ed 4)))), ((ea 5), .inl (cI, 480, .inl (nA (ed 5)))), ((ea 6), .inl (cI, 480, .inl (nA bn))), ((ea 7), .inl (cI, 480, .inl (nA (ed 7))))]) S hl.1 sy_SP_134 hK hP hD hS 3 11 rfl rfl rfl (Nat.le_of_ble_eq_true rfl) (by decide +kernel) rfl d_SP_addEdition_36 (fun H locs hP hD hS => ?_)
    refine lv_aload_n hx hb d_SP_addEdition_39 rfl (lv_at hl 0 rfl) ?_
    refine lv_dup hx hb d_SP_addEdition_40 rfl ?_
    refine ga_get S hK hP 0 rfl f_SP_67 rfl d_SP_addEdition_41 ?_
    refine lv_iconst (v := 1) hx hb d_SP_addEdition_44 (by decide) ?_
    refine lv_iadd hx hb d_SP_addEdition_45 ?_
    refine ga_top (nI (6 + 1)) (nI_add 6 1) ?_
    refine ga_put (ws' := [(spo, .inr (5, [.ref re, .ref fa, .ref shh, .ref eo, .int (nI (6 + 1)), .ref dr])), (re, .inr (2, [.ref te, .ref pl, .int (nI pos), .int (tI tr)])), (dr, .inr (1, [.ref d1, .ref d2, .ref d3, .ref d4, .ref d5, .ref d6, .ref d7, .ref d8, .ref d9, .int (nI drg)])), (d1, .inl (cI, 480, .inl (nA bn))), (eo, .inl (cG, 8, .inr (.inr (.inr (.inr (fun i => if i < 8 then some (ea i) else none)))))), ((ea 0), .inl (cI, 480, .inl (nA (ed 0)))), ((ea 1), .inl (cI, 480, .inl (nA (ed 1)))), ((ea 2), .inl (cI, 480, .inl (nA (ed 2)))), ((ea 3), .inl (cI, 480, .inl (nA (ed 3)))), ((ea 4), .inl (cI, 480, .inl (nA (ed 4)))), ((ea 5), .inl (cI, 480, .inl (nA (ed 5)))), ((ea 6), .inl (cI, 480, .inl (nA bn))), ((ea 7), .inl (cI, 480, .inl (nA (ed 7))))]) S hK hP hD hS 0 rfl p_SP_67 rfl rfl (Nat.le_of_ble_eq_true rfl) rfl d_SP_addEdition_46 (fun H locs hP hD hS => ?_)
    exact ga_wv () S hrt hlk hP hD hS trivial d_SP_addEdition_49
  · refine lv_aload_n hx hb d_SP_addEdition_0 rfl (lv_at hl 0 rfl) ?_
    refine lv_aload_n hx hb d_SP_addEdition_1 rfl (lv_at hl 0 rfl) ?_
    refine ga_get S hK hP 0 rfl f_SP_12 rfl d_SP_addEdition_2 ?_
    refine lv_aload_n hx hb d_SP_addEdition_5 rfl (lv_at hl 0 rfl) ?_
    refine ga_get S hK hP 0 rfl f_SP_38 rfl d_SP_addEdition_6 ?_
    refine ga_jq (wr := [(spo, .inr (5, [.ref re, .ref fa, .ref shh, .ref eo, .int (nI 7), .ref pl])), (dr, .inr (1, [.ref d1, .ref d2, .ref d3, .ref d4, .ref d5, .ref d6, .ref d7, .ref d8, .ref d9, .int (nI drg)])), (d1, .inl (cI, 480, .inl (nA bn))), (eo, .inl (cG, 8, .inr (.inr (.inr (.inr (fun i => if i < 8 then some (ea i) else none)))))), ((ea 0), .inl (cI, 480, .inl (nA (ed 0)))), ((ea 1), .inl (cI, 480, .inl (nA (ed 1)))), ((ea 2), .inl (cI, 480, .inl (nA (ed 2)))), ((ea 3), .inl (cI, 480, .inl (nA (ed 3)))), ((ea 4), .inl (cI, 480, .inl (nA (ed 4)))), ((ea 5), .inl (cI, 480, .inl (nA (ed 5)))), ((ea 6), .inl (cI, 480, .inl (nA (ed 6)))), ((ea 7), .inl (cI, 480, .inl (nA (ed 7))))]) (ga_runV (As := [.ref pl]) (rest := [.ref spo]) S hK s_SP_130 (gc_Re_giveDraftFor l D cI cZ cC cG re te dr pos pl tr _) (ga_prV (y := y_Re_giveDraftFor) (q0 := 1) hK hP hD [1] rfl (by decide) rfl rfl) rfl hl.1 rfl (Nat.le_of_ble_eq_true rfl) ⟨Nat.le_of_ble_eq_true rfl, Nat.le_of_ble_eq_true rfl⟩ ⟨Nat.le_of_ble_eq_true rfl, Nat.le_of_ble_eq_true rfl⟩ d_SP_addEdition_9) hP hD hS hA [1] [0, 2, 3, 4, 5, 6, 7, 8, 9, 10, 11, 12] rfl rfl (by decide) (by decide) [0, 12, 1, 2, 3, 4, 5, 6, 7, 8, 9, 10, 11] (fun _ => [(spo, .inr (5, [.ref re, .ref fa, .ref shh, .ref eo, .int (nI 7), .ref pl])), (re, .inr (2, [.ref te, .ref pl, .int (nI pos), .int (tI tr)])), (dr, .inr (1, [.ref d1, .ref d2, .ref d3, .ref d4, .ref d5, .ref d6, .ref d7, .ref d8, .ref d9, .int (nI drg)])), (d1, .inl (cI, 480, .inl (nA bn))), (eo, .inl (cG, 8, .inr (.inr (.inr (.inr (fun i => if i < 8 then some (ea i) else none)))))), ((ea 0), .inl (cI, 480, .inl (nA (ed 0)))), ((ea 1), .inl (cI, 480, .inl (nA (ed 1)))), ((ea 2), .inl (cI, 480, .inl (nA (ed 2)))), ((ea 3), .inl (cI, 480, .inl (nA (ed 3)))), ((ea 4), .inl (cI, 480, .inl (nA (ed 4)))), ((ea 5), .inl (cI, 480, .inl (nA (ed 5)))), ((ea 6), .inl (cI, 480, .inl (nA (ed 6)))), ((ea 7), .inl (cI, 480, .inl (nA (ed 7))))]) (fun _ => rfl) (by decide) (fun x H locs hp9 hP hD hS => ?_)
    refine ga_put (ws' := [(spo, .inr (5, [.ref re, .ref fa, .ref shh, .ref eo, .int (nI 7), .ref dr])), (re, .inr (2, [.ref te, .ref pl, .int (nI pos), .int (tI tr)])), (dr, .inr (1, [.ref d1, .ref d2, .ref d3, .ref d4, .ref d5, .ref d6, .ref d7, .ref d8, .ref d9, .int (nI drg)])), (d1, .inl (cI, 480, .inl (nA bn))), (eo, .inl (cG, 8, .inr (.inr (.inr (.inr (fun i => if i < 8 then some (ea i) else none)))))), ((ea 0), .inl (cI, 480, .inl (nA (ed 0)))), ((ea 1), .inl (cI, 480, .inl (nA (ed 1)))), ((ea 2), .inl (cI, 480, .inl (nA (ed 2)))), ((ea 3), .inl (cI, 480, .inl (nA (ed 3)))), ((ea 4), .inl (cI, 480, .inl (nA (ed 4)))), ((ea 5), .inl (cI, 480, .inl (nA (ed 5)))), ((ea 6), .inl (cI, 480, .inl (nA (ed 6)))), ((ea 7), .inl (cI, 480, .inl (nA (ed 7))))]) S hK hP hD hS 0 rfl p_SP_38 rfl rfl (Nat.le_of_ble_eq_true rfl) rfl d_SP_addEdition_12 (fun H locs hP hD hS => ?_)
    refine lv_aload_n hx hb d_SP_addEdition_15 rfl (lv_at hl 0 rfl) ?_
    refine ga_get S hK hP 0 rfl f_SP_38 rfl d_SP_addEdition_16 ?_
    refine ga_get S hK hP 2 rfl f_SP_92 rfl d_SP_addEdition_19 ?_
    refine lv_iconst (v := 0) hx hb d_SP_addEdition_22 (by decide) ?_
    refine lv_aload_n hx hb d_SP_addEdition_23 rfl (lv_at hl 0 rfl) ?_
    refine ga_get S hK hP 0 rfl f_SP_32 rfl d_SP_addEdition_24 ?_
    refine lv_aload_n hx hb d_SP_addEdition_27 rfl (lv_at hl 0 rfl) ?_
    refine ga_get S hK hP 0 rfl f_SP_67 rfl d_SP_addEdition_28 ?_
    refine ga_aaN S hK hP 4 3 rfl rfl 7 (by decide) (by decide) (a1 := ea 7) rfl d_SP_addEdition_31 ?_
    refine lv_iconst (v := 0) hx hb d_SP_addEdition_32 (by decide) ?_
    refine lv_sipush (v := 480) hx hb d_SP_addEdition_33 (by decide) ?_
    refine ga_copy (ws' := [(spo, .inr (5, [.ref re, .ref fa, .ref shh, .ref eo, .int (nI 7), .ref dr])), (re, .inr (2, [.ref te, .ref pl, .int (nI pos), .int (tI tr)])), (dr, .inr (1, [.ref d1, .ref d2, .ref d3, .ref d4, .ref d5, .ref d6, .ref d7, .ref d8, .ref d9, .int (nI drg)])), (d1, .inl (cI, 480, .inl (nA bn))), (eo, .inl (cG, 8, .inr (.inr (.inr (.inr (fun i => if i < 8 then some (ea i) else none)))))), ((ea 0), .inl (cI, 480, .inl (nA (ed 0)))), ((ea 1), .inl (cI, 480, .inl (nA (ed 1)))), ((ea 2), .inl (cI, 480, .inl (nA (ed 2)))), ((ea 3), .inl (cI, 480, .inl (nA (ed 3)))), ((ea 4), .inl (cI, 480, .inl (nA (ed 4)))), ((ea 5), .inl (cI, 480, .inl (nA (ed 5)))), ((ea 6), .inl (cI, 480, .inl (nA (ed 6)))), ((ea 7), .inl (cI, 480, .inl (nA bn)))]) S hl.1 sy_SP_134 hK hP hD hS 3 12 rfl rfl rfl (Nat.le_of_ble_eq_true rfl) (by decide +kernel) rfl d_SP_addEdition_36 (fun H locs hP hD hS => ?_)
    refine lv_aload_n hx hb d_SP_addEdition_39 rfl (lv_at hl 0 rfl) ?_
    refine lv_dup hx hb d_SP_addEdition_40 rfl ?_
    refine ga_get S hK hP 0 rfl f_SP_67 rfl d_SP_addEdition_41 ?_
    refine lv_iconst (v := 1) hx hb d_SP_addEdition_44 (by decide) ?_
    refine lv_iadd hx hb d_SP_addEdition_45 ?_
    refine ga_top (nI (7 + 1)) (nI_add 7 1) ?_
    refine ga_put (ws' := [(spo, .inr (5, [.ref re, .ref fa, .ref shh, .ref eo, .int (nI (7 + 1)), .ref dr])), (re, .inr (2, [.ref te, .ref pl, .int (nI pos), .int (tI tr)])), (dr, .inr (1, [.ref d1, .ref d2, .ref d3, .ref d4, .ref d5, .ref d6, .ref d7, .ref d8, .ref d9, .int (nI drg)])), (d1, .inl (cI, 480, .inl (nA bn))), (eo, .inl (cG, 8, .inr (.inr (.inr (.inr (fun i => if i < 8 then some (ea i) else none)))))), ((ea 0), .inl (cI, 480, .inl (nA (ed 0)))), ((ea 1), .inl (cI, 480, .inl (nA (ed 1)))), ((ea 2), .inl (cI, 480, .inl (nA (ed 2)))), ((ea 3), .inl (cI, 480, .inl (nA (ed 3)))), ((ea 4), .inl (cI, 480, .inl (nA (ed 4)))), ((ea 5), .inl (cI, 480, .inl (nA (ed 5)))), ((ea 6), .inl (cI, 480, .inl (nA (ed 6)))), ((ea 7), .inl (cI, 480, .inl (nA bn)))]) S hK hP hD hS 0 rfl p_SP_67 rfl rfl (Nat.le_of_ble_eq_true rfl) rfl d_SP_addEdition_46 (fun H locs hP hD hS => ?_)
    exact ga_wv () S hrt hlk hP hD hS trivial d_SP_addEdition_49
set_option maxHeartbeats 4000000 in
set_option maxRecDepth 100000 in
theorem gc_SP_compare (l : Launch) (D : va_G) (cI cZ cC cG : ClassId) (spo re fa shh eo ec pl : Nat) (hec : ec ≤ 8) (q1 q2 q3 q4 q5 q6 q7 q8 q9 rg : Nat) (ea : Nat → Nat) (ed : Nat → Nat → Nat) (bn : Nat → Nat) (e9 : Int32) (hbn : ∀ j, bn j ≤ 60) (hed : ∀ i j, ed i j ≤ 60) : ga_Mr l y_SP_compare b_SP_compare 3 (some .int) 6 D (ga_T cI cZ cC cG) [.ref spo, .int e9] [(spo, .inr (5, [.ref re, .ref fa, .ref shh, .ref eo, .int (nI ec), .ref pl])), (pl, .inr (1, [.ref q1, .ref q2, .ref q3, .ref q4, .ref q5, .ref q6, .ref q7, .ref q8, .ref q9, .int (nI rg)])), (q1, .inl (cI, 480, .inl (nA bn))), (eo, .inl (cG, 8, .inr (.inr (.inr (.inr (fun i => if i < 8 then some (ea i) else none)))))), ((ea 0), .inl (cI, 480, .inl (nA (ed 0)))), ((ea 1), .inl (cI, 480, .inl (nA (ed 1)))), ((ea 2), .inl (cI, 480, .inl (nA (ed 2)))), ((ea 3), .inl (cI, 480, .inl (nA (ed 3)))), ((ea 4), .inl (cI, 480, .inl (nA (ed 4)))), ((ea 5), .inl (cI, 480, .inl (nA (ed 5)))), ((ea 6), .inl (cI, 480, .inl (nA (ed 6)))), ((ea 7), .inl (cI, 480, .inl (nA (ed 7))))] (fun r => (ec = 0 ∧ ¬ (0 ≤ e9 ∧ e9 ≤ 7) ∧ r = -101) ∨ (ec = 0 ∧ (0 ≤ e9 ∧ e9 ≤ 7) ∧ r = -103) ∨ (ec ≠ 0 ∧ ¬ (0 ≤ e9 ∧ e9 ≤ nI (ec - 1)) ∧ r = -101) ∨ (ec ≠ 0 ∧ (0 ≤ e9 ∧ e9 ≤ nI (ec - 1)) ∧ r = nI (gp_cn (fun k => gp_otn bn (ed e9.toNatClampNeg) (gp_sl (k + 1) 0 0) 12) 40))) := by
  refine ga_enR (by decide) (Nat.le_of_ble_eq_true rfl) ?_
  intro p e s m below meth c ls S hrt hlk hK hP hl
  obtain ⟨hx, hb, hml, hown, hts⟩ := id S
  have hl : lv_has ls 3 [(0, .ref spo), (1, .int e9)] := hl
  refine lv_aload_n hx hb d_SP_compare_0 rfl (lv_at hl 0 rfl) ?_
  refine ga_cr (As := []) (rest := []) (q0 := 0) S hK hP s_SP_77 (gc_SP_hasPlan l D cI cZ cC cG spo re fa shh eo ec pl (by omega)) [0] rfl rfl rfl rfl hl.1 rfl (Nat.le_of_ble_eq_true rfl) ⟨Nat.le_of_ble_eq_true rfl, Nat.le_of_ble_eq_true rfl⟩ ⟨Nat.le_of_ble_eq_true rfl, Nat.le_of_ble_eq_true rfl⟩ d_SP_compare_1 (fun r hp1 => ?_)
  rcases hp1 with ⟨rfl, hp1⟩ | ⟨rfl, hp1⟩
  · refine lv_if_eq (tgt := 14) hx hb d_SP_compare_4 (by decide) (fun c4 => ?_) (fun c4 => ?_)
    · exact absurd c4 (by decide)
    · refine lv_aload_n hx hb d_SP_compare_7 rfl (lv_at hl 0 rfl) ?_
      refine ga_get S hK hP 0 rfl f_SP_67 rfl d_SP_compare_8 ?_
      refine lv_goto (tgt := 16) hx hb d_SP_compare_11 (by decide) ?_
      refine lv_istore_n (lv' := [(2, .int (nI ec)), (0, .ref spo), (1, .int e9)]) hx hb d_SP_compare_16 rfl hl (by decide) rfl (fun ls hl => ?_)
      refine lv_iload_n hx hb d_SP_compare_17 rfl (lv_at hl 2 rfl) ?_
      refine lv_iconst (v := 0) hx hb d_SP_compare_18 (by decide) ?_
      refine lv_iload_n hx hb d_SP_compare_19 rfl (lv_at hl 0 rfl) ?_
      refine lv_iconst (v := 1) hx hb d_SP_compare_20 (by decide) ?_
      refine lv_isub hx hb d_SP_compare_21 ?_
      refine ga_top (nI (ec - 1)) (pk_sub (a := ec) (b := 1) (by omega)) ?_
      refine ga_cs (As := [.int e9, .int 0, .int (nI (ec - 1))]) (rest := []) S hK hP s_SP_73 (gc_SP_isWithin l D cI cZ cC cG e9 0 (nI (ec - 1))) [] rfl rfl hl.1 rfl (Nat.le_of_ble_eq_true rfl) ⟨Nat.le_of_ble_eq_true rfl, Nat.le_of_ble_eq_true rfl⟩ ⟨Nat.le_of_ble_eq_true rfl, Nat.le_of_ble_eq_true rfl⟩ d_SP_compare_22 (fun r hp22 => ?_)
      rcases hp22 with ⟨rfl, hp22⟩ | ⟨rfl, hp22⟩
      · refine lv_if_ne (tgt := 31) hx hb d_SP_compare_25 (by decide) (fun c25 => ?_) (fun c25 => ?_)
        · refine lv_aload_n hx hb d_SP_compare_31 rfl (lv_at hl 1 rfl) ?_
          refine ga_cr (As := []) (rest := []) (q0 := 0) S hK hP s_SP_77 (gc_SP_hasPlan l D cI cZ cC cG spo re fa shh eo ec pl (by omega)) [0] rfl rfl rfl rfl hl.1 rfl (Nat.le_of_ble_eq_true rfl) ⟨Nat.le_of_ble_eq_true rfl, Nat.le_of_ble_eq_true rfl⟩ ⟨Nat.le_of_ble_eq_true rfl, Nat.le_of_ble_eq_true rfl⟩ d_SP_compare_32 (fun r hp32 => ?_)
          rcases hp32 with ⟨rfl, hp32⟩ | ⟨rfl, hp32⟩
          · refine lv_if_eq (tgt := 54) hx hb d_SP_compare_35 (by decide) (fun c35 => ?_) (fun c35 => ?_)
            · exact absurd c35 (by decide)
            · obtain ⟨eN, he7, rfl⟩ := nI_of (x := e9) (fun q => absurd (Int32.lt_of_le_of_lt hp22.1 q) (by decide))
              have he8 : eN ≤ ec - 1 := (nI_leI (a := eN) (b := ec - 1) (by omega) (by omega)).mp hp22.2
              rcases (show eN = 0 ∨ eN = 1 ∨ eN = 2 ∨ eN = 3 ∨ eN = 4 ∨ eN = 5 ∨ eN = 6 ∨ eN = 7 by omega) with rfl | rfl | rfl | rfl | rfl | rfl | rfl | rfl
              · refine lv_aload_n hx hb d_SP_compare_38 rfl (lv_at hl 1 rfl) ?_
                refine ga_get S hK hP 0 rfl f_SP_38 rfl d_SP_compare_39 ?_
                refine lv_aload_n hx hb d_SP_compare_42 rfl (lv_at hl 1 rfl) ?_
                refine ga_get S hK hP 0 rfl f_SP_32 rfl d_SP_compare_43 ?_
                refine lv_iload_n hx hb d_SP_compare_46 rfl (lv_at hl 2 rfl) ?_
                refine ga_aaN S hK hP 3 3 rfl rfl 0 (by decide) (by decide) (a1 := ea 0) rfl d_SP_compare_47 ?_
                refine ga_cr (As := [.ref ((ea 0))]) (rest := []) (q0 := 1) S hK hP s_SP_110 (gc_Pl_countTargetsOtherThan l D cI cZ cC cG pl q1 q2 q3 q4 q5 q6 q7 q8 q9 rg (ea 0) bn (ed 0) hbn (hed _)) [1, 2, 4] rfl rfl rfl rfl hl.1 rfl (Nat.le_of_ble_eq_true rfl) ⟨Nat.le_of_ble_eq_true rfl, Nat.le_of_ble_eq_true rfl⟩ ⟨Nat.le_of_ble_eq_true rfl, Nat.le_of_ble_eq_true rfl⟩ d_SP_compare_48 (fun r hp48 => ?_)
                refine lv_goto (tgt := 56) hx hb d_SP_compare_51 (by decide) ?_
                exact ga_ri S hrt hlk (Or.inr (Or.inr (Or.inr ⟨hp1, hp22, by rw [hp48, nI_clamp (by decide)]⟩))) d_SP_compare_56
              · refine lv_aload_n hx hb d_SP_compare_38 rfl (lv_at hl 1 rfl) ?_
                refine ga_get S hK hP 0 rfl f_SP_38 rfl d_SP_compare_39 ?_
                refine lv_aload_n hx hb d_SP_compare_42 rfl (lv_at hl 1 rfl) ?_
                refine ga_get S hK hP 0 rfl f_SP_32 rfl d_SP_compare_43 ?_
                refine lv_iload_n hx hb d_SP_compare_46 rfl (lv_at hl 2 rfl) ?_
                refine ga_aaN S hK hP 3 3 rfl rfl 1 (by decide) (by decide) (a1 := ea 1) rfl d_SP_compare_47 ?_
                refine ga_cr (As := [.ref ((ea 1))]) (rest := []) (q0 := 1) S hK hP s_SP_110 (gc_Pl_countTargetsOtherThan l D cI cZ cC cG pl q1 q2 q3 q4 q5 q6 q7 q8 q9 rg (ea 1) bn (ed 1) hbn (hed _)) [1, 2, 5] rfl rfl rfl rfl hl.1 rfl (Nat.le_of_ble_eq_true rfl) ⟨Nat.le_of_ble_eq_true rfl, Nat.le_of_ble_eq_true rfl⟩ ⟨Nat.le_of_ble_eq_true rfl, Nat.le_of_ble_eq_true rfl⟩ d_SP_compare_48 (fun r hp48 => ?_)
                refine lv_goto (tgt := 56) hx hb d_SP_compare_51 (by decide) ?_
                exact ga_ri S hrt hlk (Or.inr (Or.inr (Or.inr ⟨hp1, hp22, by rw [hp48, nI_clamp (by decide)]⟩))) d_SP_compare_56
              · refine lv_aload_n hx hb d_SP_compare_38 rfl (lv_at hl 1 rfl) ?_
                refine ga_get S hK hP 0 rfl f_SP_38 rfl d_SP_compare_39 ?_
                refine lv_aload_n hx hb d_SP_compare_42 rfl (lv_at hl 1 rfl) ?_
                refine ga_get S hK hP 0 rfl f_SP_32 rfl d_SP_compare_43 ?_
                refine lv_iload_n hx hb d_SP_compare_46 rfl (lv_at hl 2 rfl) ?_
                refine ga_aaN S hK hP 3 3 rfl rfl 2 (by decide) (by decide) (a1 := ea 2) rfl d_SP_compare_47 ?_
                refine ga_cr (As := [.ref ((ea 2))]) (rest := []) (q0 := 1) S hK hP s_SP_110 (gc_Pl_countTargetsOtherThan l D cI cZ cC cG pl q1 q2 q3 q4 q5 q6 q7 q8 q9 rg (ea 2) bn (ed 2) hbn (hed _)) [1, 2, 6] rfl rfl rfl rfl hl.1 rfl (Nat.le_of_ble_eq_true rfl) ⟨Nat.le_of_ble_eq_true rfl, Nat.le_of_ble_eq_true rfl⟩ ⟨Nat.le_of_ble_eq_true rfl, Nat.le_of_ble_eq_true rfl⟩ d_SP_compare_48 (fun r hp48 => ?_)
                refine lv_goto (tgt := 56) hx hb d_SP_compare_51 (by decide) ?_
                exact ga_ri S hrt hlk (Or.inr (Or.inr (Or.inr ⟨hp1, hp22, by rw [hp48, nI_clamp (by decide)]⟩))) d_SP_compare_56
              · refine lv_aload_n hx hb d_SP_compare_38 rfl (lv_at hl 1 rfl) ?_
                refine ga_get S hK hP 0 rfl f_SP_38 rfl d_SP_compare_39 ?_
                refine lv_aload_n hx hb d_SP_compare_42 rfl (lv_at hl 1 rfl) ?_
                refine ga_get S hK hP 0 rfl f_SP_32 rfl d_SP_compare_43 ?_
                refine lv_iload_n hx hb d_SP_compare_46 rfl (lv_at hl 2 rfl) ?_
                refine ga_aaN S hK hP 3 3 rfl rfl 3 (by decide) (by decide) (a1 := ea 3) rfl d_SP_compare_47 ?_
                refine ga_cr (As := [.ref ((ea 3))]) (rest := []) (q0 := 1) S hK hP s_SP_110 (gc_Pl_countTargetsOtherThan l D cI cZ cC cG pl q1 q2 q3 q4 q5 q6 q7 q8 q9 rg (ea 3) bn (ed 3) hbn (hed _)) [1, 2, 7] rfl rfl rfl rfl hl.1 rfl (Nat.le_of_ble_eq_true rfl) ⟨Nat.le_of_ble_eq_true rfl, Nat.le_of_ble_eq_true rfl⟩ ⟨Nat.le_of_ble_eq_true rfl, Nat.le_of_ble_eq_true rfl⟩ d_SP_compare_48 (fun r hp48 => ?_)
                refine lv_goto (tgt := 56) hx hb d_SP_compare_51 (by decide) ?_
                exact ga_ri S hrt hlk (Or.inr (Or.inr (Or.inr ⟨hp1, hp22, by rw [hp48, nI_clamp (by decide)]⟩))) d_SP_compare_56
              · refine lv_aload_n hx hb d_SP_compare_38 rfl (lv_at hl 1 rfl) ?_
                refine ga_get S hK hP 0 rfl f_SP_38 rfl d_SP_compare_39 ?_
                refine lv_aload_n hx hb d_SP_compare_42 rfl (lv_at hl 1 rfl) ?_
                refine ga_get S hK hP 0 rfl f_SP_32 rfl d_SP_compare_43 ?_
                refine lv_iload_n hx hb d_SP_compare_46 rfl (lv_at hl 2 rfl) ?_
                refine ga_aaN S hK hP 3 3 rfl rfl 4 (by decide) (by decide) (a1 := ea 4) rfl d_SP_compare_47 ?_
                refine ga_cr (As := [.ref ((ea 4))]) (rest := []) (q0 := 1) S hK hP s_SP_110 (gc_Pl_countTargetsOtherThan l D cI cZ cC cG pl q1 q2 q3 q4 q5 q6 q7 q8 q9 rg (ea 4) bn (ed 4) hbn (hed _)) [1, 2, 8] rfl rfl rfl rfl hl.1 rfl (Nat.le_of_ble_eq_true rfl) ⟨Nat.le_of_ble_eq_true rfl, Nat.le_of_ble_eq_true rfl⟩ ⟨Nat.le_of_ble_eq_true rfl, Nat.le_of_ble_eq_true rfl⟩ d_SP_compare_48 (fun r hp48 => ?_)
                refine lv_goto (tgt := 56) hx hb d_SP_compare_51 (by decide) ?_
                exact ga_ri S hrt hlk (Or.inr (Or.inr (Or.inr ⟨hp1, hp22, by rw [hp48, nI_clamp (by decide)]⟩))) d_SP_compare_56
              · refine lv_aload_n hx hb d_SP_compare_38 rfl (lv_at hl 1 rfl) ?_
                refine ga_get S hK hP 0 rfl f_SP_38 rfl d_SP_compare_39 ?_
                refine lv_aload_n hx hb d_SP_compare_42 rfl (lv_at hl 1 rfl) ?_
                refine ga_get S hK hP 0 rfl f_SP_32 rfl d_SP_compare_43 ?_
                refine lv_iload_n hx hb d_SP_compare_46 rfl (lv_at hl 2 rfl) ?_
                refine ga_aaN S hK hP 3 3 rfl rfl 5 (by decide) (by decide) (a1 := ea 5) rfl d_SP_compare_47 ?_
                refine ga_cr (As := [.ref ((ea 5))]) (rest := []) (q0 := 1) S hK hP s_SP_110 (gc_Pl_countTargetsOtherThan l D cI cZ cC cG pl q1 q2 q3 q4 q5 q6 q7 q8 q9 rg (ea 5) bn (ed 5) hbn (hed _)) [1, 2, 9] rfl rfl rfl rfl hl.1 rfl (Nat.le_of_ble_eq_true rfl) ⟨Nat.le_of_ble_eq_true rfl, Nat.le_of_ble_eq_true rfl⟩ ⟨Nat.le_of_ble_eq_true rfl, Nat.le_of_ble_eq_true rfl⟩ d_SP_compare_48 (fun r hp48 => ?_)
                refine lv_goto (tgt := 56) hx hb d_SP_compare_51 (by decide) ?_
                exact ga_ri S hrt hlk (Or.inr (Or.inr (Or.inr ⟨hp1, hp22, by rw [hp48, nI_clamp (by decide)]⟩))) d_SP_compare_56
              · refine lv_aload_n hx hb d_SP_compare_38 rfl (lv_at hl 1 rfl) ?_
                refine ga_get S hK hP 0 rfl f_SP_38 rfl d_SP_compare_39 ?_
                refine lv_aload_n hx hb d_SP_compare_42 rfl (lv_at hl 1 rfl) ?_
                refine ga_get S hK hP 0 rfl f_SP_32 rfl d_SP_compare_43 ?_
                refine lv_iload_n hx hb d_SP_compare_46 rfl (lv_at hl 2 rfl) ?_
                refine ga_aaN S hK hP 3 3 rfl rfl 6 (by decide) (by decide) (a1 := ea 6) rfl d_SP_compare_47 ?_
                refine ga_cr (As := [.ref ((ea 6))]) (rest := []) (q0 := 1) S hK hP s_SP_110 (gc_Pl_countTargetsOtherThan l D cI cZ cC cG pl q1 q2 q3 q4 q5 q6 q7 q8 q9 rg (ea 6) bn (ed 6) hbn (hed _)) [1, 2, 10] rfl rfl rfl rfl hl.1 rfl (Nat.le_of_ble_eq_true rfl) ⟨Nat.le_of_ble_eq_true rfl, Nat.le_of_ble_eq_true rfl⟩ ⟨Nat.le_of_ble_eq_true rfl, Nat.le_of_ble_eq_true rfl⟩ d_SP_compare_48 (fun r hp48 => ?_)
                refine lv_goto (tgt := 56) hx hb d_SP_compare_51 (by decide) ?_
                exact ga_ri S hrt hlk (Or.inr (Or.inr (Or.inr ⟨hp1, hp22, by rw [hp48, nI_clamp (by decide)]⟩))) d_SP_compare_56
              · refine lv_aload_n hx hb d_SP_compare_38 rfl (lv_at hl 1 rfl) ?_
                refine ga_get S hK hP 0 rfl f_SP_38 rfl d_SP_compare_39 ?_
                refine lv_aload_n hx hb d_SP_compare_42 rfl (lv_at hl 1 rfl) ?_
                refine ga_get S hK hP 0 rfl f_SP_32 rfl d_SP_compare_43 ?_
                refine lv_iload_n hx hb d_SP_compare_46 rfl (lv_at hl 2 rfl) ?_
                refine ga_aaN S hK hP 3 3 rfl rfl 7 (by decide) (by decide) (a1 := ea 7) rfl d_SP_compare_47 ?_
                refine ga_cr (As := [.ref ((ea 7))]) (rest := []) (q0 := 1) S hK hP s_SP_110 (gc_Pl_countTargetsOtherThan l D cI cZ cC cG pl q1 q2 q3 q4 q5 q6 q7 q8 q9 rg (ea 7) bn (ed 7) hbn (hed _)) [1, 2, 11] rfl rfl rfl rfl hl.1 rfl (Nat.le_of_ble_eq_true rfl) ⟨Nat.le_of_ble_eq_true rfl, Nat.le_of_ble_eq_true rfl⟩ ⟨Nat.le_of_ble_eq_true rfl, Nat.le_of_ble_eq_true rfl⟩ d_SP_compare_48 (fun r hp48 => ?_)
                refine lv_goto (tgt := 56) hx hb d_SP_compare_51 (by decide) ?_
                exact ga_ri S hrt hlk (Or.inr (Or.inr (Or.inr ⟨hp1, hp22, by rw [hp48, nI_clamp (by decide)]⟩))) d_SP_compare_56
          · exact absurd hp32 hp1
        · exact absurd c25 (by decide)
      · refine lv_if_ne (tgt := 31) hx hb d_SP_compare_25 (by decide) (fun c25 => ?_) (fun c25 => ?_)
        · exact absurd c25 (by decide)
        · refine lv_bipush (v := (-101)) hx hb d_SP_compare_28 (by decide) ?_
          first | exact ga_ri S hrt hlk (Or.inl ⟨hp1, hp22, rfl⟩) d_SP_compare_30 | exact ga_ri S hrt hlk (Or.inr (Or.inr (Or.inl ⟨hp1, hp22, rfl⟩))) d_SP_compare_30
  · refine lv_if_eq (tgt := 14) hx hb d_SP_compare_4 (by decide) (fun c4 => ?_) (fun c4 => ?_)
    · refine lv_bipush (v := 8) hx hb d_SP_compare_14 (by decide) ?_
      refine lv_istore_n (lv' := [(2, .int 8), (0, .ref spo), (1, .int e9)]) hx hb d_SP_compare_16 rfl hl (by decide) rfl (fun ls hl => ?_)
      refine lv_iload_n hx hb d_SP_compare_17 rfl (lv_at hl 2 rfl) ?_
      refine lv_iconst (v := 0) hx hb d_SP_compare_18 (by decide) ?_
      refine lv_iload_n hx hb d_SP_compare_19 rfl (lv_at hl 0 rfl) ?_
      refine lv_iconst (v := 1) hx hb d_SP_compare_20 (by decide) ?_
      refine lv_isub hx hb d_SP_compare_21 ?_
      refine ga_top (7) (by decide) ?_
      refine ga_cs (As := [.int e9, .int 0, .int 7]) (rest := []) S hK hP s_SP_73 (gc_SP_isWithin l D cI cZ cC cG e9 0 7) [] rfl rfl hl.1 rfl (Nat.le_of_ble_eq_true rfl) ⟨Nat.le_of_ble_eq_true rfl, Nat.le_of_ble_eq_true rfl⟩ ⟨Nat.le_of_ble_eq_true rfl, Nat.le_of_ble_eq_true rfl⟩ d_SP_compare_22 (fun r hp22 => ?_)
      rcases hp22 with ⟨rfl, hp22⟩ | ⟨rfl, hp22⟩
      · refine lv_if_ne (tgt := 31) hx hb d_SP_compare_25 (by decide) (fun c25 => ?_) (fun c25 => ?_)
        · refine lv_aload_n hx hb d_SP_compare_31 rfl (lv_at hl 1 rfl) ?_
          refine ga_cr (As := []) (rest := []) (q0 := 0) S hK hP s_SP_77 (gc_SP_hasPlan l D cI cZ cC cG spo re fa shh eo ec pl (by omega)) [0] rfl rfl rfl rfl hl.1 rfl (Nat.le_of_ble_eq_true rfl) ⟨Nat.le_of_ble_eq_true rfl, Nat.le_of_ble_eq_true rfl⟩ ⟨Nat.le_of_ble_eq_true rfl, Nat.le_of_ble_eq_true rfl⟩ d_SP_compare_32 (fun r hp32 => ?_)
          rcases hp32 with ⟨rfl, hp32⟩ | ⟨rfl, hp32⟩
          · exact absurd hp1 hp32
          · refine lv_if_eq (tgt := 54) hx hb d_SP_compare_35 (by decide) (fun c35 => ?_) (fun c35 => ?_)
            · refine lv_bipush (v := (-103)) hx hb d_SP_compare_54 (by decide) ?_
              exact ga_ri S hrt hlk (Or.inr (Or.inl ⟨hp1, hp22, rfl⟩)) d_SP_compare_56
            · exact absurd c35 (by decide)
        · exact absurd c25 (by decide)
      · refine lv_if_ne (tgt := 31) hx hb d_SP_compare_25 (by decide) (fun c25 => ?_) (fun c25 => ?_)
        · exact absurd c25 (by decide)
        · refine lv_bipush (v := (-101)) hx hb d_SP_compare_28 (by decide) ?_
          first | exact ga_ri S hrt hlk (Or.inl ⟨hp1, hp22, rfl⟩) d_SP_compare_30 | exact ga_ri S hrt hlk (Or.inr (Or.inr (Or.inl ⟨hp1, hp22, rfl⟩))) d_SP_compare_30
    · exact absurd c4 (by decide)
end
section
set_option maxHeartbeats 4000000 in
set_option maxRecDepth 100000 in
theorem gc_SP_read (l : Launch) (D : va_G) (cI cZ cC cG : ClassId) (spo re fa shh eo ec te ta n pos : Nat) (pa da ea : Nat → Nat) (tr0 : Option Nat) (sg : Nat → Nat) (dbn : Nat → Nat) (dsh dus dhe : Nat → Bool) (dne e1 e2 e3 e4 : Nat → Nat) (drg : Nat) (bn : Nat → Nat) (shr us he : Nat → Bool) (ne r1 r2 r3 r4 : Nat → Nat) (rg : Nat) (ed : Nat → Nat → Nat) (hec : ec ≤ 8) (hn : n ≤ 600) (hsg : ∀ j, sg j < 2 ^ 31) : ga_Mi l y_SP_read b_SP_read 3 (some .int) 6 0 0 D (ga_T cI cZ cC cG) [.ref spo] [(spo, .inr (5, [.ref re, .ref fa, .ref shh, .ref eo, .int (nI ec), .ref ((pa 0))])), (re, .inr (2, [.ref te, .ref ((da 0)), .int (nI pos), .int (tI tr0)])), (te, .inr (4, [.ref ta, .int (nI n)])), (ta, .inl (cC, 600, .inl (nA sg))), ((da 0), .inr (1, [.ref ((da 1)), .ref ((da 2)), .ref ((da 3)), .ref ((da 4)), .ref ((da 5)), .ref ((da 6)), .ref ((da 7)), .ref ((da 8)), .ref ((da 9)), .int (nI drg)])), ((da 1), .inl (cI, 480, .inl (nA dbn))), ((da 2), .inl (cZ, 480, .inl (zA dsh))), ((da 3), .inl (cZ, 41, .inl (zA dus))), ((da 4), .inl (cZ, 41, .inl (zA dhe))), ((da 5), .inl (cI, 61, .inl (nA dne))), ((da 6), .inl (cI, 66, .inl (nA e1))), ((da 7), .inl (cI, 66, .inl (nA e2))), ((da 8), .inl (cI, 66, .inl (nA e3))), ((da 9), .inl (cI, 66, .inl (nA e4))), (eo, .inl (cG, 8, .inr (.inr (.inr (.inr (fun i => if i < 8 then some (ea i) else none)))))), ((ea 0), .inl (cI, 480, .inl (nA (ed 0)))), ((ea 1), .inl (cI, 480, .inl (nA (ed 1)))), ((ea 2), .inl (cI, 480, .inl (nA (ed 2)))), ((ea 3), .inl (cI, 480, .inl (nA (ed 3)))), ((ea 4), .inl (cI, 480, .inl (nA (ed 4)))), ((ea 5), .inl (cI, 480, .inl (nA (ed 5)))), ((ea 6), .inl (cI, 480, .inl (nA (ed 6)))), ((ea 7), .inl (cI, 480, .inl (nA (ed 7)))), ((pa 0), .inr (1, [.ref ((pa 1)), .ref ((pa 2)), .ref ((pa 3)), .ref ((pa 4)), .ref ((pa 5)), .ref ((pa 6)), .ref ((pa 7)), .ref ((pa 8)), .ref ((pa 9)), .int (nI rg)])), ((pa 1), .inl (cI, 480, .inl (nA bn))), ((pa 2), .inl (cZ, 480, .inl (zA shr))), ((pa 3), .inl (cZ, 41, .inl (zA us))), ((pa 4), .inl (cZ, 41, .inl (zA he))), ((pa 5), .inl (cI, 61, .inl (nA ne))), ((pa 6), .inl (cI, 66, .inl (nA r1))), ((pa 7), .inl (cI, 66, .inl (nA r2))), ((pa 8), .inl (cI, 66, .inl (nA r3))), ((pa 9), .inl (cI, 66, .inl (nA r4)))] (fun (x : (Nat → Nat) × (Nat → Nat) × Nat × Option Nat × gp_D × (Nat → Bool) × gp_D × (Nat → Bool) × (Nat → Nat → Nat) × Nat) => [(spo, .inr (5, [.ref re, .ref fa, .ref shh, .ref eo, .int (nI x.2.2.2.2.2.2.2.2.2), .ref ((x.1 0))])), (re, .inr (2, [.ref te, .ref ((x.2.1 0)), .int (nI x.2.2.1), .int (tI x.2.2.2.1)])), (te, .inr (4, [.ref ta, .int 0])), (ta, .inl (cC, 600, .inl (nA sg))), ((x.2.1 0), .inr (1, [.ref ((x.2.1 1)), .ref ((x.2.1 2)), .ref ((x.2.1 3)), .ref ((x.2.1 4)), .ref ((x.2.1 5)), .ref ((x.2.1 6)), .ref ((x.2.1 7)), .ref ((x.2.1 8)), .ref ((x.2.1 9)), .int (nI x.2.2.2.2.1.2.2.2.2.2.2.2.2)])), ((x.2.1 1), .inl (cI, 480, .inl (nA x.2.2.2.2.1.1))), ((x.2.1 2), .inl (cZ, 480, .inl (zA x.2.2.2.2.1.2.1))), ((x.2.1 3), .inl (cZ, 41, .inl (zA x.2.2.2.2.1.2.2.1))), ((x.2.1 4), .inl (cZ, 41, .inl (zA x.2.2.2.2.2.1))), ((x.2.1 5), .inl (cI, 61, .inl (nA x.2.2.2.2.1.2.2.2.1))), ((x.2.1 6), .inl (cI, 66, .inl (nA x.2.2.2.2.1.2.2.2.2.1))), ((x.2.1 7), .inl (cI, 66, .inl (nA x.2.2.2.2.1.2.2.2.2.2.1))), ((x.2.1 8), .inl (cI, 66, .inl (nA x.2.2.2.2.1.2.2.2.2.2.2.1))), ((x.2.1 9), .inl (cI, 66, .inl (nA x.2.2.2.2.1.2.2.2.2.2.2.2.1))), (eo, .inl (cG, 8, .inr (.inr (.inr (.inr (fun i => if i < 8 then some (ea i) else none)))))), ((ea 0), .inl (cI, 480, .inl (nA (x.2.2.2.2.2.2.2.2.1 0)))), ((ea 1), .inl (cI, 480, .inl (nA (x.2.2.2.2.2.2.2.2.1 1)))), ((ea 2), .inl (cI, 480, .inl (nA (x.2.2.2.2.2.2.2.2.1 2)))), ((ea 3), .inl (cI, 480, .inl (nA (x.2.2.2.2.2.2.2.2.1 3)))), ((ea 4), .inl (cI, 480, .inl (nA (x.2.2.2.2.2.2.2.2.1 4)))), ((ea 5), .inl (cI, 480, .inl (nA (x.2.2.2.2.2.2.2.2.1 5)))), ((ea 6), .inl (cI, 480, .inl (nA (x.2.2.2.2.2.2.2.2.1 6)))), ((ea 7), .inl (cI, 480, .inl (nA (x.2.2.2.2.2.2.2.2.1 7)))), ((x.1 0), .inr (1, [.ref ((x.1 1)), .ref ((x.1 2)), .ref ((x.1 3)), .ref ((x.1 4)), .ref ((x.1 5)), .ref ((x.1 6)), .ref ((x.1 7)), .ref ((x.1 8)), .ref ((x.1 9)), .int (nI x.2.2.2.2.2.2.1.2.2.2.2.2.2.2.2)])), ((x.1 1), .inl (cI, 480, .inl (nA x.2.2.2.2.2.2.1.1))), ((x.1 2), .inl (cZ, 480, .inl (zA x.2.2.2.2.2.2.1.2.1))), ((x.1 3), .inl (cZ, 41, .inl (zA x.2.2.2.2.2.2.1.2.2.1))), ((x.1 4), .inl (cZ, 41, .inl (zA x.2.2.2.2.2.2.2.1))), ((x.1 5), .inl (cI, 61, .inl (nA x.2.2.2.2.2.2.1.2.2.2.1))), ((x.1 6), .inl (cI, 66, .inl (nA x.2.2.2.2.2.2.1.2.2.2.2.1))), ((x.1 7), .inl (cI, 66, .inl (nA x.2.2.2.2.2.2.1.2.2.2.2.2.1))), ((x.1 8), .inl (cI, 66, .inl (nA x.2.2.2.2.2.2.1.2.2.2.2.2.2.1))), ((x.1 9), .inl (cI, 66, .inl (nA x.2.2.2.2.2.2.1.2.2.2.2.2.2.2.1)))]) (fun r x => ∃ cnt po tr d, gp_all sg n 600 0 (0, none, fun _ => 0, dsh, fun _ => false, fun _ => 0, e1, e2, e3, e4, 0) = (cnt, po, tr, d) ∧ gp_ok n (po, tr, d) ∧ ((∃ t, tr = some t ∧ r = -1 - nI t ∧ x = (pa, da, po, tr, d, (fun _ => false), (bn, shr, us, ne, r1, r2, r3, r4, rg), he, ed, ec)) ∨ (tr = none ∧ ec = 8 ∧ r = -1 - nI n ∧ x = (pa, da, po, tr, d, (fun _ => false), (bn, shr, us, ne, r1, r2, r3, r4, rg), he, ed, ec)) ∨ (tr = none ∧ ec < 8 ∧ r = nI cnt ∧ x = (da, pa, po, none, (bn, shr, us, ne, r1, r2, r3, r4, rg), he, d, (fun _ => false), va_up ed ec d.1, ec + 1)))) := by
  refine ga_enI (by decide) (Nat.le_of_ble_eq_true rfl) ?_
  intro p e s m below meth c ls A S hrt hlk hK hP hD hA hl
  have hS : va_S A s.heap s.heap [] := va_S.rf
  obtain ⟨hx, hb, hml, hown, hts⟩ := id S
  have hl : lv_has ls 3 [(0, .ref spo)] := hl
  refine lv_aload_n hx hb d_SP_read_0 rfl (lv_at hl 0 rfl) ?_
  refine ga_get S hK hP 0 rfl f_SP_12 rfl d_SP_read_1 ?_
  refine ga_ji (wr := [(spo, .inr (5, [.ref re, .ref fa, .ref shh, .ref eo, .int (nI ec), .ref ((pa 0))])), (eo, .inl (cG, 8, .inr (.inr (.inr (.inr (fun i => if i < 8 then some (ea i) else none)))))), ((ea 0), .inl (cI, 480, .inl (nA (ed 0)))), ((ea 1), .inl (cI, 480, .inl (nA (ed 1)))), ((ea 2), .inl (cI, 480, .inl (nA (ed 2)))), ((ea 3), .inl (cI, 480, .inl (nA (ed 3)))), ((ea 4), .inl (cI, 480, .inl (nA (ed 4)))), ((ea 5), .inl (cI, 480, .inl (nA (ed 5)))), ((ea 6), .inl (cI, 480, .inl (nA (ed 6)))), ((ea 7), .inl (cI, 480, .inl (nA (ed 7)))), ((pa 0), .inr (1, [.ref ((pa 1)), .ref ((pa 2)), .ref ((pa 3)), .ref ((pa 4)), .ref ((pa 5)), .ref ((pa 6)), .ref ((pa 7)), .ref ((pa 8)), .ref ((pa 9)), .int (nI rg)])), ((pa 1), .inl (cI, 480, .inl (nA bn))), ((pa 2), .inl (cZ, 480, .inl (zA shr))), ((pa 3), .inl (cZ, 41, .inl (zA us))), ((pa 4), .inl (cZ, 41, .inl (zA he))), ((pa 5), .inl (cI, 61, .inl (nA ne))), ((pa 6), .inl (cI, 66, .inl (nA r1))), ((pa 7), .inl (cI, 66, .inl (nA r2))), ((pa 8), .inl (cI, 66, .inl (nA r3))), ((pa 9), .inl (cI, 66, .inl (nA r4)))]) (ga_runV (As := []) (rest := []) S hK s_SP_52 (gc_Re_readText l D cI cZ cC cG re te ta (da 0) n pos sg tr0 (by omega) (da 1) (da 2) (da 3) (da 4) (da 5) (da 6) (da 7) (da 8) (da 9) dbn dsh dus dne e1 e2 e3 e4 drg dhe hsg _) (ga_prV (y := y_Re_readText) (q0 := 1) hK hP hD [1, 2, 3, 4, 5, 6, 7, 8, 9, 10, 11, 12, 13] rfl (by decide) rfl rfl) rfl hl.1 rfl (Nat.le_of_ble_eq_true rfl) ⟨Nat.le_of_ble_eq_true rfl, Nat.le_of_ble_eq_true rfl⟩ ⟨Nat.le_of_ble_eq_true rfl, Nat.le_of_ble_eq_true rfl⟩ d_SP_read_4) hP hD hS hA [1, 2, 3, 4, 5, 6, 7, 8, 9, 10, 11, 12, 13] [0, 14, 15, 16, 17, 18, 19, 20, 21, 22, 23, 24, 25, 26, 27, 28, 29, 30, 31, 32] rfl rfl (by decide) (by decide) [0, 20, 21, 22, 23, 24, 25, 26, 27, 28, 29, 30, 31, 32, 1, 2, 3, 4, 5, 6, 7, 8, 9, 10, 11, 12, 13, 14, 15, 16, 17, 18, 19] (fun (x : Nat × Nat × Option Nat × gp_D) => [(spo, .inr (5, [.ref re, .ref fa, .ref shh, .ref eo, .int (nI ec), .ref ((pa 0))])), (re, .inr (2, [.ref te, .ref ((da 0)), .int (nI x.2.1), .int (tI x.2.2.1)])), (te, .inr (4, [.ref ta, .int (nI n)])), (ta, .inl (cC, 600, .inl (nA sg))), ((da 0), .inr (1, [.ref ((da 1)), .ref ((da 2)), .ref ((da 3)), .ref ((da 4)), .ref ((da 5)), .ref ((da 6)), .ref ((da 7)), .ref ((da 8)), .ref ((da 9)), .int (nI x.2.2.2.2.2.2.2.2.2.2.2)])), ((da 1), .inl (cI, 480, .inl (nA x.2.2.2.1))), ((da 2), .inl (cZ, 480, .inl (zA x.2.2.2.2.1))), ((da 3), .inl (cZ, 41, .inl (zA x.2.2.2.2.2.1))), ((da 4), .inl (cZ, 41, .inl (zA (fun _ => false)))), ((da 5), .inl (cI, 61, .inl (nA x.2.2.2.2.2.2.1))), ((da 6), .inl (cI, 66, .inl (nA x.2.2.2.2.2.2.2.1))), ((da 7), .inl (cI, 66, .inl (nA x.2.2.2.2.2.2.2.2.1))), ((da 8), .inl (cI, 66, .inl (nA x.2.2.2.2.2.2.2.2.2.1))), ((da 9), .inl (cI, 66, .inl (nA x.2.2.2.2.2.2.2.2.2.2.1))), (eo, .inl (cG, 8, .inr (.inr (.inr (.inr (fun i => if i < 8 then some (ea i) else none)))))), ((ea 0), .inl (cI, 480, .inl (nA (ed 0)))), ((ea 1), .inl (cI, 480, .inl (nA (ed 1)))), ((ea 2), .inl (cI, 480, .inl (nA (ed 2)))), ((ea 3), .inl (cI, 480, .inl (nA (ed 3)))), ((ea 4), .inl (cI, 480, .inl (nA (ed 4)))), ((ea 5), .inl (cI, 480, .inl (nA (ed 5)))), ((ea 6), .inl (cI, 480, .inl (nA (ed 6)))), ((ea 7), .inl (cI, 480, .inl (nA (ed 7)))), ((pa 0), .inr (1, [.ref ((pa 1)), .ref ((pa 2)), .ref ((pa 3)), .ref ((pa 4)), .ref ((pa 5)), .ref ((pa 6)), .ref ((pa 7)), .ref ((pa 8)), .ref ((pa 9)), .int (nI rg)])), ((pa 1), .inl (cI, 480, .inl (nA bn))), ((pa 2), .inl (cZ, 480, .inl (zA shr))), ((pa 3), .inl (cZ, 41, .inl (zA us))), ((pa 4), .inl (cZ, 41, .inl (zA he))), ((pa 5), .inl (cI, 61, .inl (nA ne))), ((pa 6), .inl (cI, 66, .inl (nA r1))), ((pa 7), .inl (cI, 66, .inl (nA r2))), ((pa 8), .inl (cI, 66, .inl (nA r3))), ((pa 9), .inl (cI, 66, .inl (nA r4)))]) (fun _ => rfl) (by decide) (fun r x H locs hp4 hP hD hS => ?_)
  obtain ⟨cnt, po, tq, bn9, sh9, us9, ne9, s1, s2, s3, s4, rg9⟩ := x
  have hP : va_P D vwCl [(spo, .inr (5, [.ref re, .ref fa, .ref shh, .ref eo, .int (nI ec), .ref ((pa 0))])), (re, .inr (2, [.ref te, .ref ((da 0)), .int (nI po), .int (tI tq)])), (te, .inr (4, [.ref ta, .int (nI n)])), (ta, .inl (cC, 600, .inl (nA sg))), ((da 0), .inr (1, [.ref ((da 1)), .ref ((da 2)), .ref ((da 3)), .ref ((da 4)), .ref ((da 5)), .ref ((da 6)), .ref ((da 7)), .ref ((da 8)), .ref ((da 9)), .int (nI rg9)])), ((da 1), .inl (cI, 480, .inl (nA bn9))), ((da 2), .inl (cZ, 480, .inl (zA sh9))), ((da 3), .inl (cZ, 41, .inl (zA us9))), ((da 4), .inl (cZ, 41, .inl (zA (fun _ => false)))), ((da 5), .inl (cI, 61, .inl (nA ne9))), ((da 6), .inl (cI, 66, .inl (nA s1))), ((da 7), .inl (cI, 66, .inl (nA s2))), ((da 8), .inl (cI, 66, .inl (nA s3))), ((da 9), .inl (cI, 66, .inl (nA s4))), (eo, .inl (cG, 8, .inr (.inr (.inr (.inr (fun i => if i < 8 then some (ea i) else none)))))), ((ea 0), .inl (cI, 480, .inl (nA (ed 0)))), ((ea 1), .inl (cI, 480, .inl (nA (ed 1)))), ((ea 2), .inl (cI, 480, .inl (nA (ed 2)))), ((ea 3), .inl (cI, 480, .inl (nA (ed 3)))), ((ea 4), .inl (cI, 480, .inl (nA (ed 4)))), ((ea 5), .inl (cI, 480, .inl (nA (ed 5)))), ((ea 6), .inl (cI, 480, .inl (nA (ed 6)))), ((ea 7), .inl (cI, 480, .inl (nA (ed 7)))), ((pa 0), .inr (1, [.ref ((pa 1)), .ref ((pa 2)), .ref ((pa 3)), .ref ((pa 4)), .ref ((pa 5)), .ref ((pa 6)), .ref ((pa 7)), .ref ((pa 8)), .ref ((pa 9)), .int (nI rg)])), ((pa 1), .inl (cI, 480, .inl (nA bn))), ((pa 2), .inl (cZ, 480, .inl (zA shr))), ((pa 3), .inl (cZ, 41, .inl (zA us))), ((pa 4), .inl (cZ, 41, .inl (zA he))), ((pa 5), .inl (cI, 61, .inl (nA ne))), ((pa 6), .inl (cI, 66, .inl (nA r1))), ((pa 7), .inl (cI, 66, .inl (nA r2))), ((pa 8), .inl (cI, 66, .inl (nA r3))), ((pa 9), .inl (cI, 66, .inl (nA r4)))] H := hP
  have hD : va_D A [(spo, .inr (5, [.ref re, .ref fa, .ref shh, .ref eo, .int (nI ec), .ref ((pa 0))])), (re, .inr (2, [.ref te, .ref ((da 0)), .int (nI po), .int (tI tq)])), (te, .inr (4, [.ref ta, .int (nI n)])), (ta, .inl (cC, 600, .inl (nA sg))), ((da 0), .inr (1, [.ref ((da 1)), .ref ((da 2)), .ref ((da 3)), .ref ((da 4)), .ref ((da 5)), .ref ((da 6)), .ref ((da 7)), .ref ((da 8)), .ref ((da 9)), .int (nI rg9)])), ((da 1), .inl (cI, 480, .inl (nA bn9))), ((da 2), .inl (cZ, 480, .inl (zA sh9))), ((da 3), .inl (cZ, 41, .inl (zA us9))), ((da 4), .inl (cZ, 41, .inl (zA (fun _ => false)))), ((da 5), .inl (cI, 61, .inl (nA ne9))), ((da 6), .inl (cI, 66, .inl (nA s1))), ((da 7), .inl (cI, 66, .inl (nA s2))), ((da 8), .inl (cI, 66, .inl (nA s3))), ((da 9), .inl (cI, 66, .inl (nA s4))), (eo, .inl (cG, 8, .inr (.inr (.inr (.inr (fun i => if i < 8 then some (ea i) else none)))))), ((ea 0), .inl (cI, 480, .inl (nA (ed 0)))), ((ea 1), .inl (cI, 480, .inl (nA (ed 1)))), ((ea 2), .inl (cI, 480, .inl (nA (ed 2)))), ((ea 3), .inl (cI, 480, .inl (nA (ed 3)))), ((ea 4), .inl (cI, 480, .inl (nA (ed 4)))), ((ea 5), .inl (cI, 480, .inl (nA (ed 5)))), ((ea 6), .inl (cI, 480, .inl (nA (ed 6)))), ((ea 7), .inl (cI, 480, .inl (nA (ed 7)))), ((pa 0), .inr (1, [.ref ((pa 1)), .ref ((pa 2)), .ref ((pa 3)), .ref ((pa 4)), .ref ((pa 5)), .ref ((pa 6)), .ref ((pa 7)), .ref ((pa 8)), .ref ((pa 9)), .int (nI rg)])), ((pa 1), .inl (cI, 480, .inl (nA bn))), ((pa 2), .inl (cZ, 480, .inl (zA shr))), ((pa 3), .inl (cZ, 41, .inl (zA us))), ((pa 4), .inl (cZ, 41, .inl (zA he))), ((pa 5), .inl (cI, 61, .inl (nA ne))), ((pa 6), .inl (cI, 66, .inl (nA r1))), ((pa 7), .inl (cI, 66, .inl (nA r2))), ((pa 8), .inl (cI, 66, .inl (nA r3))), ((pa 9), .inl (cI, 66, .inl (nA r4)))] := hD
  obtain ⟨rfl, hall, hok⟩ := hp4
  have hok2 := id hok
  obtain ⟨hpo, htr, -⟩ := hok2
  refine lv_istore_n (lv' := [(1, .int (nI cnt)), (0, .ref spo)]) hx hb d_SP_read_7 rfl hl (by decide) rfl (fun ls hl => ?_)
  refine lv_aload_n hx hb d_SP_read_8 rfl (lv_at hl 1 rfl) ?_
  refine ga_get S hK hP 0 rfl f_SP_12 rfl d_SP_read_9 ?_
  refine ga_get S hK hP 1 rfl f_SP_42 rfl d_SP_read_12 ?_
  refine ga_get S hK hP 2 rfl f_SP_56 rfl d_SP_read_15 ?_
  refine lv_istore_n (lv' := [(2, .int (nI n)), (1, .int (nI cnt)), (0, .ref spo)]) hx hb d_SP_read_18 rfl hl (by decide) rfl (fun ls hl => ?_)
  refine lv_aload_n hx hb d_SP_read_19 rfl (lv_at hl 2 rfl) ?_
  refine ga_get S hK hP 0 rfl f_SP_12 rfl d_SP_read_20 ?_
  refine ga_get S hK hP 1 rfl f_SP_42 rfl d_SP_read_23 ?_
  refine lv_iconst (v := 0) hx hb d_SP_read_26 (by decide) ?_
  refine ga_put (ws' := [(spo, .inr (5, [.ref re, .ref fa, .ref shh, .ref eo, .int (nI ec), .ref ((pa 0))])), (re, .inr (2, [.ref te, .ref ((da 0)), .int (nI po), .int (tI tq)])), (te, .inr (4, [.ref ta, .int 0])), (ta, .inl (cC, 600, .inl (nA sg))), ((da 0), .inr (1, [.ref ((da 1)), .ref ((da 2)), .ref ((da 3)), .ref ((da 4)), .ref ((da 5)), .ref ((da 6)), .ref ((da 7)), .ref ((da 8)), .ref ((da 9)), .int (nI rg9)])), ((da 1), .inl (cI, 480, .inl (nA bn9))), ((da 2), .inl (cZ, 480, .inl (zA sh9))), ((da 3), .inl (cZ, 41, .inl (zA us9))), ((da 4), .inl (cZ, 41, .inl (zA (fun _ => false)))), ((da 5), .inl (cI, 61, .inl (nA ne9))), ((da 6), .inl (cI, 66, .inl (nA s1))), ((da 7), .inl (cI, 66, .inl (nA s2))), ((da 8), .inl (cI, 66, .inl (nA s3))), ((da 9), .inl (cI, 66, .inl (nA s4))), (eo, .inl (cG, 8, .inr (.inr (.inr (.inr (fun i => if i < 8 then some (ea i) else none)))))), ((ea 0), .inl (cI, 480, .inl (nA (ed 0)))), ((ea 1), .inl (cI, 480, .inl (nA (ed 1)))), ((ea 2), .inl (cI, 480, .inl (nA (ed 2)))), ((ea 3), .inl (cI, 480, .inl (nA (ed 3)))), ((ea 4), .inl (cI, 480, .inl (nA (ed 4)))), ((ea 5), .inl (cI, 480, .inl (nA (ed 5)))), ((ea 6), .inl (cI, 480, .inl (nA (ed 6)))), ((ea 7), .inl (cI, 480, .inl (nA (ed 7)))), ((pa 0), .inr (1, [.ref ((pa 1)), .ref ((pa 2)), .ref ((pa 3)), .ref ((pa 4)), .ref ((pa 5)), .ref ((pa 6)), .ref ((pa 7)), .ref ((pa 8)), .ref ((pa 9)), .int (nI rg)])), ((pa 1), .inl (cI, 480, .inl (nA bn))), ((pa 2), .inl (cZ, 480, .inl (zA shr))), ((pa 3), .inl (cZ, 41, .inl (zA us))), ((pa 4), .inl (cZ, 41, .inl (zA he))), ((pa 5), .inl (cI, 61, .inl (nA ne))), ((pa 6), .inl (cI, 66, .inl (nA r1))), ((pa 7), .inl (cI, 66, .inl (nA r2))), ((pa 8), .inl (cI, 66, .inl (nA r3))), ((pa 9), .inl (cI, 66, .inl (nA r4)))]) S hK hP hD hS 2 rfl p_SP_56 rfl rfl (Nat.le_of_ble_eq_true rfl) rfl d_SP_read_27 (fun H locs hP hD hS => ?_)
  refine lv_aload_n hx hb d_SP_read_30 rfl (lv_at hl 2 rfl) ?_
  refine ga_get S hK hP 0 rfl f_SP_12 rfl d_SP_read_31 ?_
  refine ga_cr (As := []) (rest := []) (q0 := 1) S hK hP s_SP_60 (gc_Re_isFine l D cI cZ cC cG re te (da 0) po tq (fun t q => by have := htr t q; omega)) [1] rfl rfl rfl rfl hl.1 rfl (Nat.le_of_ble_eq_true rfl) ⟨Nat.le_of_ble_eq_true rfl, Nat.le_of_ble_eq_true rfl⟩ ⟨Nat.le_of_ble_eq_true rfl, Nat.le_of_ble_eq_true rfl⟩ d_SP_read_34 (fun r hp34 => ?_)
  rcases hp34 with ⟨rfl, hp34⟩ | ⟨rfl, hp34⟩
  · subst hp34
    refine lv_if_ne (tgt := 50) hx hb d_SP_read_37 (by decide) (fun c37 => ?_) (fun c37 => ?_)
    · refine lv_aload_n hx hb d_SP_read_50 rfl (lv_at hl 2 rfl) ?_
      refine ga_get S hK hP 0 rfl f_SP_67 rfl d_SP_read_51 ?_
      refine lv_bipush (v := 8) hx hb d_SP_read_54 (by decide) ?_
      refine lv_icmp_lt (tgt := 63) hx hb d_SP_read_56 (by decide) (fun c56 => ?_) (fun c56 => ?_)
      · have c56 : ec < 8 := (nI_ltI (a := ec) (b := 8) (by omega) (by omega)).mp c56
        refine lv_aload_n hx hb d_SP_read_63 rfl (lv_at hl 2 rfl) ?_
        refine ga_jv (wr := [(te, .inr (4, [.ref ta, .int 0])), (ta, .inl (cC, 600, .inl (nA sg))), ((da 2), .inl (cZ, 480, .inl (zA sh9))), ((da 3), .inl (cZ, 41, .inl (zA us9))), ((da 4), .inl (cZ, 41, .inl (zA (fun _ => false)))), ((da 5), .inl (cI, 61, .inl (nA ne9))), ((da 6), .inl (cI, 66, .inl (nA s1))), ((da 7), .inl (cI, 66, .inl (nA s2))), ((da 8), .inl (cI, 66, .inl (nA s3))), ((da 9), .inl (cI, 66, .inl (nA s4))), ((pa 0), .inr (1, [.ref ((pa 1)), .ref ((pa 2)), .ref ((pa 3)), .ref ((pa 4)), .ref ((pa 5)), .ref ((pa 6)), .ref ((pa 7)), .ref ((pa 8)), .ref ((pa 9)), .int (nI rg)])), ((pa 1), .inl (cI, 480, .inl (nA bn))), ((pa 2), .inl (cZ, 480, .inl (zA shr))), ((pa 3), .inl (cZ, 41, .inl (zA us))), ((pa 4), .inl (cZ, 41, .inl (zA he))), ((pa 5), .inl (cI, 61, .inl (nA ne))), ((pa 6), .inl (cI, 66, .inl (nA r1))), ((pa 7), .inl (cI, 66, .inl (nA r2))), ((pa 8), .inl (cI, 66, .inl (nA r3))), ((pa 9), .inl (cI, 66, .inl (nA r4)))]) (ga_runV (As := []) (rest := []) S hK s_SP_70 (gc_SP_addEdition l D cI cZ cC cG spo re fa shh eo ec (pa 0) (by omega) te (da 0) po none (da 1) (da 2) (da 3) (da 4) (da 5) (da 6) (da 7) (da 8) (da 9) rg9 ea ed bn9 (by omega) _) (ga_prV (y := y_SP_addEdition) (q0 := 0) hK hP hD [0, 1, 4, 5, 14, 15, 16, 17, 18, 19, 20, 21, 22] rfl (by decide) rfl rfl) rfl hl.1 rfl (Nat.le_of_ble_eq_true rfl) ⟨Nat.le_of_ble_eq_true rfl, Nat.le_of_ble_eq_true rfl⟩ ⟨Nat.le_of_ble_eq_true rfl, Nat.le_of_ble_eq_true rfl⟩ d_SP_read_64) hP hD hS hA [0, 1, 4, 5, 14, 15, 16, 17, 18, 19, 20, 21, 22] [2, 3, 6, 7, 8, 9, 10, 11, 12, 13, 23, 24, 25, 26, 27, 28, 29, 30, 31, 32] rfl rfl (by decide) (by decide) [20, 21, 0, 1, 22, 23, 2, 3, 4, 5, 6, 7, 8, 9, 24, 25, 26, 27, 28, 29, 30, 31, 32, 10, 11, 12, 13, 14, 15, 16, 17, 18, 19] (fun _ => [(spo, .inr (5, [.ref re, .ref fa, .ref shh, .ref eo, .int (nI (ec + 1)), .ref ((da 0))])), (re, .inr (2, [.ref te, .ref ((pa 0)), .int (nI po), .int (tI none)])), (te, .inr (4, [.ref ta, .int 0])), (ta, .inl (cC, 600, .inl (nA sg))), ((da 0), .inr (1, [.ref ((da 1)), .ref ((da 2)), .ref ((da 3)), .ref ((da 4)), .ref ((da 5)), .ref ((da 6)), .ref ((da 7)), .ref ((da 8)), .ref ((da 9)), .int (nI rg9)])), ((da 1), .inl (cI, 480, .inl (nA bn9))), ((da 2), .inl (cZ, 480, .inl (zA sh9))), ((da 3), .inl (cZ, 41, .inl (zA us9))), ((da 4), .inl (cZ, 41, .inl (zA (fun _ => false)))), ((da 5), .inl (cI, 61, .inl (nA ne9))), ((da 6), .inl (cI, 66, .inl (nA s1))), ((da 7), .inl (cI, 66, .inl (nA s2))), ((da 8), .inl (cI, 66, .inl (nA s3))), ((da 9), .inl (cI, 66, .inl (nA s4))), (eo, .inl (cG, 8, .inr (.inr (.inr (.inr (fun i => if i < 8 then some (ea i) else none)))))), ((ea 0), .inl (cI, 480, .inl (nA (va_up ed ec bn9 0)))), ((ea 1), .inl (cI, 480, .inl (nA (va_up ed ec bn9 1)))), ((ea 2), .inl (cI, 480, .inl (nA (va_up ed ec bn9 2)))), ((ea 3), .inl (cI, 480, .inl (nA (va_up ed ec bn9 3)))), ((ea 4), .inl (cI, 480, .inl (nA (va_up ed ec bn9 4)))), ((ea 5), .inl (cI, 480, .inl (nA (va_up ed ec bn9 5)))), ((ea 6), .inl (cI, 480, .inl (nA (va_up ed ec bn9 6)))), ((ea 7), .inl (cI, 480, .inl (nA (va_up ed ec bn9 7)))), ((pa 0), .inr (1, [.ref ((pa 1)), .ref ((pa 2)), .ref ((pa 3)), .ref ((pa 4)), .ref ((pa 5)), .ref ((pa 6)), .ref ((pa 7)), .ref ((pa 8)), .ref ((pa 9)), .int (nI rg)])), ((pa 1), .inl (cI, 480, .inl (nA bn))), ((pa 2), .inl (cZ, 480, .inl (zA shr))), ((pa 3), .inl (cZ, 41, .inl (zA us))), ((pa 4), .inl (cZ, 41, .inl (zA he))), ((pa 5), .inl (cI, 61, .inl (nA ne))), ((pa 6), .inl (cI, 66, .inl (nA r1))), ((pa 7), .inl (cI, 66, .inl (nA r2))), ((pa 8), .inl (cI, 66, .inl (nA r3))), ((pa 9), .inl (cI, 66, .inl (nA r4)))]) (fun _ => rfl) (by decide) (fun x H locs hp64 hP hD hS => ?_)
        refine lv_iload_n hx hb d_SP_read_67 rfl (lv_at hl 1 rfl) ?_
        have hP := hP.sub (ws' := [(spo, .inr (5, [.ref re, .ref fa, .ref shh, .ref eo, .int (nI (ec + 1)), .ref ((da 0))])), (re, .inr (2, [.ref te, .ref ((pa 0)), .int (nI po), .int (tI none)])), (te, .inr (4, [.ref ta, .int 0])), (ta, .inl (cC, 600, .inl (nA sg))), ((pa 0), .inr (1, [.ref ((pa 1)), .ref ((pa 2)), .ref ((pa 3)), .ref ((pa 4)), .ref ((pa 5)), .ref ((pa 6)), .ref ((pa 7)), .ref ((pa 8)), .ref ((pa 9)), .int (nI rg)])), ((pa 1), .inl (cI, 480, .inl (nA bn))), ((pa 2), .inl (cZ, 480, .inl (zA shr))), ((pa 3), .inl (cZ, 41, .inl (zA us))), ((pa 4), .inl (cZ, 41, .inl (zA he))), ((pa 5), .inl (cI, 61, .inl (nA ne))), ((pa 6), .inl (cI, 66, .inl (nA r1))), ((pa 7), .inl (cI, 66, .inl (nA r2))), ((pa 8), .inl (cI, 66, .inl (nA r3))), ((pa 9), .inl (cI, 66, .inl (nA r4))), (eo, .inl (cG, 8, .inr (.inr (.inr (.inr (fun i => if i < 8 then some (ea i) else none)))))), ((ea 0), .inl (cI, 480, .inl (nA (va_up ed ec bn9 0)))), ((ea 1), .inl (cI, 480, .inl (nA (va_up ed ec bn9 1)))), ((ea 2), .inl (cI, 480, .inl (nA (va_up ed ec bn9 2)))), ((ea 3), .inl (cI, 480, .inl (nA (va_up ed ec bn9 3)))), ((ea 4), .inl (cI, 480, .inl (nA (va_up ed ec bn9 4)))), ((ea 5), .inl (cI, 480, .inl (nA (va_up ed ec bn9 5)))), ((ea 6), .inl (cI, 480, .inl (nA (va_up ed ec bn9 6)))), ((ea 7), .inl (cI, 480, .inl (nA (va_up ed ec bn9 7)))), ((da 0), .inr (1, [.ref ((da 1)), .ref ((da 2)), .ref ((da 3)), .ref ((da 4)), .ref ((da 5)), .ref ((da 6)), .ref ((da 7)), .ref ((da 8)), .ref ((da 9)), .int (nI rg9)])), ((da 1), .inl (cI, 480, .inl (nA bn9))), ((da 2), .inl (cZ, 480, .inl (zA sh9))), ((da 3), .inl (cZ, 41, .inl (zA us9))), ((da 4), .inl (cZ, 41, .inl (zA (fun _ => false)))), ((da 5), .inl (cI, 61, .inl (nA ne9))), ((da 6), .inl (cI, 66, .inl (nA s1))), ((da 7), .inl (cI, 66, .inl (nA s2))), ((da 8), .inl (cI, 66, .inl (nA s3))), ((da 9), .inl (cI, 66, .inl (nA s4)))]) [0, 1, 2, 3, 23, 24, 25, 26, 27, 28, 29, 30, 31, 32, 14, 15, 16, 17, 18, 19, 20, 21, 22, 4, 5, 6, 7, 8, 9, 10, 11, 12, 13] rfl
        have hD := hD.sub (ws' := [(spo, .inr (5, [.ref re, .ref fa, .ref shh, .ref eo, .int (nI (ec + 1)), .ref ((da 0))])), (re, .inr (2, [.ref te, .ref ((pa 0)), .int (nI po), .int (tI none)])), (te, .inr (4, [.ref ta, .int 0])), (ta, .inl (cC, 600, .inl (nA sg))), ((pa 0), .inr (1, [.ref ((pa 1)), .ref ((pa 2)), .ref ((pa 3)), .ref ((pa 4)), .ref ((pa 5)), .ref ((pa 6)), .ref ((pa 7)), .ref ((pa 8)), .ref ((pa 9)), .int (nI rg)])), ((pa 1), .inl (cI, 480, .inl (nA bn))), ((pa 2), .inl (cZ, 480, .inl (zA shr))), ((pa 3), .inl (cZ, 41, .inl (zA us))), ((pa 4), .inl (cZ, 41, .inl (zA he))), ((pa 5), .inl (cI, 61, .inl (nA ne))), ((pa 6), .inl (cI, 66, .inl (nA r1))), ((pa 7), .inl (cI, 66, .inl (nA r2))), ((pa 8), .inl (cI, 66, .inl (nA r3))), ((pa 9), .inl (cI, 66, .inl (nA r4))), (eo, .inl (cG, 8, .inr (.inr (.inr (.inr (fun i => if i < 8 then some (ea i) else none)))))), ((ea 0), .inl (cI, 480, .inl (nA (va_up ed ec bn9 0)))), ((ea 1), .inl (cI, 480, .inl (nA (va_up ed ec bn9 1)))), ((ea 2), .inl (cI, 480, .inl (nA (va_up ed ec bn9 2)))), ((ea 3), .inl (cI, 480, .inl (nA (va_up ed ec bn9 3)))), ((ea 4), .inl (cI, 480, .inl (nA (va_up ed ec bn9 4)))), ((ea 5), .inl (cI, 480, .inl (nA (va_up ed ec bn9 5)))), ((ea 6), .inl (cI, 480, .inl (nA (va_up ed ec bn9 6)))), ((ea 7), .inl (cI, 480, .inl (nA (va_up ed ec bn9 7)))), ((da 0), .inr (1, [.ref ((da 1)), .ref ((da 2)), .ref ((da 3)), .ref ((da 4)), .ref ((da 5)), .ref ((da 6)), .ref ((da 7)), .ref ((da 8)), .ref ((da 9)), .int (nI rg9)])), ((da 1), .inl (cI, 480, .inl (nA bn9))), ((da 2), .inl (cZ, 480, .inl (zA sh9))), ((da 3), .inl (cZ, 41, .inl (zA us9))), ((da 4), .inl (cZ, 41, .inl (zA (fun _ => false)))), ((da 5), .inl (cI, 61, .inl (nA ne9))), ((da 6), .inl (cI, 66, .inl (nA s1))), ((da 7), .inl (cI, 66, .inl (nA s2))), ((da 8), .inl (cI, 66, .inl (nA s3))), ((da 9), .inl (cI, 66, .inl (nA s4)))]) [0, 1, 2, 3, 23, 24, 25, 26, 27, 28, 29, 30, 31, 32, 14, 15, 16, 17, 18, 19, 20, 21, 22, 4, 5, 6, 7, 8, 9, 10, 11, 12, 13] (by decide) rfl
        exact ga_wi ((da, pa, po, none, (bn, shr, us, ne, r1, r2, r3, r4, rg), he, (bn9, sh9, us9, ne9, s1, s2, s3, s4, rg9), (fun _ => false), va_up ed ec bn9, ec + 1) : (Nat → Nat) × (Nat → Nat) × Nat × Option Nat × gp_D × (Nat → Bool) × gp_D × (Nat → Bool) × (Nat → Nat → Nat) × Nat) S hrt hlk hP hD hS ⟨cnt, po, none, (bn9, sh9, us9, ne9, s1, s2, s3, s4, rg9), hall.symm, hok, Or.inr (Or.inr ⟨rfl, by omega, rfl, rfl⟩)⟩ d_SP_read_68
      · have c56 : ¬ (ec < 8) := fun q => c56 ((nI_ltI (a := ec) (b := 8) (by omega) (by omega)).mpr q)
        refine lv_iconst (v := (-1)) hx hb d_SP_read_59 (by decide) ?_
        refine lv_iload_n hx hb d_SP_read_60 rfl (lv_at hl 0 rfl) ?_
        refine lv_isub hx hb d_SP_read_61 ?_
        refine lv_topi (fun v1 ev1 => ?_)
        exact ga_wi ((pa, da, po, none, (bn9, sh9, us9, ne9, s1, s2, s3, s4, rg9), (fun _ => false), (bn, shr, us, ne, r1, r2, r3, r4, rg), he, ed, ec) : (Nat → Nat) × (Nat → Nat) × Nat × Option Nat × gp_D × (Nat → Bool) × gp_D × (Nat → Bool) × (Nat → Nat → Nat) × Nat) S hrt hlk hP hD hS ⟨cnt, po, none, (bn9, sh9, us9, ne9, s1, s2, s3, s4, rg9), hall.symm, hok, Or.inr (Or.inl ⟨rfl, by omega, ev1, rfl⟩)⟩ d_SP_read_62
    · exact absurd c37 (by decide)
  · obtain ⟨tz, rfl⟩ := Option.ne_none_iff_exists'.mp hp34
    refine lv_if_ne (tgt := 50) hx hb d_SP_read_37 (by decide) (fun c37 => ?_) (fun c37 => ?_)
    · exact absurd c37 (by decide)
    · refine lv_iconst (v := (-1)) hx hb d_SP_read_40 (by decide) ?_
      refine lv_aload_n hx hb d_SP_read_41 rfl (lv_at hl 2 rfl) ?_
      refine ga_get S hK hP 0 rfl f_SP_12 rfl d_SP_read_42 ?_
      refine ga_get S hK hP 1 rfl f_SP_64 rfl d_SP_read_45 ?_
      refine lv_isub hx hb d_SP_read_48 ?_
      refine lv_topi (fun v2 ev2 => ?_)
      exact ga_wi ((pa, da, po, some tz, (bn9, sh9, us9, ne9, s1, s2, s3, s4, rg9), (fun _ => false), (bn, shr, us, ne, r1, r2, r3, r4, rg), he, ed, ec) : (Nat → Nat) × (Nat → Nat) × Nat × Option Nat × gp_D × (Nat → Bool) × gp_D × (Nat → Bool) × (Nat → Nat → Nat) × Nat) S hrt hlk hP hD hS ⟨cnt, po, some tz, (bn9, sh9, us9, ne9, s1, s2, s3, s4, rg9), hall.symm, hok, Or.inl ⟨tz, rfl, ev2, rfl⟩⟩ d_SP_read_49
end
