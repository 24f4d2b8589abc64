section GQ
variable {p : Program} {l : Launch} {e : Env} {R : Room} {s : State} {m : MethodId} {args : Array Value} {below : List Frame} {meth : Method} {c : Code} {H : Heap} {locs : List Loc} {cells slots : Nat} {Q : State → Prop}
variable {cc : ByteArray} {nL pc : Nat} {own : String} {ls : Array Slot} {rest st0 : List Value} {D : va_G} {tys : List (ClassId × FieldType)} {ws ws' : va_W} {A : Nat → Prop} {a : Nat}
theorem ga_aaN (S : CallFix p m c cc nL s args gw own) (hK : ga_K D tys s) (hP : va_P D vwCl ws H) (q0 t0 : Nat) {cA : ClassId} {n : Nat} {f : Nat → Option Nat} (ha : ws[q0]? = some (a, .inl (cA, n, .inr (.inr (.inr (.inr f)))))) (ht : tys[t0]? = some (cA, .array .int)) (j : Nat) (hj : j < n) (hn : n < 2 ^ 31) {a1 : Nat} (hf : f j = some a1) (hdg : decode cc pc = .ok (.aaload, 1)) (kk : W p l e R s m args below meth c H locs cells slots Q (F0 m (pc + 1) ls (.ref a1 :: rest))) : W p l e R s m args below meth c H locs cells slots Q (F0 m pc ls (.int (nI j) :: .ref a :: rest)) := by
  refine ga_aald S hK hP q0 t0 ha ht (vp_in_nI hj hn) hdg ?_
  rw [nI_clamp (Nat.lt_trans hj hn), hf]
  exact kk
theorem ga_copy {index a0 : Nat} {cI : ClassId} {f g : Nat → Nat} (S : CallFix p m c cc nL s args gw own) (hl : ls.size = nL) (hlink : Cond.methodLink own index arraycopyName ∈ gw) (hK : ga_K D tys s) (hP : va_P D vwCl ws H) (hD : va_D A ws) (hS : va_S A s.heap H locs) (q0 q1 : Nat) (ha0 : ws[q0]? = some (a0, .inl (cI, 480, .inl (nA f)))) (ha1 : ws[q1]? = some (a, .inl (cI, 480, .inl (nA g)))) (ht : tys[0]? = some (cI, .int)) (hframes : 1 ≤ R.frames) (hlocals : (rest.map fun v => v.category).sum + (nativeFrameWords "java/lang/System" "arraycopy" 5 + 11) ≤ R.locals) (hw : ws.set q1 (a, .inl (cI, 480, .inl (nA f))) = ws') (hdg : decode cc pc = .ok (.invokestatic index, 3)) (kk : ∀ (H1 : Heap) (locs1 : List Loc), va_P D vwCl ws' H1 → va_D A ws' → va_S A s.heap H1 locs1 → W p l e R s m args below meth c H1 locs1 cells slots Q (F0 m (pc + 3) ls rest)) : W p l e R s m args below meth c H locs cells slots Q (F0 m pc ls (.int 480 :: .int 0 :: .ref a :: .int 0 :: .ref a0 :: rest)) := by
  refine va_copyi S.1 S.2.1 (S.2.2.1.trans hl.symm) S.2.2.2.1 (S.2.2.2.2 _ hlink) (S.2.2.2.2 _ sy_n) (S.2.2.2.2 _ sy_s) (S.2.2.2.2 _ sy_i) hK.1 hP hD hS q0 q1 0 0 ha0 ha1 ht ht rfl (by decide) (by decide) (by decide) (by decide) (by decide) (fun i _ => rfl) hframes hlocals hdg (fun H1 locs1 hP1 hD1 hS1 => ?_)
  have hlen : q1 < ws.length := (List.getElem?_eq_some_iff.mp ha1).1
  obtain ⟨h1, h2⟩ := ga_setf (q := q1) (g := nA f) (ws' := ws') hP1 hD1 (by rw [List.getElem?_set_self hlen]) (fun j hj => by
    show va_cpy (nA f) (nA g) 0 0 480 j = nA f j
    rw [pk_cpy_in (by omega) (by omega)]
    simp) (by rw [List.set_set]; exact hw)
  exact kk H1 locs1 h1 h2 hS1
end GQ
