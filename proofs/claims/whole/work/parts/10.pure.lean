/-! what the class's methods compute, over naturals -/
def gp_sl (t p s : Nat) : Nat := ((t - 1) * 3 + s) * 4 + p
theorem gp_sl_lt {t p s : Nat} (h1 : 1 ≤ t) (h2 : t ≤ 40) (h3 : p < 4) (h4 : s < 3) : gp_sl t p s < 480 := by
  unfold gp_sl
  omega
theorem gp_ltz {x : Int32} (h : x < 0) : ¬ 0 ≤ x.toInt := by
  have h1 := Int32.lt_iff_toInt_lt.mp h
  have h2 : (0 : Int32).toInt = 0 := rfl
  omega
def gp_sg (sg : Nat → Nat) (n i : Nat) : Nat := if i < n then sg i else 0
def gp_put (ch : Int32) (x : (Nat → Nat) × Nat) : (Nat → Nat) × Nat := if (32 ≤ ch ∧ ch ≤ 126) ∧ x.2 < 600 then (va_up x.1 x.2 ch.toNatClampNeg, x.2 + 1) else x
def gp_add (x : (Nat → Nat) × Nat) (sh pa t o b : Nat) : (Nat → Nat) × Nat := if x.2 < 100 then (va_up (va_up (va_up (va_up (va_up x.1 (x.2 * 5) sh) (x.2 * 5 + 1) pa) (x.2 * 5 + 2) t) (x.2 * 5 + 3) o) (x.2 * 5 + 4) b, x.2 + 1) else (x.1, x.2 + 1)
def gp_tell (told : Nat → Nat) (k : Nat) (i w : Int32) : Int32 := if 0 ≤ i.toInt ∧ i.toInt < k ∧ i.toInt < 100 ∧ 0 ≤ w.toInt ∧ w.toInt < 5 then nI (told (i.toInt.toNat * 5 + w.toInt.toNat)) else -1
def gp_si (sg : Nat → Nat) (n : Nat) (i : Int32) : Int32 := if 0 ≤ i.toInt ∧ i.toInt < n then nI (sg i.toInt.toNat) else 0
def gp_sp (x : (Nat → Nat) × Nat) (ch : Nat) : (Nat → Nat) × Nat := if x.2 < 240 then (va_up x.1 x.2 ch, x.2 + 1) else x
def tI : Option Nat → Int32
  | none => -1
  | some t => nI t
theorem tI_none {tr : Option Nat} (hb : ∀ t, tr = some t → t < 2 ^ 31) (h : tI tr = -1) : tr = none := by
  cases tr with
  | none => rfl
  | some t =>
    have h1 := nI_toInt (hb t rfl)
    have h2 : (nI t).toInt = -1 := by rw [show nI t = -1 from h]; rfl
    omega
def gp_dg (sg : Nat → Nat) (n : Nat) : Nat → Nat → Nat → Nat × Nat
  | 0, pos, num => (num, pos)
  | k + 1, pos, num => if 48 ≤ gp_sg sg n pos ∧ gp_sg sg n pos ≤ 57 then gp_dg sg n k (pos + 1) (num * 10 + gp_sg sg n pos - 48) else (num, pos)
def gp_rn (sg : Nat → Nat) (n lo hi : Nat) (x : Nat × Option Nat) : Nat × Nat × Option Nat :=
  if x.2 = none then
    if (gp_dg sg n 4 x.1 0).2 = x.1 ∨ ¬ (lo ≤ (gp_dg sg n 4 x.1 0).1 ∧ (gp_dg sg n 4 x.1 0).1 ≤ hi) then (lo, (gp_dg sg n 4 x.1 0).2, some x.1) else ((gp_dg sg n 4 x.1 0).1, (gp_dg sg n 4 x.1 0).2, none)
  else (lo, x.1, x.2)
def gp_rs (sg : Nat → Nat) (n ch : Nat) (x : Nat × Option Nat) : Nat × Option Nat := if x.2 = none then (if gp_sg sg n x.1 = ch then (x.1 + 1, none) else (x.1, some x.1)) else x
def gp_rp (sg : Nat → Nat) (n : Nat) (x : Nat × Option Nat) : Bool × Nat := if x.2 = none ∧ gp_sg sg n x.1 = 43 then (true, x.1 + 1) else (false, x.1)
theorem gp_sg_lt {sg : Nat → Nat} (h : ∀ j, sg j < 2 ^ 31) (n i : Nat) : gp_sg sg n i < 2 ^ 31 := by
  unfold gp_sg
  split
  · exact h i
  · decide
theorem gp_sg_pos {sg : Nat → Nat} {n i : Nat} (h : gp_sg sg n i ≠ 0) : i < n := by
  unfold gp_sg at h
  split at h
  · assumption
  · exact absurd rfl h
theorem gp_p10 {k : Nat} (h : k ≤ 4) : 10 ^ k ≤ 10000 := Nat.le_trans (Nat.pow_le_pow_right (by decide) h) (by decide)
theorem gp_dg_bd (sg : Nat → Nat) (n : Nat) : ∀ k pos num, pos ≤ n → pos ≤ (gp_dg sg n k pos num).2 ∧ (gp_dg sg n k pos num).2 ≤ n
  | 0, pos, num, h => ⟨Nat.le_refl _, h⟩
  | k + 1, pos, num, h => by
    unfold gp_dg
    split
    · rename_i hc
      have hp : pos < n := gp_sg_pos (sg := sg) (by omega)
      have ih := gp_dg_bd sg n k (pos + 1) (num * 10 + gp_sg sg n pos - 48) hp
      exact ⟨by omega, ih.2⟩
    · exact ⟨Nat.le_refl _, h⟩
theorem gp_rn_bad {sg : Nat → Nat} {n lo hi pos nu po : Nat} (h : gp_dg sg n 4 pos 0 = (nu, po)) (hb : po = pos ∨ ¬ (lo ≤ nu ∧ nu ≤ hi)) : gp_rn sg n lo hi (pos, none) = (lo, po, some pos) := by
  simp only [gp_rn, h, if_true]
  rw [if_pos hb]
theorem gp_rn_ok {sg : Nat → Nat} {n lo hi pos nu po : Nat} (h : gp_dg sg n 4 pos 0 = (nu, po)) (hb : ¬ po = pos) (hw : lo ≤ nu ∧ nu ≤ hi) : gp_rn sg n lo hi (pos, none) = (nu, po, none) := by
  simp only [gp_rn, h, if_true]
  rw [if_neg (fun q => q.elim hb (fun z => z hw))]
theorem gp_rn_some {sg : Nat → Nat} {n lo hi pos : Nat} {tr : Option Nat} (h : tr ≠ none) : gp_rn sg n lo hi (pos, tr) = (lo, pos, tr) := by
  rw [gp_rn, if_neg h]
theorem gp_rn_bd {sg : Nat → Nat} {n lo hi pos v po : Nat} {tr t2 : Option Nat} (h : (v, po, t2) = gp_rn sg n lo hi (pos, tr)) (hp : pos ≤ n) (hlh : lo ≤ hi) (ht : ∀ t, tr = some t → t ≤ n) : lo ≤ v ∧ v ≤ hi ∧ pos ≤ po ∧ po ≤ n ∧ (t2 = none → tr = none ∧ pos + 1 ≤ po) ∧ ∀ t, t2 = some t → t ≤ n := by
  by_cases hn : tr = none
  · subst hn
    obtain ⟨⟨nu, q⟩, hq⟩ : ∃ z, gp_dg sg n 4 pos 0 = z := ⟨_, rfl⟩
    have hb := gp_dg_bd sg n 4 pos 0 hp
    rw [hq] at hb
    simp only at hb
    by_cases hc : q = pos ∨ ¬ (lo ≤ nu ∧ nu ≤ hi)
    · rw [gp_rn_bad hq hc] at h
      cases h
      exact ⟨Nat.le_refl _, hlh, hb.1, hb.2, (fun q => by cases q), (fun t q => by cases q; exact hp)⟩
    · have hc1 : ¬ q = pos := fun z => hc (Or.inl z)
      have hc2 : lo ≤ nu ∧ nu ≤ hi := Classical.byContradiction fun z => hc (Or.inr z)
      rw [gp_rn_ok hq hc1 hc2] at h
      cases h
      exact ⟨hc2.1, hc2.2, hb.1, hb.2, fun _ => ⟨rfl, by omega⟩, fun t q => by cases q⟩
  · rw [gp_rn_some hn] at h
    cases h
    exact ⟨Nat.le_refl _, hlh, Nat.le_refl _, hp, fun q => absurd q hn, ht⟩
theorem gp_rs_bd {sg : Nat → Nat} {n ch pos po : Nat} {tr t2 : Option Nat} (h : (po, t2) = gp_rs sg n ch (pos, tr)) (hp : pos ≤ n) (hch : 0 < ch) (ht : ∀ t, tr = some t → t ≤ n) : pos ≤ po ∧ po ≤ n ∧ (t2 = none → tr = none ∧ pos + 1 ≤ po) ∧ ∀ t, t2 = some t → t ≤ n := by
  by_cases hn : tr = none
  · subst hn
    simp only [gp_rs, if_true] at h
    split at h
    · rename_i hc
      have hlt : pos < n := gp_sg_pos (sg := sg) (by omega)
      cases h
      exact ⟨by omega, hlt, fun _ => ⟨rfl, Nat.le_refl _⟩, fun t q => by cases q⟩
    · cases h
      exact ⟨Nat.le_refl _, hp, (fun q => by cases q), (fun t q => by cases q; exact hp)⟩
  · simp only [gp_rs, if_neg hn] at h
    cases h
    exact ⟨Nat.le_refl _, hp, fun q => absurd q hn, ht⟩
theorem gp_rp_bd {sg : Nat → Nat} {n pos po : Nat} {tr : Option Nat} {b : Bool} (h : (b, po) = gp_rp sg n (pos, tr)) (hp : pos ≤ n) : pos ≤ po ∧ po ≤ n := by
  simp only [gp_rp] at h
  split at h
  · rename_i hc
    have hlt : pos < n := gp_sg_pos (sg := sg) (by omega)
    cases h
    exact ⟨by omega, hlt⟩
  · cases h
    exact ⟨Nat.le_refl _, hp⟩
/-! the three sentences, and the whole text; d = (bins, shares, used, next, targets, froms, tos, kinds, how many ranges) -/
def gp_T (sg : Nat → Nat) (n pos : Nat) : Nat × Nat × Nat × Nat × Nat × Option Nat :=
  let a := gp_rn sg n 1 40 (pos, none)
  let b := gp_rs sg n 44 a.2
  let c := gp_rn sg n 0 9999 b
  let d := gp_rs sg n 45 c.2
  let e := gp_rn sg n c.1 9999 d
  let f := gp_rs sg n 44 e.2
  let g := gp_rn sg n 0 9 f
  let h := gp_rs sg n 59 g.2
  (a.1, c.1, e.1, g.1, h)
theorem gp_T_eq {sg : Nat → Nat} {n pos w1 p1 p2 w3 p3 p4 w5 p5 p6 w7 p7 p8 : Nat} {t1 t2 t3 t4 t5 t6 t7 t8 : Option Nat} (h1 : (w1, p1, t1) = gp_rn sg n 1 40 (pos, none)) (h2 : (p2, t2) = gp_rs sg n 44 (p1, t1)) (h3 : (w3, p3, t3) = gp_rn sg n 0 9999 (p2, t2)) (h4 : (p4, t4) = gp_rs sg n 45 (p3, t3)) (h5 : (w5, p5, t5) = gp_rn sg n w3 9999 (p4, t4)) (h6 : (p6, t6) = gp_rs sg n 44 (p5, t5)) (h7 : (w7, p7, t7) = gp_rn sg n 0 9 (p6, t6)) (h8 : (p8, t8) = gp_rs sg n 59 (p7, t7)) : gp_T sg n pos = (w1, w3, w5, w7, p8, t8) := by
  simp only [gp_T, ← h1, ← h2, ← h3, ← h4, ← h5, ← h6, ← h7, ← h8]
def gp_B (sg : Nat → Nat) (n pos : Nat) : Nat × Nat × Nat × Nat × Bool × Nat × Option Nat :=
  let a := gp_rn sg n 1 40 (pos, none)
  let b := gp_rs sg n 44 a.2
  let c := gp_rn sg n 0 3 b
  let d := gp_rs sg n 44 c.2
  let e := gp_rn sg n 0 2 d
  let f := gp_rs sg n 44 e.2
  let g := gp_rn sg n 1 60 f
  let h := gp_rp sg n g.2
  let i := gp_rs sg n 59 (h.2, g.2.2)
  (a.1, c.1, e.1, g.1, h.1, i)
theorem gp_B_eq {sg : Nat → Nat} {n pos w1 p1 p2 w3 p3 p4 w5 p5 p6 w7 p7 p8 p9 : Nat} {b8 : Bool} {t1 t2 t3 t4 t5 t6 t7 t9 : Option Nat} (h1 : (w1, p1, t1) = gp_rn sg n 1 40 (pos, none)) (h2 : (p2, t2) = gp_rs sg n 44 (p1, t1)) (h3 : (w3, p3, t3) = gp_rn sg n 0 3 (p2, t2)) (h4 : (p4, t4) = gp_rs sg n 44 (p3, t3)) (h5 : (w5, p5, t5) = gp_rn sg n 0 2 (p4, t4)) (h6 : (p6, t6) = gp_rs sg n 44 (p5, t5)) (h7 : (w7, p7, t7) = gp_rn sg n 1 60 (p6, t6)) (h8 : (b8, p8) = gp_rp sg n (p7, t7)) (h9 : (p9, t9) = gp_rs sg n 59 (p8, t7)) : gp_B sg n pos = (w1, w3, w5, w7, b8, p9, t9) := by
  simp only [gp_B, ← h1, ← h2, ← h3, ← h4, ← h5, ← h6, ← h7, ← h8, ← h9]
def gp_O (sg : Nat → Nat) (n pos : Nat) : Nat × Nat × Nat × Option Nat :=
  let a := gp_rn sg n 1 60 (pos, none)
  let b := gp_rs sg n 44 a.2
  let c := gp_rn sg n 1 60 b
  let d := gp_rs sg n 59 c.2
  (a.1, c.1, d)
theorem gp_O_eq {sg : Nat → Nat} {n pos w1 p1 p2 w3 p3 p4 : Nat} {t1 t2 t3 t4 : Option Nat} (h1 : (w1, p1, t1) = gp_rn sg n 1 60 (pos, none)) (h2 : (p2, t2) = gp_rs sg n 44 (p1, t1)) (h3 : (w3, p3, t3) = gp_rn sg n 1 60 (p2, t2)) (h4 : (p4, t4) = gp_rs sg n 59 (p3, t3)) : gp_O sg n pos = (w1, w3, p4, t4) := by
  simp only [gp_O, ← h1, ← h2, ← h3, ← h4]
abbrev gp_D : Type := (Nat → Nat) × (Nat → Bool) × (Nat → Bool) × (Nat → Nat) × (Nat → Nat) × (Nat → Nat) × (Nat → Nat) × (Nat → Nat) × Nat
def gp_sT (q : Nat × Nat × Nat × Nat × Nat × Option Nat) (d : gp_D) : Nat × Option Nat × gp_D :=
  match q, d with
  | (w1, w3, w5, w7, po, t), (bn, shr, us, ne, r1, r2, r3, r4, rg) => if t = none then (po, none, bn, shr, va_up us w1 true, ne, va_up r1 rg w1, va_up r2 rg w3, va_up r3 rg w5, va_up r4 rg w7, rg + 1) else (po, t, bn, shr, us, ne, r1, r2, r3, r4, rg)
def gp_sB (q : Nat × Nat × Nat × Nat × Bool × Nat × Option Nat) (st : Nat) (d : gp_D) : Nat × Option Nat × gp_D :=
  match q, d with
  | (w1, w3, w5, w7, b8, po, t), (bn, shr, us, ne, r1, r2, r3, r4, rg) => if t = none then (if bn (gp_sl w1 w3 w5) = 0 then (po, none, va_up bn (gp_sl w1 w3 w5) w7, va_up shr (gp_sl w1 w3 w5) b8, us, ne, r1, r2, r3, r4, rg) else (po, some st, bn, shr, us, ne, r1, r2, r3, r4, rg)) else (po, t, bn, shr, us, ne, r1, r2, r3, r4, rg)
def gp_sO (q : Nat × Nat × Nat × Option Nat) (st : Nat) (d : gp_D) : Nat × Option Nat × gp_D :=
  match q, d with
  | (w1, w3, po, t), (bn, shr, us, ne, r1, r2, r3, r4, rg) => if t = none then (if ne w1 = 0 then (po, none, bn, shr, us, va_up ne w1 w3, r1, r2, r3, r4, rg) else (po, some st, bn, shr, us, ne, r1, r2, r3, r4, rg)) else (po, t, bn, shr, us, ne, r1, r2, r3, r4, rg)
def gp_se (sg : Nat → Nat) (n pos : Nat) (d : gp_D) : Nat × Option Nat × gp_D :=
  if gp_sg sg n pos = 84 then gp_sT (gp_T sg n (pos + 1)) d
  else if gp_sg sg n pos = 66 then gp_sB (gp_B sg n (pos + 1)) pos d
  else if gp_sg sg n pos = 79 then gp_sO (gp_O sg n (pos + 1)) pos d
  else (pos + 1, some pos, d)
def gp_all (sg : Nat → Nat) (n : Nat) : Nat → Nat → Nat × Option Nat × gp_D → Nat × Nat × Option Nat × gp_D
  | 0, cnt, x => (cnt, x)
  | k + 1, cnt, x => if x.1 < n ∧ x.2.1 = none then gp_all sg n k (cnt + 1) (gp_se sg n x.1 x.2.2) else (cnt, x)
theorem gp_all_stop {sg : Nat → Nat} {n k cnt pos : Nat} {tr : Option Nat} {d : gp_D} (h : k = 0 ∨ ¬ pos < n ∨ tr ≠ none) : gp_all sg n k cnt (pos, tr, d) = (cnt, pos, tr, d) := by
  cases k with
  | zero => rfl
  | succ k =>
    rw [gp_all, if_neg]
    intro q
    rcases h with h | h | h
    · cases h
    · exact h q.1
    · exact h q.2
theorem gp_all_go {sg : Nat → Nat} {n k cnt pos : Nat} {d : gp_D} (h : pos < n) : gp_all sg n (k + 1) cnt (pos, none, d) = gp_all sg n k (cnt + 1) (gp_se sg n pos d) := by
  rw [gp_all, if_pos ⟨h, rfl⟩]
/-- what holds of a draft at every sentence's end -/
def gp_ok (n : Nat) (x : Nat × Option Nat × gp_D) : Prop :=
  match x with
  | (pos, tr, bn, _, us, ne, r1, r2, r3, r4, rg) => pos ≤ n ∧ (∀ t, tr = some t → t ≤ n) ∧ (∀ j, bn j ≤ 60) ∧ (∀ j, ne j ≤ 60) ∧ 9 * rg ≤ pos ∧ (∀ k, k < rg → 1 ≤ r1 k ∧ r1 k ≤ 40 ∧ r2 k ≤ 9999 ∧ r3 k ≤ 9999 ∧ r4 k ≤ 9) ∧ ∀ t, us t = true ↔ ∃ k, k < rg ∧ r1 k = t
theorem gp_T_bd {sg : Nat → Nat} {n pos w1 w3 w5 w7 po : Nat} {t : Option Nat} (h : gp_T sg n pos = (w1, w3, w5, w7, po, t)) (hp : pos ≤ n) : 1 ≤ w1 ∧ w1 ≤ 40 ∧ pos ≤ po ∧ po ≤ n ∧ (t = none → pos + 8 ≤ po) ∧ (∀ z, t = some z → z ≤ n) ∧ w3 ≤ 9999 ∧ w5 ≤ 9999 ∧ w7 ≤ 9 := by
  obtain ⟨⟨a1, a2, a3⟩, ha⟩ : ∃ z, z = gp_rn sg n 1 40 (pos, none) := ⟨_, rfl⟩
  obtain ⟨⟨b2, b3⟩, hb⟩ : ∃ z, z = gp_rs sg n 44 (a2, a3) := ⟨_, rfl⟩
  obtain ⟨⟨c1, c2, c3⟩, hc⟩ : ∃ z, z = gp_rn sg n 0 9999 (b2, b3) := ⟨_, rfl⟩
  obtain ⟨⟨d2, d3⟩, hd⟩ : ∃ z, z = gp_rs sg n 45 (c2, c3) := ⟨_, rfl⟩
  obtain ⟨⟨e1, e2, e3⟩, he⟩ : ∃ z, z = gp_rn sg n c1 9999 (d2, d3) := ⟨_, rfl⟩
  obtain ⟨⟨f2, f3⟩, hf⟩ : ∃ z, z = gp_rs sg n 44 (e2, e3) := ⟨_, rfl⟩
  obtain ⟨⟨g1, g2, g3⟩, hg⟩ : ∃ z, z = gp_rn sg n 0 9 (f2, f3) := ⟨_, rfl⟩
  obtain ⟨⟨i2, i3⟩, hi⟩ : ∃ z, z = gp_rs sg n 59 (g2, g3) := ⟨_, rfl⟩
  rw [gp_T_eq ha hb hc hd he hf hg hi] at h
  cases h
  have A := gp_rn_bd ha hp (by decide) (fun _ q => by cases q)
  have B := gp_rs_bd hb A.2.2.2.1 (by decide) A.2.2.2.2.2
  have C := gp_rn_bd hc B.2.1 (by decide) B.2.2.2
  have E0 := gp_rs_bd hd C.2.2.2.1 (by decide) C.2.2.2.2.2
  have E := gp_rn_bd he E0.2.1 C.2.1 E0.2.2.2
  have F := gp_rs_bd hf E.2.2.2.1 (by decide) E.2.2.2.2.2
  have G := gp_rn_bd hg F.2.1 (by decide) F.2.2.2
  have I := gp_rs_bd hi G.2.2.2.1 (by decide) G.2.2.2.2.2
  refine ⟨A.1, A.2.1, by omega, I.2.1, fun q => ?_, I.2.2.2, C.2.1, E.2.1, G.2.1⟩
  have h1 := I.2.2.1 q
  have h2 := G.2.2.2.2.1 h1.1
  have h3 := F.2.2.1 h2.1
  have h4 := E.2.2.2.2.1 h3.1
  have h5 := E0.2.2.1 h4.1
  have h6 := C.2.2.2.2.1 h5.1
  have h7 := B.2.2.1 h6.1
  have h8 := A.2.2.2.2.1 h7.1
  omega
theorem gp_B_bd {sg : Nat → Nat} {n pos w1 w3 w5 w7 po : Nat} {b8 : Bool} {t : Option Nat} (h : gp_B sg n pos = (w1, w3, w5, w7, b8, po, t)) (hp : pos ≤ n) : 1 ≤ w1 ∧ w1 ≤ 40 ∧ w3 ≤ 3 ∧ w5 ≤ 2 ∧ 1 ≤ w7 ∧ w7 ≤ 60 ∧ pos ≤ po ∧ po ≤ n ∧ ∀ z, t = some z → z ≤ n := by
  obtain ⟨⟨a1, a2, a3⟩, ha⟩ : ∃ z, z = gp_rn sg n 1 40 (pos, none) := ⟨_, rfl⟩
  obtain ⟨⟨b2, b3⟩, hb⟩ : ∃ z, z = gp_rs sg n 44 (a2, a3) := ⟨_, rfl⟩
  obtain ⟨⟨c1, c2, c3⟩, hc⟩ : ∃ z, z = gp_rn sg n 0 3 (b2, b3) := ⟨_, rfl⟩
  obtain ⟨⟨d2, d3⟩, hd⟩ : ∃ z, z = gp_rs sg n 44 (c2, c3) := ⟨_, rfl⟩
  obtain ⟨⟨e1, e2, e3⟩, he⟩ : ∃ z, z = gp_rn sg n 0 2 (d2, d3) := ⟨_, rfl⟩
  obtain ⟨⟨f2, f3⟩, hf⟩ : ∃ z, z = gp_rs sg n 44 (e2, e3) := ⟨_, rfl⟩
  obtain ⟨⟨g1, g2, g3⟩, hg⟩ : ∃ z, z = gp_rn sg n 1 60 (f2, f3) := ⟨_, rfl⟩
  obtain ⟨⟨j1, j2⟩, hj⟩ : ∃ z, z = gp_rp sg n (g2, g3) := ⟨_, rfl⟩
  obtain ⟨⟨i2, i3⟩, hi⟩ : ∃ z, z = gp_rs sg n 59 (j2, g3) := ⟨_, rfl⟩
  rw [gp_B_eq ha hb hc hd he hf hg hj hi] at h
  cases h
  have A := gp_rn_bd ha hp (by decide) (fun _ q => by cases q)
  have B := gp_rs_bd hb A.2.2.2.1 (by decide) A.2.2.2.2.2
  have C := gp_rn_bd hc B.2.1 (by decide) B.2.2.2
  have E0 := gp_rs_bd hd C.2.2.2.1 (by decide) C.2.2.2.2.2
  have E := gp_rn_bd he E0.2.1 (by decide) E0.2.2.2
  have F := gp_rs_bd hf E.2.2.2.1 (by decide) E.2.2.2.2.2
  have G := gp_rn_bd hg F.2.1 (by decide) F.2.2.2
  have J := gp_rp_bd hj G.2.2.2.1
  have I := gp_rs_bd hi J.2 (by decide) G.2.2.2.2.2
  exact ⟨A.1, A.2.1, C.2.1, E.2.1, G.1, G.2.1, by omega, I.2.1, I.2.2.2⟩
theorem gp_O_bd {sg : Nat → Nat} {n pos w1 w3 po : Nat} {t : Option Nat} (h : gp_O sg n pos = (w1, w3, po, t)) (hp : pos ≤ n) : 1 ≤ w1 ∧ w1 ≤ 60 ∧ 1 ≤ w3 ∧ w3 ≤ 60 ∧ pos ≤ po ∧ po ≤ n ∧ ∀ z, t = some z → z ≤ n := by
  obtain ⟨⟨a1, a2, a3⟩, ha⟩ : ∃ z, z = gp_rn sg n 1 60 (pos, none) := ⟨_, rfl⟩
  obtain ⟨⟨b2, b3⟩, hb⟩ : ∃ z, z = gp_rs sg n 44 (a2, a3) := ⟨_, rfl⟩
  obtain ⟨⟨c1, c2, c3⟩, hc⟩ : ∃ z, z = gp_rn sg n 1 60 (b2, b3) := ⟨_, rfl⟩
  obtain ⟨⟨d2, d3⟩, hd⟩ : ∃ z, z = gp_rs sg n 59 (c2, c3) := ⟨_, rfl⟩
  rw [gp_O_eq ha hb hc hd] at h
  cases h
  have A := gp_rn_bd ha hp (by decide) (fun _ q => by cases q)
  have B := gp_rs_bd hb A.2.2.2.1 (by decide) A.2.2.2.2.2
  have C := gp_rn_bd hc B.2.1 (by decide) B.2.2.2
  have E := gp_rs_bd hd C.2.2.2.1 (by decide) C.2.2.2.2.2
  exact ⟨A.1, A.2.1, C.1, C.2.1, by omega, E.2.1, E.2.2.2⟩
theorem gp_up_le {f : Nat → Nat} {k v b : Nat} (h : ∀ j, f j ≤ b) (hv : v ≤ b) : ∀ j, va_up f k v j ≤ b := by
  intro j
  unfold va_up
  split
  · exact hv
  · exact h j
theorem gp_se_ok {sg : Nat → Nat} {n pos : Nat} {d : gp_D} (hp : pos < n) (h : gp_ok n (pos, none, d)) : gp_ok n (gp_se sg n pos d) ∧ pos + 1 ≤ (gp_se sg n pos d).1 := by
  obtain ⟨bn, shr, us, ne, r1, r2, r3, r4, rg⟩ := d
  obtain ⟨h1, h2, h3, h4, h5, h6, h7⟩ := h
  unfold gp_se
  split
  · obtain ⟨⟨w1, w3, w5, w7, po, t⟩, hq⟩ : ∃ z, gp_T sg n (pos + 1) = z := ⟨_, rfl⟩
    have B := gp_T_bd hq hp
    rw [hq]
    by_cases ht : t = none
    · subst ht
      have hB := B.2.2.2.2.1 rfl
      refine ⟨⟨B.2.2.2.1, (fun _ q => by cases q), h3, h4, by omega, fun k hk => ?_, fun z => ?_⟩, by show pos + 1 ≤ po; omega⟩
      · by_cases e : k = rg
        · subst e
          rw [va_up_self, va_up_self, va_up_self, va_up_self]
          exact ⟨B.1, B.2.1, B.2.2.2.2.2.2⟩
        · rw [va_up_ne _ _ e, va_up_ne _ _ e, va_up_ne _ _ e, va_up_ne _ _ e]
          exact h6 k (by omega)
      · by_cases e : z = w1
        · subst e
          rw [va_up_self]
          exact ⟨fun _ => ⟨rg, by omega, va_up_self _ _ _⟩, fun _ => rfl⟩
        · rw [va_up_ne _ _ e, h7 z]
          constructor
          · rintro ⟨k, hk, hk2⟩
            exact ⟨k, by omega, by rw [va_up_ne _ _ (by omega)]; exact hk2⟩
          · rintro ⟨k, hk, hk2⟩
            by_cases e2 : k = rg
            · subst e2
              rw [va_up_self] at hk2
              exact absurd hk2.symm e
            · rw [va_up_ne _ _ e2] at hk2
              exact ⟨k, by omega, hk2⟩
    · simp only [gp_sT, if_neg ht]
      exact ⟨⟨B.2.2.2.1, B.2.2.2.2.2.1, h3, h4, by omega, h6, h7⟩, by omega⟩
  · split
    · obtain ⟨⟨w1, w3, w5, w7, b8, po, t⟩, hq⟩ : ∃ z, gp_B sg n (pos + 1) = z := ⟨_, rfl⟩
      have B := gp_B_bd hq hp
      rw [hq]
      by_cases ht : t = none
      · subst ht
        by_cases hz : bn (gp_sl w1 w3 w5) = 0
        · simp only [gp_sB, if_true, if_pos hz]
          exact ⟨⟨by omega, (fun _ q => by cases q), gp_up_le h3 (by omega), h4, by omega, h6, h7⟩, by omega⟩
        · simp only [gp_sB, if_true, if_neg hz]
          exact ⟨⟨by omega, (fun z q => by cases q; omega), h3, h4, by omega, h6, h7⟩, by omega⟩
      · simp only [gp_sB, if_neg ht]
        exact ⟨⟨by omega, B.2.2.2.2.2.2.2.2, h3, h4, by omega, h6, h7⟩, by omega⟩
    · split
      · obtain ⟨⟨w1, w3, po, t⟩, hq⟩ : ∃ z, gp_O sg n (pos + 1) = z := ⟨_, rfl⟩
        have B := gp_O_bd hq hp
        rw [hq]
        by_cases ht : t = none
        · subst ht
          by_cases hz : ne w1 = 0
          · simp only [gp_sO, if_true, if_pos hz]
            exact ⟨⟨by omega, (fun _ q => by cases q), h3, gp_up_le h4 (by omega), by omega, h6, h7⟩, by omega⟩
          · simp only [gp_sO, if_true, if_neg hz]
            exact ⟨⟨by omega, (fun z q => by cases q; omega), h3, h4, by omega, h6, h7⟩, by omega⟩
        · simp only [gp_sO, if_neg ht]
          exact ⟨⟨by omega, B.2.2.2.2.2.2, h3, h4, by omega, h6, h7⟩, by omega⟩
      · exact ⟨⟨hp, (fun z q => by cases q; omega), h3, h4, by omega, h6, h7⟩, Nat.le_refl _⟩
/-- arrays: what lies within the length counts -/
def gp_fl {α : Type} (f : Nat → α) (v : α) (i : Nat) : Nat → α := fun j => if j < i then v else f j
theorem gp_fl_up {α : Type} (f : Nat → α) (v : α) (i : Nat) : va_up (gp_fl f v i) i v = gp_fl f v (i + 1) := by
  funext j
  unfold va_up gp_fl
  by_cases h : j = i
  · subst h
    simp
  · by_cases h2 : j < i
    · simp [h, h2, Nat.lt_succ_of_lt h2]
    · simp [h, h2, show ¬ j < i + 1 by omega]
theorem gp_fl_0 {α : Type} (f : Nat → α) (v : α) : gp_fl f v 0 = f := by
  funext j
  simp [gp_fl]
theorem ga_setf {D : va_G} {A : Nat → Prop} {ws ws' : va_W} {H : Heap} {a n q : Nat} {c : ClassId} {f g : Nat → Int32} (hP : va_P D vwCl ws H) (hD : va_D A ws) (he : ws[q]? = some (a, .inl (c, n, .inl f))) (hfg : ∀ j, j < n → f j = g j) (hw : ws.set q (a, .inl (c, n, .inl g)) = ws') : va_P D vwCl ws' H ∧ va_D A ws' := by
  subst hw
  refine ⟨hP.set hD he ?_ (fun _ _ => rfl), hD.set he⟩
  have h1 : H[a]? = some (vp_cell c (n, .inl f)) := hP q _ he
  have h2 : vp_cell c (n, .inl f) = vp_cell c (n, .inl g) := by
    show arrV c n (fun j => .int (f j)) = arrV c n (fun j => .int (g j))
    unfold arrV
    congr 1
    apply Array.ext
    · simp
    · intro j h1 h2
      simp only [Array.getElem_ofFn]
      rw [hfg j (by simpa using h2)]
  rw [h2] at h1
  exact h1
/-! questions to the plan -/
abbrev gp_ft (r2 r3 r4 : Nat → Nat) (code kind k : Nat) : Prop := r4 k = kind ∧ r2 k ≤ code ∧ code ≤ r3 k
def gp_isL (r1 r2 r3 r4 : Nat → Nat) (rg code kind q : Nat) : Prop := (q = 0 ∧ ∀ k, k < rg → ¬ gp_ft r2 r3 r4 code kind k) ∨ ∃ k, k < rg ∧ gp_ft r2 r3 r4 code kind k ∧ q = r1 k ∧ ∀ j, j < rg → gp_ft r2 r3 r4 code kind j → r1 k ≤ r1 j
theorem gp_isL_no {r1 r2 r3 r4 : Nat → Nat} {i code kind q : Nat} (h : gp_isL r1 r2 r3 r4 i code kind q) (hf : ¬ gp_ft r2 r3 r4 code kind i) : gp_isL r1 r2 r3 r4 (i + 1) code kind q := by
  rcases h with ⟨h1, h2⟩ | ⟨k, h1, h2, h3, h4⟩
  · exact Or.inl ⟨h1, lt_s h2 hf⟩
  · exact Or.inr ⟨k, by omega, h2, h3, lt_s h4 (fun q => absurd q hf)⟩
theorem gp_isL_up {r1 r2 r3 r4 : Nat → Nat} {i code kind q : Nat} (h : gp_isL r1 r2 r3 r4 i code kind q) (hf : gp_ft r2 r3 r4 code kind i) (hr : ∀ k, k < i + 1 → 1 ≤ r1 k) (hq : q = 0 ∨ r1 i < q) : gp_isL r1 r2 r3 r4 (i + 1) code kind (r1 i) := by
  refine Or.inr ⟨i, Nat.lt_succ_self _, hf, rfl, lt_s (fun j hj hfj => ?_) (fun _ => Nat.le_refl _)⟩
  rcases h with ⟨h1, h2⟩ | ⟨k, h1, h2, h3, h4⟩
  · exact absurd hfj (h2 j hj)
  · have := hr k (by omega)
    have := h4 j hj hfj
    omega
theorem gp_isL_keep {r1 r2 r3 r4 : Nat → Nat} {i code kind q : Nat} (h : gp_isL r1 r2 r3 r4 i code kind q) (hq : ¬ q = 0) (hle : ¬ r1 i < q) : gp_isL r1 r2 r3 r4 (i + 1) code kind q := by
  rcases h with ⟨h1, h2⟩ | ⟨k, h1, h2, h3, h4⟩
  · exact absurd h1 hq
  · exact Or.inr ⟨k, by omega, h2, h3, lt_s h4 (fun _ => by omega)⟩
def gp_isP (bn : Nat → Nat) (sh q : Nat) : Prop := q ≤ 4 ∧ (∀ t p, 1 ≤ t → t ≤ 40 → p < 4 → bn (gp_sl t p sh) ≠ 0 → p < q) ∧ (0 < q → ∃ t, 1 ≤ t ∧ t ≤ 40 ∧ bn (gp_sl t (q - 1) sh) ≠ 0)
def gp_otn (f g : Nat → Nat) (b : Nat) : Nat → Bool
  | 0 => false
  | k + 1 => gp_otn f g b k || decide (f (b + k) ≠ g (b + k))
theorem gp_otn_mono {f g : Nat → Nat} {b k : Nat} (h : gp_otn f g b k = true) : ∀ m, k ≤ m → gp_otn f g b m = true := by
  intro m hm
  induction m with
  | zero =>
    have : k = 0 := by omega
    subst this
    exact h
  | succ m ih =>
    by_cases e : k = m + 1
    · subst e
      exact h
    · rw [gp_otn, ih (by omega)]
      rfl
def gp_cn (f : Nat → Bool) : Nat → Nat
  | 0 => 0
  | k + 1 => gp_cn f k + (if f k = true then 1 else 0)
theorem gp_cn_le (f : Nat → Bool) : ∀ k, gp_cn f k ≤ k
  | 0 => Nat.le_refl _
  | k + 1 => by
    have := gp_cn_le f k
    rw [gp_cn]
    split <;> omega
theorem gp_cn_congr {f g : Nat → Bool} : ∀ k, (∀ j, j < k → f j = g j) → gp_cn f k = gp_cn g k
  | 0, _ => rfl
  | k + 1, h => by rw [gp_cn, gp_cn, gp_cn_congr k (fun j hj => h j (by omega)), h k (by omega)]
def gp_sw (a b v : Nat) : Nat := if v = a then b else if v = b then a else v
def gp_ex (bn : Nat → Nat) (a b i : Nat) : Nat → Nat := fun j => if j < i then gp_sw a b (bn j) else bn j
theorem gp_ex_0 (bn : Nat → Nat) (a b : Nat) : gp_ex bn a b 0 = bn := by
  funext j
  simp [gp_ex]
theorem gp_ex_up (bn : Nat → Nat) (a b i v : Nat) (hv : v = gp_sw a b (bn i)) : va_up (gp_ex bn a b i) i v = gp_ex bn a b (i + 1) := by
  funext j
  unfold va_up gp_ex
  by_cases h : j = i
  · subst h
    simp [hv]
  · by_cases h2 : j < i
    · simp [h, h2, Nat.lt_succ_of_lt h2]
    · simp [h, h2, show ¬ j < i + 1 by omega]
theorem gp_ex_id (bn : Nat → Nat) (a b i : Nat) (hv : gp_sw a b (bn i) = bn i) : gp_ex bn a b i = gp_ex bn a b (i + 1) := by
  rw [← gp_ex_up bn a b i (bn i) hv.symm]
  funext j
  by_cases h : j = i
  · subst h
    simp [va_up, gp_ex]
  · simp [va_up, h]
def gp_it (ne : Nat → Nat) (b : Nat) : Nat → Nat
  | 0 => b
  | k + 1 => ne (gp_it ne b k)
/-! faults: st = (what is told, how many) -/
abbrev gp_F : Type := (Nat → Nat) × Nat
theorem gp_add_2 (x : gp_F) (sh pa t o b : Nat) : (gp_add x sh pa t o b).2 = x.2 + 1 := by
  unfold gp_add
  split <;> rfl
def gp_hl (us : Nat → Bool) (bn : Nat → Nat) (sh pa : Nat) (st : gp_F) : Nat → gp_F
  | 0 => st
  | i + 1 => if us (i + 1) = true ∧ bn (gp_sl (i + 1) pa sh) = 0 then gp_add (gp_hl us bn sh pa st i) sh pa (i + 1) 0 0 else gp_hl us bn sh pa st i
theorem gp_hl_le (us : Nat → Bool) (bn : Nat → Nat) (sh pa : Nat) (st : gp_F) : ∀ i, (gp_hl us bn sh pa st i).2 ≤ st.2 + i
  | 0 => Nat.le_refl _
  | i + 1 => by
    have := gp_hl_le us bn sh pa st i
    rw [gp_hl]
    split
    · rw [gp_add_2]
      omega
    · omega
abbrev gp_dc (us : Nat → Bool) (bn : Nat → Nat) (shr : Nat → Bool) (sh pa a b : Nat) : Prop := a < b ∧ bn (gp_sl a pa sh) ≠ 0 ∧ bn (gp_sl a pa sh) = bn (gp_sl b pa sh) ∧ ¬ (shr (gp_sl a pa sh) = true ∧ shr (gp_sl b pa sh) = true) ∧ us a = true ∧ us b = true
def gp_db (us : Nat → Bool) (bn : Nat → Nat) (shr : Nat → Bool) (sh pa : Nat) (st : gp_F) : Nat → gp_F
  | 0 => st
  | m + 1 => if gp_dc us bn shr sh pa (m / 40 + 1) (m % 40 + 1) then gp_add (gp_db us bn shr sh pa st m) sh pa (m / 40 + 1) (m % 40 + 1) (bn (gp_sl (m / 40 + 1) pa sh)) else gp_db us bn shr sh pa st m
theorem gp_db_le (us : Nat → Bool) (bn : Nat → Nat) (shr : Nat → Bool) (sh pa : Nat) (st : gp_F) : ∀ i, (gp_db us bn shr sh pa st i).2 ≤ st.2 + i
  | 0 => Nat.le_refl _
  | i + 1 => by
    have := gp_db_le us bn shr sh pa st i
    rw [gp_db]
    split
    · rw [gp_add_2]
      omega
    · omega
/-- a stretch of pairs none of which counts -/
theorem gp_db_none {us : Nat → Bool} {bn : Nat → Nat} {shr : Nat → Bool} {sh pa : Nat} {st : gp_F} {m : Nat} : ∀ k, (∀ i, m ≤ i → i < m + k → ¬ gp_dc us bn shr sh pa (i / 40 + 1) (i % 40 + 1)) → gp_db us bn shr sh pa st (m + k) = gp_db us bn shr sh pa st m
  | 0, _ => rfl
  | k + 1, h => by
    rw [show m + (k + 1) = (m + k) + 1 from rfl, gp_db, if_neg (h (m + k) (by omega) (by omega))]
    exact gp_db_none k (fun i h1 h2 => h i h1 (by omega))
theorem gp_db_skip {us : Nat → Bool} {bn : Nat → Nat} {shr : Nat → Bool} {sh pa : Nat} {st : gp_F} {a j : Nat} (h1 : 1 ≤ a) (h2 : a ≤ 40) (hj : j ≤ a) : gp_db us bn shr sh pa st (40 * (a - 1) + j) = gp_db us bn shr sh pa st (40 * (a - 1)) :=
  gp_db_none j (fun i a1 a2 q => by have := q.1; omega)
theorem gp_db_skipA {us : Nat → Bool} {bn : Nat → Nat} {shr : Nat → Bool} {sh pa : Nat} {st : gp_F} {a : Nat} (h1 : 1 ≤ a) (h : us a = false ∨ bn (gp_sl a pa sh) = 0) : gp_db us bn shr sh pa st (40 * a) = gp_db us bn shr sh pa st (40 * (a - 1)) := by
  have e : 40 * a = 40 * (a - 1) + 40 := by omega
  rw [e]
  refine gp_db_none 40 (fun i a1 a2 q => ?_)
  have hi : i / 40 + 1 = a := by omega
  rw [hi] at q
  rcases h with h | h
  · have q2 := q.2.2.2.2.1
    rw [h] at q2
    exact absurd q2 (by decide)
  · exact q.2.1 h
theorem gp_db_step {us : Nat → Bool} {bn : Nat → Nat} {shr : Nat → Bool} {sh pa : Nat} {st : gp_F} {a b : Nat} (h1 : 1 ≤ a) (hb : 1 ≤ b) (hb2 : b ≤ 40) : gp_db us bn shr sh pa st (40 * (a - 1) + (b - 1) + 1) = if gp_dc us bn shr sh pa a b then gp_add (gp_db us bn shr sh pa st (40 * (a - 1) + (b - 1))) sh pa a b (bn (gp_sl a pa sh)) else gp_db us bn shr sh pa st (40 * (a - 1) + (b - 1)) := by
  rw [gp_db, show (40 * (a - 1) + (b - 1)) / 40 + 1 = a by omega, show (40 * (a - 1) + (b - 1)) % 40 + 1 = b by omega]
def gp_ck (us : Nat → Bool) (bn : Nat → Nat) (shr : Nat → Bool) (pq : Nat → Nat) (st : gp_F) : Nat → gp_F
  | 0 => st
  | m + 1 => gp_db us bn shr (m / 4) (m % 4) (if m % 4 < pq (m / 4) then gp_hl us bn (m / 4) (m % 4) (gp_ck us bn shr pq st m) 40 else gp_ck us bn shr pq st m) 1600
theorem gp_ck_le (us : Nat → Bool) (bn : Nat → Nat) (shr : Nat → Bool) (pq : Nat → Nat) (st : gp_F) : ∀ i, (gp_ck us bn shr pq st i).2 ≤ st.2 + 1640 * i
  | 0 => Nat.le_refl _
  | i + 1 => by
    have h0 := gp_ck_le us bn shr pq st i
    rw [gp_ck]
    split
    · have h1 := gp_hl_le us bn (i / 4) (i % 4) (gp_ck us bn shr pq st i) 40
      have h2 := gp_db_le us bn shr (i / 4) (i % 4) (gp_hl us bn (i / 4) (i % 4) (gp_ck us bn shr pq st i) 40) 1600
      exact Nat.le_trans h2 (by omega)
    · have h2 := gp_db_le us bn shr (i / 4) (i % 4) (gp_ck us bn shr pq st i) 1600
      exact Nat.le_trans h2 (by omega)
theorem gp_ck_in {us : Nat → Bool} {bn : Nat → Nat} {shr : Nat → Bool} {pq : Nat → Nat} {st : gp_F} {sh pa : Nat} (hp : pa < 4) (hq : pa < pq sh) : gp_ck us bn shr pq st (4 * sh + pa + 1) = gp_db us bn shr sh pa (gp_hl us bn sh pa (gp_ck us bn shr pq st (4 * sh + pa)) 40) 1600 := by
  rw [gp_ck, show (4 * sh + pa) / 4 = sh by omega, show (4 * sh + pa) % 4 = pa by omega, if_pos hq]
theorem gp_ck_out {us : Nat → Bool} {bn : Nat → Nat} {shr : Nat → Bool} {pq : Nat → Nat} {st : gp_F} {sh pa : Nat} (hp : pa < 4) (hP : gp_isP bn sh (pq sh)) (hq : ¬ pa < pq sh) : gp_ck us bn shr pq st (4 * sh + pa + 1) = gp_ck us bn shr pq st (4 * sh + pa) := by
  rw [gp_ck, show (4 * sh + pa) / 4 = sh by omega, show (4 * sh + pa) % 4 = pa by omega, if_neg hq]
  have h := gp_db_none (us := us) (bn := bn) (shr := shr) (sh := sh) (pa := pa) (st := gp_ck us bn shr pq st (4 * sh + pa)) (m := 0) 1600 (fun i _ hi q => by
    have h1 : i / 40 < 40 := by omega
    exact hq (hP.2.1 (i / 40 + 1) pa (by omega) (by omega) hp q.2.1))
  rw [Nat.zero_add] at h
  rw [h, gp_db]
theorem gp_ck_end {us : Nat → Bool} {bn : Nat → Nat} {shr : Nat → Bool} {pq : Nat → Nat} {st : gp_F} {sh : Nat} (hP : gp_isP bn sh (pq sh)) : ∀ k, pq sh + k ≤ 4 → gp_ck us bn shr pq st (4 * sh + (pq sh + k)) = gp_ck us bn shr pq st (4 * sh + pq sh)
  | 0, _ => rfl
  | k + 1, h => by
    rw [show 4 * sh + (pq sh + (k + 1)) = 4 * sh + (pq sh + k) + 1 by omega, gp_ck_out (by omega) hP (by omega)]
    exact gp_ck_end hP k (by omega)
theorem gp_ck_congr {us : Nat → Bool} {bn : Nat → Nat} {shr : Nat → Bool} {p1 p2 : Nat → Nat} {st : gp_F} : ∀ m, (∀ i, i < m → p1 (i / 4) = p2 (i / 4)) → gp_ck us bn shr p1 st m = gp_ck us bn shr p2 st m
  | 0, _ => rfl
  | m + 1, h => by rw [gp_ck, gp_ck, gp_ck_congr m (fun i hi => h i (by omega)), h m (by omega)]
theorem bI_inj {a b : Bool} (h : bI a = bI b) : a = b := by
  cases a <;> cases b <;> first | rfl | exact absurd h (by decide)
