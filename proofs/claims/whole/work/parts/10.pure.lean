/-! what the class's methods compute, over naturals -/
def gp_sl (t p s : Nat) : Nat := ((t - 1) * 3 + s) * 4 + p
theorem gp_sl_lt {t p s : Nat} (h1 : 1 ≤ t) (h2 : t ≤ 40) (h3 : p < 4) (h4 : s < 3) : gp_sl t p s < 480 := by
  unfold gp_sl
  omega
theorem gp_ltz {x : Int32} (h : x < 0) : ¬ 0 ≤ x.toInt := by
  have h1 := Int32.lt_iff_toInt_lt.mp h
  have h2 : (0 : Int32).toInt = 0 := rfl
  omega
def gp_sg (sg : Nat → Nat) (n i : Nat) : Nat := if i < n then sg i else 0
def gp_put (ch : Int32) (x : (Nat → Nat) × Nat) : (Nat → Nat) × Nat := if (32 ≤ ch ∧ ch ≤ 126) ∧ x.2 < 600 then (va_up x.1 x.2 ch.toNatClampNeg, x.2 + 1) else x
def gp_add (x : (Nat → Nat) × Nat) (sh pa t o b : Nat) : (Nat → Nat) × Nat := if x.2 < 100 then (va_up (va_up (va_up (va_up (va_up x.1 (x.2 * 5) sh) (x.2 * 5 + 1) pa) (x.2 * 5 + 2) t) (x.2 * 5 + 3) o) (x.2 * 5 + 4) b, x.2 + 1) else (x.1, x.2 + 1)
def gp_tell (told : Nat → Nat) (k : Nat) (i w : Int32) : Int32 := if 0 ≤ i.toInt ∧ i.toInt < k ∧ i.toInt < 100 ∧ 0 ≤ w.toInt ∧ w.toInt < 5 then nI (told (i.toInt.toNat * 5 + w.toInt.toNat)) else -1
def gp_si (sg : Nat → Nat) (n : Nat) (i : Int32) : Int32 := if 0 ≤ i.toInt ∧ i.toInt < n then nI (sg i.toInt.toNat) else 0
def gp_sp (x : (Nat → Nat) × Nat) (ch : Nat) : (Nat → Nat) × Nat := if x.2 < 240 then (va_up x.1 x.2 ch, x.2 + 1) else x
def tI : Option Nat → Int32
  | none => -1
  | some t => nI t
theorem tI_none {tr : Option Nat} (hb : ∀ t, tr = some t → t < 2 ^ 31) (h : tI tr = -1) : tr = none := by
  cases tr with
  | none => rfl
  | some t =>
    have h1 := nI_toInt (hb t rfl)
    have h2 : (nI t).toInt = -1 := by rw [show nI t = -1 from h]; rfl
    omega
def gp_dg (sg : Nat → Nat) (n : Nat) : Nat → Nat → Nat → Nat × Nat
  | 0, pos, num => (num, pos)
  | k + 1, pos, num => if 48 ≤ gp_sg sg n pos ∧ gp_sg sg n pos ≤ 57 then gp_dg sg n k (pos + 1) (num * 10 + gp_sg sg n pos - 48) else (num, pos)
def gp_rn (sg : Nat → Nat) (n lo hi : Nat) (x : Nat × Option Nat) : Nat × Nat × Option Nat :=
  if x.2 = none then
    if (gp_dg sg n 4 x.1 0).2 = x.1 ∨ ¬ (lo ≤ (gp_dg sg n 4 x.1 0).1 ∧ (gp_dg sg n 4 x.1 0).1 ≤ hi) then (lo, (gp_dg sg n 4 x.1 0).2, some x.1) else ((gp_dg sg n 4 x.1 0).1, (gp_dg sg n 4 x.1 0).2, none)
  else (lo, x.1, x.2)
def gp_rs (sg : Nat → Nat) (n ch : Nat) (x : Nat × Option Nat) : Nat × Option Nat := if x.2 = none then (if gp_sg sg n x.1 = ch then (x.1 + 1, none) else (x.1, some x.1)) else x
def gp_rp (sg : Nat → Nat) (n : Nat) (x : Nat × Option Nat) : Bool × Nat := if x.2 = none ∧ gp_sg sg n x.1 = 43 then (true, x.1 + 1) else (false, x.1)
theorem gp_sg_lt {sg : Nat → Nat} (h : ∀ j, sg j < 2 ^ 31) (n i : Nat) : gp_sg sg n i < 2 ^ 31 := by
  unfold gp_sg
  split
  · exact h i
  · decide
theorem gp_sg_pos {sg : Nat → Nat} {n i : Nat} (h : gp_sg sg n i ≠ 0) : i < n := by
  unfold gp_sg at h
  split at h
  · assumption
  · exact absurd rfl h
theorem gp_p10 {k : Nat} (h : k ≤ 4) : 10 ^ k ≤ 10000 := Nat.le_trans (Nat.pow_le_pow_right (by decide) h) (by decide)
theorem gp_dg_bd (sg : Nat → Nat) (n : Nat) : ∀ k pos num, pos ≤ n → pos ≤ (gp_dg sg n k pos num).2 ∧ (gp_dg sg n k pos num).2 ≤ n
  | 0, pos, num, h => ⟨Nat.le_refl _, h⟩
  | k + 1, pos, num, h => by
    unfold gp_dg
    split
    · rename_i hc
      have hp : pos < n := gp_sg_pos (sg := sg) (by omega)
      have ih := gp_dg_bd sg n k (pos + 1) (num * 10 + gp_sg sg n pos - 48) hp
      exact ⟨by omega, ih.2⟩
    · exact ⟨Nat.le_refl _, h⟩
theorem gp_rn_bad {sg : Nat → Nat} {n lo hi pos nu po : Nat} (h : gp_dg sg n 4 pos 0 = (nu, po)) (hb : po = pos ∨ ¬ (lo ≤ nu ∧ nu ≤ hi)) : gp_rn sg n lo hi (pos, none) = (lo, po, some pos) := by
  simp only [gp_rn, h, if_true]
  rw [if_pos hb]
theorem gp_rn_ok {sg : Nat → Nat} {n lo hi pos nu po : Nat} (h : gp_dg sg n 4 pos 0 = (nu, po)) (hb : ¬ po = pos) (hw : lo ≤ nu ∧ nu ≤ hi) : gp_rn sg n lo hi (pos, none) = (nu, po, none) := by
  simp only [gp_rn, h, if_true]
  rw [if_neg (fun q => q.elim hb (fun z => z hw))]
theorem gp_rn_some {sg : Nat → Nat} {n lo hi pos : Nat} {tr : Option Nat} (h : tr ≠ none) : gp_rn sg n lo hi (pos, tr) = (lo, pos, tr) := by
  rw [gp_rn, if_neg h]
theorem gp_rn_bd {sg : Nat → Nat} {n lo hi pos v po : Nat} {tr t2 : Option Nat} (h : (v, po, t2) = gp_rn sg n lo hi (pos, tr)) (hp : pos ≤ n) (hlh : lo ≤ hi) (ht : ∀ t, tr = some t → t ≤ n) : lo ≤ v ∧ v ≤ hi ∧ pos ≤ po ∧ po ≤ n ∧ (t2 = none → tr = none ∧ pos + 1 ≤ po) ∧ ∀ t, t2 = some t → t ≤ n := by
  by_cases hn : tr = none
  · subst hn
    obtain ⟨⟨nu, q⟩, hq⟩ : ∃ z, gp_dg sg n 4 pos 0 = z := ⟨_, rfl⟩
    have hb := gp_dg_bd sg n 4 pos 0 hp
    rw [hq] at hb
    simp only at hb
    by_cases hc : q = pos ∨ ¬ (lo ≤ nu ∧ nu ≤ hi)
    · rw [gp_rn_bad hq hc] at h
      cases h
      exact ⟨Nat.le_refl _, hlh, hb.1, hb.2, (fun q => by cases q), (fun t q => by cases q; exact hp)⟩
    · have hc1 : ¬ q = pos := fun z => hc (Or.inl z)
      have hc2 : lo ≤ nu ∧ nu ≤ hi := Classical.byContradiction fun z => hc (Or.inr z)
      rw [gp_rn_ok hq hc1 hc2] at h
      cases h
      exact ⟨hc2.1, hc2.2, hb.1, hb.2, fun _ => ⟨rfl, by omega⟩, fun t q => by cases q⟩
  · rw [gp_rn_some hn] at h
    cases h
    exact ⟨Nat.le_refl _, hlh, Nat.le_refl _, hp, fun q => absurd q hn, ht⟩
theorem gp_rs_bd {sg : Nat → Nat} {n ch pos po : Nat} {tr t2 : Option Nat} (h : (po, t2) = gp_rs sg n ch (pos, tr)) (hp : pos ≤ n) (hch : 0 < ch) (ht : ∀ t, tr = some t → t ≤ n) : pos ≤ po ∧ po ≤ n ∧ (t2 = none → tr = none ∧ pos + 1 ≤ po) ∧ ∀ t, t2 = some t → t ≤ n := by
  by_cases hn : tr = none
  · subst hn
    simp only [gp_rs, if_true] at h
    split at h
    · rename_i hc
      have hlt : pos < n := gp_sg_pos (sg := sg) (by omega)
      cases h
      exact ⟨by omega, hlt, fun _ => ⟨rfl, Nat.le_refl _⟩, fun t q => by cases q⟩
    · cases h
      exact ⟨Nat.le_refl _, hp, (fun q => by cases q), (fun t q => by cases q; exact hp)⟩
  · simp only [gp_rs, if_neg hn] at h
    cases h
    exact ⟨Nat.le_refl _, hp, fun q => absurd q hn, ht⟩
theorem gp_rp_bd {sg : Nat → Nat} {n pos po : Nat} {tr : Option Nat} {b : Bool} (h : (b, po) = gp_rp sg n (pos, tr)) (hp : pos ≤ n) : pos ≤ po ∧ po ≤ n := by
  simp only [gp_rp] at h
  split at h
  · rename_i hc
    have hlt : pos < n := gp_sg_pos (sg := sg) (by omega)
    cases h
    exact ⟨by omega, hlt⟩
  · cases h
    exact ⟨Nat.le_refl _, hp⟩
