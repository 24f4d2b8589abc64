/-! the reference's own layout -/
def gm_pl (e t p s : Nat) : Nat := 492 * e + 164 * s + 41 * p + t
def gm_lk (sg : Nat → Nat) (n pos : Nat) : Int32 := if pos < n then nI (sg pos) else -1
def gm_fl (wr : Option Nat) (w : Nat) : Option Nat := if wr = none then some w else wr
theorem tI_neg {wr : Option Nat} (hb : ∀ t, wr = some t → t < 2 ^ 31) : (tI wr < 0 → wr = none) ∧ (¬ tI wr < 0 → wr ≠ none) := by
  cases wr with
  | none => exact ⟨fun _ => rfl, fun h => absurd (show tI none < 0 by decide) h⟩
  | some t => exact ⟨fun h => absurd h (nI_pos (hb t rfl)), fun _ q => by cases q⟩
theorem tI_ge {wr : Option Nat} (hb : ∀ t, wr = some t → t < 2 ^ 31) : (0 ≤ tI wr → wr ≠ none) ∧ (¬ 0 ≤ tI wr → wr = none) := by
  cases wr with
  | none => exact ⟨fun h => absurd h (by decide), fun _ => rfl⟩
  | some t => exact ⟨(fun _ q => by cases q), fun h => absurd (nI_pos' (hb t rfl)) h⟩
theorem gm_lk_in {sg : Nat → Nat} {n pos : Nat} (h : pos < n) : gm_lk sg n pos = nI (gp_sg sg n pos) := by rw [gm_lk, gp_sg, if_pos h, if_pos h]
theorem gm_lk_out {sg : Nat → Nat} {n pos : Nat} (h : ¬ pos < n) : gm_lk sg n pos = -1 ∧ gp_sg sg n pos = 0 := by rw [gm_lk, gp_sg, if_neg h, if_neg h]; exact ⟨rfl, rfl⟩
/-- what is looked at, against a number of at least 1 -/
theorem gm_lk_lt {sg : Nat → Nat} {n pos k : Nat} (hsg : ∀ j, sg j < 2 ^ 31) (h1 : 1 ≤ k) (hk : k < 2 ^ 31) : gm_lk sg n pos < nI k ↔ gp_sg sg n pos < k := by
  by_cases h : pos < n
  · rw [gm_lk_in h]
    exact nI_ltI (gp_sg_lt hsg n pos) hk
  · rw [(gm_lk_out h).1, (gm_lk_out h).2]
    refine ⟨fun _ => h1, fun _ => ?_⟩
    have := nI_toInt hk
    rw [Int32.lt_iff_toInt_lt, this]
    show (-1 : Int) < _
    omega
theorem gm_lk_gt {sg : Nat → Nat} {n pos k : Nat} (hsg : ∀ j, sg j < 2 ^ 31) (hk : k < 2 ^ 31) : nI k < gm_lk sg n pos ↔ k < gp_sg sg n pos := by
  by_cases h : pos < n
  · rw [gm_lk_in h]
    exact nI_ltI hk (gp_sg_lt hsg n pos)
  · rw [(gm_lk_out h).1, (gm_lk_out h).2]
    refine ⟨fun q => ?_, fun q => by omega⟩
    have := nI_toInt hk
    rw [Int32.lt_iff_toInt_lt, this] at q
    have q2 : (k : Int) < -1 := q
    omega
theorem gm_lk_eq {sg : Nat → Nat} {n pos k : Nat} (hsg : ∀ j, sg j < 2 ^ 31) (h1 : 1 ≤ k) (hk : k < 2 ^ 31) : gm_lk sg n pos = nI k ↔ gp_sg sg n pos = k := by
  by_cases h : pos < n
  · rw [gm_lk_in h]
    exact nI_eq (gp_sg_lt hsg n pos) hk
  · rw [(gm_lk_out h).1, (gm_lk_out h).2]
    refine ⟨fun q => ?_, fun q => by omega⟩
    have h2 := nI_toInt hk
    rw [← q] at h2
    have h3 : (-1 : Int) = k := h2
    omega
/-- a draft of the class and the reference's new rows -/
def gm_R (d : gp_D) (mb : Nat → Nat) (mns : Nat → Bool) (nc : Nat → Nat) (nw : Nat) (nn : Nat → Nat) : Prop :=
  match d with
  | (bn, shr, _, ne, r1, r2, r3, r4, rg) => nw = rg ∧ nn = ne ∧ (∀ k, k < rg → nc (4 * k) = r1 k ∧ nc (4 * k + 1) = r2 k ∧ nc (4 * k + 2) = r3 k ∧ nc (4 * k + 3) = r4 k) ∧ (∀ t p s, 1 ≤ t → t ≤ 40 → p < 4 → s < 3 → mb (gm_pl 9 t p s) = bn (gp_sl t p s) ∧ (bn (gp_sl t p s) ≠ 0 → mns (gm_pl 0 t p s) = shr (gp_sl t p s))) ∧ ∀ p s, p < 4 → s < 3 → mb (gm_pl 9 0 p s) = 0
theorem gp_sl_inj {t p s t' p' s' : Nat} (h1 : 1 ≤ t) (h2 : 1 ≤ t') (hp : p < 4) (hp' : p' < 4) (hs : s < 3) (hs' : s' < 3) (h : gp_sl t p s = gp_sl t' p' s') : t = t' ∧ p = p' ∧ s = s' := by
  unfold gp_sl at h
  omega
theorem gm_pl_inj {e t p s t' p' s' : Nat} (h1 : t ≤ 40) (h2 : t' ≤ 40) (hp : p < 4) (hp' : p' < 4) (hs : s < 3) (hs' : s' < 3) (h : gm_pl e t p s = gm_pl e t' p' s') : t = t' ∧ p = p' ∧ s = s' := by
  unfold gm_pl at h
  omega
theorem gm_R_T {bn : Nat → Nat} {shr us : Nat → Bool} {ne r1 r2 r3 r4 : Nat → Nat} {rg : Nat} {mb : Nat → Nat} {mns : Nat → Bool} {nc : Nat → Nat} {nw : Nat} {nn : Nat → Nat} (h : gm_R (bn, shr, us, ne, r1, r2, r3, r4, rg) mb mns nc nw nn) (u2 : Nat → Bool) (w1 w3 w5 w7 : Nat) : gm_R (bn, shr, u2, ne, va_up r1 rg w1, va_up r2 rg w3, va_up r3 rg w5, va_up r4 rg w7, rg + 1) mb mns (va_up (va_up (va_up (va_up nc (4 * nw) w1) (4 * nw + 1) w3) (4 * nw + 2) w5) (4 * nw + 3) w7) (nw + 1) nn := by
  obtain ⟨h1, h2, h3, h4, h5⟩ := h
  subst h1
  refine ⟨rfl, h2, fun k hk => ?_, h4, h5⟩
  by_cases e : k = nw
  · subst e
    simp [va_up]
  · have hk2 := h3 k (by omega)
    simp only [va_up, if_neg e]
    rw [if_neg (by omega), if_neg (by omega), if_neg (by omega), if_neg (by omega), if_neg (by omega), if_neg (by omega), if_neg (by omega), if_neg (by omega), if_neg (by omega), if_neg (by omega), if_neg (by omega), if_neg (by omega), if_neg (by omega), if_neg (by omega), if_neg (by omega), if_neg (by omega)]
    exact hk2
theorem gm_R_B {bn : Nat → Nat} {shr us : Nat → Bool} {ne r1 r2 r3 r4 : Nat → Nat} {rg : Nat} {mb : Nat → Nat} {mns : Nat → Bool} {nc : Nat → Nat} {nw : Nat} {nn : Nat → Nat} (h : gm_R (bn, shr, us, ne, r1, r2, r3, r4, rg) mb mns nc nw nn) {w1 w3 w5 w7 : Nat} {b8 : Bool} (a1 : 1 ≤ w1) (a2 : w1 ≤ 40) (a3 : w3 ≤ 3) (a4 : w5 ≤ 2) : gm_R (va_up bn (gp_sl w1 w3 w5) w7, va_up shr (gp_sl w1 w3 w5) b8, us, ne, r1, r2, r3, r4, rg) (va_up mb (gm_pl 9 w1 w3 w5) w7) (va_up mns (gm_pl 9 w1 w3 w5 - 4428) b8) nc nw nn := by
  obtain ⟨h1, h2, h3, h4, h5⟩ := h
  refine ⟨h1, h2, h3, fun t p s t1 t2 hp hs => ?_, fun p s hp hs => ?_⟩
  · by_cases e : t = w1 ∧ p = w3 ∧ s = w5
    · obtain ⟨rfl, rfl, rfl⟩ := e
      have e2 : gm_pl 9 t p s - 4428 = gm_pl 0 t p s := by unfold gm_pl; omega
      rw [va_up_self, va_up_self, e2, va_up_self, va_up_self]
      exact ⟨rfl, fun _ => rfl⟩
    · have n1 : gm_pl 9 t p s ≠ gm_pl 9 w1 w3 w5 := fun q => e (gm_pl_inj t2 a2 hp (by omega) hs (by omega) q)
      have n2 : gp_sl t p s ≠ gp_sl w1 w3 w5 := fun q => e (gp_sl_inj t1 a1 hp (by omega) hs (by omega) q)
      have n3 : gm_pl 0 t p s ≠ gm_pl 9 w1 w3 w5 - 4428 := fun q => n1 (by unfold gm_pl at q ⊢; omega)
      rw [va_up_ne _ _ n1, va_up_ne _ _ n2, va_up_ne _ _ n2, va_up_ne _ _ n3]
      exact h4 t p s t1 t2 hp hs
  · rw [va_up_ne _ _ (fun q => by have := (gm_pl_inj (by omega) a2 hp (by omega) hs (by omega) q).1; omega)]
    exact h5 p s hp hs
theorem gm_R_O {bn : Nat → Nat} {shr us : Nat → Bool} {ne r1 r2 r3 r4 : Nat → Nat} {rg : Nat} {mb : Nat → Nat} {mns : Nat → Bool} {nc : Nat → Nat} {nw : Nat} {nn : Nat → Nat} (h : gm_R (bn, shr, us, ne, r1, r2, r3, r4, rg) mb mns nc nw nn) (w1 w3 : Nat) : gm_R (bn, shr, us, va_up ne w1 w3, r1, r2, r3, r4, rg) mb mns nc nw (va_up nn w1 w3) := by
  obtain ⟨h1, h2, h3, h4, h5⟩ := h
  exact ⟨h1, by rw [h2], h3, h4, h5⟩
theorem gm_pl9 {t p s : Nat} (h2 : t ≤ 40) (hp : p < 4) (hs : s < 3) : gm_pl 9 t p s < 4920 ∧ 4428 ≤ gm_pl 9 t p s := by
  unfold gm_pl
  omega
theorem gp_dg_stop {sg : Nat → Nat} {n k po nu : Nat} (h : k = 0 ∨ ¬ (48 ≤ gp_sg sg n po ∧ gp_sg sg n po ≤ 57)) : gp_dg sg n k po nu = (nu, po) := by
  cases k with
  | zero => rfl
  | succ k =>
    rw [gp_dg, if_neg]
    rcases h with h | h
    · cases h
    · exact h
theorem gp_rs_some {sg : Nat → Nat} {n ch p : Nat} {t : Option Nat} (h : t ≠ none) : gp_rs sg n ch (p, t) = (p, t) := by rw [gp_rs, if_neg h]
def gm_nu (sg : Nat → Nat) (n bh : Nat) (y : Nat × Option Nat) : Nat × Option Nat := if bh = 0 then y else gp_rs sg n bh y
