/-! the sheet as a list of signs -/
def gp_hs (sg : Nat → Nat) (n : Nat) (L : List Nat) : Prop := n = L.length ∧ ∀ j, j < L.length → L[j]? = some (sg j)
theorem gp_hs_0 (sg : Nat → Nat) : gp_hs sg 0 [] := ⟨rfl, fun j h => absurd h (Nat.not_lt_zero _)⟩
theorem gp_hs_up {sg : Nat → Nat} {n ch : Nat} {L : List Nat} (h : gp_hs sg n L) : gp_hs (va_up sg n ch) (n + 1) (L ++ [ch]) := by
  obtain ⟨h1, h2⟩ := h
  subst h1
  refine ⟨by simp, fun j hj => ?_⟩
  rw [List.length_append, List.length_singleton] at hj
  by_cases e : j = L.length
  · subst e
    rw [va_up_self]
    simp
  · rw [va_up_ne _ _ e, List.getElem?_append_left (by omega)]
    exact h2 j (by omega)
theorem gp_hs_put {sg : Nat → Nat} {n ch : Nat} {L : List Nat} (h : gp_hs sg n L) (hL : L.length < 240) {x : (Nat → Nat) × Nat} (hx : x = gp_sp (sg, n) ch) : gp_hs x.1 x.2 (L ++ [ch]) := by
  rw [hx, gp_sp, if_pos (by simp only; rw [h.1]; exact hL)]
  exact gp_hs_up h
def gp_dl (k : Nat) : List Nat := if 10 ≤ k then [48 + k / 10, 48 + k % 10] else [48 + k % 10]
theorem gp_dl_le (k : Nat) : 1 ≤ (gp_dl k).length ∧ (gp_dl k).length ≤ 2 := by
  unfold gp_dl
  split <;> simp
def gp_rw (f : Nat → Nat) (b : Nat) : Nat → List Nat
  | 0 => []
  | i + 1 => if f i = b then gp_rw f b i ++ ((if gp_rw f b i = [] then gp_dl b ++ [58] else [44]) ++ gp_dl (i + 1)) else gp_rw f b i
def gp_ln (f : Nat → Nat) (b : Nat) : List Nat := if gp_rw f b 40 = [] then [] else gp_rw f b 40 ++ [59]
def gp_ou (f : Nat → Nat) : Nat → List Nat
  | 0 => []
  | i + 1 => gp_ou f i ++ gp_ln f (i + 1)
abbrev gp_ht (f : Nat → Nat) (b i : Nat) : Nat := gp_cn (fun j => decide (f j = b)) i
theorem gp_ht_s (f : Nat → Nat) (b i : Nat) : gp_ht f b (i + 1) = gp_ht f b i + (if f i = b then 1 else 0) := by
  unfold gp_ht
  rw [gp_cn]
  by_cases h : f i = b <;> simp [h]
theorem gp_ht_mono (f : Nat → Nat) (b : Nat) : ∀ i m, i ≤ m → gp_ht f b i ≤ gp_ht f b m := by
  intro i m h
  induction m with
  | zero =>
    rw [show i = 0 by omega]
    exact Nat.le_refl _
  | succ m ih =>
    by_cases e : i = m + 1
    · rw [e]
      exact Nat.le_refl _
    · have := ih (by omega)
      rw [gp_ht_s]
      omega
theorem gp_rw_le (f : Nat → Nat) (b : Nat) : ∀ i, (gp_ht f b i = 0 → gp_rw f b i = []) ∧ (gp_rw f b i).length ≤ 3 * gp_ht f b i + 2 ∧ (gp_ht f b i ≠ 0 → gp_rw f b i ≠ [] ∧ 3 ≤ (gp_rw f b i).length)
  | 0 => ⟨fun _ => rfl, by simp [gp_rw], fun h => absurd rfl h⟩
  | i + 1 => by
    obtain ⟨h1, h2, h3⟩ := gp_rw_le f b i
    have d1 := gp_dl_le b
    have d2 := gp_dl_le (i + 1)
    rw [gp_ht_s, gp_rw]
    by_cases e : f i = b
    · rw [if_pos e, if_pos e]
      by_cases z : gp_rw f b i = []
      · rw [if_pos z, z]
        have hl : (([] : List Nat) ++ ((gp_dl b ++ [58]) ++ gp_dl (i + 1))).length = (gp_dl b).length + 1 + (gp_dl (i + 1)).length := by simp; omega
        refine ⟨fun q => by omega, by rw [hl]; omega, fun _ => ⟨?_, by rw [hl]; omega⟩⟩
        intro q
        rw [q] at hl
        simp at hl
        omega
      · rw [if_neg z]
        have hl : (gp_rw f b i ++ ([44] ++ gp_dl (i + 1))).length = (gp_rw f b i).length + 1 + (gp_dl (i + 1)).length := by simp; omega
        have hne : gp_ht f b i ≠ 0 := fun q => z (h1 q)
        have h4 := h3 hne
        refine ⟨fun q => by omega, by rw [hl]; omega, fun _ => ⟨?_, by rw [hl]; omega⟩⟩
        intro q
        rw [q] at hl
        simp at hl
        omega
    · rw [if_neg e, if_neg e, Nat.add_zero]
      exact ⟨h1, h2, h3⟩
theorem gp_ln_le (f : Nat → Nat) (b : Nat) : (gp_ln f b).length ≤ 6 * gp_ht f b 40 := by
  obtain ⟨h1, h2, h3⟩ := gp_rw_le f b 40
  unfold gp_ln
  split
  · exact Nat.zero_le _
  · rename_i hz
    have : gp_ht f b 40 ≠ 0 := fun q => hz (h1 q)
    rw [List.length_append, List.length_singleton]
    omega
def gp_sm (g : Nat → Nat) : Nat → Nat
  | 0 => 0
  | i + 1 => gp_sm g i + g i
theorem gp_sm_congr {f g : Nat → Nat} : ∀ k, (∀ j, j < k → f j = g j) → gp_sm f k = gp_sm g k
  | 0, _ => rfl
  | k + 1, h => by rw [gp_sm, gp_sm, gp_sm_congr k (fun j hj => h j (by omega)), h k (by omega)]
theorem gp_sm_add (f g : Nat → Nat) : ∀ k, gp_sm (fun j => f j + g j) k = gp_sm f k + gp_sm g k
  | 0 => rfl
  | k + 1 => by
    rw [gp_sm, gp_sm, gp_sm, gp_sm_add f g k]
    omega
theorem gp_sm_one (v : Nat) : ∀ i, gp_sm (fun j => if v = j + 1 then 1 else 0) i ≤ 1 ∧ (i < v → gp_sm (fun j => if v = j + 1 then 1 else 0) i = 0)
  | 0 => ⟨Nat.zero_le _, fun _ => rfl⟩
  | i + 1 => by
    obtain ⟨h1, h2⟩ := gp_sm_one v i
    rw [gp_sm]
    by_cases e : v = i + 1
    · rw [if_pos e, h2 (by omega)]
      exact ⟨Nat.le_refl _, fun q => by omega⟩
    · rw [if_neg e]
      exact ⟨h1, fun q => h2 (by omega)⟩
theorem gp_ht_sum (f : Nat → Nat) (i : Nat) : ∀ m, gp_sm (fun j => gp_ht f (j + 1) m) i ≤ m
  | 0 => by
    have h : gp_sm (fun j => gp_ht f (j + 1) 0) i = gp_sm (fun _ => 0) i := gp_sm_congr i (fun j _ => rfl)
    have h0 : ∀ k, gp_sm (fun _ => 0) k = 0 := fun k => by
      induction k with
      | zero => rfl
      | succ k ih => rw [gp_sm, ih]
    rw [h, h0]
    exact Nat.le_refl _
  | m + 1 => by
    have ih := gp_ht_sum f i m
    have h : gp_sm (fun j => gp_ht f (j + 1) (m + 1)) i = gp_sm (fun j => gp_ht f (j + 1) m) i + gp_sm (fun j => if f m = j + 1 then 1 else 0) i := by
      rw [← gp_sm_add]
      exact gp_sm_congr i (fun j _ => gp_ht_s f (j + 1) m)
    have h1 := (gp_sm_one (f m) i).1
    omega
theorem gp_ou_le (f : Nat → Nat) : ∀ i, (gp_ou f i).length ≤ 6 * gp_sm (fun j => gp_ht f (j + 1) 40) i
  | 0 => Nat.zero_le _
  | i + 1 => by
    have h1 := gp_ou_le f i
    have h2 := gp_ln_le f (i + 1)
    rw [gp_ou, gp_sm, List.length_append]
    omega
/-- there is room for the next bin's line -/
theorem gp_ou_room (f : Nat → Nat) (i : Nat) : (gp_ou f i).length + 6 * gp_ht f (i + 1) 40 ≤ 240 := by
  have h1 := gp_ou_le f i
  have h2 := gp_ht_sum f (i + 1) 40
  rw [gp_sm] at h2
  omega
theorem gp_dl_in (k : Nat) : ∀ c, c ∈ gp_dl k → 48 ≤ c ∧ (k ≤ 99 → c ≤ 57) := by
  intro c hc
  unfold gp_dl at hc
  split at hc
  · simp at hc
    rcases hc with rfl | rfl <;> omega
  · simp at hc
    subst hc
    omega
theorem gp_rw_no {f : Nat → Nat} {b i : Nat} (h : f i ≠ b) : gp_rw f b (i + 1) = gp_rw f b i := by rw [gp_rw, if_neg h]
theorem gp_rw_h0 {f : Nat → Nat} {b i : Nat} (h : f i = b) (z : gp_rw f b i = []) : gp_rw f b (i + 1) = gp_dl b ++ ([58] ++ gp_dl (i + 1)) := by rw [gp_rw, if_pos h, if_pos z, z]; simp
theorem gp_rw_h1 {f : Nat → Nat} {b i : Nat} (h : f i = b) (z : gp_rw f b i ≠ []) : gp_rw f b (i + 1) = gp_rw f b i ++ ([44] ++ gp_dl (i + 1)) := by rw [gp_rw, if_pos h, if_neg z]
/-- room for one more target in a line -/
theorem gp_rw_room {f : Nat → Nat} {b i : Nat} {L : List Nat} (hi : i < 40) (h : f i = b) (hr : L.length + 6 * gp_ht f b 40 ≤ 240) : (L ++ gp_rw f b i).length + 5 ≤ 240 := by
  obtain ⟨h1, h2, h3⟩ := gp_rw_le f b i
  have h4 := gp_ht_mono f b (i + 1) 40 (by omega)
  rw [gp_ht_s, if_pos h] at h4
  rw [List.length_append]
  by_cases z : gp_ht f b i = 0
  · rw [h1 z]
    simp
    omega
  · omega
theorem gp_rw_room2 {f : Nat → Nat} {b : Nat} {L : List Nat} (h : gp_rw f b 40 ≠ []) (hr : L.length + 6 * gp_ht f b 40 ≤ 240) : (L ++ gp_rw f b 40).length < 240 := by
  obtain ⟨h1, h2, h3⟩ := gp_rw_le f b 40
  have z : gp_ht f b 40 ≠ 0 := fun q => h (h1 q)
  rw [List.length_append]
  omega
