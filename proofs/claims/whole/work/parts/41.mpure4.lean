/-! the reference's compare, swap, print -/
theorem gp_sl_k {t k : Nat} (h1 : 1 ≤ t) : gp_sl t (k % 4) (k / 4) = gp_sl t 0 0 + k := by
  unfold gp_sl
  omega
def gm_ex (mb : Nat → Nat) (a b i : Nat) : Nat → Nat := fun j => if 3936 ≤ j ∧ j < i then gp_sw a b (mb j) else mb j
theorem gm_ex_0 (mb : Nat → Nat) (a b : Nat) : gm_ex mb a b 3936 = mb := by
  funext j
  unfold gm_ex
  rw [if_neg (by omega)]
theorem gm_ex_at (mb : Nat → Nat) (a b i : Nat) : gm_ex mb a b i i = mb i := by
  unfold gm_ex
  rw [if_neg (by omega)]
theorem gm_ex_up {mb bm : Nat → Nat} {a b i v : Nat} (hbm : bm = gm_ex mb a b i) (hi : 3936 ≤ i) (hv : v = gp_sw a b (mb i)) : va_up bm i v = gm_ex mb a b (i + 1) := by
  subst hbm
  funext j
  by_cases h : j = i
  · subst h
    rw [va_up_self]
    unfold gm_ex
    rw [if_pos (by omega), hv]
  · rw [va_up_ne _ _ h]
    unfold gm_ex
    by_cases h2 : 3936 ≤ j ∧ j < i
    · rw [if_pos h2, if_pos (show 3936 ≤ j ∧ j < i + 1 by omega)]
    · rw [if_neg h2, if_neg (show ¬ (3936 ≤ j ∧ j < i + 1) by omega)]
theorem gp_dec1 {P : Prop} [Decidable P] (h : P) : (if decide P = true then 1 else 0) = 1 := by
  rw [if_pos (decide_eq_true h)]
theorem gp_dec0 {P : Prop} [Decidable P] (h : ¬ P) : (if decide P = true then 1 else 0) = 0 := by
  rw [if_neg (by rw [decide_eq_false h]; decide)]
theorem gp_dl_mem {b v : Nat} (hb : b ≤ 99) (h : v ∈ gp_dl b) : v ≤ 57 := by
  unfold gp_dl at h
  split at h
  · rcases List.mem_cons.mp h with h | h
    · omega
    · have := List.mem_singleton.mp h
      omega
  · have := List.mem_singleton.mp h
    omega
theorem gp_hs_dl {g : Nat → Nat} {n b : Nat} {L : List Nat} (h : gp_hs g n (L ++ gp_dl b)) (hb : b ≤ 99) : ∀ j, L.length ≤ j → j < n → g j ≤ 57 := by
  intro j h1 h2
  have h3 := h.2 j (by rw [← h.1]; exact h2)
  rw [List.getElem?_append_right h1] at h3
  exact gp_dl_mem hb (List.mem_of_getElem? h3)
theorem gp_hs_len {g : Nat → Nat} {n : Nat} {L M : List Nat} (h : gp_hs g n (L ++ M)) : n = L.length + M.length := by
  rw [h.1, List.length_append]
theorem gp_rw_3 {f : Nat → Nat} {b i : Nat} (h : gp_rw f b i ≠ []) : 3 ≤ (gp_rw f b i).length := by
  obtain ⟨h1, h2, h3⟩ := gp_rw_le f b i
  exact (h3 (fun q => h (h1 q))).2
