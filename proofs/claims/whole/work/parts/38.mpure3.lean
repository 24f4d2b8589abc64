/-! the reference's questions -/
theorem gp_up_id {α : Type} {f : Nat → α} {k : Nat} {v : α} (h : f k = v) : va_up f k v = f := by
  funext j
  unfold va_up
  by_cases e : j = k
  · rw [if_pos e, e, h]
  · rw [if_neg e]
theorem gp_add_c {x : gp_F} {sh pa t o b : Nat} (h : x.2 < 100) : gp_add x sh pa t o b = (va_up (va_up (va_up (va_up (va_up x.1 (5 * x.2) sh) (5 * x.2 + 1) pa) (5 * x.2 + 2) t) (5 * x.2 + 3) o) (5 * x.2 + 4) b, x.2 + 1) := by
  rw [gp_add, if_pos h, Nat.mul_comm x.2 5]
theorem gm_pl_lt {e t p s : Nat} (he : e ≤ 9) (h2 : t ≤ 40) (h3 : p < 4) (h4 : s < 3) : gm_pl e t p s < 4920 := by
  unfold gm_pl
  omega
theorem gm_pl_8 (t p s : Nat) : gm_pl 8 t p s - 3936 = gm_pl 0 t p s := by
  unfold gm_pl
  omega
theorem gm_pl_9 (t p s : Nat) : 3936 ≤ gm_pl 8 t p s := by
  unfold gm_pl
  omega
theorem gm_pl_0 {t p s : Nat} (h2 : t ≤ 40) (h3 : p < 4) (h4 : s < 3) : gm_pl 0 t p s < 492 := by
  unfold gm_pl
  omega
