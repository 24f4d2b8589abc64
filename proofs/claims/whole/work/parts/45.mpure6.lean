/-! what the law needs of a swap and of an overflow -/
theorem gl_cl {b : Int32} (h : 1 ≤ b ∧ b ≤ 60) : 1 ≤ b.toNatClampNeg ∧ b.toNatClampNeg ≤ 60 := by
  obtain ⟨k, hk, rfl⟩ := nI_of2 (M := 60) (n := 60) rfl (fun z => absurd (Int32.lt_of_le_of_lt h.1 z) (by decide)) h.2
  rw [nI_clamp (by omega)]
  exact ⟨(nI_leI (a := 1) (b := k) (by omega) (by omega)).mp h.1, hk⟩
theorem gl_s {bn : Nat → Nat} {shr : Nat → Bool} {r1 r2 r3 r4 : Nat → Nat} {rg : Nat} {ed : Nat → Nat → Nat} {ec : Nat} {mb : Nat → Nat} {ms : Nat → Bool} {cd : Nat → Nat} {w : Nat} {a b u v : Int32} {x y : Nat → Nat} (hec : ec ≤ 8) (hbn : ∀ j, bn j ≤ 60) (hS : gm_S bn shr r1 r2 r3 r4 rg ed ec mb ms cd w)
    (hA : (¬ ((1 ≤ a ∧ a ≤ 60) ∧ (1 ≤ b ∧ b ≤ 60)) ∧ u = -101 ∧ x = bn) ∨ (((1 ≤ a ∧ a ≤ 60) ∧ (1 ≤ b ∧ b ≤ 60)) ∧ ec = 0 ∧ u = -103 ∧ x = bn) ∨ (((1 ≤ a ∧ a ≤ 60) ∧ (1 ≤ b ∧ b ≤ 60)) ∧ ec ≠ 0 ∧ u = nI (gp_cn (fun j => decide (bn j = a.toNatClampNeg ∨ bn j = b.toNatClampNeg)) 480) ∧ x = gp_ex bn a.toNatClampNeg b.toNatClampNeg 480))
    (hB : (¬ ((1 ≤ a ∧ a ≤ 60) ∧ (1 ≤ b ∧ b ≤ 60)) ∧ v = -101 ∧ y = mb) ∨ (((1 ≤ a ∧ a ≤ 60) ∧ (1 ≤ b ∧ b ≤ 60)) ∧ ec = 0 ∧ v = -103 ∧ y = mb) ∨ (((1 ≤ a ∧ a ≤ 60) ∧ (1 ≤ b ∧ b ≤ 60)) ∧ ec ≠ 0 ∧ v = nI (gp_cn (fun j => decide (mb (3936 + j) = a.toNatClampNeg ∨ mb (3936 + j) = b.toNatClampNeg)) 492) ∧ y = gm_ex mb a.toNatClampNeg b.toNatClampNeg 4428)) :
    u = v ∧ gm_S x shr r1 r2 r3 r4 rg ed ec y ms cd w ∧ ∀ j, x j ≤ 60 := by
  rcases hA with ⟨a1, rfl, rfl⟩ | ⟨a1, a2, rfl, rfl⟩ | ⟨a1, a2, rfl, rfl⟩ <;> rcases hB with ⟨b1, rfl, rfl⟩ | ⟨b1, b2, rfl, rfl⟩ | ⟨b1, b2, rfl, rfl⟩
  · exact ⟨rfl, hS, hbn⟩
  · exact absurd b1 a1
  · exact absurd b1 a1
  · exact absurd a1 b1
  · exact ⟨rfl, hS, hbn⟩
  · exact absurd a2 b2
  · exact absurd a1 b1
  · exact absurd b2 a2
  · obtain ⟨p1, p2⟩ := gl_cl a1.1
    obtain ⟨q1, q2⟩ := gl_cl a1.2
    exact ⟨by rw [gm_S_cnt hS p1 q1], gm_S_ex hS hec p1 q1 p2 q2, gp_ex_le p2 q2 hbn⟩
