/-! the reference's whole reading: what is cleared, what is kept -/
def gm_cl (mb : Nat → Nat) (i : Nat) : Nat → Nat := fun j => if 4428 ≤ j ∧ j < 4428 + i then 0 else mb j
theorem gm_cl_0 (mb : Nat → Nat) : gm_cl mb 0 = mb := by
  funext j
  unfold gm_cl
  rw [if_neg (by omega)]
theorem gm_cl_up (mb : Nat → Nat) (i : Nat) : va_up (gm_cl mb i) (4428 + i) 0 = gm_cl mb (i + 1) := by
  funext j
  unfold va_up gm_cl
  by_cases h : j = 4428 + i
  · rw [if_pos h, if_pos (by omega)]
  · rw [if_neg h]
    by_cases h2 : 4428 ≤ j ∧ j < 4428 + i
    · rw [if_pos h2, if_pos (by omega)]
    · rw [if_neg h2, if_neg (by omega)]
def gm_cp (mb : Nat → Nat) (ec i : Nat) : Nat → Nat := fun j => if 492 * ec ≤ j ∧ j < 492 * ec + i then mb (4428 + (j - 492 * ec)) else if 3936 ≤ j ∧ j < 3936 + i then mb (4428 + (j - 3936)) else mb j
theorem gm_cp_0 (mb : Nat → Nat) (ec : Nat) : gm_cp mb ec 0 = mb := by
  funext j
  unfold gm_cp
  rw [if_neg (by omega), if_neg (by omega)]
theorem gm_cp_up {mb : Nat → Nat} {ec i : Nat} (hec : ec < 8) (hi : i < 492) : va_up (va_up (gm_cp mb ec i) (492 * ec + i) (gm_cp mb ec i (4428 + i))) (3936 + i) (va_up (gm_cp mb ec i) (492 * ec + i) (gm_cp mb ec i (4428 + i)) (4428 + i)) = gm_cp mb ec (i + 1) := by
  have e1 : gm_cp mb ec i (4428 + i) = mb (4428 + i) := by
    unfold gm_cp
    rw [if_neg (by omega), if_neg (by omega)]
  rw [va_up_ne _ _ (show 4428 + i ≠ 492 * ec + i by omega), e1]
  funext j
  by_cases h1 : j = 3936 + i
  · subst h1
    rw [va_up_self]
    unfold gm_cp
    rw [if_neg (show ¬ (492 * ec ≤ 3936 + i ∧ 3936 + i < 492 * ec + (i + 1)) by omega), if_pos (show 3936 ≤ 3936 + i ∧ 3936 + i < 3936 + (i + 1) by omega), show 3936 + i - 3936 = i by omega]
  · rw [va_up_ne _ _ h1]
    by_cases h2 : j = 492 * ec + i
    · subst h2
      rw [va_up_self]
      unfold gm_cp
      rw [if_pos (show 492 * ec ≤ 492 * ec + i ∧ 492 * ec + i < 492 * ec + (i + 1) by omega), show 492 * ec + i - 492 * ec = i by omega]
    · rw [va_up_ne _ _ h2]
      unfold gm_cp
      by_cases a : 492 * ec ≤ j ∧ j < 492 * ec + i
      · rw [if_pos a, if_pos (show 492 * ec ≤ j ∧ j < 492 * ec + (i + 1) by omega)]
      · rw [if_neg a, if_neg (show ¬ (492 * ec ≤ j ∧ j < 492 * ec + (i + 1)) by omega)]
        by_cases b : 3936 ≤ j ∧ j < 3936 + i
        · rw [if_pos b, if_pos (show 3936 ≤ j ∧ j < 3936 + (i + 1) by omega)]
        · rw [if_neg b, if_neg (show ¬ (3936 ≤ j ∧ j < 3936 + (i + 1)) by omega)]
def gp_cc {α : Type} (f g : Nat → α) (i : Nat) : Nat → α := fun j => if j < i then g j else f j
theorem gp_cc_0 {α : Type} (f g : Nat → α) : gp_cc f g 0 = f := by
  funext j
  simp [gp_cc]
theorem gp_cc_up {α : Type} (f g : Nat → α) (i : Nat) : va_up (gp_cc f g i) i (g i) = gp_cc f g (i + 1) := by
  funext j
  unfold va_up gp_cc
  by_cases h : j = i
  · subst h
    simp
  · by_cases h2 : j < i
    · simp [h, h2, Nat.lt_succ_of_lt h2]
    · simp [h, h2, show ¬ j < i + 1 by omega]
/-- the class's plan and editions, and the reference's rows -/
def gm_S (bn : Nat → Nat) (shr : Nat → Bool) (r1 r2 r3 r4 : Nat → Nat) (rg : Nat) (ed : Nat → Nat → Nat) (ec : Nat) (mb : Nat → Nat) (ms : Nat → Bool) (cd : Nat → Nat) (w : Nat) : Prop :=
  w = rg ∧ (∀ k, k < rg → cd (4 * k) = r1 k ∧ cd (4 * k + 1) = r2 k ∧ cd (4 * k + 2) = r3 k ∧ cd (4 * k + 3) = r4 k) ∧ (∀ t p s, 1 ≤ t → t ≤ 40 → p < 4 → s < 3 → mb (gm_pl 8 t p s) = bn (gp_sl t p s) ∧ (bn (gp_sl t p s) ≠ 0 → ms (gm_pl 0 t p s) = shr (gp_sl t p s)) ∧ ∀ e, e < ec → mb (gm_pl e t p s) = ed e (gp_sl t p s)) ∧ (∀ p s, p < 4 → s < 3 → mb (gm_pl 8 0 p s) = 0) ∧ ∀ j, mb j ≤ 60
theorem gm_S_keep {bn : Nat → Nat} {shr : Nat → Bool} {r1 r2 r3 r4 : Nat → Nat} {rg : Nat} {ed : Nat → Nat → Nat} {ec : Nat} {mb mb2 : Nat → Nat} {ms : Nat → Bool} {cd : Nat → Nat} {w : Nat} (h : gm_S bn shr r1 r2 r3 r4 rg ed ec mb ms cd w) (hec : ec ≤ 8) (hf : ∀ j, j < 4428 → mb2 j = mb j) (hb : ∀ j, mb2 j ≤ 60) : gm_S bn shr r1 r2 r3 r4 rg ed ec mb2 ms cd w := by
  obtain ⟨h1, h2, h3, h4, h5⟩ := h
  refine ⟨h1, h2, fun t p s a b c d => ?_, fun p s a b => ?_, hb⟩
  · obtain ⟨g1, g2, g3⟩ := h3 t p s a b c d
    refine ⟨by rw [hf _ (by unfold gm_pl; omega)]; exact g1, g2, fun e he => by rw [hf _ (by unfold gm_pl; omega)]; exact g3 e he⟩
  · rw [hf _ (by unfold gm_pl; omega)]
    exact h4 p s a b
theorem gm_S_new {bn : Nat → Nat} {shr : Nat → Bool} {r1 r2 r3 r4 : Nat → Nat} {rg : Nat} {ed : Nat → Nat → Nat} {ec : Nat} {mb mb9 : Nat → Nat} {ms ns9 : Nat → Bool} {cd nc9 : Nat → Nat} {w nw9 : Nat} {nn9 : Nat → Nat} {bn2 : Nat → Nat} {shr2 us2 : Nat → Bool} {ne2 a1 a2 a3 a4 : Nat → Nat} {rg2 : Nat} (h : gm_S bn shr r1 r2 r3 r4 rg ed ec mb ms cd w) (hec : ec < 8) (hf : ∀ j, j < 4428 → mb9 j = mb j) (hb : ∀ j, mb9 j ≤ 60) (hR : gm_R (bn2, shr2, us2, ne2, a1, a2, a3, a4, rg2) mb9 ns9 nc9 nw9 nn9) : gm_S bn2 shr2 a1 a2 a3 a4 rg2 (va_up ed ec bn2) (ec + 1) (gm_cp mb9 ec 492) (gp_cc ms ns9 492) (gp_cc cd nc9 (4 * nw9)) nw9 := by
  obtain ⟨h1, h2, h3, h4, h5⟩ := h
  obtain ⟨k1, k2, k3, k4, k5⟩ := hR
  subst k1
  refine ⟨rfl, fun k hk => ?_, fun t p s x1 x2 x3 x4 => ?_, fun p s x3 x4 => ?_, fun j => ?_⟩
  · have := k3 k hk
    unfold gp_cc
    rw [if_pos (by omega), if_pos (by omega), if_pos (by omega), if_pos (by omega)]
    exact this
  · obtain ⟨g1, g2⟩ := k4 t p s x1 x2 x3 x4
    refine ⟨?_, fun q => ?_, fun e he => ?_⟩
    · unfold gm_cp
      rw [if_neg (by unfold gm_pl; omega), if_pos (by unfold gm_pl; omega), ← g1, show 4428 + (gm_pl 8 t p s - 3936) = gm_pl 9 t p s by unfold gm_pl; omega]
    · unfold gp_cc
      rw [if_pos (by unfold gm_pl; omega)]
      exact g2 q
    · by_cases ee : e = ec
      · subst ee
        rw [va_up_self]
        unfold gm_cp
        rw [if_pos (by unfold gm_pl; omega), ← g1, show 4428 + (gm_pl e t p s - 492 * e) = gm_pl 9 t p s by unfold gm_pl; omega]
      · rw [va_up_ne _ _ ee]
        unfold gm_cp
        rw [if_neg (by unfold gm_pl; omega), if_neg (by unfold gm_pl; omega), hf _ (by unfold gm_pl; omega)]
        exact (h3 t p s x1 x2 x3 x4).2.2 e (by omega)
  · unfold gm_cp
    rw [if_neg (by unfold gm_pl; omega), if_pos (by unfold gm_pl; omega), show 4428 + (gm_pl 8 0 p s - 3936) = gm_pl 9 0 p s by unfold gm_pl; omega]
    exact k5 p s x3 x4
  · unfold gm_cp
    split
    · exact hb _
    · split <;> exact hb _
theorem gm_R_0 (mb : Nat → Nat) (mns : Nat → Bool) (nc : Nat → Nat) (dsh us : Nat → Bool) (e1 e2 e3 e4 : Nat → Nat) : gm_R (fun _ => 0, dsh, us, fun _ => 0, e1, e2, e3, e4, 0) (gm_cl mb 492) mns nc 0 (fun _ => 0) := by
  refine ⟨rfl, rfl, fun k hk => absurd hk (Nat.not_lt_zero _), fun t p s a b c d => ⟨?_, fun q => absurd rfl q⟩, fun p s c d => ?_⟩
  · unfold gm_cl
    rw [if_pos (by unfold gm_pl; omega)]
  · unfold gm_cl
    rw [if_pos (by unfold gm_pl; omega)]
theorem gp_ok_0 (n : Nat) (dsh : Nat → Bool) (e1 e2 e3 e4 : Nat → Nat) : gp_ok n (0, none, fun _ => 0, dsh, fun _ => false, fun _ => 0, e1, e2, e3, e4, 0) :=
  ⟨Nat.zero_le _, (fun _ q => by cases q), (fun _ => Nat.zero_le _), (fun _ => Nat.zero_le _), Nat.zero_le _, (fun k hk => absurd hk (Nat.not_lt_zero _)), fun t => ⟨(fun q => by cases q), fun ⟨k, hk, _⟩ => absurd hk (Nat.not_lt_zero _)⟩⟩
theorem gm_cl_le {mb : Nat → Nat} (h : ∀ j, mb j ≤ 60) (i : Nat) : ∀ j, gm_cl mb i j ≤ 60 := by
  intro j
  unfold gm_cl
  split
  · exact Nat.zero_le _
  · exact h j
