/-! where class and reference say the same -/
theorem gp_isL_un {r1 r2 r3 r4 : Nat → Nat} {rg code kind a b : Nat} (ha : gp_isL r1 r2 r3 r4 rg code kind a) (hb : gp_isL r1 r2 r3 r4 rg code kind b) : a = b := by
  rcases ha with ⟨a1, a2⟩ | ⟨k, a1, a2, a3, a4⟩ <;> rcases hb with ⟨b1, b2⟩ | ⟨j, b1, b2, b3, b4⟩
  · rw [a1, b1]
  · exact absurd b2 (a2 j b1)
  · exact absurd a2 (b2 k a1)
  · have h1 := a4 j b1 b2
    have h2 := b4 k a1 a2
    omega
theorem gp_isP_ex (bn : Nat → Nat) (sh : Nat) : ∃ q, gp_isP bn sh q := by
  have key : ∀ k, k ≤ 4 → (∀ t p, 1 ≤ t → t ≤ 40 → p < 4 → bn (gp_sl t p sh) ≠ 0 → p < k) → ∃ q, gp_isP bn sh q := by
    intro k
    induction k with
    | zero => exact fun _ h => ⟨0, Nat.zero_le _, h, fun q => absurd q (Nat.lt_irrefl _)⟩
    | succ k ih =>
      intro hk h
      by_cases e : ∃ t, 1 ≤ t ∧ t ≤ 40 ∧ bn (gp_sl t k sh) ≠ 0
      · exact ⟨k + 1, hk, h, fun _ => e⟩
      · refine ih (by omega) (fun t p h1 h2 h3 h4 => ?_)
        have := h t p h1 h2 h3 h4
        rcases (show p < k ∨ p = k by omega) with z | z
        · exact z
        · subst z
          exact absurd ⟨t, h1, h2, h4⟩ e
  exact key 4 (Nat.le_refl _) (fun t p _ _ h _ => h)
theorem gp_pq (bn : Nat → Nat) : ∃ pq : Nat → Nat, ∀ sh, sh < 3 → gp_isP bn sh (pq sh) := ⟨fun sh => Classical.choose (gp_isP_ex bn sh), fun sh _ => Classical.choose_spec (gp_isP_ex bn sh)⟩
theorem gp_pigeon : ∀ (n : Nat) (f : Nat → Nat), (∀ i, i ≤ n → f i < n) → ∃ i j, i < j ∧ j ≤ n ∧ f i = f j
  | 0, f, h => absurd (h 0 (Nat.le_refl _)) (Nat.not_lt_zero _)
  | n + 1, f, h => by
    by_cases e : ∃ i, i ≤ n ∧ f i = f (n + 1)
    · obtain ⟨i, h1, h2⟩ := e
      exact ⟨i, n + 1, by omega, Nat.le_refl _, h2⟩
    · have hne : ∀ i, i ≤ n → f i ≠ f (n + 1) := fun i hi q => e ⟨i, hi, q⟩
      obtain ⟨i, j, h1, h2, h3⟩ := gp_pigeon n (fun i => if f i = n then f (n + 1) else f i) (fun i hi => by
        have a1 := h i (by omega)
        have a2 := h (n + 1) (Nat.le_refl _)
        have a3 := hne i hi
        show (if f i = n then f (n + 1) else f i) < n
        split <;> omega)
      refine ⟨i, j, h1, by omega, ?_⟩
      have b1 := hne i (by omega)
      have b2 := hne j h2
      split at h3 <;> split at h3 <;> omega
theorem gp_it_per {ne : Nat → Nat} {b i j : Nat} (h : gp_it ne b i = gp_it ne b j) : ∀ k, gp_it ne b (i + k) = gp_it ne b (j + k)
  | 0 => h
  | k + 1 => by rw [show i + (k + 1) = (i + k) + 1 from rfl, show j + (k + 1) = (j + k) + 1 from rfl, gp_it, gp_it, gp_it_per h k]
theorem gp_it_all {ne : Nat → Nat} {b : Nat} (hb : 1 ≤ b) (hb2 : b ≤ 60) (hne : ∀ j, ne j ≤ 60) (h : ∀ i, i < 60 → ne (gp_it ne b i) ≠ 0) : ∀ i, ne (gp_it ne b i) ≠ 0 := by
  have hr : ∀ i, i ≤ 60 → 1 ≤ gp_it ne b i ∧ gp_it ne b i ≤ 60 := by
    intro i hi
    cases i with
    | zero => exact ⟨hb, hb2⟩
    | succ i =>
      have h1 := h i (by omega)
      have h2 := hne (gp_it ne b i)
      rw [gp_it]
      omega
  obtain ⟨i, j, h1, h2, h3⟩ := gp_pigeon 60 (fun i => gp_it ne b i - 1) (fun i hi => by
    have := hr i hi
    show gp_it ne b i - 1 < 60
    omega)
  have h4 : gp_it ne b i = gp_it ne b j := by
    have a1 := hr i (by omega)
    have a2 := hr j h2
    omega
  intro m
  induction m using Nat.strongRecOn with
  | ind m ih =>
    by_cases e : m < 60
    · exact h m e
    · have h5 := gp_it_per h4 (m - j)
      rw [show j + (m - j) = m by omega] at h5
      rw [← h5]
      exact ih (i + (m - j)) (by omega)
theorem gl_over {ne : Nat → Nat} {b : Nat} {r r' : Int32} (hb : 1 ≤ b) (hb2 : b ≤ 60) (hne : ∀ j, ne j ≤ 60)
    (hc : (∃ j, j < 60 ∧ (∀ i, i < j → ne (gp_it ne b i) ≠ 0) ∧ ne (gp_it ne b j) = 0 ∧ r = nI (gp_it ne b j)) ∨ ((∀ i, i < 60 → ne (gp_it ne b i) ≠ 0) ∧ r = -1))
    (hm : (∃ j, (∀ i, i < j → ne (gp_it ne b i) ≠ 0) ∧ ne (gp_it ne b j) = 0 ∧ r' = nI (gp_it ne b j)) ∨ ((∀ i, i < 61 → ne (gp_it ne b i) ≠ 0) ∧ r' = -1)) : r = r' := by
  rcases hc with ⟨j, h1, h2, h3, rfl⟩ | ⟨h1, rfl⟩ <;> rcases hm with ⟨k, g2, g3, rfl⟩ | ⟨g1, rfl⟩
  · rcases Nat.lt_trichotomy j k with z | z | z
    · exact absurd h3 (g2 j z)
    · rw [z]
    · exact absurd g3 (h2 k z)
  · exact absurd h3 (g1 j (by omega))
  · exact absurd g3 (gp_it_all hb hb2 hne h1 k)
  · rfl
theorem gp_si_eq {f g : Nat → Nat} {n k : Nat} {L : List Nat} (hf : gp_hs f n L) (hg : gp_hs g k L) (i : Int32) : gp_si f n i = gp_si g k i := by
  obtain ⟨rfl, h1⟩ := hf
  obtain ⟨rfl, h2⟩ := hg
  unfold gp_si
  split
  · rename_i h
    have a := h1 i.toInt.toNat (by omega)
    have b := h2 i.toInt.toNat (by omega)
    rw [a] at b
    rw [Option.some.inj b]
  · rfl
theorem gp_sw_0 {a b : Nat} (ha : 1 ≤ a) (hb : 1 ≤ b) : gp_sw a b 0 = 0 := by
  unfold gp_sw
  rw [if_neg (by omega), if_neg (by omega)]
theorem gp_sw_le {a b v : Nat} (ha : a ≤ 60) (hb : b ≤ 60) (hv : v ≤ 60) : gp_sw a b v ≤ 60 := by
  unfold gp_sw
  split
  · exact hb
  · split
    · exact ha
    · exact hv
theorem gp_ex_le {bn : Nat → Nat} {a b i : Nat} (ha : a ≤ 60) (hb : b ≤ 60) (h : ∀ j, bn j ≤ 60) : ∀ j, gp_ex bn a b i j ≤ 60 := by
  intro j
  unfold gp_ex
  split
  · exact gp_sw_le ha hb (h j)
  · exact h j
theorem gm_S_ex {bn : Nat → Nat} {shr : Nat → Bool} {r1 r2 r3 r4 : Nat → Nat} {rg : Nat} {ed : Nat → Nat → Nat} {ec : Nat} {mb : Nat → Nat} {ms : Nat → Bool} {cd : Nat → Nat} {w a b : Nat} (h : gm_S bn shr r1 r2 r3 r4 rg ed ec mb ms cd w) (hec : ec ≤ 8) (ha : 1 ≤ a) (hb : 1 ≤ b) (ha2 : a ≤ 60) (hb2 : b ≤ 60) : gm_S (gp_ex bn a b 480) shr r1 r2 r3 r4 rg ed ec (gm_ex mb a b 4428) ms cd w := by
  obtain ⟨h1, h2, h3, h4, h5⟩ := h
  refine ⟨h1, h2, fun t p s a1 a2 a3 a4 => ?_, fun p s a3 a4 => ?_, fun j => ?_⟩
  · obtain ⟨g1, g2, g3⟩ := h3 t p s a1 a2 a3 a4
    have e1 : gp_ex bn a b 480 (gp_sl t p s) = gp_sw a b (bn (gp_sl t p s)) := by
      unfold gp_ex
      rw [if_pos (gp_sl_lt a1 a2 a3 a4)]
    refine ⟨?_, fun q => g2 (fun z => q (by rw [e1, z, gp_sw_0 ha hb])), fun e he => ?_⟩
    · rw [e1, ← g1]
      unfold gm_ex
      rw [if_pos (by unfold gm_pl; omega)]
    · unfold gm_ex
      rw [if_neg (by unfold gm_pl; omega)]
      exact g3 e he
  · unfold gm_ex
    rw [if_pos (by unfold gm_pl; omega), h4 p s a3 a4, gp_sw_0 ha hb]
  · unfold gm_ex
    split
    · exact gp_sw_le ha2 hb2 (h5 j)
    · exact h5 j
theorem gp_cn_block (f : Nat → Bool) (n : Nat) : ∀ m, gp_cn f (n * m) = gp_sm (fun i => gp_cn (fun j => f (n * i + j)) n) m
  | 0 => rfl
  | m + 1 => by
    rw [gp_sm, ← gp_cn_block f n m, Nat.mul_succ]
    have key : ∀ k, gp_cn f (n * m + k) = gp_cn f (n * m) + gp_cn (fun j => f (n * m + j)) k := by
      intro k
      induction k with
      | zero => rfl
      | succ k ih => rw [show n * m + (k + 1) = (n * m + k) + 1 from rfl, gp_cn, gp_cn, ih, Nat.add_assoc]
    exact key n
theorem gp_cn_sm (f : Nat → Bool) : ∀ k, gp_cn f k = gp_sm (fun j => if f j = true then 1 else 0) k
  | 0 => rfl
  | k + 1 => by rw [gp_cn, gp_sm, gp_cn_sm f k]
theorem gp_sm_0 : ∀ k, gp_sm (fun _ => 0) k = 0
  | 0 => rfl
  | k + 1 => by rw [gp_sm, gp_sm_0 k]
theorem gp_sm_swap (g : Nat → Nat → Nat) (n : Nat) : ∀ m, gp_sm (fun i => gp_sm (fun j => g i j) n) m = gp_sm (fun j => gp_sm (fun i => g i j) m) n
  | 0 => by
    rw [gp_sm]
    exact ((gp_sm_congr n (fun j _ => rfl)).trans (gp_sm_0 n)).symm
  | m + 1 => by
    rw [gp_sm, gp_sm_swap g n m, ← gp_sm_add]
    exact gp_sm_congr n (fun j _ => rfl)
theorem gp_cn_shift (f : Nat → Bool) (h0 : f 0 = false) : ∀ k, gp_cn f (k + 1) = gp_cn (fun j => f (j + 1)) k
  | 0 => by
    rw [gp_cn, gp_cn, gp_cn, h0]
    rfl
  | k + 1 => by rw [gp_cn, gp_cn_shift f h0 k, gp_cn]
theorem gm_S_cnt {bn : Nat → Nat} {shr : Nat → Bool} {r1 r2 r3 r4 : Nat → Nat} {rg : Nat} {ed : Nat → Nat → Nat} {ec : Nat} {mb : Nat → Nat} {ms : Nat → Bool} {cd : Nat → Nat} {w a b : Nat} (h : gm_S bn shr r1 r2 r3 r4 rg ed ec mb ms cd w) (ha : 1 ≤ a) (hb : 1 ≤ b) : gp_cn (fun j => decide (mb (3936 + j) = a ∨ mb (3936 + j) = b)) 492 = gp_cn (fun j => decide (bn j = a ∨ bn j = b)) 480 := by
  obtain ⟨h1, h2, h3, h4, h5⟩ := h
  have e1 := gp_cn_block (fun j => decide (mb (3936 + j) = a ∨ mb (3936 + j) = b)) 41 12
  have e2 := gp_cn_block (fun j => decide (bn j = a ∨ bn j = b)) 12 40
  rw [show 41 * 12 = 492 from rfl] at e1
  rw [show 12 * 40 = 480 from rfl] at e2
  rw [e1, e2]
  have e3 : ∀ k, k < 12 → gp_cn (fun j => decide (mb (3936 + (41 * k + j)) = a ∨ mb (3936 + (41 * k + j)) = b)) 41 = gp_sm (fun u => if decide (bn (12 * u + k) = a ∨ bn (12 * u + k) = b) = true then 1 else 0) 40 := by
    intro k hk
    have z0 : mb (3936 + (41 * k + 0)) = 0 := by
      rw [show 3936 + (41 * k + 0) = gm_pl 8 0 (k % 4) (k / 4) by unfold gm_pl; omega]
      exact h4 (k % 4) (k / 4) (by omega) (by omega)
    rw [gp_cn_shift _ (by rw [z0]; exact decide_eq_false (by omega)) 40, gp_cn_sm]
    refine gp_sm_congr 40 (fun u hu => ?_)
    have z1 := (h3 (u + 1) (k % 4) (k / 4) (by omega) (by omega) (by omega) (by omega)).1
    have z2 : 3936 + (41 * k + (u + 1)) = gm_pl 8 (u + 1) (k % 4) (k / 4) := by
      unfold gm_pl
      omega
    have z3 : gp_sl (u + 1) (k % 4) (k / 4) = 12 * u + k := by
      unfold gp_sl
      omega
    rw [z2, z1, z3]
  rw [gp_sm_congr 12 e3, gp_sm_swap]
  refine gp_sm_congr 40 (fun u _ => ?_)
  rw [gp_cn_sm]
theorem gp_put_n {ch : Int32} {sg : Nat → Nat} {n : Nat} (h : n ≤ 600) : (gp_put ch (sg, n)).2 ≤ 600 := by
  unfold gp_put
  split
  · rename_i q
    have := q.2
    simp only at this ⊢
    omega
  · exact h
theorem gp_put_sg {ch : Int32} {sg : Nat → Nat} {n : Nat} (h : ∀ j, sg j < 2 ^ 31) : ∀ j, (gp_put ch (sg, n)).1 j < 2 ^ 31 := by
  intro j
  unfold gp_put
  split
  · rename_i q
    simp only [va_up]
    split
    · obtain ⟨k, hk, rfl⟩ := nI_of2 (M := 126) (n := 126) rfl (fun z => absurd (Int32.lt_of_le_of_lt q.1.1 z) (by decide)) q.1.2
      rw [nI_clamp (by omega)]
      omega
    · exact h j
  · exact h j
theorem gm_S_0 (f1 f2 f3 f4 : Nat → Nat) (ed : Nat → Nat → Nat) (g h : Nat → Bool) (cd : Nat → Nat) : gm_S (fun _ => 0) g f1 f2 f3 f4 0 ed 0 (fun _ => 0) h cd 0 :=
  ⟨rfl, fun k hk => absurd hk (Nat.not_lt_zero _), fun t p s _ _ _ _ => ⟨rfl, fun q => absurd rfl q, fun e he => absurd he (Nat.not_lt_zero _)⟩, fun _ _ _ _ => rfl, fun _ => Nat.zero_le _⟩
/-! answers -/
theorem gl_t {ok : Prop} {ec : Nat} {a b : Int32} {r1 r2 r3 r4 : Nat → Nat} {rg code kind : Nat} (hA : (¬ ok ∧ a = -102) ∨ (ok ∧ ec = 0 ∧ a = -103) ∨ (ok ∧ ec ≠ 0 ∧ ∃ q, a = nI q ∧ gp_isL r1 r2 r3 r4 rg code kind q)) (hB : (¬ ok ∧ b = -102) ∨ (ok ∧ ec = 0 ∧ b = -103) ∨ (ok ∧ ec ≠ 0 ∧ ∃ q, b = nI q ∧ gp_isL r1 r2 r3 r4 rg code kind q)) : a = b := by
  rcases hA with ⟨a1, rfl⟩ | ⟨a1, a2, rfl⟩ | ⟨a1, a2, q, rfl, a3⟩ <;> rcases hB with ⟨b1, rfl⟩ | ⟨b1, b2, rfl⟩ | ⟨b1, b2, z, rfl, b3⟩ <;> first | rfl | exact absurd b1 a1 | exact absurd a1 b1 | exact absurd a2 b2 | exact absurd b2 a2 | rw [gp_isL_un a3 b3]
theorem gl_b {o1 o2 : Prop} {ec : Nat} {a b v : Int32} (hA : (¬ o1 ∧ a = -101) ∨ (o1 ∧ ¬ o2 ∧ a = -102) ∨ (o1 ∧ o2 ∧ ec = 0 ∧ a = -103) ∨ (o1 ∧ o2 ∧ ec ≠ 0 ∧ a = v)) (hB : (¬ o1 ∧ b = -101) ∨ (o1 ∧ ¬ o2 ∧ b = -102) ∨ (o1 ∧ o2 ∧ ec = 0 ∧ b = -103) ∨ (o1 ∧ o2 ∧ ec ≠ 0 ∧ b = v)) : a = b := by
  rcases hA with ⟨a1, rfl⟩ | ⟨a1, a2, rfl⟩ | ⟨a1, a2, a3, rfl⟩ | ⟨a1, a2, a3, rfl⟩ <;> rcases hB with ⟨b1, rfl⟩ | ⟨b1, b2, rfl⟩ | ⟨b1, b2, b3, rfl⟩ | ⟨b1, b2, b3, rfl⟩ <;> first | rfl | exact absurd b1 a1 | exact absurd a1 b1 | exact absurd a2 b2 | exact absurd b2 a2 | exact absurd a3 b3 | exact absurd b3 a3
theorem gl_k {ec k : Nat} {a b : Int32} {told : Nat → Nat} {x y c : gp_F} (hA : (ec = 0 ∧ a = -103 ∧ x = (told, k)) ∨ (ec ≠ 0 ∧ x = c ∧ a = nI x.2)) (hB : (ec = 0 ∧ b = -103 ∧ y = (told, k)) ∨ (ec ≠ 0 ∧ y = c ∧ b = nI y.2)) : a = b ∧ y = x ∧ (x = (told, k) ∨ x = c) := by
  rcases hA with ⟨a1, rfl, rfl⟩ | ⟨a1, rfl, rfl⟩ <;> rcases hB with ⟨b1, rfl, rfl⟩ | ⟨b1, rfl, rfl⟩
  · exact ⟨rfl, rfl, Or.inl rfl⟩
  · exact absurd a1 b1
  · exact absurd b1 a1
  · exact ⟨rfl, rfl, Or.inr rfl⟩
theorem gl_h {ok : Prop} {ec : Nat} {a b : Int32} {he x y z : Nat → Bool} {v on : Bool} (hA : (¬ ok ∧ a = -101 ∧ x = he) ∨ (ok ∧ ec = 0 ∧ a = -103 ∧ x = he) ∨ (ok ∧ ec ≠ 0 ∧ v = on ∧ a = 0 ∧ x = he) ∨ (ok ∧ ec ≠ 0 ∧ v ≠ on ∧ a = 1 ∧ x = z)) (hB : (¬ ok ∧ b = -101 ∧ y = he) ∨ (ok ∧ ec = 0 ∧ b = -103 ∧ y = he) ∨ (ok ∧ ec ≠ 0 ∧ v = on ∧ b = 0 ∧ y = he) ∨ (ok ∧ ec ≠ 0 ∧ v ≠ on ∧ b = 1 ∧ y = z)) : a = b ∧ y = x := by
  rcases hA with ⟨a1, rfl, rfl⟩ | ⟨a1, a2, rfl, rfl⟩ | ⟨a1, a2, a3, rfl, rfl⟩ | ⟨a1, a2, a3, rfl, rfl⟩ <;> rcases hB with ⟨b1, rfl, rfl⟩ | ⟨b1, b2, rfl, rfl⟩ | ⟨b1, b2, b3, rfl, rfl⟩ | ⟨b1, b2, b3, rfl, rfl⟩ <;> first | exact ⟨rfl, rfl⟩ | exact absurd b1 a1 | exact absurd a1 b1 | exact absurd a2 b2 | exact absurd b2 a2 | exact absurd a3 b3 | exact absurd b3 a3
theorem gl_c {o1 o2 : Prop} {ec : Nat} {a b v : Int32} (hA : (ec = 0 ∧ ¬ o1 ∧ a = -101) ∨ (ec = 0 ∧ o1 ∧ a = -103) ∨ (ec ≠ 0 ∧ ¬ o2 ∧ a = -101) ∨ (ec ≠ 0 ∧ o2 ∧ a = v)) (hB : (ec = 0 ∧ ¬ o1 ∧ b = -101) ∨ (ec = 0 ∧ o1 ∧ b = -103) ∨ (ec ≠ 0 ∧ ¬ o2 ∧ b = -101) ∨ (ec ≠ 0 ∧ o2 ∧ b = v)) : a = b := by
  rcases hA with ⟨a1, a2, rfl⟩ | ⟨a1, a2, rfl⟩ | ⟨a1, a2, rfl⟩ | ⟨a1, a2, rfl⟩ <;> rcases hB with ⟨b1, b2, rfl⟩ | ⟨b1, b2, rfl⟩ | ⟨b1, b2, rfl⟩ | ⟨b1, b2, rfl⟩ <;> first | rfl | exact absurd b1 a1 | exact absurd a1 b1 | exact absurd a2 b2 | exact absurd b2 a2
theorem gl_o {ok : Prop} {ec : Nat} {a b : Int32} {P Q : Prop} (hA : (¬ ok ∧ a = -101) ∨ (ok ∧ ec = 0 ∧ a = -103) ∨ (ok ∧ ec ≠ 0 ∧ P)) (hB : (¬ ok ∧ b = -101) ∨ (ok ∧ ec = 0 ∧ b = -103) ∨ (ok ∧ ec ≠ 0 ∧ Q)) (h : ok → P → Q → a = b) : a = b := by
  rcases hA with ⟨a1, rfl⟩ | ⟨a1, a2, rfl⟩ | ⟨a1, a2, a3⟩ <;> rcases hB with ⟨b1, rfl⟩ | ⟨b1, b2, rfl⟩ | ⟨b1, b2, b3⟩ <;> first | rfl | exact absurd b1 a1 | exact absurd a1 b1 | exact absurd a2 b2 | exact absurd b2 a2 | exact h a1 a3 b3
theorem gl_p {ec : Nat} {a b : Int32} {f g : Nat → Nat} {n : Nat} {L : List Nat} {i : Int32} (hA : (ec = 0 ∧ a = 0) ∨ (ec ≠ 0 ∧ gp_hs f n L ∧ a = gp_si f n i)) (hB : (ec = 0 ∧ b = 0) ∨ (ec ≠ 0 ∧ ∃ k, gp_hs g k L ∧ b = gp_si g k i)) : a = b := by
  rcases hA with ⟨a1, rfl⟩ | ⟨a1, a2, rfl⟩ <;> rcases hB with ⟨b1, rfl⟩ | ⟨b1, k, b2, rfl⟩
  · rfl
  · exact absurd a1 b1
  · exact absurd b1 a1
  · exact gp_si_eq a2 b2 i
