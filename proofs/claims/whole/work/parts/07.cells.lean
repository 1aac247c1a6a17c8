theorem s2_ne {σ : Sg} {a b : Nat} {v : Int32} {x z : Nat} (h : x ≠ a ∨ z ≠ b) : s2 σ a b v x z = σ x z := by
  unfold s2 va_up upd
  by_cases hx : x = a
  · subst hx
    rw [if_pos rfl, if_neg (by omega)]
  · rw [if_neg hx]
theorem s2_eq {σ : Sg} {a b : Nat} {v : Int32} : s2 σ a b v a b = v := by
  unfold s2 va_up upd
  rw [if_pos rfl, if_pos rfl]
theorem PL_bd : ∀ y, y ∈ PL → y.1 ≤ 23 ∧ (y.2 < 7 ∧ (y.1 = 19 → 2 < y.2)) ∧ (y.1 < 19 → y.2 < 3) ∧ (19 < y.1 → y.2 = 0) ∧ (y.1 = 0 → y.2 = 0) ∧ (13 < y.1 → y.1 < 19 → y.2 = 0) := by decide
theorem pl_c0 : ∀ k, k ∈ List.range 14 → ∀ i, i ∈ List.range 3 → 0 < k → (k, i) ∈ PL := by decide
theorem pl_c (k : Nat) (h : k < 14) (h0 : 0 < k) (i : Nat) (hi : i < 3) : (k, i) ∈ PL := pl_c0 k (List.mem_range.mpr h) i (List.mem_range.mpr hi) h0
theorem pl_m0 : ∀ i, i ∈ List.range 7 → 2 < i → (19, i) ∈ PL := by decide
theorem pl_m (i : Nat) (hi : 2 < i ∧ i < 7) : (19, i) ∈ PL := pl_m0 i (List.mem_range.mpr hi.2) hi.1
section FIELDS
variable {E : EnvT} {Z : ZT} {M : MI} {pc : Nat} {L : List (Option Value)} {S : List Value} {σ : Sg} {i t : Nat} {v : Int32}
theorem o_size (hi : i < 3) : ∀ y, y ∈ PL → y ≠ (1, i) → cel E (s2 σ (i) (0) v) y.1 y.2 = cel E σ y.1 y.2 := by
  rintro ⟨k', i'⟩ hy hne
  obtain ⟨b1, b2, b3, b4, b5, b6⟩ := PL_bd _ hy
  dsimp only at b1 b2 b3 b4 b5 b6 ⊢
  have hne' : ¬ (k' = 1 ∧ i' = i) := fun h => hne (by rw [h.1, h.2])
  clear hne hy
  match k', b1, b2, b3, b4, b5, b6, hne' with
  | 0, _, b2, b3, b4, b5, b6, hne => first | rfl | (simp only [cel]; simp (disch := omega) only [s2_ne]) | (exfalso; omega)
  | 1, _, b2, b3, b4, b5, b6, hne => first | rfl | (simp only [cel]; simp (disch := omega) only [s2_ne]) | (exfalso; omega)
  | 2, _, b2, b3, b4, b5, b6, hne => first | rfl | (simp only [cel]; simp (disch := omega) only [s2_ne]) | (exfalso; omega)
  | 3, _, b2, b3, b4, b5, b6, hne => first | rfl | (simp only [cel]; simp (disch := omega) only [s2_ne]) | (exfalso; omega)
  | 4, _, b2, b3, b4, b5, b6, hne => first | rfl | (simp only [cel]; simp (disch := omega) only [s2_ne]) | (exfalso; omega)
  | 5, _, b2, b3, b4, b5, b6, hne => first | rfl | (simp only [cel]; simp (disch := omega) only [s2_ne]) | (exfalso; omega)
  | 6, _, b2, b3, b4, b5, b6, hne => first | rfl | (simp only [cel]; simp (disch := omega) only [s2_ne]) | (exfalso; omega)
  | 7, _, b2, b3, b4, b5, b6, hne => first | rfl | (simp only [cel]; simp (disch := omega) only [s2_ne]) | (exfalso; omega)
  | 8, _, b2, b3, b4, b5, b6, hne => first | rfl | (simp only [cel]; simp (disch := omega) only [s2_ne]) | (exfalso; omega)
  | 9, _, b2, b3, b4, b5, b6, hne => first | rfl | (simp only [cel]; simp (disch := omega) only [s2_ne]) | (exfalso; omega)
  | 10, _, b2, b3, b4, b5, b6, hne => first | rfl | (simp only [cel]; simp (disch := omega) only [s2_ne]) | (exfalso; omega)
  | 11, _, b2, b3, b4, b5, b6, hne => first | rfl | (simp only [cel]; simp (disch := omega) only [s2_ne]) | (exfalso; omega)
  | 12, _, b2, b3, b4, b5, b6, hne => first | rfl | (simp only [cel]; simp (disch := omega) only [s2_ne]) | (exfalso; omega)
  | 13, _, b2, b3, b4, b5, b6, hne => first | rfl | (simp only [cel]; simp (disch := omega) only [s2_ne]) | (exfalso; omega)
  | 14, _, b2, b3, b4, b5, b6, hne => first | rfl | (simp only [cel]; simp (disch := omega) only [s2_ne]) | (exfalso; omega)
  | 15, _, b2, b3, b4, b5, b6, hne => first | rfl | (simp only [cel]; simp (disch := omega) only [s2_ne]) | (exfalso; omega)
  | 16, _, b2, b3, b4, b5, b6, hne => first | rfl | (simp only [cel]; simp (disch := omega) only [s2_ne]) | (exfalso; omega)
  | 17, _, b2, b3, b4, b5, b6, hne => first | rfl | (simp only [cel]; simp (disch := omega) only [s2_ne]) | (exfalso; omega)
  | 18, _, b2, b3, b4, b5, b6, hne => first | rfl | (simp only [cel]; simp (disch := omega) only [s2_ne]) | (exfalso; omega)
  | 19, _, b2, b3, b4, b5, b6, hne => first | rfl | (simp only [cel]; simp (disch := omega) only [s2_ne]) | (exfalso; omega)
  | 20, _, b2, b3, b4, b5, b6, hne => first | rfl | (simp only [cel]; simp (disch := omega) only [s2_ne]) | (exfalso; omega)
  | 21, _, b2, b3, b4, b5, b6, hne => first | rfl | (simp only [cel]; simp (disch := omega) only [s2_ne]) | (exfalso; omega)
  | 22, _, b2, b3, b4, b5, b6, hne => first | rfl | (simp only [cel]; simp (disch := omega) only [s2_ne]) | (exfalso; omega)
  | 23, _, b2, b3, b4, b5, b6, hne => first | rfl | (simp only [cel]; simp (disch := omega) only [s2_ne]) | (exfalso; omega)
  | k + 24, b1, _, _, _, _, _, _ => omega
theorem o_day (hi : i < 3) : ∀ y, y ∈ PL → y ≠ (1, i) → cel E (s2 σ (i) (1) v) y.1 y.2 = cel E σ y.1 y.2 := by
  rintro ⟨k', i'⟩ hy hne
  obtain ⟨b1, b2, b3, b4, b5, b6⟩ := PL_bd _ hy
  dsimp only at b1 b2 b3 b4 b5 b6 ⊢
  have hne' : ¬ (k' = 1 ∧ i' = i) := fun h => hne (by rw [h.1, h.2])
  clear hne hy
  match k', b1, b2, b3, b4, b5, b6, hne' with
  | 0, _, b2, b3, b4, b5, b6, hne => first | rfl | (simp only [cel]; simp (disch := omega) only [s2_ne]) | (exfalso; omega)
  | 1, _, b2, b3, b4, b5, b6, hne => first | rfl | (simp only [cel]; simp (disch := omega) only [s2_ne]) | (exfalso; omega)
  | 2, _, b2, b3, b4, b5, b6, hne => first | rfl | (simp only [cel]; simp (disch := omega) only [s2_ne]) | (exfalso; omega)
  | 3, _, b2, b3, b4, b5, b6, hne => first | rfl | (simp only [cel]; simp (disch := omega) only [s2_ne]) | (exfalso; omega)
  | 4, _, b2, b3, b4, b5, b6, hne => first | rfl | (simp only [cel]; simp (disch := omega) only [s2_ne]) | (exfalso; omega)
  | 5, _, b2, b3, b4, b5, b6, hne => first | rfl | (simp only [cel]; simp (disch := omega) only [s2_ne]) | (exfalso; omega)
  | 6, _, b2, b3, b4, b5, b6, hne => first | rfl | (simp only [cel]; simp (disch := omega) only [s2_ne]) | (exfalso; omega)
  | 7, _, b2, b3, b4, b5, b6, hne => first | rfl | (simp only [cel]; simp (disch := omega) only [s2_ne]) | (exfalso; omega)
  | 8, _, b2, b3, b4, b5, b6, hne => first | rfl | (simp only [cel]; simp (disch := omega) only [s2_ne]) | (exfalso; omega)
  | 9, _, b2, b3, b4, b5, b6, hne => first | rfl | (simp only [cel]; simp (disch := omega) only [s2_ne]) | (exfalso; omega)
  | 10, _, b2, b3, b4, b5, b6, hne => first | rfl | (simp only [cel]; simp (disch := omega) only [s2_ne]) | (exfalso; omega)
  | 11, _, b2, b3, b4, b5, b6, hne => first | rfl | (simp only [cel]; simp (disch := omega) only [s2_ne]) | (exfalso; omega)
  | 12, _, b2, b3, b4, b5, b6, hne => first | rfl | (simp only [cel]; simp (disch := omega) only [s2_ne]) | (exfalso; omega)
  | 13, _, b2, b3, b4, b5, b6, hne => first | rfl | (simp only [cel]; simp (disch := omega) only [s2_ne]) | (exfalso; omega)
  | 14, _, b2, b3, b4, b5, b6, hne => first | rfl | (simp only [cel]; simp (disch := omega) only [s2_ne]) | (exfalso; omega)
  | 15, _, b2, b3, b4, b5, b6, hne => first | rfl | (simp only [cel]; simp (disch := omega) only [s2_ne]) | (exfalso; omega)
  | 16, _, b2, b3, b4, b5, b6, hne => first | rfl | (simp only [cel]; simp (disch := omega) only [s2_ne]) | (exfalso; omega)
  | 17, _, b2, b3, b4, b5, b6, hne => first | rfl | (simp only [cel]; simp (disch := omega) only [s2_ne]) | (exfalso; omega)
  | 18, _, b2, b3, b4, b5, b6, hne => first | rfl | (simp only [cel]; simp (disch := omega) only [s2_ne]) | (exfalso; omega)
  | 19, _, b2, b3, b4, b5, b6, hne => first | rfl | (simp only [cel]; simp (disch := omega) only [s2_ne]) | (exfalso; omega)
  | 20, _, b2, b3, b4, b5, b6, hne => first | rfl | (simp only [cel]; simp (disch := omega) only [s2_ne]) | (exfalso; omega)
  | 21, _, b2, b3, b4, b5, b6, hne => first | rfl | (simp only [cel]; simp (disch := omega) only [s2_ne]) | (exfalso; omega)
  | 22, _, b2, b3, b4, b5, b6, hne => first | rfl | (simp only [cel]; simp (disch := omega) only [s2_ne]) | (exfalso; omega)
  | 23, _, b2, b3, b4, b5, b6, hne => first | rfl | (simp only [cel]; simp (disch := omega) only [s2_ne]) | (exfalso; omega)
  | k + 24, b1, _, _, _, _, _, _ => omega
theorem o_wages (hi : i < 3) : ∀ y, y ∈ PL → y ≠ (1, i) → cel E (s2 σ (i) (2) v) y.1 y.2 = cel E σ y.1 y.2 := by
  rintro ⟨k', i'⟩ hy hne
  obtain ⟨b1, b2, b3, b4, b5, b6⟩ := PL_bd _ hy
  dsimp only at b1 b2 b3 b4 b5 b6 ⊢
  have hne' : ¬ (k' = 1 ∧ i' = i) := fun h => hne (by rw [h.1, h.2])
  clear hne hy
  match k', b1, b2, b3, b4, b5, b6, hne' with
  | 0, _, b2, b3, b4, b5, b6, hne => first | rfl | (simp only [cel]; simp (disch := omega) only [s2_ne]) | (exfalso; omega)
  | 1, _, b2, b3, b4, b5, b6, hne => first | rfl | (simp only [cel]; simp (disch := omega) only [s2_ne]) | (exfalso; omega)
  | 2, _, b2, b3, b4, b5, b6, hne => first | rfl | (simp only [cel]; simp (disch := omega) only [s2_ne]) | (exfalso; omega)
  | 3, _, b2, b3, b4, b5, b6, hne => first | rfl | (simp only [cel]; simp (disch := omega) only [s2_ne]) | (exfalso; omega)
  | 4, _, b2, b3, b4, b5, b6, hne => first | rfl | (simp only [cel]; simp (disch := omega) only [s2_ne]) | (exfalso; omega)
  | 5, _, b2, b3, b4, b5, b6, hne => first | rfl | (simp only [cel]; simp (disch := omega) only [s2_ne]) | (exfalso; omega)
  | 6, _, b2, b3, b4, b5, b6, hne => first | rfl | (simp only [cel]; simp (disch := omega) only [s2_ne]) | (exfalso; omega)
  | 7, _, b2, b3, b4, b5, b6, hne => first | rfl | (simp only [cel]; simp (disch := omega) only [s2_ne]) | (exfalso; omega)
  | 8, _, b2, b3, b4, b5, b6, hne => first | rfl | (simp only [cel]; simp (disch := omega) only [s2_ne]) | (exfalso; omega)
  | 9, _, b2, b3, b4, b5, b6, hne => first | rfl | (simp only [cel]; simp (disch := omega) only [s2_ne]) | (exfalso; omega)
  | 10, _, b2, b3, b4, b5, b6, hne => first | rfl | (simp only [cel]; simp (disch := omega) only [s2_ne]) | (exfalso; omega)
  | 11, _, b2, b3, b4, b5, b6, hne => first | rfl | (simp only [cel]; simp (disch := omega) only [s2_ne]) | (exfalso; omega)
  | 12, _, b2, b3, b4, b5, b6, hne => first | rfl | (simp only [cel]; simp (disch := omega) only [s2_ne]) | (exfalso; omega)
  | 13, _, b2, b3, b4, b5, b6, hne => first | rfl | (simp only [cel]; simp (disch := omega) only [s2_ne]) | (exfalso; omega)
  | 14, _, b2, b3, b4, b5, b6, hne => first | rfl | (simp only [cel]; simp (disch := omega) only [s2_ne]) | (exfalso; omega)
  | 15, _, b2, b3, b4, b5, b6, hne => first | rfl | (simp only [cel]; simp (disch := omega) only [s2_ne]) | (exfalso; omega)
  | 16, _, b2, b3, b4, b5, b6, hne => first | rfl | (simp only [cel]; simp (disch := omega) only [s2_ne]) | (exfalso; omega)
  | 17, _, b2, b3, b4, b5, b6, hne => first | rfl | (simp only [cel]; simp (disch := omega) only [s2_ne]) | (exfalso; omega)
  | 18, _, b2, b3, b4, b5, b6, hne => first | rfl | (simp only [cel]; simp (disch := omega) only [s2_ne]) | (exfalso; omega)
  | 19, _, b2, b3, b4, b5, b6, hne => first | rfl | (simp only [cel]; simp (disch := omega) only [s2_ne]) | (exfalso; omega)
  | 20, _, b2, b3, b4, b5, b6, hne => first | rfl | (simp only [cel]; simp (disch := omega) only [s2_ne]) | (exfalso; omega)
  | 21, _, b2, b3, b4, b5, b6, hne => first | rfl | (simp only [cel]; simp (disch := omega) only [s2_ne]) | (exfalso; omega)
  | 22, _, b2, b3, b4, b5, b6, hne => first | rfl | (simp only [cel]; simp (disch := omega) only [s2_ne]) | (exfalso; omega)
  | 23, _, b2, b3, b4, b5, b6, hne => first | rfl | (simp only [cel]; simp (disch := omega) only [s2_ne]) | (exfalso; omega)
  | k + 24, b1, _, _, _, _, _, _ => omega
theorem o_9 (hi : i < 3) : ∀ y, y ∈ PL → y ≠ (9, i) → cel E (s2 σ (i) (3 + 5 * t) v) y.1 y.2 = cel E σ y.1 y.2 := by
  rintro ⟨k', i'⟩ hy hne
  obtain ⟨b1, b2, b3, b4, b5, b6⟩ := PL_bd _ hy
  dsimp only at b1 b2 b3 b4 b5 b6 ⊢
  have hne' : ¬ (k' = 9 ∧ i' = i) := fun h => hne (by rw [h.1, h.2])
  clear hne hy
  match k', b1, b2, b3, b4, b5, b6, hne' with
  | 0, _, b2, b3, b4, b5, b6, hne => first | rfl | (simp only [cel]; simp (disch := omega) only [s2_ne]) | (exfalso; omega)
  | 1, _, b2, b3, b4, b5, b6, hne => first | rfl | (simp only [cel]; simp (disch := omega) only [s2_ne]) | (exfalso; omega)
  | 2, _, b2, b3, b4, b5, b6, hne => first | rfl | (simp only [cel]; simp (disch := omega) only [s2_ne]) | (exfalso; omega)
  | 3, _, b2, b3, b4, b5, b6, hne => first | rfl | (simp only [cel]; simp (disch := omega) only [s2_ne]) | (exfalso; omega)
  | 4, _, b2, b3, b4, b5, b6, hne => first | rfl | (simp only [cel]; simp (disch := omega) only [s2_ne]) | (exfalso; omega)
  | 5, _, b2, b3, b4, b5, b6, hne => first | rfl | (simp only [cel]; simp (disch := omega) only [s2_ne]) | (exfalso; omega)
  | 6, _, b2, b3, b4, b5, b6, hne => first | rfl | (simp only [cel]; simp (disch := omega) only [s2_ne]) | (exfalso; omega)
  | 7, _, b2, b3, b4, b5, b6, hne => first | rfl | (simp only [cel]; simp (disch := omega) only [s2_ne]) | (exfalso; omega)
  | 8, _, b2, b3, b4, b5, b6, hne => first | rfl | (simp only [cel]; simp (disch := omega) only [s2_ne]) | (exfalso; omega)
  | 9, _, b2, b3, b4, b5, b6, hne => first | rfl | (simp only [cel]; simp (disch := omega) only [s2_ne]) | (exfalso; omega)
  | 10, _, b2, b3, b4, b5, b6, hne => first | rfl | (simp only [cel]; simp (disch := omega) only [s2_ne]) | (exfalso; omega)
  | 11, _, b2, b3, b4, b5, b6, hne => first | rfl | (simp only [cel]; simp (disch := omega) only [s2_ne]) | (exfalso; omega)
  | 12, _, b2, b3, b4, b5, b6, hne => first | rfl | (simp only [cel]; simp (disch := omega) only [s2_ne]) | (exfalso; omega)
  | 13, _, b2, b3, b4, b5, b6, hne => first | rfl | (simp only [cel]; simp (disch := omega) only [s2_ne]) | (exfalso; omega)
  | 14, _, b2, b3, b4, b5, b6, hne => first | rfl | (simp only [cel]; simp (disch := omega) only [s2_ne]) | (exfalso; omega)
  | 15, _, b2, b3, b4, b5, b6, hne => first | rfl | (simp only [cel]; simp (disch := omega) only [s2_ne]) | (exfalso; omega)
  | 16, _, b2, b3, b4, b5, b6, hne => first | rfl | (simp only [cel]; simp (disch := omega) only [s2_ne]) | (exfalso; omega)
  | 17, _, b2, b3, b4, b5, b6, hne => first | rfl | (simp only [cel]; simp (disch := omega) only [s2_ne]) | (exfalso; omega)
  | 18, _, b2, b3, b4, b5, b6, hne => first | rfl | (simp only [cel]; simp (disch := omega) only [s2_ne]) | (exfalso; omega)
  | 19, _, b2, b3, b4, b5, b6, hne => first | rfl | (simp only [cel]; simp (disch := omega) only [s2_ne]) | (exfalso; omega)
  | 20, _, b2, b3, b4, b5, b6, hne => first | rfl | (simp only [cel]; simp (disch := omega) only [s2_ne]) | (exfalso; omega)
  | 21, _, b2, b3, b4, b5, b6, hne => first | rfl | (simp only [cel]; simp (disch := omega) only [s2_ne]) | (exfalso; omega)
  | 22, _, b2, b3, b4, b5, b6, hne => first | rfl | (simp only [cel]; simp (disch := omega) only [s2_ne]) | (exfalso; omega)
  | 23, _, b2, b3, b4, b5, b6, hne => first | rfl | (simp only [cel]; simp (disch := omega) only [s2_ne]) | (exfalso; omega)
  | k + 24, b1, _, _, _, _, _, _ => omega
theorem o_10 (hi : i < 3) : ∀ y, y ∈ PL → y ≠ (10, i) → cel E (s2 σ (i) (4 + 5 * t) v) y.1 y.2 = cel E σ y.1 y.2 := by
  rintro ⟨k', i'⟩ hy hne
  obtain ⟨b1, b2, b3, b4, b5, b6⟩ := PL_bd _ hy
  dsimp only at b1 b2 b3 b4 b5 b6 ⊢
  have hne' : ¬ (k' = 10 ∧ i' = i) := fun h => hne (by rw [h.1, h.2])
  clear hne hy
  match k', b1, b2, b3, b4, b5, b6, hne' with
  | 0, _, b2, b3, b4, b5, b6, hne => first | rfl | (simp only [cel]; simp (disch := omega) only [s2_ne]) | (exfalso; omega)
  | 1, _, b2, b3, b4, b5, b6, hne => first | rfl | (simp only [cel]; simp (disch := omega) only [s2_ne]) | (exfalso; omega)
  | 2, _, b2, b3, b4, b5, b6, hne => first | rfl | (simp only [cel]; simp (disch := omega) only [s2_ne]) | (exfalso; omega)
  | 3, _, b2, b3, b4, b5, b6, hne => first | rfl | (simp only [cel]; simp (disch := omega) only [s2_ne]) | (exfalso; omega)
  | 4, _, b2, b3, b4, b5, b6, hne => first | rfl | (simp only [cel]; simp (disch := omega) only [s2_ne]) | (exfalso; omega)
  | 5, _, b2, b3, b4, b5, b6, hne => first | rfl | (simp only [cel]; simp (disch := omega) only [s2_ne]) | (exfalso; omega)
  | 6, _, b2, b3, b4, b5, b6, hne => first | rfl | (simp only [cel]; simp (disch := omega) only [s2_ne]) | (exfalso; omega)
  | 7, _, b2, b3, b4, b5, b6, hne => first | rfl | (simp only [cel]; simp (disch := omega) only [s2_ne]) | (exfalso; omega)
  | 8, _, b2, b3, b4, b5, b6, hne => first | rfl | (simp only [cel]; simp (disch := omega) only [s2_ne]) | (exfalso; omega)
  | 9, _, b2, b3, b4, b5, b6, hne => first | rfl | (simp only [cel]; simp (disch := omega) only [s2_ne]) | (exfalso; omega)
  | 10, _, b2, b3, b4, b5, b6, hne => first | rfl | (simp only [cel]; simp (disch := omega) only [s2_ne]) | (exfalso; omega)
  | 11, _, b2, b3, b4, b5, b6, hne => first | rfl | (simp only [cel]; simp (disch := omega) only [s2_ne]) | (exfalso; omega)
  | 12, _, b2, b3, b4, b5, b6, hne => first | rfl | (simp only [cel]; simp (disch := omega) only [s2_ne]) | (exfalso; omega)
  | 13, _, b2, b3, b4, b5, b6, hne => first | rfl | (simp only [cel]; simp (disch := omega) only [s2_ne]) | (exfalso; omega)
  | 14, _, b2, b3, b4, b5, b6, hne => first | rfl | (simp only [cel]; simp (disch := omega) only [s2_ne]) | (exfalso; omega)
  | 15, _, b2, b3, b4, b5, b6, hne => first | rfl | (simp only [cel]; simp (disch := omega) only [s2_ne]) | (exfalso; omega)
  | 16, _, b2, b3, b4, b5, b6, hne => first | rfl | (simp only [cel]; simp (disch := omega) only [s2_ne]) | (exfalso; omega)
  | 17, _, b2, b3, b4, b5, b6, hne => first | rfl | (simp only [cel]; simp (disch := omega) only [s2_ne]) | (exfalso; omega)
  | 18, _, b2, b3, b4, b5, b6, hne => first | rfl | (simp only [cel]; simp (disch := omega) only [s2_ne]) | (exfalso; omega)
  | 19, _, b2, b3, b4, b5, b6, hne => first | rfl | (simp only [cel]; simp (disch := omega) only [s2_ne]) | (exfalso; omega)
  | 20, _, b2, b3, b4, b5, b6, hne => first | rfl | (simp only [cel]; simp (disch := omega) only [s2_ne]) | (exfalso; omega)
  | 21, _, b2, b3, b4, b5, b6, hne => first | rfl | (simp only [cel]; simp (disch := omega) only [s2_ne]) | (exfalso; omega)
  | 22, _, b2, b3, b4, b5, b6, hne => first | rfl | (simp only [cel]; simp (disch := omega) only [s2_ne]) | (exfalso; omega)
  | 23, _, b2, b3, b4, b5, b6, hne => first | rfl | (simp only [cel]; simp (disch := omega) only [s2_ne]) | (exfalso; omega)
  | k + 24, b1, _, _, _, _, _, _ => omega
theorem o_11 (hi : i < 3) : ∀ y, y ∈ PL → y ≠ (11, i) → cel E (s2 σ (i) (5 + 5 * t) v) y.1 y.2 = cel E σ y.1 y.2 := by
  rintro ⟨k', i'⟩ hy hne
  obtain ⟨b1, b2, b3, b4, b5, b6⟩ := PL_bd _ hy
  dsimp only at b1 b2 b3 b4 b5 b6 ⊢
  have hne' : ¬ (k' = 11 ∧ i' = i) := fun h => hne (by rw [h.1, h.2])
  clear hne hy
  match k', b1, b2, b3, b4, b5, b6, hne' with
  | 0, _, b2, b3, b4, b5, b6, hne => first | rfl | (simp only [cel]; simp (disch := omega) only [s2_ne]) | (exfalso; omega)
  | 1, _, b2, b3, b4, b5, b6, hne => first | rfl | (simp only [cel]; simp (disch := omega) only [s2_ne]) | (exfalso; omega)
  | 2, _, b2, b3, b4, b5, b6, hne => first | rfl | (simp only [cel]; simp (disch := omega) only [s2_ne]) | (exfalso; omega)
  | 3, _, b2, b3, b4, b5, b6, hne => first | rfl | (simp only [cel]; simp (disch := omega) only [s2_ne]) | (exfalso; omega)
  | 4, _, b2, b3, b4, b5, b6, hne => first | rfl | (simp only [cel]; simp (disch := omega) only [s2_ne]) | (exfalso; omega)
  | 5, _, b2, b3, b4, b5, b6, hne => first | rfl | (simp only [cel]; simp (disch := omega) only [s2_ne]) | (exfalso; omega)
  | 6, _, b2, b3, b4, b5, b6, hne => first | rfl | (simp only [cel]; simp (disch := omega) only [s2_ne]) | (exfalso; omega)
  | 7, _, b2, b3, b4, b5, b6, hne => first | rfl | (simp only [cel]; simp (disch := omega) only [s2_ne]) | (exfalso; omega)
  | 8, _, b2, b3, b4, b5, b6, hne => first | rfl | (simp only [cel]; simp (disch := omega) only [s2_ne]) | (exfalso; omega)
  | 9, _, b2, b3, b4, b5, b6, hne => first | rfl | (simp only [cel]; simp (disch := omega) only [s2_ne]) | (exfalso; omega)
  | 10, _, b2, b3, b4, b5, b6, hne => first | rfl | (simp only [cel]; simp (disch := omega) only [s2_ne]) | (exfalso; omega)
  | 11, _, b2, b3, b4, b5, b6, hne => first | rfl | (simp only [cel]; simp (disch := omega) only [s2_ne]) | (exfalso; omega)
  | 12, _, b2, b3, b4, b5, b6, hne => first | rfl | (simp only [cel]; simp (disch := omega) only [s2_ne]) | (exfalso; omega)
  | 13, _, b2, b3, b4, b5, b6, hne => first | rfl | (simp only [cel]; simp (disch := omega) only [s2_ne]) | (exfalso; omega)
  | 14, _, b2, b3, b4, b5, b6, hne => first | rfl | (simp only [cel]; simp (disch := omega) only [s2_ne]) | (exfalso; omega)
  | 15, _, b2, b3, b4, b5, b6, hne => first | rfl | (simp only [cel]; simp (disch := omega) only [s2_ne]) | (exfalso; omega)
  | 16, _, b2, b3, b4, b5, b6, hne => first | rfl | (simp only [cel]; simp (disch := omega) only [s2_ne]) | (exfalso; omega)
  | 17, _, b2, b3, b4, b5, b6, hne => first | rfl | (simp only [cel]; simp (disch := omega) only [s2_ne]) | (exfalso; omega)
  | 18, _, b2, b3, b4, b5, b6, hne => first | rfl | (simp only [cel]; simp (disch := omega) only [s2_ne]) | (exfalso; omega)
  | 19, _, b2, b3, b4, b5, b6, hne => first | rfl | (simp only [cel]; simp (disch := omega) only [s2_ne]) | (exfalso; omega)
  | 20, _, b2, b3, b4, b5, b6, hne => first | rfl | (simp only [cel]; simp (disch := omega) only [s2_ne]) | (exfalso; omega)
  | 21, _, b2, b3, b4, b5, b6, hne => first | rfl | (simp only [cel]; simp (disch := omega) only [s2_ne]) | (exfalso; omega)
  | 22, _, b2, b3, b4, b5, b6, hne => first | rfl | (simp only [cel]; simp (disch := omega) only [s2_ne]) | (exfalso; omega)
  | 23, _, b2, b3, b4, b5, b6, hne => first | rfl | (simp only [cel]; simp (disch := omega) only [s2_ne]) | (exfalso; omega)
  | k + 24, b1, _, _, _, _, _, _ => omega
theorem o_12 (hi : i < 3) : ∀ y, y ∈ PL → y ≠ (12, i) → cel E (s2 σ (i) (6 + 5 * t) v) y.1 y.2 = cel E σ y.1 y.2 := by
  rintro ⟨k', i'⟩ hy hne
  obtain ⟨b1, b2, b3, b4, b5, b6⟩ := PL_bd _ hy
  dsimp only at b1 b2 b3 b4 b5 b6 ⊢
  have hne' : ¬ (k' = 12 ∧ i' = i) := fun h => hne (by rw [h.1, h.2])
  clear hne hy
  match k', b1, b2, b3, b4, b5, b6, hne' with
  | 0, _, b2, b3, b4, b5, b6, hne => first | rfl | (simp only [cel]; simp (disch := omega) only [s2_ne]) | (exfalso; omega)
  | 1, _, b2, b3, b4, b5, b6, hne => first | rfl | (simp only [cel]; simp (disch := omega) only [s2_ne]) | (exfalso; omega)
  | 2, _, b2, b3, b4, b5, b6, hne => first | rfl | (simp only [cel]; simp (disch := omega) only [s2_ne]) | (exfalso; omega)
  | 3, _, b2, b3, b4, b5, b6, hne => first | rfl | (simp only [cel]; simp (disch := omega) only [s2_ne]) | (exfalso; omega)
  | 4, _, b2, b3, b4, b5, b6, hne => first | rfl | (simp only [cel]; simp (disch := omega) only [s2_ne]) | (exfalso; omega)
  | 5, _, b2, b3, b4, b5, b6, hne => first | rfl | (simp only [cel]; simp (disch := omega) only [s2_ne]) | (exfalso; omega)
  | 6, _, b2, b3, b4, b5, b6, hne => first | rfl | (simp only [cel]; simp (disch := omega) only [s2_ne]) | (exfalso; omega)
  | 7, _, b2, b3, b4, b5, b6, hne => first | rfl | (simp only [cel]; simp (disch := omega) only [s2_ne]) | (exfalso; omega)
  | 8, _, b2, b3, b4, b5, b6, hne => first | rfl | (simp only [cel]; simp (disch := omega) only [s2_ne]) | (exfalso; omega)
  | 9, _, b2, b3, b4, b5, b6, hne => first | rfl | (simp only [cel]; simp (disch := omega) only [s2_ne]) | (exfalso; omega)
  | 10, _, b2, b3, b4, b5, b6, hne => first | rfl | (simp only [cel]; simp (disch := omega) only [s2_ne]) | (exfalso; omega)
  | 11, _, b2, b3, b4, b5, b6, hne => first | rfl | (simp only [cel]; simp (disch := omega) only [s2_ne]) | (exfalso; omega)
  | 12, _, b2, b3, b4, b5, b6, hne => first | rfl | (simp only [cel]; simp (disch := omega) only [s2_ne]) | (exfalso; omega)
  | 13, _, b2, b3, b4, b5, b6, hne => first | rfl | (simp only [cel]; simp (disch := omega) only [s2_ne]) | (exfalso; omega)
  | 14, _, b2, b3, b4, b5, b6, hne => first | rfl | (simp only [cel]; simp (disch := omega) only [s2_ne]) | (exfalso; omega)
  | 15, _, b2, b3, b4, b5, b6, hne => first | rfl | (simp only [cel]; simp (disch := omega) only [s2_ne]) | (exfalso; omega)
  | 16, _, b2, b3, b4, b5, b6, hne => first | rfl | (simp only [cel]; simp (disch := omega) only [s2_ne]) | (exfalso; omega)
  | 17, _, b2, b3, b4, b5, b6, hne => first | rfl | (simp only [cel]; simp (disch := omega) only [s2_ne]) | (exfalso; omega)
  | 18, _, b2, b3, b4, b5, b6, hne => first | rfl | (simp only [cel]; simp (disch := omega) only [s2_ne]) | (exfalso; omega)
  | 19, _, b2, b3, b4, b5, b6, hne => first | rfl | (simp only [cel]; simp (disch := omega) only [s2_ne]) | (exfalso; omega)
  | 20, _, b2, b3, b4, b5, b6, hne => first | rfl | (simp only [cel]; simp (disch := omega) only [s2_ne]) | (exfalso; omega)
  | 21, _, b2, b3, b4, b5, b6, hne => first | rfl | (simp only [cel]; simp (disch := omega) only [s2_ne]) | (exfalso; omega)
  | 22, _, b2, b3, b4, b5, b6, hne => first | rfl | (simp only [cel]; simp (disch := omega) only [s2_ne]) | (exfalso; omega)
  | 23, _, b2, b3, b4, b5, b6, hne => first | rfl | (simp only [cel]; simp (disch := omega) only [s2_ne]) | (exfalso; omega)
  | k + 24, b1, _, _, _, _, _, _ => omega
theorem o_13 (hi : i < 3) : ∀ y, y ∈ PL → y ≠ (13, i) → cel E (s2 σ (i) (7 + 5 * t) v) y.1 y.2 = cel E σ y.1 y.2 := by
  rintro ⟨k', i'⟩ hy hne
  obtain ⟨b1, b2, b3, b4, b5, b6⟩ := PL_bd _ hy
  dsimp only at b1 b2 b3 b4 b5 b6 ⊢
  have hne' : ¬ (k' = 13 ∧ i' = i) := fun h => hne (by rw [h.1, h.2])
  clear hne hy
  match k', b1, b2, b3, b4, b5, b6, hne' with
  | 0, _, b2, b3, b4, b5, b6, hne => first | rfl | (simp only [cel]; simp (disch := omega) only [s2_ne]) | (exfalso; omega)
  | 1, _, b2, b3, b4, b5, b6, hne => first | rfl | (simp only [cel]; simp (disch := omega) only [s2_ne]) | (exfalso; omega)
  | 2, _, b2, b3, b4, b5, b6, hne => first | rfl | (simp only [cel]; simp (disch := omega) only [s2_ne]) | (exfalso; omega)
  | 3, _, b2, b3, b4, b5, b6, hne => first | rfl | (simp only [cel]; simp (disch := omega) only [s2_ne]) | (exfalso; omega)
  | 4, _, b2, b3, b4, b5, b6, hne => first | rfl | (simp only [cel]; simp (disch := omega) only [s2_ne]) | (exfalso; omega)
  | 5, _, b2, b3, b4, b5, b6, hne => first | rfl | (simp only [cel]; simp (disch := omega) only [s2_ne]) | (exfalso; omega)
  | 6, _, b2, b3, b4, b5, b6, hne => first | rfl | (simp only [cel]; simp (disch := omega) only [s2_ne]) | (exfalso; omega)
  | 7, _, b2, b3, b4, b5, b6, hne => first | rfl | (simp only [cel]; simp (disch := omega) only [s2_ne]) | (exfalso; omega)
  | 8, _, b2, b3, b4, b5, b6, hne => first | rfl | (simp only [cel]; simp (disch := omega) only [s2_ne]) | (exfalso; omega)
  | 9, _, b2, b3, b4, b5, b6, hne => first | rfl | (simp only [cel]; simp (disch := omega) only [s2_ne]) | (exfalso; omega)
  | 10, _, b2, b3, b4, b5, b6, hne => first | rfl | (simp only [cel]; simp (disch := omega) only [s2_ne]) | (exfalso; omega)
  | 11, _, b2, b3, b4, b5, b6, hne => first | rfl | (simp only [cel]; simp (disch := omega) only [s2_ne]) | (exfalso; omega)
  | 12, _, b2, b3, b4, b5, b6, hne => first | rfl | (simp only [cel]; simp (disch := omega) only [s2_ne]) | (exfalso; omega)
  | 13, _, b2, b3, b4, b5, b6, hne => first | rfl | (simp only [cel]; simp (disch := omega) only [s2_ne]) | (exfalso; omega)
  | 14, _, b2, b3, b4, b5, b6, hne => first | rfl | (simp only [cel]; simp (disch := omega) only [s2_ne]) | (exfalso; omega)
  | 15, _, b2, b3, b4, b5, b6, hne => first | rfl | (simp only [cel]; simp (disch := omega) only [s2_ne]) | (exfalso; omega)
  | 16, _, b2, b3, b4, b5, b6, hne => first | rfl | (simp only [cel]; simp (disch := omega) only [s2_ne]) | (exfalso; omega)
  | 17, _, b2, b3, b4, b5, b6, hne => first | rfl | (simp only [cel]; simp (disch := omega) only [s2_ne]) | (exfalso; omega)
  | 18, _, b2, b3, b4, b5, b6, hne => first | rfl | (simp only [cel]; simp (disch := omega) only [s2_ne]) | (exfalso; omega)
  | 19, _, b2, b3, b4, b5, b6, hne => first | rfl | (simp only [cel]; simp (disch := omega) only [s2_ne]) | (exfalso; omega)
  | 20, _, b2, b3, b4, b5, b6, hne => first | rfl | (simp only [cel]; simp (disch := omega) only [s2_ne]) | (exfalso; omega)
  | 21, _, b2, b3, b4, b5, b6, hne => first | rfl | (simp only [cel]; simp (disch := omega) only [s2_ne]) | (exfalso; omega)
  | 22, _, b2, b3, b4, b5, b6, hne => first | rfl | (simp only [cel]; simp (disch := omega) only [s2_ne]) | (exfalso; omega)
  | 23, _, b2, b3, b4, b5, b6, hne => first | rfl | (simp only [cel]; simp (disch := omega) only [s2_ne]) | (exfalso; omega)
  | k + 24, b1, _, _, _, _, _, _ => omega
theorem o_k0 : ∀ y, y ∈ PL → y ≠ (0, 0) → cel E (s2 σ (10) (0) v) y.1 y.2 = cel E σ y.1 y.2 := by
  rintro ⟨k', i'⟩ hy hne
  obtain ⟨b1, b2, b3, b4, b5, b6⟩ := PL_bd _ hy
  dsimp only at b1 b2 b3 b4 b5 b6 ⊢
  have hne' : ¬ (k' = 0 ∧ i' = 0) := fun h => hne (by rw [h.1, h.2])
  clear hne hy
  match k', b1, b2, b3, b4, b5, b6, hne' with
  | 0, _, b2, b3, b4, b5, b6, hne => first | rfl | (simp only [cel]; simp (disch := omega) only [s2_ne]) | (exfalso; omega)
  | 1, _, b2, b3, b4, b5, b6, hne => first | rfl | (simp only [cel]; simp (disch := omega) only [s2_ne]) | (exfalso; omega)
  | 2, _, b2, b3, b4, b5, b6, hne => first | rfl | (simp only [cel]; simp (disch := omega) only [s2_ne]) | (exfalso; omega)
  | 3, _, b2, b3, b4, b5, b6, hne => first | rfl | (simp only [cel]; simp (disch := omega) only [s2_ne]) | (exfalso; omega)
  | 4, _, b2, b3, b4, b5, b6, hne => first | rfl | (simp only [cel]; simp (disch := omega) only [s2_ne]) | (exfalso; omega)
  | 5, _, b2, b3, b4, b5, b6, hne => first | rfl | (simp only [cel]; simp (disch := omega) only [s2_ne]) | (exfalso; omega)
  | 6, _, b2, b3, b4, b5, b6, hne => first | rfl | (simp only [cel]; simp (disch := omega) only [s2_ne]) | (exfalso; omega)
  | 7, _, b2, b3, b4, b5, b6, hne => first | rfl | (simp only [cel]; simp (disch := omega) only [s2_ne]) | (exfalso; omega)
  | 8, _, b2, b3, b4, b5, b6, hne => first | rfl | (simp only [cel]; simp (disch := omega) only [s2_ne]) | (exfalso; omega)
  | 9, _, b2, b3, b4, b5, b6, hne => first | rfl | (simp only [cel]; simp (disch := omega) only [s2_ne]) | (exfalso; omega)
  | 10, _, b2, b3, b4, b5, b6, hne => first | rfl | (simp only [cel]; simp (disch := omega) only [s2_ne]) | (exfalso; omega)
  | 11, _, b2, b3, b4, b5, b6, hne => first | rfl | (simp only [cel]; simp (disch := omega) only [s2_ne]) | (exfalso; omega)
  | 12, _, b2, b3, b4, b5, b6, hne => first | rfl | (simp only [cel]; simp (disch := omega) only [s2_ne]) | (exfalso; omega)
  | 13, _, b2, b3, b4, b5, b6, hne => first | rfl | (simp only [cel]; simp (disch := omega) only [s2_ne]) | (exfalso; omega)
  | 14, _, b2, b3, b4, b5, b6, hne => first | rfl | (simp only [cel]; simp (disch := omega) only [s2_ne]) | (exfalso; omega)
  | 15, _, b2, b3, b4, b5, b6, hne => first | rfl | (simp only [cel]; simp (disch := omega) only [s2_ne]) | (exfalso; omega)
  | 16, _, b2, b3, b4, b5, b6, hne => first | rfl | (simp only [cel]; simp (disch := omega) only [s2_ne]) | (exfalso; omega)
  | 17, _, b2, b3, b4, b5, b6, hne => first | rfl | (simp only [cel]; simp (disch := omega) only [s2_ne]) | (exfalso; omega)
  | 18, _, b2, b3, b4, b5, b6, hne => first | rfl | (simp only [cel]; simp (disch := omega) only [s2_ne]) | (exfalso; omega)
  | 19, _, b2, b3, b4, b5, b6, hne => first | rfl | (simp only [cel]; simp (disch := omega) only [s2_ne]) | (exfalso; omega)
  | 20, _, b2, b3, b4, b5, b6, hne => first | rfl | (simp only [cel]; simp (disch := omega) only [s2_ne]) | (exfalso; omega)
  | 21, _, b2, b3, b4, b5, b6, hne => first | rfl | (simp only [cel]; simp (disch := omega) only [s2_ne]) | (exfalso; omega)
  | 22, _, b2, b3, b4, b5, b6, hne => first | rfl | (simp only [cel]; simp (disch := omega) only [s2_ne]) | (exfalso; omega)
  | 23, _, b2, b3, b4, b5, b6, hne => first | rfl | (simp only [cel]; simp (disch := omega) only [s2_ne]) | (exfalso; omega)
  | k + 24, b1, _, _, _, _, _, _ => omega
theorem o_k1 : ∀ y, y ∈ PL → y ≠ (0, 0) → cel E (s2 σ (10) (1) v) y.1 y.2 = cel E σ y.1 y.2 := by
  rintro ⟨k', i'⟩ hy hne
  obtain ⟨b1, b2, b3, b4, b5, b6⟩ := PL_bd _ hy
  dsimp only at b1 b2 b3 b4 b5 b6 ⊢
  have hne' : ¬ (k' = 0 ∧ i' = 0) := fun h => hne (by rw [h.1, h.2])
  clear hne hy
  match k', b1, b2, b3, b4, b5, b6, hne' with
  | 0, _, b2, b3, b4, b5, b6, hne => first | rfl | (simp only [cel]; simp (disch := omega) only [s2_ne]) | (exfalso; omega)
  | 1, _, b2, b3, b4, b5, b6, hne => first | rfl | (simp only [cel]; simp (disch := omega) only [s2_ne]) | (exfalso; omega)
  | 2, _, b2, b3, b4, b5, b6, hne => first | rfl | (simp only [cel]; simp (disch := omega) only [s2_ne]) | (exfalso; omega)
  | 3, _, b2, b3, b4, b5, b6, hne => first | rfl | (simp only [cel]; simp (disch := omega) only [s2_ne]) | (exfalso; omega)
  | 4, _, b2, b3, b4, b5, b6, hne => first | rfl | (simp only [cel]; simp (disch := omega) only [s2_ne]) | (exfalso; omega)
  | 5, _, b2, b3, b4, b5, b6, hne => first | rfl | (simp only [cel]; simp (disch := omega) only [s2_ne]) | (exfalso; omega)
  | 6, _, b2, b3, b4, b5, b6, hne => first | rfl | (simp only [cel]; simp (disch := omega) only [s2_ne]) | (exfalso; omega)
  | 7, _, b2, b3, b4, b5, b6, hne => first | rfl | (simp only [cel]; simp (disch := omega) only [s2_ne]) | (exfalso; omega)
  | 8, _, b2, b3, b4, b5, b6, hne => first | rfl | (simp only [cel]; simp (disch := omega) only [s2_ne]) | (exfalso; omega)
  | 9, _, b2, b3, b4, b5, b6, hne => first | rfl | (simp only [cel]; simp (disch := omega) only [s2_ne]) | (exfalso; omega)
  | 10, _, b2, b3, b4, b5, b6, hne => first | rfl | (simp only [cel]; simp (disch := omega) only [s2_ne]) | (exfalso; omega)
  | 11, _, b2, b3, b4, b5, b6, hne => first | rfl | (simp only [cel]; simp (disch := omega) only [s2_ne]) | (exfalso; omega)
  | 12, _, b2, b3, b4, b5, b6, hne => first | rfl | (simp only [cel]; simp (disch := omega) only [s2_ne]) | (exfalso; omega)
  | 13, _, b2, b3, b4, b5, b6, hne => first | rfl | (simp only [cel]; simp (disch := omega) only [s2_ne]) | (exfalso; omega)
  | 14, _, b2, b3, b4, b5, b6, hne => first | rfl | (simp only [cel]; simp (disch := omega) only [s2_ne]) | (exfalso; omega)
  | 15, _, b2, b3, b4, b5, b6, hne => first | rfl | (simp only [cel]; simp (disch := omega) only [s2_ne]) | (exfalso; omega)
  | 16, _, b2, b3, b4, b5, b6, hne => first | rfl | (simp only [cel]; simp (disch := omega) only [s2_ne]) | (exfalso; omega)
  | 17, _, b2, b3, b4, b5, b6, hne => first | rfl | (simp only [cel]; simp (disch := omega) only [s2_ne]) | (exfalso; omega)
  | 18, _, b2, b3, b4, b5, b6, hne => first | rfl | (simp only [cel]; simp (disch := omega) only [s2_ne]) | (exfalso; omega)
  | 19, _, b2, b3, b4, b5, b6, hne => first | rfl | (simp only [cel]; simp (disch := omega) only [s2_ne]) | (exfalso; omega)
  | 20, _, b2, b3, b4, b5, b6, hne => first | rfl | (simp only [cel]; simp (disch := omega) only [s2_ne]) | (exfalso; omega)
  | 21, _, b2, b3, b4, b5, b6, hne => first | rfl | (simp only [cel]; simp (disch := omega) only [s2_ne]) | (exfalso; omega)
  | 22, _, b2, b3, b4, b5, b6, hne => first | rfl | (simp only [cel]; simp (disch := omega) only [s2_ne]) | (exfalso; omega)
  | 23, _, b2, b3, b4, b5, b6, hne => first | rfl | (simp only [cel]; simp (disch := omega) only [s2_ne]) | (exfalso; omega)
  | k + 24, b1, _, _, _, _, _, _ => omega
theorem o_k2 : ∀ y, y ∈ PL → y ≠ (14, 0) → cel E (s2 σ (10) (2) v) y.1 y.2 = cel E σ y.1 y.2 := by
  rintro ⟨k', i'⟩ hy hne
  obtain ⟨b1, b2, b3, b4, b5, b6⟩ := PL_bd _ hy
  dsimp only at b1 b2 b3 b4 b5 b6 ⊢
  have hne' : ¬ (k' = 14 ∧ i' = 0) := fun h => hne (by rw [h.1, h.2])
  clear hne hy
  match k', b1, b2, b3, b4, b5, b6, hne' with
  | 0, _, b2, b3, b4, b5, b6, hne => first | rfl | (simp only [cel]; simp (disch := omega) only [s2_ne]) | (exfalso; omega)
  | 1, _, b2, b3, b4, b5, b6, hne => first | rfl | (simp only [cel]; simp (disch := omega) only [s2_ne]) | (exfalso; omega)
  | 2, _, b2, b3, b4, b5, b6, hne => first | rfl | (simp only [cel]; simp (disch := omega) only [s2_ne]) | (exfalso; omega)
  | 3, _, b2, b3, b4, b5, b6, hne => first | rfl | (simp only [cel]; simp (disch := omega) only [s2_ne]) | (exfalso; omega)
  | 4, _, b2, b3, b4, b5, b6, hne => first | rfl | (simp only [cel]; simp (disch := omega) only [s2_ne]) | (exfalso; omega)
  | 5, _, b2, b3, b4, b5, b6, hne => first | rfl | (simp only [cel]; simp (disch := omega) only [s2_ne]) | (exfalso; omega)
  | 6, _, b2, b3, b4, b5, b6, hne => first | rfl | (simp only [cel]; simp (disch := omega) only [s2_ne]) | (exfalso; omega)
  | 7, _, b2, b3, b4, b5, b6, hne => first | rfl | (simp only [cel]; simp (disch := omega) only [s2_ne]) | (exfalso; omega)
  | 8, _, b2, b3, b4, b5, b6, hne => first | rfl | (simp only [cel]; simp (disch := omega) only [s2_ne]) | (exfalso; omega)
  | 9, _, b2, b3, b4, b5, b6, hne => first | rfl | (simp only [cel]; simp (disch := omega) only [s2_ne]) | (exfalso; omega)
  | 10, _, b2, b3, b4, b5, b6, hne => first | rfl | (simp only [cel]; simp (disch := omega) only [s2_ne]) | (exfalso; omega)
  | 11, _, b2, b3, b4, b5, b6, hne => first | rfl | (simp only [cel]; simp (disch := omega) only [s2_ne]) | (exfalso; omega)
  | 12, _, b2, b3, b4, b5, b6, hne => first | rfl | (simp only [cel]; simp (disch := omega) only [s2_ne]) | (exfalso; omega)
  | 13, _, b2, b3, b4, b5, b6, hne => first | rfl | (simp only [cel]; simp (disch := omega) only [s2_ne]) | (exfalso; omega)
  | 14, _, b2, b3, b4, b5, b6, hne => first | rfl | (simp only [cel]; simp (disch := omega) only [s2_ne]) | (exfalso; omega)
  | 15, _, b2, b3, b4, b5, b6, hne => first | rfl | (simp only [cel]; simp (disch := omega) only [s2_ne]) | (exfalso; omega)
  | 16, _, b2, b3, b4, b5, b6, hne => first | rfl | (simp only [cel]; simp (disch := omega) only [s2_ne]) | (exfalso; omega)
  | 17, _, b2, b3, b4, b5, b6, hne => first | rfl | (simp only [cel]; simp (disch := omega) only [s2_ne]) | (exfalso; omega)
  | 18, _, b2, b3, b4, b5, b6, hne => first | rfl | (simp only [cel]; simp (disch := omega) only [s2_ne]) | (exfalso; omega)
  | 19, _, b2, b3, b4, b5, b6, hne => first | rfl | (simp only [cel]; simp (disch := omega) only [s2_ne]) | (exfalso; omega)
  | 20, _, b2, b3, b4, b5, b6, hne => first | rfl | (simp only [cel]; simp (disch := omega) only [s2_ne]) | (exfalso; omega)
  | 21, _, b2, b3, b4, b5, b6, hne => first | rfl | (simp only [cel]; simp (disch := omega) only [s2_ne]) | (exfalso; omega)
  | 22, _, b2, b3, b4, b5, b6, hne => first | rfl | (simp only [cel]; simp (disch := omega) only [s2_ne]) | (exfalso; omega)
  | 23, _, b2, b3, b4, b5, b6, hne => first | rfl | (simp only [cel]; simp (disch := omega) only [s2_ne]) | (exfalso; omega)
  | k + 24, b1, _, _, _, _, _, _ => omega
theorem o_15 : ∀ y, y ∈ PL → y ≠ (15, 0) → cel E (s2 σ (7) (t) v) y.1 y.2 = cel E σ y.1 y.2 := by
  rintro ⟨k', i'⟩ hy hne
  obtain ⟨b1, b2, b3, b4, b5, b6⟩ := PL_bd _ hy
  dsimp only at b1 b2 b3 b4 b5 b6 ⊢
  have hne' : ¬ (k' = 15 ∧ i' = 0) := fun h => hne (by rw [h.1, h.2])
  clear hne hy
  match k', b1, b2, b3, b4, b5, b6, hne' with
  | 0, _, b2, b3, b4, b5, b6, hne => first | rfl | (simp only [cel]; simp (disch := omega) only [s2_ne]) | (exfalso; omega)
  | 1, _, b2, b3, b4, b5, b6, hne => first | rfl | (simp only [cel]; simp (disch := omega) only [s2_ne]) | (exfalso; omega)
  | 2, _, b2, b3, b4, b5, b6, hne => first | rfl | (simp only [cel]; simp (disch := omega) only [s2_ne]) | (exfalso; omega)
  | 3, _, b2, b3, b4, b5, b6, hne => first | rfl | (simp only [cel]; simp (disch := omega) only [s2_ne]) | (exfalso; omega)
  | 4, _, b2, b3, b4, b5, b6, hne => first | rfl | (simp only [cel]; simp (disch := omega) only [s2_ne]) | (exfalso; omega)
  | 5, _, b2, b3, b4, b5, b6, hne => first | rfl | (simp only [cel]; simp (disch := omega) only [s2_ne]) | (exfalso; omega)
  | 6, _, b2, b3, b4, b5, b6, hne => first | rfl | (simp only [cel]; simp (disch := omega) only [s2_ne]) | (exfalso; omega)
  | 7, _, b2, b3, b4, b5, b6, hne => first | rfl | (simp only [cel]; simp (disch := omega) only [s2_ne]) | (exfalso; omega)
  | 8, _, b2, b3, b4, b5, b6, hne => first | rfl | (simp only [cel]; simp (disch := omega) only [s2_ne]) | (exfalso; omega)
  | 9, _, b2, b3, b4, b5, b6, hne => first | rfl | (simp only [cel]; simp (disch := omega) only [s2_ne]) | (exfalso; omega)
  | 10, _, b2, b3, b4, b5, b6, hne => first | rfl | (simp only [cel]; simp (disch := omega) only [s2_ne]) | (exfalso; omega)
  | 11, _, b2, b3, b4, b5, b6, hne => first | rfl | (simp only [cel]; simp (disch := omega) only [s2_ne]) | (exfalso; omega)
  | 12, _, b2, b3, b4, b5, b6, hne => first | rfl | (simp only [cel]; simp (disch := omega) only [s2_ne]) | (exfalso; omega)
  | 13, _, b2, b3, b4, b5, b6, hne => first | rfl | (simp only [cel]; simp (disch := omega) only [s2_ne]) | (exfalso; omega)
  | 14, _, b2, b3, b4, b5, b6, hne => first | rfl | (simp only [cel]; simp (disch := omega) only [s2_ne]) | (exfalso; omega)
  | 15, _, b2, b3, b4, b5, b6, hne => first | rfl | (simp only [cel]; simp (disch := omega) only [s2_ne]) | (exfalso; omega)
  | 16, _, b2, b3, b4, b5, b6, hne => first | rfl | (simp only [cel]; simp (disch := omega) only [s2_ne]) | (exfalso; omega)
  | 17, _, b2, b3, b4, b5, b6, hne => first | rfl | (simp only [cel]; simp (disch := omega) only [s2_ne]) | (exfalso; omega)
  | 18, _, b2, b3, b4, b5, b6, hne => first | rfl | (simp only [cel]; simp (disch := omega) only [s2_ne]) | (exfalso; omega)
  | 19, _, b2, b3, b4, b5, b6, hne => first | rfl | (simp only [cel]; simp (disch := omega) only [s2_ne]) | (exfalso; omega)
  | 20, _, b2, b3, b4, b5, b6, hne => first | rfl | (simp only [cel]; simp (disch := omega) only [s2_ne]) | (exfalso; omega)
  | 21, _, b2, b3, b4, b5, b6, hne => first | rfl | (simp only [cel]; simp (disch := omega) only [s2_ne]) | (exfalso; omega)
  | 22, _, b2, b3, b4, b5, b6, hne => first | rfl | (simp only [cel]; simp (disch := omega) only [s2_ne]) | (exfalso; omega)
  | 23, _, b2, b3, b4, b5, b6, hne => first | rfl | (simp only [cel]; simp (disch := omega) only [s2_ne]) | (exfalso; omega)
  | k + 24, b1, _, _, _, _, _, _ => omega
theorem o_16 : ∀ y, y ∈ PL → y ≠ (16, 0) → cel E (s2 σ (8) (t) v) y.1 y.2 = cel E σ y.1 y.2 := by
  rintro ⟨k', i'⟩ hy hne
  obtain ⟨b1, b2, b3, b4, b5, b6⟩ := PL_bd _ hy
  dsimp only at b1 b2 b3 b4 b5 b6 ⊢
  have hne' : ¬ (k' = 16 ∧ i' = 0) := fun h => hne (by rw [h.1, h.2])
  clear hne hy
  match k', b1, b2, b3, b4, b5, b6, hne' with
  | 0, _, b2, b3, b4, b5, b6, hne => first | rfl | (simp only [cel]; simp (disch := omega) only [s2_ne]) | (exfalso; omega)
  | 1, _, b2, b3, b4, b5, b6, hne => first | rfl | (simp only [cel]; simp (disch := omega) only [s2_ne]) | (exfalso; omega)
  | 2, _, b2, b3, b4, b5, b6, hne => first | rfl | (simp only [cel]; simp (disch := omega) only [s2_ne]) | (exfalso; omega)
  | 3, _, b2, b3, b4, b5, b6, hne => first | rfl | (simp only [cel]; simp (disch := omega) only [s2_ne]) | (exfalso; omega)
  | 4, _, b2, b3, b4, b5, b6, hne => first | rfl | (simp only [cel]; simp (disch := omega) only [s2_ne]) | (exfalso; omega)
  | 5, _, b2, b3, b4, b5, b6, hne => first | rfl | (simp only [cel]; simp (disch := omega) only [s2_ne]) | (exfalso; omega)
  | 6, _, b2, b3, b4, b5, b6, hne => first | rfl | (simp only [cel]; simp (disch := omega) only [s2_ne]) | (exfalso; omega)
  | 7, _, b2, b3, b4, b5, b6, hne => first | rfl | (simp only [cel]; simp (disch := omega) only [s2_ne]) | (exfalso; omega)
  | 8, _, b2, b3, b4, b5, b6, hne => first | rfl | (simp only [cel]; simp (disch := omega) only [s2_ne]) | (exfalso; omega)
  | 9, _, b2, b3, b4, b5, b6, hne => first | rfl | (simp only [cel]; simp (disch := omega) only [s2_ne]) | (exfalso; omega)
  | 10, _, b2, b3, b4, b5, b6, hne => first | rfl | (simp only [cel]; simp (disch := omega) only [s2_ne]) | (exfalso; omega)
  | 11, _, b2, b3, b4, b5, b6, hne => first | rfl | (simp only [cel]; simp (disch := omega) only [s2_ne]) | (exfalso; omega)
  | 12, _, b2, b3, b4, b5, b6, hne => first | rfl | (simp only [cel]; simp (disch := omega) only [s2_ne]) | (exfalso; omega)
  | 13, _, b2, b3, b4, b5, b6, hne => first | rfl | (simp only [cel]; simp (disch := omega) only [s2_ne]) | (exfalso; omega)
  | 14, _, b2, b3, b4, b5, b6, hne => first | rfl | (simp only [cel]; simp (disch := omega) only [s2_ne]) | (exfalso; omega)
  | 15, _, b2, b3, b4, b5, b6, hne => first | rfl | (simp only [cel]; simp (disch := omega) only [s2_ne]) | (exfalso; omega)
  | 16, _, b2, b3, b4, b5, b6, hne => first | rfl | (simp only [cel]; simp (disch := omega) only [s2_ne]) | (exfalso; omega)
  | 17, _, b2, b3, b4, b5, b6, hne => first | rfl | (simp only [cel]; simp (disch := omega) only [s2_ne]) | (exfalso; omega)
  | 18, _, b2, b3, b4, b5, b6, hne => first | rfl | (simp only [cel]; simp (disch := omega) only [s2_ne]) | (exfalso; omega)
  | 19, _, b2, b3, b4, b5, b6, hne => first | rfl | (simp only [cel]; simp (disch := omega) only [s2_ne]) | (exfalso; omega)
  | 20, _, b2, b3, b4, b5, b6, hne => first | rfl | (simp only [cel]; simp (disch := omega) only [s2_ne]) | (exfalso; omega)
  | 21, _, b2, b3, b4, b5, b6, hne => first | rfl | (simp only [cel]; simp (disch := omega) only [s2_ne]) | (exfalso; omega)
  | 22, _, b2, b3, b4, b5, b6, hne => first | rfl | (simp only [cel]; simp (disch := omega) only [s2_ne]) | (exfalso; omega)
  | 23, _, b2, b3, b4, b5, b6, hne => first | rfl | (simp only [cel]; simp (disch := omega) only [s2_ne]) | (exfalso; omega)
  | k + 24, b1, _, _, _, _, _, _ => omega
theorem o_17 : ∀ y, y ∈ PL → y ≠ (17, 0) → cel E (s2 σ (9) (t) v) y.1 y.2 = cel E σ y.1 y.2 := by
  rintro ⟨k', i'⟩ hy hne
  obtain ⟨b1, b2, b3, b4, b5, b6⟩ := PL_bd _ hy
  dsimp only at b1 b2 b3 b4 b5 b6 ⊢
  have hne' : ¬ (k' = 17 ∧ i' = 0) := fun h => hne (by rw [h.1, h.2])
  clear hne hy
  match k', b1, b2, b3, b4, b5, b6, hne' with
  | 0, _, b2, b3, b4, b5, b6, hne => first | rfl | (simp only [cel]; simp (disch := omega) only [s2_ne]) | (exfalso; omega)
  | 1, _, b2, b3, b4, b5, b6, hne => first | rfl | (simp only [cel]; simp (disch := omega) only [s2_ne]) | (exfalso; omega)
  | 2, _, b2, b3, b4, b5, b6, hne => first | rfl | (simp only [cel]; simp (disch := omega) only [s2_ne]) | (exfalso; omega)
  | 3, _, b2, b3, b4, b5, b6, hne => first | rfl | (simp only [cel]; simp (disch := omega) only [s2_ne]) | (exfalso; omega)
  | 4, _, b2, b3, b4, b5, b6, hne => first | rfl | (simp only [cel]; simp (disch := omega) only [s2_ne]) | (exfalso; omega)
  | 5, _, b2, b3, b4, b5, b6, hne => first | rfl | (simp only [cel]; simp (disch := omega) only [s2_ne]) | (exfalso; omega)
  | 6, _, b2, b3, b4, b5, b6, hne => first | rfl | (simp only [cel]; simp (disch := omega) only [s2_ne]) | (exfalso; omega)
  | 7, _, b2, b3, b4, b5, b6, hne => first | rfl | (simp only [cel]; simp (disch := omega) only [s2_ne]) | (exfalso; omega)
  | 8, _, b2, b3, b4, b5, b6, hne => first | rfl | (simp only [cel]; simp (disch := omega) only [s2_ne]) | (exfalso; omega)
  | 9, _, b2, b3, b4, b5, b6, hne => first | rfl | (simp only [cel]; simp (disch := omega) only [s2_ne]) | (exfalso; omega)
  | 10, _, b2, b3, b4, b5, b6, hne => first | rfl | (simp only [cel]; simp (disch := omega) only [s2_ne]) | (exfalso; omega)
  | 11, _, b2, b3, b4, b5, b6, hne => first | rfl | (simp only [cel]; simp (disch := omega) only [s2_ne]) | (exfalso; omega)
  | 12, _, b2, b3, b4, b5, b6, hne => first | rfl | (simp only [cel]; simp (disch := omega) only [s2_ne]) | (exfalso; omega)
  | 13, _, b2, b3, b4, b5, b6, hne => first | rfl | (simp only [cel]; simp (disch := omega) only [s2_ne]) | (exfalso; omega)
  | 14, _, b2, b3, b4, b5, b6, hne => first | rfl | (simp only [cel]; simp (disch := omega) only [s2_ne]) | (exfalso; omega)
  | 15, _, b2, b3, b4, b5, b6, hne => first | rfl | (simp only [cel]; simp (disch := omega) only [s2_ne]) | (exfalso; omega)
  | 16, _, b2, b3, b4, b5, b6, hne => first | rfl | (simp only [cel]; simp (disch := omega) only [s2_ne]) | (exfalso; omega)
  | 17, _, b2, b3, b4, b5, b6, hne => first | rfl | (simp only [cel]; simp (disch := omega) only [s2_ne]) | (exfalso; omega)
  | 18, _, b2, b3, b4, b5, b6, hne => first | rfl | (simp only [cel]; simp (disch := omega) only [s2_ne]) | (exfalso; omega)
  | 19, _, b2, b3, b4, b5, b6, hne => first | rfl | (simp only [cel]; simp (disch := omega) only [s2_ne]) | (exfalso; omega)
  | 20, _, b2, b3, b4, b5, b6, hne => first | rfl | (simp only [cel]; simp (disch := omega) only [s2_ne]) | (exfalso; omega)
  | 21, _, b2, b3, b4, b5, b6, hne => first | rfl | (simp only [cel]; simp (disch := omega) only [s2_ne]) | (exfalso; omega)
  | 22, _, b2, b3, b4, b5, b6, hne => first | rfl | (simp only [cel]; simp (disch := omega) only [s2_ne]) | (exfalso; omega)
  | 23, _, b2, b3, b4, b5, b6, hne => first | rfl | (simp only [cel]; simp (disch := omega) only [s2_ne]) | (exfalso; omega)
  | k + 24, b1, _, _, _, _, _, _ => omega
theorem o_m0 : ∀ y, y ∈ PL → y ≠ (18, 0) → cel E (s2 σ (15) (0) v) y.1 y.2 = cel E σ y.1 y.2 := by
  rintro ⟨k', i'⟩ hy hne
  obtain ⟨b1, b2, b3, b4, b5, b6⟩ := PL_bd _ hy
  dsimp only at b1 b2 b3 b4 b5 b6 ⊢
  have hne' : ¬ (k' = 18 ∧ i' = 0) := fun h => hne (by rw [h.1, h.2])
  clear hne hy
  match k', b1, b2, b3, b4, b5, b6, hne' with
  | 0, _, b2, b3, b4, b5, b6, hne => first | rfl | (simp only [cel]; simp (disch := omega) only [s2_ne]) | (exfalso; omega)
  | 1, _, b2, b3, b4, b5, b6, hne => first | rfl | (simp only [cel]; simp (disch := omega) only [s2_ne]) | (exfalso; omega)
  | 2, _, b2, b3, b4, b5, b6, hne => first | rfl | (simp only [cel]; simp (disch := omega) only [s2_ne]) | (exfalso; omega)
  | 3, _, b2, b3, b4, b5, b6, hne => first | rfl | (simp only [cel]; simp (disch := omega) only [s2_ne]) | (exfalso; omega)
  | 4, _, b2, b3, b4, b5, b6, hne => first | rfl | (simp only [cel]; simp (disch := omega) only [s2_ne]) | (exfalso; omega)
  | 5, _, b2, b3, b4, b5, b6, hne => first | rfl | (simp only [cel]; simp (disch := omega) only [s2_ne]) | (exfalso; omega)
  | 6, _, b2, b3, b4, b5, b6, hne => first | rfl | (simp only [cel]; simp (disch := omega) only [s2_ne]) | (exfalso; omega)
  | 7, _, b2, b3, b4, b5, b6, hne => first | rfl | (simp only [cel]; simp (disch := omega) only [s2_ne]) | (exfalso; omega)
  | 8, _, b2, b3, b4, b5, b6, hne => first | rfl | (simp only [cel]; simp (disch := omega) only [s2_ne]) | (exfalso; omega)
  | 9, _, b2, b3, b4, b5, b6, hne => first | rfl | (simp only [cel]; simp (disch := omega) only [s2_ne]) | (exfalso; omega)
  | 10, _, b2, b3, b4, b5, b6, hne => first | rfl | (simp only [cel]; simp (disch := omega) only [s2_ne]) | (exfalso; omega)
  | 11, _, b2, b3, b4, b5, b6, hne => first | rfl | (simp only [cel]; simp (disch := omega) only [s2_ne]) | (exfalso; omega)
  | 12, _, b2, b3, b4, b5, b6, hne => first | rfl | (simp only [cel]; simp (disch := omega) only [s2_ne]) | (exfalso; omega)
  | 13, _, b2, b3, b4, b5, b6, hne => first | rfl | (simp only [cel]; simp (disch := omega) only [s2_ne]) | (exfalso; omega)
  | 14, _, b2, b3, b4, b5, b6, hne => first | rfl | (simp only [cel]; simp (disch := omega) only [s2_ne]) | (exfalso; omega)
  | 15, _, b2, b3, b4, b5, b6, hne => first | rfl | (simp only [cel]; simp (disch := omega) only [s2_ne]) | (exfalso; omega)
  | 16, _, b2, b3, b4, b5, b6, hne => first | rfl | (simp only [cel]; simp (disch := omega) only [s2_ne]) | (exfalso; omega)
  | 17, _, b2, b3, b4, b5, b6, hne => first | rfl | (simp only [cel]; simp (disch := omega) only [s2_ne]) | (exfalso; omega)
  | 18, _, b2, b3, b4, b5, b6, hne => first | rfl | (simp only [cel]; simp (disch := omega) only [s2_ne]) | (exfalso; omega)
  | 19, _, b2, b3, b4, b5, b6, hne => first | rfl | (simp only [cel]; simp (disch := omega) only [s2_ne]) | (exfalso; omega)
  | 20, _, b2, b3, b4, b5, b6, hne => first | rfl | (simp only [cel]; simp (disch := omega) only [s2_ne]) | (exfalso; omega)
  | 21, _, b2, b3, b4, b5, b6, hne => first | rfl | (simp only [cel]; simp (disch := omega) only [s2_ne]) | (exfalso; omega)
  | 22, _, b2, b3, b4, b5, b6, hne => first | rfl | (simp only [cel]; simp (disch := omega) only [s2_ne]) | (exfalso; omega)
  | 23, _, b2, b3, b4, b5, b6, hne => first | rfl | (simp only [cel]; simp (disch := omega) only [s2_ne]) | (exfalso; omega)
  | k + 24, b1, _, _, _, _, _, _ => omega
theorem o_m1 : ∀ y, y ∈ PL → y ≠ (18, 0) → cel E (s2 σ (15) (1) v) y.1 y.2 = cel E σ y.1 y.2 := by
  rintro ⟨k', i'⟩ hy hne
  obtain ⟨b1, b2, b3, b4, b5, b6⟩ := PL_bd _ hy
  dsimp only at b1 b2 b3 b4 b5 b6 ⊢
  have hne' : ¬ (k' = 18 ∧ i' = 0) := fun h => hne (by rw [h.1, h.2])
  clear hne hy
  match k', b1, b2, b3, b4, b5, b6, hne' with
  | 0, _, b2, b3, b4, b5, b6, hne => first | rfl | (simp only [cel]; simp (disch := omega) only [s2_ne]) | (exfalso; omega)
  | 1, _, b2, b3, b4, b5, b6, hne => first | rfl | (simp only [cel]; simp (disch := omega) only [s2_ne]) | (exfalso; omega)
  | 2, _, b2, b3, b4, b5, b6, hne => first | rfl | (simp only [cel]; simp (disch := omega) only [s2_ne]) | (exfalso; omega)
  | 3, _, b2, b3, b4, b5, b6, hne => first | rfl | (simp only [cel]; simp (disch := omega) only [s2_ne]) | (exfalso; omega)
  | 4, _, b2, b3, b4, b5, b6, hne => first | rfl | (simp only [cel]; simp (disch := omega) only [s2_ne]) | (exfalso; omega)
  | 5, _, b2, b3, b4, b5, b6, hne => first | rfl | (simp only [cel]; simp (disch := omega) only [s2_ne]) | (exfalso; omega)
  | 6, _, b2, b3, b4, b5, b6, hne => first | rfl | (simp only [cel]; simp (disch := omega) only [s2_ne]) | (exfalso; omega)
  | 7, _, b2, b3, b4, b5, b6, hne => first | rfl | (simp only [cel]; simp (disch := omega) only [s2_ne]) | (exfalso; omega)
  | 8, _, b2, b3, b4, b5, b6, hne => first | rfl | (simp only [cel]; simp (disch := omega) only [s2_ne]) | (exfalso; omega)
  | 9, _, b2, b3, b4, b5, b6, hne => first | rfl | (simp only [cel]; simp (disch := omega) only [s2_ne]) | (exfalso; omega)
  | 10, _, b2, b3, b4, b5, b6, hne => first | rfl | (simp only [cel]; simp (disch := omega) only [s2_ne]) | (exfalso; omega)
  | 11, _, b2, b3, b4, b5, b6, hne => first | rfl | (simp only [cel]; simp (disch := omega) only [s2_ne]) | (exfalso; omega)
  | 12, _, b2, b3, b4, b5, b6, hne => first | rfl | (simp only [cel]; simp (disch := omega) only [s2_ne]) | (exfalso; omega)
  | 13, _, b2, b3, b4, b5, b6, hne => first | rfl | (simp only [cel]; simp (disch := omega) only [s2_ne]) | (exfalso; omega)
  | 14, _, b2, b3, b4, b5, b6, hne => first | rfl | (simp only [cel]; simp (disch := omega) only [s2_ne]) | (exfalso; omega)
  | 15, _, b2, b3, b4, b5, b6, hne => first | rfl | (simp only [cel]; simp (disch := omega) only [s2_ne]) | (exfalso; omega)
  | 16, _, b2, b3, b4, b5, b6, hne => first | rfl | (simp only [cel]; simp (disch := omega) only [s2_ne]) | (exfalso; omega)
  | 17, _, b2, b3, b4, b5, b6, hne => first | rfl | (simp only [cel]; simp (disch := omega) only [s2_ne]) | (exfalso; omega)
  | 18, _, b2, b3, b4, b5, b6, hne => first | rfl | (simp only [cel]; simp (disch := omega) only [s2_ne]) | (exfalso; omega)
  | 19, _, b2, b3, b4, b5, b6, hne => first | rfl | (simp only [cel]; simp (disch := omega) only [s2_ne]) | (exfalso; omega)
  | 20, _, b2, b3, b4, b5, b6, hne => first | rfl | (simp only [cel]; simp (disch := omega) only [s2_ne]) | (exfalso; omega)
  | 21, _, b2, b3, b4, b5, b6, hne => first | rfl | (simp only [cel]; simp (disch := omega) only [s2_ne]) | (exfalso; omega)
  | 22, _, b2, b3, b4, b5, b6, hne => first | rfl | (simp only [cel]; simp (disch := omega) only [s2_ne]) | (exfalso; omega)
  | 23, _, b2, b3, b4, b5, b6, hne => first | rfl | (simp only [cel]; simp (disch := omega) only [s2_ne]) | (exfalso; omega)
  | k + 24, b1, _, _, _, _, _, _ => omega
theorem o_m2 : ∀ y, y ∈ PL → y ≠ (18, 0) → cel E (s2 σ (15) (2) v) y.1 y.2 = cel E σ y.1 y.2 := by
  rintro ⟨k', i'⟩ hy hne
  obtain ⟨b1, b2, b3, b4, b5, b6⟩ := PL_bd _ hy
  dsimp only at b1 b2 b3 b4 b5 b6 ⊢
  have hne' : ¬ (k' = 18 ∧ i' = 0) := fun h => hne (by rw [h.1, h.2])
  clear hne hy
  match k', b1, b2, b3, b4, b5, b6, hne' with
  | 0, _, b2, b3, b4, b5, b6, hne => first | rfl | (simp only [cel]; simp (disch := omega) only [s2_ne]) | (exfalso; omega)
  | 1, _, b2, b3, b4, b5, b6, hne => first | rfl | (simp only [cel]; simp (disch := omega) only [s2_ne]) | (exfalso; omega)
  | 2, _, b2, b3, b4, b5, b6, hne => first | rfl | (simp only [cel]; simp (disch := omega) only [s2_ne]) | (exfalso; omega)
  | 3, _, b2, b3, b4, b5, b6, hne => first | rfl | (simp only [cel]; simp (disch := omega) only [s2_ne]) | (exfalso; omega)
  | 4, _, b2, b3, b4, b5, b6, hne => first | rfl | (simp only [cel]; simp (disch := omega) only [s2_ne]) | (exfalso; omega)
  | 5, _, b2, b3, b4, b5, b6, hne => first | rfl | (simp only [cel]; simp (disch := omega) only [s2_ne]) | (exfalso; omega)
  | 6, _, b2, b3, b4, b5, b6, hne => first | rfl | (simp only [cel]; simp (disch := omega) only [s2_ne]) | (exfalso; omega)
  | 7, _, b2, b3, b4, b5, b6, hne => first | rfl | (simp only [cel]; simp (disch := omega) only [s2_ne]) | (exfalso; omega)
  | 8, _, b2, b3, b4, b5, b6, hne => first | rfl | (simp only [cel]; simp (disch := omega) only [s2_ne]) | (exfalso; omega)
  | 9, _, b2, b3, b4, b5, b6, hne => first | rfl | (simp only [cel]; simp (disch := omega) only [s2_ne]) | (exfalso; omega)
  | 10, _, b2, b3, b4, b5, b6, hne => first | rfl | (simp only [cel]; simp (disch := omega) only [s2_ne]) | (exfalso; omega)
  | 11, _, b2, b3, b4, b5, b6, hne => first | rfl | (simp only [cel]; simp (disch := omega) only [s2_ne]) | (exfalso; omega)
  | 12, _, b2, b3, b4, b5, b6, hne => first | rfl | (simp only [cel]; simp (disch := omega) only [s2_ne]) | (exfalso; omega)
  | 13, _, b2, b3, b4, b5, b6, hne => first | rfl | (simp only [cel]; simp (disch := omega) only [s2_ne]) | (exfalso; omega)
  | 14, _, b2, b3, b4, b5, b6, hne => first | rfl | (simp only [cel]; simp (disch := omega) only [s2_ne]) | (exfalso; omega)
  | 15, _, b2, b3, b4, b5, b6, hne => first | rfl | (simp only [cel]; simp (disch := omega) only [s2_ne]) | (exfalso; omega)
  | 16, _, b2, b3, b4, b5, b6, hne => first | rfl | (simp only [cel]; simp (disch := omega) only [s2_ne]) | (exfalso; omega)
  | 17, _, b2, b3, b4, b5, b6, hne => first | rfl | (simp only [cel]; simp (disch := omega) only [s2_ne]) | (exfalso; omega)
  | 18, _, b2, b3, b4, b5, b6, hne => first | rfl | (simp only [cel]; simp (disch := omega) only [s2_ne]) | (exfalso; omega)
  | 19, _, b2, b3, b4, b5, b6, hne => first | rfl | (simp only [cel]; simp (disch := omega) only [s2_ne]) | (exfalso; omega)
  | 20, _, b2, b3, b4, b5, b6, hne => first | rfl | (simp only [cel]; simp (disch := omega) only [s2_ne]) | (exfalso; omega)
  | 21, _, b2, b3, b4, b5, b6, hne => first | rfl | (simp only [cel]; simp (disch := omega) only [s2_ne]) | (exfalso; omega)
  | 22, _, b2, b3, b4, b5, b6, hne => first | rfl | (simp only [cel]; simp (disch := omega) only [s2_ne]) | (exfalso; omega)
  | 23, _, b2, b3, b4, b5, b6, hne => first | rfl | (simp only [cel]; simp (disch := omega) only [s2_ne]) | (exfalso; omega)
  | k + 24, b1, _, _, _, _, _, _ => omega
theorem o_m3 : ∀ y, y ∈ PL → y ≠ (18, 0) → cel E (s2 σ (15) (3) v) y.1 y.2 = cel E σ y.1 y.2 := by
  rintro ⟨k', i'⟩ hy hne
  obtain ⟨b1, b2, b3, b4, b5, b6⟩ := PL_bd _ hy
  dsimp only at b1 b2 b3 b4 b5 b6 ⊢
  have hne' : ¬ (k' = 18 ∧ i' = 0) := fun h => hne (by rw [h.1, h.2])
  clear hne hy
  match k', b1, b2, b3, b4, b5, b6, hne' with
  | 0, _, b2, b3, b4, b5, b6, hne => first | rfl | (simp only [cel]; simp (disch := omega) only [s2_ne]) | (exfalso; omega)
  | 1, _, b2, b3, b4, b5, b6, hne => first | rfl | (simp only [cel]; simp (disch := omega) only [s2_ne]) | (exfalso; omega)
  | 2, _, b2, b3, b4, b5, b6, hne => first | rfl | (simp only [cel]; simp (disch := omega) only [s2_ne]) | (exfalso; omega)
  | 3, _, b2, b3, b4, b5, b6, hne => first | rfl | (simp only [cel]; simp (disch := omega) only [s2_ne]) | (exfalso; omega)
  | 4, _, b2, b3, b4, b5, b6, hne => first | rfl | (simp only [cel]; simp (disch := omega) only [s2_ne]) | (exfalso; omega)
  | 5, _, b2, b3, b4, b5, b6, hne => first | rfl | (simp only [cel]; simp (disch := omega) only [s2_ne]) | (exfalso; omega)
  | 6, _, b2, b3, b4, b5, b6, hne => first | rfl | (simp only [cel]; simp (disch := omega) only [s2_ne]) | (exfalso; omega)
  | 7, _, b2, b3, b4, b5, b6, hne => first | rfl | (simp only [cel]; simp (disch := omega) only [s2_ne]) | (exfalso; omega)
  | 8, _, b2, b3, b4, b5, b6, hne => first | rfl | (simp only [cel]; simp (disch := omega) only [s2_ne]) | (exfalso; omega)
  | 9, _, b2, b3, b4, b5, b6, hne => first | rfl | (simp only [cel]; simp (disch := omega) only [s2_ne]) | (exfalso; omega)
  | 10, _, b2, b3, b4, b5, b6, hne => first | rfl | (simp only [cel]; simp (disch := omega) only [s2_ne]) | (exfalso; omega)
  | 11, _, b2, b3, b4, b5, b6, hne => first | rfl | (simp only [cel]; simp (disch := omega) only [s2_ne]) | (exfalso; omega)
  | 12, _, b2, b3, b4, b5, b6, hne => first | rfl | (simp only [cel]; simp (disch := omega) only [s2_ne]) | (exfalso; omega)
  | 13, _, b2, b3, b4, b5, b6, hne => first | rfl | (simp only [cel]; simp (disch := omega) only [s2_ne]) | (exfalso; omega)
  | 14, _, b2, b3, b4, b5, b6, hne => first | rfl | (simp only [cel]; simp (disch := omega) only [s2_ne]) | (exfalso; omega)
  | 15, _, b2, b3, b4, b5, b6, hne => first | rfl | (simp only [cel]; simp (disch := omega) only [s2_ne]) | (exfalso; omega)
  | 16, _, b2, b3, b4, b5, b6, hne => first | rfl | (simp only [cel]; simp (disch := omega) only [s2_ne]) | (exfalso; omega)
  | 17, _, b2, b3, b4, b5, b6, hne => first | rfl | (simp only [cel]; simp (disch := omega) only [s2_ne]) | (exfalso; omega)
  | 18, _, b2, b3, b4, b5, b6, hne => first | rfl | (simp only [cel]; simp (disch := omega) only [s2_ne]) | (exfalso; omega)
  | 19, _, b2, b3, b4, b5, b6, hne => first | rfl | (simp only [cel]; simp (disch := omega) only [s2_ne]) | (exfalso; omega)
  | 20, _, b2, b3, b4, b5, b6, hne => first | rfl | (simp only [cel]; simp (disch := omega) only [s2_ne]) | (exfalso; omega)
  | 21, _, b2, b3, b4, b5, b6, hne => first | rfl | (simp only [cel]; simp (disch := omega) only [s2_ne]) | (exfalso; omega)
  | 22, _, b2, b3, b4, b5, b6, hne => first | rfl | (simp only [cel]; simp (disch := omega) only [s2_ne]) | (exfalso; omega)
  | 23, _, b2, b3, b4, b5, b6, hne => first | rfl | (simp only [cel]; simp (disch := omega) only [s2_ne]) | (exfalso; omega)
  | k + 24, b1, _, _, _, _, _, _ => omega
theorem o_m4 : ∀ y, y ∈ PL → y ≠ (18, 0) → cel E (s2 σ (15) (4) v) y.1 y.2 = cel E σ y.1 y.2 := by
  rintro ⟨k', i'⟩ hy hne
  obtain ⟨b1, b2, b3, b4, b5, b6⟩ := PL_bd _ hy
  dsimp only at b1 b2 b3 b4 b5 b6 ⊢
  have hne' : ¬ (k' = 18 ∧ i' = 0) := fun h => hne (by rw [h.1, h.2])
  clear hne hy
  match k', b1, b2, b3, b4, b5, b6, hne' with
  | 0, _, b2, b3, b4, b5, b6, hne => first | rfl | (simp only [cel]; simp (disch := omega) only [s2_ne]) | (exfalso; omega)
  | 1, _, b2, b3, b4, b5, b6, hne => first | rfl | (simp only [cel]; simp (disch := omega) only [s2_ne]) | (exfalso; omega)
  | 2, _, b2, b3, b4, b5, b6, hne => first | rfl | (simp only [cel]; simp (disch := omega) only [s2_ne]) | (exfalso; omega)
  | 3, _, b2, b3, b4, b5, b6, hne => first | rfl | (simp only [cel]; simp (disch := omega) only [s2_ne]) | (exfalso; omega)
  | 4, _, b2, b3, b4, b5, b6, hne => first | rfl | (simp only [cel]; simp (disch := omega) only [s2_ne]) | (exfalso; omega)
  | 5, _, b2, b3, b4, b5, b6, hne => first | rfl | (simp only [cel]; simp (disch := omega) only [s2_ne]) | (exfalso; omega)
  | 6, _, b2, b3, b4, b5, b6, hne => first | rfl | (simp only [cel]; simp (disch := omega) only [s2_ne]) | (exfalso; omega)
  | 7, _, b2, b3, b4, b5, b6, hne => first | rfl | (simp only [cel]; simp (disch := omega) only [s2_ne]) | (exfalso; omega)
  | 8, _, b2, b3, b4, b5, b6, hne => first | rfl | (simp only [cel]; simp (disch := omega) only [s2_ne]) | (exfalso; omega)
  | 9, _, b2, b3, b4, b5, b6, hne => first | rfl | (simp only [cel]; simp (disch := omega) only [s2_ne]) | (exfalso; omega)
  | 10, _, b2, b3, b4, b5, b6, hne => first | rfl | (simp only [cel]; simp (disch := omega) only [s2_ne]) | (exfalso; omega)
  | 11, _, b2, b3, b4, b5, b6, hne => first | rfl | (simp only [cel]; simp (disch := omega) only [s2_ne]) | (exfalso; omega)
  | 12, _, b2, b3, b4, b5, b6, hne => first | rfl | (simp only [cel]; simp (disch := omega) only [s2_ne]) | (exfalso; omega)
  | 13, _, b2, b3, b4, b5, b6, hne => first | rfl | (simp only [cel]; simp (disch := omega) only [s2_ne]) | (exfalso; omega)
  | 14, _, b2, b3, b4, b5, b6, hne => first | rfl | (simp only [cel]; simp (disch := omega) only [s2_ne]) | (exfalso; omega)
  | 15, _, b2, b3, b4, b5, b6, hne => first | rfl | (simp only [cel]; simp (disch := omega) only [s2_ne]) | (exfalso; omega)
  | 16, _, b2, b3, b4, b5, b6, hne => first | rfl | (simp only [cel]; simp (disch := omega) only [s2_ne]) | (exfalso; omega)
  | 17, _, b2, b3, b4, b5, b6, hne => first | rfl | (simp only [cel]; simp (disch := omega) only [s2_ne]) | (exfalso; omega)
  | 18, _, b2, b3, b4, b5, b6, hne => first | rfl | (simp only [cel]; simp (disch := omega) only [s2_ne]) | (exfalso; omega)
  | 19, _, b2, b3, b4, b5, b6, hne => first | rfl | (simp only [cel]; simp (disch := omega) only [s2_ne]) | (exfalso; omega)
  | 20, _, b2, b3, b4, b5, b6, hne => first | rfl | (simp only [cel]; simp (disch := omega) only [s2_ne]) | (exfalso; omega)
  | 21, _, b2, b3, b4, b5, b6, hne => first | rfl | (simp only [cel]; simp (disch := omega) only [s2_ne]) | (exfalso; omega)
  | 22, _, b2, b3, b4, b5, b6, hne => first | rfl | (simp only [cel]; simp (disch := omega) only [s2_ne]) | (exfalso; omega)
  | 23, _, b2, b3, b4, b5, b6, hne => first | rfl | (simp only [cel]; simp (disch := omega) only [s2_ne]) | (exfalso; omega)
  | k + 24, b1, _, _, _, _, _, _ => omega
theorem o_19 (hi : 2 < i ∧ i < 7) : ∀ y, y ∈ PL → y ≠ (19, i) → cel E (s2 σ (i) (t) v) y.1 y.2 = cel E σ y.1 y.2 := by
  rintro ⟨k', i'⟩ hy hne
  obtain ⟨b1, b2, b3, b4, b5, b6⟩ := PL_bd _ hy
  dsimp only at b1 b2 b3 b4 b5 b6 ⊢
  have hne' : ¬ (k' = 19 ∧ i' = i) := fun h => hne (by rw [h.1, h.2])
  clear hne hy
  match k', b1, b2, b3, b4, b5, b6, hne' with
  | 0, _, b2, b3, b4, b5, b6, hne => first | rfl | (simp only [cel]; simp (disch := omega) only [s2_ne]) | (exfalso; omega)
  | 1, _, b2, b3, b4, b5, b6, hne => first | rfl | (simp only [cel]; simp (disch := omega) only [s2_ne]) | (exfalso; omega)
  | 2, _, b2, b3, b4, b5, b6, hne => first | rfl | (simp only [cel]; simp (disch := omega) only [s2_ne]) | (exfalso; omega)
  | 3, _, b2, b3, b4, b5, b6, hne => first | rfl | (simp only [cel]; simp (disch := omega) only [s2_ne]) | (exfalso; omega)
  | 4, _, b2, b3, b4, b5, b6, hne => first | rfl | (simp only [cel]; simp (disch := omega) only [s2_ne]) | (exfalso; omega)
  | 5, _, b2, b3, b4, b5, b6, hne => first | rfl | (simp only [cel]; simp (disch := omega) only [s2_ne]) | (exfalso; omega)
  | 6, _, b2, b3, b4, b5, b6, hne => first | rfl | (simp only [cel]; simp (disch := omega) only [s2_ne]) | (exfalso; omega)
  | 7, _, b2, b3, b4, b5, b6, hne => first | rfl | (simp only [cel]; simp (disch := omega) only [s2_ne]) | (exfalso; omega)
  | 8, _, b2, b3, b4, b5, b6, hne => first | rfl | (simp only [cel]; simp (disch := omega) only [s2_ne]) | (exfalso; omega)
  | 9, _, b2, b3, b4, b5, b6, hne => first | rfl | (simp only [cel]; simp (disch := omega) only [s2_ne]) | (exfalso; omega)
  | 10, _, b2, b3, b4, b5, b6, hne => first | rfl | (simp only [cel]; simp (disch := omega) only [s2_ne]) | (exfalso; omega)
  | 11, _, b2, b3, b4, b5, b6, hne => first | rfl | (simp only [cel]; simp (disch := omega) only [s2_ne]) | (exfalso; omega)
  | 12, _, b2, b3, b4, b5, b6, hne => first | rfl | (simp only [cel]; simp (disch := omega) only [s2_ne]) | (exfalso; omega)
  | 13, _, b2, b3, b4, b5, b6, hne => first | rfl | (simp only [cel]; simp (disch := omega) only [s2_ne]) | (exfalso; omega)
  | 14, _, b2, b3, b4, b5, b6, hne => first | rfl | (simp only [cel]; simp (disch := omega) only [s2_ne]) | (exfalso; omega)
  | 15, _, b2, b3, b4, b5, b6, hne => first | rfl | (simp only [cel]; simp (disch := omega) only [s2_ne]) | (exfalso; omega)
  | 16, _, b2, b3, b4, b5, b6, hne => first | rfl | (simp only [cel]; simp (disch := omega) only [s2_ne]) | (exfalso; omega)
  | 17, _, b2, b3, b4, b5, b6, hne => first | rfl | (simp only [cel]; simp (disch := omega) only [s2_ne]) | (exfalso; omega)
  | 18, _, b2, b3, b4, b5, b6, hne => first | rfl | (simp only [cel]; simp (disch := omega) only [s2_ne]) | (exfalso; omega)
  | 19, _, b2, b3, b4, b5, b6, hne => first | rfl | (simp only [cel]; simp (disch := omega) only [s2_ne]) | (exfalso; omega)
  | 20, _, b2, b3, b4, b5, b6, hne => first | rfl | (simp only [cel]; simp (disch := omega) only [s2_ne]) | (exfalso; omega)
  | 21, _, b2, b3, b4, b5, b6, hne => first | rfl | (simp only [cel]; simp (disch := omega) only [s2_ne]) | (exfalso; omega)
  | 22, _, b2, b3, b4, b5, b6, hne => first | rfl | (simp only [cel]; simp (disch := omega) only [s2_ne]) | (exfalso; omega)
  | 23, _, b2, b3, b4, b5, b6, hne => first | rfl | (simp only [cel]; simp (disch := omega) only [s2_ne]) | (exfalso; omega)
  | k + 24, b1, _, _, _, _, _, _ => omega
theorem o_20 : ∀ y, y ∈ PL → y ≠ (20, 0) → cel E (s2 σ (11) (t) v) y.1 y.2 = cel E σ y.1 y.2 := by
  rintro ⟨k', i'⟩ hy hne
  obtain ⟨b1, b2, b3, b4, b5, b6⟩ := PL_bd _ hy
  dsimp only at b1 b2 b3 b4 b5 b6 ⊢
  have hne' : ¬ (k' = 20 ∧ i' = 0) := fun h => hne (by rw [h.1, h.2])
  clear hne hy
  match k', b1, b2, b3, b4, b5, b6, hne' with
  | 0, _, b2, b3, b4, b5, b6, hne => first | rfl | (simp only [cel]; simp (disch := omega) only [s2_ne]) | (exfalso; omega)
  | 1, _, b2, b3, b4, b5, b6, hne => first | rfl | (simp only [cel]; simp (disch := omega) only [s2_ne]) | (exfalso; omega)
  | 2, _, b2, b3, b4, b5, b6, hne => first | rfl | (simp only [cel]; simp (disch := omega) only [s2_ne]) | (exfalso; omega)
  | 3, _, b2, b3, b4, b5, b6, hne => first | rfl | (simp only [cel]; simp (disch := omega) only [s2_ne]) | (exfalso; omega)
  | 4, _, b2, b3, b4, b5, b6, hne => first | rfl | (simp only [cel]; simp (disch := omega) only [s2_ne]) | (exfalso; omega)
  | 5, _, b2, b3, b4, b5, b6, hne => first | rfl | (simp only [cel]; simp (disch := omega) only [s2_ne]) | (exfalso; omega)
  | 6, _, b2, b3, b4, b5, b6, hne => first | rfl | (simp only [cel]; simp (disch := omega) only [s2_ne]) | (exfalso; omega)
  | 7, _, b2, b3, b4, b5, b6, hne => first | rfl | (simp only [cel]; simp (disch := omega) only [s2_ne]) | (exfalso; omega)
  | 8, _, b2, b3, b4, b5, b6, hne => first | rfl | (simp only [cel]; simp (disch := omega) only [s2_ne]) | (exfalso; omega)
  | 9, _, b2, b3, b4, b5, b6, hne => first | rfl | (simp only [cel]; simp (disch := omega) only [s2_ne]) | (exfalso; omega)
  | 10, _, b2, b3, b4, b5, b6, hne => first | rfl | (simp only [cel]; simp (disch := omega) only [s2_ne]) | (exfalso; omega)
  | 11, _, b2, b3, b4, b5, b6, hne => first | rfl | (simp only [cel]; simp (disch := omega) only [s2_ne]) | (exfalso; omega)
  | 12, _, b2, b3, b4, b5, b6, hne => first | rfl | (simp only [cel]; simp (disch := omega) only [s2_ne]) | (exfalso; omega)
  | 13, _, b2, b3, b4, b5, b6, hne => first | rfl | (simp only [cel]; simp (disch := omega) only [s2_ne]) | (exfalso; omega)
  | 14, _, b2, b3, b4, b5, b6, hne => first | rfl | (simp only [cel]; simp (disch := omega) only [s2_ne]) | (exfalso; omega)
  | 15, _, b2, b3, b4, b5, b6, hne => first | rfl | (simp only [cel]; simp (disch := omega) only [s2_ne]) | (exfalso; omega)
  | 16, _, b2, b3, b4, b5, b6, hne => first | rfl | (simp only [cel]; simp (disch := omega) only [s2_ne]) | (exfalso; omega)
  | 17, _, b2, b3, b4, b5, b6, hne => first | rfl | (simp only [cel]; simp (disch := omega) only [s2_ne]) | (exfalso; omega)
  | 18, _, b2, b3, b4, b5, b6, hne => first | rfl | (simp only [cel]; simp (disch := omega) only [s2_ne]) | (exfalso; omega)
  | 19, _, b2, b3, b4, b5, b6, hne => first | rfl | (simp only [cel]; simp (disch := omega) only [s2_ne]) | (exfalso; omega)
  | 20, _, b2, b3, b4, b5, b6, hne => first | rfl | (simp only [cel]; simp (disch := omega) only [s2_ne]) | (exfalso; omega)
  | 21, _, b2, b3, b4, b5, b6, hne => first | rfl | (simp only [cel]; simp (disch := omega) only [s2_ne]) | (exfalso; omega)
  | 22, _, b2, b3, b4, b5, b6, hne => first | rfl | (simp only [cel]; simp (disch := omega) only [s2_ne]) | (exfalso; omega)
  | 23, _, b2, b3, b4, b5, b6, hne => first | rfl | (simp only [cel]; simp (disch := omega) only [s2_ne]) | (exfalso; omega)
  | k + 24, b1, _, _, _, _, _, _ => omega
theorem o_21 : ∀ y, y ∈ PL → y ≠ (21, 0) → cel E (s2 σ (12) (t) v) y.1 y.2 = cel E σ y.1 y.2 := by
  rintro ⟨k', i'⟩ hy hne
  obtain ⟨b1, b2, b3, b4, b5, b6⟩ := PL_bd _ hy
  dsimp only at b1 b2 b3 b4 b5 b6 ⊢
  have hne' : ¬ (k' = 21 ∧ i' = 0) := fun h => hne (by rw [h.1, h.2])
  clear hne hy
  match k', b1, b2, b3, b4, b5, b6, hne' with
  | 0, _, b2, b3, b4, b5, b6, hne => first | rfl | (simp only [cel]; simp (disch := omega) only [s2_ne]) | (exfalso; omega)
  | 1, _, b2, b3, b4, b5, b6, hne => first | rfl | (simp only [cel]; simp (disch := omega) only [s2_ne]) | (exfalso; omega)
  | 2, _, b2, b3, b4, b5, b6, hne => first | rfl | (simp only [cel]; simp (disch := omega) only [s2_ne]) | (exfalso; omega)
  | 3, _, b2, b3, b4, b5, b6, hne => first | rfl | (simp only [cel]; simp (disch := omega) only [s2_ne]) | (exfalso; omega)
  | 4, _, b2, b3, b4, b5, b6, hne => first | rfl | (simp only [cel]; simp (disch := omega) only [s2_ne]) | (exfalso; omega)
  | 5, _, b2, b3, b4, b5, b6, hne => first | rfl | (simp only [cel]; simp (disch := omega) only [s2_ne]) | (exfalso; omega)
  | 6, _, b2, b3, b4, b5, b6, hne => first | rfl | (simp only [cel]; simp (disch := omega) only [s2_ne]) | (exfalso; omega)
  | 7, _, b2, b3, b4, b5, b6, hne => first | rfl | (simp only [cel]; simp (disch := omega) only [s2_ne]) | (exfalso; omega)
  | 8, _, b2, b3, b4, b5, b6, hne => first | rfl | (simp only [cel]; simp (disch := omega) only [s2_ne]) | (exfalso; omega)
  | 9, _, b2, b3, b4, b5, b6, hne => first | rfl | (simp only [cel]; simp (disch := omega) only [s2_ne]) | (exfalso; omega)
  | 10, _, b2, b3, b4, b5, b6, hne => first | rfl | (simp only [cel]; simp (disch := omega) only [s2_ne]) | (exfalso; omega)
  | 11, _, b2, b3, b4, b5, b6, hne => first | rfl | (simp only [cel]; simp (disch := omega) only [s2_ne]) | (exfalso; omega)
  | 12, _, b2, b3, b4, b5, b6, hne => first | rfl | (simp only [cel]; simp (disch := omega) only [s2_ne]) | (exfalso; omega)
  | 13, _, b2, b3, b4, b5, b6, hne => first | rfl | (simp only [cel]; simp (disch := omega) only [s2_ne]) | (exfalso; omega)
  | 14, _, b2, b3, b4, b5, b6, hne => first | rfl | (simp only [cel]; simp (disch := omega) only [s2_ne]) | (exfalso; omega)
  | 15, _, b2, b3, b4, b5, b6, hne => first | rfl | (simp only [cel]; simp (disch := omega) only [s2_ne]) | (exfalso; omega)
  | 16, _, b2, b3, b4, b5, b6, hne => first | rfl | (simp only [cel]; simp (disch := omega) only [s2_ne]) | (exfalso; omega)
  | 17, _, b2, b3, b4, b5, b6, hne => first | rfl | (simp only [cel]; simp (disch := omega) only [s2_ne]) | (exfalso; omega)
  | 18, _, b2, b3, b4, b5, b6, hne => first | rfl | (simp only [cel]; simp (disch := omega) only [s2_ne]) | (exfalso; omega)
  | 19, _, b2, b3, b4, b5, b6, hne => first | rfl | (simp only [cel]; simp (disch := omega) only [s2_ne]) | (exfalso; omega)
  | 20, _, b2, b3, b4, b5, b6, hne => first | rfl | (simp only [cel]; simp (disch := omega) only [s2_ne]) | (exfalso; omega)
  | 21, _, b2, b3, b4, b5, b6, hne => first | rfl | (simp only [cel]; simp (disch := omega) only [s2_ne]) | (exfalso; omega)
  | 22, _, b2, b3, b4, b5, b6, hne => first | rfl | (simp only [cel]; simp (disch := omega) only [s2_ne]) | (exfalso; omega)
  | 23, _, b2, b3, b4, b5, b6, hne => first | rfl | (simp only [cel]; simp (disch := omega) only [s2_ne]) | (exfalso; omega)
  | k + 24, b1, _, _, _, _, _, _ => omega
theorem o_22 : ∀ y, y ∈ PL → y ≠ (22, 0) → cel E (s2 σ (13) (t) v) y.1 y.2 = cel E σ y.1 y.2 := by
  rintro ⟨k', i'⟩ hy hne
  obtain ⟨b1, b2, b3, b4, b5, b6⟩ := PL_bd _ hy
  dsimp only at b1 b2 b3 b4 b5 b6 ⊢
  have hne' : ¬ (k' = 22 ∧ i' = 0) := fun h => hne (by rw [h.1, h.2])
  clear hne hy
  match k', b1, b2, b3, b4, b5, b6, hne' with
  | 0, _, b2, b3, b4, b5, b6, hne => first | rfl | (simp only [cel]; simp (disch := omega) only [s2_ne]) | (exfalso; omega)
  | 1, _, b2, b3, b4, b5, b6, hne => first | rfl | (simp only [cel]; simp (disch := omega) only [s2_ne]) | (exfalso; omega)
  | 2, _, b2, b3, b4, b5, b6, hne => first | rfl | (simp only [cel]; simp (disch := omega) only [s2_ne]) | (exfalso; omega)
  | 3, _, b2, b3, b4, b5, b6, hne => first | rfl | (simp only [cel]; simp (disch := omega) only [s2_ne]) | (exfalso; omega)
  | 4, _, b2, b3, b4, b5, b6, hne => first | rfl | (simp only [cel]; simp (disch := omega) only [s2_ne]) | (exfalso; omega)
  | 5, _, b2, b3, b4, b5, b6, hne => first | rfl | (simp only [cel]; simp (disch := omega) only [s2_ne]) | (exfalso; omega)
  | 6, _, b2, b3, b4, b5, b6, hne => first | rfl | (simp only [cel]; simp (disch := omega) only [s2_ne]) | (exfalso; omega)
  | 7, _, b2, b3, b4, b5, b6, hne => first | rfl | (simp only [cel]; simp (disch := omega) only [s2_ne]) | (exfalso; omega)
  | 8, _, b2, b3, b4, b5, b6, hne => first | rfl | (simp only [cel]; simp (disch := omega) only [s2_ne]) | (exfalso; omega)
  | 9, _, b2, b3, b4, b5, b6, hne => first | rfl | (simp only [cel]; simp (disch := omega) only [s2_ne]) | (exfalso; omega)
  | 10, _, b2, b3, b4, b5, b6, hne => first | rfl | (simp only [cel]; simp (disch := omega) only [s2_ne]) | (exfalso; omega)
  | 11, _, b2, b3, b4, b5, b6, hne => first | rfl | (simp only [cel]; simp (disch := omega) only [s2_ne]) | (exfalso; omega)
  | 12, _, b2, b3, b4, b5, b6, hne => first | rfl | (simp only [cel]; simp (disch := omega) only [s2_ne]) | (exfalso; omega)
  | 13, _, b2, b3, b4, b5, b6, hne => first | rfl | (simp only [cel]; simp (disch := omega) only [s2_ne]) | (exfalso; omega)
  | 14, _, b2, b3, b4, b5, b6, hne => first | rfl | (simp only [cel]; simp (disch := omega) only [s2_ne]) | (exfalso; omega)
  | 15, _, b2, b3, b4, b5, b6, hne => first | rfl | (simp only [cel]; simp (disch := omega) only [s2_ne]) | (exfalso; omega)
  | 16, _, b2, b3, b4, b5, b6, hne => first | rfl | (simp only [cel]; simp (disch := omega) only [s2_ne]) | (exfalso; omega)
  | 17, _, b2, b3, b4, b5, b6, hne => first | rfl | (simp only [cel]; simp (disch := omega) only [s2_ne]) | (exfalso; omega)
  | 18, _, b2, b3, b4, b5, b6, hne => first | rfl | (simp only [cel]; simp (disch := omega) only [s2_ne]) | (exfalso; omega)
  | 19, _, b2, b3, b4, b5, b6, hne => first | rfl | (simp only [cel]; simp (disch := omega) only [s2_ne]) | (exfalso; omega)
  | 20, _, b2, b3, b4, b5, b6, hne => first | rfl | (simp only [cel]; simp (disch := omega) only [s2_ne]) | (exfalso; omega)
  | 21, _, b2, b3, b4, b5, b6, hne => first | rfl | (simp only [cel]; simp (disch := omega) only [s2_ne]) | (exfalso; omega)
  | 22, _, b2, b3, b4, b5, b6, hne => first | rfl | (simp only [cel]; simp (disch := omega) only [s2_ne]) | (exfalso; omega)
  | 23, _, b2, b3, b4, b5, b6, hne => first | rfl | (simp only [cel]; simp (disch := omega) only [s2_ne]) | (exfalso; omega)
  | k + 24, b1, _, _, _, _, _, _ => omega
theorem o_23 : ∀ y, y ∈ PL → y ≠ (23, 0) → cel E (s2 σ (14) (t) v) y.1 y.2 = cel E σ y.1 y.2 := by
  rintro ⟨k', i'⟩ hy hne
  obtain ⟨b1, b2, b3, b4, b5, b6⟩ := PL_bd _ hy
  dsimp only at b1 b2 b3 b4 b5 b6 ⊢
  have hne' : ¬ (k' = 23 ∧ i' = 0) := fun h => hne (by rw [h.1, h.2])
  clear hne hy
  match k', b1, b2, b3, b4, b5, b6, hne' with
  | 0, _, b2, b3, b4, b5, b6, hne => first | rfl | (simp only [cel]; simp (disch := omega) only [s2_ne]) | (exfalso; omega)
  | 1, _, b2, b3, b4, b5, b6, hne => first | rfl | (simp only [cel]; simp (disch := omega) only [s2_ne]) | (exfalso; omega)
  | 2, _, b2, b3, b4, b5, b6, hne => first | rfl | (simp only [cel]; simp (disch := omega) only [s2_ne]) | (exfalso; omega)
  | 3, _, b2, b3, b4, b5, b6, hne => first | rfl | (simp only [cel]; simp (disch := omega) only [s2_ne]) | (exfalso; omega)
  | 4, _, b2, b3, b4, b5, b6, hne => first | rfl | (simp only [cel]; simp (disch := omega) only [s2_ne]) | (exfalso; omega)
  | 5, _, b2, b3, b4, b5, b6, hne => first | rfl | (simp only [cel]; simp (disch := omega) only [s2_ne]) | (exfalso; omega)
  | 6, _, b2, b3, b4, b5, b6, hne => first | rfl | (simp only [cel]; simp (disch := omega) only [s2_ne]) | (exfalso; omega)
  | 7, _, b2, b3, b4, b5, b6, hne => first | rfl | (simp only [cel]; simp (disch := omega) only [s2_ne]) | (exfalso; omega)
  | 8, _, b2, b3, b4, b5, b6, hne => first | rfl | (simp only [cel]; simp (disch := omega) only [s2_ne]) | (exfalso; omega)
  | 9, _, b2, b3, b4, b5, b6, hne => first | rfl | (simp only [cel]; simp (disch := omega) only [s2_ne]) | (exfalso; omega)
  | 10, _, b2, b3, b4, b5, b6, hne => first | rfl | (simp only [cel]; simp (disch := omega) only [s2_ne]) | (exfalso; omega)
  | 11, _, b2, b3, b4, b5, b6, hne => first | rfl | (simp only [cel]; simp (disch := omega) only [s2_ne]) | (exfalso; omega)
  | 12, _, b2, b3, b4, b5, b6, hne => first | rfl | (simp only [cel]; simp (disch := omega) only [s2_ne]) | (exfalso; omega)
  | 13, _, b2, b3, b4, b5, b6, hne => first | rfl | (simp only [cel]; simp (disch := omega) only [s2_ne]) | (exfalso; omega)
  | 14, _, b2, b3, b4, b5, b6, hne => first | rfl | (simp only [cel]; simp (disch := omega) only [s2_ne]) | (exfalso; omega)
  | 15, _, b2, b3, b4, b5, b6, hne => first | rfl | (simp only [cel]; simp (disch := omega) only [s2_ne]) | (exfalso; omega)
  | 16, _, b2, b3, b4, b5, b6, hne => first | rfl | (simp only [cel]; simp (disch := omega) only [s2_ne]) | (exfalso; omega)
  | 17, _, b2, b3, b4, b5, b6, hne => first | rfl | (simp only [cel]; simp (disch := omega) only [s2_ne]) | (exfalso; omega)
  | 18, _, b2, b3, b4, b5, b6, hne => first | rfl | (simp only [cel]; simp (disch := omega) only [s2_ne]) | (exfalso; omega)
  | 19, _, b2, b3, b4, b5, b6, hne => first | rfl | (simp only [cel]; simp (disch := omega) only [s2_ne]) | (exfalso; omega)
  | 20, _, b2, b3, b4, b5, b6, hne => first | rfl | (simp only [cel]; simp (disch := omega) only [s2_ne]) | (exfalso; omega)
  | 21, _, b2, b3, b4, b5, b6, hne => first | rfl | (simp only [cel]; simp (disch := omega) only [s2_ne]) | (exfalso; omega)
  | 22, _, b2, b3, b4, b5, b6, hne => first | rfl | (simp only [cel]; simp (disch := omega) only [s2_ne]) | (exfalso; omega)
  | 23, _, b2, b3, b4, b5, b6, hne => first | rfl | (simp only [cel]; simp (disch := omega) only [s2_ne]) | (exfalso; omega)
  | k + 24, b1, _, _, _, _, _, _ => omega
theorem fwX1_27 : Cond.fieldLink RX1 27 RX1 (TX1 0).2.1 (TX1 0).2.2.1 ∈ TB := tbw 76 (by decide +kernel) rfl
/-- PaidInDays$Crew.kinds -/
theorem getX1_27 (hi : i < 3) (hM : M.1.cls = RX1) (d : decode M.2.1 pc = .ok (.getfield 27, 3)) (K : GW E Z M (pc + 3) L (.ref (ad E 2 i) :: S) σ) : GW E Z M pc L (.ref (ad E 1 i) :: S) σ := r_get (C0 := RX1) (T0 := TX1) (N := 9) (ci := 1) (pl_c 1 (by decide) (by decide) i hi) rfl rfl 0 (by decide) wl_X1 (by rw [hM]; exact fwX1_27) rfl rfl d K
theorem fwX1_33 : Cond.fieldLink RX1 33 RX1 (TX1 1).2.1 (TX1 1).2.2.1 ∈ TB := tbw 77 (by decide +kernel) rfl
/-- PaidInDays$Crew.kind -/
theorem getX1_33 (hi : i < 3) (hM : M.1.cls = RX1) (d : decode M.2.1 pc = .ok (.getfield 33, 3)) (K : GW E Z M (pc + 3) L (.ref (ad E 9 i) :: S) σ) : GW E Z M pc L (.ref (ad E 1 i) :: S) σ := r_get (C0 := RX1) (T0 := TX1) (N := 9) (ci := 1) (pl_c 1 (by decide) (by decide) i hi) rfl rfl 1 (by decide) wl_X1 (by rw [hM]; exact fwX1_33) rfl rfl d K
theorem fwX8_91 : Cond.fieldLinkNest RX8 91 RX1 (TX1 1).2.1 (TX1 1).2.2.1 "PaidInDays" ∈ lw_tbl := tbn 78 (by decide +kernel)
/-- PaidInDays$Crew.kind -/
theorem getX8_91 (hi : i < 3) (hM : M.1.cls = RX8) (d : decode M.2.1 pc = .ok (.getfield 91, 3)) (K : GW E Z M (pc + 3) L (.ref (ad E 9 i) :: S) σ) : GW E Z M pc L (.ref (ad E 1 i) :: S) σ := r_getN (C0 := RX1) (T0 := TX1) (N := 9) (ci := 1) (pl_c 1 (by decide) (by decide) i hi) rfl rfl 1 (by decide) wl_X1 (by rw [hM]; exact fwX8_91) rfl rfl d K
theorem fwX1_37 : Cond.fieldLink RX1 37 RX1 (TX1 2).2.1 (TX1 2).2.2.1 ∈ TB := tbw 79 (by decide +kernel) rfl
/-- PaidInDays$Crew.figure -/
theorem getX1_37 (hi : i < 3) (hM : M.1.cls = RX1) (d : decode M.2.1 pc = .ok (.getfield 37, 3)) (K : GW E Z M (pc + 3) L (.ref (ad E 10 i) :: S) σ) : GW E Z M pc L (.ref (ad E 1 i) :: S) σ := r_get (C0 := RX1) (T0 := TX1) (N := 9) (ci := 1) (pl_c 1 (by decide) (by decide) i hi) rfl rfl 2 (by decide) wl_X1 (by rw [hM]; exact fwX1_37) rfl rfl d K
theorem fwX8_94 : Cond.fieldLinkNest RX8 94 RX1 (TX1 2).2.1 (TX1 2).2.2.1 "PaidInDays" ∈ lw_tbl := tbn 80 (by decide +kernel)
/-- PaidInDays$Crew.figure -/
theorem getX8_94 (hi : i < 3) (hM : M.1.cls = RX8) (d : decode M.2.1 pc = .ok (.getfield 94, 3)) (K : GW E Z M (pc + 3) L (.ref (ad E 10 i) :: S) σ) : GW E Z M pc L (.ref (ad E 1 i) :: S) σ := r_getN (C0 := RX1) (T0 := TX1) (N := 9) (ci := 1) (pl_c 1 (by decide) (by decide) i hi) rfl rfl 2 (by decide) wl_X1 (by rw [hM]; exact fwX8_94) rfl rfl d K
theorem fwX1_40 : Cond.fieldLink RX1 40 RX1 (TX1 3).2.1 (TX1 3).2.2.1 ∈ TB := tbw 81 (by decide +kernel) rfl
/-- PaidInDays$Crew.off -/
theorem getX1_40 (hi : i < 3) (hM : M.1.cls = RX1) (d : decode M.2.1 pc = .ok (.getfield 40, 3)) (K : GW E Z M (pc + 3) L (.ref (ad E 11 i) :: S) σ) : GW E Z M pc L (.ref (ad E 1 i) :: S) σ := r_get (C0 := RX1) (T0 := TX1) (N := 9) (ci := 1) (pl_c 1 (by decide) (by decide) i hi) rfl rfl 3 (by decide) wl_X1 (by rw [hM]; exact fwX1_40) rfl rfl d K
theorem fwX3_15 : Cond.fieldLinkNest RX3 15 RX1 (TX1 3).2.1 (TX1 3).2.2.1 "PaidInDays" ∈ lw_tbl := tbn 82 (by decide +kernel)
/-- PaidInDays$Crew.off -/
theorem getX3_15 (hi : i < 3) (hM : M.1.cls = RX3) (d : decode M.2.1 pc = .ok (.getfield 15, 3)) (K : GW E Z M (pc + 3) L (.ref (ad E 11 i) :: S) σ) : GW E Z M pc L (.ref (ad E 1 i) :: S) σ := r_getN (C0 := RX1) (T0 := TX1) (N := 9) (ci := 1) (pl_c 1 (by decide) (by decide) i hi) rfl rfl 3 (by decide) wl_X1 (by rw [hM]; exact fwX3_15) rfl rfl d K
theorem fwX8_97 : Cond.fieldLinkNest RX8 97 RX1 (TX1 3).2.1 (TX1 3).2.2.1 "PaidInDays" ∈ lw_tbl := tbn 83 (by decide +kernel)
/-- PaidInDays$Crew.off -/
theorem getX8_97 (hi : i < 3) (hM : M.1.cls = RX8) (d : decode M.2.1 pc = .ok (.getfield 97, 3)) (K : GW E Z M (pc + 3) L (.ref (ad E 11 i) :: S) σ) : GW E Z M pc L (.ref (ad E 1 i) :: S) σ := r_getN (C0 := RX1) (T0 := TX1) (N := 9) (ci := 1) (pl_c 1 (by decide) (by decide) i hi) rfl rfl 3 (by decide) wl_X1 (by rw [hM]; exact fwX8_97) rfl rfl d K
theorem fwX1_43 : Cond.fieldLink RX1 43 RX1 (TX1 4).2.1 (TX1 4).2.2.1 ∈ TB := tbw 84 (by decide +kernel) rfl
/-- PaidInDays$Crew.tired -/
theorem getX1_43 (hi : i < 3) (hM : M.1.cls = RX1) (d : decode M.2.1 pc = .ok (.getfield 43, 3)) (K : GW E Z M (pc + 3) L (.ref (ad E 12 i) :: S) σ) : GW E Z M pc L (.ref (ad E 1 i) :: S) σ := r_get (C0 := RX1) (T0 := TX1) (N := 9) (ci := 1) (pl_c 1 (by decide) (by decide) i hi) rfl rfl 4 (by decide) wl_X1 (by rw [hM]; exact fwX1_43) rfl rfl d K
theorem fwX8_100 : Cond.fieldLinkNest RX8 100 RX1 (TX1 4).2.1 (TX1 4).2.2.1 "PaidInDays" ∈ lw_tbl := tbn 85 (by decide +kernel)
/-- PaidInDays$Crew.tired -/
theorem getX8_100 (hi : i < 3) (hM : M.1.cls = RX8) (d : decode M.2.1 pc = .ok (.getfield 100, 3)) (K : GW E Z M (pc + 3) L (.ref (ad E 12 i) :: S) σ) : GW E Z M pc L (.ref (ad E 1 i) :: S) σ := r_getN (C0 := RX1) (T0 := TX1) (N := 9) (ci := 1) (pl_c 1 (by decide) (by decide) i hi) rfl rfl 4 (by decide) wl_X1 (by rw [hM]; exact fwX8_100) rfl rfl d K
theorem fwX5_98 : Cond.fieldLinkNest RX5 98 RX1 (TX1 4).2.1 (TX1 4).2.2.1 "PaidInDays" ∈ lw_tbl := tbn 86 (by decide +kernel)
/-- PaidInDays$Crew.tired -/
theorem getX5_98 (hi : i < 3) (hM : M.1.cls = RX5) (d : decode M.2.1 pc = .ok (.getfield 98, 3)) (K : GW E Z M (pc + 3) L (.ref (ad E 12 i) :: S) σ) : GW E Z M pc L (.ref (ad E 1 i) :: S) σ := r_getN (C0 := RX1) (T0 := TX1) (N := 9) (ci := 1) (pl_c 1 (by decide) (by decide) i hi) rfl rfl 4 (by decide) wl_X1 (by rw [hM]; exact fwX5_98) rfl rfl d K
theorem fwX1_46 : Cond.fieldLink RX1 46 RX1 (TX1 5).2.1 (TX1 5).2.2.1 ∈ TB := tbw 87 (by decide +kernel) rfl
/-- PaidInDays$Crew.due -/
theorem getX1_46 (hi : i < 3) (hM : M.1.cls = RX1) (d : decode M.2.1 pc = .ok (.getfield 46, 3)) (K : GW E Z M (pc + 3) L (.ref (ad E 13 i) :: S) σ) : GW E Z M pc L (.ref (ad E 1 i) :: S) σ := r_get (C0 := RX1) (T0 := TX1) (N := 9) (ci := 1) (pl_c 1 (by decide) (by decide) i hi) rfl rfl 5 (by decide) wl_X1 (by rw [hM]; exact fwX1_46) rfl rfl d K
theorem fwX8_103 : Cond.fieldLinkNest RX8 103 RX1 (TX1 5).2.1 (TX1 5).2.2.1 "PaidInDays" ∈ lw_tbl := tbn 88 (by decide +kernel)
/-- PaidInDays$Crew.due -/
theorem getX8_103 (hi : i < 3) (hM : M.1.cls = RX8) (d : decode M.2.1 pc = .ok (.getfield 103, 3)) (K : GW E Z M (pc + 3) L (.ref (ad E 13 i) :: S) σ) : GW E Z M pc L (.ref (ad E 1 i) :: S) σ := r_getN (C0 := RX1) (T0 := TX1) (N := 9) (ci := 1) (pl_c 1 (by decide) (by decide) i hi) rfl rfl 5 (by decide) wl_X1 (by rw [hM]; exact fwX8_103) rfl rfl d K
theorem fwX1_49 : Cond.fieldLink RX1 49 RX1 (TX1 6).2.1 (TX1 6).2.2.1 ∈ TB := tbw 89 (by decide +kernel) rfl
/-- PaidInDays$Crew.size -/
theorem getX1_49 (hi : i < 3) (hM : M.1.cls = RX1) (d : decode M.2.1 pc = .ok (.getfield 49, 3)) (K : GW E Z M (pc + 3) L (.int (σ i 0) :: S) σ) : GW E Z M pc L (.ref (ad E 1 i) :: S) σ := r_get (C0 := RX1) (T0 := TX1) (N := 9) (ci := 1) (pl_c 1 (by decide) (by decide) i hi) rfl rfl 6 (by decide) wl_X1 (by rw [hM]; exact fwX1_49) rfl rfl d K
theorem putX1_49 (hi : i < 3) (hM : M.1.cls = RX1) (d : decode M.2.1 pc = .ok (.putfield 49, 3)) (K : GW E Z M (pc + 3) L S (s2 σ i 0 v)) : GW E Z M pc L (.int v :: .ref (ad E 1 i) :: S) σ := r_put (C0 := RX1) (T0 := TX1) (N := 9) (ci := 1) (pl_c 1 (by decide) (by decide) i hi) rfl rfl 6 (by decide) wl_X1 tyX1 tyX1_ok nmX1 (by rw [hM]; exact fwX1_49) rfl rfl rfl rfl (Nat.le_of_ble_eq_true rfl) (by simp [cel, s2_eq, s2_ne, List.set]) (o_size hi) d K
theorem fwX3_9 : Cond.fieldLinkNest RX3 9 RX1 (TX1 6).2.1 (TX1 6).2.2.1 "PaidInDays" ∈ lw_tbl := tbn 90 (by decide +kernel)
/-- PaidInDays$Crew.size -/
theorem getX3_9 (hi : i < 3) (hM : M.1.cls = RX3) (d : decode M.2.1 pc = .ok (.getfield 9, 3)) (K : GW E Z M (pc + 3) L (.int (σ i 0) :: S) σ) : GW E Z M pc L (.ref (ad E 1 i) :: S) σ := r_getN (C0 := RX1) (T0 := TX1) (N := 9) (ci := 1) (pl_c 1 (by decide) (by decide) i hi) rfl rfl 6 (by decide) wl_X1 (by rw [hM]; exact fwX3_9) rfl rfl d K
theorem putX3_9 (hi : i < 3) (hM : M.1.cls = RX3) (d : decode M.2.1 pc = .ok (.putfield 9, 3)) (K : GW E Z M (pc + 3) L S (s2 σ i 0 v)) : GW E Z M pc L (.int v :: .ref (ad E 1 i) :: S) σ := r_putN (C0 := RX1) (T0 := TX1) (N := 9) (ci := 1) (pl_c 1 (by decide) (by decide) i hi) rfl rfl 6 (by decide) wl_X1 tyX1 tyX1_ok nmX1 (by rw [hM]; exact fwX3_9) rfl rfl rfl rfl (Nat.le_of_ble_eq_true rfl) (by simp [cel, s2_eq, s2_ne, List.set]) (o_size hi) d K
theorem fwX7_9 : Cond.fieldLinkNest RX7 9 RX1 (TX1 6).2.1 (TX1 6).2.2.1 "PaidInDays" ∈ lw_tbl := tbn 91 (by decide +kernel)
/-- PaidInDays$Crew.size -/
theorem getX7_9 (hi : i < 3) (hM : M.1.cls = RX7) (d : decode M.2.1 pc = .ok (.getfield 9, 3)) (K : GW E Z M (pc + 3) L (.int (σ i 0) :: S) σ) : GW E Z M pc L (.ref (ad E 1 i) :: S) σ := r_getN (C0 := RX1) (T0 := TX1) (N := 9) (ci := 1) (pl_c 1 (by decide) (by decide) i hi) rfl rfl 6 (by decide) wl_X1 (by rw [hM]; exact fwX7_9) rfl rfl d K
theorem putX7_9 (hi : i < 3) (hM : M.1.cls = RX7) (d : decode M.2.1 pc = .ok (.putfield 9, 3)) (K : GW E Z M (pc + 3) L S (s2 σ i 0 v)) : GW E Z M pc L (.int v :: .ref (ad E 1 i) :: S) σ := r_putN (C0 := RX1) (T0 := TX1) (N := 9) (ci := 1) (pl_c 1 (by decide) (by decide) i hi) rfl rfl 6 (by decide) wl_X1 tyX1 tyX1_ok nmX1 (by rw [hM]; exact fwX7_9) rfl rfl rfl rfl (Nat.le_of_ble_eq_true rfl) (by simp [cel, s2_eq, s2_ne, List.set]) (o_size hi) d K
theorem fwX0_13 : Cond.fieldLinkNest RX0 13 RX1 (TX1 6).2.1 (TX1 6).2.2.1 "PaidInDays" ∈ lw_tbl := tbn 92 (by decide +kernel)
/-- PaidInDays$Crew.size -/
theorem getX0_13 (hi : i < 3) (hM : M.1.cls = RX0) (d : decode M.2.1 pc = .ok (.getfield 13, 3)) (K : GW E Z M (pc + 3) L (.int (σ i 0) :: S) σ) : GW E Z M pc L (.ref (ad E 1 i) :: S) σ := r_getN (C0 := RX1) (T0 := TX1) (N := 9) (ci := 1) (pl_c 1 (by decide) (by decide) i hi) rfl rfl 6 (by decide) wl_X1 (by rw [hM]; exact fwX0_13) rfl rfl d K
theorem putX0_13 (hi : i < 3) (hM : M.1.cls = RX0) (d : decode M.2.1 pc = .ok (.putfield 13, 3)) (K : GW E Z M (pc + 3) L S (s2 σ i 0 v)) : GW E Z M pc L (.int v :: .ref (ad E 1 i) :: S) σ := r_putN (C0 := RX1) (T0 := TX1) (N := 9) (ci := 1) (pl_c 1 (by decide) (by decide) i hi) rfl rfl 6 (by decide) wl_X1 tyX1 tyX1_ok nmX1 (by rw [hM]; exact fwX0_13) rfl rfl rfl rfl (Nat.le_of_ble_eq_true rfl) (by simp [cel, s2_eq, s2_ne, List.set]) (o_size hi) d K
theorem fwX2_9 : Cond.fieldLinkNest RX2 9 RX1 (TX1 6).2.1 (TX1 6).2.2.1 "PaidInDays" ∈ lw_tbl := tbn 93 (by decide +kernel)
/-- PaidInDays$Crew.size -/
theorem getX2_9 (hi : i < 3) (hM : M.1.cls = RX2) (d : decode M.2.1 pc = .ok (.getfield 9, 3)) (K : GW E Z M (pc + 3) L (.int (σ i 0) :: S) σ) : GW E Z M pc L (.ref (ad E 1 i) :: S) σ := r_getN (C0 := RX1) (T0 := TX1) (N := 9) (ci := 1) (pl_c 1 (by decide) (by decide) i hi) rfl rfl 6 (by decide) wl_X1 (by rw [hM]; exact fwX2_9) rfl rfl d K
theorem putX2_9 (hi : i < 3) (hM : M.1.cls = RX2) (d : decode M.2.1 pc = .ok (.putfield 9, 3)) (K : GW E Z M (pc + 3) L S (s2 σ i 0 v)) : GW E Z M pc L (.int v :: .ref (ad E 1 i) :: S) σ := r_putN (C0 := RX1) (T0 := TX1) (N := 9) (ci := 1) (pl_c 1 (by decide) (by decide) i hi) rfl rfl 6 (by decide) wl_X1 tyX1 tyX1_ok nmX1 (by rw [hM]; exact fwX2_9) rfl rfl rfl rfl (Nat.le_of_ble_eq_true rfl) (by simp [cel, s2_eq, s2_ne, List.set]) (o_size hi) d K
theorem fwX8_189 : Cond.fieldLinkNest RX8 189 RX1 (TX1 6).2.1 (TX1 6).2.2.1 "PaidInDays" ∈ lw_tbl := tbn 94 (by decide +kernel)
/-- PaidInDays$Crew.size -/
theorem getX8_189 (hi : i < 3) (hM : M.1.cls = RX8) (d : decode M.2.1 pc = .ok (.getfield 189, 3)) (K : GW E Z M (pc + 3) L (.int (σ i 0) :: S) σ) : GW E Z M pc L (.ref (ad E 1 i) :: S) σ := r_getN (C0 := RX1) (T0 := TX1) (N := 9) (ci := 1) (pl_c 1 (by decide) (by decide) i hi) rfl rfl 6 (by decide) wl_X1 (by rw [hM]; exact fwX8_189) rfl rfl d K
theorem putX8_189 (hi : i < 3) (hM : M.1.cls = RX8) (d : decode M.2.1 pc = .ok (.putfield 189, 3)) (K : GW E Z M (pc + 3) L S (s2 σ i 0 v)) : GW E Z M pc L (.int v :: .ref (ad E 1 i) :: S) σ := r_putN (C0 := RX1) (T0 := TX1) (N := 9) (ci := 1) (pl_c 1 (by decide) (by decide) i hi) rfl rfl 6 (by decide) wl_X1 tyX1 tyX1_ok nmX1 (by rw [hM]; exact fwX8_189) rfl rfl rfl rfl (Nat.le_of_ble_eq_true rfl) (by simp [cel, s2_eq, s2_ne, List.set]) (o_size hi) d K
theorem fwX1_53 : Cond.fieldLink RX1 53 RX1 (TX1 7).2.1 (TX1 7).2.2.1 ∈ TB := tbw 95 (by decide +kernel) rfl
/-- PaidInDays$Crew.wages -/
theorem getX1_53 (hi : i < 3) (hM : M.1.cls = RX1) (d : decode M.2.1 pc = .ok (.getfield 53, 3)) (K : GW E Z M (pc + 3) L (.int (σ i 2) :: S) σ) : GW E Z M pc L (.ref (ad E 1 i) :: S) σ := r_get (C0 := RX1) (T0 := TX1) (N := 9) (ci := 1) (pl_c 1 (by decide) (by decide) i hi) rfl rfl 7 (by decide) wl_X1 (by rw [hM]; exact fwX1_53) rfl rfl d K
theorem putX1_53 (hi : i < 3) (hM : M.1.cls = RX1) (d : decode M.2.1 pc = .ok (.putfield 53, 3)) (K : GW E Z M (pc + 3) L S (s2 σ i 2 v)) : GW E Z M pc L (.int v :: .ref (ad E 1 i) :: S) σ := r_put (C0 := RX1) (T0 := TX1) (N := 9) (ci := 1) (pl_c 1 (by decide) (by decide) i hi) rfl rfl 7 (by decide) wl_X1 tyX1 tyX1_ok nmX1 (by rw [hM]; exact fwX1_53) rfl rfl rfl rfl (Nat.le_of_ble_eq_true rfl) (by simp [cel, s2_eq, s2_ne, List.set]) (o_wages hi) d K
theorem fwX8_154 : Cond.fieldLinkNest RX8 154 RX1 (TX1 7).2.1 (TX1 7).2.2.1 "PaidInDays" ∈ lw_tbl := tbn 96 (by decide +kernel)
/-- PaidInDays$Crew.wages -/
theorem getX8_154 (hi : i < 3) (hM : M.1.cls = RX8) (d : decode M.2.1 pc = .ok (.getfield 154, 3)) (K : GW E Z M (pc + 3) L (.int (σ i 2) :: S) σ) : GW E Z M pc L (.ref (ad E 1 i) :: S) σ := r_getN (C0 := RX1) (T0 := TX1) (N := 9) (ci := 1) (pl_c 1 (by decide) (by decide) i hi) rfl rfl 7 (by decide) wl_X1 (by rw [hM]; exact fwX8_154) rfl rfl d K
theorem putX8_154 (hi : i < 3) (hM : M.1.cls = RX8) (d : decode M.2.1 pc = .ok (.putfield 154, 3)) (K : GW E Z M (pc + 3) L S (s2 σ i 2 v)) : GW E Z M pc L (.int v :: .ref (ad E 1 i) :: S) σ := r_putN (C0 := RX1) (T0 := TX1) (N := 9) (ci := 1) (pl_c 1 (by decide) (by decide) i hi) rfl rfl 7 (by decide) wl_X1 tyX1 tyX1_ok nmX1 (by rw [hM]; exact fwX8_154) rfl rfl rfl rfl (Nat.le_of_ble_eq_true rfl) (by simp [cel, s2_eq, s2_ne, List.set]) (o_wages hi) d K
theorem fwX1_56 : Cond.fieldLink RX1 56 RX1 (TX1 8).2.1 (TX1 8).2.2.1 ∈ TB := tbw 97 (by decide +kernel) rfl
/-- PaidInDays$Crew.day -/
theorem getX1_56 (hi : i < 3) (hM : M.1.cls = RX1) (d : decode M.2.1 pc = .ok (.getfield 56, 3)) (K : GW E Z M (pc + 3) L (.int (σ i 1) :: S) σ) : GW E Z M pc L (.ref (ad E 1 i) :: S) σ := r_get (C0 := RX1) (T0 := TX1) (N := 9) (ci := 1) (pl_c 1 (by decide) (by decide) i hi) rfl rfl 8 (by decide) wl_X1 (by rw [hM]; exact fwX1_56) rfl rfl d K
theorem putX1_56 (hi : i < 3) (hM : M.1.cls = RX1) (d : decode M.2.1 pc = .ok (.putfield 56, 3)) (K : GW E Z M (pc + 3) L S (s2 σ i 1 v)) : GW E Z M pc L (.int v :: .ref (ad E 1 i) :: S) σ := r_put (C0 := RX1) (T0 := TX1) (N := 9) (ci := 1) (pl_c 1 (by decide) (by decide) i hi) rfl rfl 8 (by decide) wl_X1 tyX1 tyX1_ok nmX1 (by rw [hM]; exact fwX1_56) rfl rfl rfl rfl (Nat.le_of_ble_eq_true rfl) (by simp [cel, s2_eq, s2_ne, List.set]) (o_day hi) d K
theorem fwX8_148 : Cond.fieldLinkNest RX8 148 RX1 (TX1 8).2.1 (TX1 8).2.2.1 "PaidInDays" ∈ lw_tbl := tbn 98 (by decide +kernel)
/-- PaidInDays$Crew.day -/
theorem getX8_148 (hi : i < 3) (hM : M.1.cls = RX8) (d : decode M.2.1 pc = .ok (.getfield 148, 3)) (K : GW E Z M (pc + 3) L (.int (σ i 1) :: S) σ) : GW E Z M pc L (.ref (ad E 1 i) :: S) σ := r_getN (C0 := RX1) (T0 := TX1) (N := 9) (ci := 1) (pl_c 1 (by decide) (by decide) i hi) rfl rfl 8 (by decide) wl_X1 (by rw [hM]; exact fwX8_148) rfl rfl d K
theorem putX8_148 (hi : i < 3) (hM : M.1.cls = RX8) (d : decode M.2.1 pc = .ok (.putfield 148, 3)) (K : GW E Z M (pc + 3) L S (s2 σ i 1 v)) : GW E Z M pc L (.int v :: .ref (ad E 1 i) :: S) σ := r_putN (C0 := RX1) (T0 := TX1) (N := 9) (ci := 1) (pl_c 1 (by decide) (by decide) i hi) rfl rfl 8 (by decide) wl_X1 tyX1 tyX1_ok nmX1 (by rw [hM]; exact fwX8_148) rfl rfl rfl rfl (Nat.le_of_ble_eq_true rfl) (by simp [cel, s2_eq, s2_ne, List.set]) (o_day hi) d K
theorem fwX5_109 : Cond.fieldLinkNest RX5 109 RX1 (TX1 8).2.1 (TX1 8).2.2.1 "PaidInDays" ∈ lw_tbl := tbn 99 (by decide +kernel)
/-- PaidInDays$Crew.day -/
theorem getX5_109 (hi : i < 3) (hM : M.1.cls = RX5) (d : decode M.2.1 pc = .ok (.getfield 109, 3)) (K : GW E Z M (pc + 3) L (.int (σ i 1) :: S) σ) : GW E Z M pc L (.ref (ad E 1 i) :: S) σ := r_getN (C0 := RX1) (T0 := TX1) (N := 9) (ci := 1) (pl_c 1 (by decide) (by decide) i hi) rfl rfl 8 (by decide) wl_X1 (by rw [hM]; exact fwX5_109) rfl rfl d K
theorem putX5_109 (hi : i < 3) (hM : M.1.cls = RX5) (d : decode M.2.1 pc = .ok (.putfield 109, 3)) (K : GW E Z M (pc + 3) L S (s2 σ i 1 v)) : GW E Z M pc L (.int v :: .ref (ad E 1 i) :: S) σ := r_putN (C0 := RX1) (T0 := TX1) (N := 9) (ci := 1) (pl_c 1 (by decide) (by decide) i hi) rfl rfl 8 (by decide) wl_X1 tyX1 tyX1_ok nmX1 (by rw [hM]; exact fwX5_109) rfl rfl rfl rfl (Nat.le_of_ble_eq_true rfl) (by simp [cel, s2_eq, s2_ne, List.set]) (o_day hi) d K
theorem fwX5_9 : Cond.fieldLink RX5 9 RX5 (TX5 0).2.1 (TX5 0).2.2.1 ∈ TB := tbw 126 (by decide +kernel) rfl
/-- PaidInDays$Telling.letters -/
theorem getX5_9 (hM : M.1.cls = RX5) (d : decode M.2.1 pc = .ok (.getfield 9, 3)) (K : GW E Z M (pc + 3) L (.ref (ad E 15 0) :: S) σ) : GW E Z M pc L (.ref (ad E 14 0) :: S) σ := r_get (C0 := RX5) (T0 := TX5) (N := 2) (ci := 5) ((by decide)) rfl rfl 0 (by decide) wl_X5 (by rw [hM]; exact fwX5_9) rfl rfl d K
theorem fwX5_15 : Cond.fieldLink RX5 15 RX5 (TX5 1).2.1 (TX5 1).2.2.1 ∈ TB := tbw 127 (by decide +kernel) rfl
/-- PaidInDays$Telling.size -/
theorem getX5_15 (hM : M.1.cls = RX5) (d : decode M.2.1 pc = .ok (.getfield 15, 3)) (K : GW E Z M (pc + 3) L (.int (σ 10 2) :: S) σ) : GW E Z M pc L (.ref (ad E 14 0) :: S) σ := r_get (C0 := RX5) (T0 := TX5) (N := 2) (ci := 5) ((by decide)) rfl rfl 1 (by decide) wl_X5 (by rw [hM]; exact fwX5_15) rfl rfl d K
theorem putX5_15 (hM : M.1.cls = RX5) (d : decode M.2.1 pc = .ok (.putfield 15, 3)) (K : GW E Z M (pc + 3) L S (s2 σ 10 2 v)) : GW E Z M pc L (.int v :: .ref (ad E 14 0) :: S) σ := r_put (C0 := RX5) (T0 := TX5) (N := 2) (ci := 5) ((by decide)) rfl rfl 1 (by decide) wl_X5 tyX5 tyX5_ok nmX5 (by rw [hM]; exact fwX5_15) rfl rfl rfl rfl (Nat.le_of_ble_eq_true rfl) (by simp [cel, s2_eq, s2_ne, List.set]) (o_k2) d K
theorem fwX8_60 : Cond.fieldLinkNest RX8 60 RX5 (TX5 1).2.1 (TX5 1).2.2.1 "PaidInDays" ∈ lw_tbl := tbn 128 (by decide +kernel)
/-- PaidInDays$Telling.size -/
theorem getX8_60 (hM : M.1.cls = RX8) (d : decode M.2.1 pc = .ok (.getfield 60, 3)) (K : GW E Z M (pc + 3) L (.int (σ 10 2) :: S) σ) : GW E Z M pc L (.ref (ad E 14 0) :: S) σ := r_getN (C0 := RX5) (T0 := TX5) (N := 2) (ci := 5) ((by decide)) rfl rfl 1 (by decide) wl_X5 (by rw [hM]; exact fwX8_60) rfl rfl d K
theorem putX8_60 (hM : M.1.cls = RX8) (d : decode M.2.1 pc = .ok (.putfield 60, 3)) (K : GW E Z M (pc + 3) L S (s2 σ 10 2 v)) : GW E Z M pc L (.int v :: .ref (ad E 14 0) :: S) σ := r_putN (C0 := RX5) (T0 := TX5) (N := 2) (ci := 5) ((by decide)) rfl rfl 1 (by decide) wl_X5 tyX5 tyX5_ok nmX5 (by rw [hM]; exact fwX8_60) rfl rfl rfl rfl (Nat.le_of_ble_eq_true rfl) (by simp [cel, s2_eq, s2_ne, List.set]) (o_k2) d K
theorem fwX8_10 : Cond.fieldLink RX8 10 RX8 (TX8 0).2.1 (TX8 0).2.2.1 ∈ TB := tbw 135 (by decide +kernel) rfl
/-- PaidInDays.now -/
theorem getX8_10 (hM : M.1.cls = RX8) (d : decode M.2.1 pc = .ok (.getfield 10, 3)) (K : GW E Z M (pc + 3) L (.ref (ad E 1 0) :: S) σ) : GW E Z M pc L (.ref (ad E 0 0) :: S) σ := r_get (C0 := RX8) (T0 := TX8) (N := 8) (ci := 8) ((by decide)) rfl rfl 0 (by decide) wl_X8 (by rw [hM]; exact fwX8_10) rfl rfl d K
theorem fwX8_16 : Cond.fieldLink RX8 16 RX8 (TX8 1).2.1 (TX8 1).2.2.1 ∈ TB := tbw 136 (by decide +kernel) rfl
/-- PaidInDays.mind -/
theorem getX8_16 (hM : M.1.cls = RX8) (d : decode M.2.1 pc = .ok (.getfield 16, 3)) (K : GW E Z M (pc + 3) L (.ref (ad E 1 1) :: S) σ) : GW E Z M pc L (.ref (ad E 0 0) :: S) σ := r_get (C0 := RX8) (T0 := TX8) (N := 8) (ci := 8) ((by decide)) rfl rfl 1 (by decide) wl_X8 (by rw [hM]; exact fwX8_16) rfl rfl d K
theorem fwX8_19 : Cond.fieldLink RX8 19 RX8 (TX8 2).2.1 (TX8 2).2.2.1 ∈ TB := tbw 137 (by decide +kernel) rfl
/-- PaidInDays.kept -/
theorem getX8_19 (hM : M.1.cls = RX8) (d : decode M.2.1 pc = .ok (.getfield 19, 3)) (K : GW E Z M (pc + 3) L (.ref (ad E 1 2) :: S) σ) : GW E Z M pc L (.ref (ad E 0 0) :: S) σ := r_get (C0 := RX8) (T0 := TX8) (N := 8) (ci := 8) ((by decide)) rfl rfl 2 (by decide) wl_X8 (by rw [hM]; exact fwX8_19) rfl rfl d K
theorem fwX8_22 : Cond.fieldLink RX8 22 RX8 (TX8 3).2.1 (TX8 3).2.2.1 ∈ TB := tbw 138 (by decide +kernel) rfl
/-- PaidInDays.hasKept -/
theorem getX8_22 (hM : M.1.cls = RX8) (d : decode M.2.1 pc = .ok (.getfield 22, 3)) (K : GW E Z M (pc + 3) L (.int (σ 10 0) :: S) σ) : GW E Z M pc L (.ref (ad E 0 0) :: S) σ := r_get (C0 := RX8) (T0 := TX8) (N := 8) (ci := 8) ((by decide)) rfl rfl 3 (by decide) wl_X8 (by rw [hM]; exact fwX8_22) rfl rfl d K
theorem putX8_22 (hz : narrow .boolean (.int v) = .int v) (hz2 : fits .boolean (.int v) = true) (hM : M.1.cls = RX8) (d : decode M.2.1 pc = .ok (.putfield 22, 3)) (K : GW E Z M (pc + 3) L S (s2 σ 10 0 v)) : GW E Z M pc L (.int v :: .ref (ad E 0 0) :: S) σ := r_put (C0 := RX8) (T0 := TX8) (N := 8) (ci := 8) ((by decide)) rfl rfl 3 (by decide) wl_X8 tyX8 tyX8_ok nmX8 (by rw [hM]; exact fwX8_22) rfl rfl hz hz2 (Nat.le_of_ble_eq_true rfl) (by simp [cel, s2_eq, s2_ne, List.set]) (o_k0) d K
theorem fwX8_29 : Cond.fieldLink RX8 29 RX8 (TX8 4).2.1 (TX8 4).2.2.1 ∈ TB := tbw 139 (by decide +kernel) rfl
/-- PaidInDays.telling -/
theorem getX8_29 (hM : M.1.cls = RX8) (d : decode M.2.1 pc = .ok (.getfield 29, 3)) (K : GW E Z M (pc + 3) L (.ref (ad E 14 0) :: S) σ) : GW E Z M pc L (.ref (ad E 0 0) :: S) σ := r_get (C0 := RX8) (T0 := TX8) (N := 8) (ci := 8) ((by decide)) rfl rfl 4 (by decide) wl_X8 (by rw [hM]; exact fwX8_29) rfl rfl d K
theorem fwX8_33 : Cond.fieldLink RX8 33 RX8 (TX8 5).2.1 (TX8 5).2.2.1 ∈ TB := tbw 140 (by decide +kernel) rfl
/-- PaidInDays.told -/
theorem getX8_33 (hM : M.1.cls = RX8) (d : decode M.2.1 pc = .ok (.getfield 33, 3)) (K : GW E Z M (pc + 3) L (.ref (ad E 16 0) :: S) σ) : GW E Z M pc L (.ref (ad E 0 0) :: S) σ := r_get (C0 := RX8) (T0 := TX8) (N := 8) (ci := 8) ((by decide)) rfl rfl 5 (by decide) wl_X8 (by rw [hM]; exact fwX8_33) rfl rfl d K
theorem fwX8_37 : Cond.fieldLink RX8 37 RX8 (TX8 6).2.1 (TX8 6).2.2.1 ∈ TB := tbw 141 (by decide +kernel) rfl
/-- PaidInDays.toldCount -/
theorem getX8_37 (hM : M.1.cls = RX8) (d : decode M.2.1 pc = .ok (.getfield 37, 3)) (K : GW E Z M (pc + 3) L (.int (σ 10 1) :: S) σ) : GW E Z M pc L (.ref (ad E 0 0) :: S) σ := r_get (C0 := RX8) (T0 := TX8) (N := 8) (ci := 8) ((by decide)) rfl rfl 6 (by decide) wl_X8 (by rw [hM]; exact fwX8_37) rfl rfl d K
theorem putX8_37 (hM : M.1.cls = RX8) (d : decode M.2.1 pc = .ok (.putfield 37, 3)) (K : GW E Z M (pc + 3) L S (s2 σ 10 1 v)) : GW E Z M pc L (.int v :: .ref (ad E 0 0) :: S) σ := r_put (C0 := RX8) (T0 := TX8) (N := 8) (ci := 8) ((by decide)) rfl rfl 6 (by decide) wl_X8 tyX8 tyX8_ok nmX8 (by rw [hM]; exact fwX8_37) rfl rfl rfl rfl (Nat.le_of_ble_eq_true rfl) (by simp [cel, s2_eq, s2_ne, List.set]) (o_k1) d K
theorem fwX8_41 : Cond.fieldLink RX8 41 RX8 (TX8 7).2.1 (TX8 7).2.2.1 ∈ TB := tbw 142 (by decide +kernel) rfl
/-- PaidInDays.refusals -/
theorem getX8_41 (hM : M.1.cls = RX8) (d : decode M.2.1 pc = .ok (.getfield 41, 3)) (K : GW E Z M (pc + 3) L (.ref (ad E 17 0) :: S) σ) : GW E Z M pc L (.ref (ad E 0 0) :: S) σ := r_get (C0 := RX8) (T0 := TX8) (N := 8) (ci := 8) ((by decide)) rfl rfl 7 (by decide) wl_X8 (by rw [hM]; exact fwX8_41) rfl rfl d K
theorem fwX9_9 : Cond.fieldLink RX9 9 RX9 (TX9 0).2.1 (TX9 0).2.2.1 ∈ TB := tbw 738 (by decide +kernel) rfl
/-- PaidInDaysModel.s -/
theorem getX9_9 (hM : M.1.cls = RX9) (d : decode M.2.1 pc = .ok (.getfield 9, 3)) (K : GW E Z M (pc + 3) L (.ref (ad E 19 3) :: S) σ) : GW E Z M pc L (.ref (ad E 18 0) :: S) σ := r_get (C0 := RX9) (T0 := TX9) (N := 13) (ci := 9) ((by decide)) rfl rfl 0 (by decide) wl_X9 (by rw [hM]; exact fwX9_9) rfl rfl d K
theorem fwX9_13 : Cond.fieldLink RX9 13 RX9 (TX9 1).2.1 (TX9 1).2.2.1 ∈ TB := tbw 739 (by decide +kernel) rfl
/-- PaidInDaysModel.m -/
theorem getX9_13 (hM : M.1.cls = RX9) (d : decode M.2.1 pc = .ok (.getfield 13, 3)) (K : GW E Z M (pc + 3) L (.ref (ad E 19 4) :: S) σ) : GW E Z M pc L (.ref (ad E 18 0) :: S) σ := r_get (C0 := RX9) (T0 := TX9) (N := 13) (ci := 9) ((by decide)) rfl rfl 1 (by decide) wl_X9 (by rw [hM]; exact fwX9_13) rfl rfl d K
theorem fwX9_16 : Cond.fieldLink RX9 16 RX9 (TX9 2).2.1 (TX9 2).2.2.1 ∈ TB := tbw 740 (by decide +kernel) rfl
/-- PaidInDaysModel.image -/
theorem getX9_16 (hM : M.1.cls = RX9) (d : decode M.2.1 pc = .ok (.getfield 16, 3)) (K : GW E Z M (pc + 3) L (.ref (ad E 19 5) :: S) σ) : GW E Z M pc L (.ref (ad E 18 0) :: S) σ := r_get (C0 := RX9) (T0 := TX9) (N := 13) (ci := 9) ((by decide)) rfl rfl 2 (by decide) wl_X9 (by rw [hM]; exact fwX9_16) rfl rfl d K
theorem fwX9_19 : Cond.fieldLink RX9 19 RX9 (TX9 3).2.1 (TX9 3).2.2.1 ∈ TB := tbw 741 (by decide +kernel) rfl
/-- PaidInDaysModel.was -/
theorem getX9_19 (hM : M.1.cls = RX9) (d : decode M.2.1 pc = .ok (.getfield 19, 3)) (K : GW E Z M (pc + 3) L (.ref (ad E 19 6) :: S) σ) : GW E Z M pc L (.ref (ad E 18 0) :: S) σ := r_get (C0 := RX9) (T0 := TX9) (N := 13) (ci := 9) ((by decide)) rfl rfl 3 (by decide) wl_X9 (by rw [hM]; exact fwX9_19) rfl rfl d K
theorem fwX9_204 : Cond.fieldLink RX9 204 RX9 (TX9 4).2.1 (TX9 4).2.2.1 ∈ TB := tbw 742 (by decide +kernel) rfl
/-- PaidInDaysModel.hasImage -/
theorem getX9_204 (hM : M.1.cls = RX9) (d : decode M.2.1 pc = .ok (.getfield 204, 3)) (K : GW E Z M (pc + 3) L (.int (σ 15 0) :: S) σ) : GW E Z M pc L (.ref (ad E 18 0) :: S) σ := r_get (C0 := RX9) (T0 := TX9) (N := 13) (ci := 9) ((by decide)) rfl rfl 4 (by decide) wl_X9 (by rw [hM]; exact fwX9_204) rfl rfl d K
theorem putX9_204 (hz : narrow .boolean (.int v) = .int v) (hz2 : fits .boolean (.int v) = true) (hM : M.1.cls = RX9) (d : decode M.2.1 pc = .ok (.putfield 204, 3)) (K : GW E Z M (pc + 3) L S (s2 σ 15 0 v)) : GW E Z M pc L (.int v :: .ref (ad E 18 0) :: S) σ := r_put (C0 := RX9) (T0 := TX9) (N := 13) (ci := 9) ((by decide)) rfl rfl 4 (by decide) wl_X9 tyX9 tyX9_ok nmX9 (by rw [hM]; exact fwX9_204) rfl rfl hz hz2 (Nat.le_of_ble_eq_true rfl) (by simp [cel, s2_eq, s2_ne, List.set]) (o_m0) d K
theorem fwX9_22 : Cond.fieldLink RX9 22 RX9 (TX9 5).2.1 (TX9 5).2.2.1 ∈ TB := tbw 743 (by decide +kernel) rfl
/-- PaidInDaysModel.letters -/
theorem getX9_22 (hM : M.1.cls = RX9) (d : decode M.2.1 pc = .ok (.getfield 22, 3)) (K : GW E Z M (pc + 3) L (.ref (ad E 20 0) :: S) σ) : GW E Z M pc L (.ref (ad E 18 0) :: S) σ := r_get (C0 := RX9) (T0 := TX9) (N := 13) (ci := 9) ((by decide)) rfl rfl 5 (by decide) wl_X9 (by rw [hM]; exact fwX9_22) rfl rfl d K
theorem fwX9_25 : Cond.fieldLink RX9 25 RX9 (TX9 6).2.1 (TX9 6).2.2.1 ∈ TB := tbw 744 (by decide +kernel) rfl
/-- PaidInDaysModel.row -/
theorem getX9_25 (hM : M.1.cls = RX9) (d : decode M.2.1 pc = .ok (.getfield 25, 3)) (K : GW E Z M (pc + 3) L (.ref (ad E 21 0) :: S) σ) : GW E Z M pc L (.ref (ad E 18 0) :: S) σ := r_get (C0 := RX9) (T0 := TX9) (N := 13) (ci := 9) ((by decide)) rfl rfl 6 (by decide) wl_X9 (by rw [hM]; exact fwX9_25) rfl rfl d K
theorem fwX9_28 : Cond.fieldLink RX9 28 RX9 (TX9 7).2.1 (TX9 7).2.2.1 ∈ TB := tbw 745 (by decide +kernel) rfl
/-- PaidInDaysModel.refused -/
theorem getX9_28 (hM : M.1.cls = RX9) (d : decode M.2.1 pc = .ok (.getfield 28, 3)) (K : GW E Z M (pc + 3) L (.ref (ad E 22 0) :: S) σ) : GW E Z M pc L (.ref (ad E 18 0) :: S) σ := r_get (C0 := RX9) (T0 := TX9) (N := 13) (ci := 9) ((by decide)) rfl rfl 7 (by decide) wl_X9 (by rw [hM]; exact fwX9_28) rfl rfl d K
theorem fwX9_92 : Cond.fieldLink RX9 92 RX9 (TX9 8).2.1 (TX9 8).2.2.1 ∈ TB := tbw 746 (by decide +kernel) rfl
/-- PaidInDaysModel.letterMany -/
theorem getX9_92 (hM : M.1.cls = RX9) (d : decode M.2.1 pc = .ok (.getfield 92, 3)) (K : GW E Z M (pc + 3) L (.int (σ 15 1) :: S) σ) : GW E Z M pc L (.ref (ad E 18 0) :: S) σ := r_get (C0 := RX9) (T0 := TX9) (N := 13) (ci := 9) ((by decide)) rfl rfl 8 (by decide) wl_X9 (by rw [hM]; exact fwX9_92) rfl rfl d K
theorem putX9_92 (hM : M.1.cls = RX9) (d : decode M.2.1 pc = .ok (.putfield 92, 3)) (K : GW E Z M (pc + 3) L S (s2 σ 15 1 v)) : GW E Z M pc L (.int v :: .ref (ad E 18 0) :: S) σ := r_put (C0 := RX9) (T0 := TX9) (N := 13) (ci := 9) ((by decide)) rfl rfl 8 (by decide) wl_X9 tyX9 tyX9_ok nmX9 (by rw [hM]; exact fwX9_92) rfl rfl rfl rfl (Nat.le_of_ble_eq_true rfl) (by simp [cel, s2_eq, s2_ne, List.set]) (o_m1) d K
theorem fwX9_192 : Cond.fieldLink RX9 192 RX9 (TX9 9).2.1 (TX9 9).2.2.1 ∈ TB := tbw 747 (by decide +kernel) rfl
/-- PaidInDaysModel.rowMany -/
theorem getX9_192 (hM : M.1.cls = RX9) (d : decode M.2.1 pc = .ok (.getfield 192, 3)) (K : GW E Z M (pc + 3) L (.int (σ 15 2) :: S) σ) : GW E Z M pc L (.ref (ad E 18 0) :: S) σ := r_get (C0 := RX9) (T0 := TX9) (N := 13) (ci := 9) ((by decide)) rfl rfl 9 (by decide) wl_X9 (by rw [hM]; exact fwX9_192) rfl rfl d K
theorem putX9_192 (hM : M.1.cls = RX9) (d : decode M.2.1 pc = .ok (.putfield 192, 3)) (K : GW E Z M (pc + 3) L S (s2 σ 15 2 v)) : GW E Z M pc L (.int v :: .ref (ad E 18 0) :: S) σ := r_put (C0 := RX9) (T0 := TX9) (N := 13) (ci := 9) ((by decide)) rfl rfl 9 (by decide) wl_X9 tyX9 tyX9_ok nmX9 (by rw [hM]; exact fwX9_192) rfl rfl rfl rfl (Nat.le_of_ble_eq_true rfl) (by simp [cel, s2_eq, s2_ne, List.set]) (o_m2) d K
theorem fwX9_96 : Cond.fieldLink RX9 96 RX9 (TX9 10).2.1 (TX9 10).2.2.1 ∈ TB := tbw 748 (by decide +kernel) rfl
/-- PaidInDaysModel.place -/
theorem getX9_96 (hM : M.1.cls = RX9) (d : decode M.2.1 pc = .ok (.getfield 96, 3)) (K : GW E Z M (pc + 3) L (.int (σ 15 3) :: S) σ) : GW E Z M pc L (.ref (ad E 18 0) :: S) σ := r_get (C0 := RX9) (T0 := TX9) (N := 13) (ci := 9) ((by decide)) rfl rfl 10 (by decide) wl_X9 (by rw [hM]; exact fwX9_96) rfl rfl d K
theorem putX9_96 (hM : M.1.cls = RX9) (d : decode M.2.1 pc = .ok (.putfield 96, 3)) (K : GW E Z M (pc + 3) L S (s2 σ 15 3 v)) : GW E Z M pc L (.int v :: .ref (ad E 18 0) :: S) σ := r_put (C0 := RX9) (T0 := TX9) (N := 13) (ci := 9) ((by decide)) rfl rfl 10 (by decide) wl_X9 tyX9 tyX9_ok nmX9 (by rw [hM]; exact fwX9_96) rfl rfl rfl rfl (Nat.le_of_ble_eq_true rfl) (by simp [cel, s2_eq, s2_ne, List.set]) (o_m3) d K
theorem fwX9_31 : Cond.fieldLink RX9 31 RX9 (TX9 11).2.1 (TX9 11).2.2.1 ∈ TB := tbw 749 (by decide +kernel) rfl
/-- PaidInDaysModel.numbers -/
theorem getX9_31 (hM : M.1.cls = RX9) (d : decode M.2.1 pc = .ok (.getfield 31, 3)) (K : GW E Z M (pc + 3) L (.ref (ad E 23 0) :: S) σ) : GW E Z M pc L (.ref (ad E 18 0) :: S) σ := r_get (C0 := RX9) (T0 := TX9) (N := 13) (ci := 9) ((by decide)) rfl rfl 11 (by decide) wl_X9 (by rw [hM]; exact fwX9_31) rfl rfl d K
theorem fwX9_195 : Cond.fieldLink RX9 195 RX9 (TX9 12).2.1 (TX9 12).2.2.1 ∈ TB := tbw 750 (by decide +kernel) rfl
/-- PaidInDaysModel.seed -/
theorem getX9_195 (hM : M.1.cls = RX9) (d : decode M.2.1 pc = .ok (.getfield 195, 3)) (K : GW E Z M (pc + 3) L (.int (σ 15 4) :: S) σ) : GW E Z M pc L (.ref (ad E 18 0) :: S) σ := r_get (C0 := RX9) (T0 := TX9) (N := 13) (ci := 9) ((by decide)) rfl rfl 12 (by decide) wl_X9 (by rw [hM]; exact fwX9_195) rfl rfl d K
theorem putX9_195 (hM : M.1.cls = RX9) (d : decode M.2.1 pc = .ok (.putfield 195, 3)) (K : GW E Z M (pc + 3) L S (s2 σ 15 4 v)) : GW E Z M pc L (.int v :: .ref (ad E 18 0) :: S) σ := r_put (C0 := RX9) (T0 := TX9) (N := 13) (ci := 9) ((by decide)) rfl rfl 12 (by decide) wl_X9 tyX9 tyX9_ok nmX9 (by rw [hM]; exact fwX9_195) rfl rfl rfl rfl (Nat.le_of_ble_eq_true rfl) (by simp [cel, s2_eq, s2_ne, List.set]) (o_m4) d K
theorem upd_row {σ : Sg} {a : Nat} {t : Nat} {v : Int32} {g : Nat → Nat} (hg : ∀ x z, g x = g z → x = z) : (fun j => s2 σ a (g t) v a (g j)) = upd (fun j => σ a (g j)) t v := by
  funext j
  unfold upd
  by_cases hj : j = t
  · subst hj
    rw [if_pos rfl, s2_eq]
  · rw [if_neg hj, s2_ne (Or.inr (fun h => hj (hg _ _ h)))]
theorem ld_9 (hi : i < 3) (ht : t < 6) (d : decode M.2.1 pc = .ok (.iaload, 1)) (K : GW E Z M (pc + 1) L (.int (σ i (3 + 5 * t)) :: S) σ) : GW E Z M pc L (.int (nI t) :: .ref (ad E 9 i) :: S) σ := r_iald (pl_c 9 (by decide) (by decide) i hi) rfl (vp_in_nI ht (by decide)) d (by rw [nI_clamp (by omega)]; exact K)
theorem st_9 (hi : i < 3) (ht : t < 6) (d : decode M.2.1 pc = .ok (.iastore, 1)) (K : GW E Z M (pc + 1) L S (s2 σ i (3 + 5 * t) v)) : GW E Z M pc L (.int v :: .int (nI t) :: .ref (ad E 9 i) :: S) σ := r_iast (pl_c 9 (by decide) (by decide) i hi) rfl (vp_in_nI ht (by decide)) (by rw [nI_clamp (by omega)]; simp only [cel]; rw [upd_row (g := fun x => 3 + 5 * x) (fun x z h => by (try dsimp only at h); omega)]) (o_9 hi) d K
theorem ld_10 (hi : i < 3) (ht : t < 6) (d : decode M.2.1 pc = .ok (.iaload, 1)) (K : GW E Z M (pc + 1) L (.int (σ i (4 + 5 * t)) :: S) σ) : GW E Z M pc L (.int (nI t) :: .ref (ad E 10 i) :: S) σ := r_iald (pl_c 10 (by decide) (by decide) i hi) rfl (vp_in_nI ht (by decide)) d (by rw [nI_clamp (by omega)]; exact K)
theorem st_10 (hi : i < 3) (ht : t < 6) (d : decode M.2.1 pc = .ok (.iastore, 1)) (K : GW E Z M (pc + 1) L S (s2 σ i (4 + 5 * t) v)) : GW E Z M pc L (.int v :: .int (nI t) :: .ref (ad E 10 i) :: S) σ := r_iast (pl_c 10 (by decide) (by decide) i hi) rfl (vp_in_nI ht (by decide)) (by rw [nI_clamp (by omega)]; simp only [cel]; rw [upd_row (g := fun x => 4 + 5 * x) (fun x z h => by (try dsimp only at h); omega)]) (o_10 hi) d K
theorem ld_11 (hi : i < 3) (ht : t < 6) (d : decode M.2.1 pc = .ok (.iaload, 1)) (K : GW E Z M (pc + 1) L (.int (σ i (5 + 5 * t)) :: S) σ) : GW E Z M pc L (.int (nI t) :: .ref (ad E 11 i) :: S) σ := r_iald (pl_c 11 (by decide) (by decide) i hi) rfl (vp_in_nI ht (by decide)) d (by rw [nI_clamp (by omega)]; exact K)
theorem st_11 (hi : i < 3) (ht : t < 6) (d : decode M.2.1 pc = .ok (.iastore, 1)) (K : GW E Z M (pc + 1) L S (s2 σ i (5 + 5 * t) v)) : GW E Z M pc L (.int v :: .int (nI t) :: .ref (ad E 11 i) :: S) σ := r_iast (pl_c 11 (by decide) (by decide) i hi) rfl (vp_in_nI ht (by decide)) (by rw [nI_clamp (by omega)]; simp only [cel]; rw [upd_row (g := fun x => 5 + 5 * x) (fun x z h => by (try dsimp only at h); omega)]) (o_11 hi) d K
theorem ld_12 (hi : i < 3) (ht : t < 6) (d : decode M.2.1 pc = .ok (.iaload, 1)) (K : GW E Z M (pc + 1) L (.int (σ i (6 + 5 * t)) :: S) σ) : GW E Z M pc L (.int (nI t) :: .ref (ad E 12 i) :: S) σ := r_iald (pl_c 12 (by decide) (by decide) i hi) rfl (vp_in_nI ht (by decide)) d (by rw [nI_clamp (by omega)]; exact K)
theorem st_12 (hi : i < 3) (ht : t < 6) (d : decode M.2.1 pc = .ok (.iastore, 1)) (K : GW E Z M (pc + 1) L S (s2 σ i (6 + 5 * t) v)) : GW E Z M pc L (.int v :: .int (nI t) :: .ref (ad E 12 i) :: S) σ := r_iast (pl_c 12 (by decide) (by decide) i hi) rfl (vp_in_nI ht (by decide)) (by rw [nI_clamp (by omega)]; simp only [cel]; rw [upd_row (g := fun x => 6 + 5 * x) (fun x z h => by (try dsimp only at h); omega)]) (o_12 hi) d K
theorem ld_13 (hi : i < 3) (ht : t < 6) (d : decode M.2.1 pc = .ok (.iaload, 1)) (K : GW E Z M (pc + 1) L (.int (σ i (7 + 5 * t)) :: S) σ) : GW E Z M pc L (.int (nI t) :: .ref (ad E 13 i) :: S) σ := r_iald (pl_c 13 (by decide) (by decide) i hi) rfl (vp_in_nI ht (by decide)) d (by rw [nI_clamp (by omega)]; exact K)
theorem st_13 (hi : i < 3) (ht : t < 6) (d : decode M.2.1 pc = .ok (.iastore, 1)) (K : GW E Z M (pc + 1) L S (s2 σ i (7 + 5 * t) v)) : GW E Z M pc L (.int v :: .int (nI t) :: .ref (ad E 13 i) :: S) σ := r_iast (pl_c 13 (by decide) (by decide) i hi) rfl (vp_in_nI ht (by decide)) (by rw [nI_clamp (by omega)]; simp only [cel]; rw [upd_row (g := fun x => 7 + 5 * x) (fun x z h => by (try dsimp only at h); omega)]) (o_13 hi) d K
theorem ld_15 (ht : t < 96) (d : decode M.2.1 pc = .ok (.caload, 1)) (K : GW E Z M (pc + 1) L (.int (σ 7 (t)) :: S) σ) : GW E Z M pc L (.int (nI t) :: .ref (ad E 15 0) :: S) σ := r_cald ((by decide)) rfl (vp_in_nI ht (by decide)) d (by rw [nI_clamp (by omega)]; exact K)
theorem st_15 (ht : t < 96) (d : decode M.2.1 pc = .ok (.castore, 1)) (K : GW E Z M (pc + 1) L S (s2 σ 7 (t) (vp_nar .char v))) : GW E Z M pc L (.int v :: .int (nI t) :: .ref (ad E 15 0) :: S) σ := r_cast ((by decide)) rfl (vp_in_nI ht (by decide)) (by rw [nI_clamp (by omega)]; simp only [cel]; rw [upd_row (g := fun x => x) (fun x z h => by (try dsimp only at h); omega)]) (o_15) d K
theorem ld_16 (ht : t < 16) (d : decode M.2.1 pc = .ok (.iaload, 1)) (K : GW E Z M (pc + 1) L (.int (σ 8 (t)) :: S) σ) : GW E Z M pc L (.int (nI t) :: .ref (ad E 16 0) :: S) σ := r_iald ((by decide)) rfl (vp_in_nI ht (by decide)) d (by rw [nI_clamp (by omega)]; exact K)
theorem st_16 (ht : t < 16) (d : decode M.2.1 pc = .ok (.iastore, 1)) (K : GW E Z M (pc + 1) L S (s2 σ 8 (t) v)) : GW E Z M pc L (.int v :: .int (nI t) :: .ref (ad E 16 0) :: S) σ := r_iast ((by decide)) rfl (vp_in_nI ht (by decide)) (by rw [nI_clamp (by omega)]; simp only [cel]; rw [upd_row (g := fun x => x) (fun x z h => by (try dsimp only at h); omega)]) (o_16) d K
theorem ld_17 (ht : t < 7) (d : decode M.2.1 pc = .ok (.iaload, 1)) (K : GW E Z M (pc + 1) L (.int (σ 9 (t)) :: S) σ) : GW E Z M pc L (.int (nI t) :: .ref (ad E 17 0) :: S) σ := r_iald ((by decide)) rfl (vp_in_nI ht (by decide)) d (by rw [nI_clamp (by omega)]; exact K)
theorem st_17 (ht : t < 7) (d : decode M.2.1 pc = .ok (.iastore, 1)) (K : GW E Z M (pc + 1) L S (s2 σ 9 (t) v)) : GW E Z M pc L (.int v :: .int (nI t) :: .ref (ad E 17 0) :: S) σ := r_iast ((by decide)) rfl (vp_in_nI ht (by decide)) (by rw [nI_clamp (by omega)]; simp only [cel]; rw [upd_row (g := fun x => x) (fun x z h => by (try dsimp only at h); omega)]) (o_17) d K
theorem ld_19 (hi : 2 < i ∧ i < 7) (ht : t < 33) (d : decode M.2.1 pc = .ok (.iaload, 1)) (K : GW E Z M (pc + 1) L (.int (σ i (t)) :: S) σ) : GW E Z M pc L (.int (nI t) :: .ref (ad E 19 i) :: S) σ := r_iald (pl_m i hi) rfl (vp_in_nI ht (by decide)) d (by rw [nI_clamp (by omega)]; exact K)
theorem st_19 (hi : 2 < i ∧ i < 7) (ht : t < 33) (d : decode M.2.1 pc = .ok (.iastore, 1)) (K : GW E Z M (pc + 1) L S (s2 σ i (t) v)) : GW E Z M pc L (.int v :: .int (nI t) :: .ref (ad E 19 i) :: S) σ := r_iast (pl_m i hi) rfl (vp_in_nI ht (by decide)) (by rw [nI_clamp (by omega)]; simp only [cel]; rw [upd_row (g := fun x => x) (fun x z h => by (try dsimp only at h); omega)]) (o_19 hi) d K
theorem ld_20 (ht : t < 96) (d : decode M.2.1 pc = .ok (.iaload, 1)) (K : GW E Z M (pc + 1) L (.int (σ 11 (t)) :: S) σ) : GW E Z M pc L (.int (nI t) :: .ref (ad E 20 0) :: S) σ := r_iald ((by decide)) rfl (vp_in_nI ht (by decide)) d (by rw [nI_clamp (by omega)]; exact K)
theorem st_20 (ht : t < 96) (d : decode M.2.1 pc = .ok (.iastore, 1)) (K : GW E Z M (pc + 1) L S (s2 σ 11 (t) v)) : GW E Z M pc L (.int v :: .int (nI t) :: .ref (ad E 20 0) :: S) σ := r_iast ((by decide)) rfl (vp_in_nI ht (by decide)) (by rw [nI_clamp (by omega)]; simp only [cel]; rw [upd_row (g := fun x => x) (fun x z h => by (try dsimp only at h); omega)]) (o_20) d K
theorem ld_21 (ht : t < 16) (d : decode M.2.1 pc = .ok (.iaload, 1)) (K : GW E Z M (pc + 1) L (.int (σ 12 (t)) :: S) σ) : GW E Z M pc L (.int (nI t) :: .ref (ad E 21 0) :: S) σ := r_iald ((by decide)) rfl (vp_in_nI ht (by decide)) d (by rw [nI_clamp (by omega)]; exact K)
theorem st_21 (ht : t < 16) (d : decode M.2.1 pc = .ok (.iastore, 1)) (K : GW E Z M (pc + 1) L S (s2 σ 12 (t) v)) : GW E Z M pc L (.int v :: .int (nI t) :: .ref (ad E 21 0) :: S) σ := r_iast ((by decide)) rfl (vp_in_nI ht (by decide)) (by rw [nI_clamp (by omega)]; simp only [cel]; rw [upd_row (g := fun x => x) (fun x z h => by (try dsimp only at h); omega)]) (o_21) d K
theorem ld_22 (ht : t < 7) (d : decode M.2.1 pc = .ok (.iaload, 1)) (K : GW E Z M (pc + 1) L (.int (σ 13 (t)) :: S) σ) : GW E Z M pc L (.int (nI t) :: .ref (ad E 22 0) :: S) σ := r_iald ((by decide)) rfl (vp_in_nI ht (by decide)) d (by rw [nI_clamp (by omega)]; exact K)
theorem st_22 (ht : t < 7) (d : decode M.2.1 pc = .ok (.iastore, 1)) (K : GW E Z M (pc + 1) L S (s2 σ 13 (t) v)) : GW E Z M pc L (.int v :: .int (nI t) :: .ref (ad E 22 0) :: S) σ := r_iast ((by decide)) rfl (vp_in_nI ht (by decide)) (by rw [nI_clamp (by omega)]; simp only [cel]; rw [upd_row (g := fun x => x) (fun x z h => by (try dsimp only at h); omega)]) (o_22) d K
theorem ld_23 (ht : t < 3) (d : decode M.2.1 pc = .ok (.iaload, 1)) (K : GW E Z M (pc + 1) L (.int (σ 14 (t)) :: S) σ) : GW E Z M pc L (.int (nI t) :: .ref (ad E 23 0) :: S) σ := r_iald ((by decide)) rfl (vp_in_nI ht (by decide)) d (by rw [nI_clamp (by omega)]; exact K)
theorem st_23 (ht : t < 3) (d : decode M.2.1 pc = .ok (.iastore, 1)) (K : GW E Z M (pc + 1) L S (s2 σ 14 (t) v)) : GW E Z M pc L (.int v :: .int (nI t) :: .ref (ad E 23 0) :: S) σ := r_iast ((by decide)) rfl (vp_in_nI ht (by decide)) (by rw [nI_clamp (by omega)]; simp only [cel]; rw [upd_row (g := fun x => x) (fun x z h => by (try dsimp only at h); omega)]) (o_23) d K
end FIELDS
