/-! ===== stores that differ where no cell looks are one ===== -/
def vb (a : Nat) : Nat := [33, 33, 33, 33, 33, 33, 33, 96, 16, 7, 3, 96, 16, 7, 3, 5].getD a 0
def Eqv (σ τ : Sg) : Prop := ∀ a j, j < vb a → σ a j = τ a j
theorem arr_congr {E : EnvT} {cl : List vw_C} {H : Heap} {a n : Nat} {c : ClassId} {f g : Nat → Int32} (h : ∀ j, j < n → f j = g j) (hP : va_at (eD E) cl (a, .inl (c, n, .inl f)) H) : va_at (eD E) cl (a, .inl (c, n, .inl g)) H := by
  have e : vp_cell c (n, .inl f) = vp_cell c (n, .inl g) := by
    rw [vp_cell_i, vp_cell_i]
    unfold arrV
    congr 2
    funext j
    dsimp only
    rw [h j.val j.isLt]
  show H[a]? = some (vp_cell c (n, .inl g))
  rw [← e]
  exact hP
theorem wsx_eqv {E : EnvT} {σ τ : Sg} {H : Heap} (h : Eqv σ τ) (hP : va_P (eD E) vwCl (wsx E σ) H) : va_P (eD E) vwCl (wsx E τ) H := by
  intro p q hq
  obtain ⟨⟨k, i⟩, hx, rfl⟩ := wsx_inv hq
  have hP := hP p _ (wsx_get hx)
  obtain ⟨b1, b2, b3, b4, b5, b6⟩ := PL_bd _ (List.mem_of_getElem? hx)
  dsimp only at b1 b2 b3 b4 b5 b6 hP ⊢
  have hv : ∀ a, a < 7 → ∀ j, j < 33 → σ a j = τ a j := fun a ha j hj => h a j (by
    have : a = 0 ∨ a = 1 ∨ a = 2 ∨ a = 3 ∨ a = 4 ∨ a = 5 ∨ a = 6 := by omega
    rcases this with rfl | rfl | rfl | rfl | rfl | rfl | rfl <;> exact hj)
  match k, b1, b2, b3, b4, b5, b6, hP with
  | 0, _, b2, _, _, _, _, hP => simp only [cel, h 10 0 (by decide), h 10 1 (by decide)] at hP ⊢; exact hP
  | 1, _, b2, b3, _, _, _, hP =>
    have hi := b3 (by omega)
    simp only [cel, hv i (by omega) 0 (by omega), hv i (by omega) 1 (by omega), hv i (by omega) 2 (by omega)] at hP ⊢; exact hP
  | 2, _, b2, _, _, _, _, hP => exact hP
  | 3, _, b2, _, _, _, _, hP => exact hP
  | 4, _, b2, _, _, _, _, hP => exact hP
  | 5, _, b2, _, _, _, _, hP => exact hP
  | 6, _, b2, _, _, _, _, hP => exact hP
  | 7, _, b2, _, _, _, _, hP => exact hP
  | 8, _, b2, _, _, _, _, hP => exact hP
  | 9, _, b2, b3, _, _, _, hP => exact arr_congr (fun j hj => hv i (by have := b3 (by omega); omega) _ (by omega)) hP
  | 10, _, b2, b3, _, _, _, hP => exact arr_congr (fun j hj => hv i (by have := b3 (by omega); omega) _ (by omega)) hP
  | 11, _, b2, b3, _, _, _, hP => exact arr_congr (fun j hj => hv i (by have := b3 (by omega); omega) _ (by omega)) hP
  | 12, _, b2, b3, _, _, _, hP => exact arr_congr (fun j hj => hv i (by have := b3 (by omega); omega) _ (by omega)) hP
  | 13, _, b2, b3, _, _, _, hP => exact arr_congr (fun j hj => hv i (by have := b3 (by omega); omega) _ (by omega)) hP
  | 14, _, b2, _, _, _, _, hP => simp only [cel, h 10 2 (by decide)] at hP ⊢; exact hP
  | 15, _, b2, _, _, _, _, hP => exact arr_congr (fun j hj => h 7 j hj) hP
  | 16, _, b2, _, _, _, _, hP => exact arr_congr (fun j hj => h 8 j hj) hP
  | 17, _, b2, _, _, _, _, hP => exact arr_congr (fun j hj => h 9 j hj) hP
  | 18, _, b2, _, _, _, _, hP => simp only [cel, h 15 0 (by decide), h 15 1 (by decide), h 15 2 (by decide), h 15 3 (by decide), h 15 4 (by decide)] at hP ⊢; exact hP
  | 19, _, b2, _, _, _, _, hP => exact arr_congr (fun j hj => hv i (by omega) j hj) hP
  | 20, _, b2, _, _, _, _, hP => exact arr_congr (fun j hj => h 11 j hj) hP
  | 21, _, b2, _, _, _, _, hP => exact arr_congr (fun j hj => h 12 j hj) hP
  | 22, _, b2, _, _, _, _, hP => exact arr_congr (fun j hj => h 13 j hj) hP
  | 23, _, b2, _, _, _, _, hP => exact arr_congr (fun j hj => h 14 j hj) hP
  | k + 24, b1, _, _, _, _, _, _ => omega
theorem r_eqv {E : EnvT} {Z : ZT} {M : MI} {pc : Nat} {L : List (Option Value)} {S : List Value} {σ : Sg} (τ : Sg) (h : Eqv σ τ) (K : GW E Z M pc L S τ) : GW E Z M pc L S σ := fun p e s m args below meth c H locs ls C hl hP hS => K p e s m args below meth c H locs ls C hl (wsx_eqv h hP) hS
theorem up_same {σ : Sg} {a : Nat} : va_up σ a (σ a) = σ := by
  funext x
  unfold va_up
  by_cases h : x = a
  · rw [if_pos h, h]
  · rw [if_neg h]
theorem up_at {σ : Sg} {a : Nat} {r : Nat → Int32} : va_up σ a r a = r := if_pos rfl
theorem up_ne {σ : Sg} {a x : Nat} {r : Nat → Int32} (h : x ≠ a) : va_up σ a r x = σ x := if_neg h
theorem up_up {σ : Sg} {a : Nat} {r q : Nat → Int32} : va_up (va_up σ a r) a q = va_up σ a q := bx_uu σ a r q
theorem s2_up {σ : Sg} {a b : Nat} {r : Nat → Int32} {v : Int32} : s2 (va_up σ a r) a b v = va_up σ a (upd r b v) := by
  unfold s2
  rw [up_at, up_up]
theorem up_comm {σ : Sg} {a b : Nat} {r q : Nat → Int32} (h : a ≠ b) : va_up (va_up σ a r) b q = va_up (va_up σ b q) a r := by
  funext x
  unfold va_up
  by_cases h1 : x = b
  · rw [if_pos h1, if_neg (by omega), if_pos h1]
  · rw [if_neg h1]
    by_cases h2 : x = a
    · rw [if_pos h2, if_pos h2]
    · rw [if_neg h2, if_neg h2, if_neg h1]
