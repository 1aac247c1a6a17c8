section ACOPY
variable {E : EnvT} {Z : ZT} {M : MI} {pc : Nat} {L : List (Option Value)} {S : List Value} {σ : Sg} {i o : Nat}
theorem r_acopy {k0 i0 k1 i1 n0 n1 index : Nat} {f g : Nat → Int32} {σ' : Sg} {sp dp n : Int32} (hk0 : (k0, i0) ∈ PL) (hk1 : (k1, i1) ∈ PL) (he0 : cel E σ k0 i0 = .inl (cA E 0, n0, .inl f)) (he1 : cel E σ k1 i1 = .inl (cA E 0, n1, .inl g)) (h1 : ¬ sp < 0) (h2 : ¬ dp < 0) (h3 : ¬ n < 0) (h4 : sp.toNatClampNeg + n.toNatClampNeg ≤ n0) (h5 : dp.toNatClampNeg + n.toNatClampNeg ≤ n1) (hw : Cond.methodLink M.1.cls index arraycopyName ∈ TB) (w1 : Cond.native arraycopyName ∈ TB) (w2 : Cond.static arraycopyName ∈ TB) (w3 : Cond.initialized "java/lang/System" ∈ TB) (hr : (decide (1 ≤ Z.1.frames) && decide ((S.map fun v => v.category).sum + (nativeFrameWords "java/lang/System" "arraycopy" 5 + 11) ≤ Z.1.locals)) = true) (hnew : cel E σ' k1 i1 = .inl (cA E 0, n1, .inl (va_cpy f g sp.toNatClampNeg dp.toNatClampNeg n.toNatClampNeg))) (hoth : ∀ y, y ∈ PL → y ≠ (k1, i1) → cel E σ' y.1 y.2 = cel E σ y.1 y.2) (d : decode M.2.1 pc = .ok (.invokestatic index, 3)) (K : GW E Z M (pc + 3) L S σ') : GW E Z M pc L (.int n :: .int dp :: .ref (ad E k1 i1) :: .int sp :: .ref (ad E k0 i0) :: S) σ := fun p e s m args below meth c H locs ls C hl hP hS => by
  simp only [Bool.and_eq_true, decide_eq_true_eq] at hr
  obtain ⟨q0, hq0⟩ := List.getElem?_of_mem hk0
  obtain ⟨q1, hq1⟩ := List.getElem?_of_mem hk1
  have g0 := wsx_get (E := E) (σ := σ) hq0
  have g1 := wsx_get (E := E) (σ := σ) hq1
  exact va_copyi (tys := tyl E) (ty := .int) C.1 C.2.1 (C.2.2.1.trans hl.1.1.symm) C.2.2.2.2.2.1 (C.2.2.2.2.2.2.1 _ hw) (C.2.2.2.2.2.2.1 _ w1) (C.2.2.2.2.2.2.1 _ w2) (C.2.2.2.2.2.2.1 _ w3) C.2.2.2.2.2.2.2.1.1 hP (wsx_D C.2.2.2.2.2.2.2.2.2.1) hS q0 q1 0 0 (g0.trans (by show some (_, cel E σ k0 i0) = _; rw [he0])) (g1.trans (by show some (_, cel E σ k1 i1) = _; rw [he1])) rfl rfl rfl h1 h2 h3 h4 h5 (fun _ _ => rfl) hr.1 hr.2 d (fun H1 locs1 hP1 hD1 hS1 => K p e s m args below meth c H1 locs1 ls C hl (wsx_set hq1 hP1 hnew hoth) hS1)
/-- one of the five rows of a crew over another's -/
def cpk (w : Nat) (σ : Sg) (o i : Nat) : Sg := va_up σ i (fun x => if x % 5 = w % 5 ∧ 3 ≤ x ∧ x < 33 then σ o x else σ i x)
theorem wa_nat : Cond.native arraycopyName ∈ TB := tbw 190 (by decide +kernel) rfl
theorem wa_st : Cond.static arraycopyName ∈ TB := tbw 189 (by decide +kernel) rfl
theorem wa_in : Cond.initialized "java/lang/System" ∈ TB := tbw 11 (by decide +kernel) rfl
theorem cpk_9_at (hi : i < 3) (ho : o < 3) : cel E (cpk 3 σ o i) 9 i = .inl (cA E 0, 6, .inl (va_cpy (fun j => σ o (3 + 5 * j)) (fun j => σ i (3 + 5 * j)) 0 0 6)) := by
  simp only [cel]
  congr 3
  congr 1
  funext j
  unfold cpk va_cpy
  rw [up_at]
  by_cases hj : j < 6
  · rw [if_pos (by omega), if_pos (by omega)]
    congr 1
    omega
  · rw [if_neg (by omega), if_neg (by omega)]
theorem cpk_9_ot (hi : i < 3) (ho : o < 3) : ∀ y, y ∈ PL → y ≠ (9, i) → cel E (cpk 3 σ o i) y.1 y.2 = cel E σ y.1 y.2 := by
  rintro ⟨k', i'⟩ hy hne
  obtain ⟨b1, b2, b3, b4, b5, b6⟩ := PL_bd _ hy
  dsimp only at b1 b2 b3 b4 b5 b6 ⊢
  have hne' : ¬ (k' = 9 ∧ i' = i) := fun h => hne (by rw [h.1, h.2])
  clear hne hy
  have key : ∀ x z, (x ≠ i ∨ ¬ (z % 5 = 3 % 5 ∧ 3 ≤ z ∧ z < 33)) → cpk 3 σ o i x z = σ x z := fun x z h => by
    unfold cpk
    by_cases hx : x = i
    · rw [hx, up_at, if_neg (by omega)]
    · rw [up_ne hx]
  match k', b1, b2, b3, b4, b5, b6, hne' with
  | 0, _, b2, b3, b4, b5, b6, hne => first | rfl | (simp only [cel]; simp (disch := omega) only [key]) | (exfalso; omega)
  | 1, _, b2, b3, b4, b5, b6, hne => first | rfl | (simp only [cel]; simp (disch := omega) only [key]) | (exfalso; omega)
  | 2, _, b2, b3, b4, b5, b6, hne => first | rfl | (simp only [cel]; simp (disch := omega) only [key]) | (exfalso; omega)
  | 3, _, b2, b3, b4, b5, b6, hne => first | rfl | (simp only [cel]; simp (disch := omega) only [key]) | (exfalso; omega)
  | 4, _, b2, b3, b4, b5, b6, hne => first | rfl | (simp only [cel]; simp (disch := omega) only [key]) | (exfalso; omega)
  | 5, _, b2, b3, b4, b5, b6, hne => first | rfl | (simp only [cel]; simp (disch := omega) only [key]) | (exfalso; omega)
  | 6, _, b2, b3, b4, b5, b6, hne => first | rfl | (simp only [cel]; simp (disch := omega) only [key]) | (exfalso; omega)
  | 7, _, b2, b3, b4, b5, b6, hne => first | rfl | (simp only [cel]; simp (disch := omega) only [key]) | (exfalso; omega)
  | 8, _, b2, b3, b4, b5, b6, hne => first | rfl | (simp only [cel]; simp (disch := omega) only [key]) | (exfalso; omega)
  | 9, _, b2, b3, b4, b5, b6, hne => first | rfl | (simp only [cel]; simp (disch := omega) only [key]) | (exfalso; omega)
  | 10, _, b2, b3, b4, b5, b6, hne => first | rfl | (simp only [cel]; simp (disch := omega) only [key]) | (exfalso; omega)
  | 11, _, b2, b3, b4, b5, b6, hne => first | rfl | (simp only [cel]; simp (disch := omega) only [key]) | (exfalso; omega)
  | 12, _, b2, b3, b4, b5, b6, hne => first | rfl | (simp only [cel]; simp (disch := omega) only [key]) | (exfalso; omega)
  | 13, _, b2, b3, b4, b5, b6, hne => first | rfl | (simp only [cel]; simp (disch := omega) only [key]) | (exfalso; omega)
  | 14, _, b2, b3, b4, b5, b6, hne => first | rfl | (simp only [cel]; simp (disch := omega) only [key]) | (exfalso; omega)
  | 15, _, b2, b3, b4, b5, b6, hne => first | rfl | (simp only [cel]; simp (disch := omega) only [key]) | (exfalso; omega)
  | 16, _, b2, b3, b4, b5, b6, hne => first | rfl | (simp only [cel]; simp (disch := omega) only [key]) | (exfalso; omega)
  | 17, _, b2, b3, b4, b5, b6, hne => first | rfl | (simp only [cel]; simp (disch := omega) only [key]) | (exfalso; omega)
  | 18, _, b2, b3, b4, b5, b6, hne => first | rfl | (simp only [cel]; simp (disch := omega) only [key]) | (exfalso; omega)
  | 19, _, b2, b3, b4, b5, b6, hne => first | rfl | (simp only [cel]; simp (disch := omega) only [key]) | (exfalso; omega)
  | 20, _, b2, b3, b4, b5, b6, hne => first | rfl | (simp only [cel]; simp (disch := omega) only [key]) | (exfalso; omega)
  | 21, _, b2, b3, b4, b5, b6, hne => first | rfl | (simp only [cel]; simp (disch := omega) only [key]) | (exfalso; omega)
  | 22, _, b2, b3, b4, b5, b6, hne => first | rfl | (simp only [cel]; simp (disch := omega) only [key]) | (exfalso; omega)
  | 23, _, b2, b3, b4, b5, b6, hne => first | rfl | (simp only [cel]; simp (disch := omega) only [key]) | (exfalso; omega)
  | k + 24, b1, _, _, _, _, _, _ => omega
theorem acp_9 (hi : i < 3) (ho : o < 3) (hM : M.1.cls = RX1) (hr : (decide (1 ≤ Z.1.frames) && decide ((S.map fun v => v.category).sum + (nativeFrameWords "java/lang/System" "arraycopy" 5 + 11) ≤ Z.1.locals)) = true) (d : decode M.2.1 pc = .ok (.invokestatic 59, 3)) (K : GW E Z M (pc + 3) L S (cpk 3 σ o i)) : GW E Z M pc L (.int 6 :: .int 0 :: .ref (ad E 9 i) :: .int 0 :: .ref (ad E 9 o) :: S) σ := r_acopy (pl_c 9 (by decide) (by decide) o ho) (pl_c 9 (by decide) (by decide) i hi) rfl rfl (by decide) (by decide) (by decide) (by decide) (by decide) (by rw [hM]; exact lkX1_59) wa_nat wa_st wa_in hr (cpk_9_at hi ho) (cpk_9_ot hi ho) d K
theorem cpk_10_at (hi : i < 3) (ho : o < 3) : cel E (cpk 4 σ o i) 10 i = .inl (cA E 0, 6, .inl (va_cpy (fun j => σ o (4 + 5 * j)) (fun j => σ i (4 + 5 * j)) 0 0 6)) := by
  simp only [cel]
  congr 3
  congr 1
  funext j
  unfold cpk va_cpy
  rw [up_at]
  by_cases hj : j < 6
  · rw [if_pos (by omega), if_pos (by omega)]
    congr 1
    omega
  · rw [if_neg (by omega), if_neg (by omega)]
theorem cpk_10_ot (hi : i < 3) (ho : o < 3) : ∀ y, y ∈ PL → y ≠ (10, i) → cel E (cpk 4 σ o i) y.1 y.2 = cel E σ y.1 y.2 := by
  rintro ⟨k', i'⟩ hy hne
  obtain ⟨b1, b2, b3, b4, b5, b6⟩ := PL_bd _ hy
  dsimp only at b1 b2 b3 b4 b5 b6 ⊢
  have hne' : ¬ (k' = 10 ∧ i' = i) := fun h => hne (by rw [h.1, h.2])
  clear hne hy
  have key : ∀ x z, (x ≠ i ∨ ¬ (z % 5 = 4 % 5 ∧ 3 ≤ z ∧ z < 33)) → cpk 4 σ o i x z = σ x z := fun x z h => by
    unfold cpk
    by_cases hx : x = i
    · rw [hx, up_at, if_neg (by omega)]
    · rw [up_ne hx]
  match k', b1, b2, b3, b4, b5, b6, hne' with
  | 0, _, b2, b3, b4, b5, b6, hne => first | rfl | (simp only [cel]; simp (disch := omega) only [key]) | (exfalso; omega)
  | 1, _, b2, b3, b4, b5, b6, hne => first | rfl | (simp only [cel]; simp (disch := omega) only [key]) | (exfalso; omega)
  | 2, _, b2, b3, b4, b5, b6, hne => first | rfl | (simp only [cel]; simp (disch := omega) only [key]) | (exfalso; omega)
  | 3, _, b2, b3, b4, b5, b6, hne => first | rfl | (simp only [cel]; simp (disch := omega) only [key]) | (exfalso; omega)
  | 4, _, b2, b3, b4, b5, b6, hne => first | rfl | (simp only [cel]; simp (disch := omega) only [key]) | (exfalso; omega)
  | 5, _, b2, b3, b4, b5, b6, hne => first | rfl | (simp only [cel]; simp (disch := omega) only [key]) | (exfalso; omega)
  | 6, _, b2, b3, b4, b5, b6, hne => first | rfl | (simp only [cel]; simp (disch := omega) only [key]) | (exfalso; omega)
  | 7, _, b2, b3, b4, b5, b6, hne => first | rfl | (simp only [cel]; simp (disch := omega) only [key]) | (exfalso; omega)
  | 8, _, b2, b3, b4, b5, b6, hne => first | rfl | (simp only [cel]; simp (disch := omega) only [key]) | (exfalso; omega)
  | 9, _, b2, b3, b4, b5, b6, hne => first | rfl | (simp only [cel]; simp (disch := omega) only [key]) | (exfalso; omega)
  | 10, _, b2, b3, b4, b5, b6, hne => first | rfl | (simp only [cel]; simp (disch := omega) only [key]) | (exfalso; omega)
  | 11, _, b2, b3, b4, b5, b6, hne => first | rfl | (simp only [cel]; simp (disch := omega) only [key]) | (exfalso; omega)
  | 12, _, b2, b3, b4, b5, b6, hne => first | rfl | (simp only [cel]; simp (disch := omega) only [key]) | (exfalso; omega)
  | 13, _, b2, b3, b4, b5, b6, hne => first | rfl | (simp only [cel]; simp (disch := omega) only [key]) | (exfalso; omega)
  | 14, _, b2, b3, b4, b5, b6, hne => first | rfl | (simp only [cel]; simp (disch := omega) only [key]) | (exfalso; omega)
  | 15, _, b2, b3, b4, b5, b6, hne => first | rfl | (simp only [cel]; simp (disch := omega) only [key]) | (exfalso; omega)
  | 16, _, b2, b3, b4, b5, b6, hne => first | rfl | (simp only [cel]; simp (disch := omega) only [key]) | (exfalso; omega)
  | 17, _, b2, b3, b4, b5, b6, hne => first | rfl | (simp only [cel]; simp (disch := omega) only [key]) | (exfalso; omega)
  | 18, _, b2, b3, b4, b5, b6, hne => first | rfl | (simp only [cel]; simp (disch := omega) only [key]) | (exfalso; omega)
  | 19, _, b2, b3, b4, b5, b6, hne => first | rfl | (simp only [cel]; simp (disch := omega) only [key]) | (exfalso; omega)
  | 20, _, b2, b3, b4, b5, b6, hne => first | rfl | (simp only [cel]; simp (disch := omega) only [key]) | (exfalso; omega)
  | 21, _, b2, b3, b4, b5, b6, hne => first | rfl | (simp only [cel]; simp (disch := omega) only [key]) | (exfalso; omega)
  | 22, _, b2, b3, b4, b5, b6, hne => first | rfl | (simp only [cel]; simp (disch := omega) only [key]) | (exfalso; omega)
  | 23, _, b2, b3, b4, b5, b6, hne => first | rfl | (simp only [cel]; simp (disch := omega) only [key]) | (exfalso; omega)
  | k + 24, b1, _, _, _, _, _, _ => omega
theorem acp_10 (hi : i < 3) (ho : o < 3) (hM : M.1.cls = RX1) (hr : (decide (1 ≤ Z.1.frames) && decide ((S.map fun v => v.category).sum + (nativeFrameWords "java/lang/System" "arraycopy" 5 + 11) ≤ Z.1.locals)) = true) (d : decode M.2.1 pc = .ok (.invokestatic 59, 3)) (K : GW E Z M (pc + 3) L S (cpk 4 σ o i)) : GW E Z M pc L (.int 6 :: .int 0 :: .ref (ad E 10 i) :: .int 0 :: .ref (ad E 10 o) :: S) σ := r_acopy (pl_c 10 (by decide) (by decide) o ho) (pl_c 10 (by decide) (by decide) i hi) rfl rfl (by decide) (by decide) (by decide) (by decide) (by decide) (by rw [hM]; exact lkX1_59) wa_nat wa_st wa_in hr (cpk_10_at hi ho) (cpk_10_ot hi ho) d K
theorem cpk_11_at (hi : i < 3) (ho : o < 3) : cel E (cpk 5 σ o i) 11 i = .inl (cA E 0, 6, .inl (va_cpy (fun j => σ o (5 + 5 * j)) (fun j => σ i (5 + 5 * j)) 0 0 6)) := by
  simp only [cel]
  congr 3
  congr 1
  funext j
  unfold cpk va_cpy
  rw [up_at]
  by_cases hj : j < 6
  · rw [if_pos (by omega), if_pos (by omega)]
    congr 1
    omega
  · rw [if_neg (by omega), if_neg (by omega)]
theorem cpk_11_ot (hi : i < 3) (ho : o < 3) : ∀ y, y ∈ PL → y ≠ (11, i) → cel E (cpk 5 σ o i) y.1 y.2 = cel E σ y.1 y.2 := by
  rintro ⟨k', i'⟩ hy hne
  obtain ⟨b1, b2, b3, b4, b5, b6⟩ := PL_bd _ hy
  dsimp only at b1 b2 b3 b4 b5 b6 ⊢
  have hne' : ¬ (k' = 11 ∧ i' = i) := fun h => hne (by rw [h.1, h.2])
  clear hne hy
  have key : ∀ x z, (x ≠ i ∨ ¬ (z % 5 = 5 % 5 ∧ 3 ≤ z ∧ z < 33)) → cpk 5 σ o i x z = σ x z := fun x z h => by
    unfold cpk
    by_cases hx : x = i
    · rw [hx, up_at, if_neg (by omega)]
    · rw [up_ne hx]
  match k', b1, b2, b3, b4, b5, b6, hne' with
  | 0, _, b2, b3, b4, b5, b6, hne => first | rfl | (simp only [cel]; simp (disch := omega) only [key]) | (exfalso; omega)
  | 1, _, b2, b3, b4, b5, b6, hne => first | rfl | (simp only [cel]; simp (disch := omega) only [key]) | (exfalso; omega)
  | 2, _, b2, b3, b4, b5, b6, hne => first | rfl | (simp only [cel]; simp (disch := omega) only [key]) | (exfalso; omega)
  | 3, _, b2, b3, b4, b5, b6, hne => first | rfl | (simp only [cel]; simp (disch := omega) only [key]) | (exfalso; omega)
  | 4, _, b2, b3, b4, b5, b6, hne => first | rfl | (simp only [cel]; simp (disch := omega) only [key]) | (exfalso; omega)
  | 5, _, b2, b3, b4, b5, b6, hne => first | rfl | (simp only [cel]; simp (disch := omega) only [key]) | (exfalso; omega)
  | 6, _, b2, b3, b4, b5, b6, hne => first | rfl | (simp only [cel]; simp (disch := omega) only [key]) | (exfalso; omega)
  | 7, _, b2, b3, b4, b5, b6, hne => first | rfl | (simp only [cel]; simp (disch := omega) only [key]) | (exfalso; omega)
  | 8, _, b2, b3, b4, b5, b6, hne => first | rfl | (simp only [cel]; simp (disch := omega) only [key]) | (exfalso; omega)
  | 9, _, b2, b3, b4, b5, b6, hne => first | rfl | (simp only [cel]; simp (disch := omega) only [key]) | (exfalso; omega)
  | 10, _, b2, b3, b4, b5, b6, hne => first | rfl | (simp only [cel]; simp (disch := omega) only [key]) | (exfalso; omega)
  | 11, _, b2, b3, b4, b5, b6, hne => first | rfl | (simp only [cel]; simp (disch := omega) only [key]) | (exfalso; omega)
  | 12, _, b2, b3, b4, b5, b6, hne => first | rfl | (simp only [cel]; simp (disch := omega) only [key]) | (exfalso; omega)
  | 13, _, b2, b3, b4, b5, b6, hne => first | rfl | (simp only [cel]; simp (disch := omega) only [key]) | (exfalso; omega)
  | 14, _, b2, b3, b4, b5, b6, hne => first | rfl | (simp only [cel]; simp (disch := omega) only [key]) | (exfalso; omega)
  | 15, _, b2, b3, b4, b5, b6, hne => first | rfl | (simp only [cel]; simp (disch := omega) only [key]) | (exfalso; omega)
  | 16, _, b2, b3, b4, b5, b6, hne => first | rfl | (simp only [cel]; simp (disch := omega) only [key]) | (exfalso; omega)
  | 17, _, b2, b3, b4, b5, b6, hne => first | rfl | (simp only [cel]; simp (disch := omega) only [key]) | (exfalso; omega)
  | 18, _, b2, b3, b4, b5, b6, hne => first | rfl | (simp only [cel]; simp (disch := omega) only [key]) | (exfalso; omega)
  | 19, _, b2, b3, b4, b5, b6, hne => first | rfl | (simp only [cel]; simp (disch := omega) only [key]) | (exfalso; omega)
  | 20, _, b2, b3, b4, b5, b6, hne => first | rfl | (simp only [cel]; simp (disch := omega) only [key]) | (exfalso; omega)
  | 21, _, b2, b3, b4, b5, b6, hne => first | rfl | (simp only [cel]; simp (disch := omega) only [key]) | (exfalso; omega)
  | 22, _, b2, b3, b4, b5, b6, hne => first | rfl | (simp only [cel]; simp (disch := omega) only [key]) | (exfalso; omega)
  | 23, _, b2, b3, b4, b5, b6, hne => first | rfl | (simp only [cel]; simp (disch := omega) only [key]) | (exfalso; omega)
  | k + 24, b1, _, _, _, _, _, _ => omega
theorem acp_11 (hi : i < 3) (ho : o < 3) (hM : M.1.cls = RX1) (hr : (decide (1 ≤ Z.1.frames) && decide ((S.map fun v => v.category).sum + (nativeFrameWords "java/lang/System" "arraycopy" 5 + 11) ≤ Z.1.locals)) = true) (d : decode M.2.1 pc = .ok (.invokestatic 59, 3)) (K : GW E Z M (pc + 3) L S (cpk 5 σ o i)) : GW E Z M pc L (.int 6 :: .int 0 :: .ref (ad E 11 i) :: .int 0 :: .ref (ad E 11 o) :: S) σ := r_acopy (pl_c 11 (by decide) (by decide) o ho) (pl_c 11 (by decide) (by decide) i hi) rfl rfl (by decide) (by decide) (by decide) (by decide) (by decide) (by rw [hM]; exact lkX1_59) wa_nat wa_st wa_in hr (cpk_11_at hi ho) (cpk_11_ot hi ho) d K
theorem cpk_12_at (hi : i < 3) (ho : o < 3) : cel E (cpk 6 σ o i) 12 i = .inl (cA E 0, 6, .inl (va_cpy (fun j => σ o (6 + 5 * j)) (fun j => σ i (6 + 5 * j)) 0 0 6)) := by
  simp only [cel]
  congr 3
  congr 1
  funext j
  unfold cpk va_cpy
  rw [up_at]
  by_cases hj : j < 6
  · rw [if_pos (by omega), if_pos (by omega)]
    congr 1
    omega
  · rw [if_neg (by omega), if_neg (by omega)]
theorem cpk_12_ot (hi : i < 3) (ho : o < 3) : ∀ y, y ∈ PL → y ≠ (12, i) → cel E (cpk 6 σ o i) y.1 y.2 = cel E σ y.1 y.2 := by
  rintro ⟨k', i'⟩ hy hne
  obtain ⟨b1, b2, b3, b4, b5, b6⟩ := PL_bd _ hy
  dsimp only at b1 b2 b3 b4 b5 b6 ⊢
  have hne' : ¬ (k' = 12 ∧ i' = i) := fun h => hne (by rw [h.1, h.2])
  clear hne hy
  have key : ∀ x z, (x ≠ i ∨ ¬ (z % 5 = 6 % 5 ∧ 3 ≤ z ∧ z < 33)) → cpk 6 σ o i x z = σ x z := fun x z h => by
    unfold cpk
    by_cases hx : x = i
    · rw [hx, up_at, if_neg (by omega)]
    · rw [up_ne hx]
  match k', b1, b2, b3, b4, b5, b6, hne' with
  | 0, _, b2, b3, b4, b5, b6, hne => first | rfl | (simp only [cel]; simp (disch := omega) only [key]) | (exfalso; omega)
  | 1, _, b2, b3, b4, b5, b6, hne => first | rfl | (simp only [cel]; simp (disch := omega) only [key]) | (exfalso; omega)
  | 2, _, b2, b3, b4, b5, b6, hne => first | rfl | (simp only [cel]; simp (disch := omega) only [key]) | (exfalso; omega)
  | 3, _, b2, b3, b4, b5, b6, hne => first | rfl | (simp only [cel]; simp (disch := omega) only [key]) | (exfalso; omega)
  | 4, _, b2, b3, b4, b5, b6, hne => first | rfl | (simp only [cel]; simp (disch := omega) only [key]) | (exfalso; omega)
  | 5, _, b2, b3, b4, b5, b6, hne => first | rfl | (simp only [cel]; simp (disch := omega) only [key]) | (exfalso; omega)
  | 6, _, b2, b3, b4, b5, b6, hne => first | rfl | (simp only [cel]; simp (disch := omega) only [key]) | (exfalso; omega)
  | 7, _, b2, b3, b4, b5, b6, hne => first | rfl | (simp only [cel]; simp (disch := omega) only [key]) | (exfalso; omega)
  | 8, _, b2, b3, b4, b5, b6, hne => first | rfl | (simp only [cel]; simp (disch := omega) only [key]) | (exfalso; omega)
  | 9, _, b2, b3, b4, b5, b6, hne => first | rfl | (simp only [cel]; simp (disch := omega) only [key]) | (exfalso; omega)
  | 10, _, b2, b3, b4, b5, b6, hne => first | rfl | (simp only [cel]; simp (disch := omega) only [key]) | (exfalso; omega)
  | 11, _, b2, b3, b4, b5, b6, hne => first | rfl | (simp only [cel]; simp (disch := omega) only [key]) | (exfalso; omega)
  | 12, _, b2, b3, b4, b5, b6, hne => first | rfl | (simp only [cel]; simp (disch := omega) only [key]) | (exfalso; omega)
  | 13, _, b2, b3, b4, b5, b6, hne => first | rfl | (simp only [cel]; simp (disch := omega) only [key]) | (exfalso; omega)
  | 14, _, b2, b3, b4, b5, b6, hne => first | rfl | (simp only [cel]; simp (disch := omega) only [key]) | (exfalso; omega)
  | 15, _, b2, b3, b4, b5, b6, hne => first | rfl | (simp only [cel]; simp (disch := omega) only [key]) | (exfalso; omega)
  | 16, _, b2, b3, b4, b5, b6, hne => first | rfl | (simp only [cel]; simp (disch := omega) only [key]) | (exfalso; omega)
  | 17, _, b2, b3, b4, b5, b6, hne => first | rfl | (simp only [cel]; simp (disch := omega) only [key]) | (exfalso; omega)
  | 18, _, b2, b3, b4, b5, b6, hne => first | rfl | (simp only [cel]; simp (disch := omega) only [key]) | (exfalso; omega)
  | 19, _, b2, b3, b4, b5, b6, hne => first | rfl | (simp only [cel]; simp (disch := omega) only [key]) | (exfalso; omega)
  | 20, _, b2, b3, b4, b5, b6, hne => first | rfl | (simp only [cel]; simp (disch := omega) only [key]) | (exfalso; omega)
  | 21, _, b2, b3, b4, b5, b6, hne => first | rfl | (simp only [cel]; simp (disch := omega) only [key]) | (exfalso; omega)
  | 22, _, b2, b3, b4, b5, b6, hne => first | rfl | (simp only [cel]; simp (disch := omega) only [key]) | (exfalso; omega)
  | 23, _, b2, b3, b4, b5, b6, hne => first | rfl | (simp only [cel]; simp (disch := omega) only [key]) | (exfalso; omega)
  | k + 24, b1, _, _, _, _, _, _ => omega
theorem acp_12 (hi : i < 3) (ho : o < 3) (hM : M.1.cls = RX1) (hr : (decide (1 ≤ Z.1.frames) && decide ((S.map fun v => v.category).sum + (nativeFrameWords "java/lang/System" "arraycopy" 5 + 11) ≤ Z.1.locals)) = true) (d : decode M.2.1 pc = .ok (.invokestatic 59, 3)) (K : GW E Z M (pc + 3) L S (cpk 6 σ o i)) : GW E Z M pc L (.int 6 :: .int 0 :: .ref (ad E 12 i) :: .int 0 :: .ref (ad E 12 o) :: S) σ := r_acopy (pl_c 12 (by decide) (by decide) o ho) (pl_c 12 (by decide) (by decide) i hi) rfl rfl (by decide) (by decide) (by decide) (by decide) (by decide) (by rw [hM]; exact lkX1_59) wa_nat wa_st wa_in hr (cpk_12_at hi ho) (cpk_12_ot hi ho) d K
theorem cpk_13_at (hi : i < 3) (ho : o < 3) : cel E (cpk 7 σ o i) 13 i = .inl (cA E 0, 6, .inl (va_cpy (fun j => σ o (7 + 5 * j)) (fun j => σ i (7 + 5 * j)) 0 0 6)) := by
  simp only [cel]
  congr 3
  congr 1
  funext j
  unfold cpk va_cpy
  rw [up_at]
  by_cases hj : j < 6
  · rw [if_pos (by omega), if_pos (by omega)]
    congr 1
    omega
  · rw [if_neg (by omega), if_neg (by omega)]
theorem cpk_13_ot (hi : i < 3) (ho : o < 3) : ∀ y, y ∈ PL → y ≠ (13, i) → cel E (cpk 7 σ o i) y.1 y.2 = cel E σ y.1 y.2 := by
  rintro ⟨k', i'⟩ hy hne
  obtain ⟨b1, b2, b3, b4, b5, b6⟩ := PL_bd _ hy
  dsimp only at b1 b2 b3 b4 b5 b6 ⊢
  have hne' : ¬ (k' = 13 ∧ i' = i) := fun h => hne (by rw [h.1, h.2])
  clear hne hy
  have key : ∀ x z, (x ≠ i ∨ ¬ (z % 5 = 7 % 5 ∧ 3 ≤ z ∧ z < 33)) → cpk 7 σ o i x z = σ x z := fun x z h => by
    unfold cpk
    by_cases hx : x = i
    · rw [hx, up_at, if_neg (by omega)]
    · rw [up_ne hx]
  match k', b1, b2, b3, b4, b5, b6, hne' with
  | 0, _, b2, b3, b4, b5, b6, hne => first | rfl | (simp only [cel]; simp (disch := omega) only [key]) | (exfalso; omega)
  | 1, _, b2, b3, b4, b5, b6, hne => first | rfl | (simp only [cel]; simp (disch := omega) only [key]) | (exfalso; omega)
  | 2, _, b2, b3, b4, b5, b6, hne => first | rfl | (simp only [cel]; simp (disch := omega) only [key]) | (exfalso; omega)
  | 3, _, b2, b3, b4, b5, b6, hne => first | rfl | (simp only [cel]; simp (disch := omega) only [key]) | (exfalso; omega)
  | 4, _, b2, b3, b4, b5, b6, hne => first | rfl | (simp only [cel]; simp (disch := omega) only [key]) | (exfalso; omega)
  | 5, _, b2, b3, b4, b5, b6, hne => first | rfl | (simp only [cel]; simp (disch := omega) only [key]) | (exfalso; omega)
  | 6, _, b2, b3, b4, b5, b6, hne => first | rfl | (simp only [cel]; simp (disch := omega) only [key]) | (exfalso; omega)
  | 7, _, b2, b3, b4, b5, b6, hne => first | rfl | (simp only [cel]; simp (disch := omega) only [key]) | (exfalso; omega)
  | 8, _, b2, b3, b4, b5, b6, hne => first | rfl | (simp only [cel]; simp (disch := omega) only [key]) | (exfalso; omega)
  | 9, _, b2, b3, b4, b5, b6, hne => first | rfl | (simp only [cel]; simp (disch := omega) only [key]) | (exfalso; omega)
  | 10, _, b2, b3, b4, b5, b6, hne => first | rfl | (simp only [cel]; simp (disch := omega) only [key]) | (exfalso; omega)
  | 11, _, b2, b3, b4, b5, b6, hne => first | rfl | (simp only [cel]; simp (disch := omega) only [key]) | (exfalso; omega)
  | 12, _, b2, b3, b4, b5, b6, hne => first | rfl | (simp only [cel]; simp (disch := omega) only [key]) | (exfalso; omega)
  | 13, _, b2, b3, b4, b5, b6, hne => first | rfl | (simp only [cel]; simp (disch := omega) only [key]) | (exfalso; omega)
  | 14, _, b2, b3, b4, b5, b6, hne => first | rfl | (simp only [cel]; simp (disch := omega) only [key]) | (exfalso; omega)
  | 15, _, b2, b3, b4, b5, b6, hne => first | rfl | (simp only [cel]; simp (disch := omega) only [key]) | (exfalso; omega)
  | 16, _, b2, b3, b4, b5, b6, hne => first | rfl | (simp only [cel]; simp (disch := omega) only [key]) | (exfalso; omega)
  | 17, _, b2, b3, b4, b5, b6, hne => first | rfl | (simp only [cel]; simp (disch := omega) only [key]) | (exfalso; omega)
  | 18, _, b2, b3, b4, b5, b6, hne => first | rfl | (simp only [cel]; simp (disch := omega) only [key]) | (exfalso; omega)
  | 19, _, b2, b3, b4, b5, b6, hne => first | rfl | (simp only [cel]; simp (disch := omega) only [key]) | (exfalso; omega)
  | 20, _, b2, b3, b4, b5, b6, hne => first | rfl | (simp only [cel]; simp (disch := omega) only [key]) | (exfalso; omega)
  | 21, _, b2, b3, b4, b5, b6, hne => first | rfl | (simp only [cel]; simp (disch := omega) only [key]) | (exfalso; omega)
  | 22, _, b2, b3, b4, b5, b6, hne => first | rfl | (simp only [cel]; simp (disch := omega) only [key]) | (exfalso; omega)
  | 23, _, b2, b3, b4, b5, b6, hne => first | rfl | (simp only [cel]; simp (disch := omega) only [key]) | (exfalso; omega)
  | k + 24, b1, _, _, _, _, _, _ => omega
theorem acp_13 (hi : i < 3) (ho : o < 3) (hM : M.1.cls = RX1) (hr : (decide (1 ≤ Z.1.frames) && decide ((S.map fun v => v.category).sum + (nativeFrameWords "java/lang/System" "arraycopy" 5 + 11) ≤ Z.1.locals)) = true) (d : decode M.2.1 pc = .ok (.invokestatic 59, 3)) (K : GW E Z M (pc + 3) L S (cpk 7 σ o i)) : GW E Z M pc L (.int 6 :: .int 0 :: .ref (ad E 13 i) :: .int 0 :: .ref (ad E 13 o) :: S) σ := r_acopy (pl_c 13 (by decide) (by decide) o ho) (pl_c 13 (by decide) (by decide) i hi) rfl rfl (by decide) (by decide) (by decide) (by decide) (by decide) (by rw [hM]; exact lkX1_59) wa_nat wa_st wa_in hr (cpk_13_at hi ho) (cpk_13_ot hi ho) d K
end ACOPY
