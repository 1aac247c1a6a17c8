section CTORS
variable {E : EnvT}
theorem fX0i : SMi mX0_init := ⟨wc_X0_init, wi_X0, by decide +kernel, by decide +kernel, tbw 51 (by decide +kernel) rfl, rfl, rfl⟩
theorem fX1i : SMi mX1_init := ⟨wc_X1_init, wi_X1, by decide +kernel, by decide +kernel, tbw 30 (by decide +kernel) rfl, rfl, rfl⟩
theorem fX2i : SMi mX2_init := ⟨wc_X2_init, wi_X2, by decide +kernel, by decide +kernel, tbw 72 (by decide +kernel) rfl, rfl, rfl⟩
theorem fX3i : SMi mX3_init := ⟨wc_X3_init, wi_X3, by decide +kernel, by decide +kernel, tbw 44 (by decide +kernel) rfl, rfl, rfl⟩
theorem fX4i : SMi mX4_init := ⟨wc_X4_init, wi_X4, by decide +kernel, by decide +kernel, tbw 65 (by decide +kernel) rfl, rfl, rfl⟩
theorem fX5i : SMi mX5_init := ⟨wc_X5_init, wi_X5, by decide +kernel, by decide +kernel, tbw 123 (by decide +kernel) rfl, rfl, rfl⟩
theorem fX6i : SMi mX6_init := ⟨wc_X6_init, wi_X6, by decide +kernel, by decide +kernel, tbw 58 (by decide +kernel) rfl, rfl, rfl⟩
theorem fX7i : SMi mX7_init := ⟨wc_X7_init, wi_X7, by decide +kernel, by decide +kernel, tbw 37 (by decide +kernel) rfl, rfl, rfl⟩
theorem fX8i : SMi mX8_init := ⟨wc_X8_init, wi_X8, by decide +kernel, by decide +kernel, tbw 22 (by decide +kernel) rfl, rfl, rfl⟩
theorem fX9i : SMi mX9_init := ⟨wc_X9_init, wi_X9, by decide +kernel, by decide +kernel, tbw 735 (by decide +kernel) rfl, rfl, rfl⟩
theorem il_X7 : Idl E mX7_init := Idl_of (by decide +kernel) rfl rfl (fun h0 sz => by
  refine n_aload_n dX7_init_0 rfl ?_
  refine n_obj lkX7_3 (Nat.le_of_ble_eq_true rfl) (Nat.le_of_ble_eq_true rfl) (Nat.le_of_ble_eq_true rfl) dX7_init_1 ?_
  exact n_reti rfl dX7_init_4)
theorem il_X0 : Idl E mX0_init := Idl_of (by decide +kernel) rfl rfl (fun h0 sz => by
  refine n_aload_n dX0_init_0 rfl ?_
  refine n_idle il_X7 fX7i lkX0_3 rfl (Nat.zero_le _) (Nat.zero_le _) dX0_init_1 ?_
  exact n_reti rfl dX0_init_4)
theorem il_X3 : Idl E mX3_init := Idl_of (by decide +kernel) rfl rfl (fun h0 sz => by
  refine n_aload_n dX3_init_0 rfl ?_
  refine n_idle il_X7 fX7i lkX3_3 rfl (Nat.zero_le _) (Nat.zero_le _) dX3_init_1 ?_
  exact n_reti rfl dX3_init_4)
theorem il_X6 : Idl E mX6_init := Idl_of (by decide +kernel) rfl rfl (fun h0 sz => by
  refine n_aload_n dX6_init_0 rfl ?_
  refine n_idle il_X3 fX3i lkX6_1 rfl (Nat.zero_le _) (Nat.zero_le _) dX6_init_1 ?_
  exact n_reti rfl dX6_init_4)
theorem il_X4 : Idl E mX4_init := Idl_of (by decide +kernel) rfl rfl (fun h0 sz => by
  refine n_aload_n dX4_init_0 rfl ?_
  refine n_idle il_X0 fX0i lkX4_1 rfl (Nat.zero_le _) (Nat.zero_le _) dX4_init_1 ?_
  exact n_reti rfl dX4_init_4)
theorem il_X2 : Idl E mX2_init := Idl_of (by decide +kernel) rfl rfl (fun h0 sz => by
  refine n_aload_n dX2_init_0 rfl ?_
  refine n_idle il_X6 fX6i lkX2_3 rfl (Nat.zero_le _) (Nat.zero_le _) dX2_init_1 ?_
  exact n_reti rfl dX2_init_4)
abbrev blX1 : List Value := [.null, .null, .null, .null, .null, .null, .int 0, .int 0, .int 0]
theorem blX1_ok : ∀ j, j < 9 → defaultValue (tyX1 j) = vp_V blX1 j := by
  intro j hj
  match j, hj with
  | 0, _ => rfl
  | 1, _ => rfl
  | 2, _ => rfl
  | 3, _ => rfl
  | 4, _ => rfl
  | 5, _ => rfl
  | 6, _ => rfl
  | 7, _ => rfl
  | 8, _ => rfl
  | k + 9, h => omega
abbrev blX5 : List Value := [.null, .int 0]
theorem blX5_ok : ∀ j, j < 2 → defaultValue (tyX5 j) = vp_V blX5 j := by
  intro j hj
  match j, hj with
  | 0, _ => rfl
  | 1, _ => rfl
  | k + 2, h => omega
abbrev blX8 : List Value := [.null, .null, .null, .int 0, .null, .null, .int 0, .null]
theorem blX8_ok : ∀ j, j < 8 → defaultValue (tyX8 j) = vp_V blX8 j := by
  intro j hj
  match j, hj with
  | 0, _ => rfl
  | 1, _ => rfl
  | 2, _ => rfl
  | 3, _ => rfl
  | 4, _ => rfl
  | 5, _ => rfl
  | 6, _ => rfl
  | 7, _ => rfl
  | k + 8, h => omega
abbrev blX9 : List Value := [.null, .null, .null, .null, .int 0, .null, .null, .null, .int 0, .int 0, .int 0, .null, .int 0]
theorem blX9_ok : ∀ j, j < 13 → defaultValue (tyX9 j) = vp_V blX9 j := by
  intro j hj
  match j, hj with
  | 0, _ => rfl
  | 1, _ => rfl
  | 2, _ => rfl
  | 3, _ => rfl
  | 4, _ => rfl
  | 5, _ => rfl
  | 6, _ => rfl
  | 7, _ => rfl
  | 8, _ => rfl
  | 9, _ => rfl
  | 10, _ => rfl
  | 11, _ => rfl
  | 12, _ => rfl
  | k + 13, h => omega
theorem blX0_ok : ∀ j, j < 0 → defaultValue (tyX0 j) = vp_V [] j := fun j hj => absurd hj (Nat.not_lt_zero j)
theorem wl_X0 : ∀ w ∈ u_ws RX0 TX0 0, w ∈ TB := fun w hw => absurd hw List.not_mem_nil
theorem blX2_ok : ∀ j, j < 0 → defaultValue (tyX2 j) = vp_V [] j := fun j hj => absurd hj (Nat.not_lt_zero j)
theorem wl_X2 : ∀ w ∈ u_ws RX2 TX2 0, w ∈ TB := fun w hw => absurd hw List.not_mem_nil
theorem blX3_ok : ∀ j, j < 0 → defaultValue (tyX3 j) = vp_V [] j := fun j hj => absurd hj (Nat.not_lt_zero j)
theorem wl_X3 : ∀ w ∈ u_ws RX3 TX3 0, w ∈ TB := fun w hw => absurd hw List.not_mem_nil
theorem blX4_ok : ∀ j, j < 0 → defaultValue (tyX4 j) = vp_V [] j := fun j hj => absurd hj (Nat.not_lt_zero j)
theorem wl_X4 : ∀ w ∈ u_ws RX4 TX4 0, w ∈ TB := fun w hw => absurd hw List.not_mem_nil
theorem blX6_ok : ∀ j, j < 0 → defaultValue (tyX6 j) = vp_V [] j := fun j hj => absurd hj (Nat.not_lt_zero j)
theorem wl_X6 : ∀ w ∈ u_ws RX6 TX6 0, w ∈ TB := fun w hw => absurd hw List.not_mem_nil
theorem blX7_ok : ∀ j, j < 0 → defaultValue (tyX7 j) = vp_V [] j := fun j hj => absurd hj (Nat.not_lt_zero j)
theorem wl_X7 : ∀ w ∈ u_ws RX7 TX7 0, w ∈ TB := fun w hw => absurd hw List.not_mem_nil
theorem wn_X8 : Cond.instantiable RX8 8 ∈ TB := tbw 20 (by decide +kernel) rfl
theorem wn_X1 : Cond.instantiable RX1 9 ∈ TB := tbw 28 (by decide +kernel) rfl
theorem wn_X7 : Cond.instantiable RX7 0 ∈ TB := tbw 35 (by decide +kernel) rfl
theorem wn_X3 : Cond.instantiable RX3 0 ∈ TB := tbw 42 (by decide +kernel) rfl
theorem wn_X0 : Cond.instantiable RX0 0 ∈ TB := tbw 49 (by decide +kernel) rfl
theorem wn_X6 : Cond.instantiable RX6 0 ∈ TB := tbw 56 (by decide +kernel) rfl
theorem wn_X4 : Cond.instantiable RX4 0 ∈ TB := tbw 63 (by decide +kernel) rfl
theorem wn_X2 : Cond.instantiable RX2 0 ∈ TB := tbw 70 (by decide +kernel) rfl
theorem wn_X5 : Cond.instantiable RX5 2 ∈ TB := tbw 121 (by decide +kernel) rfl
theorem wn_X9 : Cond.instantiable RX9 13 ∈ TB := tbw 733 (by decide +kernel) rfl
theorem wkL_7 : Cond.classLink RL 7 RX8 ∈ TB := tbw 19 (by decide +kernel) rfl
theorem wkX8_7 : Cond.classLink RX8 7 RX1 ∈ TB := tbw 27 (by decide +kernel) rfl
theorem wkX1_9 : Cond.classLink RX1 9 RX7 ∈ TB := tbw 33 (by decide +kernel) rfl
theorem wkX1_12 : Cond.classLink RX1 12 RX3 ∈ TB := tbw 41 (by decide +kernel) rfl
theorem wkX1_15 : Cond.classLink RX1 15 RX0 ∈ TB := tbw 48 (by decide +kernel) rfl
theorem wkX1_18 : Cond.classLink RX1 18 RX6 ∈ TB := tbw 55 (by decide +kernel) rfl
theorem wkX1_21 : Cond.classLink RX1 21 RX4 ∈ TB := tbw 62 (by decide +kernel) rfl
theorem wkX1_24 : Cond.classLink RX1 24 RX2 ∈ TB := tbw 69 (by decide +kernel) rfl
theorem wkX8_26 : Cond.classLink RX8 26 RX5 ∈ TB := tbw 120 (by decide +kernel) rfl
theorem wkL_10 : Cond.classLink RL 10 RX9 ∈ TB := tbw 732 (by decide +kernel) rfl
def crewL (E : EnvT) (g : Nat → Nat) : va_W := [(g 1, .inr (1, [.ref (g 2), .ref (g 9), .ref (g 10), .ref (g 11), .ref (g 12), .ref (g 13), .int 0, .int 0, .int 0])), (g 2, .inl (cA E 2, 6, .inr (.inr (.inr (.inr (fun j => some (g (3 + j)))))))), (g 3, .inr (7, [])), (g 4, .inr (3, [])), (g 5, .inr (0, [])), (g 6, .inr (6, [])), (g 7, .inr (4, [])), (g 8, .inr (2, [])), (g 9, .inl (cA E 0, 6, .inl (fun _ => 0))), (g 10, .inl (cA E 0, 6, .inl (fun _ => 0))), (g 11, .inl (cA E 0, 6, .inl (fun _ => 0))), (g 12, .inl (cA E 0, 6, .inl (fun _ => 0))), (g 13, .inl (cA E 0, 6, .inl (fun _ => 0)))]
def tellL (E : EnvT) (g : Nat → Nat) : va_W := [(g 14, .inr (5, [.ref (g 15), .int 0])), (g 15, .inl (cA E 1, 96, .inl (fun _ => 0)))]
def pidL (E : EnvT) (g : (Nat → Nat) × (Nat → Nat) × (Nat → Nat) × (Nat → Nat)) : va_W := [(g.2.2.2 0, .inr (8, [.ref (g.1 1), .ref (g.2.1 1), .ref (g.2.2.1 1), .int 0, .ref (g.2.2.2 14), .ref (g.2.2.2 16), .int 0, .ref (g.2.2.2 17)]))] ++ crewL E g.1 ++ crewL E g.2.1 ++ crewL E g.2.2.1 ++ tellL E g.2.2.2 ++ [(g.2.2.2 16, .inl (cA E 0, 16, .inl (fun _ => 0))), (g.2.2.2 17, .inl (cA E 0, 7, .inl (fun _ => 0)))]
def modL (E : EnvT) (g : Nat → Nat) : va_W := [(g 44, .inr (9, [.ref (g 45), .ref (g 46), .ref (g 47), .ref (g 48), .int 0, .ref (g 49), .ref (g 50), .ref (g 51), .int 0, .int 0, .int 0, .ref (g 52), .int 0])), (g 45, .inl (cA E 0, 33, .inl (fun _ => 0))), (g 46, .inl (cA E 0, 33, .inl (fun _ => 0))), (g 47, .inl (cA E 0, 33, .inl (fun _ => 0))), (g 48, .inl (cA E 0, 33, .inl (fun _ => 0))), (g 49, .inl (cA E 0, 96, .inl (fun _ => 0))), (g 50, .inl (cA E 0, 16, .inl (fun _ => 0))), (g 51, .inl (cA E 0, 7, .inl (fun _ => 0))), (g 52, .inl (cA E 0, 3, .inl (fun _ => 0)))]
set_option maxRecDepth 20000 in
theorem mk_X1 : Mkr E mX1_init 12 36 (.inr (1, blX1)) (fun h0 (g : Nat → Nat) => g 1 = h0) (crewL E) := Mkr_of (by decide +kernel) rfl rfl (fun h0 sz => by
  refine n_aload_n dX1_init_0 rfl ?_
  refine n_obj lkX1_3 (Nat.le_of_ble_eq_true rfl) (Nat.le_of_ble_eq_true rfl) (Nat.le_of_ble_eq_true rfl) dX1_init_1 ?_
  refine n_aload_n dX1_init_4 rfl ?_
  refine n_bipush (nI 6) dX1_init_5 rfl ?_
  refine n_newq (Nat.le_of_ble_eq_true rfl) wkX1_9 (Nat.le_of_ble_eq_true rfl) (Nat.le_of_ble_eq_true rfl) dX1_init_7 (fun q1 => ?_)
  show NG E _ mX1_init 10 [some (.ref h0)] [.ref q1, .ref h0] 1 6 ([(h0, .inr (1, [.null, .null, .null, .null, .null, .null, .int 0, .int 0, .int 0])), (q1, .inl (cA E 2, 6, .inr (.inr (.inr (.inr (fun _ => none))))))])
  refine n_dup dX1_init_10 rfl ?_
  refine n_iconst (nI 0) dX1_init_11 rfl ?_
  refine n_new (C0 := RX7) (T0 := TX7) (N := 0) (ci := 7) (fs := []) tyX7 tyX7_ok wl_X7 wkX1_9 wn_X7 wi_X7 rfl blX7_ok (Nat.le_of_ble_eq_true rfl) (Nat.le_of_ble_eq_true rfl) dX1_init_12 (fun q2 => ?_)
  show NG E _ mX1_init 15 [some (.ref h0)] [.ref q2, .int (nI 0), .ref q1, .ref q1, .ref h0] 2 6 ([(h0, .inr (1, [.null, .null, .null, .null, .null, .null, .int 0, .int 0, .int 0])), (q1, .inl (cA E 2, 6, .inr (.inr (.inr (.inr (fun _ => none)))))), (q2, .inr (7, []))])
  refine n_dup dX1_init_15 rfl ?_
  refine n_idle il_X7 fX7i lkX1_11 rfl (Nat.le_of_ble_eq_true rfl) (Nat.le_of_ble_eq_true rfl) dX1_init_16 ?_
  refine n_ast (q0 := 1) (qk := 2) rfl rfl rfl (Or.inl rfl) (Nat.le_of_ble_eq_true rfl) dX1_init_19 ?_
  show NG E _ mX1_init 20 [some (.ref h0)] [.ref q1, .ref h0] 2 6 ([(h0, .inr (1, [.null, .null, .null, .null, .null, .null, .int 0, .int 0, .int 0])), (q1, .inl (cA E 2, 6, .inr (.inr (.inr (.inr (va_up (fun _ => none) 0 (some q2))))))), (q2, .inr (7, []))])
  refine n_dup dX1_init_20 rfl ?_
  refine n_iconst (nI 1) dX1_init_21 rfl ?_
  refine n_new (C0 := RX3) (T0 := TX3) (N := 0) (ci := 3) (fs := []) tyX3 tyX3_ok wl_X3 wkX1_12 wn_X3 wi_X3 rfl blX3_ok (Nat.le_of_ble_eq_true rfl) (Nat.le_of_ble_eq_true rfl) dX1_init_22 (fun q3 => ?_)
  show NG E _ mX1_init 25 [some (.ref h0)] [.ref q3, .int (nI 1), .ref q1, .ref q1, .ref h0] 3 6 ([(h0, .inr (1, [.null, .null, .null, .null, .null, .null, .int 0, .int 0, .int 0])), (q1, .inl (cA E 2, 6, .inr (.inr (.inr (.inr (va_up (fun _ => none) 0 (some q2))))))), (q2, .inr (7, [])), (q3, .inr (3, []))])
  refine n_dup dX1_init_25 rfl ?_
  refine n_idle il_X3 fX3i lkX1_14 rfl (Nat.le_of_ble_eq_true rfl) (Nat.le_of_ble_eq_true rfl) dX1_init_26 ?_
  refine n_ast (q0 := 1) (qk := 3) rfl rfl rfl (Or.inr (List.mem_of_getElem? (i := 0) rfl)) (Nat.le_of_ble_eq_true rfl) dX1_init_29 ?_
  show NG E _ mX1_init 30 [some (.ref h0)] [.ref q1, .ref h0] 3 6 ([(h0, .inr (1, [.null, .null, .null, .null, .null, .null, .int 0, .int 0, .int 0])), (q1, .inl (cA E 2, 6, .inr (.inr (.inr (.inr (va_up (va_up (fun _ => none) 0 (some q2)) 1 (some q3))))))), (q2, .inr (7, [])), (q3, .inr (3, []))])
  refine n_dup dX1_init_30 rfl ?_
  refine n_iconst (nI 2) dX1_init_31 rfl ?_
  refine n_new (C0 := RX0) (T0 := TX0) (N := 0) (ci := 0) (fs := []) tyX0 tyX0_ok wl_X0 wkX1_15 wn_X0 wi_X0 rfl blX0_ok (Nat.le_of_ble_eq_true rfl) (Nat.le_of_ble_eq_true rfl) dX1_init_32 (fun q4 => ?_)
  show NG E _ mX1_init 35 [some (.ref h0)] [.ref q4, .int (nI 2), .ref q1, .ref q1, .ref h0] 4 6 ([(h0, .inr (1, [.null, .null, .null, .null, .null, .null, .int 0, .int 0, .int 0])), (q1, .inl (cA E 2, 6, .inr (.inr (.inr (.inr (va_up (va_up (fun _ => none) 0 (some q2)) 1 (some q3))))))), (q2, .inr (7, [])), (q3, .inr (3, [])), (q4, .inr (0, []))])
  refine n_dup dX1_init_35 rfl ?_
  refine n_idle il_X0 fX0i lkX1_17 rfl (Nat.le_of_ble_eq_true rfl) (Nat.le_of_ble_eq_true rfl) dX1_init_36 ?_
  refine n_ast (q0 := 1) (qk := 4) rfl rfl rfl (Or.inr (List.mem_of_getElem? (i := 1) rfl)) (Nat.le_of_ble_eq_true rfl) dX1_init_39 ?_
  show NG E _ mX1_init 40 [some (.ref h0)] [.ref q1, .ref h0] 4 6 ([(h0, .inr (1, [.null, .null, .null, .null, .null, .null, .int 0, .int 0, .int 0])), (q1, .inl (cA E 2, 6, .inr (.inr (.inr (.inr (va_up (va_up (va_up (fun _ => none) 0 (some q2)) 1 (some q3)) 2 (some q4))))))), (q2, .inr (7, [])), (q3, .inr (3, [])), (q4, .inr (0, []))])
  refine n_dup dX1_init_40 rfl ?_
  refine n_iconst (nI 3) dX1_init_41 rfl ?_
  refine n_new (C0 := RX6) (T0 := TX6) (N := 0) (ci := 6) (fs := []) tyX6 tyX6_ok wl_X6 wkX1_18 wn_X6 wi_X6 rfl blX6_ok (Nat.le_of_ble_eq_true rfl) (Nat.le_of_ble_eq_true rfl) dX1_init_42 (fun q5 => ?_)
  show NG E _ mX1_init 45 [some (.ref h0)] [.ref q5, .int (nI 3), .ref q1, .ref q1, .ref h0] 5 6 ([(h0, .inr (1, [.null, .null, .null, .null, .null, .null, .int 0, .int 0, .int 0])), (q1, .inl (cA E 2, 6, .inr (.inr (.inr (.inr (va_up (va_up (va_up (fun _ => none) 0 (some q2)) 1 (some q3)) 2 (some q4))))))), (q2, .inr (7, [])), (q3, .inr (3, [])), (q4, .inr (0, [])), (q5, .inr (6, []))])
  refine n_dup dX1_init_45 rfl ?_
  refine n_idle il_X6 fX6i lkX1_20 rfl (Nat.le_of_ble_eq_true rfl) (Nat.le_of_ble_eq_true rfl) dX1_init_46 ?_
  refine n_ast (q0 := 1) (qk := 5) rfl rfl rfl (Or.inr (List.mem_of_getElem? (i := 2) rfl)) (Nat.le_of_ble_eq_true rfl) dX1_init_49 ?_
  show NG E _ mX1_init 50 [some (.ref h0)] [.ref q1, .ref h0] 5 6 ([(h0, .inr (1, [.null, .null, .null, .null, .null, .null, .int 0, .int 0, .int 0])), (q1, .inl (cA E 2, 6, .inr (.inr (.inr (.inr (va_up (va_up (va_up (va_up (fun _ => none) 0 (some q2)) 1 (some q3)) 2 (some q4)) 3 (some q5))))))), (q2, .inr (7, [])), (q3, .inr (3, [])), (q4, .inr (0, [])), (q5, .inr (6, []))])
  refine n_dup dX1_init_50 rfl ?_
  refine n_iconst (nI 4) dX1_init_51 rfl ?_
  refine n_new (C0 := RX4) (T0 := TX4) (N := 0) (ci := 4) (fs := []) tyX4 tyX4_ok wl_X4 wkX1_21 wn_X4 wi_X4 rfl blX4_ok (Nat.le_of_ble_eq_true rfl) (Nat.le_of_ble_eq_true rfl) dX1_init_52 (fun q6 => ?_)
  show NG E _ mX1_init 55 [some (.ref h0)] [.ref q6, .int (nI 4), .ref q1, .ref q1, .ref h0] 6 6 ([(h0, .inr (1, [.null, .null, .null, .null, .null, .null, .int 0, .int 0, .int 0])), (q1, .inl (cA E 2, 6, .inr (.inr (.inr (.inr (va_up (va_up (va_up (va_up (fun _ => none) 0 (some q2)) 1 (some q3)) 2 (some q4)) 3 (some q5))))))), (q2, .inr (7, [])), (q3, .inr (3, [])), (q4, .inr (0, [])), (q5, .inr (6, [])), (q6, .inr (4, []))])
  refine n_dup dX1_init_55 rfl ?_
  refine n_idle il_X4 fX4i lkX1_23 rfl (Nat.le_of_ble_eq_true rfl) (Nat.le_of_ble_eq_true rfl) dX1_init_56 ?_
  refine n_ast (q0 := 1) (qk := 6) rfl rfl rfl (Or.inr (List.mem_of_getElem? (i := 3) rfl)) (Nat.le_of_ble_eq_true rfl) dX1_init_59 ?_
  show NG E _ mX1_init 60 [some (.ref h0)] [.ref q1, .ref h0] 6 6 ([(h0, .inr (1, [.null, .null, .null, .null, .null, .null, .int 0, .int 0, .int 0])), (q1, .inl (cA E 2, 6, .inr (.inr (.inr (.inr (va_up (va_up (va_up (va_up (va_up (fun _ => none) 0 (some q2)) 1 (some q3)) 2 (some q4)) 3 (some q5)) 4 (some q6))))))), (q2, .inr (7, [])), (q3, .inr (3, [])), (q4, .inr (0, [])), (q5, .inr (6, [])), (q6, .inr (4, []))])
  refine n_dup dX1_init_60 rfl ?_
  refine n_iconst (nI 5) dX1_init_61 rfl ?_
  refine n_new (C0 := RX2) (T0 := TX2) (N := 0) (ci := 2) (fs := []) tyX2 tyX2_ok wl_X2 wkX1_24 wn_X2 wi_X2 rfl blX2_ok (Nat.le_of_ble_eq_true rfl) (Nat.le_of_ble_eq_true rfl) dX1_init_62 (fun q7 => ?_)
  show NG E _ mX1_init 65 [some (.ref h0)] [.ref q7, .int (nI 5), .ref q1, .ref q1, .ref h0] 7 6 ([(h0, .inr (1, [.null, .null, .null, .null, .null, .null, .int 0, .int 0, .int 0])), (q1, .inl (cA E 2, 6, .inr (.inr (.inr (.inr (va_up (va_up (va_up (va_up (va_up (fun _ => none) 0 (some q2)) 1 (some q3)) 2 (some q4)) 3 (some q5)) 4 (some q6))))))), (q2, .inr (7, [])), (q3, .inr (3, [])), (q4, .inr (0, [])), (q5, .inr (6, [])), (q6, .inr (4, [])), (q7, .inr (2, []))])
  refine n_dup dX1_init_65 rfl ?_
  refine n_idle il_X2 fX2i lkX1_26 rfl (Nat.le_of_ble_eq_true rfl) (Nat.le_of_ble_eq_true rfl) dX1_init_66 ?_
  refine n_ast (q0 := 1) (qk := 7) rfl rfl rfl (Or.inr (List.mem_of_getElem? (i := 4) rfl)) (Nat.le_of_ble_eq_true rfl) dX1_init_69 ?_
  show NG E _ mX1_init 70 [some (.ref h0)] [.ref q1, .ref h0] 7 6 ([(h0, .inr (1, [.null, .null, .null, .null, .null, .null, .int 0, .int 0, .int 0])), (q1, .inl (cA E 2, 6, .inr (.inr (.inr (.inr (va_up (va_up (va_up (va_up (va_up (va_up (fun _ => none) 0 (some q2)) 1 (some q3)) 2 (some q4)) 3 (some q5)) 4 (some q6)) 5 (some q7))))))), (q2, .inr (7, [])), (q3, .inr (3, [])), (q4, .inr (0, [])), (q5, .inr (6, [])), (q6, .inr (4, [])), (q7, .inr (2, []))])
  refine n_putF (q0 := 0) (C0 := RX1) (T0 := TX1) (N := 9) (ci := 1) rfl rfl 0 (by decide) wl_X1 tyX1 tyX1_ok nmX1 fwX1_27 rfl rfl rfl rfl rfl rfl (Nat.le_of_ble_eq_true rfl) dX1_init_70 ?_
  show NG E _ mX1_init 73 [some (.ref h0)] [] 7 6 ([(h0, .inr (1, [.ref q1, .null, .null, .null, .null, .null, .int 0, .int 0, .int 0])), (q1, .inl (cA E 2, 6, .inr (.inr (.inr (.inr (va_up (va_up (va_up (va_up (va_up (va_up (fun _ => none) 0 (some q2)) 1 (some q3)) 2 (some q4)) 3 (some q5)) 4 (some q6)) 5 (some q7))))))), (q2, .inr (7, [])), (q3, .inr (3, [])), (q4, .inr (0, [])), (q5, .inr (6, [])), (q6, .inr (4, [])), (q7, .inr (2, []))])
  refine n_aload_n dX1_init_73 rfl ?_
  refine n_bipush (nI 6) dX1_init_74 rfl ?_
  refine n_newi (Nat.le_of_ble_eq_true rfl) (Nat.le_of_ble_eq_true rfl) (Nat.le_of_ble_eq_true rfl) dX1_init_76 (fun q8 => ?_)
  show NG E _ mX1_init 78 [some (.ref h0)] [.ref q8, .ref h0] 8 12 ([(h0, .inr (1, [.ref q1, .null, .null, .null, .null, .null, .int 0, .int 0, .int 0])), (q1, .inl (cA E 2, 6, .inr (.inr (.inr (.inr (va_up (va_up (va_up (va_up (va_up (va_up (fun _ => none) 0 (some q2)) 1 (some q3)) 2 (some q4)) 3 (some q5)) 4 (some q6)) 5 (some q7))))))), (q2, .inr (7, [])), (q3, .inr (3, [])), (q4, .inr (0, [])), (q5, .inr (6, [])), (q6, .inr (4, [])), (q7, .inr (2, [])), (q8, .inl (cA E 0, 6, .inl (fun _ => 0)))])
  refine n_putF (q0 := 0) (C0 := RX1) (T0 := TX1) (N := 9) (ci := 1) rfl rfl 1 (by decide) wl_X1 tyX1 tyX1_ok nmX1 fwX1_33 rfl rfl rfl rfl rfl rfl (Nat.le_of_ble_eq_true rfl) dX1_init_78 ?_
  show NG E _ mX1_init 81 [some (.ref h0)] [] 8 12 ([(h0, .inr (1, [.ref q1, .ref q8, .null, .null, .null, .null, .int 0, .int 0, .int 0])), (q1, .inl (cA E 2, 6, .inr (.inr (.inr (.inr (va_up (va_up (va_up (va_up (va_up (va_up (fun _ => none) 0 (some q2)) 1 (some q3)) 2 (some q4)) 3 (some q5)) 4 (some q6)) 5 (some q7))))))), (q2, .inr (7, [])), (q3, .inr (3, [])), (q4, .inr (0, [])), (q5, .inr (6, [])), (q6, .inr (4, [])), (q7, .inr (2, [])), (q8, .inl (cA E 0, 6, .inl (fun _ => 0)))])
  refine n_aload_n dX1_init_81 rfl ?_
  refine n_bipush (nI 6) dX1_init_82 rfl ?_
  refine n_newi (Nat.le_of_ble_eq_true rfl) (Nat.le_of_ble_eq_true rfl) (Nat.le_of_ble_eq_true rfl) dX1_init_84 (fun q9 => ?_)
  show NG E _ mX1_init 86 [some (.ref h0)] [.ref q9, .ref h0] 9 18 ([(h0, .inr (1, [.ref q1, .ref q8, .null, .null, .null, .null, .int 0, .int 0, .int 0])), (q1, .inl (cA E 2, 6, .inr (.inr (.inr (.inr (va_up (va_up (va_up (va_up (va_up (va_up (fun _ => none) 0 (some q2)) 1 (some q3)) 2 (some q4)) 3 (some q5)) 4 (some q6)) 5 (some q7))))))), (q2, .inr (7, [])), (q3, .inr (3, [])), (q4, .inr (0, [])), (q5, .inr (6, [])), (q6, .inr (4, [])), (q7, .inr (2, [])), (q8, .inl (cA E 0, 6, .inl (fun _ => 0))), (q9, .inl (cA E 0, 6, .inl (fun _ => 0)))])
  refine n_putF (q0 := 0) (C0 := RX1) (T0 := TX1) (N := 9) (ci := 1) rfl rfl 2 (by decide) wl_X1 tyX1 tyX1_ok nmX1 fwX1_37 rfl rfl rfl rfl rfl rfl (Nat.le_of_ble_eq_true rfl) dX1_init_86 ?_
  show NG E _ mX1_init 89 [some (.ref h0)] [] 9 18 ([(h0, .inr (1, [.ref q1, .ref q8, .ref q9, .null, .null, .null, .int 0, .int 0, .int 0])), (q1, .inl (cA E 2, 6, .inr (.inr (.inr (.inr (va_up (va_up (va_up (va_up (va_up (va_up (fun _ => none) 0 (some q2)) 1 (some q3)) 2 (some q4)) 3 (some q5)) 4 (some q6)) 5 (some q7))))))), (q2, .inr (7, [])), (q3, .inr (3, [])), (q4, .inr (0, [])), (q5, .inr (6, [])), (q6, .inr (4, [])), (q7, .inr (2, [])), (q8, .inl (cA E 0, 6, .inl (fun _ => 0))), (q9, .inl (cA E 0, 6, .inl (fun _ => 0)))])
  refine n_aload_n dX1_init_89 rfl ?_
  refine n_bipush (nI 6) dX1_init_90 rfl ?_
  refine n_newi (Nat.le_of_ble_eq_true rfl) (Nat.le_of_ble_eq_true rfl) (Nat.le_of_ble_eq_true rfl) dX1_init_92 (fun q10 => ?_)
  show NG E _ mX1_init 94 [some (.ref h0)] [.ref q10, .ref h0] 10 24 ([(h0, .inr (1, [.ref q1, .ref q8, .ref q9, .null, .null, .null, .int 0, .int 0, .int 0])), (q1, .inl (cA E 2, 6, .inr (.inr (.inr (.inr (va_up (va_up (va_up (va_up (va_up (va_up (fun _ => none) 0 (some q2)) 1 (some q3)) 2 (some q4)) 3 (some q5)) 4 (some q6)) 5 (some q7))))))), (q2, .inr (7, [])), (q3, .inr (3, [])), (q4, .inr (0, [])), (q5, .inr (6, [])), (q6, .inr (4, [])), (q7, .inr (2, [])), (q8, .inl (cA E 0, 6, .inl (fun _ => 0))), (q9, .inl (cA E 0, 6, .inl (fun _ => 0))), (q10, .inl (cA E 0, 6, .inl (fun _ => 0)))])
  refine n_putF (q0 := 0) (C0 := RX1) (T0 := TX1) (N := 9) (ci := 1) rfl rfl 3 (by decide) wl_X1 tyX1 tyX1_ok nmX1 fwX1_40 rfl rfl rfl rfl rfl rfl (Nat.le_of_ble_eq_true rfl) dX1_init_94 ?_
  show NG E _ mX1_init 97 [some (.ref h0)] [] 10 24 ([(h0, .inr (1, [.ref q1, .ref q8, .ref q9, .ref q10, .null, .null, .int 0, .int 0, .int 0])), (q1, .inl (cA E 2, 6, .inr (.inr (.inr (.inr (va_up (va_up (va_up (va_up (va_up (va_up (fun _ => none) 0 (some q2)) 1 (some q3)) 2 (some q4)) 3 (some q5)) 4 (some q6)) 5 (some q7))))))), (q2, .inr (7, [])), (q3, .inr (3, [])), (q4, .inr (0, [])), (q5, .inr (6, [])), (q6, .inr (4, [])), (q7, .inr (2, [])), (q8, .inl (cA E 0, 6, .inl (fun _ => 0))), (q9, .inl (cA E 0, 6, .inl (fun _ => 0))), (q10, .inl (cA E 0, 6, .inl (fun _ => 0)))])
  refine n_aload_n dX1_init_97 rfl ?_
  refine n_bipush (nI 6) dX1_init_98 rfl ?_
  refine n_newi (Nat.le_of_ble_eq_true rfl) (Nat.le_of_ble_eq_true rfl) (Nat.le_of_ble_eq_true rfl) dX1_init_100 (fun q11 => ?_)
  show NG E _ mX1_init 102 [some (.ref h0)] [.ref q11, .ref h0] 11 30 ([(h0, .inr (1, [.ref q1, .ref q8, .ref q9, .ref q10, .null, .null, .int 0, .int 0, .int 0])), (q1, .inl (cA E 2, 6, .inr (.inr (.inr (.inr (va_up (va_up (va_up (va_up (va_up (va_up (fun _ => none) 0 (some q2)) 1 (some q3)) 2 (some q4)) 3 (some q5)) 4 (some q6)) 5 (some q7))))))), (q2, .inr (7, [])), (q3, .inr (3, [])), (q4, .inr (0, [])), (q5, .inr (6, [])), (q6, .inr (4, [])), (q7, .inr (2, [])), (q8, .inl (cA E 0, 6, .inl (fun _ => 0))), (q9, .inl (cA E 0, 6, .inl (fun _ => 0))), (q10, .inl (cA E 0, 6, .inl (fun _ => 0))), (q11, .inl (cA E 0, 6, .inl (fun _ => 0)))])
  refine n_putF (q0 := 0) (C0 := RX1) (T0 := TX1) (N := 9) (ci := 1) rfl rfl 4 (by decide) wl_X1 tyX1 tyX1_ok nmX1 fwX1_43 rfl rfl rfl rfl rfl rfl (Nat.le_of_ble_eq_true rfl) dX1_init_102 ?_
  show NG E _ mX1_init 105 [some (.ref h0)] [] 11 30 ([(h0, .inr (1, [.ref q1, .ref q8, .ref q9, .ref q10, .ref q11, .null, .int 0, .int 0, .int 0])), (q1, .inl (cA E 2, 6, .inr (.inr (.inr (.inr (va_up (va_up (va_up (va_up (va_up (va_up (fun _ => none) 0 (some q2)) 1 (some q3)) 2 (some q4)) 3 (some q5)) 4 (some q6)) 5 (some q7))))))), (q2, .inr (7, [])), (q3, .inr (3, [])), (q4, .inr (0, [])), (q5, .inr (6, [])), (q6, .inr (4, [])), (q7, .inr (2, [])), (q8, .inl (cA E 0, 6, .inl (fun _ => 0))), (q9, .inl (cA E 0, 6, .inl (fun _ => 0))), (q10, .inl (cA E 0, 6, .inl (fun _ => 0))), (q11, .inl (cA E 0, 6, .inl (fun _ => 0)))])
  refine n_aload_n dX1_init_105 rfl ?_
  refine n_bipush (nI 6) dX1_init_106 rfl ?_
  refine n_newi (Nat.le_of_ble_eq_true rfl) (Nat.le_of_ble_eq_true rfl) (Nat.le_of_ble_eq_true rfl) dX1_init_108 (fun q12 => ?_)
  show NG E _ mX1_init 110 [some (.ref h0)] [.ref q12, .ref h0] 12 36 ([(h0, .inr (1, [.ref q1, .ref q8, .ref q9, .ref q10, .ref q11, .null, .int 0, .int 0, .int 0])), (q1, .inl (cA E 2, 6, .inr (.inr (.inr (.inr (va_up (va_up (va_up (va_up (va_up (va_up (fun _ => none) 0 (some q2)) 1 (some q3)) 2 (some q4)) 3 (some q5)) 4 (some q6)) 5 (some q7))))))), (q2, .inr (7, [])), (q3, .inr (3, [])), (q4, .inr (0, [])), (q5, .inr (6, [])), (q6, .inr (4, [])), (q7, .inr (2, [])), (q8, .inl (cA E 0, 6, .inl (fun _ => 0))), (q9, .inl (cA E 0, 6, .inl (fun _ => 0))), (q10, .inl (cA E 0, 6, .inl (fun _ => 0))), (q11, .inl (cA E 0, 6, .inl (fun _ => 0))), (q12, .inl (cA E 0, 6, .inl (fun _ => 0)))])
  refine n_putF (q0 := 0) (C0 := RX1) (T0 := TX1) (N := 9) (ci := 1) rfl rfl 5 (by decide) wl_X1 tyX1 tyX1_ok nmX1 fwX1_46 rfl rfl rfl rfl rfl rfl (Nat.le_of_ble_eq_true rfl) dX1_init_110 ?_
  show NG E _ mX1_init 113 [some (.ref h0)] [] 12 36 ([(h0, .inr (1, [.ref q1, .ref q8, .ref q9, .ref q10, .ref q11, .ref q12, .int 0, .int 0, .int 0])), (q1, .inl (cA E 2, 6, .inr (.inr (.inr (.inr (va_up (va_up (va_up (va_up (va_up (va_up (fun _ => none) 0 (some q2)) 1 (some q3)) 2 (some q4)) 3 (some q5)) 4 (some q6)) 5 (some q7))))))), (q2, .inr (7, [])), (q3, .inr (3, [])), (q4, .inr (0, [])), (q5, .inr (6, [])), (q6, .inr (4, [])), (q7, .inr (2, [])), (q8, .inl (cA E 0, 6, .inl (fun _ => 0))), (q9, .inl (cA E 0, 6, .inl (fun _ => 0))), (q10, .inl (cA E 0, 6, .inl (fun _ => 0))), (q11, .inl (cA E 0, 6, .inl (fun _ => 0))), (q12, .inl (cA E 0, 6, .inl (fun _ => 0)))])
  refine n_aload_n dX1_init_113 rfl ?_
  refine n_iconst (0) dX1_init_114 rfl ?_
  refine n_put (q0 := 0) (C0 := RX1) (T0 := TX1) (N := 9) (ci := 1) rfl rfl 6 (by decide) wl_X1 tyX1 tyX1_ok nmX1 fwX1_49 rfl rfl rfl rfl (Nat.le_of_ble_eq_true rfl) dX1_init_115 ?_
  show NG E _ mX1_init 118 [some (.ref h0)] [] 12 36 ([(h0, .inr (1, [.ref q1, .ref q8, .ref q9, .ref q10, .ref q11, .ref q12, .int 0, .int 0, .int 0])), (q1, .inl (cA E 2, 6, .inr (.inr (.inr (.inr (va_up (va_up (va_up (va_up (va_up (va_up (fun _ => none) 0 (some q2)) 1 (some q3)) 2 (some q4)) 3 (some q5)) 4 (some q6)) 5 (some q7))))))), (q2, .inr (7, [])), (q3, .inr (3, [])), (q4, .inr (0, [])), (q5, .inr (6, [])), (q6, .inr (4, [])), (q7, .inr (2, [])), (q8, .inl (cA E 0, 6, .inl (fun _ => 0))), (q9, .inl (cA E 0, 6, .inl (fun _ => 0))), (q10, .inl (cA E 0, 6, .inl (fun _ => 0))), (q11, .inl (cA E 0, 6, .inl (fun _ => 0))), (q12, .inl (cA E 0, 6, .inl (fun _ => 0)))])
  refine n_aload_n dX1_init_118 rfl ?_
  refine n_iconst (0) dX1_init_119 rfl ?_
  refine n_put (q0 := 0) (C0 := RX1) (T0 := TX1) (N := 9) (ci := 1) rfl rfl 7 (by decide) wl_X1 tyX1 tyX1_ok nmX1 fwX1_53 rfl rfl rfl rfl (Nat.le_of_ble_eq_true rfl) dX1_init_120 ?_
  show NG E _ mX1_init 123 [some (.ref h0)] [] 12 36 ([(h0, .inr (1, [.ref q1, .ref q8, .ref q9, .ref q10, .ref q11, .ref q12, .int 0, .int 0, .int 0])), (q1, .inl (cA E 2, 6, .inr (.inr (.inr (.inr (va_up (va_up (va_up (va_up (va_up (va_up (fun _ => none) 0 (some q2)) 1 (some q3)) 2 (some q4)) 3 (some q5)) 4 (some q6)) 5 (some q7))))))), (q2, .inr (7, [])), (q3, .inr (3, [])), (q4, .inr (0, [])), (q5, .inr (6, [])), (q6, .inr (4, [])), (q7, .inr (2, [])), (q8, .inl (cA E 0, 6, .inl (fun _ => 0))), (q9, .inl (cA E 0, 6, .inl (fun _ => 0))), (q10, .inl (cA E 0, 6, .inl (fun _ => 0))), (q11, .inl (cA E 0, 6, .inl (fun _ => 0))), (q12, .inl (cA E 0, 6, .inl (fun _ => 0)))])
  refine n_aload_n dX1_init_123 rfl ?_
  refine n_iconst (0) dX1_init_124 rfl ?_
  refine n_put (q0 := 0) (C0 := RX1) (T0 := TX1) (N := 9) (ci := 1) rfl rfl 8 (by decide) wl_X1 tyX1 tyX1_ok nmX1 fwX1_56 rfl rfl rfl rfl (Nat.le_of_ble_eq_true rfl) dX1_init_125 ?_
  show NG E _ mX1_init 128 [some (.ref h0)] [] 12 36 ([(h0, .inr (1, [.ref q1, .ref q8, .ref q9, .ref q10, .ref q11, .ref q12, .int 0, .int 0, .int 0])), (q1, .inl (cA E 2, 6, .inr (.inr (.inr (.inr (va_up (va_up (va_up (va_up (va_up (va_up (fun _ => none) 0 (some q2)) 1 (some q3)) 2 (some q4)) 3 (some q5)) 4 (some q6)) 5 (some q7))))))), (q2, .inr (7, [])), (q3, .inr (3, [])), (q4, .inr (0, [])), (q5, .inr (6, [])), (q6, .inr (4, [])), (q7, .inr (2, [])), (q8, .inl (cA E 0, 6, .inl (fun _ => 0))), (q9, .inl (cA E 0, 6, .inl (fun _ => 0))), (q10, .inl (cA E 0, 6, .inl (fun _ => 0))), (q11, .inl (cA E 0, 6, .inl (fun _ => 0))), (q12, .inl (cA E 0, 6, .inl (fun _ => 0)))])
  refine n_retk (fun k => match k with | 1 => h0 | 2 => q1 | 3 => q2 | 4 => q3 | 5 => q4 | 6 => q5 | 7 => q6 | 8 => q7 | 9 => q8 | 10 => q9 | 11 => q10 | 12 => q11 | _ => q12) rfl rfl (fun H hP => P_arr (q0 := 1) hP rfl ?_) (fun A hD => ?_) dX1_init_128
  · intro j hj
    match j, hj with
    | 0, _ => rfl
    | 1, _ => rfl
    | 2, _ => rfl
    | 3, _ => rfl
    | 4, _ => rfl
    | 5, _ => rfl
    | k + 6, h => omega
  · exact va_D.set (p := 1) hD rfl)
set_option maxRecDepth 20000 in
theorem mk_X5 : Mkr E mX5_init 1 96 (.inr (5, blX5)) (fun h0 (g : Nat → Nat) => g 14 = h0) (tellL E) := Mkr_of (by decide +kernel) rfl rfl (fun h0 sz => by
  refine n_aload_n dX5_init_0 rfl ?_
  refine n_obj lkX5_3 (Nat.le_of_ble_eq_true rfl) (Nat.le_of_ble_eq_true rfl) (Nat.le_of_ble_eq_true rfl) dX5_init_1 ?_
  refine n_aload_n dX5_init_4 rfl ?_
  refine n_bipush (nI 96) dX5_init_5 rfl ?_
  refine n_newc (Nat.le_of_ble_eq_true rfl) (Nat.le_of_ble_eq_true rfl) (Nat.le_of_ble_eq_true rfl) dX5_init_7 (fun q1 => ?_)
  show NG E _ mX5_init 9 [some (.ref h0)] [.ref q1, .ref h0] 1 96 ([(h0, .inr (5, [.null, .int 0])), (q1, .inl (cA E 1, 96, .inl (fun _ => 0)))])
  refine n_putF (q0 := 0) (C0 := RX5) (T0 := TX5) (N := 2) (ci := 5) rfl rfl 0 (by decide) wl_X5 tyX5 tyX5_ok nmX5 fwX5_9 rfl rfl rfl rfl rfl rfl (Nat.le_of_ble_eq_true rfl) dX5_init_9 ?_
  show NG E _ mX5_init 12 [some (.ref h0)] [] 1 96 ([(h0, .inr (5, [.ref q1, .int 0])), (q1, .inl (cA E 1, 96, .inl (fun _ => 0)))])
  refine n_aload_n dX5_init_12 rfl ?_
  refine n_iconst (0) dX5_init_13 rfl ?_
  refine n_put (q0 := 0) (C0 := RX5) (T0 := TX5) (N := 2) (ci := 5) rfl rfl 1 (by decide) wl_X5 tyX5 tyX5_ok nmX5 fwX5_15 rfl rfl rfl rfl (Nat.le_of_ble_eq_true rfl) dX5_init_14 ?_
  show NG E _ mX5_init 17 [some (.ref h0)] [] 1 96 ([(h0, .inr (5, [.ref q1, .int 0])), (q1, .inl (cA E 1, 96, .inl (fun _ => 0)))])
  exact n_retk (fun k => match k with | 14 => h0 | _ => q1) rfl rfl (fun H hP => hP) (fun A hD => hD) dX5_init_17)
set_option maxRecDepth 20000 in
theorem mk_X8 : Mkr E mX8_init 43 256 (.inr (8, blX8)) (fun h0 (g : (Nat → Nat) × (Nat → Nat) × (Nat → Nat) × (Nat → Nat)) => g.2.2.2 0 = h0) (pidL E) := Mkr_of (by decide +kernel) rfl rfl (fun h0 sz => by
  refine n_aload_n dX8_init_0 rfl ?_
  refine n_obj lkX8_1 (Nat.le_of_ble_eq_true rfl) (Nat.le_of_ble_eq_true rfl) (Nat.le_of_ble_eq_true rfl) dX8_init_1 ?_
  refine n_aload_n dX8_init_4 rfl ?_
  refine n_new (C0 := RX1) (T0 := TX1) (N := 9) (ci := 1) (fs := blX1) tyX1 tyX1_ok wl_X1 wkX8_7 wn_X1 wi_X1 rfl blX1_ok (Nat.le_of_ble_eq_true rfl) (Nat.le_of_ble_eq_true rfl) dX8_init_5 (fun q1 => ?_)
  show NG E _ mX8_init 8 [some (.ref h0)] [.ref q1, .ref h0] 1 9 (([(h0, .inr (8, [.null, .null, .null, .int 0, .null, .null, .int 0, .null]))] : va_W) ++ [(q1, .inr (1, [.null, .null, .null, .null, .null, .null, .int 0, .int 0, .int 0]))])
  refine n_dup dX8_init_8 rfl ?_
  refine n_mkN mk_X1 fX1i lkX8_9 rfl (Nat.le_of_ble_eq_true rfl) (Nat.le_of_ble_eq_true rfl) dX8_init_9 (fun gq1 hgq1 => ?_)
  rw [← hgq1]
  show NG E _ mX8_init 12 [some (.ref h0)] [.ref (gq1 1), .ref h0] 13 45 ([(h0, .inr (8, [.null, .null, .null, .int 0, .null, .null, .int 0, .null]))] ++ crewL E gq1)
  refine n_putF (q0 := 0) (C0 := RX8) (T0 := TX8) (N := 8) (ci := 8) rfl rfl 0 (by decide) wl_X8 tyX8 tyX8_ok nmX8 fwX8_10 rfl rfl rfl rfl rfl rfl (Nat.le_of_ble_eq_true rfl) dX8_init_12 ?_
  show NG E _ mX8_init 15 [some (.ref h0)] [] 13 45 ([(h0, .inr (8, [.ref (gq1 1), .null, .null, .int 0, .null, .null, .int 0, .null]))] ++ crewL E gq1)
  refine n_aload_n dX8_init_15 rfl ?_
  refine n_new (C0 := RX1) (T0 := TX1) (N := 9) (ci := 1) (fs := blX1) tyX1 tyX1_ok wl_X1 wkX8_7 wn_X1 wi_X1 rfl blX1_ok (Nat.le_of_ble_eq_true rfl) (Nat.le_of_ble_eq_true rfl) dX8_init_16 (fun q2 => ?_)
  show NG E _ mX8_init 19 [some (.ref h0)] [.ref q2, .ref h0] 14 54 (([(h0, .inr (8, [.ref (gq1 1), .null, .null, .int 0, .null, .null, .int 0, .null]))] ++ crewL E gq1 : va_W) ++ [(q2, .inr (1, [.null, .null, .null, .null, .null, .null, .int 0, .int 0, .int 0]))])
  refine n_dup dX8_init_19 rfl ?_
  refine n_mkN mk_X1 fX1i lkX8_9 rfl (Nat.le_of_ble_eq_true rfl) (Nat.le_of_ble_eq_true rfl) dX8_init_20 (fun gq2 hgq2 => ?_)
  rw [← hgq2]
  show NG E _ mX8_init 23 [some (.ref h0)] [.ref (gq2 1), .ref h0] 26 90 ([(h0, .inr (8, [.ref (gq1 1), .null, .null, .int 0, .null, .null, .int 0, .null]))] ++ crewL E gq1 ++ crewL E gq2)
  refine n_putF (q0 := 0) (C0 := RX8) (T0 := TX8) (N := 8) (ci := 8) rfl rfl 1 (by decide) wl_X8 tyX8 tyX8_ok nmX8 fwX8_16 rfl rfl rfl rfl rfl rfl (Nat.le_of_ble_eq_true rfl) dX8_init_23 ?_
  show NG E _ mX8_init 26 [some (.ref h0)] [] 26 90 ([(h0, .inr (8, [.ref (gq1 1), .ref (gq2 1), .null, .int 0, .null, .null, .int 0, .null]))] ++ crewL E gq1 ++ crewL E gq2)
  refine n_aload_n dX8_init_26 rfl ?_
  refine n_new (C0 := RX1) (T0 := TX1) (N := 9) (ci := 1) (fs := blX1) tyX1 tyX1_ok wl_X1 wkX8_7 wn_X1 wi_X1 rfl blX1_ok (Nat.le_of_ble_eq_true rfl) (Nat.le_of_ble_eq_true rfl) dX8_init_27 (fun q3 => ?_)
  show NG E _ mX8_init 30 [some (.ref h0)] [.ref q3, .ref h0] 27 99 (([(h0, .inr (8, [.ref (gq1 1), .ref (gq2 1), .null, .int 0, .null, .null, .int 0, .null]))] ++ crewL E gq1 ++ crewL E gq2 : va_W) ++ [(q3, .inr (1, [.null, .null, .null, .null, .null, .null, .int 0, .int 0, .int 0]))])
  refine n_dup dX8_init_30 rfl ?_
  refine n_mkN mk_X1 fX1i lkX8_9 rfl (Nat.le_of_ble_eq_true rfl) (Nat.le_of_ble_eq_true rfl) dX8_init_31 (fun gq3 hgq3 => ?_)
  rw [← hgq3]
  show NG E _ mX8_init 34 [some (.ref h0)] [.ref (gq3 1), .ref h0] 39 135 ([(h0, .inr (8, [.ref (gq1 1), .ref (gq2 1), .null, .int 0, .null, .null, .int 0, .null]))] ++ crewL E gq1 ++ crewL E gq2 ++ crewL E gq3)
  refine n_putF (q0 := 0) (C0 := RX8) (T0 := TX8) (N := 8) (ci := 8) rfl rfl 2 (by decide) wl_X8 tyX8 tyX8_ok nmX8 fwX8_19 rfl rfl rfl rfl rfl rfl (Nat.le_of_ble_eq_true rfl) dX8_init_34 ?_
  show NG E _ mX8_init 37 [some (.ref h0)] [] 39 135 ([(h0, .inr (8, [.ref (gq1 1), .ref (gq2 1), .ref (gq3 1), .int 0, .null, .null, .int 0, .null]))] ++ crewL E gq1 ++ crewL E gq2 ++ crewL E gq3)
  refine n_aload_n dX8_init_37 rfl ?_
  refine n_iconst (0) dX8_init_38 rfl ?_
  refine n_put (q0 := 0) (C0 := RX8) (T0 := TX8) (N := 8) (ci := 8) rfl rfl 3 (by decide) wl_X8 tyX8 tyX8_ok nmX8 fwX8_22 rfl rfl rfl rfl (Nat.le_of_ble_eq_true rfl) dX8_init_39 ?_
  show NG E _ mX8_init 42 [some (.ref h0)] [] 39 135 ([(h0, .inr (8, [.ref (gq1 1), .ref (gq2 1), .ref (gq3 1), .int 0, .null, .null, .int 0, .null]))] ++ crewL E gq1 ++ crewL E gq2 ++ crewL E gq3)
  refine n_aload_n dX8_init_42 rfl ?_
  refine n_new (C0 := RX5) (T0 := TX5) (N := 2) (ci := 5) (fs := blX5) tyX5 tyX5_ok wl_X5 wkX8_26 wn_X5 wi_X5 rfl blX5_ok (Nat.le_of_ble_eq_true rfl) (Nat.le_of_ble_eq_true rfl) dX8_init_43 (fun q4 => ?_)
  show NG E _ mX8_init 46 [some (.ref h0)] [.ref q4, .ref h0] 40 137 (([(h0, .inr (8, [.ref (gq1 1), .ref (gq2 1), .ref (gq3 1), .int 0, .null, .null, .int 0, .null]))] ++ crewL E gq1 ++ crewL E gq2 ++ crewL E gq3 : va_W) ++ [(q4, .inr (5, [.null, .int 0]))])
  refine n_dup dX8_init_46 rfl ?_
  refine n_mkN mk_X5 fX5i lkX8_28 rfl (Nat.le_of_ble_eq_true rfl) (Nat.le_of_ble_eq_true rfl) dX8_init_47 (fun gq4 hgq4 => ?_)
  rw [← hgq4]
  show NG E _ mX8_init 50 [some (.ref h0)] [.ref (gq4 14), .ref h0] 41 233 ([(h0, .inr (8, [.ref (gq1 1), .ref (gq2 1), .ref (gq3 1), .int 0, .null, .null, .int 0, .null]))] ++ crewL E gq1 ++ crewL E gq2 ++ crewL E gq3 ++ tellL E gq4)
  refine n_putF (q0 := 0) (C0 := RX8) (T0 := TX8) (N := 8) (ci := 8) rfl rfl 4 (by decide) wl_X8 tyX8 tyX8_ok nmX8 fwX8_29 rfl rfl rfl rfl rfl rfl (Nat.le_of_ble_eq_true rfl) dX8_init_50 ?_
  show NG E _ mX8_init 53 [some (.ref h0)] [] 41 233 ([(h0, .inr (8, [.ref (gq1 1), .ref (gq2 1), .ref (gq3 1), .int 0, .ref (gq4 14), .null, .int 0, .null]))] ++ crewL E gq1 ++ crewL E gq2 ++ crewL E gq3 ++ tellL E gq4)
  refine n_aload_n dX8_init_53 rfl ?_
  refine n_bipush (nI 16) dX8_init_54 rfl ?_
  refine n_newi (Nat.le_of_ble_eq_true rfl) (Nat.le_of_ble_eq_true rfl) (Nat.le_of_ble_eq_true rfl) dX8_init_56 (fun q5 => ?_)
  show NG E _ mX8_init 58 [some (.ref h0)] [.ref q5, .ref h0] 42 249 ([(h0, .inr (8, [.ref (gq1 1), .ref (gq2 1), .ref (gq3 1), .int 0, .ref (gq4 14), .null, .int 0, .null]))] ++ crewL E gq1 ++ crewL E gq2 ++ crewL E gq3 ++ tellL E gq4 ++ [(q5, .inl (cA E 0, 16, .inl (fun _ => 0)))])
  refine n_putF (q0 := 0) (C0 := RX8) (T0 := TX8) (N := 8) (ci := 8) rfl rfl 5 (by decide) wl_X8 tyX8 tyX8_ok nmX8 fwX8_33 rfl rfl rfl rfl rfl rfl (Nat.le_of_ble_eq_true rfl) dX8_init_58 ?_
  show NG E _ mX8_init 61 [some (.ref h0)] [] 42 249 ([(h0, .inr (8, [.ref (gq1 1), .ref (gq2 1), .ref (gq3 1), .int 0, .ref (gq4 14), .ref q5, .int 0, .null]))] ++ crewL E gq1 ++ crewL E gq2 ++ crewL E gq3 ++ tellL E gq4 ++ [(q5, .inl (cA E 0, 16, .inl (fun _ => 0)))])
  refine n_aload_n dX8_init_61 rfl ?_
  refine n_iconst (0) dX8_init_62 rfl ?_
  refine n_put (q0 := 0) (C0 := RX8) (T0 := TX8) (N := 8) (ci := 8) rfl rfl 6 (by decide) wl_X8 tyX8 tyX8_ok nmX8 fwX8_37 rfl rfl rfl rfl (Nat.le_of_ble_eq_true rfl) dX8_init_63 ?_
  show NG E _ mX8_init 66 [some (.ref h0)] [] 42 249 ([(h0, .inr (8, [.ref (gq1 1), .ref (gq2 1), .ref (gq3 1), .int 0, .ref (gq4 14), .ref q5, .int 0, .null]))] ++ crewL E gq1 ++ crewL E gq2 ++ crewL E gq3 ++ tellL E gq4 ++ [(q5, .inl (cA E 0, 16, .inl (fun _ => 0)))])
  refine n_aload_n dX8_init_66 rfl ?_
  refine n_bipush (nI 7) dX8_init_67 rfl ?_
  refine n_newi (Nat.le_of_ble_eq_true rfl) (Nat.le_of_ble_eq_true rfl) (Nat.le_of_ble_eq_true rfl) dX8_init_69 (fun q6 => ?_)
  show NG E _ mX8_init 71 [some (.ref h0)] [.ref q6, .ref h0] 43 256 ([(h0, .inr (8, [.ref (gq1 1), .ref (gq2 1), .ref (gq3 1), .int 0, .ref (gq4 14), .ref q5, .int 0, .null]))] ++ crewL E gq1 ++ crewL E gq2 ++ crewL E gq3 ++ tellL E gq4 ++ [(q5, .inl (cA E 0, 16, .inl (fun _ => 0))), (q6, .inl (cA E 0, 7, .inl (fun _ => 0)))])
  refine n_putF (q0 := 0) (C0 := RX8) (T0 := TX8) (N := 8) (ci := 8) rfl rfl 7 (by decide) wl_X8 tyX8 tyX8_ok nmX8 fwX8_41 rfl rfl rfl rfl rfl rfl (Nat.le_of_ble_eq_true rfl) dX8_init_71 ?_
  show NG E _ mX8_init 74 [some (.ref h0)] [] 43 256 ([(h0, .inr (8, [.ref (gq1 1), .ref (gq2 1), .ref (gq3 1), .int 0, .ref (gq4 14), .ref q5, .int 0, .ref q6]))] ++ crewL E gq1 ++ crewL E gq2 ++ crewL E gq3 ++ tellL E gq4 ++ [(q5, .inl (cA E 0, 16, .inl (fun _ => 0))), (q6, .inl (cA E 0, 7, .inl (fun _ => 0)))])
  exact n_retk (gq1, gq2, gq3, fun k => match k with | 0 => h0 | 14 => gq4 14 | 15 => gq4 15 | 16 => q5 | _ => q6) rfl rfl (fun H hP => hP) (fun A hD => hD) dX8_init_74)
set_option maxRecDepth 20000 in
theorem mk_X9 : Mkr E mX9_init 8 254 (.inr (9, blX9)) (fun h0 (g : Nat → Nat) => g 44 = h0) (modL E) := Mkr_of (by decide +kernel) rfl rfl (fun h0 sz => by
  refine n_aload_n dX9_init_0 rfl ?_
  refine n_obj lkX9_1 (Nat.le_of_ble_eq_true rfl) (Nat.le_of_ble_eq_true rfl) (Nat.le_of_ble_eq_true rfl) dX9_init_1 ?_
  refine n_aload_n dX9_init_4 rfl ?_
  refine n_bipush (nI 33) dX9_init_5 rfl ?_
  refine n_newi (Nat.le_of_ble_eq_true rfl) (Nat.le_of_ble_eq_true rfl) (Nat.le_of_ble_eq_true rfl) dX9_init_7 (fun q1 => ?_)
  show NG E _ mX9_init 9 [some (.ref h0)] [.ref q1, .ref h0] 1 33 ([(h0, .inr (9, [.null, .null, .null, .null, .int 0, .null, .null, .null, .int 0, .int 0, .int 0, .null, .int 0])), (q1, .inl (cA E 0, 33, .inl (fun _ => 0)))])
  refine n_putF (q0 := 0) (C0 := RX9) (T0 := TX9) (N := 13) (ci := 9) rfl rfl 0 (by decide) wl_X9 tyX9 tyX9_ok nmX9 fwX9_9 rfl rfl rfl rfl rfl rfl (Nat.le_of_ble_eq_true rfl) dX9_init_9 ?_
  show NG E _ mX9_init 12 [some (.ref h0)] [] 1 33 ([(h0, .inr (9, [.ref q1, .null, .null, .null, .int 0, .null, .null, .null, .int 0, .int 0, .int 0, .null, .int 0])), (q1, .inl (cA E 0, 33, .inl (fun _ => 0)))])
  refine n_aload_n dX9_init_12 rfl ?_
  refine n_bipush (nI 33) dX9_init_13 rfl ?_
  refine n_newi (Nat.le_of_ble_eq_true rfl) (Nat.le_of_ble_eq_true rfl) (Nat.le_of_ble_eq_true rfl) dX9_init_15 (fun q2 => ?_)
  show NG E _ mX9_init 17 [some (.ref h0)] [.ref q2, .ref h0] 2 66 ([(h0, .inr (9, [.ref q1, .null, .null, .null, .int 0, .null, .null, .null, .int 0, .int 0, .int 0, .null, .int 0])), (q1, .inl (cA E 0, 33, .inl (fun _ => 0))), (q2, .inl (cA E 0, 33, .inl (fun _ => 0)))])
  refine n_putF (q0 := 0) (C0 := RX9) (T0 := TX9) (N := 13) (ci := 9) rfl rfl 1 (by decide) wl_X9 tyX9 tyX9_ok nmX9 fwX9_13 rfl rfl rfl rfl rfl rfl (Nat.le_of_ble_eq_true rfl) dX9_init_17 ?_
  show NG E _ mX9_init 20 [some (.ref h0)] [] 2 66 ([(h0, .inr (9, [.ref q1, .ref q2, .null, .null, .int 0, .null, .null, .null, .int 0, .int 0, .int 0, .null, .int 0])), (q1, .inl (cA E 0, 33, .inl (fun _ => 0))), (q2, .inl (cA E 0, 33, .inl (fun _ => 0)))])
  refine n_aload_n dX9_init_20 rfl ?_
  refine n_bipush (nI 33) dX9_init_21 rfl ?_
  refine n_newi (Nat.le_of_ble_eq_true rfl) (Nat.le_of_ble_eq_true rfl) (Nat.le_of_ble_eq_true rfl) dX9_init_23 (fun q3 => ?_)
  show NG E _ mX9_init 25 [some (.ref h0)] [.ref q3, .ref h0] 3 99 ([(h0, .inr (9, [.ref q1, .ref q2, .null, .null, .int 0, .null, .null, .null, .int 0, .int 0, .int 0, .null, .int 0])), (q1, .inl (cA E 0, 33, .inl (fun _ => 0))), (q2, .inl (cA E 0, 33, .inl (fun _ => 0))), (q3, .inl (cA E 0, 33, .inl (fun _ => 0)))])
  refine n_putF (q0 := 0) (C0 := RX9) (T0 := TX9) (N := 13) (ci := 9) rfl rfl 2 (by decide) wl_X9 tyX9 tyX9_ok nmX9 fwX9_16 rfl rfl rfl rfl rfl rfl (Nat.le_of_ble_eq_true rfl) dX9_init_25 ?_
  show NG E _ mX9_init 28 [some (.ref h0)] [] 3 99 ([(h0, .inr (9, [.ref q1, .ref q2, .ref q3, .null, .int 0, .null, .null, .null, .int 0, .int 0, .int 0, .null, .int 0])), (q1, .inl (cA E 0, 33, .inl (fun _ => 0))), (q2, .inl (cA E 0, 33, .inl (fun _ => 0))), (q3, .inl (cA E 0, 33, .inl (fun _ => 0)))])
  refine n_aload_n dX9_init_28 rfl ?_
  refine n_bipush (nI 33) dX9_init_29 rfl ?_
  refine n_newi (Nat.le_of_ble_eq_true rfl) (Nat.le_of_ble_eq_true rfl) (Nat.le_of_ble_eq_true rfl) dX9_init_31 (fun q4 => ?_)
  show NG E _ mX9_init 33 [some (.ref h0)] [.ref q4, .ref h0] 4 132 ([(h0, .inr (9, [.ref q1, .ref q2, .ref q3, .null, .int 0, .null, .null, .null, .int 0, .int 0, .int 0, .null, .int 0])), (q1, .inl (cA E 0, 33, .inl (fun _ => 0))), (q2, .inl (cA E 0, 33, .inl (fun _ => 0))), (q3, .inl (cA E 0, 33, .inl (fun _ => 0))), (q4, .inl (cA E 0, 33, .inl (fun _ => 0)))])
  refine n_putF (q0 := 0) (C0 := RX9) (T0 := TX9) (N := 13) (ci := 9) rfl rfl 3 (by decide) wl_X9 tyX9 tyX9_ok nmX9 fwX9_19 rfl rfl rfl rfl rfl rfl (Nat.le_of_ble_eq_true rfl) dX9_init_33 ?_
  show NG E _ mX9_init 36 [some (.ref h0)] [] 4 132 ([(h0, .inr (9, [.ref q1, .ref q2, .ref q3, .ref q4, .int 0, .null, .null, .null, .int 0, .int 0, .int 0, .null, .int 0])), (q1, .inl (cA E 0, 33, .inl (fun _ => 0))), (q2, .inl (cA E 0, 33, .inl (fun _ => 0))), (q3, .inl (cA E 0, 33, .inl (fun _ => 0))), (q4, .inl (cA E 0, 33, .inl (fun _ => 0)))])
  refine n_aload_n dX9_init_36 rfl ?_
  refine n_bipush (nI 96) dX9_init_37 rfl ?_
  refine n_newi (Nat.le_of_ble_eq_true rfl) (Nat.le_of_ble_eq_true rfl) (Nat.le_of_ble_eq_true rfl) dX9_init_39 (fun q5 => ?_)
  show NG E _ mX9_init 41 [some (.ref h0)] [.ref q5, .ref h0] 5 228 ([(h0, .inr (9, [.ref q1, .ref q2, .ref q3, .ref q4, .int 0, .null, .null, .null, .int 0, .int 0, .int 0, .null, .int 0])), (q1, .inl (cA E 0, 33, .inl (fun _ => 0))), (q2, .inl (cA E 0, 33, .inl (fun _ => 0))), (q3, .inl (cA E 0, 33, .inl (fun _ => 0))), (q4, .inl (cA E 0, 33, .inl (fun _ => 0))), (q5, .inl (cA E 0, 96, .inl (fun _ => 0)))])
  refine n_putF (q0 := 0) (C0 := RX9) (T0 := TX9) (N := 13) (ci := 9) rfl rfl 5 (by decide) wl_X9 tyX9 tyX9_ok nmX9 fwX9_22 rfl rfl rfl rfl rfl rfl (Nat.le_of_ble_eq_true rfl) dX9_init_41 ?_
  show NG E _ mX9_init 44 [some (.ref h0)] [] 5 228 ([(h0, .inr (9, [.ref q1, .ref q2, .ref q3, .ref q4, .int 0, .ref q5, .null, .null, .int 0, .int 0, .int 0, .null, .int 0])), (q1, .inl (cA E 0, 33, .inl (fun _ => 0))), (q2, .inl (cA E 0, 33, .inl (fun _ => 0))), (q3, .inl (cA E 0, 33, .inl (fun _ => 0))), (q4, .inl (cA E 0, 33, .inl (fun _ => 0))), (q5, .inl (cA E 0, 96, .inl (fun _ => 0)))])
  refine n_aload_n dX9_init_44 rfl ?_
  refine n_bipush (nI 16) dX9_init_45 rfl ?_
  refine n_newi (Nat.le_of_ble_eq_true rfl) (Nat.le_of_ble_eq_true rfl) (Nat.le_of_ble_eq_true rfl) dX9_init_47 (fun q6 => ?_)
  show NG E _ mX9_init 49 [some (.ref h0)] [.ref q6, .ref h0] 6 244 ([(h0, .inr (9, [.ref q1, .ref q2, .ref q3, .ref q4, .int 0, .ref q5, .null, .null, .int 0, .int 0, .int 0, .null, .int 0])), (q1, .inl (cA E 0, 33, .inl (fun _ => 0))), (q2, .inl (cA E 0, 33, .inl (fun _ => 0))), (q3, .inl (cA E 0, 33, .inl (fun _ => 0))), (q4, .inl (cA E 0, 33, .inl (fun _ => 0))), (q5, .inl (cA E 0, 96, .inl (fun _ => 0))), (q6, .inl (cA E 0, 16, .inl (fun _ => 0)))])
  refine n_putF (q0 := 0) (C0 := RX9) (T0 := TX9) (N := 13) (ci := 9) rfl rfl 6 (by decide) wl_X9 tyX9 tyX9_ok nmX9 fwX9_25 rfl rfl rfl rfl rfl rfl (Nat.le_of_ble_eq_true rfl) dX9_init_49 ?_
  show NG E _ mX9_init 52 [some (.ref h0)] [] 6 244 ([(h0, .inr (9, [.ref q1, .ref q2, .ref q3, .ref q4, .int 0, .ref q5, .ref q6, .null, .int 0, .int 0, .int 0, .null, .int 0])), (q1, .inl (cA E 0, 33, .inl (fun _ => 0))), (q2, .inl (cA E 0, 33, .inl (fun _ => 0))), (q3, .inl (cA E 0, 33, .inl (fun _ => 0))), (q4, .inl (cA E 0, 33, .inl (fun _ => 0))), (q5, .inl (cA E 0, 96, .inl (fun _ => 0))), (q6, .inl (cA E 0, 16, .inl (fun _ => 0)))])
  refine n_aload_n dX9_init_52 rfl ?_
  refine n_bipush (nI 7) dX9_init_53 rfl ?_
  refine n_newi (Nat.le_of_ble_eq_true rfl) (Nat.le_of_ble_eq_true rfl) (Nat.le_of_ble_eq_true rfl) dX9_init_55 (fun q7 => ?_)
  show NG E _ mX9_init 57 [some (.ref h0)] [.ref q7, .ref h0] 7 251 ([(h0, .inr (9, [.ref q1, .ref q2, .ref q3, .ref q4, .int 0, .ref q5, .ref q6, .null, .int 0, .int 0, .int 0, .null, .int 0])), (q1, .inl (cA E 0, 33, .inl (fun _ => 0))), (q2, .inl (cA E 0, 33, .inl (fun _ => 0))), (q3, .inl (cA E 0, 33, .inl (fun _ => 0))), (q4, .inl (cA E 0, 33, .inl (fun _ => 0))), (q5, .inl (cA E 0, 96, .inl (fun _ => 0))), (q6, .inl (cA E 0, 16, .inl (fun _ => 0))), (q7, .inl (cA E 0, 7, .inl (fun _ => 0)))])
  refine n_putF (q0 := 0) (C0 := RX9) (T0 := TX9) (N := 13) (ci := 9) rfl rfl 7 (by decide) wl_X9 tyX9 tyX9_ok nmX9 fwX9_28 rfl rfl rfl rfl rfl rfl (Nat.le_of_ble_eq_true rfl) dX9_init_57 ?_
  show NG E _ mX9_init 60 [some (.ref h0)] [] 7 251 ([(h0, .inr (9, [.ref q1, .ref q2, .ref q3, .ref q4, .int 0, .ref q5, .ref q6, .ref q7, .int 0, .int 0, .int 0, .null, .int 0])), (q1, .inl (cA E 0, 33, .inl (fun _ => 0))), (q2, .inl (cA E 0, 33, .inl (fun _ => 0))), (q3, .inl (cA E 0, 33, .inl (fun _ => 0))), (q4, .inl (cA E 0, 33, .inl (fun _ => 0))), (q5, .inl (cA E 0, 96, .inl (fun _ => 0))), (q6, .inl (cA E 0, 16, .inl (fun _ => 0))), (q7, .inl (cA E 0, 7, .inl (fun _ => 0)))])
  refine n_aload_n dX9_init_60 rfl ?_
  refine n_iconst (nI 3) dX9_init_61 rfl ?_
  refine n_newi (Nat.le_of_ble_eq_true rfl) (Nat.le_of_ble_eq_true rfl) (Nat.le_of_ble_eq_true rfl) dX9_init_62 (fun q8 => ?_)
  show NG E _ mX9_init 64 [some (.ref h0)] [.ref q8, .ref h0] 8 254 ([(h0, .inr (9, [.ref q1, .ref q2, .ref q3, .ref q4, .int 0, .ref q5, .ref q6, .ref q7, .int 0, .int 0, .int 0, .null, .int 0])), (q1, .inl (cA E 0, 33, .inl (fun _ => 0))), (q2, .inl (cA E 0, 33, .inl (fun _ => 0))), (q3, .inl (cA E 0, 33, .inl (fun _ => 0))), (q4, .inl (cA E 0, 33, .inl (fun _ => 0))), (q5, .inl (cA E 0, 96, .inl (fun _ => 0))), (q6, .inl (cA E 0, 16, .inl (fun _ => 0))), (q7, .inl (cA E 0, 7, .inl (fun _ => 0))), (q8, .inl (cA E 0, 3, .inl (fun _ => 0)))])
  refine n_putF (q0 := 0) (C0 := RX9) (T0 := TX9) (N := 13) (ci := 9) rfl rfl 11 (by decide) wl_X9 tyX9 tyX9_ok nmX9 fwX9_31 rfl rfl rfl rfl rfl rfl (Nat.le_of_ble_eq_true rfl) dX9_init_64 ?_
  show NG E _ mX9_init 67 [some (.ref h0)] [] 8 254 ([(h0, .inr (9, [.ref q1, .ref q2, .ref q3, .ref q4, .int 0, .ref q5, .ref q6, .ref q7, .int 0, .int 0, .int 0, .ref q8, .int 0])), (q1, .inl (cA E 0, 33, .inl (fun _ => 0))), (q2, .inl (cA E 0, 33, .inl (fun _ => 0))), (q3, .inl (cA E 0, 33, .inl (fun _ => 0))), (q4, .inl (cA E 0, 33, .inl (fun _ => 0))), (q5, .inl (cA E 0, 96, .inl (fun _ => 0))), (q6, .inl (cA E 0, 16, .inl (fun _ => 0))), (q7, .inl (cA E 0, 7, .inl (fun _ => 0))), (q8, .inl (cA E 0, 3, .inl (fun _ => 0)))])
  exact n_retk (fun k => match k with | 44 => h0 | 45 => q1 | 46 => q2 | 47 => q3 | 48 => q4 | 49 => q5 | 50 => q6 | 51 => q7 | _ => q8) rfl rfl (fun H hP => hP) (fun A hD => hD) dX9_init_67)
end CTORS
