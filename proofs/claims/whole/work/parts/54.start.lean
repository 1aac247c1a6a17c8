/-! ===== the law's start: what the tables and the Statement give, the two objects made, the store of zeros ===== -/
section START
theorem cls_known {s : State} {args : Array Value} (hTB : ∀ w ∈ TB, w.before args s = true) : ∀ k : Nat, ∃ d : ClassId × (Nat → Nat), ∀ q : vw_C, vwCl[k]? = some q → u_Kn s q.1 q.2.1 q.2.2 d.1 d.2 := by
  intro k
  match k with
  | 0 =>
    obtain ⟨c, i, h⟩ := u_known (C := RX0) (T := TX0) (N := 0) (n := 0) hTB wl_X0 (hTB _ wn_X0)
    exact ⟨(c, i), fun q hq => by cases hq; exact h⟩
  | 1 =>
    obtain ⟨c, i, h⟩ := u_known (C := RX1) (T := TX1) (N := 9) (n := 9) hTB wl_X1 (hTB _ wn_X1)
    exact ⟨(c, i), fun q hq => by cases hq; exact h⟩
  | 2 =>
    obtain ⟨c, i, h⟩ := u_known (C := RX2) (T := TX2) (N := 0) (n := 0) hTB wl_X2 (hTB _ wn_X2)
    exact ⟨(c, i), fun q hq => by cases hq; exact h⟩
  | 3 =>
    obtain ⟨c, i, h⟩ := u_known (C := RX3) (T := TX3) (N := 0) (n := 0) hTB wl_X3 (hTB _ wn_X3)
    exact ⟨(c, i), fun q hq => by cases hq; exact h⟩
  | 4 =>
    obtain ⟨c, i, h⟩ := u_known (C := RX4) (T := TX4) (N := 0) (n := 0) hTB wl_X4 (hTB _ wn_X4)
    exact ⟨(c, i), fun q hq => by cases hq; exact h⟩
  | 5 =>
    obtain ⟨c, i, h⟩ := u_known (C := RX5) (T := TX5) (N := 2) (n := 2) hTB wl_X5 (hTB _ wn_X5)
    exact ⟨(c, i), fun q hq => by cases hq; exact h⟩
  | 6 =>
    obtain ⟨c, i, h⟩ := u_known (C := RX6) (T := TX6) (N := 0) (n := 0) hTB wl_X6 (hTB _ wn_X6)
    exact ⟨(c, i), fun q hq => by cases hq; exact h⟩
  | 7 =>
    obtain ⟨c, i, h⟩ := u_known (C := RX7) (T := TX7) (N := 0) (n := 0) hTB wl_X7 (hTB _ wn_X7)
    exact ⟨(c, i), fun q hq => by cases hq; exact h⟩
  | 8 =>
    obtain ⟨c, i, h⟩ := u_known (C := RX8) (T := TX8) (N := 8) (n := 8) hTB wl_X8 (hTB _ wn_X8)
    exact ⟨(c, i), fun q hq => by cases hq; exact h⟩
  | 9 =>
    obtain ⟨c, i, h⟩ := u_known (C := RX9) (T := TX9) (N := 13) (n := 13) hTB wl_X9 (hTB _ wn_X9)
    exact ⟨(c, i), fun q hq => by cases hq; exact h⟩
  | k + 10 => exact ⟨(0, fun _ => 0), fun q hq => by simp [vwCl] at hq⟩
theorem arr_known {s : State} {args : Array Value} (hts : ∀ w ∈ lw_tbl, w.before args s = true) (hTB : ∀ w ∈ TB, w.before args s = true) : ∃ a0 a1 a2 : ClassId, (ArrOfT s a0 .int ∧ va_RA s a0 .int) ∧ (ArrOfT s a1 .char ∧ va_RA s a1 .char) ∧ (ArrOfT s a2 (.object "PaidInDays$WorkerKind") ∧ va_RA s a2 (.object "PaidInDays$WorkerKind")) := by
  obtain ⟨a0, k0, c0, p1, p2, p3⟩ := Cond.arrayClass_spec (hTB _ wa_int)
  obtain ⟨a1, k1, c1, q1, q2, q3⟩ := Cond.arrayClass_spec (hTB _ wa_char)
  obtain ⟨c2, a2, k2, h1, h2, h3, h4, h5⟩ := Cond.arrayOver_spec (hts (.arrayOver (.object "PaidInDays$WorkerKind")) (tbn 34 (by decide +kernel)))
  exact ⟨a0, a1, a2, ⟨fun n z => ⟨fun k h => (by cases h), k0, p2, c0, p3⟩, p1⟩, ⟨fun n z => ⟨fun k h => (by cases h), k1, q2, c1, q3⟩, q1⟩, ⟨fun n z => ⟨fun k h => (by cases h), k2, h3, c2, h4⟩, ⟨k2, c2, h3, h4, h1, h5⟩⟩⟩
abbrev tmS (i : Nat) : Term := .string "PaidInDays$Telling" (44 + 2 * i)
theorem str_known {s : State} {args : Array Value} (hgv : (Jvm.Cond.and given_1 narrow_1).before args s = true) : ∃ sk sv : Nat → Nat, vk_S 5 sLen sByt sk sv (fun q => s.heap.size ≤ q) s s.heap ∧ ∀ i : Nat, i < 5 → (tmS i).eval args s none [] s = some (.ref (sk i)) := by
  have hs := flat_of_before _ hgv
  refine vk_Sof (N := 5) (tm := tmS) (len := sLen) (byt := sByt) ?_ ?_ ?_ ?_ ?_ ?_ ?_ (fun a ha => Nat.not_le.mpr ha)
  · intro i hi
    match i, hi with
    | 0, _ => decide
    | 1, _ => decide
    | 2, _ => decide
    | 3, _ => decide
    | 4, _ => decide
  · intro i hi
    match i, hi with
    | 0, _ => exact hs _ (by decide +kernel)
    | 1, _ => exact hs _ (by decide +kernel)
    | 2, _ => exact hs _ (by decide +kernel)
    | 3, _ => exact hs _ (by decide +kernel)
    | 4, _ => exact hs _ (by decide +kernel)
  · intro i hi
    match i, hi with
    | 0, _ => exact hs _ (by decide +kernel)
    | 1, _ => exact hs _ (by decide +kernel)
    | 2, _ => exact hs _ (by decide +kernel)
    | 3, _ => exact hs _ (by decide +kernel)
    | 4, _ => exact hs _ (by decide +kernel)
  · intro i hi
    match i, hi with
    | 0, _ => exact hs _ (by decide +kernel)
    | 1, _ => exact hs _ (by decide +kernel)
    | 2, _ => exact hs _ (by decide +kernel)
    | 3, _ => exact hs _ (by decide +kernel)
    | 4, _ => exact hs _ (by decide +kernel)
  · intro i hi
    match i, hi with
    | 0, _ => exact hs _ (by decide +kernel)
    | 1, _ => exact hs _ (by decide +kernel)
    | 2, _ => exact hs _ (by decide +kernel)
    | 3, _ => exact hs _ (by decide +kernel)
    | 4, _ => exact hs _ (by decide +kernel)
  · intro i hi j hj
    match i, hi, j, hj with
    | 0, _, 0, _ => exact hs _ (by decide +kernel)
    | 0, _, 1, _ => exact hs _ (by decide +kernel)
    | 0, _, 2, _ => exact hs _ (by decide +kernel)
    | 0, _, 3, _ => exact hs _ (by decide +kernel)
    | 0, _, 4, _ => exact hs _ (by decide +kernel)
    | 0, _, 5, _ => exact hs _ (by decide +kernel)
    | 0, _, j + 6, h => exact absurd (show j + 6 < 6 from h) (by omega)
    | 1, _, 0, _ => exact hs _ (by decide +kernel)
    | 1, _, 1, _ => exact hs _ (by decide +kernel)
    | 1, _, 2, _ => exact hs _ (by decide +kernel)
    | 1, _, j + 3, h => exact absurd (show j + 3 < 3 from h) (by omega)
    | 2, _, 0, _ => exact hs _ (by decide +kernel)
    | 2, _, 1, _ => exact hs _ (by decide +kernel)
    | 2, _, 2, _ => exact hs _ (by decide +kernel)
    | 2, _, 3, _ => exact hs _ (by decide +kernel)
    | 2, _, j + 4, h => exact absurd (show j + 4 < 4 from h) (by omega)
    | 3, _, j, h => exact absurd (show j < 0 from h) (by omega)
    | 4, _, 0, _ => exact hs _ (by decide +kernel)
    | 4, _, 1, _ => exact hs _ (by decide +kernel)
    | 4, _, 2, _ => exact hs _ (by decide +kernel)
    | 4, _, 3, _ => exact hs _ (by decide +kernel)
    | 4, _, 4, _ => exact hs _ (by decide +kernel)
    | 4, _, 5, _ => exact hs _ (by decide +kernel)
    | 4, _, j + 6, h => exact absurd (show j + 6 < 6 from h) (by omega)
  · have key : ∀ i j : Nat, i < j → j < 5 → (Cond.not (Cond.eq (tmS i) (tmS j))).before args s = true := by
      intro i j hij hj
      match i, j, hij, hj with
      | 0, 1, _, _ => exact hs _ (by decide +kernel)
      | 0, 2, _, _ => exact hs _ (by decide +kernel)
      | 0, 3, _, _ => exact hs _ (by decide +kernel)
      | 0, 4, _, _ => exact hs _ (by decide +kernel)
      | 1, 2, _, _ => exact hs _ (by decide +kernel)
      | 1, 3, _, _ => exact hs _ (by decide +kernel)
      | 1, 4, _, _ => exact hs _ (by decide +kernel)
      | 2, 3, _, _ => exact hs _ (by decide +kernel)
      | 2, 4, _, _ => exact hs _ (by decide +kernel)
      | 3, 4, _, _ => exact hs _ (by decide +kernel)
      | i + 4, j, h1, h2 => omega
    intro i j hi hj hne
    rcases Nat.lt_or_ge i j with h | h
    · exact Or.inl (key i j h hj)
    · exact Or.inr (key j i (by omega) hi)
theorem nest_known {s : State} {args : Array Value} (hts : ∀ w ∈ lw_tbl, w.before args s = true) : ∀ w ∈ lw_tbl, isNest w = true → va_Nw w s := by
  intro w hw hn
  refine va_Nw.of ?_ (hts w hw)
  cases w <;> first | rfl | (simp [isNest] at hn)
/-- what is known at the law's start -/
theorem start_known (l : Launch) {s : State} {args : Array Value} (hts : ∀ w ∈ lw_tbl, w.before args s = true) (hgv : (Jvm.Cond.and given_1 narrow_1).before args s = true) : ∃ E : EnvT, eL E = l ∧ Kn2 E s ∧ vk_S 5 sLen sByt (sK E) (sV E) (fun q => s.heap.size ≤ q) s s.heap := by
  have hTB : ∀ w ∈ TB, w.before args s = true := fun w hw => hts w (List.mem_filter.mp hw).1
  obtain ⟨d, hd⟩ := Classical.axiomOfChoice (cls_known hTB)
  obtain ⟨a0, a1, a2, h0, h1, h2⟩ := arr_known hts hTB
  obtain ⟨sk, sv, hS, hev⟩ := str_known hgv
  refine ⟨(l, fun k => (d k).1, fun k => (d k).2, fun _ _ => 0, fun i => match i with | 0 => a0 | 1 => a1 | _ => a2, sk, sv), rfl, ⟨⟨⟨fun c q hq => hd c q hq, fun k q hk => ?_⟩, nest_known hts, fun i hi => ?_⟩, va_AO.of (hts _ (tbn 34 (by decide +kernel))), fun C hC => ?_⟩, hS⟩
  · match k, hk with
    | 0, hk => cases hk; exact h0
    | 1, hk => cases hk; exact h1
    | 2, hk => cases hk; exact h2
    | k + 3, hk => simp [tyl] at hk
  · refine vk_R.of (A := args) ?_ (hev i hi)
    match i, hi with
    | 0, _ => exact hts _ (tbn 199 (by decide +kernel))
    | 1, _ => exact hts _ (tbn 200 (by decide +kernel))
    | 2, _ => exact hts _ (tbn 201 (by decide +kernel))
    | 3, _ => exact hts _ (tbn 202 (by decide +kernel))
    | 4, _ => exact hts _ (tbn 258 (by decide +kernel))
  · refine va_Nw.of (A := args) rfl ?_
    obtain ⟨i, hi⟩ := List.getElem?_of_mem hC
    match i, hi with
    | 0, hi => cases hi; exact hts _ (tbn 1070 (by decide +kernel))
    | 1, hi => cases hi; exact hts _ (tbn 1071 (by decide +kernel))
    | 2, hi => cases hi; exact hts _ (tbn 1072 (by decide +kernel))
    | 3, hi => cases hi; exact hts _ (tbn 1073 (by decide +kernel))
    | 4, hi => cases hi; exact hts _ (tbn 1074 (by decide +kernel))
    | k + 5, hi => simp [kdL] at hi
theorem z_known {s : State} {args : Array Value} (hts : ∀ w ∈ lw_tbl, w.before args s = true) (hgv : (Jvm.Cond.and given_1 narrow_1).before args s = true) : va_Z "java/lang/String" "COMPACT_STRINGS" "Z" (.int 1) (fun q => s.heap.size ≤ q) s s.heap ∧ va_Zq "jdk/internal/util/Preconditions" "SIOOBE_FORMATTER" "Ljava/util/function/BiFunction;" (fun q => s.heap.size ≤ q) s s.heap := by
  have hTB : ∀ w ∈ TB, w.before args s = true := fun w hw => hts w (List.mem_filter.mp hw).1
  have hs := flat_of_before _ hgv
  exact ⟨va_Zof (hts _ (tbn 216 (by decide +kernel))) (hTB _ wi_J0) (va_eqi (hs (.eq (.static "java/lang/String" "COMPACT_STRINGS" "Z") (.int 1)) (by decide +kernel))) (fun a ha => Nat.not_le.mpr ha), va_Zqof (hts _ (tbn 232 (by decide +kernel))) (hTB _ wi_J3) (hs _ (by decide +kernel)) (fun a ha => Nat.not_le.mpr ha)⟩
end START
