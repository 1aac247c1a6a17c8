/-! ===== the law from its entry ===== -/
section WSTART
def sg0 : Sg := fun _ _ => 0
theorem Rel_0 : Rel sg0 := by
  have hW : WF (sg0 0) 0 := ⟨rfl, Nat.zero_le _, fun p hp => ⟨⟨0, by decide, rfl⟩, ⟨0, by decide, rfl⟩, R7_0, ⟨0, by decide, rfl⟩, ⟨0, by decide, rfl⟩⟩⟩
  have hD : DW (sg0 0) := ⟨0, 0, rfl, rfl, by decide, by decide⟩
  exact ⟨0, 0, 0, 0, fun _ => 0, hW, hW, hD, hD, ⟨fun _ => rfl, fun _ => Nat.le_of_ble_eq_true rfl, rfl, by decide⟩, rfl, by decide, rfl, rfl, rfl, rfl, rfl, rfl, rfl, rfl⟩
abbrev GT : Type := (Nat → Nat) × (Nat → Nat) × (Nat → Nat) × (Nat → Nat)
def adF (g : GT) (gm : Nat → Nat) : Nat → Nat → Nat := fun k i => (([[g.2.2.2 0], [g.1 1, g.2.1 1, g.2.2.1 1], [g.1 2, g.2.1 2, g.2.2.1 2], [g.1 3, g.2.1 3, g.2.2.1 3], [g.1 4, g.2.1 4, g.2.2.1 4], [g.1 5, g.2.1 5, g.2.2.1 5], [g.1 6, g.2.1 6, g.2.2.1 6], [g.1 7, g.2.1 7, g.2.2.1 7], [g.1 8, g.2.1 8, g.2.2.1 8], [g.1 9, g.2.1 9, g.2.2.1 9], [g.1 10, g.2.1 10, g.2.2.1 10], [g.1 11, g.2.1 11, g.2.2.1 11], [g.1 12, g.2.1 12, g.2.2.1 12], [g.1 13, g.2.1 13, g.2.2.1 13], [g.2.2.2 14], [g.2.2.2 15], [g.2.2.2 16], [g.2.2.2 17], [gm 44], [0, 0, 0, gm 45, gm 46, gm 47, gm 48], [gm 49], [gm 50], [gm 51], [gm 52]] : List (List Nat)).getD k []).getD i 0
def EW (E : EnvT) (f : Nat → Nat → Nat) : EnvT := (E.1, E.2.1, E.2.2.1, f, E.2.2.2.2)
variable {E : EnvT} {g : GT} {gm : Nat → Nat} {H : Heap}
abbrev made (E : EnvT) (g : GT) (gm : Nat → Nat) : va_W := pidL E g ++ modL E gm
abbrev made3 (E : EnvT) (g : GT) (gm : Nat → Nat) : va_W := (((made E g gm).set 2 (g.1 2, .inl (cA E 2, 6, .inr (.inr (.inr (.inr (fun j => some (adF g gm (3 + j) 0)))))))).set 15 (g.2.1 2, .inl (cA E 2, 6, .inr (.inr (.inr (.inr (fun j => some (adF g gm (3 + j) 1)))))))).set 28 (g.2.2.1 2, .inl (cA E 2, 6, .inr (.inr (.inr (.inr (fun j => some (adF g gm (3 + j) 2)))))))
theorem made3_P (hP : va_P (eD E) vwCl (made E g gm) H) : va_P (eD E) vwCl (made3 E g gm) H := by
  refine P_arr (q0 := 28) (P_arr (q0 := 15) (P_arr (q0 := 2) hP rfl ?_) rfl ?_) rfl ?_
  · intro j hj
    match j, hj with
    | 0, _ => rfl
    | 1, _ => rfl
    | 2, _ => rfl
    | 3, _ => rfl
    | 4, _ => rfl
    | 5, _ => rfl
    | k + 6, h => omega
  · intro j hj
    match j, hj with
    | 0, _ => rfl
    | 1, _ => rfl
    | 2, _ => rfl
    | 3, _ => rfl
    | 4, _ => rfl
    | 5, _ => rfl
    | k + 6, h => omega
  · intro j hj
    match j, hj with
    | 0, _ => rfl
    | 1, _ => rfl
    | 2, _ => rfl
    | 3, _ => rfl
    | 4, _ => rfl
    | 5, _ => rfl
    | k + 6, h => omega
theorem made3_D {A : Nat → Prop} (hD : va_D A (made E g gm)) : va_D A (made3 E g gm) := va_D.set (p := 28) (va_D.set (p := 15) (va_D.set (p := 2) hD rfl) rfl) rfl
set_option maxRecDepth 100000 in
theorem wsx_P (hP : va_P (eD E) vwCl (made E g gm) H) : va_P (eD (EW E (adF g gm))) vwCl (wsx (EW E (adF g gm)) sg0) H := (made3_P hP).sub [0, 1, 14, 27, 2, 15, 28, 3, 16, 29, 4, 17, 30, 5, 18, 31, 6, 19, 32, 7, 20, 33, 8, 21, 34, 9, 22, 35, 10, 23, 36, 11, 24, 37, 12, 25, 38, 13, 26, 39, 40, 41, 42, 43, 44, 45, 46, 47, 48, 49, 50, 51, 52] rfl
set_option maxRecDepth 100000 in
theorem wsx_Dm {A : Nat → Prop} (hD : va_D A (made E g gm)) : va_D A (wsx (EW E (adF g gm)) sg0) := (made3_D hD).sub [0, 1, 14, 27, 2, 15, 28, 3, 16, 29, 4, 17, 30, 5, 18, 31, 6, 19, 32, 7, 20, 33, 8, 21, 34, 9, 22, 35, 10, 23, 36, 11, 24, 37, 12, 25, 38, 13, 26, 39, 40, 41, 42, 43, 44, 45, 46, 47, 48, 49, 50, 51, 52] (by decide) rfl
theorem Dis_of {A : Nat → Prop} {σ : Sg} (hD : va_D A (wsx E σ)) : Dis E := by
  intro q hq r hr h
  obtain ⟨i, hi⟩ := List.getElem?_of_mem hq
  obtain ⟨j, hj⟩ := List.getElem?_of_mem hr
  have hij := hD.1 i j _ _ (wsx_get hi) (wsx_get hj) h
  subst hij
  exact Option.some.inj (hi.symm.trans hj)
theorem Aof_of {A : Nat → Prop} {σ : Sg} (hD : va_D A (wsx E σ)) : ∀ a, Aof E a → A a := by
  rintro a ⟨q, hq, rfl⟩
  obtain ⟨i, hi⟩ := List.getElem?_of_mem hq
  exact hD.2 i _ (wsx_get hi)
abbrev ScW (E : EnvT) (b LN : Nat) (xs : Nat → Int32) (s : State) : Prop := va_X b LN xs s s.heap ∧ b < s.heap.size ∧ vk_S 5 sLen sByt (sK E) (sV E) (fun q => s.heap.size ≤ q) s s.heap ∧ va_Z "java/lang/String" "COMPACT_STRINGS" "Z" (.int 1) (fun q => s.heap.size ≤ q) s s.heap ∧ va_Zq "jdk/internal/util/Preconditions" "SIOOBE_FORMATTER" "Ljava/util/function/BiFunction;" (fun q => s.heap.size ≤ q) s s.heap
abbrev ZW (E : EnvT) (b LN : Nat) (xs : Nat → Int32) (sz : Nat) : NZ := (room_1, sz, fun q => sz ≤ q, fun below args s => lw_Z below args s, ScW E b LN xs)
set_option maxRecDepth 20000 in
theorem law_made {b sz LN : Nat} {xs : Nat → Int32} (K : ∀ (g : GT) (gm : Nat → Nat), NG E (ZW E b LN xs sz) mL 16 [some (.ref b), some (.ref (g.2.2.2 0)), some (.ref (gm 44)), none] [] 53 531 (made E g gm)) : NG E (ZW E b LN xs sz) mL 0 [some (.ref b), none, none, none] [] 0 0 [] := by
  refine n_new (C0 := RX8) (T0 := TX8) (N := 8) (ci := 8) (fs := blX8) tyX8 tyX8_ok wl_X8 wkL_7 wn_X8 wi_X8 rfl blX8_ok (Nat.le_of_ble_eq_true rfl) (Nat.le_of_ble_eq_true rfl) dL_law_0 (fun q => ?_)
  refine n_dup dL_law_3 rfl ?_
  refine n_mk mk_X8 fX8i lkL_9 rfl (Nat.le_of_ble_eq_true rfl) (Nat.le_of_ble_eq_true rfl) dL_law_4 (fun g hg => ?_)
  rw [← hg]
  refine n_astore_1 dL_law_7 rfl ?_
  refine n_new (C0 := RX9) (T0 := TX9) (N := 13) (ci := 9) (fs := blX9) tyX9 tyX9_ok wl_X9 wkL_10 wn_X9 wi_X9 rfl blX9_ok (Nat.le_of_ble_eq_true rfl) (Nat.le_of_ble_eq_true rfl) dL_law_8 (fun q2 => ?_)
  refine n_dup dL_law_11 rfl ?_
  refine n_mk mk_X9 fX9i lkL_12 rfl (Nat.le_of_ble_eq_true rfl) (Nat.le_of_ble_eq_true rfl) dL_law_12 (fun gm hgm => ?_)
  rw [← hgm]
  refine n_astore_2 dL_law_15 rfl ?_
  exact K g gm
/-- the two objects made, the loop: from where all cells stand -/
theorem law_from {b sz LN : Nat} {xs : Nat → Int32} (hL : LN ≤ 3072) (g : GT) (gm : Nat → Nat) : NG E (ZW E b LN xs sz) mL 16 [some (.ref b), some (.ref (g.2.2.2 0)), some (.ref (gm 44)), none] [] 53 531 (made E g gm) := by
  intro p e s m args below meth c H locs ls C hl hP hD hS
  obtain ⟨c1, c2, c3, c4, c5, c6, c7, c8, c9, c10, c11, c12, c13, c14, c15, c16⟩ := id C
  have hP1 := wsx_P hP
  have hD1 := wsx_Dm hD
  have hz : s.heap.size = sz := c10
  have hAo : ∀ a, Aof (EW E (adF g gm)) a → s.heap.size ≤ a := fun a ha => by rw [hz]; exact Aof_of hD1 a ha
  refine va_forget (fun q hq => by rw [hz]; exact hS.2.2 q hq) ?_
  have K : GW (EW E (adF g gm)) (ZL (EW E (adF g gm)) b LN xs) mL 16 [some (.ref b), some (.ref (g.2.2.2 0)), some (.ref (gm 44)), none] [] sg0 := by
    refine r_iconst (nI 0) dL_law_16 rfl ?_
    refine r_istore_n_3 dL_law_17 rfl ?_
    exact law_loop hL (LN + 1) 0 (by omega) (by omega) sg0 Rel_0
  exact K p e s m args below meth c H [] ls ⟨c1, c2, c3, c4, c5, c6, c7, c8.1, ⟨c14.narrow hAo, c15.narrow hAo, c16.narrow hAo⟩, Dis_of hD1, c12, c13, hAo⟩ hl hP1 ⟨hS.1, fun q h1 h2 => hS.2.1 q h1 (by rw [← hz]; exact Nat.not_le.mpr h1), fun q hq => absurd hq List.not_mem_nil⟩
theorem whole_start {p : Program} {e : Env} {s : State} {m : MethodId} {below : List Frame} {meth : Method} {c : Code} (l : Launch) (hflags : l.flags = flags0) {b L : Nat} {xs : Nat → Int32} (hL : L ≤ 3072) (C0 : lw_At p s m meth c b L xs) : W p l e room_1 s m #[Value.ref b] below meth c s.heap [] 0 0 (lw_Z below #[Value.ref b] s) (entryFrame m ([Value.ref b] : List Value).toArray 4) := by
  obtain ⟨hx, hb, hr, hml, hown, hts, hX, hbl, hlocks, hgv⟩ := id C0
  have hTB : ∀ w ∈ TB, w.before #[Value.ref b] s = true := fun w hw => hts w (List.mem_filter.mp hw).1
  obtain ⟨E, rfl, hK, hSt⟩ := start_known l hts hgv
  obtain ⟨hZ, hZq⟩ := z_known hts hgv
  rw [lg_entry_eq]
  have hl := lv_entry ([.ref b]) (n := 4) (Nat.le_of_ble_eq_true rfl)
  exact law_made (E := E) (b := b) (LN := L) (xs := xs) (sz := s.heap.size) (fun g gm => law_from hL g gm) p e s m #[Value.ref b] below meth c s.heap [] _ ⟨hx, hb, hml, hr, hlocks, hown, hTB, hK, fun h => absurd h (by decide +kernel), rfl, fun q hq => hq, hX, hbl, hSt, hZ, hZq⟩ ⟨hl, rfl⟩ (fun i x hx => by simp at hx) ⟨fun i j x y hx => by simp at hx, fun i x hx => by simp at hx⟩ va_S.rf
end WSTART
