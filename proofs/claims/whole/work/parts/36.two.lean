/-! ===== two ===== -/
section TWO
variable {E : EnvT} {σ : Sg} {Q : Int32 → Sg → Prop} {Qv : Sg → Prop}
theorem cV_i6 {Z : ZT} {M M' : MI} {pc index b : Nat} {L : List (Option Value)} {S : List Value} {x0 x1 x2 x3 x4 x5 : Value} (f : SMv M' 6) (hb : Rcv E σ M'.1.cls b) (hw : Cond.methodLink M.1.cls index M'.1 ∈ TB) (ok : cOK M' Z S = true) (d : decode M.2.1 pc = .ok (.invokevirtual index, 3)) (K : Mi E M' [.ref b, x0, x1, x2, x3, x4, x5] σ (fun r σ' => GW E Z M (pc + 3) L (.int r :: S) σ')) : GW E Z M pc L (x5 :: x4 :: x3 :: x2 :: x1 :: x0 :: .ref b :: S) σ := r_cV (As := [x0, x1, x2, x3, x4, x5]) f rfl hb hw ok d K (fun v σ1 h => by obtain ⟨r, rfl, hq⟩ := h; exact hq)
def ux (a b x y : Nat) : Int32 := (nI x <<< (nI a &&& 31)) ||| (nI y <<< (nI b &&& 31))
theorem ux_a : ∀ a, a < 6 → ∀ b, b < 6 → ∀ x, x < 2 → ∀ y, y < 2 → a ≠ b → tb (ux a b x y) (nI a) = decide (x = 1) := by decide +kernel
theorem ux_b : ∀ a, a < 6 → ∀ b, b < 6 → ∀ x, x < 2 → ∀ y, y < 2 → a ≠ b → tb (ux a b x y) (nI b) = decide (y = 1) := by decide +kernel
theorem ux_xa : ∀ a, a < 6 → ∀ b, b < 6 → ∀ x, x < 2 → ∀ y, y < 2 → a ≠ b → ux a b x y ^^^ ((1 : Int32) <<< (nI a &&& 31)) = ux a b (1 - x) y := by decide +kernel
theorem ux_xb : ∀ a, a < 6 → ∀ b, b < 6 → ∀ x, x < 2 → ∀ y, y < 2 → a ≠ b → ux a b x y ^^^ ((1 : Int32) <<< (nI b &&& 31)) = ux a b x (1 - y) := by decide +kernel
def cst (r : Row) (n m p a x b y : Nat) : Int32 := dayN (ux a b x y) n r m (6 + 5 * p) - 2 * (if p = a then nI x else nI y)
def twoP (r : Row) (n m a b k : Nat) : Bool := decide (cst r n m a a (k / 2) b (k % 2) ≤ cst r n m a a (1 - k / 2) b (k % 2)) && decide (cst r n m b a (k / 2) b (k % 2) ≤ cst r n m b a (k / 2) b (1 - k % 2))
def twoK (r : Row) (n m a b : Nat) : Option Nat := fnd (twoP r n m a b) 0 4
def twoV (r : Row) (n m a b : Nat) : Option Nat := (twoK r n m a b).map (fun k => 10 * (k / 2) + k % 2)
def flt (r : Row) (n m p : Nat) (u : Int32) : Int32 := if tb u (nI p) then dayN u n r m (6 + 5 * p) - 2 else dayN u n r m (6 + 5 * p)
theorem flt_a {r : Row} {n m a b x y : Nat} (ha : a < 6) (hb : b < 6) (hx : x < 2) (hy : y < 2) (hab : a ≠ b) : flt r n m a (ux a b x y) = cst r n m a a x b y := by
  unfold flt cst
  rw [ux_a a ha b hb x hx y hy hab, if_pos rfl]
  by_cases h1 : x = 1
  · rw [decide_eq_true h1, h1]; rfl
  · rw [decide_eq_false h1, show x = 0 by omega]
    exact (Int32.sub_zero _).symm
theorem flt_b {r : Row} {n m a b x y : Nat} (ha : a < 6) (hb : b < 6) (hx : x < 2) (hy : y < 2) (hab : a ≠ b) : flt r n m b (ux a b x y) = cst r n m b a x b y := by
  unfold flt cst
  rw [ux_b a ha b hb x hx y hy hab, if_neg (Ne.symm hab)]
  by_cases h1 : y = 1
  · rw [decide_eq_true h1, h1]; rfl
  · rw [decide_eq_false h1, show y = 0 by omega]
    exact (Int32.sub_zero _).symm
theorem sp_X8_feltTired {n m p : Nat} {u : Int32} (hW : WF (σ 0) n) (hm : m ≤ 60) (hp : p < 6) (K : ∀ r1, Q (flt (σ 0) n m p u) (va_up σ 1 r1)) : Mi E mX8_feltTired [.ref (ad E 0 0), .int (nI p), .int u, .int (nI m)] σ Q := by
  unfold flt at K
  refine Mw_of (L0 := [some (.ref (ad E 0 0)), some (.int (nI p)), some (.int u), some (.int (nI m)), none]) pn_X8 rfl rfl (Nat.le_of_ble_eq_true rfl) ?_
  refine r_aload_n dX8_feltTired_0 rfl ?_
  refine getX8_16 rfl dX8_feltTired_1 ?_
  refine r_aload_n dX8_feltTired_4 rfl ?_
  refine getX8_10 rfl dX8_feltTired_5 ?_
  refine cVN_v1 fX1_become (rcv_1 (by omega)) lkX8_63 rfl dX8_feltTired_8 (sp_X1_become (by omega) (by omega) (by omega) ?_)
  refine r_aload_n dX8_feltTired_11 rfl ?_
  refine getX8_16 rfl dX8_feltTired_12 ?_
  refine r_iload_n dX8_feltTired_15 rfl ?_
  refine r_iload_n dX8_feltTired_16 rfl ?_
  refine cVN_i2 fX1_passDays (rcv_1 (by omega)) lkX8_151 rfl dX8_feltTired_17 (sp_X1_passDays (by omega) (by rw [up_at]; exact hW) (by omega) ?_)
  rw [up_at, up_up]
  refine r_pop dX8_feltTired_20 rfl ?_
  refine r_iload_n dX8_feltTired_21 rfl ?_
  refine r_iload_n dX8_feltTired_22 rfl ?_
  refine cS_i2 fX8_hasBit lkX8_262 rfl dX8_feltTired_23 (sp_X8_hasBit  ?_)
  refine r_istore_4 dX8_feltTired_26 rfl ?_
  refine r_iload dX8_feltTired_28 rfl ?_
  refine r_if_eq 47 dX8_feltTired_30 rfl (fun h30 => ?_) (fun h30 => ?_)
  · rw [(bi_eq0 _).mp h30] at K
    refine r_aload_n dX8_feltTired_47 rfl ?_
    refine getX8_16 rfl dX8_feltTired_48 ?_
    refine getX8_100 (by omega) rfl dX8_feltTired_51 ?_
    refine r_iload_n dX8_feltTired_54 rfl ?_
    refine ld_12  (by omega) (by omega) dX8_feltTired_55 ?_
    rw [up_at]
    refine r_ireturn rfl (by first | rfl | exact nar_bi _ | assumption) dX8_feltTired_56 ⟨_, rfl, ?_⟩
    exact K _
  · rw [tb_of h30] at K
    refine r_aload_n dX8_feltTired_33 rfl ?_
    refine getX8_16 rfl dX8_feltTired_34 ?_
    refine getX8_100 (by omega) rfl dX8_feltTired_37 ?_
    refine r_iload_n dX8_feltTired_40 rfl ?_
    refine ld_12  (by omega) (by omega) dX8_feltTired_41 ?_
    rw [up_at]
    refine r_iconst (2) dX8_feltTired_42 rfl ?_
    refine r_isub dX8_feltTired_43 ?_
    refine r_goto 56 dX8_feltTired_44 rfl ?_
    refine r_ireturn rfl (by first | rfl | exact nar_bi _ | assumption) dX8_feltTired_56 ⟨_, rfl, ?_⟩
    exact K _
theorem sp_X8_keepsTo {n m p : Nat} {u : Int32} (hW : WF (σ 0) n) (hm : m ≤ 60) (hp : p < 6) (K : ∀ r1, Q (bi (decide (flt (σ 0) n m p u ≤ flt (σ 0) n m p (u ^^^ ((1 : Int32) <<< (nI p &&& 31)))))) (va_up σ 1 r1)) : Mi E mX8_keepsTo [.ref (ad E 0 0), .int (nI p), .int u, .int (nI m)] σ Q := by
  refine Mw_of (L0 := [some (.ref (ad E 0 0)), some (.int (nI p)), some (.int u), some (.int (nI m))]) pn_X8 rfl rfl (Nat.le_of_ble_eq_true rfl) ?_
  refine r_aload_n dX8_keepsTo_0 rfl ?_
  refine r_iload_n dX8_keepsTo_1 rfl ?_
  refine r_iload_n dX8_keepsTo_2 rfl ?_
  refine r_iload_n dX8_keepsTo_3 rfl ?_
  refine cV_i3 fX8_feltTired rcv_0 lkX8_259 rfl dX8_keepsTo_4 (sp_X8_feltTired hW hm hp (fun r1 => ?_))
  refine r_aload_n dX8_keepsTo_7 rfl ?_
  refine r_iload_n dX8_keepsTo_8 rfl ?_
  refine r_iload_n dX8_keepsTo_9 rfl ?_
  refine r_iconst (1) dX8_keepsTo_10 rfl ?_
  refine r_iload_n dX8_keepsTo_11 rfl ?_
  refine r_ishl dX8_keepsTo_12 ?_
  refine r_ixor dX8_keepsTo_13 ?_
  refine r_iload_n dX8_keepsTo_14 rfl ?_
  refine cV_i3 fX8_feltTired rcv_0 lkX8_259 rfl dX8_keepsTo_15 (sp_X8_feltTired (by rw [up_ne (by omega)]; exact hW) hm hp (fun r2 => ?_))
  rw [up_ne (by omega), up_up]
  refine r_icmp_gt 25 dX8_keepsTo_18 rfl (fun h18 => ?_) (fun h18 => ?_)
  · refine r_iconst (0) dX8_keepsTo_25 rfl ?_
    refine r_ireturn rfl (by first | rfl | exact nar_bi _ | assumption) dX8_keepsTo_26 ⟨_, rfl, ?_⟩
    exact qof (K _) (by rw [decide_eq_false (Int32.not_le.mpr h18)]; rfl) rfl
  · refine r_iconst (1) dX8_keepsTo_21 rfl ?_
    refine r_goto 26 dX8_keepsTo_22 rfl ?_
    refine r_ireturn rfl (by first | rfl | exact nar_bi _ | assumption) dX8_keepsTo_26 ⟨_, rfl, ?_⟩
    exact qof (K _) (by rw [decide_eq_true (Int32.not_lt.mp h18)]; rfl) rfl
theorem sp_X8_two {n : Nat} {p q m : Int32} (hW : WF (σ 0) n) (Kr : ∀ c, vTr n p q m = c → ¬ c = 0 → Q c (rfs σ 9 c)) (K : ∀ a b j, a < n → b < n → p = nI a → q = nI b → j ≤ 30 → m = nI j → vTr n p q m = 0 → ∀ r1, Q (oI (twoV (σ 0) n j a b)) (va_up σ 1 r1)) : Mi E mX8_two [.ref (ad E 0 0), .int p, .int q, .int m] σ Q := by
  have hn6 := hW.2.1
  refine Mw_of (L0 := [some (.ref (ad E 0 0)), some (.int p), some (.int q), some (.int m), none, none, none, none]) pn_X8 rfl rfl (Nat.le_of_ble_eq_true rfl) ?_
  refine r_aload_n dX8_two_0 rfl ?_
  refine r_iload_n dX8_two_1 rfl ?_
  refine r_iload_n dX8_two_2 rfl ?_
  refine cV_i2 fX8_areTwo rcv_0 lkX8_136 rfl dX8_two_3 (sp_X8_areTwo hW.1 ?_)
  refine r_if_ne 15 dX8_two_6 rfl (fun h6 => ?_) (fun h6 => ?_)
  · obtain ⟨a, b, ha, hb, hab, rfl, rfl⟩ := two2_ex (tb_of h6) hn6
    have hv : vTr n (nI a) (nI b) m = outs m 0 30 := by unfold vTr; rw [tb_of h6]; rfl
    refine r_iload_n dX8_two_15 rfl ?_
    refine r_iconst (0) dX8_two_16 rfl ?_
    refine r_bipush (30) dX8_two_17 rfl ?_
    refine cS_i3 fX8_outside lkX8_44 rfl dX8_two_19 (sp_X8_outside  ?_)
    refine r_istore_4 dX8_two_22 rfl ?_
    refine r_iload dX8_two_24 rfl ?_
    refine r_if_eq 36 dX8_two_26 rfl (fun h26 => ?_) (fun h26 => ?_)
    · obtain ⟨j, hj, rfl⟩ := outs_N (b := 30) (by omega) h26
      have K := K a b j ha hb rfl rfl hj rfl (hv.trans h26)
      unfold twoV at K
      refine r_iconst (0) dX8_two_36 rfl ?_
      refine r_istore_5 dX8_two_37 rfl ?_
      have LOOP : ∀ x, x ≤ 2 → ∀ y6 y7 r1, twoK (σ 0) n j a b = fnd (twoP (σ 0) n j a b) (2 * x) (4 - 2 * x) → GW E (ZM E 6 fun v σ' => ∃ r, v = some (.int r) ∧ Q r σ') mX8_two 39 [some (.ref (ad E 0 0)), some (.int (nI a)), some (.int (nI b)), some (.int (nI j)), some (.int (outs (nI j) 0 30)), some (.int (nI x)), y6, y7] [] (va_up σ 1 r1) := by
        refine down ?_ ?_
        · intro y6 y7 r1 hf
          rw [hf] at K
          refine r_iload dX8_two_39 rfl ?_
          refine r_iconst (2) dX8_two_41 rfl ?_
          refine r_icmp_ge_N (b := 2) 108 dX8_two_42 rfl (by omega) (by omega) (fun h42 => ?_) (fun h42 => ?_)
          · refine r_bipush (-9) dX8_two_108 rfl ?_
            refine r_ireturn rfl (by first | rfl | exact nar_bi _ | assumption) dX8_two_110 ⟨_, rfl, ?_⟩
            exact K _
          · exfalso; omega
        · intro x hx ih y6 y7 r1 hf
          refine r_iload dX8_two_39 rfl ?_
          refine r_iconst (2) dX8_two_41 rfl ?_
          refine r_icmp_ge_N (b := 2) 108 dX8_two_42 rfl (by omega) (by omega) (fun h42 => ?_) (fun h42 => ?_)
          · exfalso; omega
          · refine r_iconst (0) dX8_two_45 rfl ?_
            refine r_istore_6 dX8_two_46 rfl ?_
            have INNER : ∀ y, y ≤ 2 → ∀ y7 r1, twoK (σ 0) n j a b = fnd (twoP (σ 0) n j a b) (2 * x + y) (4 - (2 * x + y)) → GW E (ZM E 6 fun v σ' => ∃ r, v = some (.int r) ∧ Q r σ') mX8_two 48 [some (.ref (ad E 0 0)), some (.int (nI a)), some (.int (nI b)), some (.int (nI j)), some (.int (outs (nI j) 0 30)), some (.int (nI x)), some (.int (nI y)), y7] [] (va_up σ 1 r1) := by
              refine down ?_ ?_
              · intro y7 r1 hf2
                refine r_iload dX8_two_48 rfl ?_
                refine r_iconst (2) dX8_two_50 rfl ?_
                refine r_icmp_ge_N (b := 2) 102 dX8_two_51 rfl (by omega) (by omega) (fun h51 => ?_) (fun h51 => ?_)
                · refine r_inc1_5 dX8_two_102 rfl ?_
                  refine r_goto 39 dX8_two_105 rfl ?_
                  exact ih _ _ _ hf2
                · exfalso; omega
              · intro y hy ih2 y7 r1 hf2
                have e0 : (va_up σ 1 r1) 0 = σ 0 := up_ne (by omega)
                have d1 : (2 * x + y) / 2 = x := by omega
                have d2 : (2 * x + y) % 2 = y := by omega
                rw [show 4 - (2 * x + y) = (4 - (2 * x + (y + 1))) + 1 by omega, fnd, show 2 * x + y + 1 = 2 * x + (y + 1) by omega] at hf2
                have hP : twoP (σ 0) n j a b (2 * x + y) = (decide (flt (σ 0) n j a (ux a b x y) ≤ flt (σ 0) n j a (ux a b x y ^^^ ((1 : Int32) <<< (nI a &&& 31)))) && decide (flt (σ 0) n j b (ux a b x y) ≤ flt (σ 0) n j b (ux a b x y ^^^ ((1 : Int32) <<< (nI b &&& 31))))) := by
                  unfold twoP
                  rw [d1, d2, ux_xa a (by omega) b (by omega) x hx y hy hab, ux_xb a (by omega) b (by omega) x hx y hy hab, flt_a (by omega) (by omega) hx hy hab, flt_a (by omega) (by omega) (by omega) hy hab, flt_b (by omega) (by omega) hx hy hab, flt_b (by omega) (by omega) hx (by omega) hab]
                rw [hP] at hf2
                refine r_iload dX8_two_48 rfl ?_
                refine r_iconst (2) dX8_two_50 rfl ?_
                refine r_icmp_ge_N (b := 2) 102 dX8_two_51 rfl (by omega) (by omega) (fun h51 => ?_) (fun h51 => ?_)
                · exfalso; omega
                · refine r_iload dX8_two_54 rfl ?_
                  refine r_iload_n dX8_two_56 rfl ?_
                  refine r_ishl dX8_two_57 ?_
                  refine r_iload dX8_two_58 rfl ?_
                  refine r_iload_n dX8_two_60 rfl ?_
                  refine r_ishl dX8_two_61 ?_
                  refine r_ior dX8_two_62 ?_
                  change GW _ _ _ _ _ [.int (ux a b x y)] _
                  refine r_istore_7 dX8_two_63 rfl ?_
                  refine r_aload_n dX8_two_65 rfl ?_
                  refine r_iload_n dX8_two_66 rfl ?_
                  refine r_iload dX8_two_67 rfl ?_
                  refine r_iload_n dX8_two_69 rfl ?_
                  refine cV_i3 fX8_keepsTo rcv_0 lkX8_220 rfl dX8_two_70 (sp_X8_keepsTo (by rw [e0]; exact hW) (by omega) (by omega) (fun r2 => ?_))
                  rw [e0, up_up]
                  refine r_if_eq 96 dX8_two_73 rfl (fun h73 => ?_) (fun h73 => ?_)
                  · have hb0 := (bi_eq0 _).mp h73
                    rw [hb0, Bool.false_and, if_neg (by decide)] at hf2
                    refine r_inc1_6 dX8_two_96 rfl ?_
                    refine r_goto 48 dX8_two_99 rfl ?_
                    exact ih2 _ _ hf2
                  · rw [tb_of h73, Bool.true_and] at hf2
                    have e0 : (va_up σ 1 r2) 0 = σ 0 := up_ne (by omega)
                    refine r_aload_n dX8_two_76 rfl ?_
                    refine r_iload_n dX8_two_77 rfl ?_
                    refine r_iload dX8_two_78 rfl ?_
                    refine r_iload_n dX8_two_80 rfl ?_
                    refine cV_i3 fX8_keepsTo rcv_0 lkX8_220 rfl dX8_two_81 (sp_X8_keepsTo (by rw [e0]; exact hW) (by omega) (by omega) (fun r3 => ?_))
                    rw [e0, up_up]
                    refine r_if_eq 96 dX8_two_84 rfl (fun h84 => ?_) (fun h84 => ?_)
                    · have hb0 := (bi_eq0 _).mp h84
                      rw [hb0, if_neg (by decide)] at hf2
                      refine r_inc1_6 dX8_two_96 rfl ?_
                      refine r_goto 48 dX8_two_99 rfl ?_
                      exact ih2 _ _ hf2
                    · rw [tb_of h84, if_pos rfl] at hf2
                      rw [hf2] at K
                      refine r_bipush (10) dX8_two_87 rfl ?_
                      refine r_iload dX8_two_89 rfl ?_
                      refine r_imul dX8_two_91 ?_
                      refine r_iload dX8_two_92 rfl ?_
                      refine r_iadd dX8_two_94 ?_
                      refine r_ireturn rfl (by first | rfl | exact nar_bi _ | assumption) dX8_two_95 ⟨_, rfl, ?_⟩
                      refine qof (K _) ?_ rfl
                      show _ = nI (10 * ((2 * x + y) / 2) + (2 * x + y) % 2)
                      rw [d1, d2, ← nI_add, ← pk_mul]
                      rfl
            exact INNER 0 (by omega) _ _ hf
      refine r_sub up_same.symm (LOOP 0 (by omega) _ _ _ rfl)
    · refine r_aload_n dX8_two_29 rfl ?_
      refine r_iload dX8_two_30 rfl ?_
      refine cV_i1 fX8_refuse rcv_0 lkX8_52 rfl dX8_two_32 (sp_X8_refuse (outs_ref h26) ?_)
      refine r_ireturn rfl (by first | rfl | exact nar_bi _ | assumption) dX8_two_35 ⟨_, rfl, ?_⟩
      exact Kr _ hv h26
  · refine r_aload_n dX8_two_9 rfl ?_
    refine r_iconst (-1) dX8_two_10 rfl ?_
    refine cV_i1 fX8_refuse rcv_0 lkX8_52 rfl dX8_two_11 (sp_X8_refuse (Or.inl rfl) ?_)
    refine r_ireturn rfl (by first | rfl | exact nar_bi _ | assumption) dX8_two_14 ⟨_, rfl, ?_⟩
    exact Kr (-1) (by unfold vTr; rw [(bi_eq0 _).mp h6]; rfl) (by decide)
theorem sp_X9_costBy {n m p a x b y : Nat} (hW : WF (σ 3) n) (hm : m ≤ 60) (hp : p < 6) (ha : a < 6) (K : ∀ r4, Q (cst (σ 3) n m p a x b y) (va_up σ 4 r4)) : Mi E mX9_costBy [.ref (ad E 18 0), .int (nI p), .int (nI a), .int (nI x), .int (nI b), .int (nI y), .int (nI m)] σ Q := by
  have hn6 := hW.2.1
  unfold cst at K
  refine Mw_of (L0 := [some (.ref (ad E 18 0)), some (.int (nI p)), some (.int (nI a)), some (.int (nI x)), some (.int (nI b)), some (.int (nI y)), some (.int (nI m)), none]) pn_X9 rfl rfl (Nat.le_of_ble_eq_true rfl) ?_
  refine r_aload_n dX9_costBy_0 rfl ?_
  refine getX9_9 rfl dX9_costBy_1 ?_
  refine r_aload_n dX9_costBy_4 rfl ?_
  refine getX9_13 rfl dX9_costBy_5 ?_
  refine cS_v2 fX9_copies lkX9_129 rfl dX9_costBy_8 (sp_X9_copies (by omega) (by omega) (by omega) ?_)
  refine r_iconst (0) dX9_costBy_11 rfl ?_
  refine r_istore_7 dX9_costBy_12 rfl ?_
  have LOOP : ∀ k, k ≤ m → GW E (ZM E 6 fun v σ' => ∃ r, v = some (.int r) ∧ Q r σ') mX9_costBy 14 [some (.ref (ad E 18 0)), some (.int (nI p)), some (.int (nI a)), some (.int (nI x)), some (.int (nI b)), some (.int (nI y)), some (.int (nI m)), some (.int (nI k))] [] (va_up σ 4 (dayN (ux a b x y) n (σ 3) k)) := by
    refine down ?_ ?_
    · refine r_iload dX9_costBy_14 rfl ?_
      refine r_iload dX9_costBy_16 rfl ?_
      refine r_icmp_ge_N 43 dX9_costBy_18 rfl (by omega) (by omega) (fun h18 => ?_) (fun h18 => ?_)
      · refine r_aload_n dX9_costBy_43 rfl ?_
        refine getX9_13 rfl dX9_costBy_44 ?_
        refine r_iload_n dX9_costBy_47 rfl ?_
        refine r_iconst (3) dX9_costBy_48 rfl ?_
        refine cS_i2 fX9_of lkX9_44 rfl dX9_costBy_49 (sp_of3  ?_)
        refine ld_19  (by omega) (by omega) dX9_costBy_52 ?_
        rw [up_at]
        refine r_iconst (2) dX9_costBy_53 rfl ?_
        refine r_iload_n dX9_costBy_54 rfl ?_
        refine r_iload_n dX9_costBy_55 rfl ?_
        refine r_icmp_ne 63 dX9_costBy_56 rfl (fun h56 => ?_) (fun h56 => ?_)
        · rw [if_neg (fun e => h56 (by rw [e]))] at K
          refine r_iload dX9_costBy_63 rfl ?_
          refine r_imul dX9_costBy_65 ?_
          refine r_isub dX9_costBy_66 ?_
          refine r_ireturn rfl (by first | rfl | exact nar_bi _ | assumption) dX9_costBy_67 ⟨_, rfl, ?_⟩
          exact K _
        · rw [if_pos ((nI_eq (by omega) (by omega)).mp h56)] at K
          refine r_iload_n dX9_costBy_59 rfl ?_
          refine r_goto 65 dX9_costBy_60 rfl ?_
          refine r_imul dX9_costBy_65 ?_
          refine r_isub dX9_costBy_66 ?_
          refine r_ireturn rfl (by first | rfl | exact nar_bi _ | assumption) dX9_costBy_67 ⟨_, rfl, ?_⟩
          exact K _
      · exfalso; omega
    · intro k hk ih
      refine r_iload dX9_costBy_14 rfl ?_
      refine r_iload dX9_costBy_16 rfl ?_
      refine r_icmp_ge_N 43 dX9_costBy_18 rfl (by omega) (by omega) (fun h18 => ?_) (fun h18 => ?_)
      · exfalso; omega
      · refine r_aload_n dX9_costBy_21 rfl ?_
        refine getX9_13 rfl dX9_costBy_22 ?_
        refine r_iload_n dX9_costBy_25 rfl ?_
        refine r_iload_n dX9_costBy_26 rfl ?_
        refine r_ishl dX9_costBy_27 ?_
        refine r_iload dX9_costBy_28 rfl ?_
        refine r_iload dX9_costBy_30 rfl ?_
        refine r_ishl dX9_costBy_32 ?_
        refine r_ior dX9_costBy_33 ?_
        refine cS_v2 fX9_day lkX9_89 rfl dX9_costBy_34 (sp_X9_day (by omega) (by rw [up_at]; exact (dayN_WF hW k).1) hn6 ?_)
        rw [up_at, up_up]
        refine r_inc1_7 dX9_costBy_37 rfl ?_
        refine r_goto 14 dX9_costBy_40 rfl ?_
        exact ih
  exact LOOP 0 (by omega)
theorem sp_X9_two {n : Nat} {p q m : Int32} (hW : WF (σ 3) n) (Kr : ∀ c, vTr n p q m = c → ¬ c = 0 → Q c (rfs σ 13 c)) (K : ∀ a b j, a < n → b < n → p = nI a → q = nI b → j ≤ 30 → m = nI j → vTr n p q m = 0 → ∀ r1, Q (oI (twoV (σ 3) n j a b)) (va_up σ 4 r1)) : Mi E mX9_two [.ref (ad E 18 0), .int p, .int q, .int m] σ Q := by
  have hn6 := hW.2.1
  have NOB : two2 p q n = false → ∀ y4 y5 y6 y7, GW E (ZM E 7 fun v σ' => ∃ r, v = some (.int r) ∧ Q r σ') mX9_two 31 [some (.ref (ad E 18 0)), some (.int p), some (.int q), some (.int m), y4, y5, y6, y7] [] σ := by
    intro hf y4 y5 y6 y7
    refine r_iconst (-1) dX9_two_31 rfl ?_
    refine r_istore_4 dX9_two_32 rfl ?_
    refine r_iload dX9_two_34 rfl ?_
    refine r_if_eq 46 dX9_two_36 rfl (fun h36 => ?_) (fun h36 => ?_)
    · exact absurd h36 (by decide)
    · refine r_aload_n dX9_two_39 rfl ?_
      refine r_iload dX9_two_40 rfl ?_
      refine cV_i1 fX9_no rcv_18 lkX9_36 rfl dX9_two_42 (sp_X9_no (Or.inl rfl) ?_)
      refine r_ireturn rfl (by first | rfl | exact nar_bi _ | assumption) dX9_two_45 ⟨_, rfl, ?_⟩
      exact Kr (-1) (by unfold vTr; rw [hf]; rfl) (by decide)
  refine Mw_of (L0 := [some (.ref (ad E 18 0)), some (.int p), some (.int q), some (.int m), none, none, none, none]) pn_X9 rfl rfl (Nat.le_of_ble_eq_true rfl) ?_
  refine r_aload_n dX9_two_0 rfl ?_
  refine r_iload_n dX9_two_1 rfl ?_
  refine cV_i1 fX9_isWorker rcv_18 lkX9_113 rfl dX9_two_2 (sp_X9_isWorker hW.1 hn6 ?_)
  refine r_if_eq 31 dX9_two_5 rfl (fun h5 => ?_) (fun h5 => ?_)
  · exact NOB (by unfold two2; rw [(bi_eq0 _).mp h5]; rfl) _ _ _ _
  · refine r_aload_n dX9_two_8 rfl ?_
    refine r_iload_n dX9_two_9 rfl ?_
    refine cV_i1 fX9_isWorker rcv_18 lkX9_113 rfl dX9_two_10 (sp_X9_isWorker hW.1 hn6 ?_)
    refine r_if_eq 31 dX9_two_13 rfl (fun h13 => ?_) (fun h13 => ?_)
    · exact NOB (by unfold two2; rw [(bi_eq0 _).mp h13, Bool.and_false]; rfl) _ _ _ _
    · refine r_iload_n dX9_two_16 rfl ?_
      refine r_iload_n dX9_two_17 rfl ?_
      refine r_icmp_eq 31 dX9_two_18 rfl (fun h18 => ?_) (fun h18 => ?_)
      · exact NOB (by unfold two2; rw [h18]; simp) _ _ _ _
      · have ht : two2 p q n = true := by unfold two2; rw [tb_of h5, tb_of h13, beq_eq_false_iff_ne.mpr h18]; rfl
        obtain ⟨a, b, ha, hb, hab, rfl, rfl⟩ := two2_ex ht hn6
        have hv : vTr n (nI a) (nI b) m = outs m 0 30 := by unfold vTr; rw [ht]; rfl
        refine r_iload_n dX9_two_21 rfl ?_
        refine r_iconst (0) dX9_two_22 rfl ?_
        refine r_bipush (30) dX9_two_23 rfl ?_
        refine cS_i3 fX9_wrongBy lkX9_136 rfl dX9_two_25 (sp_X9_wrongBy  ?_)
        refine r_goto 32 dX9_two_28 rfl ?_
        refine r_istore_4 dX9_two_32 rfl ?_
        refine r_iload dX9_two_34 rfl ?_
        refine r_if_eq 46 dX9_two_36 rfl (fun h36 => ?_) (fun h36 => ?_)
        · obtain ⟨j, hj, rfl⟩ := outs_N (b := 30) (by omega) h36
          have K := K a b j ha hb rfl rfl hj rfl (hv.trans h36)
          unfold twoV at K
          refine r_iconst (0) dX9_two_46 rfl ?_
          refine r_istore_5 dX9_two_47 rfl ?_
          have LOOP : ∀ k, k ≤ 4 → ∀ y6 y7 r1, twoK (σ 3) n j a b = fnd (twoP (σ 3) n j a b) k (4 - k) → GW E (ZM E 7 fun v σ' => ∃ r, v = some (.int r) ∧ Q r σ') mX9_two 49 [some (.ref (ad E 18 0)), some (.int (nI a)), some (.int (nI b)), some (.int (nI j)), some (.int (outs (nI j) 0 30)), some (.int (nI k)), y6, y7] [] (va_up σ 4 r1) := by
            refine down ?_ ?_
            · intro y6 y7 r1 hf
              rw [hf] at K
              refine r_iload dX9_two_49 rfl ?_
              refine r_iconst (4) dX9_two_51 rfl ?_
              refine r_icmp_ge_N (b := 4) 140 dX9_two_52 rfl (by omega) (by omega) (fun h52 => ?_) (fun h52 => ?_)
              · refine r_bipush (-9) dX9_two_140 rfl ?_
                refine r_ireturn rfl (by first | rfl | exact nar_bi _ | assumption) dX9_two_142 ⟨_, rfl, ?_⟩
                exact K _
              · exfalso; omega
            · intro k hk ih y6 y7 r1 hf
              have e3 : ∀ r1, (va_up σ 4 r1) 3 = σ 3 := fun r1 => up_ne (by omega)
              have d1 : nI k / 2 = nI (k / 2) := pk_div (d := 2) (by omega) (by omega) (by omega)
              have d2 : nI k - nI k / 2 * 2 = nI (k % 2) := pk_rem (d := 2) (by omega) (by omega) (by omega)
              have s1 : (1 : Int32) - nI (k / 2) = nI (1 - k / 2) := pk_sub (a := 1) (by omega)
              have s2 : (1 : Int32) - nI (k % 2) = nI (1 - k % 2) := pk_sub (a := 1) (by omega)
              rw [show 4 - k = (4 - (k + 1)) + 1 by omega, fnd] at hf
              have hP : twoP (σ 3) n j a b k = (decide (cst (σ 3) n j a a (k / 2) b (k % 2) ≤ cst (σ 3) n j a a (1 - k / 2) b (k % 2)) && decide (cst (σ 3) n j b a (k / 2) b (k % 2) ≤ cst (σ 3) n j b a (k / 2) b (1 - k % 2))) := rfl
              rw [hP] at hf
              refine r_iload dX9_two_49 rfl ?_
              refine r_iconst (4) dX9_two_51 rfl ?_
              refine r_icmp_ge_N (b := 4) 140 dX9_two_52 rfl (by omega) (by omega) (fun h52 => ?_) (fun h52 => ?_)
              · exfalso; omega
              · refine r_iload dX9_two_55 rfl ?_
                refine r_iconst (2) dX9_two_57 rfl ?_
                refine r_idiv dX9_two_58 (by decide) ?_
                rw [d1]
                refine r_istore_6 dX9_two_59 rfl ?_
                refine r_iload dX9_two_61 rfl ?_
                refine r_iconst (2) dX9_two_63 rfl ?_
                refine r_irem dX9_two_64 (by decide) ?_
                rw [d2]
                refine r_istore_7 dX9_two_65 rfl ?_
                refine r_aload_n dX9_two_67 rfl ?_
                refine r_iload_n dX9_two_68 rfl ?_
                refine r_iload_n dX9_two_69 rfl ?_
                refine r_iconst (1) dX9_two_70 rfl ?_
                refine r_iload dX9_two_71 rfl ?_
                refine r_isub dX9_two_73 ?_
                rw [s1]
                refine r_iload_n dX9_two_74 rfl ?_
                refine r_iload dX9_two_75 rfl ?_
                refine r_iload_n dX9_two_77 rfl ?_
                refine cV_i6 fX9_costBy rcv_18 lkX9_176 rfl dX9_two_78 (sp_X9_costBy (by rw [e3]; exact hW) (by omega) (by omega) (by omega) (fun r2 => ?_))
                rw [e3, up_up]
                refine r_aload_n dX9_two_81 rfl ?_
                refine r_iload_n dX9_two_82 rfl ?_
                refine r_iload_n dX9_two_83 rfl ?_
                refine r_iload dX9_two_84 rfl ?_
                refine r_iload_n dX9_two_86 rfl ?_
                refine r_iload dX9_two_87 rfl ?_
                refine r_iload_n dX9_two_89 rfl ?_
                refine cV_i6 fX9_costBy rcv_18 lkX9_176 rfl dX9_two_90 (sp_X9_costBy (by rw [e3]; exact hW) (by omega) (by omega) (by omega) (fun r3 => ?_))
                rw [e3, up_up]
                refine r_icmp_lt 134 dX9_two_93 rfl (fun h93 => ?_) (fun h93 => ?_)
                · rw [decide_eq_false (Int32.not_le.mpr h93), Bool.false_and, if_neg (by decide)] at hf
                  refine r_inc1_5 dX9_two_134 rfl ?_
                  refine r_goto 49 dX9_two_137 rfl ?_
                  exact ih _ _ _ hf
                · rw [decide_eq_true (Int32.not_lt.mp h93), Bool.true_and] at hf
                  refine r_aload_n dX9_two_96 rfl ?_
                  refine r_iload_n dX9_two_97 rfl ?_
                  refine r_iload_n dX9_two_98 rfl ?_
                  refine r_iload dX9_two_99 rfl ?_
                  refine r_iload_n dX9_two_101 rfl ?_
                  refine r_iconst (1) dX9_two_102 rfl ?_
                  refine r_iload dX9_two_103 rfl ?_
                  refine r_isub dX9_two_105 ?_
                  rw [s2]
                  refine r_iload_n dX9_two_106 rfl ?_
                  refine cV_i6 fX9_costBy rcv_18 lkX9_176 rfl dX9_two_107 (sp_X9_costBy (by rw [e3]; exact hW) (by omega) (by omega) (by omega) (fun r4 => ?_))
                  rw [e3, up_up]
                  refine r_aload_n dX9_two_110 rfl ?_
                  refine r_iload_n dX9_two_111 rfl ?_
                  refine r_iload_n dX9_two_112 rfl ?_
                  refine r_iload dX9_two_113 rfl ?_
                  refine r_iload_n dX9_two_115 rfl ?_
                  refine r_iload dX9_two_116 rfl ?_
                  refine r_iload_n dX9_two_118 rfl ?_
                  refine cV_i6 fX9_costBy rcv_18 lkX9_176 rfl dX9_two_119 (sp_X9_costBy (by rw [e3]; exact hW) (by omega) (by omega) (by omega) (fun r5 => ?_))
                  rw [e3, up_up]
                  refine r_icmp_lt 134 dX9_two_122 rfl (fun h122 => ?_) (fun h122 => ?_)
                  · rw [decide_eq_false (Int32.not_le.mpr h122), if_neg (by decide)] at hf
                    refine r_inc1_5 dX9_two_134 rfl ?_
                    refine r_goto 49 dX9_two_137 rfl ?_
                    exact ih _ _ _ hf
                  · rw [decide_eq_true (Int32.not_lt.mp h122), if_pos rfl] at hf
                    rw [hf] at K
                    refine r_bipush (10) dX9_two_125 rfl ?_
                    refine r_iload dX9_two_127 rfl ?_
                    refine r_imul dX9_two_129 ?_
                    refine r_iload dX9_two_130 rfl ?_
                    refine r_iadd dX9_two_132 ?_
                    refine r_ireturn rfl (by first | rfl | exact nar_bi _ | assumption) dX9_two_133 ⟨_, rfl, ?_⟩
                    refine qof (K _) ?_ rfl
                    show _ = nI (10 * (k / 2) + k % 2)
                    rw [← nI_add, ← pk_mul]
                    rfl
          refine r_sub up_same.symm (LOOP 0 (by omega) _ _ _ rfl)
        · refine r_aload_n dX9_two_39 rfl ?_
          refine r_iload dX9_two_40 rfl ?_
          refine cV_i1 fX9_no rcv_18 lkX9_36 rfl dX9_two_42 (sp_X9_no (outs_ref h36) ?_)
          refine r_ireturn rfl (by first | rfl | exact nar_bi _ | assumption) dX9_two_45 ⟨_, rfl, ?_⟩
          exact Kr _ hv h36
end TWO
