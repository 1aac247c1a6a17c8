/-! ===== both sides: never, strike, count ===== -/
section PUBD
variable {E : EnvT} {σ : Sg} {Q : Int32 → Sg → Prop} {Qv : Sg → Prop}
/-- the twos that never meet, in their order -/
def nvi (r : Row) (a : Nat) (L : List Nat) : Nat → List Nat
  | 0 => L
  | m + 1 => if mtg r a (a + 1 + m) = 0 then nvi r a L m ++ [10 * a + (a + 1 + m)] else nvi r a L m
def nvo (r : Row) (n : Nat) : Nat → List Nat
  | 0 => []
  | a + 1 => nvi r a (nvo r n a) (n - (a + 1))
theorem nvi_len {r : Row} {a : Nat} {L : List Nat} : ∀ m, (nvi r a L m).length ≤ L.length + m
  | 0 => Nat.le_refl _
  | m + 1 => by
    unfold nvi
    have := nvi_len (r := r) (a := a) (L := L) m
    split
    · rw [List.length_append, List.length_singleton]; omega
    · omega
theorem nvo_len {r : Row} {n : Nat} : ∀ a, (nvo r n a).length ≤ a * n
  | 0 => by simp [nvo]
  | a + 1 => by
    unfold nvo
    have h1 := nvi_len (r := r) (a := a) (L := nvo r n a) (n - (a + 1))
    have h2 := nvo_len (r := r) (n := n) a
    rw [Nat.add_mul, Nat.one_mul]
    omega
theorem nvi_bd {r : Row} {a : Nat} {L : List Nat} (hL : ∀ x ∈ L, x < 100) (ha : a < 6) : ∀ m, a + 1 + m ≤ 6 → ∀ x ∈ nvi r a L m, x < 100
  | 0, _ => hL
  | m + 1, hm => by
    unfold nvi
    split
    · intro x hx
      rcases List.mem_append.mp hx with h | h
      · exact nvi_bd hL ha m (by omega) x h
      · rw [List.mem_singleton.mp h]; omega
    · exact nvi_bd hL ha m (by omega)
theorem nvo_bd {r : Row} {n : Nat} (hn : n ≤ 6) : ∀ a, a ≤ n → ∀ x ∈ nvo r n a, x < 100
  | 0, _ => fun x hx => by simp [nvo] at hx
  | a + 1, ha => by
    unfold nvo
    exact nvi_bd (nvo_bd hn a (by omega)) (by omega) _ (by omega)
theorem head_app {L : List Nat} {x : Nat} : (L ++ [x]).head? = some (L.head?.getD x) := by
  cases L <;> rfl
theorem oI_ne9 {o : Option Nat} (h : ∀ x, o = some x → x < 1000) : oI o = -9 ↔ o = none := by
  cases o with
  | none => exact ⟨fun _ => rfl, fun _ => rfl⟩
  | some x =>
    refine ⟨fun e => ?_, fun e => by cases e⟩
    have h2 : ¬ oI (some x) < 0 := nI_pos (by have := h x rfl; omega)
    rw [e] at h2
    exact absurd (by decide) h2
def vNev (w : Int32) : Int32 := if eith w then 0 else -2
def nevV (r : Row) (n : Nat) (w : Int32) : Int32 := if w = 0 then nI (nvo r n n).length else oI (nvo r n n).head?
theorem len1 {L : List Nat} {x : Nat} : nI (L ++ [x]).length = nI L.length + 1 := by rw [List.length_append, List.length_singleton, nI_1]
theorem sp_X8_never {n : Nat} {w : Int32} (hW : WF (σ 0) n) (Kr : ∀ c, vNev w = c → ¬ c = 0 → Q c (rfs σ 9 c)) (K : vNev w = 0 → Q (nevV (σ 0) n w) σ) : Mi E mX8_never [.ref (ad E 0 0), .int w] σ Q := by
  have hn6 := hW.2.1
  refine Mw_of (L0 := [some (.ref (ad E 0 0)), some (.int w), none, none, none, none]) pn_X8 rfl rfl (Nat.le_of_ble_eq_true rfl) ?_
  refine r_iload_n dX8_never_0 rfl ?_
  refine cS_i1 fX8_isEither lkX8_115 rfl dX8_never_1 (sp_X8_isEither  ?_)
  refine r_if_ne 14 dX8_never_4 rfl (fun h4 => ?_) (fun h4 => ?_)
  · have he : eith w = true := tb_of h4
    have K := K (by unfold vNev; rw [he]; rfl)
    unfold nevV at K
    refine r_iconst (0) dX8_never_14 rfl ?_
    refine r_istore_n_2 dX8_never_15 rfl ?_
    refine r_bipush (-9) dX8_never_16 rfl ?_
    refine r_istore_n_3 dX8_never_18 rfl ?_
    refine r_iconst (0) dX8_never_19 rfl ?_
    refine r_istore_4 dX8_never_20 rfl ?_
    have LOOP : ∀ k, k ≤ n → ∀ y, GW E (ZM E 1 fun v σ' => ∃ r, v = some (.int r) ∧ Q r σ') mX8_never 22 [some (.ref (ad E 0 0)), some (.int w), some (.int (nI (nvo (σ 0) n k).length)), some (.int (oI (nvo (σ 0) n k).head?)), some (.int (nI k)), y] [] σ := by
      refine down ?_ ?_
      · intro y
        refine r_iload dX8_never_22 rfl ?_
        refine r_aload_n dX8_never_24 rfl ?_
        refine getX8_10 rfl dX8_never_25 ?_
        refine getX8_189 (by omega) rfl dX8_never_28 ?_
        rw [hW.1]
        refine r_icmp_ge_N 100 dX8_never_31 rfl (by omega) (by omega) (fun h31 => ?_) (fun h31 => ?_)
        · refine r_iload_n dX8_never_100 rfl ?_
          refine r_if_ne 108 dX8_never_101 rfl (fun h101 => ?_) (fun h101 => ?_)
          · refine r_iload_n dX8_never_108 rfl ?_
            refine r_ireturn rfl (by first | rfl | exact nar_bi _ | assumption) dX8_never_109 ⟨_, rfl, ?_⟩
            rw [if_neg h101] at K
            exact K
          · refine r_iload_n dX8_never_104 rfl ?_
            refine r_goto 109 dX8_never_105 rfl ?_
            refine r_ireturn rfl (by first | rfl | exact nar_bi _ | assumption) dX8_never_109 ⟨_, rfl, ?_⟩
            rw [if_pos h101] at K
            exact K
        · exfalso; omega
      · intro k hk ih y
        rw [nvo] at ih
        have hb := nvo_bd (r := σ 0) hn6 k (by omega)
        generalize nvo (σ 0) n k = L0 at ih hb ⊢
        refine r_iload dX8_never_22 rfl ?_
        refine r_aload_n dX8_never_24 rfl ?_
        refine getX8_10 rfl dX8_never_25 ?_
        refine getX8_189 (by omega) rfl dX8_never_28 ?_
        rw [hW.1]
        refine r_icmp_ge_N 100 dX8_never_31 rfl (by omega) (by omega) (fun h31 => ?_) (fun h31 => ?_)
        · exfalso; omega
        · refine r_iload dX8_never_34 rfl ?_
          refine r_iconst (1) dX8_never_36 rfl ?_
          refine r_iadd dX8_never_37 ?_
          rw [nI_1]
          refine r_istore_5 dX8_never_38 rfl ?_
          have INNER : ∀ b, b ≤ n - (k + 1) → GW E (ZM E 1 fun v σ' => ∃ r, v = some (.int r) ∧ Q r σ') mX8_never 40 [some (.ref (ad E 0 0)), some (.int w), some (.int (nI (nvi (σ 0) k L0 b).length)), some (.int (oI (nvi (σ 0) k L0 b).head?)), some (.int (nI k)), some (.int (nI (k + 1 + b)))] [] σ := by
            refine down ?_ ?_
            · refine r_iload dX8_never_40 rfl ?_
              refine r_aload_n dX8_never_42 rfl ?_
              refine getX8_10 rfl dX8_never_43 ?_
              refine getX8_189 (by omega) rfl dX8_never_46 ?_
              rw [hW.1]
              refine r_icmp_ge_N 94 dX8_never_49 rfl (by omega) (by omega) (fun h49 => ?_) (fun h49 => ?_)
              · refine r_inc1_4 dX8_never_94 rfl ?_
                refine r_goto 22 dX8_never_97 rfl ?_
                exact ih _
              · exfalso; omega
            · intro b hb2 ih2
              have hbd := nvi_bd (r := σ 0) hb (by omega : k < 6) b (by omega)
              rw [nvi] at ih2
              refine r_iload dX8_never_40 rfl ?_
              refine r_aload_n dX8_never_42 rfl ?_
              refine getX8_10 rfl dX8_never_43 ?_
              refine getX8_189 (by omega) rfl dX8_never_46 ?_
              rw [hW.1]
              refine r_icmp_ge_N 94 dX8_never_49 rfl (by omega) (by omega) (fun h49 => ?_) (fun h49 => ?_)
              · exfalso; omega
              · refine r_aload_n dX8_never_52 rfl ?_
                refine getX8_10 rfl dX8_never_53 ?_
                refine r_iload dX8_never_56 rfl ?_
                refine r_iload dX8_never_58 rfl ?_
                refine cVN_i2 fX1_meetings (rcv_1 (by omega)) lkX8_186 rfl dX8_never_60 (sp_X1_meetings (by omega) (by omega) (by omega) ?_)
                refine r_if_ne 88 dX8_never_63 rfl (fun h63 => ?_) (fun h63 => ?_)
                · rw [if_neg h63] at ih2
                  refine r_inc1_5 dX8_never_88 rfl ?_
                  refine r_goto 40 dX8_never_91 rfl ?_
                  exact ih2
                · rw [if_pos h63, len1, head_app] at ih2
                  generalize nvi (σ 0) k L0 b = L1 at ih2 hbd ⊢
                  have hh : ∀ x, L1.head? = some x → x < 1000 := fun x hx => by have := hbd x (List.mem_of_mem_head? hx); omega
                  refine r_iinc_2 dX8_never_66 rfl ?_
                  refine r_iload_n dX8_never_69 rfl ?_
                  refine r_bipush (-9) dX8_never_70 rfl ?_
                  refine r_icmp_ne 86 dX8_never_72 rfl (fun h72 => ?_) (fun h72 => ?_)
                  · have h72 := mt (oI_ne9 hh).mpr h72
                    cases hL : L1.head? with
                    | none => exact absurd hL h72
                    | some z =>
                      rw [hL] at ih2
                      refine r_iload_n dX8_never_86 rfl ?_
                      refine r_istore_n_3 dX8_never_87 rfl ?_
                      refine r_inc1_5 dX8_never_88 rfl ?_
                      refine r_goto 40 dX8_never_91 rfl ?_
                      exact ih2
                  · have h72 := (oI_ne9 hh).mp h72
                    rw [h72] at ih2 ⊢
                    refine r_bipush (10) dX8_never_75 rfl ?_
                    refine r_iload dX8_never_77 rfl ?_
                    refine r_imul dX8_never_79 ?_
                    refine r_iload dX8_never_80 rfl ?_
                    refine r_iadd dX8_never_82 ?_
                    rw [show (10 : Int32) * nI k = nI (10 * k) from pk_mul 10 k, nI_add]
                    refine r_goto 87 dX8_never_83 rfl ?_
                    refine r_istore_n_3 dX8_never_87 rfl ?_
                    refine r_inc1_5 dX8_never_88 rfl ?_
                    refine r_goto 40 dX8_never_91 rfl ?_
                    exact ih2
          exact INNER 0 (by omega)
    exact LOOP 0 (by omega) _
  · have he : eith w = false := (bi_eq0 _).mp h4
    refine r_aload_n dX8_never_7 rfl ?_
    refine r_bipush (-2) dX8_never_8 rfl ?_
    refine cV_i1 fX8_refuse rcv_0 lkX8_52 rfl dX8_never_10 (sp_X8_refuse (Or.inr (Or.inl rfl)) ?_)
    refine r_ireturn rfl (by first | rfl | exact nar_bi _ | assumption) dX8_never_13 ⟨_, rfl, ?_⟩
    exact Kr (-2) (by unfold vNev; rw [he]; rfl) (by decide)
theorem sp_X9_never {n : Nat} {w : Int32} (hW : WF (σ 3) n) (Kr : ∀ c, vNev w = c → ¬ c = 0 → Q c (rfs σ 13 c)) (K : vNev w = 0 → Q (nevV (σ 3) n w) σ) : Mi E mX9_never [.ref (ad E 18 0), .int w] σ Q := by
  have hn6 := hW.2.1
  refine Mw_of (L0 := [some (.ref (ad E 18 0)), some (.int w), none, none, none, none]) pn_X9 rfl rfl (Nat.le_of_ble_eq_true rfl) ?_
  refine r_iload_n dX9_never_0 rfl ?_
  refine r_iconst (0) dX9_never_1 rfl ?_
  refine r_iconst (1) dX9_never_2 rfl ?_
  refine cS_i3 fX9_isIn lkX9_40 rfl dX9_never_3 (sp_X9_isIn  ?_)
  rw [eith_e]
  refine r_if_ne 16 dX9_never_6 rfl (fun h6 => ?_) (fun h6 => ?_)
  · have K := K (by unfold vNev; rw [tb_of h6]; rfl)
    unfold nevV at K
    refine r_iconst (0) dX9_never_16 rfl ?_
    refine r_istore_n_2 dX9_never_17 rfl ?_
    refine r_bipush (-9) dX9_never_18 rfl ?_
    refine r_istore_n_3 dX9_never_20 rfl ?_
    refine r_iconst (0) dX9_never_21 rfl ?_
    refine r_istore_4 dX9_never_22 rfl ?_
    have LOOP : ∀ k, k ≤ n → ∀ y, GW E (ZM E 2 fun v σ' => ∃ r, v = some (.int r) ∧ Q r σ') mX9_never 24 [some (.ref (ad E 18 0)), some (.int w), some (.int (nI (nvo (σ 3) n k).length)), some (.int (oI (nvo (σ 3) n k).head?)), some (.int (nI k)), y] [] σ := by
      refine down ?_ ?_
      · intro y
        refine r_iload dX9_never_24 rfl ?_
        refine r_aload_n dX9_never_26 rfl ?_
        refine getX9_9 rfl dX9_never_27 ?_
        refine r_iconst (0) dX9_never_30 rfl ?_
        refine ld_19 (t := 0)  (by omega) (by omega) dX9_never_31 ?_
        rw [hW.1]
        refine r_icmp_ge_N 98 dX9_never_32 rfl (by omega) (by omega) (fun h32 => ?_) (fun h32 => ?_)
        · refine r_iload_n dX9_never_98 rfl ?_
          refine r_if_ne 106 dX9_never_99 rfl (fun h99 => ?_) (fun h99 => ?_)
          · refine r_iload_n dX9_never_106 rfl ?_
            refine r_ireturn rfl (by first | rfl | exact nar_bi _ | assumption) dX9_never_107 ⟨_, rfl, ?_⟩
            rw [if_neg h99] at K
            exact K
          · refine r_iload_n dX9_never_102 rfl ?_
            refine r_goto 107 dX9_never_103 rfl ?_
            refine r_ireturn rfl (by first | rfl | exact nar_bi _ | assumption) dX9_never_107 ⟨_, rfl, ?_⟩
            rw [if_pos h99] at K
            exact K
        · exfalso; omega
      · intro k hk ih y
        rw [nvo] at ih
        have hlen : (nvo (σ 3) n k).length ≤ 36 := Nat.le_trans (nvo_len k) (Nat.le_trans (Nat.mul_le_mul (by omega : k ≤ 6) hn6) (by omega))
        generalize nvo (σ 3) n k = L0 at ih hlen ⊢
        refine r_iload dX9_never_24 rfl ?_
        refine r_aload_n dX9_never_26 rfl ?_
        refine getX9_9 rfl dX9_never_27 ?_
        refine r_iconst (0) dX9_never_30 rfl ?_
        refine ld_19 (t := 0)  (by omega) (by omega) dX9_never_31 ?_
        rw [hW.1]
        refine r_icmp_ge_N 98 dX9_never_32 rfl (by omega) (by omega) (fun h32 => ?_) (fun h32 => ?_)
        · exfalso; omega
        · refine r_iload dX9_never_35 rfl ?_
          refine r_iconst (1) dX9_never_37 rfl ?_
          refine r_iadd dX9_never_38 ?_
          rw [nI_1]
          refine r_istore_5 dX9_never_39 rfl ?_
          have INNER : ∀ b, b ≤ n - (k + 1) → GW E (ZM E 2 fun v σ' => ∃ r, v = some (.int r) ∧ Q r σ') mX9_never 41 [some (.ref (ad E 18 0)), some (.int w), some (.int (nI (nvi (σ 3) k L0 b).length)), some (.int (oI (nvi (σ 3) k L0 b).head?)), some (.int (nI k)), some (.int (nI (k + 1 + b)))] [] σ := by
            refine down ?_ ?_
            · refine r_iload dX9_never_41 rfl ?_
              refine r_aload_n dX9_never_43 rfl ?_
              refine getX9_9 rfl dX9_never_44 ?_
              refine r_iconst (0) dX9_never_47 rfl ?_
              refine ld_19 (t := 0)  (by omega) (by omega) dX9_never_48 ?_
              rw [hW.1]
              refine r_icmp_ge_N 92 dX9_never_49 rfl (by omega) (by omega) (fun h49 => ?_) (fun h49 => ?_)
              · refine r_inc1_4 dX9_never_92 rfl ?_
                refine r_goto 24 dX9_never_95 rfl ?_
                exact ih _
              · exfalso; omega
            · intro b hb2 ih2
              have hl1 := nvi_len (r := σ 3) (a := k) (L := L0) b
              rw [nvi] at ih2
              refine r_iload dX9_never_41 rfl ?_
              refine r_aload_n dX9_never_43 rfl ?_
              refine getX9_9 rfl dX9_never_44 ?_
              refine r_iconst (0) dX9_never_47 rfl ?_
              refine ld_19 (t := 0)  (by omega) (by omega) dX9_never_48 ?_
              rw [hW.1]
              refine r_icmp_ge_N 92 dX9_never_49 rfl (by omega) (by omega) (fun h49 => ?_) (fun h49 => ?_)
              · exfalso; omega
              · refine r_aload_n dX9_never_52 rfl ?_
                refine r_iload dX9_never_53 rfl ?_
                refine r_iload dX9_never_55 rfl ?_
                refine cV_i2 fX9_bothIn rcv_18 lkX9_164 rfl dX9_never_57 (sp_X9_bothIn (by omega) (by omega) ?_)
                refine r_if_eq 66 dX9_never_60 rfl (fun h60 => ?_) (fun h60 => ?_)
                · rw [if_pos h60, len1, head_app] at ih2
                  generalize nvi (σ 3) k L0 b = L1 at ih2 hl1 ⊢
                  refine r_iload_n dX9_never_66 rfl ?_
                  refine r_if_ne 81 dX9_never_67 rfl (fun h67 => ?_) (fun h67 => ?_)
                  · cases L1 with
                    | nil => exact absurd rfl h67
                    | cons z L2 =>
                      refine r_iload_n dX9_never_81 rfl ?_
                      refine r_istore_n_3 dX9_never_82 rfl ?_
                      refine r_iinc_2 dX9_never_83 rfl ?_
                      refine r_inc1_5 dX9_never_86 rfl ?_
                      refine r_goto 41 dX9_never_89 rfl ?_
                      exact ih2
                  · have h67 : L1.length = 0 := (nI_eq (b := 0) (by omega) (by omega)).mp h67
                    cases L1 with
                    | nil =>
                      refine r_bipush (10) dX9_never_70 rfl ?_
                      refine r_iload dX9_never_72 rfl ?_
                      refine r_imul dX9_never_74 ?_
                      refine r_iload dX9_never_75 rfl ?_
                      refine r_iadd dX9_never_77 ?_
                      rw [show (10 : Int32) * nI k = nI (10 * k) from pk_mul 10 k, nI_add]
                      refine r_goto 82 dX9_never_78 rfl ?_
                      refine r_istore_n_3 dX9_never_82 rfl ?_
                      refine r_iinc_2 dX9_never_83 rfl ?_
                      refine r_inc1_5 dX9_never_86 rfl ?_
                      refine r_goto 41 dX9_never_89 rfl ?_
                      exact ih2
                    | cons z L2 => cases h67
                · rw [if_neg h60] at ih2
                  refine r_goto 86 dX9_never_63 rfl ?_
                  refine r_inc1_5 dX9_never_86 rfl ?_
                  refine r_goto 41 dX9_never_89 rfl ?_
                  exact ih2
          exact INNER 0 (by omega)
    exact LOOP 0 (by omega) _
  · refine r_aload_n dX9_never_9 rfl ?_
    refine r_bipush (-2) dX9_never_10 rfl ?_
    refine cV_i1 fX9_no rcv_18 lkX9_36 rfl dX9_never_12 (sp_X9_no (Or.inr (Or.inl rfl)) ?_)
    refine r_ireturn rfl (by first | rfl | exact nar_bi _ | assumption) dX9_never_15 ⟨_, rfl, ?_⟩
    exact Kr (-2) (by unfold vNev; rw [(bi_eq0 _).mp h6]; rfl) (by decide)
/-- strike -/
def cvo (r : Row) (n : Nat) : Nat → Int32
  | 0 => 0
  | d + 1 => cvo r n d ||| (if inO r (nI d) n = 0 then (1 : Int32) <<< (nI d &&& 31) else 0)
theorem inO_bt {r : Row} {d : Int32} {i : Nat} (hi : i < 32) : ∀ k, k ≤ 6 → bt (inO r d k) i = (decide (i < k) && !tb (r (5 + 5 * i)) d)
  | 0, _ => by rw [inO, b_0]; simp
  | k + 1, hk => by
    rw [inO, b_or, inO_bt hi k (by omega)]
    by_cases hik : i = k
    · subst hik
      cases ht : tb (r (5 + 5 * i)) d with
      | true => simp [b_0]
      | false => simp [b_sl1 (show i < 32 from hi) hi]
    · have e : bt (if tb (r (5 + 5 * k)) d = true then 0 else (1 : Int32) <<< (nI k &&& 31)) i = false := by
        split
        · exact b_0 i
        · rw [b_sl1 (by omega) hi, decide_eq_false hik]
      rw [e, Bool.or_false]
      congr 1
      exact decide_eq_decide.mpr (by omega)
theorem inO_zero {r : Row} {d : Int32} {n : Nat} (hn : n ≤ 6) : inO r d n = 0 ↔ ∀ p, p < n → tb (r (5 + 5 * p)) d = true := by
  constructor
  · intro h p hp
    have := inO_bt (r := r) (d := d) (i := p) (by omega) n hn
    rw [h, b_0, decide_eq_true hp, Bool.true_and] at this
    cases ht : tb (r (5 + 5 * p)) d with
    | true => rfl
    | false => rw [ht] at this; cases this
  · intro h
    refine b_ext (fun i hi => ?_)
    rw [inO_bt hi n hn, b_0]
    by_cases hin : i < n
    · rw [h i hin, Bool.not_true, Bool.and_false]
    · rw [decide_eq_false hin, Bool.false_and]
theorem cvo_bt {r : Row} {n i : Nat} (hi : i < 32) : ∀ d, d ≤ 7 → bt (cvo r n d) i = (decide (i < d) && decide (inO r (nI i) n = 0))
  | 0, _ => by rw [cvo, b_0]; simp
  | d + 1, hd => by
    rw [cvo, b_or, cvo_bt hi d (by omega)]
    by_cases hid : i = d
    · subst hid
      by_cases h0 : inO r (nI i) n = 0
      · rw [if_pos h0, b_sl1 hi hi, decide_eq_true h0]; simp
      · rw [if_neg h0, b_0, decide_eq_false h0]; simp
    · have e : bt (if inO r (nI d) n = 0 then (1 : Int32) <<< (nI d &&& 31) else 0) i = false := by
        split
        · rw [b_sl1 (by omega) hi, decide_eq_false hid]
        · exact b_0 i
      rw [e, Bool.or_false]
      congr 1
      exact decide_eq_decide.mpr (by omega)
theorem cva_bt {r : Row} {i : Nat} (hi : i < 32) : ∀ k, bt (cva r k) i = (decide (i < 7) && decide (∀ p, p < k → bt (r (5 + 5 * p)) i = true))
  | 0 => by
    rw [cva, show (127 : Int32) = nI 127 from rfl, bt_nI hi]
    have : (127).testBit i = decide (i < 7) := by
      rcases (by omega : i < 7 ∨ 7 ≤ i) with h | h
      · rw [decide_eq_true h]
        exact (by decide : ∀ i, i < 7 → (127).testBit i = true) i h
      · rw [decide_eq_false (by omega)]
        exact Nat.testBit_lt_two_pow (Nat.lt_of_lt_of_le (by decide : 127 < 2 ^ 7) (Nat.pow_le_pow_right (by decide) h))
    rw [this]
    simp
  | k + 1 => by
    rw [cva, b_and, cva_bt hi k]
    cases hb : bt (r (5 + 5 * k)) i with
    | true =>
      rw [Bool.and_true]
      congr 1
      refine decide_eq_decide.mpr ⟨fun h p hp => ?_, fun h p hp => h p (by omega)⟩
      by_cases hpk : p = k
      · rw [hpk]; exact hb
      · exact h p (by omega)
    | false =>
      rw [Bool.and_false, decide_eq_false (p := ∀ p, p < k + 1 → _) (fun h => by have := h k (by omega); rw [hb] at this; cases this), Bool.and_false]
theorem cva_cvo {r : Row} {n : Nat} (hn : n ≤ 6) : cva r n = cvo r n 7 := b_ext (fun i hi => by
  rw [cva_bt hi n, cvo_bt hi 7 (by omega)]
  congr 1
  refine decide_eq_decide.mpr ?_
  rw [inO_zero hn]
  constructor
  · intro h p hp
    rw [tb_bt _ hi]
    exact h p hp
  · intro h p hp
    rw [← tb_bt _ hi]
    exact h p hp)
def vStr (w : Int32) : Int32 := if 0 ≤ w ∧ w ≤ 3 then 0 else -2
def strV (r : Row) (n : Nat) (w : Int32) : Int32 := if w = 0 then nI (stk r n 7) else if w = 1 then offO r n (nI (stk r n 7)) else if w = 2 then cvo r n 7 else oI (rst r n)
theorem sp_X8_strike {n : Nat} {w : Int32} (hW : WF (σ 0) n) (Kr : ∀ c, vStr w = c → ¬ c = 0 → Q c (rfs σ 9 c)) (K : vStr w = 0 → Q (strV (σ 0) n w) σ) : Mi E mX8_strike [.ref (ad E 0 0), .int w] σ Q := by
  have hn6 := hW.2.1
  have h7 : ∀ o, o < 6 → R7 (σ 0 (5 + 5 * o)) := fun o ho => (hW.2.2 o ho).2.2.1
  refine Mw_of (L0 := [some (.ref (ad E 0 0)), some (.int w)]) pn_X8 rfl rfl (Nat.le_of_ble_eq_true rfl) ?_
  refine r_iload_n dX8_strike_0 rfl ?_
  by_cases h0 : w = 0
  · subst h0
    refine r_tableIn 31 32 dX8_strike_1 (by decide) (by decide) rfl rfl ?_
    refine r_aload_n dX8_strike_32 rfl ?_
    refine getX8_10 rfl dX8_strike_33 ?_
    refine cVN_i0 fX1_strikeDay (rcv_1 (by omega)) lkX8_174 rfl dX8_strike_36 (sp_X1_strikeDay (by omega) hW.1 hn6 ?_)
    refine r_ireturn rfl (by first | rfl | exact nar_bi _ | assumption) dX8_strike_39 ⟨_, rfl, ?_⟩
    exact K rfl
  by_cases h1 : w = 1
  · subst h1
    refine r_tableIn 39 40 dX8_strike_1 (by decide) (by decide) rfl rfl ?_
    refine r_aload_n dX8_strike_40 rfl ?_
    refine getX8_10 rfl dX8_strike_41 ?_
    refine r_aload_n dX8_strike_44 rfl ?_
    refine getX8_10 rfl dX8_strike_45 ?_
    refine cVN_i0 fX1_strikeDay (rcv_1 (by omega)) lkX8_174 rfl dX8_strike_48 (sp_X1_strikeDay (by omega) hW.1 hn6 ?_)
    refine cVN_i1 fX1_offOn (rcv_1 (by omega)) lkX8_177 rfl dX8_strike_51 (sp_X1_offOn (by omega) hW.1 hn6 ?_)
    refine r_ireturn rfl (by first | rfl | exact nar_bi _ | assumption) dX8_strike_54 ⟨_, rfl, ?_⟩
    exact K rfl
  by_cases h2 : w = 2
  · subst h2
    refine r_tableIn 54 55 dX8_strike_1 (by decide) (by decide) rfl rfl ?_
    refine r_aload_n dX8_strike_55 rfl ?_
    refine getX8_10 rfl dX8_strike_56 ?_
    refine cVN_i0 fX1_coveredByNobody (rcv_1 (by omega)) lkX8_180 rfl dX8_strike_59 (sp_X1_coveredByNobody (by omega) hW.1 hn6 ?_)
    rw [cva_cvo hn6]
    refine r_ireturn rfl (by first | rfl | exact nar_bi _ | assumption) dX8_strike_62 ⟨_, rfl, ?_⟩
    exact K rfl
  by_cases h3 : w = 3
  · subst h3
    refine r_tableIn 62 63 dX8_strike_1 (by decide) (by decide) rfl rfl ?_
    refine r_aload_n dX8_strike_63 rfl ?_
    refine getX8_10 rfl dX8_strike_64 ?_
    refine cVN_i0 fX1_richest (rcv_1 (by omega)) lkX8_183 rfl dX8_strike_67 (sp_X1_richest (by omega) hW.1 hn6 h7 ?_)
    refine r_ireturn rfl (by first | rfl | exact nar_bi _ | assumption) dX8_strike_70 ⟨_, rfl, ?_⟩
    exact K rfl
  have n0 := i32_ne (v := 0) 0 rfl h0
  have n1 := i32_ne (v := 1) 1 rfl h1
  have n2 := i32_ne (v := 2) 2 rfl h2
  have n3 := i32_ne (v := 3) 3 rfl h3
  refine r_tableOut 71 dX8_strike_1 (by omega) rfl ?_
  refine r_aload_n dX8_strike_71 rfl ?_
  refine r_bipush (-2) dX8_strike_72 rfl ?_
  refine cV_i1 fX8_refuse rcv_0 lkX8_52 rfl dX8_strike_74 (sp_X8_refuse (Or.inr (Or.inl rfl)) ?_)
  refine r_ireturn rfl (by first | rfl | exact nar_bi _ | assumption) dX8_strike_77 ⟨_, rfl, ?_⟩
  refine Kr (-2) ?_ (by decide)
  unfold vStr
  rw [if_neg]
  rintro ⟨a, b⟩
  have a := Int32.le_iff_toInt_le.mp a
  have b := Int32.le_iff_toInt_le.mp b
  rw [show (0 : Int32).toInt = 0 from rfl] at a
  rw [show (3 : Int32).toInt = 3 from rfl] at b
  omega
theorem sp_X9_offOn {n : Nat} {d : Int32} (hn : σ 3 0 = nI n) (hn6 : n ≤ 6) (K : Q (offO (σ 3) n d) σ) : Mi E mX9_offOn [.ref (ad E 18 0), .int d] σ Q := by
  refine Mw_of (L0 := [some (.ref (ad E 18 0)), some (.int d)]) pn_X9 rfl rfl (Nat.le_of_ble_eq_true rfl) ?_
  refine r_aload_n dX9_offOn_0 rfl ?_
  refine getX9_9 rfl dX9_offOn_1 ?_
  refine r_iconst (0) dX9_offOn_4 rfl ?_
  refine ld_19 (t := 0)  (by omega) (by omega) dX9_offOn_5 ?_
  rw [hn]
  refine r_aload_n dX9_offOn_6 rfl ?_
  refine getX9_9 rfl dX9_offOn_7 ?_
  refine r_iload_n dX9_offOn_10 rfl ?_
  refine cS_i2 fX9_inOn lkX9_144 rfl dX9_offOn_11 (sp_X9_inOn (by omega) hn hn6 ?_)
  refine cS_i1 fX9_bits lkX9_52 rfl dX9_offOn_14 (sp_X9_bits  ?_)
  refine r_isub dX9_offOn_17 ?_
  refine r_ireturn rfl (by first | rfl | exact nar_bi _ | assumption) dX9_offOn_18 ⟨_, rfl, ?_⟩
  exact K
theorem sp_X9_strike {n : Nat} {w : Int32} (hW : WF (σ 3) n) (Kr : ∀ c, vStr w = c → ¬ c = 0 → Q c (rfs σ 13 c)) (K : vStr w = 0 → Q (strV (σ 3) n w) σ) : Mi E mX9_strike [.ref (ad E 18 0), .int w] σ Q := by
  have hn6 := hW.2.1
  refine Mw_of (L0 := [some (.ref (ad E 18 0)), some (.int w), none, none, none, none]) pn_X9 rfl rfl (Nat.le_of_ble_eq_true rfl) ?_
  refine r_iload_n dX9_strike_0 rfl ?_
  refine r_iconst (0) dX9_strike_1 rfl ?_
  refine r_iconst (3) dX9_strike_2 rfl ?_
  refine cS_i3 fX9_isIn lkX9_40 rfl dX9_strike_3 (sp_X9_isIn  ?_)
  refine r_if_ne 16 dX9_strike_6 rfl (fun h6 => ?_) (fun h6 => ?_)
  · have hw := of_decide_eq_true (tb_of h6)
    have K := K (by unfold vStr; rw [if_pos hw])
    unfold strV at K
    refine r_iconst (0) dX9_strike_16 rfl ?_
    refine r_istore_n_2 dX9_strike_17 rfl ?_
    refine r_iconst (0) dX9_strike_18 rfl ?_
    refine r_istore_n_3 dX9_strike_19 rfl ?_
    refine r_iconst (0) dX9_strike_20 rfl ?_
    refine r_istore_4 dX9_strike_21 rfl ?_
    have L2 : ∀ k, k ≤ n → GW E (ZM E 3 fun v σ' => ∃ r, v = some (.int r) ∧ Q r σ') mX9_strike 83 [some (.ref (ad E 18 0)), some (.int w), some (.int (nI (stk (σ 3) n 7))), some (.int (cvo (σ 3) n 7)), some (.int (oI (rst (σ 3) k))), some (.int (nI k))] [] σ := by
      refine down ?_ ?_
      · refine r_iload dX9_strike_83 rfl ?_
        refine r_aload_n dX9_strike_85 rfl ?_
        refine getX9_9 rfl dX9_strike_86 ?_
        refine r_iconst (0) dX9_strike_89 rfl ?_
        refine ld_19 (t := 0)  (by omega) (by omega) dX9_strike_90 ?_
        rw [hW.1]
        refine r_icmp_ge_N 140 dX9_strike_91 rfl (by omega) (by omega) (fun h91 => ?_) (fun h91 => ?_)
        · refine r_iload_n dX9_strike_140 rfl ?_
          refine r_if_ne 148 dX9_strike_141 rfl (fun h141 => ?_) (fun h141 => ?_)
          · rw [if_neg h141] at K
            refine r_iload_n dX9_strike_148 rfl ?_
            refine r_iconst (1) dX9_strike_149 rfl ?_
            refine r_icmp_ne 161 dX9_strike_150 rfl (fun h150 => ?_) (fun h150 => ?_)
            · rw [if_neg h150] at K
              refine r_iload_n dX9_strike_161 rfl ?_
              refine r_iconst (2) dX9_strike_162 rfl ?_
              refine r_icmp_ne 170 dX9_strike_163 rfl (fun h163 => ?_) (fun h163 => ?_)
              · rw [if_neg h163] at K
                refine r_iload dX9_strike_170 rfl ?_
                refine r_ireturn rfl (by first | rfl | exact nar_bi _ | assumption) dX9_strike_172 ⟨_, rfl, ?_⟩
                exact K
              · rw [if_pos h163] at K
                refine r_iload_n dX9_strike_166 rfl ?_
                refine r_goto 172 dX9_strike_167 rfl ?_
                refine r_ireturn rfl (by first | rfl | exact nar_bi _ | assumption) dX9_strike_172 ⟨_, rfl, ?_⟩
                exact K
            · rw [if_pos h150] at K
              refine r_aload_n dX9_strike_153 rfl ?_
              refine r_iload_n dX9_strike_154 rfl ?_
              refine cV_i1 fX9_offOn rcv_18 lkX9_161 rfl dX9_strike_155 (sp_X9_offOn hW.1 hn6 ?_)
              refine r_goto 172 dX9_strike_158 rfl ?_
              refine r_ireturn rfl (by first | rfl | exact nar_bi _ | assumption) dX9_strike_172 ⟨_, rfl, ?_⟩
              exact K
          · rw [if_pos h141] at K
            refine r_iload_n dX9_strike_144 rfl ?_
            refine r_goto 172 dX9_strike_145 rfl ?_
            refine r_ireturn rfl (by first | rfl | exact nar_bi _ | assumption) dX9_strike_172 ⟨_, rfl, ?_⟩
            exact K
        · exfalso; omega
      · intro k hk ih
        rw [rst] at ih
        refine r_iload dX9_strike_83 rfl ?_
        refine r_aload_n dX9_strike_85 rfl ?_
        refine getX9_9 rfl dX9_strike_86 ?_
        refine r_iconst (0) dX9_strike_89 rfl ?_
        refine ld_19 (t := 0)  (by omega) (by omega) dX9_strike_90 ?_
        rw [hW.1]
        refine r_icmp_ge_N 140 dX9_strike_91 rfl (by omega) (by omega) (fun h91 => ?_) (fun h91 => ?_)
        · exfalso; omega
        · cases hr : rst (σ 3) k with
          | none =>
            rw [hr] at ih
            rw [oI_none]
            refine r_iload dX9_strike_94 rfl ?_
            refine r_if_lt 130 dX9_strike_96 rfl (fun h96 => ?_) (fun h96 => ?_)
            · refine r_iload dX9_strike_130 rfl ?_
              refine r_istore_4 dX9_strike_132 rfl ?_
              refine r_inc1_5 dX9_strike_134 rfl ?_
              refine r_goto 83 dX9_strike_137 rfl ?_
              exact ih
            · exact absurd (by decide) h96
          | some f =>
            have hf := rst_lt _ _ hr
            rw [hr] at ih
            dsimp only at ih
            rw [oI_some]
            refine r_iload dX9_strike_94 rfl ?_
            refine r_if_lt 130 dX9_strike_96 rfl (fun h96 => ?_) (fun h96 => ?_)
            · exact absurd h96 (nI_pos (by omega))
            · refine r_aload_n dX9_strike_99 rfl ?_
              refine getX9_9 rfl dX9_strike_100 ?_
              refine r_iload dX9_strike_103 rfl ?_
              refine r_iconst (2) dX9_strike_105 rfl ?_
              refine cS_i2 fX9_of lkX9_44 rfl dX9_strike_106 (sp_of2  ?_)
              refine ld_19  (by omega) (by omega) dX9_strike_109 ?_
              refine cS_i1 fX9_bits lkX9_52 rfl dX9_strike_110 (sp_X9_bits  ?_)
              refine r_aload_n dX9_strike_113 rfl ?_
              refine getX9_9 rfl dX9_strike_114 ?_
              refine r_iload dX9_strike_117 rfl ?_
              refine r_iconst (2) dX9_strike_119 rfl ?_
              refine cS_i2 fX9_of lkX9_44 rfl dX9_strike_120 (sp_of2  ?_)
              refine ld_19  (by omega) (by omega) dX9_strike_123 ?_
              refine cS_i1 fX9_bits lkX9_52 rfl dX9_strike_124 (sp_X9_bits  ?_)
              refine r_icmp_le 134 dX9_strike_127 rfl (fun h127 => ?_) (fun h127 => ?_)
              · rw [if_neg (Int32.not_lt.mpr h127)] at ih
                refine r_inc1_5 dX9_strike_134 rfl ?_
                refine r_goto 83 dX9_strike_137 rfl ?_
                exact ih
              · rw [if_pos (Int32.not_le.mp h127)] at ih
                refine r_iload dX9_strike_130 rfl ?_
                refine r_istore_4 dX9_strike_132 rfl ?_
                refine r_inc1_5 dX9_strike_134 rfl ?_
                refine r_goto 83 dX9_strike_137 rfl ?_
                exact ih
    have L1 : ∀ k, k ≤ 7 → ∀ y, GW E (ZM E 3 fun v σ' => ∃ r, v = some (.int r) ∧ Q r σ') mX9_strike 23 [some (.ref (ad E 18 0)), some (.int w), some (.int (nI (stk (σ 3) n k))), some (.int (cvo (σ 3) n k)), some (.int (nI k)), y] [] σ := by
      refine down ?_ ?_
      · intro y
        refine r_iload dX9_strike_23 rfl ?_
        refine r_bipush (7) dX9_strike_25 rfl ?_
        refine r_icmp_ge_N (b := 7) 76 dX9_strike_27 rfl (by omega) (by omega) (fun h27 => ?_) (fun h27 => ?_)
        · refine r_bipush (-9) dX9_strike_76 rfl ?_
          refine r_istore_4 dX9_strike_78 rfl ?_
          refine r_iconst (0) dX9_strike_80 rfl ?_
          refine r_istore_5 dX9_strike_81 rfl ?_
          exact L2 0 (by omega)
        · exfalso; omega
      · intro k hk ih y
        rw [stk, cvo] at ih
        have key : GW E (ZM E 3 fun v σ' => ∃ r, v = some (.int r) ∧ Q r σ') mX9_strike 47 [some (.ref (ad E 18 0)), some (.int w), some (.int (nI (if offO (σ 3) n (nI (stk (σ 3) n k)) < offO (σ 3) n (nI k) then k else stk (σ 3) n k))), some (.int (cvo (σ 3) n k)), some (.int (nI k)), y] [] σ := by
          refine r_iload_n dX9_strike_47 rfl ?_
          refine r_aload_n dX9_strike_48 rfl ?_
          refine getX9_9 rfl dX9_strike_49 ?_
          refine r_iload dX9_strike_52 rfl ?_
          refine cS_i2 fX9_inOn lkX9_144 rfl dX9_strike_54 (sp_X9_inOn (by omega) hW.1 hn6 ?_)
          refine r_if_ne 67 dX9_strike_57 rfl (fun h57 => ?_) (fun h57 => ?_)
          · rw [if_neg h57] at ih
            refine r_iconst (0) dX9_strike_67 rfl ?_
            refine r_ior dX9_strike_68 ?_
            refine r_istore_n_3 dX9_strike_69 rfl ?_
            refine r_inc1_4 dX9_strike_70 rfl ?_
            refine r_goto 23 dX9_strike_73 rfl ?_
            exact ih _
          · rw [if_pos h57] at ih
            refine r_iconst (1) dX9_strike_60 rfl ?_
            refine r_iload dX9_strike_61 rfl ?_
            refine r_ishl dX9_strike_63 ?_
            refine r_goto 68 dX9_strike_64 rfl ?_
            refine r_ior dX9_strike_68 ?_
            refine r_istore_n_3 dX9_strike_69 rfl ?_
            refine r_inc1_4 dX9_strike_70 rfl ?_
            refine r_goto 23 dX9_strike_73 rfl ?_
            exact ih _
        refine r_iload dX9_strike_23 rfl ?_
        refine r_bipush (7) dX9_strike_25 rfl ?_
        refine r_icmp_ge_N (b := 7) 76 dX9_strike_27 rfl (by omega) (by omega) (fun h27 => ?_) (fun h27 => ?_)
        · exfalso; omega
        · refine r_aload_n dX9_strike_30 rfl ?_
          refine r_iload dX9_strike_31 rfl ?_
          refine cV_i1 fX9_offOn rcv_18 lkX9_161 rfl dX9_strike_33 (sp_X9_offOn hW.1 hn6 ?_)
          refine r_aload_n dX9_strike_36 rfl ?_
          refine r_iload_n dX9_strike_37 rfl ?_
          refine cV_i1 fX9_offOn rcv_18 lkX9_161 rfl dX9_strike_38 (sp_X9_offOn hW.1 hn6 ?_)
          refine r_icmp_le 47 dX9_strike_41 rfl (fun h41 => ?_) (fun h41 => ?_)
          · rw [if_neg (Int32.not_lt.mpr h41)] at key
            exact key
          · rw [if_pos (Int32.not_le.mp h41)] at key
            refine r_iload dX9_strike_44 rfl ?_
            refine r_istore_n_2 dX9_strike_46 rfl ?_
            exact key
    exact L1 0 (by omega) _
  · have hw := of_decide_eq_false ((bi_eq0 _).mp h6)
    refine r_aload_n dX9_strike_9 rfl ?_
    refine r_bipush (-2) dX9_strike_10 rfl ?_
    refine cV_i1 fX9_no rcv_18 lkX9_36 rfl dX9_strike_12 (sp_X9_no (Or.inr (Or.inl rfl)) ?_)
    refine r_ireturn rfl (by first | rfl | exact nar_bi _ | assumption) dX9_strike_15 ⟨_, rfl, ?_⟩
    exact Kr (-2) (by unfold vStr; rw [if_neg hw]) (by decide)
end PUBD
