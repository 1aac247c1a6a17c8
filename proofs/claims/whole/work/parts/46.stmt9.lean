/-! ===== readsStatement: the twin's ===== -/
section STMT9
variable {E : EnvT} {σ : Sg} {Q : Int32 → Sg → Prop} {Qv : Sg → Prop} {Qr : Nat → Sg → Prop}
def ok1 (c : Nat → Nat) (N s p i : Nat) : Prop := p + 1 + i < N ∧ okn (sby s i) (c (p + 1 + i)) = true
theorem ok_dig {c : Nat → Nat} {N s p i : Nat} (h : sby s i = 48) : ok1 c N s p i ↔ dgt c N (p + 1 + i) := by
  unfold ok1 dgt okn
  rw [h, if_neg (by decide), if_pos rfl, decide_eq_true_eq]
theorem ok_k {c : Nat → Nat} {N s p i : Nat} (h : sby s i = 107) : ok1 c N s p i ↔ (kdo c N (p + 1 + i)).isSome = true := by
  unfold ok1 kdo okn
  rw [h, if_pos rfl]
  by_cases hp : p + 1 + i < N
  · rw [if_pos hp]; exact ⟨fun q => q.2, fun q => ⟨hp, q⟩⟩
  · rw [if_neg hp]; exact ⟨fun q => absurd q.1 hp, fun q => by cases q⟩
theorem ok_s {c : Nat → Nat} {N s p i : Nat} (h : sby s i = 59) : ok1 c N s p i ↔ hr c N (p + 1 + i) = 59 := by
  unfold ok1 hr okn
  rw [h, if_neg (by decide), if_neg (by decide), decide_eq_true_eq]
  by_cases hp : p + 1 + i < N
  · rw [if_pos hp]; exact ⟨fun q => q.2, fun q => ⟨hp, q⟩⟩
  · rw [if_neg hp]; exact ⟨fun q => absurd q.1 hp, fun q => absurd q (by decide)⟩
theorem bad_is {c : Nat → Nat} {N s p i : Nat} (hs : shp (ltr c N p) = s) (hi : i < sln s) (h1 : ∀ j, j < i → ok1 c N s p j) (h2 : ¬ ok1 c N s p i) : bad c N p = some i := by
  unfold bad
  rw [hs]
  refine fnd_is _ _ _ (by omega) (by omega) ?_ (fun j _ hj => ?_)
  · unfold ok1 at h2
    cases hd : decide (p + 1 + i < N) with
    | false => rfl
    | true =>
      have : ¬ okn (sby s i) (c (p + 1 + i)) = true := fun q => h2 ⟨of_decide_eq_true hd, q⟩
      rw [Bool.not_eq_true] at this
      rw [this]; rfl
  · obtain ⟨a, b⟩ := h1 j hj
    rw [decide_eq_true a, b]; rfl
/-- reading a statement goes wrong at w -/
def Wr (c : Nat → Nat) (N p w : Nat) : Prop := (sln (shp (ltr c N p)) = 0 ∧ w = p) ∨ (¬ sln (shp (ltr c N p)) = 0 ∧ ∃ k, bad c N p = some k ∧ w = p + 1 + k)
/-- the numbers of the statement at p -/
def NB (c : Nat → Nat) (p : Nat) (τ : Sg) : Prop := (c p = 119 → τ 14 0 = oI (kd (c (p + 1))) ∧ τ 14 1 = nI (num c (p + 2) 1) ∧ τ 14 2 = nI (num c (p + 3) 3)) ∧ (c p = 111 → τ 14 0 = nI (num c (p + 1) 1) ∧ τ 14 1 = nI (num c (p + 2) 1)) ∧ (c p = 116 → τ 14 0 = nI (num c (p + 1) 1) ∧ τ 14 1 = nI (num c (p + 2) 2)) ∧ (c p = 120 → τ 14 0 = nI (num c (p + 1) 1) ∧ τ 14 1 = nI (num c (p + 2) 1) ∧ τ 14 2 = nI (num c (p + 3) 1)) ∧ (c p = 100 → τ 14 0 = nI (num c (p + 1) 2))
theorem lk4 : ∀ x, x < 256 → Op.lookupswitch.offset [(100, 176), (111, 86), (116, 113), (119, 52), (120, 140)] 186 (nI x).toInt = if x = 119 then 52 else if x = 111 then 86 else if x = 116 then 113 else if x = 120 then 140 else if x = 100 then 176 else 186 := by decide +kernel
theorem sp_X9_readsStatement {c : Nat → Nat} {N p : Nat} (hL : LU σ c N) (hp : σ 15 3 = nI p) (hpN : p ≤ N) (Ks : ∀ τ, TX c N p → ¬ sln (shp (c p)) = 0 → Sm σ τ → τ 15 3 = nI (p + 1 + sln (shp (c p))) → NB c p τ → Q 1 τ) (Kn : ∀ τ w, Wr c N p w → Sm σ τ → τ 15 3 = nI w → Q 0 τ) : Mi E mX9_readsStatement [.ref (ad E 18 0)] σ Q := by
  obtain ⟨l1, l2, l3, l4⟩ := id hL
  have NO : ∀ τ w y1, Wr c N p w → Sm σ τ → τ 15 3 = nI w → GW E (ZM E 2 fun v σ' => ∃ r, v = some (.int r) ∧ Q r σ') mX9_readsStatement 214 [some (.ref (ad E 18 0)), some (.int y1), some (.int 0)] [] τ := by
    intro τ w y1 h1 h2 h3
    refine r_iload_n dX9_readsStatement_214 rfl ?_
    refine r_if_eq 227 dX9_readsStatement_215 rfl (fun h215 => ?_) (fun h215 => ?_)
    · refine r_iconst (0) dX9_readsStatement_227 rfl ?_
      refine r_ireturn rfl (by first | rfl | exact nar_bi _ | assumption) dX9_readsStatement_228 ⟨_, rfl, ?_⟩
      exact Kn τ w h1 h2 h3
    · exact absurd rfl h215
  have OK : ∀ s L τ y1, shp (c p) = s → p < N → sln s = L + 1 → sby s L = 59 → (∀ j, j < L → ok1 c N s p j) → Sm σ τ → τ 15 3 = nI (p + 1 + L) → NB c p τ → GW E (ZM E 2 fun v σ' => ∃ r, v = some (.int r) ∧ Q r σ') mX9_readsStatement 214 [some (.ref (ad E 18 0)), some (.int y1), some (.int 1)] [] τ := by
    intro s L τ y1 hs hpn hsl h59 hok h2 h3 h4
    have h6 := sln_lt s
    have el : ltr c N p = c p := if_pos hpn
    have hLt := LU_Sm hL h2
    refine r_iload_n dX9_readsStatement_214 rfl ?_
    refine r_if_eq 227 dX9_readsStatement_215 rfl (fun h215 => ?_) (fun h215 => ?_)
    · exact absurd h215 (by decide)
    · refine r_aload_n dX9_readsStatement_218 rfl ?_
      refine cV_i0 fX9_here rcv_18 lkX9_99 rfl dX9_readsStatement_219 (sp_X9_here hLt h3 (by omega) ?_)
      refine r_bipush (59) dX9_readsStatement_222 rfl ?_
      refine r_icmp_eq 229 dX9_readsStatement_224 rfl (fun h224 => ?_) (fun h224 => ?_)
      · have hlast : ok1 c N s p L := (ok_s h59).mpr h224
        have hT : TX c N p := ⟨hpn, fun k hk => by
          rw [hs] at hk ⊢
          by_cases e : k = L
          · rw [e]; exact hlast
          · exact hok k (by omega)⟩
        refine r_aload_n dX9_readsStatement_229 rfl ?_
        refine r_dup dX9_readsStatement_230 rfl ?_
        refine getX9_96 rfl dX9_readsStatement_231 ?_
        rw [h3]
        refine r_iconst (1) dX9_readsStatement_234 rfl ?_
        refine r_iadd dX9_readsStatement_235 ?_
        rw [nI_1]
        refine putX9_96 rfl dX9_readsStatement_236 ?_
        refine r_iconst (1) dX9_readsStatement_239 rfl ?_
        refine r_ireturn rfl (by first | rfl | exact nar_bi _ | assumption) dX9_readsStatement_240 ⟨_, rfl, ?_⟩
        refine Ks _ hT (by rw [hs]; omega) (Sm_tr h2 Sm_p) (by rw [s2_p, hs, hsl]; rfl) ?_
        unfold NB at h4 ⊢
        rw [s2_p14]
        exact h4
      · have hlast : ¬ ok1 c N s p L := fun q => h224 ((ok_s h59).mp q)
        refine r_iconst (0) dX9_readsStatement_227 rfl ?_
        refine r_ireturn rfl (by first | rfl | exact nar_bi _ | assumption) dX9_readsStatement_228 ⟨_, rfl, ?_⟩
        exact Kn τ (p + 1 + L) (Or.inr ⟨by rw [el, hs]; omega, L, bad_is (by rw [el]; exact hs) (by omega) hok hlast, rfl⟩) h2 h3
  have WR : ∀ s i τ y1, shp (c p) = s → p < N → ¬ sln s = 0 → i < sln s → (∀ j, j < i → ok1 c N s p j) → ¬ ok1 c N s p i → Sm σ τ → τ 15 3 = nI (p + 1 + i) → GW E (ZM E 2 fun v σ' => ∃ r, v = some (.int r) ∧ Q r σ') mX9_readsStatement 214 [some (.ref (ad E 18 0)), some (.int y1), some (.int 0)] [] τ := by
    intro s i τ y1 hs hpn h0 hi hok hno h2 h3
    have el : ltr c N p = c p := if_pos hpn
    exact NO τ _ y1 (Or.inr ⟨by rw [el, hs]; exact h0, i, bad_is (by rw [el]; exact hs) hi hok hno, rfl⟩) h2 h3
  have S1 : Sm σ (s2 σ 15 3 (nI (p + 1))) := Sm_p
  have L1 := LU_Sm hL S1
  have P1 : (s2 σ 15 3 (nI (p + 1))) 15 3 = nI (p + 1) := s2_p
  have DEF : sln (shp (ltr c N p)) = 0 → ∀ y1 y2, GW E (ZM E 2 fun v σ' => ∃ r, v = some (.int r) ∧ Q r σ') mX9_readsStatement 202 [some (.ref (ad E 18 0)), some (.int y1), y2] [] (s2 σ 15 3 (nI (p + 1))) := by
    intro h0 y1 y2
    refine r_aload_n dX9_readsStatement_202 rfl ?_
    refine r_dup dX9_readsStatement_203 rfl ?_
    refine getX9_96 rfl dX9_readsStatement_204 ?_
    rw [P1]
    refine r_iconst (1) dX9_readsStatement_207 rfl ?_
    refine r_isub dX9_readsStatement_208 ?_
    rw [show nI (p + 1) - 1 = nI p from pk_sub (a := p + 1) (b := 1) (by omega)]
    refine putX9_96 rfl dX9_readsStatement_209 ?_
    refine r_iconst (0) dX9_readsStatement_212 rfl ?_
    refine r_ireturn rfl (by first | rfl | exact nar_bi _ | assumption) dX9_readsStatement_213 ⟨_, rfl, ?_⟩
    exact Kn _ p (Or.inl ⟨h0, rfl⟩) (Sm_tr S1 Sm_p) s2_p
  refine Mw_of (L0 := [some (.ref (ad E 18 0)), none, none]) pn_X9 rfl rfl (Nat.le_of_ble_eq_true rfl) ?_
  refine r_aload_n dX9_readsStatement_0 rfl ?_
  refine cV_i0 fX9_here rcv_18 lkX9_99 rfl dX9_readsStatement_1 (sp_X9_here hL hp (by omega) ?_)
  refine r_istore_n_1 dX9_readsStatement_4 rfl ?_
  refine r_aload_n dX9_readsStatement_5 rfl ?_
  refine r_dup dX9_readsStatement_6 rfl ?_
  refine getX9_96 rfl dX9_readsStatement_7 ?_
  rw [hp]
  refine r_iconst (1) dX9_readsStatement_10 rfl ?_
  refine r_iadd dX9_readsStatement_11 ?_
  rw [nI_1]
  refine putX9_96 rfl dX9_readsStatement_12 ?_
  refine r_iload_n dX9_readsStatement_15 rfl ?_
  by_cases hpn : p < N
  · have el : ltr c N p = c p := if_pos hpn
    have eh : hr c N p = nI (c p) := if_pos hpn
    rw [eh]
    have e := lk4 (c p) (l2 p)
    by_cases h1 : c p = 119
    · rw [if_pos h1] at e
      have hs : shp (c p) = 0 := by rw [h1]; rfl
      have F0 : ∀ i τ, i < 6 → (∀ j, j < i → ok1 c N 0 p j) → ¬ ok1 c N 0 p i → Sm σ τ → τ 15 3 = nI (p + 1 + i) → GW E (ZM E 2 fun v σ' => ∃ r, v = some (.int r) ∧ Q r σ') mX9_readsStatement 97 [some (.ref (ad E 18 0)), some (.int (nI (c p))), none] [] τ := by
        intro i τ hi a1 a2 a3 a4
        refine r_iconst (0) dX9_readsStatement_97 rfl ?_
        refine r_istore_n_2 dX9_readsStatement_98 rfl ?_
        refine r_goto 214 dX9_readsStatement_99 rfl ?_
        exact WR 0 i τ _ hs hpn (by decide) hi a1 a2 a3 a4
      refine r_lookup 52 68 dX9_readsStatement_16 (by decide) e rfl ?_
      refine r_aload_n dX9_readsStatement_68 rfl ?_
      refine cV_i0 fX9_readsKind rcv_18 lkX9_106 rfl dX9_readsStatement_69 (sp_X9_readsKind L1 P1 (by omega) (fun k τ hk sm pl nm => ?_) (fun τ hk sm pl => ?_))
      · have o0 : ok1 c N 0 p 0 := (ok_k rfl).mpr (by rw [Nat.add_zero, hk]; rfl)
        have hk' : oI (kd (c (p + 1))) = nI k := by
          unfold kdo at hk
          rw [if_pos o0.1] at hk
          rw [hk]; rfl
        have smA := Sm_tr S1 sm
        refine r_if_eq 97 dX9_readsStatement_72 rfl (fun h72 => ?_) (fun h72 => ?_)
        · exact absurd h72 (by decide)
        · refine r_aload_n dX9_readsStatement_75 rfl ?_
          refine r_iconst (1) dX9_readsStatement_76 rfl ?_
          refine r_iconst (1) dX9_readsStatement_77 rfl ?_
          refine cV_i2 fX9_readsNumber rcv_18 lkX9_110 rfl dX9_readsStatement_78 (sp_X9_readsNumber (q := 1) (d := 1) (LU_Sm hL smA) pl (by omega) (by omega) (by omega) (fun τ2 hd2 sm2 pl2 nm2 nn2 => ?_) (fun τ2 i2 hi2 hd2 hn2 sm2 pl2 => ?_))
          · have smB := Sm_tr smA sm2
            have o1 : ok1 c N 0 p 1 := (ok_dig rfl).mpr (hd2 0 (by omega))
            refine r_if_eq 97 dX9_readsStatement_81 rfl (fun h81 => ?_) (fun h81 => ?_)
            · exact absurd h81 (by decide)
            · refine r_aload_n dX9_readsStatement_84 rfl ?_
              refine r_iconst (2) dX9_readsStatement_85 rfl ?_
              refine r_iconst (3) dX9_readsStatement_86 rfl ?_
              refine cV_i2 fX9_readsNumber rcv_18 lkX9_110 rfl dX9_readsStatement_87 (sp_X9_readsNumber (q := 2) (d := 3) (LU_Sm hL smB) pl2 (by omega) (by omega) (by omega) (fun τ3 hd3 sm3 pl3 nm3 nn3 => ?_) (fun τ3 i3 hi3 hd3 hn3 sm3 pl3 => ?_))
              · have smC := Sm_tr smB sm3
                have o2 : ok1 c N 0 p 2 := (ok_dig rfl).mpr (hd3 0 (by omega))
                have o3 : ok1 c N 0 p 3 := (ok_dig rfl).mpr (hd3 1 (by omega))
                have o4 : ok1 c N 0 p 4 := (ok_dig rfl).mpr (hd3 2 (by omega))
                refine r_if_eq 97 dX9_readsStatement_90 rfl (fun h90 => ?_) (fun h90 => ?_)
                · exact absurd h90 (by decide)
                · refine r_iconst (1) dX9_readsStatement_93 rfl ?_
                  refine r_goto 98 dX9_readsStatement_94 rfl ?_
                  refine r_istore_n_2 dX9_readsStatement_98 rfl ?_
                  refine r_goto 214 dX9_readsStatement_99 rfl ?_
                  refine OK 0 5 τ3 _ hs hpn rfl rfl (fun j hj => ?_) smC pl3 ⟨fun _ => ⟨?_, ?_, nm3⟩, fun q => absurd (h1.symm.trans q) (by decide), fun q => absurd (h1.symm.trans q) (by decide), fun q => absurd (h1.symm.trans q) (by decide), fun q => absurd (h1.symm.trans q) (by decide)⟩
                  · rcases (by omega : j = 0 ∨ j = 1 ∨ j = 2 ∨ j = 3 ∨ j = 4) with rfl | rfl | rfl | rfl | rfl
                    · exact o0
                    · exact o1
                    · exact o2
                    · exact o3
                    · exact o4
                  · rw [nn3 0 (by omega), nn2 0 (by omega), nm, hk']
                  · rw [nn3 1 (by omega), nm2]
              · have smC := Sm_tr smB sm3
                have hno : ¬ ok1 c N 0 p (2 + i3) := fun q => hn3 (by
                  have := (ok_dig (by rcases (by omega : i3 = 0 ∨ i3 = 1 ∨ i3 = 2) with rfl | rfl | rfl <;> rfl)).mp q
                  rw [show p + 1 + (2 + i3) = p + 1 + 1 + 1 + i3 by omega] at this
                  exact this)
                refine r_if_eq 97 dX9_readsStatement_90 rfl (fun h90 => ?_) (fun h90 => ?_)
                · refine F0 (2 + i3) τ3 (by omega) (fun j hj => ?_) hno smC (by rw [pl3]; congr 1; omega)
                  by_cases q0 : j = 0
                  · rw [q0]; exact o0
                  · by_cases q1 : j = 1
                    · rw [q1]; exact o1
                    · refine (ok_dig (by rcases (by omega : j = 2 ∨ j = 3 ∨ j = 4) with rfl | rfl | rfl <;> rfl)).mpr ?_
                      have := hd3 (j - 2) (by omega)
                      rw [show p + 1 + 1 + 1 + (j - 2) = p + 1 + j by omega] at this
                      exact this
                · exact absurd rfl h90
          · have hi0 : i2 = 0 := by omega
            rw [hi0] at hn2 pl2
            have hno : ¬ ok1 c N 0 p 1 := fun q => hn2 ((ok_dig (s := 0) (p := p) (i := 1) rfl).mp q)
            refine r_if_eq 97 dX9_readsStatement_81 rfl (fun h81 => ?_) (fun h81 => ?_)
            · refine F0 1 τ2 (by omega) (fun j hj => ?_) hno (Sm_tr smA sm2) pl2
              rw [show j = 0 by omega]; exact o0
            · exact absurd rfl h81
      · have hno : ¬ ok1 c N 0 p 0 := fun q => by
          have := (ok_k rfl).mp q
          rw [Nat.add_zero, hk] at this
          cases this
        refine r_if_eq 97 dX9_readsStatement_72 rfl (fun h72 => ?_) (fun h72 => ?_)
        · exact F0 0 τ (by omega) (fun j hj => by omega) hno (Sm_tr S1 sm) pl
        · exact absurd rfl h72
    · rw [if_neg h1] at e
      by_cases h2 : c p = 111
      · rw [if_pos h2] at e
        have hs : shp (c p) = 1 := by rw [h2]; rfl
        have F0 : ∀ i τ, i < 3 → (∀ j, j < i → ok1 c N 1 p j) → ¬ ok1 c N 1 p i → Sm σ τ → τ 15 3 = nI (p + 1 + i) → GW E (ZM E 2 fun v σ' => ∃ r, v = some (.int r) ∧ Q r σ') mX9_readsStatement 124 [some (.ref (ad E 18 0)), some (.int (nI (c p))), none] [] τ := by
          intro i τ hi a1 a2 a3 a4
          refine r_iconst (0) dX9_readsStatement_124 rfl ?_
          refine r_istore_n_2 dX9_readsStatement_125 rfl ?_
          refine r_goto 214 dX9_readsStatement_126 rfl ?_
          exact WR 1 i τ _ hs hpn (by decide) hi a1 a2 a3 a4
        refine r_lookup 86 102 dX9_readsStatement_16 (by decide) e rfl ?_
        refine r_aload_n dX9_readsStatement_102 rfl ?_
        refine r_iconst (0) dX9_readsStatement_103 rfl ?_
        refine r_iconst (1) dX9_readsStatement_104 rfl ?_
        refine cV_i2 fX9_readsNumber rcv_18 lkX9_110 rfl dX9_readsStatement_105 (sp_X9_readsNumber (q := 0) (d := 1) L1 P1 (by omega) (by omega) (by omega) (fun τ2 hd2 sm2 pl2 nm2 nn2 => ?_) (fun τ2 i2 hi2 hd2 hn2 sm2 pl2 => ?_))
        · have smB := Sm_tr S1 sm2
          have o0 : ok1 c N 1 p 0 := (ok_dig rfl).mpr (hd2 0 (by omega))
          refine r_if_eq 124 dX9_readsStatement_108 rfl (fun h108 => ?_) (fun h108 => ?_)
          · exact absurd h108 (by decide)
          · refine r_aload_n dX9_readsStatement_111 rfl ?_
            refine r_iconst (1) dX9_readsStatement_112 rfl ?_
            refine r_iconst (1) dX9_readsStatement_113 rfl ?_
            refine cV_i2 fX9_readsNumber rcv_18 lkX9_110 rfl dX9_readsStatement_114 (sp_X9_readsNumber (q := 1) (d := 1) (LU_Sm hL smB) pl2 (by omega) (by omega) (by omega) (fun τ3 hd3 sm3 pl3 nm3 nn3 => ?_) (fun τ3 i3 hi3 hd3 hn3 sm3 pl3 => ?_))
            · have smC := Sm_tr smB sm3
              have o1 : ok1 c N 1 p 1 := (ok_dig rfl).mpr (hd3 0 (by omega))
              refine r_if_eq 124 dX9_readsStatement_117 rfl (fun h117 => ?_) (fun h117 => ?_)
              · exact absurd h117 (by decide)
              · refine r_iconst (1) dX9_readsStatement_120 rfl ?_
                refine r_goto 125 dX9_readsStatement_121 rfl ?_
                refine r_istore_n_2 dX9_readsStatement_125 rfl ?_
                refine r_goto 214 dX9_readsStatement_126 rfl ?_
                refine OK 1 2 τ3 _ hs hpn rfl rfl (fun j hj => ?_) smC pl3 ⟨fun q => absurd (h2.symm.trans q) (by decide), fun _ => ⟨?_, nm3⟩, fun q => absurd (h2.symm.trans q) (by decide), fun q => absurd (h2.symm.trans q) (by decide), fun q => absurd (h2.symm.trans q) (by decide)⟩
                · rcases (by omega : j = 0 ∨ j = 1) with rfl | rfl
                  · exact o0
                  · exact o1
                · rw [nn3 0 (by omega), nm2]
            · have hi0 : i3 = 0 := by omega
              rw [hi0] at hn3 pl3
              have hno : ¬ ok1 c N 1 p 1 := fun q => hn3 ((ok_dig (s := 1) (p := p) (i := 1) rfl).mp q)
              refine r_if_eq 124 dX9_readsStatement_117 rfl (fun h117 => ?_) (fun h117 => ?_)
              · refine F0 1 τ3 (by omega) (fun j hj => ?_) hno (Sm_tr smB sm3) pl3
                rw [show j = 0 by omega]; exact o0
              · exact absurd rfl h117
        · have hi0 : i2 = 0 := by omega
          rw [hi0] at hn2 pl2
          have hno : ¬ ok1 c N 1 p 0 := fun q => hn2 ((ok_dig (s := 1) (p := p) (i := 0) rfl).mp q)
          refine r_if_eq 124 dX9_readsStatement_108 rfl (fun h108 => ?_) (fun h108 => ?_)
          · exact F0 0 τ2 (by omega) (fun j hj => by omega) hno (Sm_tr S1 sm2) pl2
          · exact absurd rfl h108
      · rw [if_neg h2] at e
        by_cases h3 : c p = 116
        · rw [if_pos h3] at e
          have hs : shp (c p) = 2 := by rw [h3]; rfl
          have F0 : ∀ i τ, i < 4 → (∀ j, j < i → ok1 c N 2 p j) → ¬ ok1 c N 2 p i → Sm σ τ → τ 15 3 = nI (p + 1 + i) → GW E (ZM E 2 fun v σ' => ∃ r, v = some (.int r) ∧ Q r σ') mX9_readsStatement 151 [some (.ref (ad E 18 0)), some (.int (nI (c p))), none] [] τ := by
            intro i τ hi a1 a2 a3 a4
            refine r_iconst (0) dX9_readsStatement_151 rfl ?_
            refine r_istore_n_2 dX9_readsStatement_152 rfl ?_
            refine r_goto 214 dX9_readsStatement_153 rfl ?_
            exact WR 2 i τ _ hs hpn (by decide) hi a1 a2 a3 a4
          refine r_lookup 113 129 dX9_readsStatement_16 (by decide) e rfl ?_
          refine r_aload_n dX9_readsStatement_129 rfl ?_
          refine r_iconst (0) dX9_readsStatement_130 rfl ?_
          refine r_iconst (1) dX9_readsStatement_131 rfl ?_
          refine cV_i2 fX9_readsNumber rcv_18 lkX9_110 rfl dX9_readsStatement_132 (sp_X9_readsNumber (q := 0) (d := 1) L1 P1 (by omega) (by omega) (by omega) (fun τ2 hd2 sm2 pl2 nm2 nn2 => ?_) (fun τ2 i2 hi2 hd2 hn2 sm2 pl2 => ?_))
          · have smB := Sm_tr S1 sm2
            have o0 : ok1 c N 2 p 0 := (ok_dig rfl).mpr (hd2 0 (by omega))
            refine r_if_eq 151 dX9_readsStatement_135 rfl (fun h135 => ?_) (fun h135 => ?_)
            · exact absurd h135 (by decide)
            · refine r_aload_n dX9_readsStatement_138 rfl ?_
              refine r_iconst (1) dX9_readsStatement_139 rfl ?_
              refine r_iconst (2) dX9_readsStatement_140 rfl ?_
              refine cV_i2 fX9_readsNumber rcv_18 lkX9_110 rfl dX9_readsStatement_141 (sp_X9_readsNumber (q := 1) (d := 2) (LU_Sm hL smB) pl2 (by omega) (by omega) (by omega) (fun τ3 hd3 sm3 pl3 nm3 nn3 => ?_) (fun τ3 i3 hi3 hd3 hn3 sm3 pl3 => ?_))
              · have smC := Sm_tr smB sm3
                have o1 : ok1 c N 2 p 1 := (ok_dig rfl).mpr (hd3 0 (by omega))
                have o2 : ok1 c N 2 p 2 := (ok_dig rfl).mpr (hd3 1 (by omega))
                refine r_if_eq 151 dX9_readsStatement_144 rfl (fun h144 => ?_) (fun h144 => ?_)
                · exact absurd h144 (by decide)
                · refine r_iconst (1) dX9_readsStatement_147 rfl ?_
                  refine r_goto 152 dX9_readsStatement_148 rfl ?_
                  refine r_istore_n_2 dX9_readsStatement_152 rfl ?_
                  refine r_goto 214 dX9_readsStatement_153 rfl ?_
                  refine OK 2 3 τ3 _ hs hpn rfl rfl (fun j hj => ?_) smC pl3 ⟨fun q => absurd (h3.symm.trans q) (by decide), fun q => absurd (h3.symm.trans q) (by decide), fun _ => ⟨?_, nm3⟩, fun q => absurd (h3.symm.trans q) (by decide), fun q => absurd (h3.symm.trans q) (by decide)⟩
                  · rcases (by omega : j = 0 ∨ j = 1 ∨ j = 2) with rfl | rfl | rfl
                    · exact o0
                    · exact o1
                    · exact o2
                  · rw [nn3 0 (by omega), nm2]
              · have hno : ¬ ok1 c N 2 p (1 + i3) := fun q => hn3 (by
                  have := (ok_dig (by rcases (by omega : i3 = 0 ∨ i3 = 1) with rfl | rfl <;> rfl)).mp q
                  rw [show p + 1 + (1 + i3) = p + 1 + 1 + i3 by omega] at this
                  exact this)
                refine r_if_eq 151 dX9_readsStatement_144 rfl (fun h144 => ?_) (fun h144 => ?_)
                · refine F0 (1 + i3) τ3 (by omega) (fun j hj => ?_) hno (Sm_tr smB sm3) (by rw [pl3]; congr 1; omega)
                  by_cases q0 : j = 0
                  · rw [q0]; exact o0
                  · refine (ok_dig (by rcases (by omega : j = 1 ∨ j = 2) with rfl | rfl <;> rfl)).mpr ?_
                    have := hd3 (j - 1) (by omega)
                    rw [show p + 1 + 1 + (j - 1) = p + 1 + j by omega] at this
                    exact this
                · exact absurd rfl h144
          · have hi0 : i2 = 0 := by omega
            rw [hi0] at hn2 pl2
            have hno : ¬ ok1 c N 2 p 0 := fun q => hn2 ((ok_dig (s := 2) (p := p) (i := 0) rfl).mp q)
            refine r_if_eq 151 dX9_readsStatement_135 rfl (fun h135 => ?_) (fun h135 => ?_)
            · exact F0 0 τ2 (by omega) (fun j hj => by omega) hno (Sm_tr S1 sm2) pl2
            · exact absurd rfl h135
        · rw [if_neg h3] at e
          by_cases h4 : c p = 120
          · rw [if_pos h4] at e
            have hs : shp (c p) = 2 := by rw [h4]; rfl
            have F0 : ∀ i τ, i < 4 → (∀ j, j < i → ok1 c N 2 p j) → ¬ ok1 c N 2 p i → Sm σ τ → τ 15 3 = nI (p + 1 + i) → GW E (ZM E 2 fun v σ' => ∃ r, v = some (.int r) ∧ Q r σ') mX9_readsStatement 187 [some (.ref (ad E 18 0)), some (.int (nI (c p))), none] [] τ := by
              intro i τ hi a1 a2 a3 a4
              refine r_iconst (0) dX9_readsStatement_187 rfl ?_
              refine r_istore_n_2 dX9_readsStatement_188 rfl ?_
              refine r_goto 214 dX9_readsStatement_189 rfl ?_
              exact WR 2 i τ _ hs hpn (by decide) hi a1 a2 a3 a4
            refine r_lookup 140 156 dX9_readsStatement_16 (by decide) e rfl ?_
            refine r_aload_n dX9_readsStatement_156 rfl ?_
            refine r_iconst (0) dX9_readsStatement_157 rfl ?_
            refine r_iconst (1) dX9_readsStatement_158 rfl ?_
            refine cV_i2 fX9_readsNumber rcv_18 lkX9_110 rfl dX9_readsStatement_159 (sp_X9_readsNumber (q := 0) (d := 1) L1 P1 (by omega) (by omega) (by omega) (fun τ2 hd2 sm2 pl2 nm2 nn2 => ?_) (fun τ2 i2 hi2 hd2 hn2 sm2 pl2 => ?_))
            · have smB := Sm_tr S1 sm2
              have o0 : ok1 c N 2 p 0 := (ok_dig rfl).mpr (hd2 0 (by omega))
              refine r_if_eq 187 dX9_readsStatement_162 rfl (fun h162 => ?_) (fun h162 => ?_)
              · exact absurd h162 (by decide)
              · refine r_aload_n dX9_readsStatement_165 rfl ?_
                refine r_iconst (1) dX9_readsStatement_166 rfl ?_
                refine r_iconst (1) dX9_readsStatement_167 rfl ?_
                refine cV_i2 fX9_readsNumber rcv_18 lkX9_110 rfl dX9_readsStatement_168 (sp_X9_readsNumber (q := 1) (d := 1) (LU_Sm hL smB) pl2 (by omega) (by omega) (by omega) (fun τ3 hd3 sm3 pl3 nm3 nn3 => ?_) (fun τ3 i3 hi3 hd3 hn3 sm3 pl3 => ?_))
                · have smC := Sm_tr smB sm3
                  have o1 : ok1 c N 2 p 1 := (ok_dig rfl).mpr (hd3 0 (by omega))
                  refine r_if_eq 187 dX9_readsStatement_171 rfl (fun h171 => ?_) (fun h171 => ?_)
                  · exact absurd h171 (by decide)
                  · refine r_aload_n dX9_readsStatement_174 rfl ?_
                    refine r_iconst (2) dX9_readsStatement_175 rfl ?_
                    refine r_iconst (1) dX9_readsStatement_176 rfl ?_
                    refine cV_i2 fX9_readsNumber rcv_18 lkX9_110 rfl dX9_readsStatement_177 (sp_X9_readsNumber (q := 2) (d := 1) (LU_Sm hL smC) pl3 (by omega) (by omega) (by omega) (fun τ4 hd4 sm4 pl4 nm4 nn4 => ?_) (fun τ4 i4 hi4 hd4 hn4 sm4 pl4 => ?_))
                    · have smD := Sm_tr smC sm4
                      have o2 : ok1 c N 2 p 2 := (ok_dig rfl).mpr (hd4 0 (by omega))
                      refine r_if_eq 187 dX9_readsStatement_180 rfl (fun h180 => ?_) (fun h180 => ?_)
                      · exact absurd h180 (by decide)
                      · refine r_iconst (1) dX9_readsStatement_183 rfl ?_
                        refine r_goto 188 dX9_readsStatement_184 rfl ?_
                        refine r_istore_n_2 dX9_readsStatement_188 rfl ?_
                        refine r_goto 214 dX9_readsStatement_189 rfl ?_
                        refine OK 2 3 τ4 _ hs hpn rfl rfl (fun j hj => ?_) smD pl4 ⟨fun q => absurd (h4.symm.trans q) (by decide), fun q => absurd (h4.symm.trans q) (by decide), fun q => absurd (h4.symm.trans q) (by decide), fun _ => ⟨?_, ?_, nm4⟩, fun q => absurd (h4.symm.trans q) (by decide)⟩
                        · rcases (by omega : j = 0 ∨ j = 1 ∨ j = 2) with rfl | rfl | rfl
                          · exact o0
                          · exact o1
                          · exact o2
                        · rw [nn4 0 (by omega), nn3 0 (by omega), nm2]
                        · rw [nn4 1 (by omega), nm3]
                    · have hi0 : i4 = 0 := by omega
                      rw [hi0] at hn4 pl4
                      have hno : ¬ ok1 c N 2 p 2 := fun q => hn4 ((ok_dig (s := 2) (p := p) (i := 2) rfl).mp q)
                      refine r_if_eq 187 dX9_readsStatement_180 rfl (fun h180 => ?_) (fun h180 => ?_)
                      · refine F0 2 τ4 (by omega) (fun j hj => ?_) hno (Sm_tr smC sm4) pl4
                        rcases (by omega : j = 0 ∨ j = 1) with rfl | rfl
                        · exact o0
                        · exact o1
                      · exact absurd rfl h180
                · have hi0 : i3 = 0 := by omega
                  rw [hi0] at hn3 pl3
                  have hno : ¬ ok1 c N 2 p 1 := fun q => hn3 ((ok_dig (s := 2) (p := p) (i := 1) rfl).mp q)
                  refine r_if_eq 187 dX9_readsStatement_171 rfl (fun h171 => ?_) (fun h171 => ?_)
                  · refine F0 1 τ3 (by omega) (fun j hj => ?_) hno (Sm_tr smB sm3) pl3
                    rw [show j = 0 by omega]; exact o0
                  · exact absurd rfl h171
            · have hi0 : i2 = 0 := by omega
              rw [hi0] at hn2 pl2
              have hno : ¬ ok1 c N 2 p 0 := fun q => hn2 ((ok_dig (s := 2) (p := p) (i := 0) rfl).mp q)
              refine r_if_eq 187 dX9_readsStatement_162 rfl (fun h162 => ?_) (fun h162 => ?_)
              · exact F0 0 τ2 (by omega) (fun j hj => by omega) hno (Sm_tr S1 sm2) pl2
              · exact absurd rfl h162
          · rw [if_neg h4] at e
            by_cases h5 : c p = 100
            · rw [if_pos h5] at e
              have hs : shp (c p) = 1 := by rw [h5]; rfl
              refine r_lookup 176 192 dX9_readsStatement_16 (by decide) e rfl ?_
              refine r_aload_n dX9_readsStatement_192 rfl ?_
              refine r_iconst (0) dX9_readsStatement_193 rfl ?_
              refine r_iconst (2) dX9_readsStatement_194 rfl ?_
              refine cV_i2 fX9_readsNumber rcv_18 lkX9_110 rfl dX9_readsStatement_195 (sp_X9_readsNumber (q := 0) (d := 2) L1 P1 (by omega) (by omega) (by omega) (fun τ2 hd2 sm2 pl2 nm2 nn2 => ?_) (fun τ2 i2 hi2 hd2 hn2 sm2 pl2 => ?_))
              · have smB := Sm_tr S1 sm2
                have o0 : ok1 c N 1 p 0 := (ok_dig rfl).mpr (hd2 0 (by omega))
                have o1 : ok1 c N 1 p 1 := (ok_dig rfl).mpr (hd2 1 (by omega))
                refine r_istore_n_2 dX9_readsStatement_198 rfl ?_
                refine r_goto 214 dX9_readsStatement_199 rfl ?_
                refine OK 1 2 τ2 _ hs hpn rfl rfl (fun j hj => ?_) smB pl2 ⟨fun q => absurd (h5.symm.trans q) (by decide), fun q => absurd (h5.symm.trans q) (by decide), fun q => absurd (h5.symm.trans q) (by decide), fun q => absurd (h5.symm.trans q) (by decide), fun _ => nm2⟩
                rcases (by omega : j = 0 ∨ j = 1) with rfl | rfl
                · exact o0
                · exact o1
              · have hno : ¬ ok1 c N 1 p i2 := fun q => hn2 ((ok_dig (by rcases (by omega : i2 = 0 ∨ i2 = 1) with rfl | rfl <;> rfl)).mp q)
                refine r_istore_n_2 dX9_readsStatement_198 rfl ?_
                refine r_goto 214 dX9_readsStatement_199 rfl ?_
                refine WR 1 i2 τ2 _ hs hpn (by decide) (by show i2 < 3; omega) (fun j hj => ?_) hno (Sm_tr S1 sm2) pl2
                exact (ok_dig (by rcases (by omega : j = 0) with rfl; rfl)).mpr (hd2 j hj)
            · rw [if_neg h5] at e
              refine r_lookup 186 202 dX9_readsStatement_16 (by decide) e rfl ?_
              exact DEF (by
                rw [el]
                unfold shp
                rw [if_neg h1, if_neg (by omega), if_neg (by omega)]
                rfl) _ _
  · have el : ltr c N p = 0 := if_neg hpn
    have eh : hr c N p = -1 := if_neg hpn
    rw [eh]
    refine r_lookup 186 202 dX9_readsStatement_16 (by decide) (by decide) rfl ?_
    exact DEF (by rw [el]; rfl) _ _
end STMT9
