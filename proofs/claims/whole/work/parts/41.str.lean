/-! ===== the strings ===== -/
section STRS
variable {E : EnvT} {Z : ZT} {M : MI} {pc : Nat} {L : List (Option Value)} {S : List Value} {σ : Sg} {Q : Int32 → Sg → Prop} {Qv : Sg → Prop}
theorem r_ldcS {i : Nat} (hi : i < 5) (hM : M.1.cls = RX5) (d : decode M.2.1 pc = .ok (.ldc (44 + 2 * i), 2)) (K : GW E Z M (pc + 2) L (.ref (sK E i) :: S) σ) : GW E Z M pc L S σ := fun p e s m args below meth c H locs ls C hl hP hS => va_ldcS (own := "PaidInDays$Telling") C.1 C.2.1 (by have := C.2.2.2.2.2.1; rw [hM] at this; exact this) (C.2.2.2.2.2.2.2.1.2.2 i hi) d (K p e s m args below meth c H locs ls C hl hP hS)
theorem fwJ0_9 : Cond.fieldLink RJ0 9 RJ0 "value" "[B" ∈ TB := tbw 1075 (by decide +kernel) rfl
theorem fwJ0_15 : Cond.fieldLink RJ0 15 RJ0 "coder" "B" ∈ TB := tbw 1076 (by decide +kernel) rfl
theorem fwJ0_38 : Cond.fieldLink RJ0 38 RJ0 "COMPACT_STRINGS" "Z" ∈ TB := tbw 215 (by decide +kernel) rfl
theorem fwJ0_1053 : Cond.fieldLink RJ0 1053 RJ3 "SIOOBE_FORMATTER" "Ljava/util/function/BiFunction;" ∈ TB := tbw 231 (by decide +kernel) rfl
theorem r_sval {i : Nat} (hi : i < 5) (hM : M.1.cls = RJ0) (d : decode M.2.1 pc = .ok (.getfield 9, 3)) (K : GW E Z M (pc + 3) L (.ref (sV E i) :: S) σ) : GW E Z M pc L (.ref (sK E i) :: S) σ := fun p e s m args below meth c H locs ls C hl hP hS => vk_getf (own := RJ0) (ref := RJ0) C.1 C.2.1 (C.2.2.2.2.2.2.2.2.1.1.1 i hi).2.2.1 hS (by have := C.2.2.2.2.2.1; rw [hM] at this; exact this) (C.2.2.2.2.2.2.1 _ fwJ0_9) (fun _ h => h) d (K p e s m args below meth c H locs ls C hl hP hS)
theorem r_scod {i : Nat} (hi : i < 5) (hM : M.1.cls = RJ0) (d : decode M.2.1 pc = .ok (.getfield 15, 3)) (K : GW E Z M (pc + 3) L (.int 0 :: S) σ) : GW E Z M pc L (.ref (sK E i) :: S) σ := fun p e s m args below meth c H locs ls C hl hP hS => vk_getf (own := RJ0) (ref := RJ0) C.1 C.2.1 (C.2.2.2.2.2.2.2.2.1.1.1 i hi).2.1 hS (by have := C.2.2.2.2.2.1; rw [hM] at this; exact this) (C.2.2.2.2.2.2.1 _ fwJ0_15) (fun _ h => h) d (K p e s m args below meth c H locs ls C hl hP hS)
theorem r_compact (hM : M.1.cls = RJ0) (d : decode M.2.1 pc = .ok (.getstatic 38, 3)) (K : GW E Z M (pc + 3) L (.int 1 :: S) σ) : GW E Z M pc L S σ := fun p e s m args below meth c H locs ls C hl hP hS => va_gets (own := RJ0) (ref := RJ0) C.1 C.2.1 C.2.2.2.2.2.2.2.2.1.2.1 hS (by have := C.2.2.2.2.2.1; rw [hM] at this; exact this) (C.2.2.2.2.2.2.1 _ fwJ0_38) (fun _ h => h) d (K p e s m args below meth c H locs ls C hl hP hS)
theorem r_fmt (hM : M.1.cls = RJ0) (d : decode M.2.1 pc = .ok (.getstatic 1053, 3)) (K0 : GW E Z M (pc + 3) L (.null :: S) σ) (K1 : ∀ t, GW E Z M (pc + 3) L (.ref t :: S) σ) : GW E Z M pc L S σ := fun p e s m args below meth c H locs ls C hl hP hS => by
  have hf : s.vm.findClass RJ0 = some m.cls := by have := C.2.2.2.2.2.1; rw [hM] at this; exact this
  rcases C.2.2.2.2.2.2.2.2.1.2.2 with h | ⟨t, h⟩
  · exact va_gets (own := RJ0) (ref := RJ3) C.1 C.2.1 h hS hf (C.2.2.2.2.2.2.1 _ fwJ0_1053) (fun _ h => h) d (K0 p e s m args below meth c H locs ls C hl hP hS)
  · exact va_gets (own := RJ0) (ref := RJ3) C.1 C.2.1 h hS hf (C.2.2.2.2.2.2.1 _ fwJ0_1053) (fun _ h => h) d (K1 t p e s m args below meth c H locs ls C hl hP hS)
def sln (i : Nat) : Nat := sLen.getD i 0
def sby (i k : Nat) : Int32 := (sByt.getD i []).getD k 0
theorem sln_lt : ∀ i, sln i ≤ 6
  | 0 => by decide
  | 1 => by decide
  | 2 => by decide
  | 3 => by decide
  | 4 => by decide
  | n + 5 => Nat.zero_le 6
theorem r_slen {i : Nat} (hi : i < 5) (d : decode M.2.1 pc = .ok (.arraylength, 1)) (K : GW E Z M (pc + 1) L (.int (nI (sln i)) :: S) σ) : GW E Z M pc L (.ref (sV E i) :: S) σ := fun p e s m args below meth c H locs ls C hl hP hS => va_tlen C.1 C.2.1 (C.2.2.2.2.2.2.2.2.1.1.1 i hi).2.2.2 hS rfl d (K p e s m args below meth c H locs ls C hl hP hS)
theorem r_sld {i k : Nat} (hi : i < 5) (hk : k < sln i) (d : decode M.2.1 pc = .ok (.baload, 1)) (K : GW E Z M (pc + 1) L (.int (sby i k) :: S) σ) : GW E Z M pc L (.int (nI k) :: .ref (sV E i) :: S) σ := fun p e s m args below meth c H locs ls C hl hP hS => va_tb C.1 C.2.1 (C.2.2.2.2.2.2.2.2.1.1.1 i hi).2.2.2 hS (vp_in_nI hk (by have := sln_lt i; unfold sln at this; omega)) (by rw [nI_clamp (by have := sln_lt i; omega)]; rfl) d (K p e s m args below meth c H locs ls C hl hP hS)
theorem sp_J0_isLatin1_aae02 {i : Nat} (hi : i < 5) (K : Q 1 σ) : Mi E mJ0_isLatin1_aae02 [.ref (sK E i)] σ Q := by
  refine Mw_of (L0 := [some (.ref (sK E i))]) pn_J0 rfl rfl (Nat.le_of_ble_eq_true rfl) ?_
  refine r_compact rfl dJ0_isLatin1_aae02_0 ?_
  refine r_if_eq 17 dJ0_isLatin1_aae02_3 rfl (fun h3 => ?_) (fun h3 => ?_)
  · exact absurd h3 (by decide)
  · refine r_aload_n dJ0_isLatin1_aae02_6 rfl ?_
    refine r_scod (by omega) rfl dJ0_isLatin1_aae02_7 ?_
    refine r_if_ne 17 dJ0_isLatin1_aae02_10 rfl (fun h10 => ?_) (fun h10 => ?_)
    · exact absurd rfl h10
    · refine r_iconst (1) dJ0_isLatin1_aae02_13 rfl ?_
      refine r_goto 18 dJ0_isLatin1_aae02_14 rfl ?_
      refine r_ireturn rfl (by first | rfl | exact nar_bi _ | assumption) dJ0_isLatin1_aae02_18 ⟨_, rfl, ?_⟩
      exact K
theorem sp_J0_coder_7d493 {i : Nat} (hi : i < 5) (K : Q 0 σ) : Mi E mJ0_coder_7d493 [.ref (sK E i)] σ Q := by
  refine Mw_of (L0 := [some (.ref (sK E i))]) pn_J0 rfl rfl (Nat.le_of_ble_eq_true rfl) ?_
  refine r_compact rfl dJ0_coder_7d493_0 ?_
  refine r_if_eq 13 dJ0_coder_7d493_3 rfl (fun h3 => ?_) (fun h3 => ?_)
  · exact absurd h3 (by decide)
  · refine r_aload_n dJ0_coder_7d493_6 rfl ?_
    refine r_scod (by omega) rfl dJ0_coder_7d493_7 ?_
    refine r_goto 14 dJ0_coder_7d493_10 rfl ?_
    refine r_ireturn rfl (by first | rfl | exact nar_bi _ | assumption) dJ0_coder_7d493_14 ⟨_, rfl, ?_⟩
    exact K
theorem sp_J0_length_8abf5 {i : Nat} (hi : i < 5) (K : Q (nI (sln i)) σ) : Mi E mJ0_length_8abf5 [.ref (sK E i)] σ Q := by
  have h6 := sln_lt i
  have e : nI (sln i) >>> ((0 : Int32) &&& 31) = nI (sln i) := by
    rw [pk_shrN (by omega) ((0 : Int32) &&& 31) 0 (by decide), Nat.pow_zero, Nat.div_one]
  refine Mw_of (L0 := [some (.ref (sK E i))]) pn_J0 rfl rfl (Nat.le_of_ble_eq_true rfl) ?_
  refine r_aload_n dJ0_length_8abf5_0 rfl ?_
  refine r_sval (by omega) rfl dJ0_length_8abf5_1 ?_
  refine r_slen (by omega) dJ0_length_8abf5_4 ?_
  refine r_aload_n dJ0_length_8abf5_5 rfl ?_
  refine cV_i0 fJ0_coder_7d493 (rcv_str (by omega)) lkJ0_335 rfl dJ0_length_8abf5_6 (sp_J0_coder_7d493 hi ?_)
  refine r_ishr dJ0_length_8abf5_9 ?_
  rw [e]
  refine r_ireturn rfl (by first | rfl | exact nar_bi _ | assumption) dJ0_length_8abf5_10 ⟨_, rfl, ?_⟩
  exact K
theorem sp_J0_isEmpty_aae02 {i : Nat} (hi : i < 5) (K : Q (bi (decide (sln i = 0))) σ) : Mi E mJ0_isEmpty_aae02 [.ref (sK E i)] σ Q := by
  have h6 := sln_lt i
  refine Mw_of (L0 := [some (.ref (sK E i))]) pn_J0 rfl rfl (Nat.le_of_ble_eq_true rfl) ?_
  refine r_aload_n dJ0_isEmpty_aae02_0 rfl ?_
  refine r_sval (by omega) rfl dJ0_isEmpty_aae02_1 ?_
  refine r_slen (by omega) dJ0_isEmpty_aae02_4 ?_
  refine r_if_ne 12 dJ0_isEmpty_aae02_5 rfl (fun h5 => ?_) (fun h5 => ?_)
  · refine r_iconst (0) dJ0_isEmpty_aae02_12 rfl ?_
    refine r_ireturn rfl (by first | rfl | exact nar_bi _ | assumption) dJ0_isEmpty_aae02_13 ⟨_, rfl, ?_⟩
    rw [decide_eq_false (fun e => h5 (by rw [e]; rfl))] at K
    exact K
  · refine r_iconst (1) dJ0_isEmpty_aae02_8 rfl ?_
    refine r_goto 13 dJ0_isEmpty_aae02_9 rfl ?_
    refine r_ireturn rfl (by first | rfl | exact nar_bi _ | assumption) dJ0_isEmpty_aae02_13 ⟨_, rfl, ?_⟩
    rw [decide_eq_true ((nI_eq (b := 0) (by omega) (by omega)).mp h5)] at K
    exact K
theorem sp_J3_checkIndexN {a b : Nat} (hab : a < b) (hb : b < 2 ^ 31) (K : Q (nI a) σ) : Mi E mJ3_checkIndex_8e157 [.int (nI a), .int (nI b), .null] σ Q := by
  refine Mw_of (L0 := [some (.int (nI a)), some (.int (nI b)), some (.null)]) pn_J3 rfl rfl (Nat.le_of_ble_eq_true rfl) ?_
  refine r_iload_n dJ3_checkIndex_8e157_0 rfl ?_
  refine r_if_lt 9 dJ3_checkIndex_8e157_1 rfl (fun h1 => ?_) (fun h1 => ?_)
  · exact absurd h1 (nI_pos (by omega))
  · refine r_iload_n dJ3_checkIndex_8e157_4 rfl ?_
    refine r_iload_n dJ3_checkIndex_8e157_5 rfl ?_
    refine r_icmp_lt_N 16 dJ3_checkIndex_8e157_6 rfl (by omega) (by omega) (fun h6 => ?_) (fun h6 => ?_)
    · refine r_iload_n dJ3_checkIndex_8e157_16 rfl ?_
      refine r_ireturn rfl (by first | rfl | exact nar_bi _ | assumption) dJ3_checkIndex_8e157_17 ⟨_, rfl, ?_⟩
      exact K
    · exfalso; omega
theorem sp_J3_checkIndexR {a b t : Nat} (hab : a < b) (hb : b < 2 ^ 31) (K : Q (nI a) σ) : Mi E mJ3_checkIndex_8e157 [.int (nI a), .int (nI b), .ref t] σ Q := by
  refine Mw_of (L0 := [some (.int (nI a)), some (.int (nI b)), some (.ref t)]) pn_J3 rfl rfl (Nat.le_of_ble_eq_true rfl) ?_
  refine r_iload_n dJ3_checkIndex_8e157_0 rfl ?_
  refine r_if_lt 9 dJ3_checkIndex_8e157_1 rfl (fun h1 => ?_) (fun h1 => ?_)
  · exact absurd h1 (nI_pos (by omega))
  · refine r_iload_n dJ3_checkIndex_8e157_4 rfl ?_
    refine r_iload_n dJ3_checkIndex_8e157_5 rfl ?_
    refine r_icmp_lt_N 16 dJ3_checkIndex_8e157_6 rfl (by omega) (by omega) (fun h6 => ?_) (fun h6 => ?_)
    · refine r_iload_n dJ3_checkIndex_8e157_16 rfl ?_
      refine r_ireturn rfl (by first | rfl | exact nar_bi _ | assumption) dJ3_checkIndex_8e157_17 ⟨_, rfl, ?_⟩
      exact K
    · exfalso; omega
theorem sp_J0_checkIndex_df160 {a b : Nat} (hab : a < b) (hb : b < 2 ^ 31) (K : Qv σ) : Mv E mJ0_checkIndex_df160 [.int (nI a), .int (nI b)] σ Qv := by
  refine Mw_of (L0 := [some (.int (nI a)), some (.int (nI b))]) pn_J0 rfl rfl (Nat.le_of_ble_eq_true rfl) ?_
  refine r_iload_n dJ0_checkIndex_df160_0 rfl ?_
  refine r_iload_n dJ0_checkIndex_df160_1 rfl ?_
  refine r_fmt rfl dJ0_checkIndex_df160_2 ?_ (fun t => ?_)
  · skip
    refine cS_i3 fJ3_checkIndex_8e157 lkJ0_1059 rfl dJ0_checkIndex_df160_5 (sp_J3_checkIndexN hab hb ?_)
    refine r_pop dJ0_checkIndex_df160_8 rfl ?_
    refine r_return rfl dJ0_checkIndex_df160_9 ⟨rfl, ?_⟩
    exact K
  · skip
    refine cS_i3 fJ3_checkIndex_8e157 lkJ0_1059 rfl dJ0_checkIndex_df160_5 (sp_J3_checkIndexR hab hb ?_)
    refine r_pop dJ0_checkIndex_df160_8 rfl ?_
    refine r_return rfl dJ0_checkIndex_df160_9 ⟨rfl, ?_⟩
    exact K
theorem sby_c : ∀ i, i < 5 → ∀ k, k < sln i → ((sby i k &&& 255).toUInt32 % 65536).toInt32 = sby i k ∧ narrow .char (.int (sby i k)) = .int (sby i k) := by
  have h : ∀ i, i < 5 → ∀ k, k < sln i → ((sby i k &&& 255).toUInt32 % 65536).toInt32 = sby i k := by decide +kernel
  exact fun i hi k hk => ⟨h i hi k hk, by rw [← h i hi k hk]; exact pk_nc _⟩
theorem sp_J1_charAt_3b067 {i k : Nat} (hi : i < 5) (hk : k < sln i) (K : Q (sby i k) σ) : Mi E mJ1_charAt_3b067 [.ref (sV E i), .int (nI k)] σ Q := by
  have h6 := sln_lt i
  obtain ⟨e, hn⟩ := sby_c i hi k hk
  refine Mw_of (L0 := [some (.ref (sV E i)), some (.int (nI k))]) pn_J1 rfl rfl (Nat.le_of_ble_eq_true rfl) ?_
  refine r_iload_n dJ1_charAt_3b067_0 rfl ?_
  refine r_aload_n dJ1_charAt_3b067_1 rfl ?_
  refine r_slen (by omega) dJ1_charAt_3b067_2 ?_
  refine cS_v2 fJ0_checkIndex_df160 lkJ1_9 rfl dJ1_charAt_3b067_3 (sp_J0_checkIndex_df160 hk (by omega) ?_)
  refine r_aload_n dJ1_charAt_3b067_6 rfl ?_
  refine r_iload_n dJ1_charAt_3b067_7 rfl ?_
  refine r_sld (by omega) (by omega) dJ1_charAt_3b067_8 ?_
  refine r_sipush (255) dJ1_charAt_3b067_9 rfl ?_
  refine r_iand dJ1_charAt_3b067_12 ?_
  refine r_i2c dJ1_charAt_3b067_13 ?_
  rw [e]
  refine r_ireturn rfl (by first | rfl | exact nar_bi _ | assumption) dJ1_charAt_3b067_14 ⟨_, rfl, ?_⟩
  exact K
theorem sp_J0_charAt_5068e {i k : Nat} (hi : i < 5) (hk : k < sln i) (K : Q (sby i k) σ) : Mi E mJ0_charAt_5068e [.ref (sK E i), .int (nI k)] σ Q := by
  obtain ⟨e, hn⟩ := sby_c i hi k hk
  refine Mw_of (L0 := [some (.ref (sK E i)), some (.int (nI k))]) pn_J0 rfl rfl (Nat.le_of_ble_eq_true rfl) ?_
  refine r_aload_n dJ0_charAt_5068e_0 rfl ?_
  refine cV_i0 fJ0_isLatin1_aae02 (rcv_str (by omega)) lkJ0_492 rfl dJ0_charAt_5068e_1 (sp_J0_isLatin1_aae02 hi ?_)
  refine r_if_eq 16 dJ0_charAt_5068e_4 rfl (fun h4 => ?_) (fun h4 => ?_)
  · exact absurd h4 (by decide)
  · refine r_aload_n dJ0_charAt_5068e_7 rfl ?_
    refine r_sval (by omega) rfl dJ0_charAt_5068e_8 ?_
    refine r_iload_n dJ0_charAt_5068e_11 rfl ?_
    refine cS_i2 fJ1_charAt_3b067 lkJ0_495 rfl dJ0_charAt_5068e_12 (sp_J1_charAt_3b067 hi hk ?_)
    refine r_ireturn rfl (by first | rfl | exact nar_bi _ | assumption) dJ0_charAt_5068e_15 ⟨_, rfl, ?_⟩
    exact K
/-- the kinds' letters -/
def csn (k : Nat) : Nat := [119, 104, 98, 116, 109, 102].getD k 0
def kd (c : Nat) : Option Nat := fnd (fun k => c == csn k) 0 6
def kdI (c : Nat) : Int32 := match kd c with
  | none => -1
  | some k => nI k
theorem sby4 : ∀ c, c < 256 → ∀ k, k < 6 → (sby 4 k = (nI c).toInt8.toInt32 ↔ c = csn k) := by decide +kernel
theorem sp_J1_canEncode_9a6ad {c : Nat} (hc : c < 256) (K : Q 1 σ) : Mi E mJ1_canEncode_9a6ad [.int (nI c)] σ Q := by
  refine Mw_of (L0 := [some (.int (nI c))]) pn_J1 rfl rfl (Nat.le_of_ble_eq_true rfl) ?_
  refine r_iload_n dJ1_canEncode_9a6ad_0 rfl ?_
  refine r_if_lt 15 dJ1_canEncode_9a6ad_1 rfl (fun h1 => ?_) (fun h1 => ?_)
  · exact absurd h1 (nI_pos (by omega))
  · refine r_iload_n dJ1_canEncode_9a6ad_4 rfl ?_
    refine r_sipush (255) dJ1_canEncode_9a6ad_5 rfl ?_
    refine r_icmp_gt_N (b := 255) 15 dJ1_canEncode_9a6ad_8 rfl (by omega) (by omega) (fun h8 => ?_) (fun h8 => ?_)
    · exfalso; omega
    · refine r_iconst (1) dJ1_canEncode_9a6ad_11 rfl ?_
      refine r_goto 16 dJ1_canEncode_9a6ad_12 rfl ?_
      refine r_ireturn rfl (by first | rfl | exact nar_bi _ | assumption) dJ1_canEncode_9a6ad_16 ⟨_, rfl, ?_⟩
      exact K
theorem sp_J1_indexOfChar_4cfef {c : Nat} (hc : c < 256) (K : Q (kdI c) σ) : Mi E mJ1_indexOfChar_4cfef [.ref (sV E 4), .int (nI c), .int 0, .int (nI 6)] σ Q := by
  unfold kdI at K
  refine Mw_of (L0 := [some (.ref (sV E 4)), some (.int (nI c)), some (.int 0), some (.int (nI 6)), none, none]) pn_J1 rfl rfl (Nat.le_of_ble_eq_true rfl) ?_
  refine r_iload_n dJ1_indexOfChar_4cfef_0 rfl ?_
  refine r_i2b dJ1_indexOfChar_4cfef_1 ?_
  refine r_istore_4 dJ1_indexOfChar_4cfef_2 rfl ?_
  refine r_iload_n dJ1_indexOfChar_4cfef_4 rfl ?_
  refine r_istore_5 dJ1_indexOfChar_4cfef_5 rfl ?_
  have LOOP : ∀ k, k ≤ 6 → kd c = fnd (fun k => c == csn k) k (6 - k) → GW E (ZM E 0 fun v σ' => ∃ r, v = some (.int r) ∧ Q r σ') mJ1_indexOfChar_4cfef 7 [some (.ref (sV E 4)), some (.int (nI c)), some (.int 0), some (.int (nI 6)), some (.int (nI c).toInt8.toInt32), some (.int (nI k))] [] σ := by
    refine down ?_ ?_
    · intro hf
      rw [hf] at K
      refine r_iload dJ1_indexOfChar_4cfef_7 rfl ?_
      refine r_iload_n dJ1_indexOfChar_4cfef_9 rfl ?_
      refine r_icmp_ge_N 31 dJ1_indexOfChar_4cfef_10 rfl (by omega) (by omega) (fun h10 => ?_) (fun h10 => ?_)
      · refine r_iconst (-1) dJ1_indexOfChar_4cfef_31 rfl ?_
        refine r_ireturn rfl (by first | rfl | exact nar_bi _ | assumption) dJ1_indexOfChar_4cfef_32 ⟨_, rfl, ?_⟩
        exact K
      · exfalso; omega
    · intro k hk ih hf
      rw [show 6 - k = (6 - (k + 1)) + 1 by omega, fnd] at hf
      refine r_iload dJ1_indexOfChar_4cfef_7 rfl ?_
      refine r_iload_n dJ1_indexOfChar_4cfef_9 rfl ?_
      refine r_icmp_ge_N 31 dJ1_indexOfChar_4cfef_10 rfl (by omega) (by omega) (fun h10 => ?_) (fun h10 => ?_)
      · exfalso; omega
      · refine r_aload_n dJ1_indexOfChar_4cfef_13 rfl ?_
        refine r_iload dJ1_indexOfChar_4cfef_14 rfl ?_
        refine r_sld (by omega) hk dJ1_indexOfChar_4cfef_16 ?_
        refine r_iload dJ1_indexOfChar_4cfef_17 rfl ?_
        refine r_icmp_ne 25 dJ1_indexOfChar_4cfef_19 rfl (fun h19 => ?_) (fun h19 => ?_)
        · have hne : ¬ c = csn k := fun e => h19 ((sby4 c hc k hk).mpr e)
          rw [if_neg (by simpa using hne)] at hf
          refine r_inc1_5 dJ1_indexOfChar_4cfef_25 rfl ?_
          refine r_goto 7 dJ1_indexOfChar_4cfef_28 rfl ?_
          exact ih hf
        · have he : c = csn k := (sby4 c hc k hk).mp h19
          rw [if_pos (by simpa using he)] at hf
          rw [hf] at K
          refine r_iload dJ1_indexOfChar_4cfef_22 rfl ?_
          refine r_ireturn rfl (by first | rfl | exact nar_bi _ | assumption) dJ1_indexOfChar_4cfef_24 ⟨_, rfl, ?_⟩
          exact K
  exact LOOP 0 (by omega) rfl
theorem sp_J1_indexOf_4cfef {c : Nat} (hc : c < 256) (K : Q (kdI c) σ) : Mi E mJ1_indexOf_4cfef [.ref (sV E 4), .int (nI c), .int 0, .int (nI 6)] σ Q := by
  have e1 : (if (0 : Int32) < 0 then (0 : Int32) else 0) = 0 := by decide
  have e2 : (if nI (sln 4) < nI 6 then nI (sln 4) else nI 6) = nI 6 := by decide
  refine Mw_of (L0 := [some (.ref (sV E 4)), some (.int (nI c)), some (.int 0), some (.int (nI 6))]) pn_J1 rfl rfl (Nat.le_of_ble_eq_true rfl) ?_
  refine r_iload_n dJ1_indexOf_4cfef_0 rfl ?_
  refine cS_i1 fJ1_canEncode_9a6ad lkJ1_88 rfl dJ1_indexOf_4cfef_1 (sp_J1_canEncode_9a6ad hc ?_)
  refine r_if_ne 9 dJ1_indexOf_4cfef_4 rfl (fun h4 => ?_) (fun h4 => ?_)
  · refine r_iload_n dJ1_indexOf_4cfef_9 rfl ?_
    refine r_iconst (0) dJ1_indexOf_4cfef_10 rfl ?_
    refine r_mmax lkJ1_92 wm_max1 wm_init wm_max2 rfl dJ1_indexOf_4cfef_11 ?_
    rw [e1]
    refine r_istore_n_2 dJ1_indexOf_4cfef_14 rfl ?_
    refine r_iload_n dJ1_indexOf_4cfef_15 rfl ?_
    refine r_aload_n dJ1_indexOf_4cfef_16 rfl ?_
    refine r_slen (by omega) dJ1_indexOf_4cfef_17 ?_
    refine r_mmin lkJ1_38 wm_min1 wm_init wm_min2 rfl dJ1_indexOf_4cfef_18 ?_
    rw [e2]
    refine r_istore_n_3 dJ1_indexOf_4cfef_21 rfl ?_
    refine r_iload_n dJ1_indexOf_4cfef_22 rfl ?_
    refine r_iload_n dJ1_indexOf_4cfef_23 rfl ?_
    refine r_icmp_lt 29 dJ1_indexOf_4cfef_24 rfl (fun h24 => ?_) (fun h24 => ?_)
    · refine r_aload_n dJ1_indexOf_4cfef_29 rfl ?_
      refine r_iload_n dJ1_indexOf_4cfef_30 rfl ?_
      refine r_iload_n dJ1_indexOf_4cfef_31 rfl ?_
      refine r_iload_n dJ1_indexOf_4cfef_32 rfl ?_
      refine cS_i4 fJ1_indexOfChar_4cfef lkJ1_95 rfl dJ1_indexOf_4cfef_33 (sp_J1_indexOfChar_4cfef hc ?_)
      refine r_ireturn rfl (by first | rfl | exact nar_bi _ | assumption) dJ1_indexOf_4cfef_36 ⟨_, rfl, ?_⟩
      exact K
    · exact absurd (by decide) h24
  · exact absurd h4 (by decide)
theorem sp_J0_indexOf_7cf53 {c : Nat} (hc : c < 256) (K : Q (kdI c) σ) : Mi E mJ0_indexOf_7cf53 [.ref (sK E 4), .int (nI c), .int 0] σ Q := by
  refine Mw_of (L0 := [some (.ref (sK E 4)), some (.int (nI c)), some (.int 0)]) pn_J0 rfl rfl (Nat.le_of_ble_eq_true rfl) ?_
  refine r_aload_n dJ0_indexOf_7cf53_0 rfl ?_
  refine cV_i0 fJ0_isLatin1_aae02 (rcv_str (by omega)) lkJ0_492 rfl dJ0_indexOf_7cf53_1 (sp_J0_isLatin1_aae02 (by omega) ?_)
  refine r_if_eq 23 dJ0_indexOf_7cf53_4 rfl (fun h4 => ?_) (fun h4 => ?_)
  · exact absurd h4 (by decide)
  · refine r_aload_n dJ0_indexOf_7cf53_7 rfl ?_
    refine r_sval (by omega) rfl dJ0_indexOf_7cf53_8 ?_
    refine r_iload_n dJ0_indexOf_7cf53_11 rfl ?_
    refine r_iload_n dJ0_indexOf_7cf53_12 rfl ?_
    refine r_aload_n dJ0_indexOf_7cf53_13 rfl ?_
    refine cV_i0 fJ0_length_8abf5 (rcv_str (by omega)) lkJ0_505 rfl dJ0_indexOf_7cf53_14 (sp_J0_length_8abf5 (i := 4) (by omega) ?_)
    refine cS_i4 fJ1_indexOf_4cfef lkJ0_637 rfl dJ0_indexOf_7cf53_17 (sp_J1_indexOf_4cfef hc ?_)
    refine r_goto 36 dJ0_indexOf_7cf53_20 rfl ?_
    refine r_ireturn rfl (by first | rfl | exact nar_bi _ | assumption) dJ0_indexOf_7cf53_36 ⟨_, rfl, ?_⟩
    exact K
theorem sp_J0_indexOf_0f7a4 {c : Nat} (hc : c < 256) (K : Q (kdI c) σ) : Mi E mJ0_indexOf_0f7a4 [.ref (sK E 4), .int (nI c)] σ Q := by
  refine Mw_of (L0 := [some (.ref (sK E 4)), some (.int (nI c))]) pn_J0 rfl rfl (Nat.le_of_ble_eq_true rfl) ?_
  refine r_aload_n dJ0_indexOf_0f7a4_0 rfl ?_
  refine r_iload_n dJ0_indexOf_0f7a4_1 rfl ?_
  refine r_iconst (0) dJ0_indexOf_0f7a4_2 rfl ?_
  refine cV_i2 fJ0_indexOf_7cf53 (rcv_str (by omega)) lkJ0_633 rfl dJ0_indexOf_0f7a4_3 (sp_J0_indexOf_7cf53 hc ?_)
  refine r_ireturn rfl (by first | rfl | exact nar_bi _ | assumption) dJ0_indexOf_0f7a4_6 ⟨_, rfl, ?_⟩
  exact K
end STRS
