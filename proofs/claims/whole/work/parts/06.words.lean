theorem tbw {w : Cond} (i : Nat) (h : tables_1[i]? = some w) (g : goodWord w = true) : w ∈ TB := List.mem_filter.mpr ⟨List.mem_append_right _ (List.mem_of_getElem? h), g⟩
theorem tbn {w : Cond} (i : Nat) (h : tables_1[i]? = some w) : w ∈ lw_tbl := List.mem_append_right _ (List.mem_of_getElem? h)
theorem tbs {q : MethodName × Nat} (i : Nat) (h : lw_privs[i]? = some q) : Cond.selects q.1.cls q.1 q.1 ∈ TB := List.mem_filter.mpr ⟨List.mem_append_left _ (List.mem_map.mpr ⟨q, List.mem_of_getElem? h, rfl⟩), rfl⟩
theorem wi_L : Cond.initialized RL ∈ TB := tbw 0 (by decide +kernel) rfl
theorem wi_X8 : Cond.initialized RX8 ∈ TB := tbw 1 (by decide +kernel) rfl
theorem wi_X1 : Cond.initialized RX1 ∈ TB := tbw 2 (by decide +kernel) rfl
theorem wi_X7 : Cond.initialized RX7 ∈ TB := tbw 3 (by decide +kernel) rfl
theorem wi_X3 : Cond.initialized RX3 ∈ TB := tbw 4 (by decide +kernel) rfl
theorem wi_X0 : Cond.initialized RX0 ∈ TB := tbw 5 (by decide +kernel) rfl
theorem wi_X6 : Cond.initialized RX6 ∈ TB := tbw 6 (by decide +kernel) rfl
theorem wi_X4 : Cond.initialized RX4 ∈ TB := tbw 7 (by decide +kernel) rfl
theorem wi_X2 : Cond.initialized RX2 ∈ TB := tbw 8 (by decide +kernel) rfl
theorem wi_X5 : Cond.initialized RX5 ∈ TB := tbw 9 (by decide +kernel) rfl
theorem wi_X9 : Cond.initialized RX9 ∈ TB := tbw 10 (by decide +kernel) rfl
theorem wi_J10 : Cond.initialized RJ10 ∈ TB := tbw 11 (by decide +kernel) rfl
theorem wi_J0 : Cond.initialized RJ0 ∈ TB := tbw 12 (by decide +kernel) rfl
theorem wi_J1 : Cond.initialized RJ1 ∈ TB := tbw 13 (by decide +kernel) rfl
theorem wi_J3 : Cond.initialized RJ3 ∈ TB := tbw 14 (by decide +kernel) rfl
theorem wi_J2 : Cond.initialized RJ2 ∈ TB := tbw 15 (by decide +kernel) rfl
theorem wi_J9 : Cond.initialized RJ9 ∈ TB := tbw 16 (by decide +kernel) rfl
theorem wi_J11 : Cond.initialized RJ11 ∈ TB := tbw 17 (by decide +kernel) rfl
theorem wi_J6 : Cond.initialized RJ6 ∈ TB := tbw 18 (by decide +kernel) rfl
def mJ0_charAt_5068e : MI := (yJ0_charAt_5068e, cJ0_charAt_5068e, 2, some .char, 4)
set_option maxRecDepth 20000 in
theorem wc_J0_charAt_5068e : cw mJ0_charAt_5068e ∈ TB := tbw 220 rfl rfl
theorem fJ0_charAt_5068e : SMv mJ0_charAt_5068e 1 := ⟨wc_J0_charAt_5068e, wi_J0, by decide +kernel, by decide +kernel, tbw 218 (by decide +kernel) rfl, tbw 219 (by decide +kernel) rfl⟩
def mJ0_checkBoundsBeginEnd_23922 : MI := (yJ0_checkBoundsBeginEnd_23922, cJ0_checkBoundsBeginEnd_23922, 3, none, 1)
set_option maxRecDepth 20000 in
theorem wc_J0_checkBoundsBeginEnd_23922 : cw mJ0_checkBoundsBeginEnd_23922 ∈ TB := tbw 297 rfl rfl
theorem fJ0_checkBoundsBeginEnd_23922 : SMs mJ0_checkBoundsBeginEnd_23922 3 := ⟨wc_J0_checkBoundsBeginEnd_23922, wi_J0, by decide +kernel, by decide +kernel, tbw 296 (by decide +kernel) rfl⟩
def mJ0_checkIndex_df160 : MI := (yJ0_checkIndex_df160, cJ0_checkIndex_df160, 2, none, 1)
set_option maxRecDepth 20000 in
theorem wc_J0_checkIndex_df160 : cw mJ0_checkIndex_df160 ∈ TB := tbw 230 rfl rfl
theorem fJ0_checkIndex_df160 : SMs mJ0_checkIndex_df160 2 := ⟨wc_J0_checkIndex_df160, wi_J0, by decide +kernel, by decide +kernel, tbw 229 (by decide +kernel) rfl⟩
def mJ0_coder_7d493 : MI := (yJ0_coder_7d493, cJ0_coder_7d493, 1, some .byte, 0)
set_option maxRecDepth 20000 in
theorem wc_J0_coder_7d493 : cw mJ0_coder_7d493 ∈ TB := tbw 214 rfl rfl
theorem fJ0_coder_7d493 : SMv mJ0_coder_7d493 0 := ⟨wc_J0_coder_7d493, wi_J0, by decide +kernel, by decide +kernel, tbw 212 (by decide +kernel) rfl, tbw 213 (by decide +kernel) rfl⟩
def mJ0_indexOf_0f7a4 : MI := (yJ0_indexOf_0f7a4, cJ0_indexOf_0f7a4, 2, some .int, 6)
set_option maxRecDepth 20000 in
theorem wc_J0_indexOf_0f7a4 : cw mJ0_indexOf_0f7a4 ∈ TB := tbw 262 rfl rfl
theorem fJ0_indexOf_0f7a4 : SMv mJ0_indexOf_0f7a4 1 := ⟨wc_J0_indexOf_0f7a4, wi_J0, by decide +kernel, by decide +kernel, tbw 260 (by decide +kernel) rfl, tbw 261 (by decide +kernel) rfl⟩
def mJ0_indexOf_7cf53 : MI := (yJ0_indexOf_7cf53, cJ0_indexOf_7cf53, 3, some .int, 5)
set_option maxRecDepth 20000 in
theorem wc_J0_indexOf_7cf53 : cw mJ0_indexOf_7cf53 ∈ TB := tbw 266 rfl rfl
theorem fJ0_indexOf_7cf53 : SMv mJ0_indexOf_7cf53 2 := ⟨wc_J0_indexOf_7cf53, wi_J0, by decide +kernel, by decide +kernel, tbw 264 (by decide +kernel) rfl, tbw 265 (by decide +kernel) rfl⟩
def mJ0_isEmpty_aae02 : MI := (yJ0_isEmpty_aae02, cJ0_isEmpty_aae02, 1, some .boolean, 0)
set_option maxRecDepth 20000 in
theorem wc_J0_isEmpty_aae02 : cw mJ0_isEmpty_aae02 ∈ TB := tbw 206 rfl rfl
theorem fJ0_isEmpty_aae02 : SMv mJ0_isEmpty_aae02 0 := ⟨wc_J0_isEmpty_aae02, wi_J0, by decide +kernel, by decide +kernel, tbw 204 (by decide +kernel) rfl, tbw 205 (by decide +kernel) rfl⟩
def mJ0_isLatin1_aae02 : MI := (yJ0_isLatin1_aae02, cJ0_isLatin1_aae02, 1, some .boolean, 0)
set_option maxRecDepth 20000 in
theorem wc_J0_isLatin1_aae02 : cw mJ0_isLatin1_aae02 ∈ TB := tbw 224 rfl rfl
theorem fJ0_isLatin1_aae02 : SMv mJ0_isLatin1_aae02 0 := ⟨wc_J0_isLatin1_aae02, wi_J0, by decide +kernel, by decide +kernel, tbw 222 (by decide +kernel) rfl, tbw 223 (by decide +kernel) rfl⟩
def mJ0_length_8abf5 : MI := (yJ0_length_8abf5, cJ0_length_8abf5, 1, some .int, 1)
set_option maxRecDepth 20000 in
theorem wc_J0_length_8abf5 : cw mJ0_length_8abf5 ∈ TB := tbw 210 rfl rfl
theorem fJ0_length_8abf5 : SMv mJ0_length_8abf5 0 := ⟨wc_J0_length_8abf5, wi_J0, by decide +kernel, by decide +kernel, tbw 208 (by decide +kernel) rfl, tbw 209 (by decide +kernel) rfl⟩
def mJ11_highSurrogate_5068e : MI := (yJ11_highSurrogate_5068e, cJ11_highSurrogate_5068e, 1, some .char, 0)
set_option maxRecDepth 20000 in
theorem wc_J11_highSurrogate_5068e : cw mJ11_highSurrogate_5068e ∈ TB := tbw 312 rfl rfl
theorem fJ11_highSurrogate_5068e : SMs mJ11_highSurrogate_5068e 1 := ⟨wc_J11_highSurrogate_5068e, wi_J11, by decide +kernel, by decide +kernel, tbw 311 (by decide +kernel) rfl⟩
def mJ11_isValidCodePoint_9a6ad : MI := (yJ11_isValidCodePoint_9a6ad, cJ11_isValidCodePoint_9a6ad, 2, some .boolean, 0)
set_option maxRecDepth 20000 in
theorem wc_J11_isValidCodePoint_9a6ad : cw mJ11_isValidCodePoint_9a6ad ∈ TB := tbw 309 rfl rfl
theorem fJ11_isValidCodePoint_9a6ad : SMs mJ11_isValidCodePoint_9a6ad 1 := ⟨wc_J11_isValidCodePoint_9a6ad, wi_J11, by decide +kernel, by decide +kernel, tbw 308 (by decide +kernel) rfl⟩
def mJ11_lowSurrogate_5068e : MI := (yJ11_lowSurrogate_5068e, cJ11_lowSurrogate_5068e, 1, some .char, 0)
set_option maxRecDepth 20000 in
theorem wc_J11_lowSurrogate_5068e : cw mJ11_lowSurrogate_5068e ∈ TB := tbw 316 rfl rfl
theorem fJ11_lowSurrogate_5068e : SMs mJ11_lowSurrogate_5068e 1 := ⟨wc_J11_lowSurrogate_5068e, wi_J11, by decide +kernel, by decide +kernel, tbw 315 (by decide +kernel) rfl⟩
def mJ1_canEncode_9a6ad : MI := (yJ1_canEncode_9a6ad, cJ1_canEncode_9a6ad, 1, some .boolean, 0)
set_option maxRecDepth 20000 in
theorem wc_J1_canEncode_9a6ad : cw mJ1_canEncode_9a6ad ∈ TB := tbw 273 rfl rfl
theorem fJ1_canEncode_9a6ad : SMs mJ1_canEncode_9a6ad 1 := ⟨wc_J1_canEncode_9a6ad, wi_J1, by decide +kernel, by decide +kernel, tbw 272 (by decide +kernel) rfl⟩
def mJ1_charAt_3b067 : MI := (yJ1_charAt_3b067, cJ1_charAt_3b067, 2, some .char, 2)
set_option maxRecDepth 20000 in
theorem wc_J1_charAt_3b067 : cw mJ1_charAt_3b067 ∈ TB := tbw 227 rfl rfl
theorem fJ1_charAt_3b067 : SMs mJ1_charAt_3b067 2 := ⟨wc_J1_charAt_3b067, wi_J1, by decide +kernel, by decide +kernel, tbw 226 (by decide +kernel) rfl⟩
def mJ1_indexOfChar_4cfef : MI := (yJ1_indexOfChar_4cfef, cJ1_indexOfChar_4cfef, 6, some .int, 0)
set_option maxRecDepth 20000 in
theorem wc_J1_indexOfChar_4cfef : cw mJ1_indexOfChar_4cfef ∈ TB := tbw 282 rfl rfl
theorem fJ1_indexOfChar_4cfef : SMs mJ1_indexOfChar_4cfef 4 := ⟨wc_J1_indexOfChar_4cfef, wi_J1, by decide +kernel, by decide +kernel, tbw 281 (by decide +kernel) rfl⟩
def mJ1_indexOf_4cfef : MI := (yJ1_indexOf_4cfef, cJ1_indexOf_4cfef, 4, some .int, 1)
set_option maxRecDepth 20000 in
theorem wc_J1_indexOf_4cfef : cw mJ1_indexOf_4cfef ∈ TB := tbw 270 rfl rfl
theorem fJ1_indexOf_4cfef : SMs mJ1_indexOf_4cfef 4 := ⟨wc_J1_indexOf_4cfef, wi_J1, by decide +kernel, by decide +kernel, tbw 269 (by decide +kernel) rfl⟩
def mJ2_charAt_3b067 : MI := (yJ2_charAt_3b067, cJ2_charAt_3b067, 2, some .char, 3)
set_option maxRecDepth 20000 in
theorem wc_J2_charAt_3b067 : cw mJ2_charAt_3b067 ∈ TB := tbw 238 rfl rfl
theorem fJ2_charAt_3b067 : SMs mJ2_charAt_3b067 2 := ⟨wc_J2_charAt_3b067, wi_J2, by decide +kernel, by decide +kernel, tbw 237 (by decide +kernel) rfl⟩
def mJ2_checkBoundsBeginEnd_d044e : MI := (yJ2_checkBoundsBeginEnd_d044e, cJ2_checkBoundsBeginEnd_d044e, 3, none, 2)
set_option maxRecDepth 20000 in
theorem wc_J2_checkBoundsBeginEnd_d044e : cw mJ2_checkBoundsBeginEnd_d044e ∈ TB := tbw 294 rfl rfl
theorem fJ2_checkBoundsBeginEnd_d044e : SMs mJ2_checkBoundsBeginEnd_d044e 3 := ⟨wc_J2_checkBoundsBeginEnd_d044e, wi_J2, by decide +kernel, by decide +kernel, tbw 293 (by decide +kernel) rfl⟩
def mJ2_checkIndex_2214a : MI := (yJ2_checkIndex_2214a, cJ2_checkIndex_2214a, 2, none, 2)
set_option maxRecDepth 20000 in
theorem wc_J2_checkIndex_2214a : cw mJ2_checkIndex_2214a ∈ TB := tbw 241 rfl rfl
theorem fJ2_checkIndex_2214a : SMs mJ2_checkIndex_2214a 2 := ⟨wc_J2_checkIndex_2214a, wi_J2, by decide +kernel, by decide +kernel, tbw 240 (by decide +kernel) rfl⟩
def mJ2_getChar_3b067 : MI := (yJ2_getChar_3b067, cJ2_getChar_3b067, 2, some .char, 1)
set_option maxRecDepth 20000 in
theorem wc_J2_getChar_3b067 : cw mJ2_getChar_3b067 ∈ TB := tbw 248 rfl rfl
theorem fJ2_getChar_3b067 : SMs mJ2_getChar_3b067 2 := ⟨wc_J2_getChar_3b067, wi_J2, by decide +kernel, by decide +kernel, tbw 247 (by decide +kernel) rfl⟩
def mJ2_indexOfCharUnsafe_4cfef : MI := (yJ2_indexOfCharUnsafe_4cfef, cJ2_indexOfCharUnsafe_4cfef, 5, some .int, 2)
set_option maxRecDepth 20000 in
theorem wc_J2_indexOfCharUnsafe_4cfef : cw mJ2_indexOfCharUnsafe_4cfef ∈ TB := tbw 303 rfl rfl
theorem fJ2_indexOfCharUnsafe_4cfef : SMs mJ2_indexOfCharUnsafe_4cfef 4 := ⟨wc_J2_indexOfCharUnsafe_4cfef, wi_J2, by decide +kernel, by decide +kernel, tbw 302 (by decide +kernel) rfl⟩
def mJ2_indexOfChar_4cfef : MI := (yJ2_indexOfChar_4cfef, cJ2_indexOfChar_4cfef, 4, some .int, 3)
set_option maxRecDepth 20000 in
theorem wc_J2_indexOfChar_4cfef : cw mJ2_indexOfChar_4cfef ∈ TB := tbw 291 rfl rfl
theorem fJ2_indexOfChar_4cfef : SMs mJ2_indexOfChar_4cfef 4 := ⟨wc_J2_indexOfChar_4cfef, wi_J2, by decide +kernel, by decide +kernel, tbw 290 (by decide +kernel) rfl⟩
def mJ2_indexOfSupplementary_4cfef : MI := (yJ2_indexOfSupplementary_4cfef, cJ2_indexOfSupplementary_4cfef, 7, some .int, 3)
set_option maxRecDepth 20000 in
theorem wc_J2_indexOfSupplementary_4cfef : cw mJ2_indexOfSupplementary_4cfef ∈ TB := tbw 306 rfl rfl
theorem fJ2_indexOfSupplementary_4cfef : SMs mJ2_indexOfSupplementary_4cfef 4 := ⟨wc_J2_indexOfSupplementary_4cfef, wi_J2, by decide +kernel, by decide +kernel, tbw 305 (by decide +kernel) rfl⟩
def mJ2_indexOf_4cfef : MI := (yJ2_indexOf_4cfef, cJ2_indexOf_4cfef, 4, some .int, 4)
set_option maxRecDepth 20000 in
theorem wc_J2_indexOf_4cfef : cw mJ2_indexOf_4cfef ∈ TB := tbw 285 rfl rfl
theorem fJ2_indexOf_4cfef : SMs mJ2_indexOf_4cfef 4 := ⟨wc_J2_indexOf_4cfef, wi_J2, by decide +kernel, by decide +kernel, tbw 284 (by decide +kernel) rfl⟩
def mJ2_length_9d52b : MI := (yJ2_length_9d52b, cJ2_length_9d52b, 1, some .int, 0)
set_option maxRecDepth 20000 in
theorem wc_J2_length_9d52b : cw mJ2_length_9d52b ∈ TB := tbw 244 rfl rfl
theorem fJ2_length_9d52b : SMs mJ2_length_9d52b 1 := ⟨wc_J2_length_9d52b, wi_J2, by decide +kernel, by decide +kernel, tbw 243 (by decide +kernel) rfl⟩
def mJ3_checkFromToIndex_8c36e : MI := (yJ3_checkFromToIndex_8c36e, cJ3_checkFromToIndex_8c36e, 4, some .int, 0)
set_option maxRecDepth 20000 in
theorem wc_J3_checkFromToIndex_8c36e : cw mJ3_checkFromToIndex_8c36e ∈ TB := tbw 300 rfl rfl
theorem fJ3_checkFromToIndex_8c36e : SMs mJ3_checkFromToIndex_8c36e 4 := ⟨wc_J3_checkFromToIndex_8c36e, wi_J3, by decide +kernel, by decide +kernel, tbw 299 (by decide +kernel) rfl⟩
def mJ3_checkIndex_8e157 : MI := (yJ3_checkIndex_8e157, cJ3_checkIndex_8e157, 3, some .int, 0)
set_option maxRecDepth 20000 in
theorem wc_J3_checkIndex_8e157 : cw mJ3_checkIndex_8e157 ∈ TB := tbw 235 rfl rfl
theorem fJ3_checkIndex_8e157 : SMs mJ3_checkIndex_8e157 3 := ⟨wc_J3_checkIndex_8e157, wi_J3, by decide +kernel, by decide +kernel, tbw 234 (by decide +kernel) rfl⟩
def mJ6_bitCount_0f7a4 : MI := (yJ6_bitCount_0f7a4, cJ6_bitCount_0f7a4, 1, some .int, 0)
set_option maxRecDepth 20000 in
theorem wc_J6_bitCount_0f7a4 : cw mJ6_bitCount_0f7a4 ∈ TB := tbw 433 rfl rfl
theorem fJ6_bitCount_0f7a4 : SMs mJ6_bitCount_0f7a4 1 := ⟨wc_J6_bitCount_0f7a4, wi_J6, by decide +kernel, by decide +kernel, tbw 432 (by decide +kernel) rfl⟩
def mJ6_numberOfLeadingZeros_0f7a4 : MI := (yJ6_numberOfLeadingZeros_0f7a4, cJ6_numberOfLeadingZeros_0f7a4, 2, some .int, 0)
set_option maxRecDepth 20000 in
theorem wc_J6_numberOfLeadingZeros_0f7a4 : cw mJ6_numberOfLeadingZeros_0f7a4 ∈ TB := tbw 453 rfl rfl
theorem fJ6_numberOfLeadingZeros_0f7a4 : SMs mJ6_numberOfLeadingZeros_0f7a4 1 := ⟨wc_J6_numberOfLeadingZeros_0f7a4, wi_J6, by decide +kernel, by decide +kernel, tbw 452 (by decide +kernel) rfl⟩
def mJ6_numberOfTrailingZeros_0f7a4 : MI := (yJ6_numberOfTrailingZeros_0f7a4, cJ6_numberOfTrailingZeros_0f7a4, 2, some .int, 0)
set_option maxRecDepth 20000 in
theorem wc_J6_numberOfTrailingZeros_0f7a4 : cw mJ6_numberOfTrailingZeros_0f7a4 ∈ TB := tbw 461 rfl rfl
theorem fJ6_numberOfTrailingZeros_0f7a4 : SMs mJ6_numberOfTrailingZeros_0f7a4 1 := ⟨wc_J6_numberOfTrailingZeros_0f7a4, wi_J6, by decide +kernel, by decide +kernel, tbw 460 (by decide +kernel) rfl⟩
def mJ9_max_7cf53 : MI := (yJ9_max_7cf53, cJ9_max_7cf53, 2, some .int, 0)
set_option maxRecDepth 20000 in
theorem wc_J9_max_7cf53 : cw mJ9_max_7cf53 ∈ TB := tbw 276 rfl rfl
theorem fJ9_max_7cf53 : SMs mJ9_max_7cf53 2 := ⟨wc_J9_max_7cf53, wi_J9, by decide +kernel, by decide +kernel, tbw 275 (by decide +kernel) rfl⟩
def mJ9_min_7cf53 : MI := (yJ9_min_7cf53, cJ9_min_7cf53, 2, some .int, 0)
set_option maxRecDepth 20000 in
theorem wc_J9_min_7cf53 : cw mJ9_min_7cf53 ∈ TB := tbw 279 rfl rfl
theorem fJ9_min_7cf53 : SMs mJ9_min_7cf53 2 := ⟨wc_J9_min_7cf53, wi_J9, by decide +kernel, by decide +kernel, tbw 278 (by decide +kernel) rfl⟩
def mX0_choosePayer : MI := (yX0_choosePayer, cX0_choosePayer, 5, some .int, 1)
set_option maxRecDepth 20000 in
theorem wc_X0_choosePayer : cw mX0_choosePayer ∈ TB := tbw 419 rfl rfl
-- no selects of itself: X0_choosePayer
theorem fiX0_choosePayer : Cond.instanceMethod yX0_choosePayer ∈ TB := tbw 418 (by decide +kernel) rfl
def mX0_dueAfter : MI := (yX0_dueAfter, cX0_dueAfter, 2, some .int, 1)
set_option maxRecDepth 20000 in
theorem wc_X0_dueAfter : cw mX0_dueAfter ∈ TB := tbw 402 rfl rfl
-- no selects of itself: X0_dueAfter
theorem fiX0_dueAfter : Cond.instanceMethod yX0_dueAfter ∈ TB := tbw 401 (by decide +kernel) rfl
def mX0_init : MI := (yX0_init, cX0_init, 1, none, 2)
set_option maxRecDepth 20000 in
theorem wc_X0_init : cw mX0_init ∈ TB := tbw 52 rfl rfl
-- neither: X0_init
def mX1_addOff : MI := (yX1_addOff, cX1_addOff, 4, none, 1)
set_option maxRecDepth 20000 in
theorem wc_X1_addOff : cw mX1_addOff ∈ TB := tbw 628 rfl rfl
theorem fX1_addOff : SMv mX1_addOff 2 := ⟨wc_X1_addOff, wi_X1, by decide +kernel, by decide +kernel, tbw 627 (by decide +kernel) rfl, tbs (q := (yX1_addOff, _)) 39 rfl⟩
def mX1_allOff : MI := (yX1_allOff, cX1_allOff, 3, some .int, 1)
set_option maxRecDepth 20000 in
theorem wc_X1_allOff : cw mX1_allOff ∈ TB := tbw 731 rfl rfl
theorem fX1_allOff : SMv mX1_allOff 0 := ⟨wc_X1_allOff, wi_X1, by decide +kernel, by decide +kernel, tbw 730 (by decide +kernel) rfl, tbs (q := (yX1_allOff, _)) 47 rfl⟩
def mX1_allTired : MI := (yX1_allTired, cX1_allTired, 3, some .int, 0)
set_option maxRecDepth 20000 in
theorem wc_X1_allTired : cw mX1_allTired ∈ TB := tbw 602 rfl rfl
theorem fX1_allTired : SMv mX1_allTired 0 := ⟨wc_X1_allTired, wi_X1, by decide +kernel, by decide +kernel, tbw 601 (by decide +kernel) rfl, tbs (q := (yX1_allTired, _)) 36 rfl⟩
def mX1_become : MI := (yX1_become, cX1_become, 2, none, 1)
set_option maxRecDepth 20000 in
theorem wc_X1_become : cw mX1_become ∈ TB := tbw 187 rfl rfl
theorem fX1_become : SMv mX1_become 1 := ⟨wc_X1_become, wi_X1, by decide +kernel, by decide +kernel, tbw 186 (by decide +kernel) rfl, tbs (q := (yX1_become, _)) 3 rfl⟩
def mX1_canHand : MI := (yX1_canHand, cX1_canHand, 4, some .boolean, 2)
set_option maxRecDepth 20000 in
theorem wc_X1_canHand : cw mX1_canHand ∈ TB := tbw 365 rfl rfl
theorem fX1_canHand : SMv mX1_canHand 3 := ⟨wc_X1_canHand, wi_X1, by decide +kernel, by decide +kernel, tbw 364 (by decide +kernel) rfl, tbs (q := (yX1_canHand, _)) 16 rfl⟩
def mX1_change : MI := (yX1_change, cX1_change, 3, none, 0)
set_option maxRecDepth 20000 in
theorem wc_X1_change : cw mX1_change ∈ TB := tbw 353 rfl rfl
theorem fX1_change : SMv mX1_change 2 := ⟨wc_X1_change, wi_X1, by decide +kernel, by decide +kernel, tbw 352 (by decide +kernel) rfl, tbs (q := (yX1_change, _)) 13 rfl⟩
def mX1_coveredByNobody : MI := (yX1_coveredByNobody, cX1_coveredByNobody, 3, some .int, 0)
set_option maxRecDepth 20000 in
theorem wc_X1_coveredByNobody : cw mX1_coveredByNobody ∈ TB := tbw 567 rfl rfl
theorem fX1_coveredByNobody : SMv mX1_coveredByNobody 0 := ⟨wc_X1_coveredByNobody, wi_X1, by decide +kernel, by decide +kernel, tbw 566 (by decide +kernel) rfl, tbs (q := (yX1_coveredByNobody, _)) 32 rfl⟩
def mX1_hand : MI := (yX1_hand, cX1_hand, 4, none, 1)
set_option maxRecDepth 20000 in
theorem wc_X1_hand : cw mX1_hand ∈ TB := tbw 376 rfl rfl
theorem fX1_hand : SMv mX1_hand 3 := ⟨wc_X1_hand, wi_X1, by decide +kernel, by decide +kernel, tbw 375 (by decide +kernel) rfl, tbs (q := (yX1_hand, _)) 18 rfl⟩
def mX1_has : MI := (yX1_has, cX1_has, 2, some .boolean, 0)
set_option maxRecDepth 20000 in
theorem wc_X1_has : cw mX1_has ∈ TB := tbw 346 rfl rfl
theorem fX1_has : SMv mX1_has 1 := ⟨wc_X1_has, wi_X1, by decide +kernel, by decide +kernel, tbw 345 (by decide +kernel) rfl, tbs (q := (yX1_has, _)) 12 rfl⟩
def mX1_hasRoom : MI := (yX1_hasRoom, cX1_hasRoom, 1, some .boolean, 0)
set_option maxRecDepth 20000 in
theorem wc_X1_hasRoom : cw mX1_hasRoom ∈ TB := tbw 333 rfl rfl
theorem fX1_hasRoom : SMv mX1_hasRoom 0 := ⟨wc_X1_hasRoom, wi_X1, by decide +kernel, by decide +kernel, tbw 332 (by decide +kernel) rfl, tbs (q := (yX1_hasRoom, _)) 9 rfl⟩
def mX1_hire : MI := (yX1_hire, cX1_hire, 4, none, 1)
set_option maxRecDepth 20000 in
theorem wc_X1_hire : cw mX1_hire ∈ TB := tbw 337 rfl rfl
theorem fX1_hire : SMv mX1_hire 3 := ⟨wc_X1_hire, wi_X1, by decide +kernel, by decide +kernel, tbw 336 (by decide +kernel) rfl, tbs (q := (yX1_hire, _)) 10 rfl⟩
def mX1_init : MI := (yX1_init, cX1_init, 1, none, 5)
set_option maxRecDepth 20000 in
theorem wc_X1_init : cw mX1_init ∈ TB := tbw 31 rfl rfl
-- neither: X1_init
def mX1_isOff : MI := (yX1_isOff, cX1_isOff, 3, some .boolean, 1)
set_option maxRecDepth 20000 in
theorem wc_X1_isOff : cw mX1_isOff ∈ TB := tbw 369 rfl rfl
theorem fX1_isOff : SMv mX1_isOff 2 := ⟨wc_X1_isOff, wi_X1, by decide +kernel, by decide +kernel, tbw 368 (by decide +kernel) rfl, tbs (q := (yX1_isOff, _)) 17 rfl⟩
def mX1_isPaidAtWork : MI := (yX1_isPaidAtWork, cX1_isPaidAtWork, 6, some .boolean, 2)
set_option maxRecDepth 20000 in
theorem wc_X1_isPaidAtWork : cw mX1_isPaidAtWork ∈ TB := tbw 390 rfl rfl
theorem fX1_isPaidAtWork : SMv mX1_isPaidAtWork 2 := ⟨wc_X1_isPaidAtWork, wi_X1, by decide +kernel, by decide +kernel, tbw 389 (by decide +kernel) rfl, tbs (q := (yX1_isPaidAtWork, _)) 21 rfl⟩
def mX1_meetings : MI := (yX1_meetings, cX1_meetings, 3, some .int, 0)
set_option maxRecDepth 20000 in
theorem wc_X1_meetings : cw mX1_meetings ∈ TB := tbw 579 rfl rfl
theorem fX1_meetings : SMv mX1_meetings 2 := ⟨wc_X1_meetings, wi_X1, by decide +kernel, by decide +kernel, tbw 578 (by decide +kernel) rfl, tbs (q := (yX1_meetings, _)) 34 rfl⟩
def mX1_offOn : MI := (yX1_offOn, cX1_offOn, 2, some .int, 3)
set_option maxRecDepth 20000 in
theorem wc_X1_offOn : cw mX1_offOn ∈ TB := tbw 560 rfl rfl
theorem fX1_offOn : SMv mX1_offOn 1 := ⟨wc_X1_offOn, wi_X1, by decide +kernel, by decide +kernel, tbw 559 (by decide +kernel) rfl, tbs (q := (yX1_offOn, _)) 31 rfl⟩
def mX1_offered : MI := (yX1_offered, cX1_offered, 3, some .int, 0)
set_option maxRecDepth 20000 in
theorem wc_X1_offered : cw mX1_offered ∈ TB := tbw 423 rfl rfl
theorem fX1_offered : SMv mX1_offered 2 := ⟨wc_X1_offered, wi_X1, by decide +kernel, by decide +kernel, tbw 422 (by decide +kernel) rfl, tbs (q := (yX1_offered, _)) 23 rfl⟩
def mX1_passDays : MI := (yX1_passDays, cX1_passDays, 6, some .int, 3)
set_option maxRecDepth 20000 in
theorem wc_X1_passDays : cw mX1_passDays ∈ TB := tbw 385 rfl rfl
theorem fX1_passDays : SMv mX1_passDays 2 := ⟨wc_X1_passDays, wi_X1, by decide +kernel, by decide +kernel, tbw 384 (by decide +kernel) rfl, tbs (q := (yX1_passDays, _)) 20 rfl⟩
def mX1_richest : MI := (yX1_richest, cX1_richest, 5, some .int, 1)
set_option maxRecDepth 20000 in
theorem wc_X1_richest : cw mX1_richest ∈ TB := tbw 571 rfl rfl
theorem fX1_richest : SMv mX1_richest 0 := ⟨wc_X1_richest, wi_X1, by decide +kernel, by decide +kernel, tbw 570 (by decide +kernel) rfl, tbs (q := (yX1_richest, _)) 33 rfl⟩
def mX1_ruleOf : MI := (yX1_ruleOf, cX1_ruleOf, 2, some (.object "PaidInDays$WorkerKind"), 0)
set_option maxRecDepth 20000 in
theorem wc_X1_ruleOf : cw mX1_ruleOf ∈ TB := tbw 395 rfl rfl
theorem fX1_ruleOf : SMv mX1_ruleOf 1 := ⟨wc_X1_ruleOf, wi_X1, by decide +kernel, by decide +kernel, tbw 394 (by decide +kernel) rfl, tbs (q := (yX1_ruleOf, _)) 22 rfl⟩
def mX1_strikeDay : MI := (yX1_strikeDay, cX1_strikeDay, 3, some .int, 4)
set_option maxRecDepth 20000 in
theorem wc_X1_strikeDay : cw mX1_strikeDay ∈ TB := tbw 556 rfl rfl
theorem fX1_strikeDay : SMv mX1_strikeDay 0 := ⟨wc_X1_strikeDay, wi_X1, by decide +kernel, by decide +kernel, tbw 555 (by decide +kernel) rfl, tbs (q := (yX1_strikeDay, _)) 30 rfl⟩
def mX1_weekday : MI := (yX1_weekday, cX1_weekday, 1, some .int, 0)
set_option maxRecDepth 20000 in
theorem wc_X1_weekday : cw mX1_weekday ∈ TB := tbw 527 rfl rfl
theorem fX1_weekday : SMv mX1_weekday 0 := ⟨wc_X1_weekday, wi_X1, by decide +kernel, by decide +kernel, tbw 526 (by decide +kernel) rfl, tbs (q := (yX1_weekday, _)) 26 rfl⟩
def mX1_whoFell : MI := (yX1_whoFell, cX1_whoFell, 3, some .int, 0)
set_option maxRecDepth 20000 in
theorem wc_X1_whoFell : cw mX1_whoFell ∈ TB := tbw 543 rfl rfl
theorem fX1_whoFell : SMv mX1_whoFell 0 := ⟨wc_X1_whoFell, wi_X1, by decide +kernel, by decide +kernel, tbw 542 (by decide +kernel) rfl, tbs (q := (yX1_whoFell, _)) 29 rfl⟩
def mX1_whoIsIn : MI := (yX1_whoIsIn, cX1_whoIsIn, 4, some .int, 2)
set_option maxRecDepth 20000 in
theorem wc_X1_whoIsIn : cw mX1_whoIsIn ∈ TB := tbw 531 rfl rfl
theorem fX1_whoIsIn : SMv mX1_whoIsIn 1 := ⟨wc_X1_whoIsIn, wi_X1, by decide +kernel, by decide +kernel, tbw 530 (by decide +kernel) rfl, tbs (q := (yX1_whoIsIn, _)) 27 rfl⟩
def mX2_choosePayer : MI := (yX2_choosePayer, cX2_choosePayer, 4, some .int, 1)
set_option maxRecDepth 20000 in
theorem wc_X2_choosePayer : cw mX2_choosePayer ∈ TB := tbw 426 rfl rfl
-- no selects of itself: X2_choosePayer
theorem fiX2_choosePayer : Cond.instanceMethod yX2_choosePayer ∈ TB := tbw 425 (by decide +kernel) rfl
def mX2_dueAfter : MI := (yX2_dueAfter, cX2_dueAfter, 2, some .int, 0)
set_option maxRecDepth 20000 in
theorem wc_X2_dueAfter : cw mX2_dueAfter ∈ TB := tbw 406 rfl rfl
-- no selects of itself: X2_dueAfter
theorem fiX2_dueAfter : Cond.instanceMethod yX2_dueAfter ∈ TB := tbw 405 (by decide +kernel) rfl
def mX2_init : MI := (yX2_init, cX2_init, 1, none, 4)
set_option maxRecDepth 20000 in
theorem wc_X2_init : cw mX2_init ∈ TB := tbw 73 rfl rfl
-- neither: X2_init
def mX3_choosePayer : MI := (yX3_choosePayer, cX3_choosePayer, 7, some .int, 1)
set_option maxRecDepth 20000 in
theorem wc_X3_choosePayer : cw mX3_choosePayer ∈ TB := tbw 430 rfl rfl
-- no selects of itself: X3_choosePayer
theorem fiX3_choosePayer : Cond.instanceMethod yX3_choosePayer ∈ TB := tbw 429 (by decide +kernel) rfl
def mX3_init : MI := (yX3_init, cX3_init, 1, none, 2)
set_option maxRecDepth 20000 in
theorem wc_X3_init : cw mX3_init ∈ TB := tbw 45 rfl rfl
-- neither: X3_init
def mX4_dueAfter : MI := (yX4_dueAfter, cX4_dueAfter, 2, some .int, 0)
set_option maxRecDepth 20000 in
theorem wc_X4_dueAfter : cw mX4_dueAfter ∈ TB := tbw 410 rfl rfl
-- no selects of itself: X4_dueAfter
theorem fiX4_dueAfter : Cond.instanceMethod yX4_dueAfter ∈ TB := tbw 409 (by decide +kernel) rfl
def mX4_init : MI := (yX4_init, cX4_init, 1, none, 3)
set_option maxRecDepth 20000 in
theorem wc_X4_init : cw mX4_init ∈ TB := tbw 66 rfl rfl
-- neither: X4_init
def mX5_add : MI := (yX5_add, cX5_add, 2, none, 1)
set_option maxRecDepth 20000 in
theorem wc_X5_add : cw mX5_add ∈ TB := tbw 178 rfl rfl
theorem fX5_add : SMv mX5_add 1 := ⟨wc_X5_add, wi_X5, by decide +kernel, by decide +kernel, tbw 177 (by decide +kernel) rfl, tbs (q := (yX5_add, _)) 2 rfl⟩
def mX5_changesOff : MI := (yX5_changesOff, cX5_changesOff, 5, some .boolean, 1)
set_option maxRecDepth 20000 in
theorem wc_X5_changesOff : cw mX5_changesOff ∈ TB := tbw 342 rfl rfl
theorem fX5_changesOff : SMv mX5_changesOff 2 := ⟨wc_X5_changesOff, wi_X5, by decide +kernel, by decide +kernel, tbw 341 (by decide +kernel) rfl, tbs (q := (yX5_changesOff, _)) 11 rfl⟩
def mX5_firstWrongLetter : MI := (yX5_firstWrongLetter, cX5_firstWrongLetter, 4, some .int, 8)
set_option maxRecDepth 20000 in
theorem wc_X5_firstWrongLetter : cw mX5_firstWrongLetter ∈ TB := tbw 194 rfl rfl
theorem fX5_firstWrongLetter : SMv mX5_firstWrongLetter 0 := ⟨wc_X5_firstWrongLetter, wi_X5, by decide +kernel, by decide +kernel, tbw 193 (by decide +kernel) rfl, tbs (q := (yX5_firstWrongLetter, _)) 4 rfl⟩
def mX5_forget : MI := (yX5_forget, cX5_forget, 1, none, 0)
set_option maxRecDepth 20000 in
theorem wc_X5_forget : cw mX5_forget ∈ TB := tbw 468 rfl rfl
theorem fX5_forget : SMv mX5_forget 0 := ⟨wc_X5_forget, wi_X5, by decide +kernel, by decide +kernel, tbw 467 (by decide +kernel) rfl, tbs (q := (yX5_forget, _)) 24 rfl⟩
def mX5_handsOver : MI := (yX5_handsOver, cX5_handsOver, 6, some .boolean, 3)
set_option maxRecDepth 20000 in
theorem wc_X5_handsOver : cw mX5_handsOver ∈ TB := tbw 361 rfl rfl
theorem fX5_handsOver : SMv mX5_handsOver 2 := ⟨wc_X5_handsOver, wi_X5, by decide +kernel, by decide +kernel, tbw 360 (by decide +kernel) rfl, tbs (q := (yX5_handsOver, _)) 15 rfl⟩
def mX5_hires : MI := (yX5_hires, cX5_hires, 6, some .boolean, 7)
set_option maxRecDepth 20000 in
theorem wc_X5_hires : cw mX5_hires ∈ TB := tbw 325 rfl rfl
theorem fX5_hires : SMv mX5_hires 2 := ⟨wc_X5_hires, wi_X5, by decide +kernel, by decide +kernel, tbw 324 (by decide +kernel) rfl, tbs (q := (yX5_hires, _)) 7 rfl⟩
def mX5_init : MI := (yX5_init, cX5_init, 1, none, 1)
set_option maxRecDepth 20000 in
theorem wc_X5_init : cw mX5_init ∈ TB := tbw 124 rfl rfl
-- neither: X5_init
def mX5_isAs : MI := (yX5_isAs, cX5_isAs, 2, some .boolean, 7)
set_option maxRecDepth 20000 in
theorem wc_X5_isAs : cw mX5_isAs ∈ TB := tbw 257 rfl rfl
theorem fX5_isAs : SMs mX5_isAs 2 := ⟨wc_X5_isAs, wi_X5, by decide +kernel, by decide +kernel, tbw 256 (by decide +kernel) rfl⟩
def mX5_isFull : MI := (yX5_isFull, cX5_isFull, 1, some .boolean, 0)
set_option maxRecDepth 20000 in
theorem wc_X5_isFull : cw mX5_isFull ∈ TB := tbw 170 rfl rfl
theorem fX5_isFull : SMv mX5_isFull 0 := ⟨wc_X5_isFull, wi_X5, by decide +kernel, by decide +kernel, tbw 169 (by decide +kernel) rfl, tbs (q := (yX5_isFull, _)) 0 rfl⟩
def mX5_isObeyed : MI := (yX5_isObeyed, cX5_isObeyed, 3, some .boolean, 8)
set_option maxRecDepth 20000 in
theorem wc_X5_isObeyed : cw mX5_isObeyed ∈ TB := tbw 321 rfl rfl
theorem fX5_isObeyed : SMv mX5_isObeyed 2 := ⟨wc_X5_isObeyed, wi_X5, by decide +kernel, by decide +kernel, tbw 320 (by decide +kernel) rfl, tbs (q := (yX5_isObeyed, _)) 6 rfl⟩
def mX5_letsPass : MI := (yX5_letsPass, cX5_letsPass, 4, some .boolean, 4)
set_option maxRecDepth 20000 in
theorem wc_X5_letsPass : cw mX5_letsPass ∈ TB := tbw 381 rfl rfl
theorem fX5_letsPass : SMv mX5_letsPass 2 := ⟨wc_X5_letsPass, wi_X5, by decide +kernel, by decide +kernel, tbw 380 (by decide +kernel) rfl, tbs (q := (yX5_letsPass, _)) 19 rfl⟩
def mX5_number : MI := (yX5_number, cX5_number, 5, some .int, 0)
set_option maxRecDepth 20000 in
theorem wc_X5_number : cw mX5_number ∈ TB := tbw 329 rfl rfl
theorem fX5_number : SMv mX5_number 2 := ⟨wc_X5_number, wi_X5, by decide +kernel, by decide +kernel, tbw 328 (by decide +kernel) rfl, tbs (q := (yX5_number, _)) 8 rfl⟩
def mX5_setsTired : MI := (yX5_setsTired, cX5_setsTired, 5, some .boolean, 1)
set_option maxRecDepth 20000 in
theorem wc_X5_setsTired : cw mX5_setsTired ∈ TB := tbw 357 rfl rfl
theorem fX5_setsTired : SMv mX5_setsTired 2 := ⟨wc_X5_setsTired, wi_X5, by decide +kernel, by decide +kernel, tbw 356 (by decide +kernel) rfl, tbs (q := (yX5_setsTired, _)) 14 rfl⟩
def mX5_shapeAt : MI := (yX5_shapeAt, cX5_shapeAt, 2, some (.object "java/lang/String"), 0)
set_option maxRecDepth 20000 in
theorem wc_X5_shapeAt : cw mX5_shapeAt ∈ TB := tbw 198 rfl rfl
theorem fX5_shapeAt : SMv mX5_shapeAt 1 := ⟨wc_X5_shapeAt, wi_X5, by decide +kernel, by decide +kernel, tbw 197 (by decide +kernel) rfl, tbs (q := (yX5_shapeAt, _)) 5 rfl⟩
def mX6_chooseWeekday : MI := (yX6_chooseWeekday, cX6_chooseWeekday, 2, some .int, 1)
set_option maxRecDepth 20000 in
theorem wc_X6_chooseWeekday : cw mX6_chooseWeekday ∈ TB := tbw 450 rfl rfl
-- no selects of itself: X6_chooseWeekday
theorem fiX6_chooseWeekday : Cond.instanceMethod yX6_chooseWeekday ∈ TB := tbw 449 (by decide +kernel) rfl
def mX6_init : MI := (yX6_init, cX6_init, 1, none, 3)
set_option maxRecDepth 20000 in
theorem wc_X6_init : cw mX6_init ∈ TB := tbw 59 rfl rfl
-- neither: X6_init
def mX7_choosePayer : MI := (yX7_choosePayer, cX7_choosePayer, 5, some .int, 1)
set_option maxRecDepth 20000 in
theorem wc_X7_choosePayer : cw mX7_choosePayer ∈ TB := tbw 440 rfl rfl
theorem fX7_choosePayer : SMv mX7_choosePayer 2 := ⟨wc_X7_choosePayer, wi_X7, by decide +kernel, by decide +kernel, tbw 414 (by decide +kernel) rfl, tbw 415 (by decide +kernel) rfl⟩
def mX7_chooseWeekday : MI := (yX7_chooseWeekday, cX7_chooseWeekday, 2, some .int, 1)
set_option maxRecDepth 20000 in
theorem wc_X7_chooseWeekday : cw mX7_chooseWeekday ∈ TB := tbw 458 rfl rfl
theorem fX7_chooseWeekday : SMv mX7_chooseWeekday 1 := ⟨wc_X7_chooseWeekday, wi_X7, by decide +kernel, by decide +kernel, tbw 444 (by decide +kernel) rfl, tbw 445 (by decide +kernel) rfl⟩
def mX7_dueAfter : MI := (yX7_dueAfter, cX7_dueAfter, 2, some .int, 0)
set_option maxRecDepth 20000 in
theorem wc_X7_dueAfter : cw mX7_dueAfter ∈ TB := tbw 412 rfl rfl
theorem fX7_dueAfter : SMv mX7_dueAfter 1 := ⟨wc_X7_dueAfter, wi_X7, by decide +kernel, by decide +kernel, tbw 397 (by decide +kernel) rfl, tbw 398 (by decide +kernel) rfl⟩
def mX7_init : MI := (yX7_init, cX7_init, 1, none, 1)
set_option maxRecDepth 20000 in
theorem wc_X7_init : cw mX7_init ∈ TB := tbw 38 rfl rfl
-- neither: X7_init
def mX8_allTiredBehind : MI := (yX8_allTiredBehind, cX8_allTiredBehind, 2, some .int, 4)
set_option maxRecDepth 20000 in
theorem wc_X8_allTiredBehind : cw mX8_allTiredBehind ∈ TB := tbw 598 rfl rfl
theorem fX8_allTiredBehind : SMv mX8_allTiredBehind 1 := ⟨wc_X8_allTiredBehind, wi_X8, by decide +kernel, by decide +kernel, tbw 597 (by decide +kernel) rfl, tbs (q := (yX8_allTiredBehind, _)) 35 rfl⟩
def mX8_areTwo : MI := (yX8_areTwo, cX8_areTwo, 3, some .boolean, 1)
set_option maxRecDepth 20000 in
theorem wc_X8_areTwo : cw mX8_areTwo ∈ TB := tbw 500 rfl rfl
theorem fX8_areTwo : SMv mX8_areTwo 2 := ⟨wc_X8_areTwo, wi_X8, by decide +kernel, by decide +kernel, tbw 499 (by decide +kernel) rfl, tbs (q := (yX8_areTwo, _)) 25 rfl⟩
def mX8_better : MI := (yX8_better, cX8_better, 9, some .int, 5)
set_option maxRecDepth 20000 in
theorem wc_X8_better : cw mX8_better ∈ TB := tbw 614 rfl rfl
theorem fX8_better : SMv mX8_better 3 := ⟨wc_X8_better, wi_X8, by decide +kernel, by decide +kernel, tbw 612 (by decide +kernel) rfl, tbw 613 (by decide +kernel) rfl⟩
def mX8_bothTiredBehind : MI := (yX8_bothTiredBehind, cX8_bothTiredBehind, 4, some .int, 4)
set_option maxRecDepth 20000 in
theorem wc_X8_bothTiredBehind : cw mX8_bothTiredBehind ∈ TB := tbw 610 rfl rfl
theorem fX8_bothTiredBehind : SMv mX8_bothTiredBehind 3 := ⟨wc_X8_bothTiredBehind, wi_X8, by decide +kernel, by decide +kernel, tbw 609 (by decide +kernel) rfl, tbs (q := (yX8_bothTiredBehind, _)) 37 rfl⟩
def mX8_clear : MI := (yX8_clear, cX8_clear, 2, some .int, 0)
set_option maxRecDepth 20000 in
theorem wc_X8_clear : cw mX8_clear ∈ TB := tbw 703 rfl rfl
theorem fX8_clear : SMv mX8_clear 0 := ⟨wc_X8_clear, wi_X8, by decide +kernel, by decide +kernel, tbw 701 (by decide +kernel) rfl, tbw 702 (by decide +kernel) rfl⟩
def mX8_commonDivisor : MI := (yX8_commonDivisor, cX8_commonDivisor, 11, some .long, 0)
set_option maxRecDepth 20000 in
theorem wc_X8_commonDivisor : cw mX8_commonDivisor ∈ TB := tbw 679 rfl rfl
theorem fX8_commonDivisor : SMs mX8_commonDivisor 2 := ⟨wc_X8_commonDivisor, wi_X8, by decide +kernel, by decide +kernel, tbw 678 (by decide +kernel) rfl⟩
def mX8_count : MI := (yX8_count, cX8_count, 2, some .int, 3)
set_option maxRecDepth 20000 in
theorem wc_X8_count : cw mX8_count ∈ TB := tbw 727 rfl rfl
theorem fX8_count : SMv mX8_count 1 := ⟨wc_X8_count, wi_X8, by decide +kernel, by decide +kernel, tbw 725 (by decide +kernel) rfl, tbw 726 (by decide +kernel) rfl⟩
def mX8_days : MI := (yX8_days, cX8_days, 3, some .int, 4)
set_option maxRecDepth 20000 in
theorem wc_X8_days : cw mX8_days ∈ TB := tbw 514 rfl rfl
theorem fX8_days : SMv mX8_days 1 := ⟨wc_X8_days, wi_X8, by decide +kernel, by decide +kernel, tbw 512 (by decide +kernel) rfl, tbw 513 (by decide +kernel) rfl⟩
def mX8_daysTillFall : MI := (yX8_daysTillFall, cX8_daysTillFall, 4, some .int, 4)
set_option maxRecDepth 20000 in
theorem wc_X8_daysTillFall : cw mX8_daysTillFall ∈ TB := tbw 539 rfl rfl
theorem fX8_daysTillFall : SMv mX8_daysTillFall 2 := ⟨wc_X8_daysTillFall, wi_X8, by decide +kernel, by decide +kernel, tbw 538 (by decide +kernel) rfl, tbs (q := (yX8_daysTillFall, _)) 28 rfl⟩
def mX8_drawn : MI := (yX8_drawn, cX8_drawn, 2, some .int, 0)
set_option maxRecDepth 20000 in
theorem wc_X8_drawn : cw mX8_drawn ∈ TB := tbw 715 rfl rfl
theorem fX8_drawn : SMs mX8_drawn 2 := ⟨wc_X8_drawn, wi_X8, by decide +kernel, by decide +kernel, tbw 714 (by decide +kernel) rfl⟩
def mX8_falls : MI := (yX8_falls, cX8_falls, 4, some .int, 5)
set_option maxRecDepth 20000 in
theorem wc_X8_falls : cw mX8_falls ∈ TB := tbw 535 rfl rfl
theorem fX8_falls : SMv mX8_falls 1 := ⟨wc_X8_falls, wi_X8, by decide +kernel, by decide +kernel, tbw 533 (by decide +kernel) rfl, tbw 534 (by decide +kernel) rfl⟩
def mX8_feltTired : MI := (yX8_feltTired, cX8_feltTired, 5, some .int, 4)
set_option maxRecDepth 20000 in
theorem wc_X8_feltTired : cw mX8_feltTired ∈ TB := tbw 652 rfl rfl
theorem fX8_feltTired : SMv mX8_feltTired 3 := ⟨wc_X8_feltTired, wi_X8, by decide +kernel, by decide +kernel, tbw 651 (by decide +kernel) rfl, tbs (q := (yX8_feltTired, _)) 42 rfl⟩
def mX8_fever : MI := (yX8_fever, cX8_fever, 12, some .long, 5)
set_option maxRecDepth 20000 in
theorem wc_X8_fever : cw mX8_fever ∈ TB := tbw 657 rfl rfl
theorem fX8_fever : SMv mX8_fever 5 := ⟨wc_X8_fever, wi_X8, by decide +kernel, by decide +kernel, tbw 655 (by decide +kernel) rfl, tbw 656 (by decide +kernel) rfl⟩
def mX8_feverRefusal : MI := (yX8_feverRefusal, cX8_feverRefusal, 6, some .int, 1)
set_option maxRecDepth 20000 in
theorem wc_X8_feverRefusal : cw mX8_feverRefusal ∈ TB := tbw 661 rfl rfl
theorem fX8_feverRefusal : SMv mX8_feverRefusal 5 := ⟨wc_X8_feverRefusal, wi_X8, by decide +kernel, by decide +kernel, tbw 660 (by decide +kernel) rfl, tbs (q := (yX8_feverRefusal, _)) 43 rfl⟩
def mX8_fewest : MI := (yX8_fewest, cX8_fewest, 6, some .int, 6)
set_option maxRecDepth 20000 in
theorem wc_X8_fewest : cw mX8_fewest ∈ TB := tbw 619 rfl rfl
theorem fX8_fewest : SMv mX8_fewest 1 := ⟨wc_X8_fewest, wi_X8, by decide +kernel, by decide +kernel, tbw 617 (by decide +kernel) rfl, tbw 618 (by decide +kernel) rfl⟩
def mX8_frees : MI := (yX8_frees, cX8_frees, 3, some .int, 1)
set_option maxRecDepth 20000 in
theorem wc_X8_frees : cw mX8_frees ∈ TB := tbw 490 rfl rfl
theorem fX8_frees : SMv mX8_frees 2 := ⟨wc_X8_frees, wi_X8, by decide +kernel, by decide +kernel, tbw 488 (by decide +kernel) rfl, tbw 489 (by decide +kernel) rfl⟩
def mX8_from : MI := (yX8_from, cX8_from, 5, some .int, 2)
set_option maxRecDepth 20000 in
theorem wc_X8_from : cw mX8_from ∈ TB := tbw 480 rfl rfl
theorem fX8_from : SMv mX8_from 2 := ⟨wc_X8_from, wi_X8, by decide +kernel, by decide +kernel, tbw 478 (by decide +kernel) rfl, tbw 479 (by decide +kernel) rfl⟩
def mX8_gift : MI := (yX8_gift, cX8_gift, 9, some .int, 5)
set_option maxRecDepth 20000 in
theorem wc_X8_gift : cw mX8_gift ∈ TB := tbw 594 rfl rfl
theorem fX8_gift : SMv mX8_gift 3 := ⟨wc_X8_gift, wi_X8, by decide +kernel, by decide +kernel, tbw 592 (by decide +kernel) rfl, tbw 593 (by decide +kernel) rfl⟩
def mX8_gives : MI := (yX8_gives, cX8_gives, 4, some .int, 3)
set_option maxRecDepth 20000 in
theorem wc_X8_gives : cw mX8_gives ∈ TB := tbw 496 rfl rfl
theorem fX8_gives : SMv mX8_gives 3 := ⟨wc_X8_gives, wi_X8, by decide +kernel, by decide +kernel, tbw 494 (by decide +kernel) rfl, tbw 495 (by decide +kernel) rfl⟩
def mX8_hasBit : MI := (yX8_hasBit, cX8_hasBit, 2, some .boolean, 0)
set_option maxRecDepth 20000 in
theorem wc_X8_hasBit : cw mX8_hasBit ∈ TB := tbw 372 rfl rfl
theorem fX8_hasBit : SMs mX8_hasBit 2 := ⟨wc_X8_hasBit, wi_X8, by decide +kernel, by decide +kernel, tbw 371 (by decide +kernel) rfl⟩
def mX8_holiday : MI := (yX8_holiday, cX8_holiday, 8, some .int, 5)
set_option maxRecDepth 20000 in
theorem wc_X8_holiday : cw mX8_holiday ∈ TB := tbw 640 rfl rfl
theorem fX8_holiday : SMv mX8_holiday 2 := ⟨wc_X8_holiday, wi_X8, by decide +kernel, by decide +kernel, tbw 638 (by decide +kernel) rfl, tbw 639 (by decide +kernel) rfl⟩
def mX8_image : MI := (yX8_image, cX8_image, 1, some .int, 2)
set_option maxRecDepth 20000 in
theorem wc_X8_image : cw mX8_image ∈ TB := tbw 719 rfl rfl
theorem fX8_image : SMv mX8_image 0 := ⟨wc_X8_image, wi_X8, by decide +kernel, by decide +kernel, tbw 717 (by decide +kernel) rfl, tbw 718 (by decide +kernel) rfl⟩
def mX8_init : MI := (yX8_init, cX8_init, 1, none, 6)
set_option maxRecDepth 20000 in
theorem wc_X8_init : cw mX8_init ∈ TB := tbw 23 rfl rfl
-- neither: X8_init
def mX8_isEither : MI := (yX8_isEither, cX8_isEither, 1, some .boolean, 0)
set_option maxRecDepth 20000 in
theorem wc_X8_isEither : cw mX8_isEither ∈ TB := tbw 483 rfl rfl
theorem fX8_isEither : SMs mX8_isEither 1 := ⟨wc_X8_isEither, wi_X8, by decide +kernel, by decide +kernel, tbw 482 (by decide +kernel) rfl⟩
def mX8_isWeekday : MI := (yX8_isWeekday, cX8_isWeekday, 1, some .boolean, 0)
set_option maxRecDepth 20000 in
theorem wc_X8_isWeekday : cw mX8_isWeekday ∈ TB := tbw 349 rfl rfl
theorem fX8_isWeekday : SMs mX8_isWeekday 1 := ⟨wc_X8_isWeekday, wi_X8, by decide +kernel, by decide +kernel, tbw 348 (by decide +kernel) rfl⟩
def mX8_judge : MI := (yX8_judge, cX8_judge, 3, some .int, 3)
set_option maxRecDepth 20000 in
theorem wc_X8_judge : cw mX8_judge ∈ TB := tbw 699 rfl rfl
theorem fX8_judge : SMv mX8_judge 0 := ⟨wc_X8_judge, wi_X8, by decide +kernel, by decide +kernel, tbw 697 (by decide +kernel) rfl, tbw 698 (by decide +kernel) rfl⟩
def mX8_keepsTo : MI := (yX8_keepsTo, cX8_keepsTo, 4, some .boolean, 5)
set_option maxRecDepth 20000 in
theorem wc_X8_keepsTo : cw mX8_keepsTo ∈ TB := tbw 648 rfl rfl
theorem fX8_keepsTo : SMv mX8_keepsTo 3 := ⟨wc_X8_keepsTo, wi_X8, by decide +kernel, by decide +kernel, tbw 647 (by decide +kernel) rfl, tbs (q := (yX8_keepsTo, _)) 41 rfl⟩
def mX8_letter : MI := (yX8_letter, cX8_letter, 3, some .int, 2)
set_option maxRecDepth 20000 in
theorem wc_X8_letter : cw mX8_letter ∈ TB := tbw 163 rfl rfl
theorem fX8_letter : SMv mX8_letter 1 := ⟨wc_X8_letter, wi_X8, by decide +kernel, by decide +kernel, tbw 161 (by decide +kernel) rfl, tbw 162 (by decide +kernel) rfl⟩
def mX8_lots : MI := (yX8_lots, cX8_lots, 10, some .int, 4)
set_option maxRecDepth 20000 in
theorem wc_X8_lots : cw mX8_lots ∈ TB := tbw 707 rfl rfl
theorem fX8_lots : SMv mX8_lots 3 := ⟨wc_X8_lots, wi_X8, by decide +kernel, by decide +kernel, tbw 705 (by decide +kernel) rfl, tbw 706 (by decide +kernel) rfl⟩
def mX8_mean : MI := (yX8_mean, cX8_mean, 2, some .long, 2)
set_option maxRecDepth 20000 in
theorem wc_X8_mean : cw mX8_mean ∈ TB := tbw 683 rfl rfl
theorem fX8_mean : SMv mX8_mean 1 := ⟨wc_X8_mean, wi_X8, by decide +kernel, by decide +kernel, tbw 681 (by decide +kernel) rfl, tbw 682 (by decide +kernel) rfl⟩
def mX8_meet : MI := (yX8_meet, cX8_meet, 3, some .int, 2)
set_option maxRecDepth 20000 in
theorem wc_X8_meet : cw mX8_meet ∈ TB := tbw 575 rfl rfl
theorem fX8_meet : SMv mX8_meet 2 := ⟨wc_X8_meet, wi_X8, by decide +kernel, by decide +kernel, tbw 573 (by decide +kernel) rfl, tbw 574 (by decide +kernel) rfl⟩
def mX8_never : MI := (yX8_never, cX8_never, 6, some .int, 1)
set_option maxRecDepth 20000 in
theorem wc_X8_never : cw mX8_never ∈ TB := tbw 583 rfl rfl
theorem fX8_never : SMv mX8_never 1 := ⟨wc_X8_never, wi_X8, by decide +kernel, by decide +kernel, tbw 581 (by decide +kernel) rfl, tbw 582 (by decide +kernel) rfl⟩
def mX8_nextSeed : MI := (yX8_nextSeed, cX8_nextSeed, 1, some .int, 0)
set_option maxRecDepth 20000 in
theorem wc_X8_nextSeed : cw mX8_nextSeed ∈ TB := tbw 710 rfl rfl
theorem fX8_nextSeed : SMs mX8_nextSeed 1 := ⟨wc_X8_nextSeed, wi_X8, by decide +kernel, by decide +kernel, tbw 709 (by decide +kernel) rfl⟩
def mX8_nobodyFalls : MI := (yX8_nobodyFalls, cX8_nobodyFalls, 3, some .boolean, 5)
set_option maxRecDepth 20000 in
theorem wc_X8_nobodyFalls : cw mX8_nobodyFalls ∈ TB := tbw 624 rfl rfl
theorem fX8_nobodyFalls : SMv mX8_nobodyFalls 2 := ⟨wc_X8_nobodyFalls, wi_X8, by decide +kernel, by decide +kernel, tbw 623 (by decide +kernel) rfl, tbs (q := (yX8_nobodyFalls, _)) 38 rfl⟩
def mX8_on : MI := (yX8_on, cX8_on, 1, some .int, 2)
set_option maxRecDepth 20000 in
theorem wc_X8_on : cw mX8_on ∈ TB := tbw 723 rfl rfl
theorem fX8_on : SMv mX8_on 0 := ⟨wc_X8_on, wi_X8, by decide +kernel, by decide +kernel, tbw 721 (by decide +kernel) rfl, tbw 722 (by decide +kernel) rfl⟩
def mX8_outside : MI := (yX8_outside, cX8_outside, 3, some .int, 0)
set_option maxRecDepth 20000 in
theorem wc_X8_outside : cw mX8_outside ∈ TB := tbw 166 rfl rfl
theorem fX8_outside : SMs mX8_outside 3 := ⟨wc_X8_outside, wi_X8, by decide +kernel, by decide +kernel, tbw 165 (by decide +kernel) rfl⟩
def mX8_partOf : MI := (yX8_partOf, cX8_partOf, 7, some .long, 1)
set_option maxRecDepth 20000 in
theorem wc_X8_partOf : cw mX8_partOf ∈ TB := tbw 676 rfl rfl
theorem fX8_partOf : SMs mX8_partOf 3 := ⟨wc_X8_partOf, wi_X8, by decide +kernel, by decide +kernel, tbw 675 (by decide +kernel) rfl⟩
def mX8_refuse : MI := (yX8_refuse, cX8_refuse, 3, some .int, 0)
set_option maxRecDepth 20000 in
theorem wc_X8_refuse : cw mX8_refuse ∈ TB := tbw 174 rfl rfl
theorem fX8_refuse : SMv mX8_refuse 1 := ⟨wc_X8_refuse, wi_X8, by decide +kernel, by decide +kernel, tbw 173 (by decide +kernel) rfl, tbs (q := (yX8_refuse, _)) 1 rfl⟩
def mX8_refuseLong : MI := (yX8_refuseLong, cX8_refuseLong, 2, some .long, 1)
set_option maxRecDepth 20000 in
theorem wc_X8_refuseLong : cw mX8_refuseLong ∈ TB := tbw 665 rfl rfl
theorem fX8_refuseLong : SMv mX8_refuseLong 1 := ⟨wc_X8_refuseLong, wi_X8, by decide +kernel, by decide +kernel, tbw 664 (by decide +kernel) rfl, tbs (q := (yX8_refuseLong, _)) 44 rfl⟩
def mX8_rest : MI := (yX8_rest, cX8_rest, 5, some .int, 2)
set_option maxRecDepth 20000 in
theorem wc_X8_rest : cw mX8_rest ∈ TB := tbw 587 rfl rfl
theorem fX8_rest : SMv mX8_rest 1 := ⟨wc_X8_rest, wi_X8, by decide +kernel, by decide +kernel, tbw 585 (by decide +kernel) rfl, tbw 586 (by decide +kernel) rfl⟩
def mX8_rests : MI := (yX8_rests, cX8_rests, 5, some .int, 1)
set_option maxRecDepth 20000 in
theorem wc_X8_rests : cw mX8_rests ∈ TB := tbw 506 rfl rfl
theorem fX8_rests : SMv mX8_rests 2 := ⟨wc_X8_rests, wi_X8, by decide +kernel, by decide +kernel, tbw 504 (by decide +kernel) rfl, tbw 505 (by decide +kernel) rfl⟩
def mX8_row : MI := (yX8_row, cX8_row, 3, some .int, 1)
set_option maxRecDepth 20000 in
theorem wc_X8_row : cw mX8_row ∈ TB := tbw 695 rfl rfl
theorem fX8_row : SMv mX8_row 1 := ⟨wc_X8_row, wi_X8, by decide +kernel, by decide +kernel, tbw 693 (by decide +kernel) rfl, tbw 694 (by decide +kernel) rfl⟩
def mX8_send : MI := (yX8_send, cX8_send, 7, some .int, 5)
set_option maxRecDepth 20000 in
theorem wc_X8_send : cw mX8_send ∈ TB := tbw 632 rfl rfl
theorem fX8_send : SMv mX8_send 1 := ⟨wc_X8_send, wi_X8, by decide +kernel, by decide +kernel, tbw 630 (by decide +kernel) rfl, tbw 631 (by decide +kernel) rfl⟩
def mX8_still : MI := (yX8_still, cX8_still, 3, some .int, 4)
set_option maxRecDepth 20000 in
theorem wc_X8_still : cw mX8_still ∈ TB := tbw 548 rfl rfl
theorem fX8_still : SMv mX8_still 0 := ⟨wc_X8_still, wi_X8, by decide +kernel, by decide +kernel, tbw 546 (by decide +kernel) rfl, tbw 547 (by decide +kernel) rfl⟩
def mX8_strike : MI := (yX8_strike, cX8_strike, 2, some .int, 5)
set_option maxRecDepth 20000 in
theorem wc_X8_strike : cw mX8_strike ∈ TB := tbw 552 rfl rfl
theorem fX8_strike : SMv mX8_strike 1 := ⟨wc_X8_strike, wi_X8, by decide +kernel, by decide +kernel, tbw 550 (by decide +kernel) rfl, tbw 551 (by decide +kernel) rfl⟩
def mX8_then : MI := (yX8_then, cX8_then, 4, some .int, 4)
set_option maxRecDepth 20000 in
theorem wc_X8_then : cw mX8_then ∈ TB := tbw 523 rfl rfl
theorem fX8_then : SMv mX8_then 2 := ⟨wc_X8_then, wi_X8, by decide +kernel, by decide +kernel, tbw 521 (by decide +kernel) rfl, tbw 522 (by decide +kernel) rfl⟩
def mX8_tiredByFevers : MI := (yX8_tiredByFevers, cX8_tiredByFevers, 5, some .int, 4)
set_option maxRecDepth 20000 in
theorem wc_X8_tiredByFevers : cw mX8_tiredByFevers ∈ TB := tbw 670 rfl rfl
theorem fX8_tiredByFevers : SMv mX8_tiredByFevers 3 := ⟨wc_X8_tiredByFevers, wi_X8, by decide +kernel, by decide +kernel, tbw 669 (by decide +kernel) rfl, tbs (q := (yX8_tiredByFevers, _)) 45 rfl⟩
def mX8_tiresAsTold : MI := (yX8_tiresAsTold, cX8_tiresAsTold, 3, some .boolean, 4)
set_option maxRecDepth 20000 in
theorem wc_X8_tiresAsTold : cw mX8_tiresAsTold ∈ TB := tbw 691 rfl rfl
theorem fX8_tiresAsTold : SMv mX8_tiresAsTold 1 := ⟨wc_X8_tiresAsTold, wi_X8, by decide +kernel, by decide +kernel, tbw 690 (by decide +kernel) rfl, tbs (q := (yX8_tiresAsTold, _)) 46 rfl⟩
def mX8_trade : MI := (yX8_trade, cX8_trade, 10, some .int, 5)
set_option maxRecDepth 20000 in
theorem wc_X8_trade : cw mX8_trade ∈ TB := tbw 606 rfl rfl
theorem fX8_trade : SMv mX8_trade 3 := ⟨wc_X8_trade, wi_X8, by decide +kernel, by decide +kernel, tbw 604 (by decide +kernel) rfl, tbw 605 (by decide +kernel) rfl⟩
def mX8_turn : MI := (yX8_turn, cX8_turn, 6, some .int, 1)
set_option maxRecDepth 20000 in
theorem wc_X8_turn : cw mX8_turn ∈ TB := tbw 510 rfl rfl
theorem fX8_turn : SMv mX8_turn 3 := ⟨wc_X8_turn, wi_X8, by decide +kernel, by decide +kernel, tbw 508 (by decide +kernel) rfl, tbw 509 (by decide +kernel) rfl⟩
def mX8_two : MI := (yX8_two, cX8_two, 8, some .int, 6)
set_option maxRecDepth 20000 in
theorem wc_X8_two : cw mX8_two ∈ TB := tbw 644 rfl rfl
theorem fX8_two : SMv mX8_two 3 := ⟨wc_X8_two, wi_X8, by decide +kernel, by decide +kernel, tbw 642 (by decide +kernel) rfl, tbw 643 (by decide +kernel) rfl⟩
def mX8_wagesBehind : MI := (yX8_wagesBehind, cX8_wagesBehind, 3, some .int, 4)
set_option maxRecDepth 20000 in
theorem wc_X8_wagesBehind : cw mX8_wagesBehind ∈ TB := tbw 636 rfl rfl
theorem fX8_wagesBehind : SMv mX8_wagesBehind 2 := ⟨wc_X8_wagesBehind, wi_X8, by decide +kernel, by decide +kernel, tbw 635 (by decide +kernel) rfl, tbs (q := (yX8_wagesBehind, _)) 40 rfl⟩
def mX8_waysOfFevers : MI := (yX8_waysOfFevers, cX8_waysOfFevers, 6, some .long, 1)
set_option maxRecDepth 20000 in
theorem wc_X8_waysOfFevers : cw mX8_waysOfFevers ∈ TB := tbw 673 rfl rfl
theorem fX8_waysOfFevers : SMs mX8_waysOfFevers 3 := ⟨wc_X8_waysOfFevers, wi_X8, by decide +kernel, by decide +kernel, tbw 672 (by decide +kernel) rfl⟩
def mX8_whatIs : MI := (yX8_whatIs, cX8_whatIs, 6, some .int, 5)
set_option maxRecDepth 20000 in
theorem wc_X8_whatIs : cw mX8_whatIs ∈ TB := tbw 687 rfl rfl
theorem fX8_whatIs : SMv mX8_whatIs 2 := ⟨wc_X8_whatIs, wi_X8, by decide +kernel, by decide +kernel, tbw 685 (by decide +kernel) rfl, tbw 686 (by decide +kernel) rfl⟩
def mX8_worker : MI := (yX8_worker, cX8_worker, 3, some .int, 2)
set_option maxRecDepth 20000 in
theorem wc_X8_worker : cw mX8_worker ∈ TB := tbw 473 rfl rfl
theorem fX8_worker : SMv mX8_worker 2 := ⟨wc_X8_worker, wi_X8, by decide +kernel, by decide +kernel, tbw 471 (by decide +kernel) rfl, tbw 472 (by decide +kernel) rfl⟩
def mX8_workerThen : MI := (yX8_workerThen, cX8_workerThen, 5, some .int, 4)
set_option maxRecDepth 20000 in
theorem wc_X8_workerThen : cw mX8_workerThen ∈ TB := tbw 519 rfl rfl
theorem fX8_workerThen : SMv mX8_workerThen 3 := ⟨wc_X8_workerThen, wi_X8, by decide +kernel, by decide +kernel, tbw 517 (by decide +kernel) rfl, tbw 518 (by decide +kernel) rfl⟩
def mX8_works : MI := (yX8_works, cX8_works, 4, some .int, 9)
set_option maxRecDepth 20000 in
theorem wc_X8_works : cw mX8_works ∈ TB := tbw 183 rfl rfl
theorem fX8_works : SMv mX8_works 0 := ⟨wc_X8_works, wi_X8, by decide +kernel, by decide +kernel, tbw 181 (by decide +kernel) rfl, tbw 182 (by decide +kernel) rfl⟩
def mX9_allTired : MI := (yX9_allTired, cX9_allTired, 3, some .int, 1)
set_option maxRecDepth 20000 in
theorem wc_X9_allTired : cw mX9_allTired ∈ TB := tbw 979 rfl rfl
theorem fX9_allTired : SMs mX9_allTired 1 := ⟨wc_X9_allTired, wi_X9, by decide +kernel, by decide +kernel, tbw 978 (by decide +kernel) rfl⟩
def mX9_better : MI := (yX9_better, cX9_better, 8, some .int, 7)
set_option maxRecDepth 20000 in
theorem wc_X9_better : cw mX9_better ∈ TB := tbw 987 rfl rfl
theorem fX9_better : SMv mX9_better 3 := ⟨wc_X9_better, wi_X9, by decide +kernel, by decide +kernel, tbw 985 (by decide +kernel) rfl, tbw 986 (by decide +kernel) rfl⟩
def mX9_bits : MI := (yX9_bits, cX9_bits, 3, some .int, 0)
set_option maxRecDepth 20000 in
theorem wc_X9_bits : cw mX9_bits ∈ TB := tbw 865 rfl rfl
theorem fX9_bits : SMs mX9_bits 1 := ⟨wc_X9_bits, wi_X9, by decide +kernel, by decide +kernel, tbw 864 (by decide +kernel) rfl⟩
def mX9_bothIn : MI := (yX9_bothIn, cX9_bothIn, 3, some .int, 1)
set_option maxRecDepth 20000 in
theorem wc_X9_bothIn : cw mX9_bothIn ∈ TB := tbw 960 rfl rfl
theorem fX9_bothIn : SMv mX9_bothIn 2 := ⟨wc_X9_bothIn, wi_X9, by decide +kernel, by decide +kernel, tbw 959 (by decide +kernel) rfl, tbs (q := (yX9_bothIn, _)) 61 rfl⟩
def mX9_canGive : MI := (yX9_canGive, cX9_canGive, 4, some .boolean, 1)
set_option maxRecDepth 20000 in
theorem wc_X9_canGive : cw mX9_canGive ∈ TB := tbw 832 rfl rfl
theorem fX9_canGive : SMv mX9_canGive 3 := ⟨wc_X9_canGive, wi_X9, by decide +kernel, by decide +kernel, tbw 831 (by decide +kernel) rfl, tbs (q := (yX9_canGive, _)) 55 rfl⟩
def mX9_clear : MI := (yX9_clear, cX9_clear, 2, some .int, 0)
set_option maxRecDepth 20000 in
theorem wc_X9_clear : cw mX9_clear ∈ TB := tbw 1046 rfl rfl
theorem fX9_clear : SMv mX9_clear 0 := ⟨wc_X9_clear, wi_X9, by decide +kernel, by decide +kernel, tbw 1044 (by decide +kernel) rfl, tbw 1045 (by decide +kernel) rfl⟩
def mX9_copies : MI := (yX9_copies, cX9_copies, 3, none, 0)
set_option maxRecDepth 20000 in
theorem wc_X9_copies : cw mX9_copies ∈ TB := tbw 814 rfl rfl
theorem fX9_copies : SMs mX9_copies 2 := ⟨wc_X9_copies, wi_X9, by decide +kernel, by decide +kernel, tbw 813 (by decide +kernel) rfl⟩
def mX9_costBy : MI := (yX9_costBy, cX9_costBy, 8, some .int, 6)
set_option maxRecDepth 20000 in
theorem wc_X9_costBy : cw mX9_costBy ∈ TB := tbw 1011 rfl rfl
theorem fX9_costBy : SMv mX9_costBy 6 := ⟨wc_X9_costBy, wi_X9, by decide +kernel, by decide +kernel, tbw 1010 (by decide +kernel) rfl, tbs (q := (yX9_costBy, _)) 64 rfl⟩
def mX9_count : MI := (yX9_count, cX9_count, 4, some .int, 2)
set_option maxRecDepth 20000 in
theorem wc_X9_count : cw mX9_count ∈ TB := tbw 1069 rfl rfl
theorem fX9_count : SMv mX9_count 1 := ⟨wc_X9_count, wi_X9, by decide +kernel, by decide +kernel, tbw 1067 (by decide +kernel) rfl, tbw 1068 (by decide +kernel) rfl⟩
def mX9_day : MI := (yX9_day, cX9_day, 4, none, 5)
set_option maxRecDepth 20000 in
theorem wc_X9_day : cw mX9_day ∈ TB := tbw 844 rfl rfl
theorem fX9_day : SMs mX9_day 2 := ⟨wc_X9_day, wi_X9, by decide +kernel, by decide +kernel, tbw 843 (by decide +kernel) rfl⟩
def mX9_days : MI := (yX9_days, cX9_days, 2, some .int, 7)
set_option maxRecDepth 20000 in
theorem wc_X9_days : cw mX9_days ∈ TB := tbw 905 rfl rfl
theorem fX9_days : SMv mX9_days 1 := ⟨wc_X9_days, wi_X9, by decide +kernel, by decide +kernel, tbw 903 (by decide +kernel) rfl, tbw 904 (by decide +kernel) rfl⟩
def mX9_daysOn : MI := (yX9_daysOn, cX9_daysOn, 3, none, 6)
set_option maxRecDepth 20000 in
theorem wc_X9_daysOn : cw mX9_daysOn ∈ TB := tbw 841 rfl rfl
theorem fX9_daysOn : SMs mX9_daysOn 2 := ⟨wc_X9_daysOn, wi_X9, by decide +kernel, by decide +kernel, tbw 840 (by decide +kernel) rfl⟩
def mX9_doesNobodyFall : MI := (yX9_doesNobodyFall, cX9_doesNobodyFall, 4, some .boolean, 6)
set_option maxRecDepth 20000 in
theorem wc_X9_doesNobodyFall : cw mX9_doesNobodyFall ∈ TB := tbw 995 rfl rfl
theorem fX9_doesNobodyFall : SMv mX9_doesNobodyFall 1 := ⟨wc_X9_doesNobodyFall, wi_X9, by decide +kernel, by decide +kernel, tbw 994 (by decide +kernel) rfl, tbs (q := (yX9_doesNobodyFall, _)) 63 rfl⟩
def mX9_drawn : MI := (yX9_drawn, cX9_drawn, 2, some .int, 0)
set_option maxRecDepth 20000 in
theorem wc_X9_drawn : cw mX9_drawn ∈ TB := tbw 1054 rfl rfl
theorem fX9_drawn : SMv mX9_drawn 1 := ⟨wc_X9_drawn, wi_X9, by decide +kernel, by decide +kernel, tbw 1053 (by decide +kernel) rfl, tbs (q := (yX9_drawn, _)) 66 rfl⟩
def mX9_falls : MI := (yX9_falls, cX9_falls, 2, some .int, 8)
set_option maxRecDepth 20000 in
theorem wc_X9_falls : cw mX9_falls ∈ TB := tbw 924 rfl rfl
theorem fX9_falls : SMv mX9_falls 1 := ⟨wc_X9_falls, wi_X9, by decide +kernel, by decide +kernel, tbw 922 (by decide +kernel) rfl, tbw 923 (by decide +kernel) rfl⟩
def mX9_fallsOf : MI := (yX9_fallsOf, cX9_fallsOf, 3, some .int, 6)
set_option maxRecDepth 20000 in
theorem wc_X9_fallsOf : cw mX9_fallsOf ∈ TB := tbw 933 rfl rfl
theorem fX9_fallsOf : SMv mX9_fallsOf 1 := ⟨wc_X9_fallsOf, wi_X9, by decide +kernel, by decide +kernel, tbw 932 (by decide +kernel) rfl, tbs (q := (yX9_fallsOf, _)) 58 rfl⟩
def mX9_fever : MI := (yX9_fever, cX9_fever, 14, some .long, 6)
set_option maxRecDepth 20000 in
theorem wc_X9_fever : cw mX9_fever ∈ TB := tbw 1015 rfl rfl
theorem fX9_fever : SMv mX9_fever 5 := ⟨wc_X9_fever, wi_X9, by decide +kernel, by decide +kernel, tbw 1013 (by decide +kernel) rfl, tbw 1014 (by decide +kernel) rfl⟩
def mX9_fewest : MI := (yX9_fewest, cX9_fewest, 6, some .int, 7)
set_option maxRecDepth 20000 in
theorem wc_X9_fewest : cw mX9_fewest ∈ TB := tbw 991 rfl rfl
theorem fX9_fewest : SMv mX9_fewest 1 := ⟨wc_X9_fewest, wi_X9, by decide +kernel, by decide +kernel, tbw 989 (by decide +kernel) rfl, tbw 990 (by decide +kernel) rfl⟩
def mX9_firstFalls : MI := (yX9_firstFalls, cX9_firstFalls, 5, some .int, 7)
set_option maxRecDepth 20000 in
theorem wc_X9_firstFalls : cw mX9_firstFalls ∈ TB := tbw 928 rfl rfl
theorem fX9_firstFalls : SMv mX9_firstFalls 0 := ⟨wc_X9_firstFalls, wi_X9, by decide +kernel, by decide +kernel, tbw 927 (by decide +kernel) rfl, tbs (q := (yX9_firstFalls, _)) 57 rfl⟩
def mX9_frees : MI := (yX9_frees, cX9_frees, 3, some .int, 2)
set_option maxRecDepth 20000 in
theorem wc_X9_frees : cw mX9_frees ∈ TB := tbw 886 rfl rfl
theorem fX9_frees : SMv mX9_frees 2 := ⟨wc_X9_frees, wi_X9, by decide +kernel, by decide +kernel, tbw 884 (by decide +kernel) rfl, tbw 885 (by decide +kernel) rfl⟩
def mX9_from : MI := (yX9_from, cX9_from, 4, some .int, 4)
set_option maxRecDepth 20000 in
theorem wc_X9_from : cw mX9_from ∈ TB := tbw 882 rfl rfl
theorem fX9_from : SMv mX9_from 2 := ⟨wc_X9_from, wi_X9, by decide +kernel, by decide +kernel, tbw 880 (by decide +kernel) rfl, tbw 881 (by decide +kernel) rfl⟩
def mX9_fromWhom : MI := (yX9_fromWhom, cX9_fromWhom, 2, some .int, 3)
set_option maxRecDepth 20000 in
theorem wc_X9_fromWhom : cw mX9_fromWhom ∈ TB := tbw 856 rfl rfl
theorem fX9_fromWhom : SMs mX9_fromWhom 2 := ⟨wc_X9_fromWhom, wi_X9, by decide +kernel, by decide +kernel, tbw 855 (by decide +kernel) rfl⟩
def mX9_gcd : MI := (yX9_gcd, cX9_gcd, 10, some .long, 0)
set_option maxRecDepth 20000 in
theorem wc_X9_gcd : cw mX9_gcd ∈ TB := tbw 1026 rfl rfl
theorem fX9_gcd : SMs mX9_gcd 2 := ⟨wc_X9_gcd, wi_X9, by decide +kernel, by decide +kernel, tbw 1025 (by decide +kernel) rfl⟩
def mX9_gift : MI := (yX9_gift, cX9_gift, 8, some .int, 9)
set_option maxRecDepth 20000 in
theorem wc_X9_gift : cw mX9_gift ∈ TB := tbw 972 rfl rfl
theorem fX9_gift : SMv mX9_gift 3 := ⟨wc_X9_gift, wi_X9, by decide +kernel, by decide +kernel, tbw 970 (by decide +kernel) rfl, tbw 971 (by decide +kernel) rfl⟩
def mX9_gives : MI := (yX9_gives, cX9_gives, 4, some .int, 2)
set_option maxRecDepth 20000 in
theorem wc_X9_gives : cw mX9_gives ∈ TB := tbw 890 rfl rfl
theorem fX9_gives : SMv mX9_gives 3 := ⟨wc_X9_gives, wi_X9, by decide +kernel, by decide +kernel, tbw 888 (by decide +kernel) rfl, tbw 889 (by decide +kernel) rfl⟩
def mX9_has : MI := (yX9_has, cX9_has, 2, some .boolean, 0)
set_option maxRecDepth 20000 in
theorem wc_X9_has : cw mX9_has ∈ TB := tbw 835 rfl rfl
theorem fX9_has : SMs mX9_has 2 := ⟨wc_X9_has, wi_X9, by decide +kernel, by decide +kernel, tbw 834 (by decide +kernel) rfl⟩
def mX9_here : MI := (yX9_here, cX9_here, 1, some .int, 0)
set_option maxRecDepth 20000 in
theorem wc_X9_here : cw mX9_here ∈ TB := tbw 797 rfl rfl
theorem fX9_here : SMv mX9_here 0 := ⟨wc_X9_here, wi_X9, by decide +kernel, by decide +kernel, tbw 796 (by decide +kernel) rfl, tbs (q := (yX9_here, _)) 50 rfl⟩
def mX9_holiday : MI := (yX9_holiday, cX9_holiday, 8, some .int, 7)
set_option maxRecDepth 20000 in
theorem wc_X9_holiday : cw mX9_holiday ∈ TB := tbw 1003 rfl rfl
theorem fX9_holiday : SMv mX9_holiday 2 := ⟨wc_X9_holiday, wi_X9, by decide +kernel, by decide +kernel, tbw 1001 (by decide +kernel) rfl, tbw 1002 (by decide +kernel) rfl⟩
def mX9_image : MI := (yX9_image, cX9_image, 1, some .int, 1)
set_option maxRecDepth 20000 in
theorem wc_X9_image : cw mX9_image ∈ TB := tbw 1061 rfl rfl
theorem fX9_image : SMv mX9_image 0 := ⟨wc_X9_image, wi_X9, by decide +kernel, by decide +kernel, tbw 1059 (by decide +kernel) rfl, tbw 1060 (by decide +kernel) rfl⟩
def mX9_inOn : MI := (yX9_inOn, cX9_inOn, 4, some .int, 1)
set_option maxRecDepth 20000 in
theorem wc_X9_inOn : cw mX9_inOn ∈ TB := tbw 920 rfl rfl
theorem fX9_inOn : SMs mX9_inOn 2 := ⟨wc_X9_inOn, wi_X9, by decide +kernel, by decide +kernel, tbw 919 (by decide +kernel) rfl⟩
def mX9_init : MI := (yX9_init, cX9_init, 1, none, 1)
set_option maxRecDepth 20000 in
theorem wc_X9_init : cw mX9_init ∈ TB := tbw 736 rfl rfl
-- neither: X9_init
def mX9_isDone : MI := (yX9_isDone, cX9_isDone, 5, some .boolean, 7)
set_option maxRecDepth 20000 in
theorem wc_X9_isDone : cw mX9_isDone ∈ TB := tbw 818 rfl rfl
theorem fX9_isDone : SMv mX9_isDone 1 := ⟨wc_X9_isDone, wi_X9, by decide +kernel, by decide +kernel, tbw 817 (by decide +kernel) rfl, tbs (q := (yX9_isDone, _)) 53 rfl⟩
def mX9_isIn : MI := (yX9_isIn, cX9_isIn, 3, some .boolean, 0)
set_option maxRecDepth 20000 in
theorem wc_X9_isIn : cw mX9_isIn ∈ TB := tbw 811 rfl rfl
theorem fX9_isIn : SMs mX9_isIn 3 := ⟨wc_X9_isIn, wi_X9, by decide +kernel, by decide +kernel, tbw 810 (by decide +kernel) rfl⟩
def mX9_isPaid : MI := (yX9_isPaid, cX9_isPaid, 3, none, 4)
set_option maxRecDepth 20000 in
theorem wc_X9_isPaid : cw mX9_isPaid ∈ TB := tbw 853 rfl rfl
theorem fX9_isPaid : SMs mX9_isPaid 2 := ⟨wc_X9_isPaid, wi_X9, by decide +kernel, by decide +kernel, tbw 852 (by decide +kernel) rfl⟩
def mX9_isPaidDay : MI := (yX9_isPaidDay, cX9_isPaidDay, 3, some .boolean, 6)
set_option maxRecDepth 20000 in
theorem wc_X9_isPaidDay : cw mX9_isPaidDay ∈ TB := tbw 941 rfl rfl
theorem fX9_isPaidDay : SMv mX9_isPaidDay 0 := ⟨wc_X9_isPaidDay, wi_X9, by decide +kernel, by decide +kernel, tbw 940 (by decide +kernel) rfl, tbs (q := (yX9_isPaidDay, _)) 59 rfl⟩
def mX9_isWeekday : MI := (yX9_isWeekday, cX9_isWeekday, 1, some .boolean, 1)
set_option maxRecDepth 20000 in
theorem wc_X9_isWeekday : cw mX9_isWeekday ∈ TB := tbw 828 rfl rfl
theorem fX9_isWeekday : SMs mX9_isWeekday 1 := ⟨wc_X9_isWeekday, wi_X9, by decide +kernel, by decide +kernel, tbw 827 (by decide +kernel) rfl⟩
def mX9_isWorker : MI := (yX9_isWorker, cX9_isWorker, 2, some .boolean, 1)
set_option maxRecDepth 20000 in
theorem wc_X9_isWorker : cw mX9_isWorker ∈ TB := tbw 825 rfl rfl
theorem fX9_isWorker : SMv mX9_isWorker 1 := ⟨wc_X9_isWorker, wi_X9, by decide +kernel, by decide +kernel, tbw 824 (by decide +kernel) rfl, tbs (q := (yX9_isWorker, _)) 54 rfl⟩
def mX9_judge : MI := (yX9_judge, cX9_judge, 3, some .int, 2)
set_option maxRecDepth 20000 in
theorem wc_X9_judge : cw mX9_judge ∈ TB := tbw 1042 rfl rfl
theorem fX9_judge : SMv mX9_judge 0 := ⟨wc_X9_judge, wi_X9, by decide +kernel, by decide +kernel, tbw 1040 (by decide +kernel) rfl, tbw 1041 (by decide +kernel) rfl⟩
def mX9_kindBy : MI := (yX9_kindBy, cX9_kindBy, 1, some .int, 0)
set_option maxRecDepth 20000 in
theorem wc_X9_kindBy : cw mX9_kindBy ∈ TB := tbw 804 rfl rfl
theorem fX9_kindBy : SMs mX9_kindBy 1 := ⟨wc_X9_kindBy, wi_X9, by decide +kernel, by decide +kernel, tbw 803 (by decide +kernel) rfl⟩
def mX9_least : MI := (yX9_least, cX9_least, 2, some .int, 0)
set_option maxRecDepth 20000 in
theorem wc_X9_least : cw mX9_least ∈ TB := tbw 847 rfl rfl
theorem fX9_least : SMs mX9_least 2 := ⟨wc_X9_least, wi_X9, by decide +kernel, by decide +kernel, tbw 846 (by decide +kernel) rfl⟩
def mX9_leastFrom : MI := (yX9_leastFrom, cX9_leastFrom, 3, some .int, 2)
set_option maxRecDepth 20000 in
theorem wc_X9_leastFrom : cw mX9_leastFrom ∈ TB := tbw 871 rfl rfl
theorem fX9_leastFrom : SMs mX9_leastFrom 2 := ⟨wc_X9_leastFrom, wi_X9, by decide +kernel, by decide +kernel, tbw 870 (by decide +kernel) rfl⟩
def mX9_letter : MI := (yX9_letter, cX9_letter, 2, some .int, 1)
set_option maxRecDepth 20000 in
theorem wc_X9_letter : cw mX9_letter ∈ TB := tbw 781 rfl rfl
theorem fX9_letter : SMv mX9_letter 1 := ⟨wc_X9_letter, wi_X9, by decide +kernel, by decide +kernel, tbw 779 (by decide +kernel) rfl, tbw 780 (by decide +kernel) rfl⟩
def mX9_lots : MI := (yX9_lots, cX9_lots, 7, some .int, 7)
set_option maxRecDepth 20000 in
theorem wc_X9_lots : cw mX9_lots ∈ TB := tbw 1050 rfl rfl
theorem fX9_lots : SMv mX9_lots 3 := ⟨wc_X9_lots, wi_X9, by decide +kernel, by decide +kernel, tbw 1048 (by decide +kernel) rfl, tbw 1049 (by decide +kernel) rfl⟩
def mX9_mean : MI := (yX9_mean, cX9_mean, 2, some .long, 2)
set_option maxRecDepth 20000 in
theorem wc_X9_mean : cw mX9_mean ∈ TB := tbw 1030 rfl rfl
theorem fX9_mean : SMv mX9_mean 1 := ⟨wc_X9_mean, wi_X9, by decide +kernel, by decide +kernel, tbw 1028 (by decide +kernel) rfl, tbw 1029 (by decide +kernel) rfl⟩
def mX9_meet : MI := (yX9_meet, cX9_meet, 3, some .int, 2)
set_option maxRecDepth 20000 in
theorem wc_X9_meet : cw mX9_meet ∈ TB := tbw 956 rfl rfl
theorem fX9_meet : SMv mX9_meet 2 := ⟨wc_X9_meet, wi_X9, by decide +kernel, by decide +kernel, tbw 954 (by decide +kernel) rfl, tbw 955 (by decide +kernel) rfl⟩
def mX9_movesDay : MI := (yX9_movesDay, cX9_movesDay, 4, none, 1)
set_option maxRecDepth 20000 in
theorem wc_X9_movesDay : cw mX9_movesDay ∈ TB := tbw 838 rfl rfl
theorem fX9_movesDay : SMs mX9_movesDay 4 := ⟨wc_X9_movesDay, wi_X9, by decide +kernel, by decide +kernel, tbw 837 (by decide +kernel) rfl⟩
def mX9_never : MI := (yX9_never, cX9_never, 6, some .int, 2)
set_option maxRecDepth 20000 in
theorem wc_X9_never : cw mX9_never ∈ TB := tbw 964 rfl rfl
theorem fX9_never : SMv mX9_never 1 := ⟨wc_X9_never, wi_X9, by decide +kernel, by decide +kernel, tbw 962 (by decide +kernel) rfl, tbw 963 (by decide +kernel) rfl⟩
def mX9_no : MI := (yX9_no, cX9_no, 2, some .int, 0)
set_option maxRecDepth 20000 in
theorem wc_X9_no : cw mX9_no ∈ TB := tbw 785 rfl rfl
theorem fX9_no : SMv mX9_no 1 := ⟨wc_X9_no, wi_X9, by decide +kernel, by decide +kernel, tbw 784 (by decide +kernel) rfl, tbs (q := (yX9_no, _)) 48 rfl⟩
def mX9_noWide : MI := (yX9_noWide, cX9_noWide, 2, some .long, 1)
set_option maxRecDepth 20000 in
theorem wc_X9_noWide : cw mX9_noWide ∈ TB := tbw 1019 rfl rfl
theorem fX9_noWide : SMv mX9_noWide 1 := ⟨wc_X9_noWide, wi_X9, by decide +kernel, by decide +kernel, tbw 1018 (by decide +kernel) rfl, tbs (q := (yX9_noWide, _)) 65 rfl⟩
def mX9_of : MI := (yX9_of, cX9_of, 2, some .int, 0)
set_option maxRecDepth 20000 in
theorem wc_X9_of : cw mX9_of ∈ TB := tbw 821 rfl rfl
theorem fX9_of : SMs mX9_of 2 := ⟨wc_X9_of, wi_X9, by decide +kernel, by decide +kernel, tbw 820 (by decide +kernel) rfl⟩
def mX9_offOn : MI := (yX9_offOn, cX9_offOn, 2, some .int, 2)
set_option maxRecDepth 20000 in
theorem wc_X9_offOn : cw mX9_offOn ∈ TB := tbw 952 rfl rfl
theorem fX9_offOn : SMv mX9_offOn 1 := ⟨wc_X9_offOn, wi_X9, by decide +kernel, by decide +kernel, tbw 951 (by decide +kernel) rfl, tbs (q := (yX9_offOn, _)) 60 rfl⟩
def mX9_on : MI := (yX9_on, cX9_on, 1, some .int, 1)
set_option maxRecDepth 20000 in
theorem wc_X9_on : cw mX9_on ∈ TB := tbw 1065 rfl rfl
theorem fX9_on : SMv mX9_on 0 := ⟨wc_X9_on, wi_X9, by decide +kernel, by decide +kernel, tbw 1063 (by decide +kernel) rfl, tbw 1064 (by decide +kernel) rfl⟩
def mX9_paidBehind : MI := (yX9_paidBehind, cX9_paidBehind, 3, some .int, 0)
set_option maxRecDepth 20000 in
theorem wc_X9_paidBehind : cw mX9_paidBehind ∈ TB := tbw 850 rfl rfl
theorem fX9_paidBehind : SMs mX9_paidBehind 2 := ⟨wc_X9_paidBehind, wi_X9, by decide +kernel, by decide +kernel, tbw 849 (by decide +kernel) rfl⟩
def mX9_partOf : MI := (yX9_partOf, cX9_partOf, 5, some .long, 1)
set_option maxRecDepth 20000 in
theorem wc_X9_partOf : cw mX9_partOf ∈ TB := tbw 1023 rfl rfl
theorem fX9_partOf : SMs mX9_partOf 3 := ⟨wc_X9_partOf, wi_X9, by decide +kernel, by decide +kernel, tbw 1022 (by decide +kernel) rfl⟩
def mX9_readsKind : MI := (yX9_readsKind, cX9_readsKind, 1, some .boolean, 1)
set_option maxRecDepth 20000 in
theorem wc_X9_readsKind : cw mX9_readsKind ∈ TB := tbw 801 rfl rfl
theorem fX9_readsKind : SMv mX9_readsKind 0 := ⟨wc_X9_readsKind, wi_X9, by decide +kernel, by decide +kernel, tbw 800 (by decide +kernel) rfl, tbs (q := (yX9_readsKind, _)) 51 rfl⟩
def mX9_readsNumber : MI := (yX9_readsNumber, cX9_readsNumber, 4, some .boolean, 1)
set_option maxRecDepth 20000 in
theorem wc_X9_readsNumber : cw mX9_readsNumber ∈ TB := tbw 808 rfl rfl
theorem fX9_readsNumber : SMv mX9_readsNumber 2 := ⟨wc_X9_readsNumber, wi_X9, by decide +kernel, by decide +kernel, tbw 807 (by decide +kernel) rfl, tbs (q := (yX9_readsNumber, _)) 52 rfl⟩
def mX9_readsStatement : MI := (yX9_readsStatement, cX9_readsStatement, 3, some .boolean, 2)
set_option maxRecDepth 20000 in
theorem wc_X9_readsStatement : cw mX9_readsStatement ∈ TB := tbw 793 rfl rfl
theorem fX9_readsStatement : SMv mX9_readsStatement 0 := ⟨wc_X9_readsStatement, wi_X9, by decide +kernel, by decide +kernel, tbw 792 (by decide +kernel) rfl, tbs (q := (yX9_readsStatement, _)) 49 rfl⟩
def mX9_rest : MI := (yX9_rest, cX9_rest, 5, some .int, 2)
set_option maxRecDepth 20000 in
theorem wc_X9_rest : cw mX9_rest ∈ TB := tbw 968 rfl rfl
theorem fX9_rest : SMv mX9_rest 1 := ⟨wc_X9_rest, wi_X9, by decide +kernel, by decide +kernel, tbw 966 (by decide +kernel) rfl, tbw 967 (by decide +kernel) rfl⟩
def mX9_rests : MI := (yX9_rests, cX9_rests, 5, some .int, 2)
set_option maxRecDepth 20000 in
theorem wc_X9_rests : cw mX9_rests ∈ TB := tbw 894 rfl rfl
theorem fX9_rests : SMv mX9_rests 2 := ⟨wc_X9_rests, wi_X9, by decide +kernel, by decide +kernel, tbw 892 (by decide +kernel) rfl, tbw 893 (by decide +kernel) rfl⟩
def mX9_richestFrom : MI := (yX9_richestFrom, cX9_richestFrom, 4, some .int, 2)
set_option maxRecDepth 20000 in
theorem wc_X9_richestFrom : cw mX9_richestFrom ∈ TB := tbw 859 rfl rfl
theorem fX9_richestFrom : SMs mX9_richestFrom 2 := ⟨wc_X9_richestFrom, wi_X9, by decide +kernel, by decide +kernel, tbw 858 (by decide +kernel) rfl⟩
def mX9_roundFrom : MI := (yX9_roundFrom, cX9_roundFrom, 5, some .int, 2)
set_option maxRecDepth 20000 in
theorem wc_X9_roundFrom : cw mX9_roundFrom ∈ TB := tbw 868 rfl rfl
theorem fX9_roundFrom : SMs mX9_roundFrom 3 := ⟨wc_X9_roundFrom, wi_X9, by decide +kernel, by decide +kernel, tbw 867 (by decide +kernel) rfl⟩
def mX9_row : MI := (yX9_row, cX9_row, 3, some .int, 1)
set_option maxRecDepth 20000 in
theorem wc_X9_row : cw mX9_row ∈ TB := tbw 1038 rfl rfl
theorem fX9_row : SMv mX9_row 1 := ⟨wc_X9_row, wi_X9, by decide +kernel, by decide +kernel, tbw 1036 (by decide +kernel) rfl, tbw 1037 (by decide +kernel) rfl⟩
def mX9_send : MI := (yX9_send, cX9_send, 6, some .int, 8)
set_option maxRecDepth 20000 in
theorem wc_X9_send : cw mX9_send ∈ TB := tbw 999 rfl rfl
theorem fX9_send : SMv mX9_send 1 := ⟨wc_X9_send, wi_X9, by decide +kernel, by decide +kernel, tbw 997 (by decide +kernel) rfl, tbw 998 (by decide +kernel) rfl⟩
def mX9_still : MI := (yX9_still, cX9_still, 3, some .int, 7)
set_option maxRecDepth 20000 in
theorem wc_X9_still : cw mX9_still ∈ TB := tbw 937 rfl rfl
theorem fX9_still : SMv mX9_still 0 := ⟨wc_X9_still, wi_X9, by decide +kernel, by decide +kernel, tbw 935 (by decide +kernel) rfl, tbw 936 (by decide +kernel) rfl⟩
def mX9_strike : MI := (yX9_strike, cX9_strike, 6, some .int, 3)
set_option maxRecDepth 20000 in
theorem wc_X9_strike : cw mX9_strike ∈ TB := tbw 948 rfl rfl
theorem fX9_strike : SMv mX9_strike 1 := ⟨wc_X9_strike, wi_X9, by decide +kernel, by decide +kernel, tbw 946 (by decide +kernel) rfl, tbw 947 (by decide +kernel) rfl⟩
def mX9_sumOff : MI := (yX9_sumOff, cX9_sumOff, 3, some .int, 1)
set_option maxRecDepth 20000 in
theorem wc_X9_sumOff : cw mX9_sumOff ∈ TB := tbw 944 rfl rfl
theorem fX9_sumOff : SMs mX9_sumOff 1 := ⟨wc_X9_sumOff, wi_X9, by decide +kernel, by decide +kernel, tbw 943 (by decide +kernel) rfl⟩
def mX9_takes : MI := (yX9_takes, cX9_takes, 2, none, 7)
set_option maxRecDepth 20000 in
theorem wc_X9_takes : cw mX9_takes ∈ TB := tbw 913 rfl rfl
theorem fX9_takes : SMv mX9_takes 1 := ⟨wc_X9_takes, wi_X9, by decide +kernel, by decide +kernel, tbw 912 (by decide +kernel) rfl, tbs (q := (yX9_takes, _)) 56 rfl⟩
def mX9_then : MI := (yX9_then, cX9_then, 4, some .int, 8)
set_option maxRecDepth 20000 in
theorem wc_X9_then : cw mX9_then ∈ TB := tbw 917 rfl rfl
theorem fX9_then : SMv mX9_then 2 := ⟨wc_X9_then, wi_X9, by decide +kernel, by decide +kernel, tbw 915 (by decide +kernel) rfl, tbw 916 (by decide +kernel) rfl⟩
def mX9_tiredNow : MI := (yX9_tiredNow, cX9_tiredNow, 2, some .int, 8)
set_option maxRecDepth 20000 in
theorem wc_X9_tiredNow : cw mX9_tiredNow ∈ TB := tbw 976 rfl rfl
theorem fX9_tiredNow : SMv mX9_tiredNow 1 := ⟨wc_X9_tiredNow, wi_X9, by decide +kernel, by decide +kernel, tbw 975 (by decide +kernel) rfl, tbs (q := (yX9_tiredNow, _)) 62 rfl⟩
def mX9_trade : MI := (yX9_trade, cX9_trade, 11, some .int, 8)
set_option maxRecDepth 20000 in
theorem wc_X9_trade : cw mX9_trade ∈ TB := tbw 983 rfl rfl
theorem fX9_trade : SMv mX9_trade 3 := ⟨wc_X9_trade, wi_X9, by decide +kernel, by decide +kernel, tbw 981 (by decide +kernel) rfl, tbw 982 (by decide +kernel) rfl⟩
def mX9_turn : MI := (yX9_turn, cX9_turn, 6, some .int, 2)
set_option maxRecDepth 20000 in
theorem wc_X9_turn : cw mX9_turn ∈ TB := tbw 901 rfl rfl
theorem fX9_turn : SMv mX9_turn 3 := ⟨wc_X9_turn, wi_X9, by decide +kernel, by decide +kernel, tbw 899 (by decide +kernel) rfl, tbw 900 (by decide +kernel) rfl⟩
def mX9_two : MI := (yX9_two, cX9_two, 8, some .int, 7)
set_option maxRecDepth 20000 in
theorem wc_X9_two : cw mX9_two ∈ TB := tbw 1007 rfl rfl
theorem fX9_two : SMv mX9_two 3 := ⟨wc_X9_two, wi_X9, by decide +kernel, by decide +kernel, tbw 1005 (by decide +kernel) rfl, tbw 1006 (by decide +kernel) rfl⟩
def mX9_wanted : MI := (yX9_wanted, cX9_wanted, 3, some .int, 1)
set_option maxRecDepth 20000 in
theorem wc_X9_wanted : cw mX9_wanted ∈ TB := tbw 862 rfl rfl
theorem fX9_wanted : SMs mX9_wanted 3 := ⟨wc_X9_wanted, wi_X9, by decide +kernel, by decide +kernel, tbw 861 (by decide +kernel) rfl⟩
def mX9_whatIs : MI := (yX9_whatIs, cX9_whatIs, 7, some .int, 6)
set_option maxRecDepth 20000 in
theorem wc_X9_whatIs : cw mX9_whatIs ∈ TB := tbw 1034 rfl rfl
theorem fX9_whatIs : SMv mX9_whatIs 2 := ⟨wc_X9_whatIs, wi_X9, by decide +kernel, by decide +kernel, tbw 1032 (by decide +kernel) rfl, tbw 1033 (by decide +kernel) rfl⟩
def mX9_whichOf : MI := (yX9_whichOf, cX9_whichOf, 7, some .int, 2)
set_option maxRecDepth 20000 in
theorem wc_X9_whichOf : cw mX9_whichOf ∈ TB := tbw 874 rfl rfl
theorem fX9_whichOf : SMs mX9_whichOf 3 := ⟨wc_X9_whichOf, wi_X9, by decide +kernel, by decide +kernel, tbw 873 (by decide +kernel) rfl⟩
def mX9_worker : MI := (yX9_worker, cX9_worker, 3, some .int, 2)
set_option maxRecDepth 20000 in
theorem wc_X9_worker : cw mX9_worker ∈ TB := tbw 878 rfl rfl
theorem fX9_worker : SMv mX9_worker 2 := ⟨wc_X9_worker, wi_X9, by decide +kernel, by decide +kernel, tbw 876 (by decide +kernel) rfl, tbw 877 (by decide +kernel) rfl⟩
def mX9_workerThen : MI := (yX9_workerThen, cX9_workerThen, 5, some .int, 8)
set_option maxRecDepth 20000 in
theorem wc_X9_workerThen : cw mX9_workerThen ∈ TB := tbw 909 rfl rfl
theorem fX9_workerThen : SMv mX9_workerThen 3 := ⟨wc_X9_workerThen, wi_X9, by decide +kernel, by decide +kernel, tbw 907 (by decide +kernel) rfl, tbw 908 (by decide +kernel) rfl⟩
def mX9_works : MI := (yX9_works, cX9_works, 6, some .int, 8)
set_option maxRecDepth 20000 in
theorem wc_X9_works : cw mX9_works ∈ TB := tbw 789 rfl rfl
theorem fX9_works : SMv mX9_works 0 := ⟨wc_X9_works, wi_X9, by decide +kernel, by decide +kernel, tbw 787 (by decide +kernel) rfl, tbw 788 (by decide +kernel) rfl⟩
def mX9_wrongBy : MI := (yX9_wrongBy, cX9_wrongBy, 3, some .int, 0)
set_option maxRecDepth 20000 in
theorem wc_X9_wrongBy : cw mX9_wrongBy ∈ TB := tbw 897 rfl rfl
theorem fX9_wrongBy : SMs mX9_wrongBy 3 := ⟨wc_X9_wrongBy, wi_X9, by decide +kernel, by decide +kernel, tbw 896 (by decide +kernel) rfl⟩
theorem lkL_9 : Cond.methodLink RL 9 yX8_init ∈ TB := tbw 21 (by decide +kernel) rfl
theorem lkX8_1 : Cond.methodLink RX8 1 objectInit ∈ TB := tbw 24 (by decide +kernel) rfl
theorem lkX8_9 : Cond.methodLinkNest RX8 9 yX1_init "PaidInDays" ∈ lw_tbl := tbn 29 (by decide +kernel)
theorem lkX1_3 : Cond.methodLink RX1 3 objectInit ∈ TB := tbw 32 (by decide +kernel) rfl
theorem lkX1_11 : Cond.methodLinkNest RX1 11 yX7_init "PaidInDays" ∈ lw_tbl := tbn 36 (by decide +kernel)
theorem lkX7_3 : Cond.methodLink RX7 3 objectInit ∈ TB := tbw 39 (by decide +kernel) rfl
theorem lkX1_14 : Cond.methodLinkNest RX1 14 yX3_init "PaidInDays" ∈ lw_tbl := tbn 43 (by decide +kernel)
theorem lkX3_3 : Cond.methodLinkNest RX3 3 yX7_init "PaidInDays" ∈ lw_tbl := tbn 46 (by decide +kernel)
theorem lkX1_17 : Cond.methodLinkNest RX1 17 yX0_init "PaidInDays" ∈ lw_tbl := tbn 50 (by decide +kernel)
theorem lkX0_3 : Cond.methodLinkNest RX0 3 yX7_init "PaidInDays" ∈ lw_tbl := tbn 53 (by decide +kernel)
theorem lkX1_20 : Cond.methodLinkNest RX1 20 yX6_init "PaidInDays" ∈ lw_tbl := tbn 57 (by decide +kernel)
theorem lkX6_1 : Cond.methodLinkNest RX6 1 yX3_init "PaidInDays" ∈ lw_tbl := tbn 60 (by decide +kernel)
theorem lkX1_23 : Cond.methodLinkNest RX1 23 yX4_init "PaidInDays" ∈ lw_tbl := tbn 64 (by decide +kernel)
theorem lkX4_1 : Cond.methodLinkNest RX4 1 yX0_init "PaidInDays" ∈ lw_tbl := tbn 67 (by decide +kernel)
theorem lkX1_26 : Cond.methodLinkNest RX1 26 yX2_init "PaidInDays" ∈ lw_tbl := tbn 71 (by decide +kernel)
theorem lkX2_3 : Cond.methodLinkNest RX2 3 yX6_init "PaidInDays" ∈ lw_tbl := tbn 74 (by decide +kernel)
theorem lkX8_28 : Cond.methodLinkNest RX8 28 yX5_init "PaidInDays" ∈ lw_tbl := tbn 122 (by decide +kernel)
theorem lkX5_3 : Cond.methodLink RX5 3 objectInit ∈ TB := tbw 125 (by decide +kernel) rfl
theorem lkL_13 : Cond.methodLink RL 13 yX8_letter ∈ TB := tbw 160 (by decide +kernel) rfl
theorem lkX8_44 : Cond.methodLink RX8 44 yX8_outside ∈ TB := tbw 164 (by decide +kernel) rfl
theorem lkX8_48 : Cond.methodLinkNest RX8 48 yX5_isFull "PaidInDays" ∈ lw_tbl := tbn 167 (by decide +kernel)
theorem lkX8_52 : Cond.methodLink RX8 52 yX8_refuse ∈ TB := tbw 171 (by decide +kernel) rfl
theorem lkX8_56 : Cond.methodLinkNest RX8 56 yX5_add "PaidInDays" ∈ lw_tbl := tbn 175 (by decide +kernel)
theorem lkX5_19 : Cond.methodLink RX5 19 yX5_isFull ∈ TB := tbw 179 (by decide +kernel) rfl
theorem lkL_18 : Cond.methodLink RL 18 yX8_works ∈ TB := tbw 180 (by decide +kernel) rfl
theorem lkX8_63 : Cond.methodLinkNest RX8 63 yX1_become "PaidInDays" ∈ lw_tbl := tbn 184 (by decide +kernel)
theorem lkX1_59 : Cond.methodLink RX1 59 arraycopyName ∈ TB := tbw 188 (by decide +kernel) rfl
theorem lkX8_67 : Cond.methodLinkNest RX8 67 yX5_firstWrongLetter "PaidInDays" ∈ lw_tbl := tbn 191 (by decide +kernel)
theorem lkX5_23 : Cond.methodLink RX5 23 yX5_shapeAt ∈ TB := tbw 195 (by decide +kernel) rfl
theorem lkX5_27 : Cond.methodLink RX5 27 yJ0_isEmpty_aae02 ∈ TB := tbw 203 (by decide +kernel) rfl
theorem lkX5_32 : Cond.methodLink RX5 32 yJ0_length_8abf5 ∈ TB := tbw 207 (by decide +kernel) rfl
theorem lkJ0_335 : Cond.methodLink RJ0 335 yJ0_coder_7d493 ∈ TB := tbw 211 (by decide +kernel) rfl
theorem lkX5_36 : Cond.methodLink RX5 36 yJ0_charAt_5068e ∈ TB := tbw 217 (by decide +kernel) rfl
theorem lkJ0_492 : Cond.methodLink RJ0 492 yJ0_isLatin1_aae02 ∈ TB := tbw 221 (by decide +kernel) rfl
theorem lkJ0_495 : Cond.methodLink RJ0 495 yJ1_charAt_3b067 ∈ TB := tbw 225 (by decide +kernel) rfl
theorem lkJ1_9 : Cond.methodLink RJ1 9 yJ0_checkIndex_df160 ∈ TB := tbw 228 (by decide +kernel) rfl
theorem lkJ0_1059 : Cond.methodLink RJ0 1059 yJ3_checkIndex_8e157 ∈ TB := tbw 233 (by decide +kernel) rfl
theorem lkJ0_498 : Cond.methodLink RJ0 498 yJ2_charAt_3b067 ∈ TB := tbw 236 (by decide +kernel) rfl
theorem lkJ2_67 : Cond.methodLink RJ2 67 yJ2_checkIndex_2214a ∈ TB := tbw 239 (by decide +kernel) rfl
theorem lkJ2_48 : Cond.methodLink RJ2 48 yJ2_length_9d52b ∈ TB := tbw 242 (by decide +kernel) rfl
theorem lkJ2_414 : Cond.methodLink RJ2 414 yJ0_checkIndex_df160 ∈ TB := tbw 245 (by decide +kernel) rfl
theorem lkJ2_71 : Cond.methodLink RJ2 71 yJ2_getChar_3b067 ∈ TB := tbw 246 (by decide +kernel) rfl
theorem lkX5_40 : Cond.methodLink RX5 40 yX5_isAs ∈ TB := tbw 255 (by decide +kernel) rfl
theorem lkX5_54 : Cond.methodLink RX5 54 yJ0_indexOf_0f7a4 ∈ TB := tbw 259 (by decide +kernel) rfl
theorem lkJ0_633 : Cond.methodLink RJ0 633 yJ0_indexOf_7cf53 ∈ TB := tbw 263 (by decide +kernel) rfl
theorem lkJ0_505 : Cond.methodLink RJ0 505 yJ0_length_8abf5 ∈ TB := tbw 267 (by decide +kernel) rfl
theorem lkJ0_637 : Cond.methodLink RJ0 637 yJ1_indexOf_4cfef ∈ TB := tbw 268 (by decide +kernel) rfl
theorem lkJ1_88 : Cond.methodLink RJ1 88 yJ1_canEncode_9a6ad ∈ TB := tbw 271 (by decide +kernel) rfl
theorem lkJ1_92 : Cond.methodLink RJ1 92 Lib.Math.max.name ∈ TB := tbw 274 (by decide +kernel) rfl
theorem lkJ1_38 : Cond.methodLink RJ1 38 Lib.Math.min.name ∈ TB := tbw 277 (by decide +kernel) rfl
theorem lkJ1_95 : Cond.methodLink RJ1 95 yJ1_indexOfChar_4cfef ∈ TB := tbw 280 (by decide +kernel) rfl
theorem lkJ0_640 : Cond.methodLink RJ0 640 yJ2_indexOf_4cfef ∈ TB := tbw 283 (by decide +kernel) rfl
theorem lkJ2_224 : Cond.methodLink RJ2 224 Lib.Math.max.name ∈ TB := tbw 286 (by decide +kernel) rfl
theorem lkJ2_183 : Cond.methodLink RJ2 183 Lib.Math.min.name ∈ TB := tbw 287 (by decide +kernel) rfl
theorem kcJ2_227 : Cond.constant RJ2 227 (65536) ∈ TB := tbw 288 (by decide +kernel) rfl
theorem lkJ2_228 : Cond.methodLink RJ2 228 yJ2_indexOfChar_4cfef ∈ TB := tbw 289 (by decide +kernel) rfl
theorem lkJ2_96 : Cond.methodLink RJ2 96 yJ2_checkBoundsBeginEnd_d044e ∈ TB := tbw 292 (by decide +kernel) rfl
theorem lkJ2_241 : Cond.methodLink RJ2 241 yJ0_checkBoundsBeginEnd_23922 ∈ TB := tbw 295 (by decide +kernel) rfl
theorem lkJ0_1062 : Cond.methodLink RJ0 1062 yJ3_checkFromToIndex_8c36e ∈ TB := tbw 298 (by decide +kernel) rfl
theorem lkJ2_244 : Cond.methodLink RJ2 244 yJ2_indexOfCharUnsafe_4cfef ∈ TB := tbw 301 (by decide +kernel) rfl
theorem lkJ2_232 : Cond.methodLink RJ2 232 yJ2_indexOfSupplementary_4cfef ∈ TB := tbw 304 (by decide +kernel) rfl
theorem lkJ2_164 : Cond.methodLink RJ2 164 yJ11_isValidCodePoint_9a6ad ∈ TB := tbw 307 (by decide +kernel) rfl
theorem lkJ2_157 : Cond.methodLink RJ2 157 yJ11_highSurrogate_5068e ∈ TB := tbw 310 (by decide +kernel) rfl
theorem kcJ11_110 : Cond.constant RJ11 110 (55232) ∈ TB := tbw 313 (by decide +kernel) rfl
theorem lkJ2_161 : Cond.methodLink RJ2 161 yJ11_lowSurrogate_5068e ∈ TB := tbw 314 (by decide +kernel) rfl
theorem kcJ11_76 : Cond.constant RJ11 76 (56320) ∈ TB := tbw 317 (by decide +kernel) rfl
theorem lkX8_71 : Cond.methodLinkNest RX8 71 yX5_isObeyed "PaidInDays" ∈ lw_tbl := tbn 318 (by decide +kernel)
theorem lkX5_58 : Cond.methodLink RX5 58 yX5_hires ∈ TB := tbw 322 (by decide +kernel) rfl
theorem lkX5_74 : Cond.methodLink RX5 74 yX5_number ∈ TB := tbw 326 (by decide +kernel) rfl
theorem lkX5_78 : Cond.methodLinkNest RX5 78 yX1_hasRoom "PaidInDays" ∈ lw_tbl := tbn 330 (by decide +kernel)
theorem lkX5_83 : Cond.methodLinkNest RX5 83 yX1_hire "PaidInDays" ∈ lw_tbl := tbn 334 (by decide +kernel)
theorem lkX1_65 : Cond.methodLink RX1 65 yX1_hasRoom ∈ TB := tbw 338 (by decide +kernel) rfl
theorem lkX5_62 : Cond.methodLink RX5 62 yX5_changesOff ∈ TB := tbw 339 (by decide +kernel) rfl
theorem lkX5_87 : Cond.methodLinkNest RX5 87 yX1_has "PaidInDays" ∈ lw_tbl := tbn 343 (by decide +kernel)
theorem lkX5_91 : Cond.methodLinkNest RX5 91 yX8_isWeekday "PaidInDays" ∈ lw_tbl := tbn 347 (by decide +kernel)
theorem lkX5_94 : Cond.methodLinkNest RX5 94 yX1_change "PaidInDays" ∈ lw_tbl := tbn 350 (by decide +kernel)
theorem lkX5_65 : Cond.methodLink RX5 65 yX5_setsTired ∈ TB := tbw 354 (by decide +kernel) rfl
theorem lkX5_68 : Cond.methodLink RX5 68 yX5_handsOver ∈ TB := tbw 358 (by decide +kernel) rfl
theorem lkX5_102 : Cond.methodLinkNest RX5 102 yX1_canHand "PaidInDays" ∈ lw_tbl := tbn 362 (by decide +kernel)
theorem lkX1_73 : Cond.methodLink RX1 73 yX1_isOff ∈ TB := tbw 366 (by decide +kernel) rfl
theorem lkX1_69 : Cond.methodLinkNest RX1 69 yX8_hasBit "PaidInDays" ∈ lw_tbl := tbn 370 (by decide +kernel)
theorem lkX5_106 : Cond.methodLinkNest RX5 106 yX1_hand "PaidInDays" ∈ lw_tbl := tbn 373 (by decide +kernel)
theorem lkX1_76 : Cond.methodLink RX1 76 yX1_change ∈ TB := tbw 377 (by decide +kernel) rfl
theorem lkX5_71 : Cond.methodLink RX5 71 yX5_letsPass ∈ TB := tbw 378 (by decide +kernel) rfl
theorem lkX5_112 : Cond.methodLinkNest RX5 112 yX1_passDays "PaidInDays" ∈ lw_tbl := tbn 382 (by decide +kernel)
theorem lkX1_80 : Cond.methodLink RX1 80 Lib.Math.max.name ∈ TB := tbw 386 (by decide +kernel) rfl
theorem lkX1_86 : Cond.methodLink RX1 86 yX1_isPaidAtWork ∈ TB := tbw 387 (by decide +kernel) rfl
theorem lkX1_90 : Cond.methodLink RX1 90 Lib.Math.min.name ∈ TB := tbw 391 (by decide +kernel) rfl
theorem lkX1_93 : Cond.methodLink RX1 93 yX1_ruleOf ∈ TB := tbw 392 (by decide +kernel) rfl
theorem lkX1_97 : Cond.methodLink RX1 97 yX7_dueAfter ∈ TB := tbw 396 (by decide +kernel) rfl
theorem lkX0_9 : Cond.methodLink RX0 9 yX7_dueAfter ∈ TB := tbw 403 (by decide +kernel) rfl
theorem lkX1_101 : Cond.methodLink RX1 101 yX7_choosePayer ∈ TB := tbw 413 (by decide +kernel) rfl
theorem lkX0_19 : Cond.methodLinkNest RX0 19 yX1_offered "PaidInDays" ∈ lw_tbl := tbn 420 (by decide +kernel)
theorem lkX2_15 : Cond.methodLinkNest RX2 15 yX1_offered "PaidInDays" ∈ lw_tbl := tbn 427 (by decide +kernel)
theorem lkX3_19 : Cond.methodLink RX3 19 yJ6_bitCount_0f7a4 ∈ TB := tbw 431 (by decide +kernel) rfl
theorem kcJ6_265 : Cond.constant RJ6 265 (1431655765) ∈ TB := tbw 434 (by decide +kernel) rfl
theorem kcJ6_266 : Cond.constant RJ6 266 (858993459) ∈ TB := tbw 435 (by decide +kernel) rfl
theorem kcJ6_267 : Cond.constant RJ6 267 (252645135) ∈ TB := tbw 436 (by decide +kernel) rfl
theorem lkX3_25 : Cond.methodLinkNest RX3 25 yX1_offered "PaidInDays" ∈ lw_tbl := tbn 437 (by decide +kernel)
theorem lkX7_15 : Cond.methodLinkNest RX7 15 yX1_offered "PaidInDays" ∈ lw_tbl := tbn 441 (by decide +kernel)
theorem lkX1_105 : Cond.methodLink RX1 105 yX1_offered ∈ TB := tbw 442 (by decide +kernel) rfl
theorem lkX1_108 : Cond.methodLink RX1 108 yX7_chooseWeekday ∈ TB := tbw 443 (by decide +kernel) rfl
theorem lkX6_7 : Cond.methodLink RX6 7 yJ6_numberOfLeadingZeros_0f7a4 ∈ TB := tbw 451 (by decide +kernel) rfl
theorem kcJ6_264 : Cond.constant RJ6 264 (65536) ∈ TB := tbw 454 (by decide +kernel) rfl
theorem lkX7_19 : Cond.methodLink RX7 19 yJ6_numberOfTrailingZeros_0f7a4 ∈ TB := tbw 459 (by decide +kernel) rfl
theorem lkX1_111 : Cond.methodLink RX1 111 yX1_hand ∈ TB := tbw 462 (by decide +kernel) rfl
theorem lkX8_75 : Cond.methodLinkNest RX8 75 yX5_shapeAt "PaidInDays" ∈ lw_tbl := tbn 463 (by decide +kernel)
theorem lkX8_79 : Cond.methodLink RX8 79 yJ0_length_8abf5 ∈ TB := tbw 464 (by decide +kernel) rfl
theorem lkX8_84 : Cond.methodLinkNest RX8 84 yX5_forget "PaidInDays" ∈ lw_tbl := tbn 465 (by decide +kernel)
theorem lkL_23 : Cond.methodLink RL 23 yX8_worker ∈ TB := tbw 470 (by decide +kernel) rfl
theorem lkX8_87 : Cond.methodLinkNest RX8 87 yX1_has "PaidInDays" ∈ lw_tbl := tbn 474 (by decide +kernel)
theorem lkX8_106 : Cond.methodLinkNest RX8 106 yX1_ruleOf "PaidInDays" ∈ lw_tbl := tbn 475 (by decide +kernel)
theorem lkX8_110 : Cond.methodLink RX8 110 yX7_dueAfter ∈ TB := tbw 476 (by decide +kernel) rfl
theorem lkL_28 : Cond.methodLink RL 28 yX8_from ∈ TB := tbw 477 (by decide +kernel) rfl
theorem lkX8_115 : Cond.methodLink RX8 115 yX8_isEither ∈ TB := tbw 481 (by decide +kernel) rfl
theorem lkX8_118 : Cond.methodLink RX8 118 yX7_choosePayer ∈ TB := tbw 484 (by decide +kernel) rfl
theorem lkX8_122 : Cond.methodLinkNest RX8 122 yX1_offered "PaidInDays" ∈ lw_tbl := tbn 485 (by decide +kernel)
theorem lkX8_126 : Cond.methodLink RX8 126 yX7_chooseWeekday ∈ TB := tbw 486 (by decide +kernel) rfl
theorem lkL_32 : Cond.methodLink RL 32 yX8_frees ∈ TB := tbw 487 (by decide +kernel) rfl
theorem lkX8_129 : Cond.methodLink RX8 129 yX8_isWeekday ∈ TB := tbw 491 (by decide +kernel) rfl
theorem lkX8_132 : Cond.methodLinkNest RX8 132 yX1_change "PaidInDays" ∈ lw_tbl := tbn 492 (by decide +kernel)
theorem lkL_36 : Cond.methodLink RL 36 yX8_gives ∈ TB := tbw 493 (by decide +kernel) rfl
theorem lkX8_136 : Cond.methodLink RX8 136 yX8_areTwo ∈ TB := tbw 497 (by decide +kernel) rfl
theorem lkX8_140 : Cond.methodLinkNest RX8 140 yX1_canHand "PaidInDays" ∈ lw_tbl := tbn 501 (by decide +kernel)
theorem lkX8_144 : Cond.methodLinkNest RX8 144 yX1_hand "PaidInDays" ∈ lw_tbl := tbn 502 (by decide +kernel)
theorem lkL_41 : Cond.methodLink RL 41 yX8_rests ∈ TB := tbw 503 (by decide +kernel) rfl
theorem lkL_45 : Cond.methodLink RL 45 yX8_turn ∈ TB := tbw 507 (by decide +kernel) rfl
theorem lkL_49 : Cond.methodLink RL 49 yX8_days ∈ TB := tbw 511 (by decide +kernel) rfl
theorem lkX8_151 : Cond.methodLinkNest RX8 151 yX1_passDays "PaidInDays" ∈ lw_tbl := tbn 515 (by decide +kernel)
theorem lkL_53 : Cond.methodLink RL 53 yX8_workerThen ∈ TB := tbw 516 (by decide +kernel) rfl
theorem lkL_57 : Cond.methodLink RL 57 yX8_then ∈ TB := tbw 520 (by decide +kernel) rfl
theorem lkX8_157 : Cond.methodLinkNest RX8 157 yX1_weekday "PaidInDays" ∈ lw_tbl := tbn 524 (by decide +kernel)
theorem lkX8_160 : Cond.methodLinkNest RX8 160 yX1_whoIsIn "PaidInDays" ∈ lw_tbl := tbn 528 (by decide +kernel)
theorem lkL_61 : Cond.methodLink RL 61 yX8_falls ∈ TB := tbw 532 (by decide +kernel) rfl
theorem lkX8_163 : Cond.methodLink RX8 163 yX8_daysTillFall ∈ TB := tbw 536 (by decide +kernel) rfl
theorem lkX8_166 : Cond.methodLinkNest RX8 166 yX1_whoFell "PaidInDays" ∈ lw_tbl := tbn 540 (by decide +kernel)
theorem lkX8_169 : Cond.methodLink RX8 169 yJ6_numberOfTrailingZeros_0f7a4 ∈ TB := tbw 544 (by decide +kernel) rfl
theorem lkL_65 : Cond.methodLink RL 65 yX8_still ∈ TB := tbw 545 (by decide +kernel) rfl
theorem lkL_69 : Cond.methodLink RL 69 yX8_strike ∈ TB := tbw 549 (by decide +kernel) rfl
theorem lkX8_174 : Cond.methodLinkNest RX8 174 yX1_strikeDay "PaidInDays" ∈ lw_tbl := tbn 553 (by decide +kernel)
theorem lkX1_123 : Cond.methodLink RX1 123 yX1_offOn ∈ TB := tbw 557 (by decide +kernel) rfl
theorem lkX1_115 : Cond.methodLink RX1 115 yX1_whoIsIn ∈ TB := tbw 561 (by decide +kernel) rfl
theorem lkX1_118 : Cond.methodLink RX1 118 yJ6_bitCount_0f7a4 ∈ TB := tbw 562 (by decide +kernel) rfl
theorem lkX8_177 : Cond.methodLinkNest RX8 177 yX1_offOn "PaidInDays" ∈ lw_tbl := tbn 563 (by decide +kernel)
theorem lkX8_180 : Cond.methodLinkNest RX8 180 yX1_coveredByNobody "PaidInDays" ∈ lw_tbl := tbn 564 (by decide +kernel)
theorem lkX8_183 : Cond.methodLinkNest RX8 183 yX1_richest "PaidInDays" ∈ lw_tbl := tbn 568 (by decide +kernel)
theorem lkL_73 : Cond.methodLink RL 73 yX8_meet ∈ TB := tbw 572 (by decide +kernel) rfl
theorem lkX8_186 : Cond.methodLinkNest RX8 186 yX1_meetings "PaidInDays" ∈ lw_tbl := tbn 576 (by decide +kernel)
theorem lkL_77 : Cond.methodLink RL 77 yX8_never ∈ TB := tbw 580 (by decide +kernel) rfl
theorem lkL_81 : Cond.methodLink RL 81 yX8_rest ∈ TB := tbw 584 (by decide +kernel) rfl
theorem lkX8_190 : Cond.methodLinkNest RX8 190 yX1_isOff "PaidInDays" ∈ lw_tbl := tbn 588 (by decide +kernel)
theorem lkX8_193 : Cond.methodLink RX8 193 Lib.Math.max.name ∈ TB := tbw 589 (by decide +kernel) rfl
theorem lkX8_198 : Cond.methodLink RX8 198 Lib.Math.min.name ∈ TB := tbw 590 (by decide +kernel) rfl
theorem lkL_85 : Cond.methodLink RL 85 yX8_gift ∈ TB := tbw 591 (by decide +kernel) rfl
theorem lkX8_201 : Cond.methodLink RX8 201 yX8_allTiredBehind ∈ TB := tbw 595 (by decide +kernel) rfl
theorem lkX8_242 : Cond.methodLinkNest RX8 242 yX1_allTired "PaidInDays" ∈ lw_tbl := tbn 599 (by decide +kernel)
theorem lkL_89 : Cond.methodLink RL 89 yX8_trade ∈ TB := tbw 603 (by decide +kernel) rfl
theorem lkX8_204 : Cond.methodLink RX8 204 yX8_bothTiredBehind ∈ TB := tbw 607 (by decide +kernel) rfl
theorem lkL_93 : Cond.methodLink RL 93 yX8_better ∈ TB := tbw 611 (by decide +kernel) rfl
theorem kcX8_207 : Cond.constant RX8 207 (2147483647) ∈ TB := tbw 615 (by decide +kernel) rfl
theorem lkL_97 : Cond.methodLink RL 97 yX8_fewest ∈ TB := tbw 616 (by decide +kernel) rfl
theorem lkX8_208 : Cond.methodLink RX8 208 yJ6_bitCount_0f7a4 ∈ TB := tbw 620 (by decide +kernel) rfl
theorem lkX8_211 : Cond.methodLink RX8 211 yX8_nobodyFalls ∈ TB := tbw 621 (by decide +kernel) rfl
theorem lkX8_217 : Cond.methodLinkNest RX8 217 yX1_addOff "PaidInDays" ∈ lw_tbl := tbn 625 (by decide +kernel)
theorem lkL_101 : Cond.methodLink RL 101 yX8_send ∈ TB := tbw 629 (by decide +kernel) rfl
theorem lkX8_214 : Cond.methodLink RX8 214 yX8_wagesBehind ∈ TB := tbw 633 (by decide +kernel) rfl
theorem lkL_105 : Cond.methodLink RL 105 yX8_holiday ∈ TB := tbw 637 (by decide +kernel) rfl
theorem lkL_109 : Cond.methodLink RL 109 yX8_two ∈ TB := tbw 641 (by decide +kernel) rfl
theorem lkX8_220 : Cond.methodLink RX8 220 yX8_keepsTo ∈ TB := tbw 645 (by decide +kernel) rfl
theorem lkX8_259 : Cond.methodLink RX8 259 yX8_feltTired ∈ TB := tbw 649 (by decide +kernel) rfl
theorem lkX8_262 : Cond.methodLink RX8 262 yX8_hasBit ∈ TB := tbw 653 (by decide +kernel) rfl
theorem lkL_113 : Cond.methodLink RL 113 yX8_fever ∈ TB := tbw 654 (by decide +kernel) rfl
theorem lkX8_223 : Cond.methodLink RX8 223 yX8_feverRefusal ∈ TB := tbw 658 (by decide +kernel) rfl
theorem lkX8_227 : Cond.methodLink RX8 227 yX8_refuseLong ∈ TB := tbw 662 (by decide +kernel) rfl
theorem kcX8_257 : Cond.constantLong RX8 257 (4000000000000000000) ∈ TB := tbw 666 (by decide +kernel) rfl
theorem lkX8_231 : Cond.methodLink RX8 231 yX8_tiredByFevers ∈ TB := tbw 667 (by decide +kernel) rfl
theorem lkX8_234 : Cond.methodLink RX8 234 yX8_waysOfFevers ∈ TB := tbw 671 (by decide +kernel) rfl
theorem lkX8_238 : Cond.methodLink RX8 238 yX8_partOf ∈ TB := tbw 674 (by decide +kernel) rfl
theorem lkX8_265 : Cond.methodLink RX8 265 yX8_commonDivisor ∈ TB := tbw 677 (by decide +kernel) rfl
theorem lkL_118 : Cond.methodLink RL 118 yX8_mean ∈ TB := tbw 680 (by decide +kernel) rfl
theorem lkL_123 : Cond.methodLink RL 123 yX8_whatIs ∈ TB := tbw 684 (by decide +kernel) rfl
theorem lkX8_245 : Cond.methodLink RX8 245 yX8_tiresAsTold ∈ TB := tbw 688 (by decide +kernel) rfl
theorem lkL_127 : Cond.methodLink RL 127 yX8_row ∈ TB := tbw 692 (by decide +kernel) rfl
theorem lkL_131 : Cond.methodLink RL 131 yX8_judge ∈ TB := tbw 696 (by decide +kernel) rfl
theorem lkL_135 : Cond.methodLink RL 135 yX8_clear ∈ TB := tbw 700 (by decide +kernel) rfl
theorem lkL_139 : Cond.methodLink RL 139 yX8_lots ∈ TB := tbw 704 (by decide +kernel) rfl
theorem lkX8_248 : Cond.methodLink RX8 248 yX8_nextSeed ∈ TB := tbw 708 (by decide +kernel) rfl
theorem kcX8_269 : Cond.constant RX8 269 (1664525) ∈ TB := tbw 711 (by decide +kernel) rfl
theorem kcX8_270 : Cond.constant RX8 270 (1013904223) ∈ TB := tbw 712 (by decide +kernel) rfl
theorem lkX8_251 : Cond.methodLink RX8 251 yX8_drawn ∈ TB := tbw 713 (by decide +kernel) rfl
theorem lkL_143 : Cond.methodLink RL 143 yX8_image ∈ TB := tbw 716 (by decide +kernel) rfl
theorem lkL_147 : Cond.methodLink RL 147 yX8_on ∈ TB := tbw 720 (by decide +kernel) rfl
theorem lkL_151 : Cond.methodLink RL 151 yX8_count ∈ TB := tbw 724 (by decide +kernel) rfl
theorem lkX8_254 : Cond.methodLinkNest RX8 254 yX1_allOff "PaidInDays" ∈ lw_tbl := tbn 728 (by decide +kernel)
theorem lkL_12 : Cond.methodLink RL 12 yX9_init ∈ TB := tbw 734 (by decide +kernel) rfl
theorem lkX9_1 : Cond.methodLink RX9 1 objectInit ∈ TB := tbw 737 (by decide +kernel) rfl
theorem lkL_17 : Cond.methodLink RL 17 yX9_letter ∈ TB := tbw 778 (by decide +kernel) rfl
theorem lkX9_36 : Cond.methodLink RX9 36 yX9_no ∈ TB := tbw 782 (by decide +kernel) rfl
theorem lkL_22 : Cond.methodLink RL 22 yX9_works ∈ TB := tbw 786 (by decide +kernel) rfl
theorem lkX9_126 : Cond.methodLink RX9 126 yX9_readsStatement ∈ TB := tbw 790 (by decide +kernel) rfl
theorem lkX9_99 : Cond.methodLink RX9 99 yX9_here ∈ TB := tbw 794 (by decide +kernel) rfl
theorem lkX9_106 : Cond.methodLink RX9 106 yX9_readsKind ∈ TB := tbw 798 (by decide +kernel) rfl
theorem lkX9_103 : Cond.methodLink RX9 103 yX9_kindBy ∈ TB := tbw 802 (by decide +kernel) rfl
theorem lkX9_110 : Cond.methodLink RX9 110 yX9_readsNumber ∈ TB := tbw 805 (by decide +kernel) rfl
theorem lkX9_40 : Cond.methodLink RX9 40 yX9_isIn ∈ TB := tbw 809 (by decide +kernel) rfl
theorem lkX9_129 : Cond.methodLink RX9 129 yX9_copies ∈ TB := tbw 812 (by decide +kernel) rfl
theorem lkX9_133 : Cond.methodLink RX9 133 yX9_isDone ∈ TB := tbw 815 (by decide +kernel) rfl
theorem lkX9_44 : Cond.methodLink RX9 44 yX9_of ∈ TB := tbw 819 (by decide +kernel) rfl
theorem lkX9_113 : Cond.methodLink RX9 113 yX9_isWorker ∈ TB := tbw 822 (by decide +kernel) rfl
theorem lkX9_117 : Cond.methodLink RX9 117 yX9_isWeekday ∈ TB := tbw 826 (by decide +kernel) rfl
theorem lkX9_120 : Cond.methodLink RX9 120 yX9_canGive ∈ TB := tbw 829 (by decide +kernel) rfl
theorem lkX9_65 : Cond.methodLink RX9 65 yX9_has ∈ TB := tbw 833 (by decide +kernel) rfl
theorem lkX9_75 : Cond.methodLink RX9 75 yX9_movesDay ∈ TB := tbw 836 (by decide +kernel) rfl
theorem lkX9_123 : Cond.methodLink RX9 123 yX9_daysOn ∈ TB := tbw 839 (by decide +kernel) rfl
theorem lkX9_89 : Cond.methodLink RX9 89 yX9_day ∈ TB := tbw 842 (by decide +kernel) rfl
theorem lkX9_79 : Cond.methodLink RX9 79 yX9_least ∈ TB := tbw 845 (by decide +kernel) rfl
theorem lkX9_82 : Cond.methodLink RX9 82 yX9_paidBehind ∈ TB := tbw 848 (by decide +kernel) rfl
theorem lkX9_85 : Cond.methodLink RX9 85 yX9_isPaid ∈ TB := tbw 851 (by decide +kernel) rfl
theorem lkX9_69 : Cond.methodLink RX9 69 yX9_fromWhom ∈ TB := tbw 854 (by decide +kernel) rfl
theorem lkX9_55 : Cond.methodLink RX9 55 yX9_richestFrom ∈ TB := tbw 857 (by decide +kernel) rfl
theorem lkX9_48 : Cond.methodLink RX9 48 yX9_wanted ∈ TB := tbw 860 (by decide +kernel) rfl
theorem lkX9_52 : Cond.methodLink RX9 52 yX9_bits ∈ TB := tbw 863 (by decide +kernel) rfl
theorem lkX9_59 : Cond.methodLink RX9 59 yX9_roundFrom ∈ TB := tbw 866 (by decide +kernel) rfl
theorem lkX9_62 : Cond.methodLink RX9 62 yX9_leastFrom ∈ TB := tbw 869 (by decide +kernel) rfl
theorem lkX9_72 : Cond.methodLink RX9 72 yX9_whichOf ∈ TB := tbw 872 (by decide +kernel) rfl
theorem lkL_27 : Cond.methodLink RL 27 yX9_worker ∈ TB := tbw 875 (by decide +kernel) rfl
theorem lkL_31 : Cond.methodLink RL 31 yX9_from ∈ TB := tbw 879 (by decide +kernel) rfl
theorem lkL_35 : Cond.methodLink RL 35 yX9_frees ∈ TB := tbw 883 (by decide +kernel) rfl
theorem lkL_40 : Cond.methodLink RL 40 yX9_gives ∈ TB := tbw 887 (by decide +kernel) rfl
theorem lkL_44 : Cond.methodLink RL 44 yX9_rests ∈ TB := tbw 891 (by decide +kernel) rfl
theorem lkX9_136 : Cond.methodLink RX9 136 yX9_wrongBy ∈ TB := tbw 895 (by decide +kernel) rfl
theorem lkL_48 : Cond.methodLink RL 48 yX9_turn ∈ TB := tbw 898 (by decide +kernel) rfl
theorem lkL_52 : Cond.methodLink RL 52 yX9_days ∈ TB := tbw 902 (by decide +kernel) rfl
theorem lkL_56 : Cond.methodLink RL 56 yX9_workerThen ∈ TB := tbw 906 (by decide +kernel) rfl
theorem lkX9_140 : Cond.methodLink RX9 140 yX9_takes ∈ TB := tbw 910 (by decide +kernel) rfl
theorem lkL_60 : Cond.methodLink RL 60 yX9_then ∈ TB := tbw 914 (by decide +kernel) rfl
theorem lkX9_144 : Cond.methodLink RX9 144 yX9_inOn ∈ TB := tbw 918 (by decide +kernel) rfl
theorem lkL_64 : Cond.methodLink RL 64 yX9_falls ∈ TB := tbw 921 (by decide +kernel) rfl
theorem lkX9_151 : Cond.methodLink RX9 151 yX9_firstFalls ∈ TB := tbw 925 (by decide +kernel) rfl
theorem kcX9_147 : Cond.constant RX9 147 (1000000000) ∈ TB := tbw 929 (by decide +kernel) rfl
theorem lkX9_148 : Cond.methodLink RX9 148 yX9_fallsOf ∈ TB := tbw 930 (by decide +kernel) rfl
theorem lkL_68 : Cond.methodLink RL 68 yX9_still ∈ TB := tbw 934 (by decide +kernel) rfl
theorem lkX9_158 : Cond.methodLink RX9 158 yX9_isPaidDay ∈ TB := tbw 938 (by decide +kernel) rfl
theorem lkX9_154 : Cond.methodLink RX9 154 yX9_sumOff ∈ TB := tbw 942 (by decide +kernel) rfl
theorem lkL_72 : Cond.methodLink RL 72 yX9_strike ∈ TB := tbw 945 (by decide +kernel) rfl
theorem lkX9_161 : Cond.methodLink RX9 161 yX9_offOn ∈ TB := tbw 949 (by decide +kernel) rfl
theorem lkL_76 : Cond.methodLink RL 76 yX9_meet ∈ TB := tbw 953 (by decide +kernel) rfl
theorem lkX9_164 : Cond.methodLink RX9 164 yX9_bothIn ∈ TB := tbw 957 (by decide +kernel) rfl
theorem lkL_80 : Cond.methodLink RL 80 yX9_never ∈ TB := tbw 961 (by decide +kernel) rfl
theorem lkL_84 : Cond.methodLink RL 84 yX9_rest ∈ TB := tbw 965 (by decide +kernel) rfl
theorem lkL_88 : Cond.methodLink RL 88 yX9_gift ∈ TB := tbw 969 (by decide +kernel) rfl
theorem lkX9_170 : Cond.methodLink RX9 170 yX9_tiredNow ∈ TB := tbw 973 (by decide +kernel) rfl
theorem lkX9_167 : Cond.methodLink RX9 167 yX9_allTired ∈ TB := tbw 977 (by decide +kernel) rfl
theorem lkL_92 : Cond.methodLink RL 92 yX9_trade ∈ TB := tbw 980 (by decide +kernel) rfl
theorem lkL_96 : Cond.methodLink RL 96 yX9_better ∈ TB := tbw 984 (by decide +kernel) rfl
theorem lkL_100 : Cond.methodLink RL 100 yX9_fewest ∈ TB := tbw 988 (by decide +kernel) rfl
theorem lkX9_173 : Cond.methodLink RX9 173 yX9_doesNobodyFall ∈ TB := tbw 992 (by decide +kernel) rfl
theorem lkL_104 : Cond.methodLink RL 104 yX9_send ∈ TB := tbw 996 (by decide +kernel) rfl
theorem lkL_108 : Cond.methodLink RL 108 yX9_holiday ∈ TB := tbw 1000 (by decide +kernel) rfl
theorem lkL_112 : Cond.methodLink RL 112 yX9_two ∈ TB := tbw 1004 (by decide +kernel) rfl
theorem lkX9_176 : Cond.methodLink RX9 176 yX9_costBy ∈ TB := tbw 1008 (by decide +kernel) rfl
theorem lkL_117 : Cond.methodLink RL 117 yX9_fever ∈ TB := tbw 1012 (by decide +kernel) rfl
theorem lkX9_184 : Cond.methodLink RX9 184 yX9_noWide ∈ TB := tbw 1016 (by decide +kernel) rfl
theorem kcX9_34 : Cond.constantLong RX9 34 (4000000000000000000) ∈ TB := tbw 1020 (by decide +kernel) rfl
theorem lkX9_188 : Cond.methodLink RX9 188 yX9_partOf ∈ TB := tbw 1021 (by decide +kernel) rfl
theorem lkX9_180 : Cond.methodLink RX9 180 yX9_gcd ∈ TB := tbw 1024 (by decide +kernel) rfl
theorem lkL_122 : Cond.methodLink RL 122 yX9_mean ∈ TB := tbw 1027 (by decide +kernel) rfl
theorem lkL_126 : Cond.methodLink RL 126 yX9_whatIs ∈ TB := tbw 1031 (by decide +kernel) rfl
theorem lkL_130 : Cond.methodLink RL 130 yX9_row ∈ TB := tbw 1035 (by decide +kernel) rfl
theorem lkL_134 : Cond.methodLink RL 134 yX9_judge ∈ TB := tbw 1039 (by decide +kernel) rfl
theorem lkL_138 : Cond.methodLink RL 138 yX9_clear ∈ TB := tbw 1043 (by decide +kernel) rfl
theorem lkL_142 : Cond.methodLink RL 142 yX9_lots ∈ TB := tbw 1047 (by decide +kernel) rfl
theorem lkX9_201 : Cond.methodLink RX9 201 yX9_drawn ∈ TB := tbw 1051 (by decide +kernel) rfl
theorem kcX9_198 : Cond.constant RX9 198 (1664525) ∈ TB := tbw 1055 (by decide +kernel) rfl
theorem kcX9_199 : Cond.constant RX9 199 (1013904223) ∈ TB := tbw 1056 (by decide +kernel) rfl
theorem kcX9_200 : Cond.constant RX9 200 (2147483647) ∈ TB := tbw 1057 (by decide +kernel) rfl
theorem lkL_146 : Cond.methodLink RL 146 yX9_image ∈ TB := tbw 1058 (by decide +kernel) rfl
theorem lkL_150 : Cond.methodLink RL 150 yX9_on ∈ TB := tbw 1062 (by decide +kernel) rfl
theorem lkL_154 : Cond.methodLink RL 154 yX9_count ∈ TB := tbw 1066 (by decide +kernel) rfl
theorem wm_max1 : Cond.static Lib.Math.max.name ∈ TB := tbw 275 (by decide +kernel) rfl
set_option maxRecDepth 20000 in
theorem wm_max2 : Cond.code Lib.Math.max.name Lib.Math.max.code 2 (some .int) ∈ TB := tbw 276 rfl rfl
theorem wm_min1 : Cond.static Lib.Math.min.name ∈ TB := tbw 278 (by decide +kernel) rfl
set_option maxRecDepth 20000 in
theorem wm_min2 : Cond.code Lib.Math.min.name Lib.Math.min.code 2 (some .int) ∈ TB := tbw 279 rfl rfl
theorem wm_init : Cond.initialized "java/lang/Math" ∈ TB := tbw 16 (by decide +kernel) rfl
theorem wl_X1 : ∀ w ∈ u_ws RX1 TX1 9, w ∈ TB := by
  intro w hw
  obtain ⟨k, hk, rfl⟩ := List.mem_map.mp hw
  have hk := List.mem_range.mp hk
  match k, hk with
  | 0, _ => exact tbw 100 (by decide +kernel) rfl
  | 1, _ => exact tbw 102 (by decide +kernel) rfl
  | 2, _ => exact tbw 104 (by decide +kernel) rfl
  | 3, _ => exact tbw 106 (by decide +kernel) rfl
  | 4, _ => exact tbw 108 (by decide +kernel) rfl
  | 5, _ => exact tbw 110 (by decide +kernel) rfl
  | 6, _ => exact tbw 112 (by decide +kernel) rfl
  | 7, _ => exact tbw 114 (by decide +kernel) rfl
  | 8, _ => exact tbw 116 (by decide +kernel) rfl
  | k + 9, h => omega
theorem wl_X5 : ∀ w ∈ u_ws RX5 TX5 2, w ∈ TB := by
  intro w hw
  obtain ⟨k, hk, rfl⟩ := List.mem_map.mp hw
  have hk := List.mem_range.mp hk
  match k, hk with
  | 0, _ => exact tbw 129 (by decide +kernel) rfl
  | 1, _ => exact tbw 131 (by decide +kernel) rfl
  | k + 2, h => omega
theorem wl_X8 : ∀ w ∈ u_ws RX8 TX8 8, w ∈ TB := by
  intro w hw
  obtain ⟨k, hk, rfl⟩ := List.mem_map.mp hw
  have hk := List.mem_range.mp hk
  match k, hk with
  | 0, _ => exact tbw 143 (by decide +kernel) rfl
  | 1, _ => exact tbw 145 (by decide +kernel) rfl
  | 2, _ => exact tbw 147 (by decide +kernel) rfl
  | 3, _ => exact tbw 149 (by decide +kernel) rfl
  | 4, _ => exact tbw 151 (by decide +kernel) rfl
  | 5, _ => exact tbw 153 (by decide +kernel) rfl
  | 6, _ => exact tbw 155 (by decide +kernel) rfl
  | 7, _ => exact tbw 157 (by decide +kernel) rfl
  | k + 8, h => omega
theorem wl_X9 : ∀ w ∈ u_ws RX9 TX9 13, w ∈ TB := by
  intro w hw
  obtain ⟨k, hk, rfl⟩ := List.mem_map.mp hw
  have hk := List.mem_range.mp hk
  match k, hk with
  | 0, _ => exact tbw 751 (by decide +kernel) rfl
  | 1, _ => exact tbw 753 (by decide +kernel) rfl
  | 2, _ => exact tbw 755 (by decide +kernel) rfl
  | 3, _ => exact tbw 757 (by decide +kernel) rfl
  | 4, _ => exact tbw 759 (by decide +kernel) rfl
  | 5, _ => exact tbw 761 (by decide +kernel) rfl
  | 6, _ => exact tbw 763 (by decide +kernel) rfl
  | 7, _ => exact tbw 765 (by decide +kernel) rfl
  | 8, _ => exact tbw 767 (by decide +kernel) rfl
  | 9, _ => exact tbw 769 (by decide +kernel) rfl
  | 10, _ => exact tbw 771 (by decide +kernel) rfl
  | 11, _ => exact tbw 773 (by decide +kernel) rfl
  | 12, _ => exact tbw 775 (by decide +kernel) rfl
  | k + 13, h => omega
