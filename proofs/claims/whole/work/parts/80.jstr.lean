-- the ten words of Tokens as String constants; String.length, String.charAt over them
def stI : List Nat := [67, 73, 75, 77, 79, 81, 83, 85, 87, 89]
def stX : List String := ["shows", "if", "or", "and", "not", "day", "hand", "marks", "turn", "offset"]
def stL : List Nat := [5, 2, 2, 3, 3, 3, 4, 5, 4, 6]
def stB : List (List Int32) := [[115, 104, 111, 119, 115], [105, 102], [111, 114], [97, 110, 100], [110, 111, 116], [100, 97, 121], [104, 97, 110, 100], [109, 97, 114, 107, 115], [116, 117, 114, 110], [111, 102, 102, 115, 101, 116]]
def stN : List (List Nat) := [[115, 104, 111, 119, 115], [105, 102], [111, 114], [97, 110, 100], [110, 111, 116], [100, 97, 121], [104, 97, 110, 100], [109, 97, 114, 107, 115], [116, 117, 114, 110], [111, 102, 102, 115, 101, 116]]
theorem st_bytes : ∀ i, i < 10 → ∀ k, k < stL.getD i 0 → (stB.getD i []).getD k 0 &&& 255 = nI ((stN.getD i []).getD k 0) := by decide +kernel
theorem st_lens : ∀ i, i < 10 → stL.getD i 0 < 7 := by decide +kernel
theorem st_lenN : ∀ i, i < 10 → (stN.getD i []).length = stL.getD i 0 := by decide +kernel
def StrG (g : gG) (aK aV : Nat → Nat) : Prop := vk_S 10 stL stB aK aV (mA g) (gs g) (gs g).heap ∧ ∀ i, i < 10 → (Term.string "WheelYear$Tokens" (stI.getD i 0)).eval (ga g) (gs g) none [] (gs g) = some (.ref (aK i))
theorem StrG.ex {g : gG} (G : Glob g) : ∃ aK aV, StrG g aK aV := by
  have hs := flat_of_before _ G.2.2.2
  refine vk_Sof (tm := fun i => Term.string "WheelYear$Tokens" (stI.getD i 0)) (fun i hi => Nat.lt_trans (st_lens i hi) (by decide)) (fun i hi => hs _ ?_) (fun i hi => hs _ ?_) (fun i hi => hs _ ?_) (fun i hi => hs _ ?_) (fun i hi j hj => hs _ ?_) (fun i j hi hj hij => ?_) (fun a h1 h2 => absurd h1 (Nat.not_lt.mpr h2))
  · revert hi; revert i; decide +kernel
  · revert hi; revert i; decide +kernel
  · revert hi; revert i; decide +kernel
  · revert hi; revert i; decide +kernel
  · revert hj; revert j; revert hi; revert i; decide +kernel
  · have key : ∀ i, i < 10 → ∀ j, j < 10 → i ≠ j → (Cond.not (Cond.eq (Term.string "WheelYear$Tokens" (stI.getD i 0)) (Term.string "WheelYear$Tokens" (stI.getD j 0)))) ∈ flatC (Jvm.Cond.and given_1 narrow_1) ∨ (Cond.not (Cond.eq (Term.string "WheelYear$Tokens" (stI.getD j 0)) (Term.string "WheelYear$Tokens" (stI.getD i 0)))) ∈ flatC (Jvm.Cond.and given_1 narrow_1) := by decide +kernel
    rcases key i hi j hj hij with h | h
    · exact Or.inl (hs _ h)
    · exact Or.inr (hs _ h)
theorem st_r67 : Cond.stringRef RX10 67 "shows" ∈ lw_tbl := gw3 65 (by decide +kernel)
theorem StrG.r67 {g : gG} {aK aV : Nat → Nat} (G : Glob g) (h : StrG g aK aV) : vk_R RX10 67 "shows" (aK 0) (gs g) := vk_R.of (G.1 _ st_r67) (h.2 0 (by decide))
theorem st_r73 : Cond.stringRef RX10 73 "if" ∈ lw_tbl := gw3 118 (by decide +kernel)
theorem StrG.r73 {g : gG} {aK aV : Nat → Nat} (G : Glob g) (h : StrG g aK aV) : vk_R RX10 73 "if" (aK 1) (gs g) := vk_R.of (G.1 _ st_r73) (h.2 1 (by decide))
theorem st_r75 : Cond.stringRef RX10 75 "or" ∈ lw_tbl := gw3 119 (by decide +kernel)
theorem StrG.r75 {g : gG} {aK aV : Nat → Nat} (G : Glob g) (h : StrG g aK aV) : vk_R RX10 75 "or" (aK 2) (gs g) := vk_R.of (G.1 _ st_r75) (h.2 2 (by decide))
theorem st_r77 : Cond.stringRef RX10 77 "and" ∈ lw_tbl := gw3 120 (by decide +kernel)
theorem StrG.r77 {g : gG} {aK aV : Nat → Nat} (G : Glob g) (h : StrG g aK aV) : vk_R RX10 77 "and" (aK 3) (gs g) := vk_R.of (G.1 _ st_r77) (h.2 3 (by decide))
theorem st_r79 : Cond.stringRef RX10 79 "not" ∈ lw_tbl := gw3 121 (by decide +kernel)
theorem StrG.r79 {g : gG} {aK aV : Nat → Nat} (G : Glob g) (h : StrG g aK aV) : vk_R RX10 79 "not" (aK 4) (gs g) := vk_R.of (G.1 _ st_r79) (h.2 4 (by decide))
theorem st_r81 : Cond.stringRef RX10 81 "day" ∈ lw_tbl := gw3 122 (by decide +kernel)
theorem StrG.r81 {g : gG} {aK aV : Nat → Nat} (G : Glob g) (h : StrG g aK aV) : vk_R RX10 81 "day" (aK 5) (gs g) := vk_R.of (G.1 _ st_r81) (h.2 5 (by decide))
theorem st_r83 : Cond.stringRef RX10 83 "hand" ∈ lw_tbl := gw3 123 (by decide +kernel)
theorem StrG.r83 {g : gG} {aK aV : Nat → Nat} (G : Glob g) (h : StrG g aK aV) : vk_R RX10 83 "hand" (aK 6) (gs g) := vk_R.of (G.1 _ st_r83) (h.2 6 (by decide))
theorem st_r85 : Cond.stringRef RX10 85 "marks" ∈ lw_tbl := gw3 124 (by decide +kernel)
theorem StrG.r85 {g : gG} {aK aV : Nat → Nat} (G : Glob g) (h : StrG g aK aV) : vk_R RX10 85 "marks" (aK 7) (gs g) := vk_R.of (G.1 _ st_r85) (h.2 7 (by decide))
theorem st_r87 : Cond.stringRef RX10 87 "turn" ∈ lw_tbl := gw3 125 (by decide +kernel)
theorem StrG.r87 {g : gG} {aK aV : Nat → Nat} (G : Glob g) (h : StrG g aK aV) : vk_R RX10 87 "turn" (aK 8) (gs g) := vk_R.of (G.1 _ st_r87) (h.2 8 (by decide))
theorem st_r89 : Cond.stringRef RX10 89 "offset" ∈ lw_tbl := gw3 126 (by decide +kernel)
theorem StrG.r89 {g : gG} {aK aV : Nat → Nat} (G : Glob g) (h : StrG g aK aV) : vk_R RX10 89 "offset" (aK 9) (gs g) := vk_R.of (G.1 _ st_r89) (h.2 9 (by decide))
theorem w_cmp : Cond.laysStatic "java/lang/String" "COMPACT_STRINGS" "Z" ∈ lw_tbl := gw3 79 (by decide +kernel)
theorem w_sio : Cond.laysStatic "jdk/internal/util/Preconditions" "SIOOBE_FORMATTER" "Ljava/util/function/BiFunction;" ∈ lw_tbl := gw3 95 (by decide +kernel)
theorem w_iS : Cond.initialized "java/lang/String" ∈ lw_tbl := gw1 13 (by decide +kernel)
theorem w_iP : Cond.initialized "jdk/internal/util/Preconditions" ∈ lw_tbl := gw1 15 (by decide +kernel)
theorem lf_9 : Cond.fieldLink RJ0 9 "java/lang/String" "value" "[B" ∈ lw_tbl := gw8 39 (by decide +kernel)
theorem lf_15 : Cond.fieldLink RJ0 15 "java/lang/String" "coder" "B" ∈ lw_tbl := gw8 40 (by decide +kernel)
theorem lf_38 : Cond.fieldLink RJ0 38 "java/lang/String" "COMPACT_STRINGS" "Z" ∈ lw_tbl := gw3 78 (by decide +kernel)
theorem lf_1053 : Cond.fieldLink RJ0 1053 "jdk/internal/util/Preconditions" "SIOOBE_FORMATTER" "Ljava/util/function/BiFunction;" ∈ lw_tbl := gw3 94 (by decide +kernel)
theorem zcomp {g : gG} (G : Glob g) : va_Z "java/lang/String" "COMPACT_STRINGS" "Z" (.int 1) (mA g) (gs g) (gs g).heap := va_Zof (args := ga g) (G.1 _ w_cmp) (G.1 _ w_iS) (va_eqi (flat_of_before _ G.2.2.2 _ (by decide +kernel))) (fun a h1 h2 => absurd h1 (Nat.not_lt.mpr h2))
theorem zsio {g : gG} (G : Glob g) : va_Zq "jdk/internal/util/Preconditions" "SIOOBE_FORMATTER" "Ljava/util/function/BiFunction;" (mA g) (gs g) (gs g).heap := va_Zqof (args := ga g) (G.1 _ w_sio) (G.1 _ w_iP) (flat_of_before _ G.2.2.2 _ (by decide +kernel)) (fun a h1 h2 => absurd h1 (Nat.not_lt.mpr h2))
abbrev mJ0_length_8abf5 : mD := (yJ0_length_8abf5, cJ0_length_8abf5, 1, some .int)
theorem bJ0_length_8abf5 : cB mJ0_length_8abf5 0 := ⟨gw3 73 (by decide +kernel), gw1 13 (by decide +kernel), by decide +kernel, by decide⟩
theorem nJ0_length_8abf5 : Cond.instanceMethod yJ0_length_8abf5 ∈ lw_tbl := gw3 71 (by decide +kernel)
theorem eJ0_length_8abf5 : Cond.selects RJ0 yJ0_length_8abf5 yJ0_length_8abf5 ∈ lw_tbl := gw3 72 (by decide +kernel)
abbrev mJ0_coder_7d493 : mD := (yJ0_coder_7d493, cJ0_coder_7d493, 1, some .byte)
theorem bJ0_coder_7d493 : cB mJ0_coder_7d493 0 := ⟨gw3 77 (by decide +kernel), gw1 13 (by decide +kernel), by decide +kernel, by decide⟩
theorem nJ0_coder_7d493 : Cond.instanceMethod yJ0_coder_7d493 ∈ lw_tbl := gw3 75 (by decide +kernel)
theorem eJ0_coder_7d493 : Cond.selects RJ0 yJ0_coder_7d493 yJ0_coder_7d493 ∈ lw_tbl := gw3 76 (by decide +kernel)
abbrev mJ0_isLatin1_aae02 : mD := (yJ0_isLatin1_aae02, cJ0_isLatin1_aae02, 1, some .boolean)
theorem bJ0_isLatin1_aae02 : cB mJ0_isLatin1_aae02 0 := ⟨gw3 87 (by decide +kernel), gw1 13 (by decide +kernel), by decide +kernel, by decide⟩
theorem nJ0_isLatin1_aae02 : Cond.instanceMethod yJ0_isLatin1_aae02 ∈ lw_tbl := gw3 85 (by decide +kernel)
theorem eJ0_isLatin1_aae02 : Cond.selects RJ0 yJ0_isLatin1_aae02 yJ0_isLatin1_aae02 ∈ lw_tbl := gw3 86 (by decide +kernel)
abbrev mJ0_charAt_5068e : mD := (yJ0_charAt_5068e, cJ0_charAt_5068e, 2, some .char)
theorem bJ0_charAt_5068e : cB mJ0_charAt_5068e 1 := ⟨gw3 83 (by decide +kernel), gw1 13 (by decide +kernel), by decide +kernel, by decide⟩
theorem nJ0_charAt_5068e : Cond.instanceMethod yJ0_charAt_5068e ∈ lw_tbl := gw3 81 (by decide +kernel)
theorem eJ0_charAt_5068e : Cond.selects RJ0 yJ0_charAt_5068e yJ0_charAt_5068e ∈ lw_tbl := gw3 82 (by decide +kernel)
abbrev mJ1_charAt_3b067 : mD := (yJ1_charAt_3b067, cJ1_charAt_3b067, 2, some .char)
theorem bJ1_charAt_3b067 : cB mJ1_charAt_3b067 2 := ⟨gw3 90 (by decide +kernel), gw1 14 (by decide +kernel), by decide +kernel, by decide⟩
theorem sJ1_charAt_3b067 : Cond.static yJ1_charAt_3b067 ∈ lw_tbl := gw3 89 (by decide +kernel)
abbrev mJ0_checkIndex_df160 : mD := (yJ0_checkIndex_df160, cJ0_checkIndex_df160, 2, none)
theorem bJ0_checkIndex_df160 : cB mJ0_checkIndex_df160 2 := ⟨gw3 93 (by decide +kernel), gw1 13 (by decide +kernel), by decide +kernel, by decide⟩
theorem sJ0_checkIndex_df160 : Cond.static yJ0_checkIndex_df160 ∈ lw_tbl := gw3 92 (by decide +kernel)
abbrev mJ3_checkIndex_8e157 : mD := (yJ3_checkIndex_8e157, cJ3_checkIndex_8e157, 3, some .int)
theorem bJ3_checkIndex_8e157 : cB mJ3_checkIndex_8e157 3 := ⟨gw3 98 (by decide +kernel), gw1 15 (by decide +kernel), by decide +kernel, by decide⟩
theorem sJ3_checkIndex_8e157 : Cond.static yJ3_checkIndex_8e157 ∈ lw_tbl := gw3 97 (by decide +kernel)
theorem dJ0_length_8abf5_0 : decode cJ0_length_8abf5 0 = .ok (.aload_n 0, 1) := by decide +kernel
theorem dJ0_length_8abf5_1 : decode cJ0_length_8abf5 1 = .ok (.getfield 9, 3) := by decide +kernel
theorem dJ0_length_8abf5_4 : decode cJ0_length_8abf5 4 = .ok (.arraylength, 1) := by decide +kernel
theorem dJ0_length_8abf5_5 : decode cJ0_length_8abf5 5 = .ok (.aload_n 0, 1) := by decide +kernel
theorem dJ0_length_8abf5_6 : decode cJ0_length_8abf5 6 = .ok (.invokevirtual 335, 3) := by decide +kernel
theorem dJ0_length_8abf5_9 : decode cJ0_length_8abf5 9 = .ok (.ishr, 1) := by decide +kernel
theorem dJ0_length_8abf5_10 : decode cJ0_length_8abf5 10 = .ok (.ireturn, 1) := by decide +kernel
theorem dJ0_coder_7d493_0 : decode cJ0_coder_7d493 0 = .ok (.getstatic 38, 3) := by decide +kernel
theorem dJ0_coder_7d493_3 : decode cJ0_coder_7d493 3 = .ok (.ifCond .eq 10, 3) := by decide +kernel
theorem dJ0_coder_7d493_6 : decode cJ0_coder_7d493 6 = .ok (.aload_n 0, 1) := by decide +kernel
theorem dJ0_coder_7d493_7 : decode cJ0_coder_7d493 7 = .ok (.getfield 15, 3) := by decide +kernel
theorem dJ0_coder_7d493_10 : decode cJ0_coder_7d493 10 = .ok (.goto 4, 3) := by decide +kernel
theorem dJ0_coder_7d493_13 : decode cJ0_coder_7d493 13 = .ok (.iconst 1, 1) := by decide +kernel
theorem dJ0_coder_7d493_14 : decode cJ0_coder_7d493 14 = .ok (.ireturn, 1) := by decide +kernel
theorem dJ0_isLatin1_aae02_0 : decode cJ0_isLatin1_aae02 0 = .ok (.getstatic 38, 3) := by decide +kernel
theorem dJ0_isLatin1_aae02_3 : decode cJ0_isLatin1_aae02 3 = .ok (.ifCond .eq 14, 3) := by decide +kernel
theorem dJ0_isLatin1_aae02_6 : decode cJ0_isLatin1_aae02 6 = .ok (.aload_n 0, 1) := by decide +kernel
theorem dJ0_isLatin1_aae02_7 : decode cJ0_isLatin1_aae02 7 = .ok (.getfield 15, 3) := by decide +kernel
theorem dJ0_isLatin1_aae02_10 : decode cJ0_isLatin1_aae02 10 = .ok (.ifCond .ne 7, 3) := by decide +kernel
theorem dJ0_isLatin1_aae02_13 : decode cJ0_isLatin1_aae02 13 = .ok (.iconst 1, 1) := by decide +kernel
theorem dJ0_isLatin1_aae02_14 : decode cJ0_isLatin1_aae02 14 = .ok (.goto 4, 3) := by decide +kernel
theorem dJ0_isLatin1_aae02_17 : decode cJ0_isLatin1_aae02 17 = .ok (.iconst 0, 1) := by decide +kernel
theorem dJ0_isLatin1_aae02_18 : decode cJ0_isLatin1_aae02 18 = .ok (.ireturn, 1) := by decide +kernel
theorem dJ0_charAt_5068e_0 : decode cJ0_charAt_5068e 0 = .ok (.aload_n 0, 1) := by decide +kernel
theorem dJ0_charAt_5068e_1 : decode cJ0_charAt_5068e 1 = .ok (.invokevirtual 492, 3) := by decide +kernel
theorem dJ0_charAt_5068e_4 : decode cJ0_charAt_5068e 4 = .ok (.ifCond .eq 12, 3) := by decide +kernel
theorem dJ0_charAt_5068e_7 : decode cJ0_charAt_5068e 7 = .ok (.aload_n 0, 1) := by decide +kernel
theorem dJ0_charAt_5068e_8 : decode cJ0_charAt_5068e 8 = .ok (.getfield 9, 3) := by decide +kernel
theorem dJ0_charAt_5068e_11 : decode cJ0_charAt_5068e 11 = .ok (.iload_n 1, 1) := by decide +kernel
theorem dJ0_charAt_5068e_12 : decode cJ0_charAt_5068e 12 = .ok (.invokestatic 495, 3) := by decide +kernel
theorem dJ0_charAt_5068e_15 : decode cJ0_charAt_5068e 15 = .ok (.ireturn, 1) := by decide +kernel
theorem dJ0_charAt_5068e_16 : decode cJ0_charAt_5068e 16 = .ok (.aload_n 0, 1) := by decide +kernel
theorem dJ0_charAt_5068e_17 : decode cJ0_charAt_5068e 17 = .ok (.getfield 9, 3) := by decide +kernel
theorem dJ0_charAt_5068e_20 : decode cJ0_charAt_5068e 20 = .ok (.iload_n 1, 1) := by decide +kernel
theorem dJ0_charAt_5068e_21 : decode cJ0_charAt_5068e 21 = .ok (.invokestatic 498, 3) := by decide +kernel
theorem dJ0_charAt_5068e_24 : decode cJ0_charAt_5068e 24 = .ok (.ireturn, 1) := by decide +kernel
theorem dJ1_charAt_3b067_0 : decode cJ1_charAt_3b067 0 = .ok (.iload_n 1, 1) := by decide +kernel
theorem dJ1_charAt_3b067_1 : decode cJ1_charAt_3b067 1 = .ok (.aload_n 0, 1) := by decide +kernel
theorem dJ1_charAt_3b067_2 : decode cJ1_charAt_3b067 2 = .ok (.arraylength, 1) := by decide +kernel
theorem dJ1_charAt_3b067_3 : decode cJ1_charAt_3b067 3 = .ok (.invokestatic 9, 3) := by decide +kernel
theorem dJ1_charAt_3b067_6 : decode cJ1_charAt_3b067 6 = .ok (.aload_n 0, 1) := by decide +kernel
theorem dJ1_charAt_3b067_7 : decode cJ1_charAt_3b067 7 = .ok (.iload_n 1, 1) := by decide +kernel
theorem dJ1_charAt_3b067_8 : decode cJ1_charAt_3b067 8 = .ok (.baload, 1) := by decide +kernel
theorem dJ1_charAt_3b067_9 : decode cJ1_charAt_3b067 9 = .ok (.sipush 255, 3) := by decide +kernel
theorem dJ1_charAt_3b067_12 : decode cJ1_charAt_3b067 12 = .ok (.iand, 1) := by decide +kernel
theorem dJ1_charAt_3b067_13 : decode cJ1_charAt_3b067 13 = .ok (.i2c, 1) := by decide +kernel
theorem dJ1_charAt_3b067_14 : decode cJ1_charAt_3b067 14 = .ok (.ireturn, 1) := by decide +kernel
theorem dJ0_checkIndex_df160_0 : decode cJ0_checkIndex_df160 0 = .ok (.iload_n 0, 1) := by decide +kernel
theorem dJ0_checkIndex_df160_1 : decode cJ0_checkIndex_df160 1 = .ok (.iload_n 1, 1) := by decide +kernel
theorem dJ0_checkIndex_df160_2 : decode cJ0_checkIndex_df160 2 = .ok (.getstatic 1053, 3) := by decide +kernel
theorem dJ0_checkIndex_df160_5 : decode cJ0_checkIndex_df160 5 = .ok (.invokestatic 1059, 3) := by decide +kernel
theorem dJ0_checkIndex_df160_8 : decode cJ0_checkIndex_df160 8 = .ok (.pop, 1) := by decide +kernel
theorem dJ0_checkIndex_df160_9 : decode cJ0_checkIndex_df160 9 = .ok (.return_, 1) := by decide +kernel
theorem dJ3_checkIndex_8e157_0 : decode cJ3_checkIndex_8e157 0 = .ok (.iload_n 0, 1) := by decide +kernel
theorem dJ3_checkIndex_8e157_1 : decode cJ3_checkIndex_8e157 1 = .ok (.ifCond .lt 8, 3) := by decide +kernel
theorem dJ3_checkIndex_8e157_4 : decode cJ3_checkIndex_8e157 4 = .ok (.iload_n 0, 1) := by decide +kernel
theorem dJ3_checkIndex_8e157_5 : decode cJ3_checkIndex_8e157 5 = .ok (.iload_n 1, 1) := by decide +kernel
theorem dJ3_checkIndex_8e157_6 : decode cJ3_checkIndex_8e157 6 = .ok (.if_icmp .lt 10, 3) := by decide +kernel
theorem dJ3_checkIndex_8e157_9 : decode cJ3_checkIndex_8e157 9 = .ok (.aload_n 2, 1) := by decide +kernel
theorem dJ3_checkIndex_8e157_10 : decode cJ3_checkIndex_8e157 10 = .ok (.iload_n 0, 1) := by decide +kernel
theorem dJ3_checkIndex_8e157_11 : decode cJ3_checkIndex_8e157 11 = .ok (.iload_n 1, 1) := by decide +kernel
theorem dJ3_checkIndex_8e157_12 : decode cJ3_checkIndex_8e157 12 = .ok (.invokestatic 95, 3) := by decide +kernel
theorem dJ3_checkIndex_8e157_15 : decode cJ3_checkIndex_8e157 15 = .ok (.athrow, 1) := by decide +kernel
theorem dJ3_checkIndex_8e157_16 : decode cJ3_checkIndex_8e157 16 = .ok (.iload_n 0, 1) := by decide +kernel
theorem dJ3_checkIndex_8e157_17 : decode cJ3_checkIndex_8e157 17 = .ok (.ireturn, 1) := by decide +kernel
theorem ljJ0_335 : cL RJ0 335 mJ0_coder_7d493 := cL.own (gw3 74 (by decide +kernel))
theorem ljJ0_492 : cL RJ0 492 mJ0_isLatin1_aae02 := cL.own (gw3 84 (by decide +kernel))
theorem ljJ0_495 : cL RJ0 495 mJ1_charAt_3b067 := cL.own (gw3 88 (by decide +kernel))
theorem ljJ1_9 : cL RJ1 9 mJ0_checkIndex_df160 := cL.own (gw3 91 (by decide +kernel))
theorem ljJ0_1059 : cL RJ0 1059 mJ3_checkIndex_8e157 := cL.own (gw3 96 (by decide +kernel))
theorem ljX10_91 : cL RX10 91 mJ0_length_8abf5 := cL.own (gw3 70 (by decide +kernel))
theorem ljX10_96 : cL RX10 96 mJ0_charAt_5068e := cL.own (gw3 80 (by decide +kernel))
section VSTR
variable {g : gG} {M : mD} {d : Nat} {Q : mQ} {bc bs pc : Nat} {L : List (Option Value)} {st : List Value} {T : mT} {n : Nat} {I : mI} {J : mJ} {F : mF}
theorem Vx.old {p : Program} {R : Room} {s : State} {m : MethodId} {meth : Method} {c : Code} {H : Heap} {locs : List Loc} {cells slots : Nat} {ls : Array Slot} (X : Vx g M d bc bs L T n I J F p R s m meth c H locs cells slots ls) : ∀ a : Nat, a < (gs g).heap.size → ¬ mA g a → H[a]? = (gs g).heap[a]? := fun a h _ => X.hp.2.2.1 a h
theorem V.ldcS {idx a : Nat} {tx : String} (hR : Glob g → vk_R M.1.cls idx tx a (gs g)) (hd : decode M.2.1 pc = .ok (.ldc idx, 2)) (kk : V g M d Q bc bs (pc + 2) L (.ref a :: st) T n I J F) : V g M d Q bc bs pc L st T n I J F := fun p e R s m args below meth c H locs cells slots ls X =>
  va_ldcS X.ex X.cd X.own (vk_R.warm X.wm (hR X.gl)) hd (kk p e R s m args below meth c H locs cells slots ls X)
theorem V.getO {o nm ds : String} {a idx : Nat} {v : Value} (hE : Glob g → va_OF o nm ds v a (mA g) (gs g) (gs g).heap) (hl : Cond.fieldLink M.1.cls idx o nm ds ∈ lw_tbl) (hd : decode M.2.1 pc = .ok (.getfield idx, 3)) (kk : V g M d Q bc bs (pc + 3) L (v :: st) T n I J F) : V g M d Q bc bs pc L (.ref a :: st) T n I J F := by
  intro p e R s m args below meth c H locs cells slots ls X
  obtain ⟨cf, k, fi, f, cell, h1, h2, h3, h4, h5, h6⟩ := ((hE X.gl).moved X.wm.alike).kept X.old
  exact W.getf X.ex X.cd X.own (X.w hl rfl args) h1 h2 h3 h4 (v := v) h5 rfl rfl hd (kk p e R s m args below meth c H locs cells slots ls X)
theorem V.getZ {o nm ds : String} {idx : Nat} {v : Value} (hE : Glob g → va_Z o nm ds v (mA g) (gs g) (gs g).heap) (hl : Cond.fieldLink M.1.cls idx o nm ds ∈ lw_tbl) (hd : decode M.2.1 pc = .ok (.getstatic idx, 3)) (kk : V g M d Q bc bs (pc + 3) L (v :: st) T n I J F) : V g M d Q bc bs pc L st T n I J F := by
  intro p e R s m args below meth c H locs cells slots ls X
  obtain ⟨cf, kf, fi, f, a, cell, h1, h2, h3, h4, h5, h6, h7, h8⟩ := ((hE X.gl).moved X.wm.alike).kept X.old
  exact W.gets X.ex X.cd X.own (X.w hl rfl args) h1 h2 h3 h4 h5 (fun e => by rw [e] at h6; cases h6) h7 rfl hd (kk p e R s m args below meth c H locs cells slots ls X)
theorem V.getZq {o nm ds : String} {idx : Nat} (hE : Glob g → va_Zq o nm ds (mA g) (gs g) (gs g).heap) (hl : Cond.fieldLink M.1.cls idx o nm ds ∈ lw_tbl) (hd : decode M.2.1 pc = .ok (.getstatic idx, 3)) (kk : ∀ b : Option Nat, V g M d Q bc bs (pc + 3) L (va_rf b :: st) T n I J F) : V g M d Q bc bs pc L st T n I J F := by
  intro p e R s m args below meth c H locs cells slots ls X
  rcases hE X.gl with h | ⟨t, h⟩
  · exact V.getZ (v := .null) (fun _ => h) hl hd (kk none) p e R s m args below meth c H locs cells slots ls X
  · exact V.getZ (v := .ref t) (fun _ => h) hl hd (kk (some t)) p e R s m args below meth c H locs cells slots ls X
theorem V.lenT {ty : FieldType} {t N : Nat} {f : Nat → Value} (hT : Glob g → va_T ty t N f (mA g) (gs g) (gs g).heap) (hd : decode M.2.1 pc = .ok (.arraylength, 1)) (kk : V g M d Q bc bs (pc + 1) L (.int (nI N) :: st) T n I J F) : V g M d Q bc bs pc L (.ref t :: st) T n I J F := by
  intro p e R s m args below meth c H locs cells slots ls X
  obtain ⟨cell, h1, h2, h3, h4, h5, h6, h7⟩ := ((hT X.gl).moved X.wm.alike).kept X.old
  exact W.alen (n := nI N) X.ex X.cd h1 h2 h5 rfl rfl hd (kk p e R s m args below meth c H locs cells slots ls X)
theorem V.baldT {t N k : Nat} {f : Nat → Value} {v : Value} (hT : Glob g → va_T .byte t N f (mA g) (gs g) (gs g).heap) (hk : k < N) (hN : N < 2 ^ 31) (hv : f k = v) (hd : decode M.2.1 pc = .ok (.baload, 1)) (kk : V g M d Q bc bs (pc + 1) L (v :: st) T n I J F) : V g M d Q bc bs pc L (.int (nI k) :: .ref t :: st) T n I J F := by
  intro p e R s m args below meth c H locs cells slots ls X
  obtain ⟨cell, h1, h2, h3, h4, h5, h6, h7⟩ := ((hT X.gl).moved X.wm.alike).kept X.old
  have e1 : (nI k).toNatClampNeg = k := nI_clamp (by omega)
  exact W.bald X.ex X.cd h1 h2 h3 (by rintro (q | q); exact nI_pos (by omega) q; rw [e1] at q; omega) (by rw [e1, h6 k hk, hv]) rfl rfl hd (kk p e R s m args below meth c H locs cells slots ls X)
theorem V.i2c {x v : Int32} (hd : decode M.2.1 pc = .ok (.i2c, 1)) (hv : (x.toUInt32 % 65536).toInt32 = v) (kk : V g M d Q bc bs (pc + 1) L (.int v :: st) T n I J F) : V g M d Q bc bs pc L (.int x :: st) T n I J F := fun p e R s m args below meth c H locs cells slots ls X => lv_i2c X.ex X.cd hd hv (kk p e R s m args below meth c H locs cells slots ls X)
theorem V.nret {v : Int32} {ty : FieldType} (hd : decode M.2.1 pc = .ok (.ireturn, 1)) (hr : M.2.2.2 = some ty) (hx : narrow ty (.int v) = .int v) (hq : Q (some (.int v)) T n I J F) : V g M d Q bc bs pc L [.int v] T n I J F := fun p e R s m args below meth c H locs cells slots ls X =>
  W.widen (Nat.le_trans (Nat.le_add_right _ _) X.rm.1) (Nat.le_trans (Nat.le_add_right _ _) X.rm.2) (W.zret X.ex X.cd (X.rt.trans hr) hx (V.fin X hq) X.sk.2.2 hd X.lk)
/-- a call of a String constant's method -/
theorem V.pW {M' : mD} {idx d' b : Nat} {C : String} {as stk : List Value} {v : Value} (hd : decode M.2.1 pc = .ok (.invokevirtual idx, 3)) (hl : cL M.1.cls idx M') (hb : cB M' as.length) (hin : Cond.instanceMethod M'.1 ∈ lw_tbl) (hsl : Cond.selects C M'.1 M'.1 ∈ lw_tbl) (hO : Glob g → va_O C b (mA g) (gs g) (gs g).heap) (hC : Ct g M' d' (.ref b :: as) 0 0 T n I J F (pureQ T n I J F (some v))) (hdd : d' + 1 ≤ d) (hst : stk = as.reverse ++ .ref b :: st) (h8 : (st.map fun v => v.category).sum ≤ 8)
    (kk : V g M d Q bc bs (pc + 3) L (v :: st) T n I J F) : V g M d Q bc bs pc L stk T n I J F := by
  intro p e R s m args below meth c H locs cells slots ls X
  have hrm := X.rm
  have hR : (mRm d' 0 0).frames + 1 ≤ R.frames ∧ 8 + (M'.2.2.1 + 11) + (mRm d' 0 0).locals ≤ R.locals := by
    rw [X.fr, X.lo]
    have := hb.2.2.2
    exact ⟨hdd, by show 8 + (M'.2.2.1 + 11) + 64 * d' ≤ 64 * d; omega⟩
  obtain ⟨cell, o1, o2, o3, o4⟩ := ((hO X.gl).moved X.wm.alike).kept X.old
  refine V.ofRun (a := (Value.ref b :: as).toArray) (mc := 0) (ms := 0) (rest := st) (Q1 := pureQ T n I J F (some v)) X ?_ ⟨rfl, rfl⟩ (by rintro r T' n' I' J' F' ⟨rfl, rfl, rfl, rfl, rfl, rfl⟩; exact kk)
  rcases hl with hl | ⟨host, hl⟩
  · exact va_runV (nL := M.2.2.1) (Ts := []) (C := C) ⟨X.ex, X.cd, X.ml, X.own, fun _ h => absurd h List.not_mem_nil⟩ (hC X.gl) ⟨⟨rfl, rfl, hR.1, hR.2, words_in X hb, List.mem_cons_self, X.w hb.1 rfl args, X.w hb.2.1 rfl args, ⟨hb.2.2.1.1, hb.2.2.1.2.1⟩, sig_in hb.2.2.1.2.2, X.w hl rfl args⟩, X.w hin rfl args, X.w hsl rfl args⟩ ⟨blind, ⟨cell, o1, o2, o3⟩, pre_in X (.ref b :: as)⟩ rfl rfl X.lc.1 hst (lv_room h8) hd ⟨by omega, by omega⟩
  · exact va_runVN (nL := M.2.2.1) (Ts := []) (C := C) ⟨X.ex, X.cd, X.ml, X.own, fun _ h => absurd h List.not_mem_nil⟩ (hC X.gl) ⟨⟨⟨rfl, rfl, hR.1, hR.2, words_in X hb, List.mem_cons_self⟩, X.w hb.1 rfl args, X.w hb.2.1 rfl args, ⟨hb.2.2.1.1, hb.2.2.1.2.1⟩, sig_in hb.2.2.1.2.2, nest_in X hl args⟩, X.w hin rfl args, X.w hsl rfl args⟩ ⟨blind, ⟨cell, o1, o2, o3⟩, pre_in X (.ref b :: as)⟩ rfl rfl X.lc.1 hst (lv_room h8) hd ⟨by omega, by omega⟩
end VSTR
section JST
variable {g : gG} {d : Nat} {T : mT} {n : Nat} {I : mI} {J : mJ} {F : mF} {aK aV : Nat → Nat} {i k : Nat}
theorem StrG.o (h : StrG g aK aV) (hi : i < 10) : va_O "java/lang/String" (aK i) (mA g) (gs g) (gs g).heap := (h.1.1 i hi).1
theorem StrG.c (h : StrG g aK aV) (hi : i < 10) : va_OF "java/lang/String" "coder" "B" (.int 0) (aK i) (mA g) (gs g) (gs g).heap := (h.1.1 i hi).2.1
theorem StrG.v (h : StrG g aK aV) (hi : i < 10) : va_OF "java/lang/String" "value" "[B" (.ref (aV i)) (aK i) (mA g) (gs g) (gs g).heap := (h.1.1 i hi).2.2.1
theorem StrG.t (h : StrG g aK aV) (hi : i < 10) : va_T .byte (aV i) (stL.getD i 0) (fun j => .int ((stB.getD i []).getD j 0)) (mA g) (gs g) (gs g).heap := (h.1.1 i hi).2.2.2
theorem j_coder (h : StrG g aK aV) (hi : i < 10) : Ct g mJ0_coder_7d493 (d + 0) [.ref (aK i)] 0 0 T n I J F (pureQ T n I J F (some (.int 0))) := by
  refine Ct.ofV (k := 0) (by decide) (Nat.le_of_ble_eq_true rfl) ?_
  show V g mJ0_coder_7d493 (d + 0) _ 0 0 0 [some (.ref (aK i))] [] T n I J F
  refine V.getZ (pc := 0) zcomp lf_38 dJ0_coder_7d493_0 ?_
  refine V.if_eq 13 (pc := 3) dJ0_coder_7d493_3 (by decide) (fun q => absurd q (by decide)) (fun _ => ?_)
  refine V.aload_n (pc := 6) dJ0_coder_7d493_6 rfl ?_
  refine V.getO (pc := 7) (fun _ => h.c hi) lf_15 dJ0_coder_7d493_7 ?_
  refine V.goto 14 (pc := 10) dJ0_coder_7d493_10 (by decide) ?_
  exact V.nret (pc := 14) dJ0_coder_7d493_14 rfl rfl ⟨rfl, rfl, rfl, rfl, rfl, rfl⟩
theorem j_latin (h : StrG g aK aV) (hi : i < 10) : Ct g mJ0_isLatin1_aae02 (d + 0) [.ref (aK i)] 0 0 T n I J F (pureQ T n I J F (some (.int 1))) := by
  refine Ct.ofV (k := 0) (by decide) (Nat.le_of_ble_eq_true rfl) ?_
  show V g mJ0_isLatin1_aae02 (d + 0) _ 0 0 0 [some (.ref (aK i))] [] T n I J F
  refine V.getZ (pc := 0) zcomp lf_38 dJ0_isLatin1_aae02_0 ?_
  refine V.if_eq 17 (pc := 3) dJ0_isLatin1_aae02_3 (by decide) (fun q => absurd q (by decide)) (fun _ => ?_)
  refine V.aload_n (pc := 6) dJ0_isLatin1_aae02_6 rfl ?_
  refine V.getO (pc := 7) (fun _ => h.c hi) lf_15 dJ0_isLatin1_aae02_7 ?_
  refine V.if_ne 17 (pc := 10) dJ0_isLatin1_aae02_10 (by decide) (fun q => absurd rfl q) (fun _ => ?_)
  refine V.iconst (v := 1) (pc := 13) dJ0_isLatin1_aae02_13 (by decide) ?_
  refine V.goto 18 (pc := 14) dJ0_isLatin1_aae02_14 (by decide) ?_
  exact V.nret (pc := 18) dJ0_isLatin1_aae02_18 rfl rfl ⟨rfl, rfl, rfl, rfl, rfl, rfl⟩
theorem j_length (h : StrG g aK aV) (hi : i < 10) : Ct g mJ0_length_8abf5 (d + 1) [.ref (aK i)] 0 0 T n I J F (pureQ T n I J F (some (.int (nI (stL.getD i 0))))) := by
  refine Ct.ofV (k := 0) (by decide) (Nat.le_of_ble_eq_true rfl) ?_
  show V g mJ0_length_8abf5 (d + 1) _ 0 0 0 [some (.ref (aK i))] [] T n I J F
  refine V.aload_n (pc := 0) dJ0_length_8abf5_0 rfl ?_
  refine V.getO (pc := 1) (fun _ => h.v hi) lf_9 dJ0_length_8abf5_1 ?_
  refine V.lenT (pc := 4) (fun _ => h.t hi) dJ0_length_8abf5_4 ?_
  refine V.aload_n (pc := 5) dJ0_length_8abf5_5 rfl ?_
  refine V.pW (as := []) (pc := 6) dJ0_length_8abf5_6 ljJ0_335 bJ0_coder_7d493 nJ0_coder_7d493 eJ0_coder_7d493 (fun _ => h.o hi) (j_coder (d := d) h hi) (by omega) rfl (Nat.le_of_ble_eq_true rfl) ?_
  refine V.ishr (pc := 9) dJ0_length_8abf5_9 ?_
  rw [sc_shr0 (Nat.lt_trans (st_lens i hi) (by decide))]
  exact V.iret (pc := 10) dJ0_length_8abf5_10 rfl ⟨rfl, rfl, rfl, rfl, rfl, rfl⟩
theorem j_pre {N : Nat} {b : Option Nat} (hk : k < N) (hN : N < 2 ^ 31) : Ct g mJ3_checkIndex_8e157 (d + 0) [.int (nI k), .int (nI N), va_rf b] 0 0 T n I J F (pureQ T n I J F (some (.int (nI k)))) := by
  have key : ∀ w : Value, w.category = 1 → (lg_sl [Value.int (nI k), Value.int (nI N), w]).length ≤ 3 → entL [Value.int (nI k), Value.int (nI N), w] = [some (.int (nI k)), some (.int (nI N)), some w] → Ct g mJ3_checkIndex_8e157 (d + 0) [.int (nI k), .int (nI N), w] 0 0 T n I J F (pureQ T n I J F (some (.int (nI k)))) := by
    intro w hw h1 h2
    refine Ct.ofV (k := 0) (by decide) h1 ?_
    show V g mJ3_checkIndex_8e157 (d + 0) _ 0 0 0 (entL [Value.int (nI k), Value.int (nI N), w] ++ []) [] T n I J F
    rw [List.append_nil, h2]
    refine V.iload_n (pc := 0) dJ3_checkIndex_8e157_0 rfl ?_
    refine V.if_lt 9 (pc := 1) dJ3_checkIndex_8e157_1 (by decide) (fun q => absurd q (nI_pos (by omega))) (fun _ => ?_)
    refine V.iload_n (pc := 4) dJ3_checkIndex_8e157_4 rfl ?_
    refine V.iload_n (pc := 5) dJ3_checkIndex_8e157_5 rfl ?_
    refine V.icmp_lt 16 (pc := 6) dJ3_checkIndex_8e157_6 (by decide) (fun _ => ?_) (fun q => absurd (nI_lt hk (by omega)) q)
    refine V.iload_n (pc := 16) dJ3_checkIndex_8e157_16 rfl ?_
    exact V.iret (pc := 17) dJ3_checkIndex_8e157_17 rfl ⟨rfl, rfl, rfl, rfl, rfl, rfl⟩
  cases b with
  | none => exact key .null rfl (Nat.le_of_ble_eq_true rfl) rfl
  | some t => exact key (.ref t) rfl (Nat.le_of_ble_eq_true rfl) rfl
theorem j_check {N : Nat} (hk : k < N) (hN : N < 2 ^ 31) : Ct g mJ0_checkIndex_df160 (d + 1) [.int (nI k), .int (nI N)] 0 0 T n I J F (fun r' T' n' I' J' F' => r' = none ∧ T' = T ∧ n' = n ∧ I' = I ∧ J' = J ∧ F' = F) := by
  refine Ct.ofV (k := 0) (by decide) (Nat.le_of_ble_eq_true rfl) ?_
  show V g mJ0_checkIndex_df160 (d + 1) _ 0 0 0 [some (.int (nI k)), some (.int (nI N))] [] T n I J F
  refine V.iload_n (pc := 0) dJ0_checkIndex_df160_0 rfl ?_
  refine V.iload_n (pc := 1) dJ0_checkIndex_df160_1 rfl ?_
  refine V.getZq (pc := 2) zsio lf_1053 dJ0_checkIndex_df160_2 (fun b => ?_)
  refine V.pS (as := [.int (nI k), .int (nI N), va_rf b]) (pc := 5) dJ0_checkIndex_df160_5 ljJ0_1059 bJ3_checkIndex_8e157 sJ3_checkIndex_8e157 (j_pre (d := d) hk hN) (by omega) rfl (Nat.le_of_ble_eq_true rfl) ?_
  refine V.pop (pc := 8) dJ0_checkIndex_df160_8 rfl ?_
  exact V.vret (pc := 9) dJ0_checkIndex_df160_9 rfl ⟨rfl, rfl, rfl, rfl, rfl, rfl⟩
theorem j_chL (h : StrG g aK aV) (hi : i < 10) (hk : k < stL.getD i 0) : Ct g mJ1_charAt_3b067 (d + 2) [.ref (aV i), .int (nI k)] 0 0 T n I J F (pureQ T n I J F (some (.int (nI ((stN.getD i []).getD k 0))))) := by
  have hN : stL.getD i 0 < 2 ^ 31 := Nat.lt_trans (st_lens i hi) (by decide)
  refine Ct.ofV (k := 0) (by decide) (Nat.le_of_ble_eq_true rfl) ?_
  show V g mJ1_charAt_3b067 (d + 2) _ 0 0 0 [some (.ref (aV i)), some (.int (nI k))] [] T n I J F
  refine V.iload_n (pc := 0) dJ1_charAt_3b067_0 rfl ?_
  refine V.aload_n (pc := 1) dJ1_charAt_3b067_1 rfl ?_
  refine V.lenT (pc := 2) (fun _ => h.t hi) dJ1_charAt_3b067_2 ?_
  refine V.invS0 (as := [_, _]) (pc := 3) dJ1_charAt_3b067_3 ljJ1_9 bJ0_checkIndex_df160 sJ0_checkIndex_df160 (j_check (d := d) hk hN) (by omega) rfl (Nat.le_of_ble_eq_true rfl) ?_
  rintro _ _ _ _ _ _ ⟨rfl, rfl, rfl, rfl, rfl, rfl⟩
  refine V.aload_n (pc := 6) dJ1_charAt_3b067_6 rfl ?_
  refine V.iload_n (pc := 7) dJ1_charAt_3b067_7 rfl ?_
  refine V.baldT (pc := 8) (fun _ => h.t hi) hk hN rfl dJ1_charAt_3b067_8 ?_
  refine V.sipush (v := 255) (pc := 9) dJ1_charAt_3b067_9 (by decide) ?_
  refine V.iand (pc := 12) dJ1_charAt_3b067_12 ?_
  refine V.i2c (pc := 13) dJ1_charAt_3b067_13 (sc_c2 _) ?_
  exact V.nret (pc := 14) dJ1_charAt_3b067_14 rfl (sc_nar _) ⟨by rw [st_bytes i hi k hk], rfl, rfl, rfl, rfl, rfl⟩
theorem j_charAt (h : StrG g aK aV) (hi : i < 10) (hk : k < stL.getD i 0) : Ct g mJ0_charAt_5068e (d + 3) [.ref (aK i), .int (nI k)] 0 0 T n I J F (pureQ T n I J F (some (.int (nI ((stN.getD i []).getD k 0))))) := by
  refine Ct.ofV (k := 0) (by decide) (Nat.le_of_ble_eq_true rfl) ?_
  show V g mJ0_charAt_5068e (d + 3) _ 0 0 0 [some (.ref (aK i)), some (.int (nI k))] [] T n I J F
  refine V.aload_n (pc := 0) dJ0_charAt_5068e_0 rfl ?_
  refine V.pW (as := []) (pc := 1) dJ0_charAt_5068e_1 ljJ0_492 bJ0_isLatin1_aae02 nJ0_isLatin1_aae02 eJ0_isLatin1_aae02 (fun _ => h.o hi) (j_latin (d := d) h hi) (by omega) rfl (Nat.le_of_ble_eq_true rfl) ?_
  refine V.if_eq 16 (pc := 4) dJ0_charAt_5068e_4 (by decide) (fun q => absurd q (by decide)) (fun _ => ?_)
  refine V.aload_n (pc := 7) dJ0_charAt_5068e_7 rfl ?_
  refine V.getO (pc := 8) (fun _ => h.v hi) lf_9 dJ0_charAt_5068e_8 ?_
  refine V.iload_n (pc := 11) dJ0_charAt_5068e_11 rfl ?_
  refine V.pS (as := [_, _]) (pc := 12) dJ0_charAt_5068e_12 ljJ0_495 bJ1_charAt_3b067 sJ1_charAt_3b067 (j_chL (d := d) h hi hk) (by omega) rfl (Nat.le_of_ble_eq_true rfl) ?_
  exact V.nret (pc := 15) dJ0_charAt_5068e_15 rfl (by rw [← st_bytes i hi k hk]; exact sc_nar _) ⟨rfl, rfl, rfl, rfl, rfl, rfl⟩
end JST
