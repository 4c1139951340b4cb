theorem dJ0_length_8abf5_0 : decode cJ0_length_8abf5 0 = .ok (.aload_n 0, 1) := by decide +kernel
theorem dJ0_length_8abf5_1 : decode cJ0_length_8abf5 1 = .ok (.getfield 9, 3) := by decide +kernel
theorem dJ0_length_8abf5_4 : decode cJ0_length_8abf5 4 = .ok (.arraylength, 1) := by decide +kernel
theorem dJ0_length_8abf5_5 : decode cJ0_length_8abf5 5 = .ok (.aload_n 0, 1) := by decide +kernel
theorem dJ0_length_8abf5_6 : decode cJ0_length_8abf5 6 = .ok (.invokevirtual 335, 3) := by decide +kernel
theorem dJ0_length_8abf5_9 : decode cJ0_length_8abf5 9 = .ok (.ishr, 1) := by decide +kernel
theorem dJ0_length_8abf5_10 : decode cJ0_length_8abf5 10 = .ok (.ireturn, 1) := by decide +kernel
theorem dJ0_charAt_5068e_0 : decode cJ0_charAt_5068e 0 = .ok (.aload_n 0, 1) := by decide +kernel
theorem dJ0_charAt_5068e_1 : decode cJ0_charAt_5068e 1 = .ok (.invokevirtual 492, 3) := by decide +kernel
theorem dJ0_charAt_5068e_4 : decode cJ0_charAt_5068e 4 = .ok (.ifCond .eq 12, 3) := by decide +kernel
theorem dJ0_charAt_5068e_7 : decode cJ0_charAt_5068e 7 = .ok (.aload_n 0, 1) := by decide +kernel
theorem dJ0_charAt_5068e_8 : decode cJ0_charAt_5068e 8 = .ok (.getfield 9, 3) := by decide +kernel
theorem dJ0_charAt_5068e_11 : decode cJ0_charAt_5068e 11 = .ok (.iload_n 1, 1) := by decide +kernel
theorem dJ0_charAt_5068e_12 : decode cJ0_charAt_5068e 12 = .ok (.invokestatic 495, 3) := by decide +kernel
theorem dJ0_charAt_5068e_15 : decode cJ0_charAt_5068e 15 = .ok (.ireturn, 1) := by decide +kernel
theorem dJ0_charAt_5068e_16 : decode cJ0_charAt_5068e 16 = .ok (.aload_n 0, 1) := by decide +kernel
theorem dJ0_charAt_5068e_17 : decode cJ0_charAt_5068e 17 = .ok (.getfield 9, 3) := by decide +kernel
theorem dJ0_charAt_5068e_20 : decode cJ0_charAt_5068e 20 = .ok (.iload_n 1, 1) := by decide +kernel
theorem dJ0_charAt_5068e_21 : decode cJ0_charAt_5068e 21 = .ok (.invokestatic 498, 3) := by decide +kernel
theorem dJ0_charAt_5068e_24 : decode cJ0_charAt_5068e 24 = .ok (.ireturn, 1) := by decide +kernel
theorem dJ0_coder_7d493_0 : decode cJ0_coder_7d493 0 = .ok (.getstatic 38, 3) := by decide +kernel
theorem dJ0_coder_7d493_3 : decode cJ0_coder_7d493 3 = .ok (.ifCond .eq 10, 3) := by decide +kernel
theorem dJ0_coder_7d493_6 : decode cJ0_coder_7d493 6 = .ok (.aload_n 0, 1) := by decide +kernel
theorem dJ0_coder_7d493_7 : decode cJ0_coder_7d493 7 = .ok (.getfield 15, 3) := by decide +kernel
theorem dJ0_coder_7d493_10 : decode cJ0_coder_7d493 10 = .ok (.goto 4, 3) := by decide +kernel
theorem dJ0_coder_7d493_13 : decode cJ0_coder_7d493 13 = .ok (.iconst 1, 1) := by decide +kernel
theorem dJ0_coder_7d493_14 : decode cJ0_coder_7d493 14 = .ok (.ireturn, 1) := by decide +kernel
theorem dJ0_isLatin1_aae02_0 : decode cJ0_isLatin1_aae02 0 = .ok (.getstatic 38, 3) := by decide +kernel
theorem dJ0_isLatin1_aae02_3 : decode cJ0_isLatin1_aae02 3 = .ok (.ifCond .eq 14, 3) := by decide +kernel
theorem dJ0_isLatin1_aae02_6 : decode cJ0_isLatin1_aae02 6 = .ok (.aload_n 0, 1) := by decide +kernel
theorem dJ0_isLatin1_aae02_7 : decode cJ0_isLatin1_aae02 7 = .ok (.getfield 15, 3) := by decide +kernel
theorem dJ0_isLatin1_aae02_10 : decode cJ0_isLatin1_aae02 10 = .ok (.ifCond .ne 7, 3) := by decide +kernel
theorem dJ0_isLatin1_aae02_13 : decode cJ0_isLatin1_aae02 13 = .ok (.iconst 1, 1) := by decide +kernel
theorem dJ0_isLatin1_aae02_14 : decode cJ0_isLatin1_aae02 14 = .ok (.goto 4, 3) := by decide +kernel
theorem dJ0_isLatin1_aae02_17 : decode cJ0_isLatin1_aae02 17 = .ok (.iconst 0, 1) := by decide +kernel
theorem dJ0_isLatin1_aae02_18 : decode cJ0_isLatin1_aae02 18 = .ok (.ireturn, 1) := by decide +kernel
theorem dJ0_checkIndex_df160_0 : decode cJ0_checkIndex_df160 0 = .ok (.iload_n 0, 1) := by decide +kernel
theorem dJ0_checkIndex_df160_1 : decode cJ0_checkIndex_df160 1 = .ok (.iload_n 1, 1) := by decide +kernel
theorem dJ0_checkIndex_df160_2 : decode cJ0_checkIndex_df160 2 = .ok (.getstatic 1053, 3) := by decide +kernel
theorem dJ0_checkIndex_df160_5 : decode cJ0_checkIndex_df160 5 = .ok (.invokestatic 1059, 3) := by decide +kernel
theorem dJ0_checkIndex_df160_8 : decode cJ0_checkIndex_df160 8 = .ok (.pop, 1) := by decide +kernel
theorem dJ0_checkIndex_df160_9 : decode cJ0_checkIndex_df160 9 = .ok (.return_, 1) := by decide +kernel
theorem dJ1_charAt_3b067_0 : decode cJ1_charAt_3b067 0 = .ok (.iload_n 1, 1) := by decide +kernel
theorem dJ1_charAt_3b067_1 : decode cJ1_charAt_3b067 1 = .ok (.aload_n 0, 1) := by decide +kernel
theorem dJ1_charAt_3b067_2 : decode cJ1_charAt_3b067 2 = .ok (.arraylength, 1) := by decide +kernel
theorem dJ1_charAt_3b067_3 : decode cJ1_charAt_3b067 3 = .ok (.invokestatic 9, 3) := by decide +kernel
theorem dJ1_charAt_3b067_6 : decode cJ1_charAt_3b067 6 = .ok (.aload_n 0, 1) := by decide +kernel
theorem dJ1_charAt_3b067_7 : decode cJ1_charAt_3b067 7 = .ok (.iload_n 1, 1) := by decide +kernel
theorem dJ1_charAt_3b067_8 : decode cJ1_charAt_3b067 8 = .ok (.baload, 1) := by decide +kernel
theorem dJ1_charAt_3b067_9 : decode cJ1_charAt_3b067 9 = .ok (.sipush 255, 3) := by decide +kernel
theorem dJ1_charAt_3b067_12 : decode cJ1_charAt_3b067 12 = .ok (.iand, 1) := by decide +kernel
theorem dJ1_charAt_3b067_13 : decode cJ1_charAt_3b067 13 = .ok (.i2c, 1) := by decide +kernel
theorem dJ1_charAt_3b067_14 : decode cJ1_charAt_3b067 14 = .ok (.ireturn, 1) := by decide +kernel
theorem dJ3_checkIndex_8e157_0 : decode cJ3_checkIndex_8e157 0 = .ok (.iload_n 0, 1) := by decide +kernel
theorem dJ3_checkIndex_8e157_1 : decode cJ3_checkIndex_8e157 1 = .ok (.ifCond .lt 8, 3) := by decide +kernel
theorem dJ3_checkIndex_8e157_4 : decode cJ3_checkIndex_8e157 4 = .ok (.iload_n 0, 1) := by decide +kernel
theorem dJ3_checkIndex_8e157_5 : decode cJ3_checkIndex_8e157 5 = .ok (.iload_n 1, 1) := by decide +kernel
theorem dJ3_checkIndex_8e157_6 : decode cJ3_checkIndex_8e157 6 = .ok (.if_icmp .lt 10, 3) := by decide +kernel
theorem dJ3_checkIndex_8e157_9 : decode cJ3_checkIndex_8e157 9 = .ok (.aload_n 2, 1) := by decide +kernel
theorem dJ3_checkIndex_8e157_10 : decode cJ3_checkIndex_8e157 10 = .ok (.iload_n 0, 1) := by decide +kernel
theorem dJ3_checkIndex_8e157_11 : decode cJ3_checkIndex_8e157 11 = .ok (.iload_n 1, 1) := by decide +kernel
theorem dJ3_checkIndex_8e157_12 : decode cJ3_checkIndex_8e157 12 = .ok (.invokestatic 95, 3) := by decide +kernel
theorem dJ3_checkIndex_8e157_15 : decode cJ3_checkIndex_8e157 15 = .ok (.athrow, 1) := by decide +kernel
theorem dJ3_checkIndex_8e157_16 : decode cJ3_checkIndex_8e157 16 = .ok (.iload_n 0, 1) := by decide +kernel
theorem dJ3_checkIndex_8e157_17 : decode cJ3_checkIndex_8e157 17 = .ok (.ireturn, 1) := by decide +kernel
theorem lkCS : Cond.fieldLink RJ0 38 "java/lang/String" "COMPACT_STRINGS" "Z" ∈ lw_tbl := tb_at 406 (by decide +kernel)
theorem lkFM : Cond.fieldLink RJ0 1053 "jdk/internal/util/Preconditions" "SIOOBE_FORMATTER" "Ljava/util/function/BiFunction;" ∈ lw_tbl := tb_at 422 (by decide +kernel)
theorem lkVA : Cond.fieldLink RJ0 9 "java/lang/String" "value" "[B" ∈ lw_tbl := tb_at 1145 (by decide +kernel)
theorem gchr : ∀ i, i < 5 → ∀ j, j < glen.getD i 0 → narrow .char (.int ((gbyt.getD i []).getD j 0)) = .int ((gbyt.getD i []).getD j 0) ∧ (((gbyt.getD i []).getD j 0 &&& 255).toUInt32 % 65536).toInt32 = (gbyt.getD i []).getD j 0 := by
  intro i hi
  rcases (show i = 0 ∨ i = 1 ∨ i = 2 ∨ i = 3 ∨ i = 4 by omega) with rfl | rfl | rfl | rfl | rfl <;> decide +kernel
theorem lkCO : Cond.fieldLink RJ0 15 "java/lang/String" "coder" "B" ∈ lw_tbl := tb_at 1146 (by decide +kernel)
set_option maxHeartbeats 4000000 in
theorem r_coder {fl : Bool} {d : Nat} {h : GH} {i : Nat} (hi : i < 5) : gR fl (d + 1) yJ0_coder_7d493 [.ref (1000000 + i)] h (.int 0) := by
  refine gN.of MJ0_coder_7d493 (Nat.le_of_ble_eq_true rfl) (fun J n hJ => ?_)
  show J 0 [some (.ref (1000000 + i))] [] h (n, 0, 0, fl)
  refine hJ 39 0 38 3 _ _ _ _ dJ0_coder_7d493_0 rfl lkCS ?_
  refine j_if_eq (nx := 6) (tgt := 13) hJ dJ0_coder_7d493_3 rfl (by decide) (fun c3 => absurd c3 (by decide)) (fun c3 => ?_)
  refine j_p (nx := 7) hJ dJ0_coder_7d493_6 rfl rfl ?_
  refine hJ 41 7 15 10 i _ _ _ _ dJ0_coder_7d493_7 rfl lkCO hi ?_
  refine j_go (tgt := 14) hJ dJ0_coder_7d493_10 (by decide) ?_
  exact hJ 36 _ _ _ _ _ dJ0_coder_7d493_14 ⟨.byte, rfl, rfl⟩ ⟨rfl, rfl, rfl⟩
set_option maxHeartbeats 4000000 in
theorem r_isLatin1 {fl : Bool} {d : Nat} {h : GH} {i : Nat} (hi : i < 5) : gR fl (d + 1) yJ0_isLatin1_aae02 [.ref (1000000 + i)] h (.int 1) := by
  refine gN.of MJ0_isLatin1_aae02 (Nat.le_of_ble_eq_true rfl) (fun J n hJ => ?_)
  show J 0 [some (.ref (1000000 + i))] [] h (n, 0, 0, fl)
  refine hJ 39 0 38 3 _ _ _ _ dJ0_isLatin1_aae02_0 rfl lkCS ?_
  refine j_if_eq (nx := 6) (tgt := 17) hJ dJ0_isLatin1_aae02_3 rfl (by decide) (fun c3 => absurd c3 (by decide)) (fun c3 => ?_)
  refine j_p (nx := 7) hJ dJ0_isLatin1_aae02_6 rfl rfl ?_
  refine hJ 41 7 15 10 i _ _ _ _ dJ0_isLatin1_aae02_7 rfl lkCO hi ?_
  refine j_if_ne (nx := 13) (tgt := 17) hJ dJ0_isLatin1_aae02_10 rfl (by decide) (fun c10 => absurd c10 (fun q => q rfl)) (fun c10 => ?_)
  refine j_c (nx := 14) hJ dJ0_isLatin1_aae02_13 rfl gk_iconst_1 ?_
  refine j_go (tgt := 18) hJ dJ0_isLatin1_aae02_14 (by decide) ?_
  exact j_zret hJ true dJ0_isLatin1_aae02_18 rfl ⟨rfl, rfl⟩
set_option maxHeartbeats 4000000 in
theorem r_strlen {fl : Bool} {d : Nat} {h : GH} {i : Nat} (hi : i < 5) : gR fl (d + 2) yJ0_length_8abf5 [.ref (1000000 + i)] h (.int (nI (glen.getD i 0))) := by
  refine gN.of MJ0_length_8abf5 (Nat.le_of_ble_eq_true rfl) (fun J n hJ => ?_)
  show J 0 [some (.ref (1000000 + i))] [] h (n, 0, 0, fl)
  refine j_p (nx := 1) hJ dJ0_length_8abf5_0 rfl rfl ?_
  refine hJ 42 1 9 4 i _ _ _ _ dJ0_length_8abf5_1 rfl lkVA hi ?_
  refine hJ 43 4 5 i _ _ _ _ dJ0_length_8abf5_4 rfl hi ?_
  refine j_p (nx := 6) hJ dJ0_length_8abf5_5 rfl rfl ?_
  refine j_cvS (nx := 9) hJ dJ0_length_8abf5_6 rfl (r_coder (fl := fl) (d := d) hi) mJ0_335 hi rfl rfl (gle8 rfl) ?_
  refine j_p (nx := 10) hJ dJ0_length_8abf5_9 rfl rfl ?_
  refine j_iret hJ dJ0_length_8abf5_10 ⟨?_, rfl⟩
  rcases (show i = 0 ∨ i = 1 ∨ i = 2 ∨ i = 3 ∨ i = 4 by omega) with rfl | rfl | rfl | rfl | rfl <;> decide
set_option maxHeartbeats 4000000 in
theorem r_preCheck {fl : Bool} {d : Nat} {h : GH} {j n9 : Nat} (hj : j < n9) (hn : n9 ≤ 1000) (f : Value) (hf : f = .null ∨ f = .ref 1000200) : gR fl (d + 1) yJ3_checkIndex_8e157 [.int (nI j), .int (nI n9), f] h (.int (nI j)) := by
  refine gN.of MJ3_checkIndex_8e157 (by rcases hf with rfl | rfl <;> exact Nat.le_of_ble_eq_true rfl) (fun J n hJ => ?_)
  have e0 : gent [.int (nI j), .int (nI n9), f] 3 = [some (.int (nI j)), some (.int (nI n9)), some f] := by rcases hf with rfl | rfl <;> rfl
  rw [e0]
  refine j_p (nx := 1) hJ dJ3_checkIndex_8e157_0 rfl rfl ?_
  refine j_if_lt (nx := 4) (tgt := 9) hJ dJ3_checkIndex_8e157_1 rfl (by decide) (fun c1 => absurd c1 (by rw [gcz0, nI_toInt (by omega)]; omega)) (fun c1 => ?_)
  refine j_p (nx := 5) hJ dJ3_checkIndex_8e157_4 rfl rfl ?_
  refine j_p (nx := 6) hJ dJ3_checkIndex_8e157_5 rfl rfl ?_
  refine j_ic_lt (nx := 9) (tgt := 16) hJ dJ3_checkIndex_8e157_6 rfl (by decide) (fun c6 => ?_) (fun c6 => absurd c6 (fun q => q ((gnlt (by omega) (by omega)).mpr hj)))
  refine j_p (nx := 17) hJ dJ3_checkIndex_8e157_16 rfl rfl ?_
  exact j_iret hJ dJ3_checkIndex_8e157_17 ⟨rfl, rfl⟩
set_option maxHeartbeats 4000000 in
theorem r_strCheck {fl : Bool} {d : Nat} {h : GH} {j n9 : Nat} (hj : j < n9) (hn : n9 ≤ 1000) : gN fl (d + 2) yJ0_checkIndex_df160 [.int (nI j), .int (nI n9)] h (fun o h' => o = none ∧ h' = h) := by
  refine gN.of MJ0_checkIndex_df160 (Nat.le_of_ble_eq_true rfl) (fun J n hJ => ?_)
  show J 0 [some (.int (nI j)), some (.int (nI n9))] [] h (n, 0, 0, fl)
  refine j_p (nx := 1) hJ dJ0_checkIndex_df160_0 rfl rfl ?_
  refine j_p (nx := 2) hJ dJ0_checkIndex_df160_1 rfl rfl ?_
  refine hJ 40 2 1053 5 _ _ _ _ dJ0_checkIndex_df160_2 rfl lkFM ?_ ?_
  · refine j_csR (nx := 8) hJ dJ0_checkIndex_df160_5 rfl (r_preCheck (fl := fl) (d := d) hj hn .null (by simp)) mJ0_1059 rfl (gle8 rfl) ?_
    refine j_p (nx := 9) hJ dJ0_checkIndex_df160_8 rfl rfl ?_
    exact j_vret hJ dJ0_checkIndex_df160_9 ⟨rfl, rfl⟩
  · refine j_csR (nx := 8) hJ dJ0_checkIndex_df160_5 rfl (r_preCheck (fl := fl) (d := d) hj hn (.ref 1000200) (by simp)) mJ0_1059 rfl (gle8 rfl) ?_
    refine j_p (nx := 9) hJ dJ0_checkIndex_df160_8 rfl rfl ?_
    exact j_vret hJ dJ0_checkIndex_df160_9 ⟨rfl, rfl⟩
set_option maxHeartbeats 4000000 in
theorem r_latCharAt {fl : Bool} {d : Nat} {h : GH} {i : Nat} (hi : i < 5) {j : Nat} (hj : j < glen.getD i 0) : gR fl (d + 3) yJ1_charAt_3b067 [.ref (1000100 + i), .int (nI j)] h (.int ((gbyt.getD i []).getD j 0)) := by
  have hn : glen.getD i 0 ≤ 1000 := by rcases (show i = 0 ∨ i = 1 ∨ i = 2 ∨ i = 3 ∨ i = 4 by omega) with rfl | rfl | rfl | rfl | rfl <;> decide
  refine gN.of MJ1_charAt_3b067 (Nat.le_of_ble_eq_true rfl) (fun J n hJ => ?_)
  show J 0 [some (.ref (1000100 + i)), some (.int (nI j))] [] h (n, 0, 0, fl)
  refine j_p (nx := 1) hJ dJ1_charAt_3b067_0 rfl rfl ?_
  refine j_p (nx := 2) hJ dJ1_charAt_3b067_1 rfl rfl ?_
  refine hJ 43 2 3 i _ _ _ _ dJ1_charAt_3b067_2 rfl hi ?_
  refine j_cs (nx := 6) hJ dJ1_charAt_3b067_3 rfl (r_strCheck (fl := fl) (d := d) hj hn) mJ1_9 rfl (gle8 rfl) (fun o h1 hp => ?_)
  obtain ⟨rfl, rfl⟩ := hp
  refine j_p (nx := 7) hJ dJ1_charAt_3b067_6 rfl rfl ?_
  refine j_p (nx := 8) hJ dJ1_charAt_3b067_7 rfl rfl ?_
  refine hJ 44 8 9 i j _ _ _ _ dJ1_charAt_3b067_8 rfl hi hj ?_
  refine j_c (nx := 12) hJ dJ1_charAt_3b067_9 rfl gk_sipush_255 ?_
  refine j_p (nx := 13) hJ dJ1_charAt_3b067_12 rfl rfl ?_
  refine j_p (nx := 14) hJ dJ1_charAt_3b067_13 rfl rfl ?_
  refine hJ 36 _ _ _ _ _ dJ1_charAt_3b067_14 ⟨.char, rfl, ?_⟩ ⟨rfl, ?_, rfl⟩
  · exact (congrArg (fun z => narrow .char (.int z)) (gchr i hi j hj).2).trans ((gchr i hi j hj).1.trans (congrArg Value.int (gchr i hi j hj).2.symm))
  · exact congrArg (fun z => some (Value.int z)) (gchr i hi j hj).2
set_option maxHeartbeats 4000000 in
theorem r_charAt {fl : Bool} {d : Nat} {h : GH} {i : Nat} (hi : i < 5) {j : Nat} (hj : j < glen.getD i 0) : gR fl (d + 4) yJ0_charAt_5068e [.ref (1000000 + i), .int (nI j)] h (.int ((gbyt.getD i []).getD j 0)) := by
  refine gN.of MJ0_charAt_5068e (Nat.le_of_ble_eq_true rfl) (fun J n hJ => ?_)
  show J 0 [some (.ref (1000000 + i)), some (.int (nI j))] [] h (n, 0, 0, fl)
  refine j_p (nx := 1) hJ dJ0_charAt_5068e_0 rfl rfl ?_
  refine j_cvS (nx := 4) hJ dJ0_charAt_5068e_1 rfl (r_isLatin1 (fl := fl) (d := d + 2) hi) mJ0_492 hi rfl rfl (gle8 rfl) ?_
  refine j_if_eq (nx := 7) (tgt := 16) hJ dJ0_charAt_5068e_4 rfl (by decide) (fun c4 => absurd c4 (by decide)) (fun c4 => ?_)
  refine j_p (nx := 8) hJ dJ0_charAt_5068e_7 rfl rfl ?_
  refine hJ 42 8 9 11 i _ _ _ _ dJ0_charAt_5068e_8 rfl lkVA hi ?_
  refine j_p (nx := 12) hJ dJ0_charAt_5068e_11 rfl rfl ?_
  refine j_csR (nx := 15) hJ dJ0_charAt_5068e_12 rfl (r_latCharAt (fl := fl) (d := d) hi hj) mJ0_495 rfl (gle8 rfl) ?_
  refine hJ 36 _ _ _ _ _ dJ0_charAt_5068e_15 ⟨.char, rfl, ?_⟩ ⟨rfl, rfl, rfl⟩
  exact (gchr i hi j hj).1
set_option maxHeartbeats 4000000 in
theorem r_compare {fl : Bool} {d : Nat} {h : GH} (x y : Int32) : gR fl (d + 1) yJ6_compare_7cf53 [.int x, .int y] h (.int (if x < y then -1 else if x = y then 0 else 1)) := by
  refine gN.of MJ6_compare_7cf53 (Nat.le_of_ble_eq_true rfl) (fun J n hJ => ?_)
  show J 0 [some (.int x), some (.int y)] [] h (n, 0, 0, fl)
  refine j_p (nx := 1) hJ dJ6_compare_7cf53_0 rfl rfl ?_
  refine j_p (nx := 2) hJ dJ6_compare_7cf53_1 rfl rfl ?_
  refine j_ic_ge (nx := 5) (tgt := 9) hJ dJ6_compare_7cf53_2 rfl (by decide) (fun c2 => ?_) (fun c2 => ?_)
  · refine j_p (nx := 10) hJ dJ6_compare_7cf53_9 rfl rfl ?_
    refine j_p (nx := 11) hJ dJ6_compare_7cf53_10 rfl rfl ?_
    refine j_ic_ne (nx := 14) (tgt := 18) hJ dJ6_compare_7cf53_11 rfl (by decide) (fun c11 => ?_) (fun c11 => ?_)
    · refine j_c (nx := 19) hJ dJ6_compare_7cf53_18 rfl gk_iconst_1 ?_
      refine j_iret hJ dJ6_compare_7cf53_19 ⟨?_, rfl⟩
      rw [if_neg (by rw [Int32.le_iff_toInt_le] at c2; rw [Int32.lt_iff_toInt_lt]; omega), if_neg c11]
    · refine j_c (nx := 15) hJ dJ6_compare_7cf53_14 rfl gk_iconst_0 ?_
      refine j_go (tgt := 19) hJ dJ6_compare_7cf53_15 (by decide) ?_
      refine j_iret hJ dJ6_compare_7cf53_19 ⟨?_, rfl⟩
      rw [if_neg (by rw [Int32.le_iff_toInt_le] at c2; rw [Int32.lt_iff_toInt_lt]; omega), if_pos c11]
  · refine j_c (nx := 6) hJ dJ6_compare_7cf53_5 rfl gk_iconst_m1 ?_
    refine j_go (tgt := 19) hJ dJ6_compare_7cf53_6 (by decide) ?_
    refine j_iret hJ dJ6_compare_7cf53_19 ⟨?_, rfl⟩
    rw [if_pos (by first | (rw [Int32.le_iff_toInt_le] at c2; rw [Int32.lt_iff_toInt_lt]; omega))]
