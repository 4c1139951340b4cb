/-! static facts, printed by wip/whole/gen/facts.py -/
theorem fX2_21 : gFL RX2 21 2 0 := ⟨_, _, _, rfl, by decide, tb_at 90 (by decide +kernel)⟩
theorem fX5_295 : gFL RX5 295 2 0 := ⟨_, _, _, rfl, by decide, tb_at 91 (by decide +kernel)⟩
theorem fX2_9 : gFL RX2 9 2 1 := ⟨_, _, _, rfl, by decide, tb_at 92 (by decide +kernel)⟩
theorem fX1_25 : gFL RX1 25 2 1 := ⟨_, _, _, rfl, by decide, tb_at 93 (by decide +kernel)⟩
theorem fX5_68 : gFL RX5 68 2 1 := ⟨_, _, _, rfl, by decide, tb_at 94 (by decide +kernel)⟩
theorem fX3_63 : gFL RX3 63 2 1 := ⟨_, _, _, rfl, by decide, tb_at 95 (by decide +kernel)⟩
theorem fX5_61 : gFL RX5 61 0 0 := ⟨_, _, _, rfl, by decide, tb_at 118 (by decide +kernel)⟩
theorem fX0_33 : gFL RX0 33 0 0 := ⟨_, _, _, rfl, by decide, tb_at 119 (by decide +kernel)⟩
theorem fX3_69 : gFL RX3 69 0 0 := ⟨_, _, _, rfl, by decide, tb_at 120 (by decide +kernel)⟩
theorem fX0_11 : gFL RX0 11 0 1 := ⟨_, _, _, rfl, by decide, tb_at 121 (by decide +kernel)⟩
theorem fX5_119 : gFL RX5 119 0 1 := ⟨_, _, _, rfl, by decide, tb_at 122 (by decide +kernel)⟩
theorem fX0_17 : gFL RX0 17 0 2 := ⟨_, _, _, rfl, by decide, tb_at 123 (by decide +kernel)⟩
theorem fX5_211 : gFL RX5 211 0 2 := ⟨_, _, _, rfl, by decide, tb_at 124 (by decide +kernel)⟩
theorem fX0_20 : gFL RX0 20 0 3 := ⟨_, _, _, rfl, by decide, tb_at 125 (by decide +kernel)⟩
theorem fX3_59 : gFL RX3 59 0 3 := ⟨_, _, _, rfl, by decide, tb_at 126 (by decide +kernel)⟩
theorem fX5_233 : gFL RX5 233 0 3 := ⟨_, _, _, rfl, by decide, tb_at 127 (by decide +kernel)⟩
theorem fX0_41 : gFL RX0 41 0 4 := ⟨_, _, _, rfl, by decide, tb_at 128 (by decide +kernel)⟩
theorem fX3_54 : gFL RX3 54 0 4 := ⟨_, _, _, rfl, by decide, tb_at 129 (by decide +kernel)⟩
theorem fX5_230 : gFL RX5 230 0 4 := ⟨_, _, _, rfl, by decide, tb_at 130 (by decide +kernel)⟩
theorem fX1_9 : gFL RX1 9 1 0 := ⟨_, _, _, rfl, by decide, tb_at 152 (by decide +kernel)⟩
theorem fX1_15 : gFL RX1 15 1 1 := ⟨_, _, _, rfl, by decide, tb_at 153 (by decide +kernel)⟩
theorem fX1_18 : gFL RX1 18 1 2 := ⟨_, _, _, rfl, by decide, tb_at 154 (by decide +kernel)⟩
theorem fX1_65 : gFL RX1 65 1 3 := ⟨_, _, _, rfl, by decide, tb_at 155 (by decide +kernel)⟩
theorem fX1_62 : gFL RX1 62 1 4 := ⟨_, _, _, rfl, by decide, tb_at 156 (by decide +kernel)⟩
theorem fX1_35 : gFL RX1 35 1 5 := ⟨_, _, _, rfl, by decide, tb_at 157 (by decide +kernel)⟩
theorem fX3_12 : gFL RX3 12 3 0 := ⟨_, _, _, rfl, by decide, tb_at 181 (by decide +kernel)⟩
theorem fX3_23 : gFL RX3 23 3 1 := ⟨_, _, _, rfl, by decide, tb_at 182 (by decide +kernel)⟩
theorem fX5_253 : gFL RX5 253 3 1 := ⟨_, _, _, rfl, by decide, tb_at 183 (by decide +kernel)⟩
theorem fX3_27 : gFL RX3 27 3 2 := ⟨_, _, _, rfl, by decide, tb_at 184 (by decide +kernel)⟩
theorem fX3_43 : gFL RX3 43 3 3 := ⟨_, _, _, rfl, by decide, tb_at 185 (by decide +kernel)⟩
theorem fX3_31 : gFL RX3 31 3 4 := ⟨_, _, _, rfl, by decide, tb_at 186 (by decide +kernel)⟩
theorem fX4_9 : gFL RX4 9 4 0 := ⟨_, _, _, rfl, by decide, tb_at 205 (by decide +kernel)⟩
theorem fX5_276 : gFL RX5 276 4 0 := ⟨_, _, _, rfl, by decide, tb_at 206 (by decide +kernel)⟩
theorem fX4_20 : gFL RX4 20 4 1 := ⟨_, _, _, rfl, by decide, tb_at 207 (by decide +kernel)⟩
theorem fX5_279 : gFL RX5 279 4 1 := ⟨_, _, _, rfl, by decide, tb_at 208 (by decide +kernel)⟩
theorem fX5_12 : gFL RX5 12 5 0 := ⟨_, _, _, rfl, by decide, tb_at 214 (by decide +kernel)⟩
theorem fX5_18 : gFL RX5 18 5 1 := ⟨_, _, _, rfl, by decide, tb_at 215 (by decide +kernel)⟩
theorem fX5_21 : gFL RX5 21 5 2 := ⟨_, _, _, rfl, by decide, tb_at 216 (by decide +kernel)⟩
theorem fX5_30 : gFL RX5 30 5 3 := ⟨_, _, _, rfl, by decide, tb_at 217 (by decide +kernel)⟩
theorem fX5_36 : gFL RX5 36 5 4 := ⟨_, _, _, rfl, by decide, tb_at 218 (by decide +kernel)⟩
theorem fX5_43 : gFL RX5 43 5 5 := ⟨_, _, _, rfl, by decide, tb_at 219 (by decide +kernel)⟩
theorem fX5_50 : gFL RX5 50 5 6 := ⟨_, _, _, rfl, by decide, tb_at 220 (by decide +kernel)⟩
theorem fX5_54 : gFL RX5 54 5 7 := ⟨_, _, _, rfl, by decide, tb_at 221 (by decide +kernel)⟩
theorem fX5_57 : gFL RX5 57 5 8 := ⟨_, _, _, rfl, by decide, tb_at 222 (by decide +kernel)⟩
theorem fX6_9 : gFL RX6 9 6 0 := ⟨_, _, _, rfl, by decide, tb_at 720 (by decide +kernel)⟩
theorem fX6_15 : gFL RX6 15 6 1 := ⟨_, _, _, rfl, by decide, tb_at 721 (by decide +kernel)⟩
theorem fX6_19 : gFL RX6 19 6 2 := ⟨_, _, _, rfl, by decide, tb_at 722 (by decide +kernel)⟩
theorem fX6_22 : gFL RX6 22 6 3 := ⟨_, _, _, rfl, by decide, tb_at 723 (by decide +kernel)⟩
theorem fX6_25 : gFL RX6 25 6 4 := ⟨_, _, _, rfl, by decide, tb_at 724 (by decide +kernel)⟩
theorem fX6_98 : gFL RX6 98 6 5 := ⟨_, _, _, rfl, by decide, tb_at 725 (by decide +kernel)⟩
theorem fX6_28 : gFL RX6 28 6 6 := ⟨_, _, _, rfl, by decide, tb_at 726 (by decide +kernel)⟩
theorem fX6_31 : gFL RX6 31 6 7 := ⟨_, _, _, rfl, by decide, tb_at 727 (by decide +kernel)⟩
theorem fX6_34 : gFL RX6 34 6 8 := ⟨_, _, _, rfl, by decide, tb_at 728 (by decide +kernel)⟩
theorem fX6_105 : gFL RX6 105 6 9 := ⟨_, _, _, rfl, by decide, tb_at 729 (by decide +kernel)⟩
theorem fX6_37 : gFL RX6 37 6 10 := ⟨_, _, _, rfl, by decide, tb_at 730 (by decide +kernel)⟩
theorem fX6_112 : gFL RX6 112 6 11 := ⟨_, _, _, rfl, by decide, tb_at 731 (by decide +kernel)⟩
theorem fX6_40 : gFL RX6 40 6 12 := ⟨_, _, _, rfl, by decide, tb_at 732 (by decide +kernel)⟩
theorem fX6_185 : gFL RX6 185 6 13 := ⟨_, _, _, rfl, by decide, tb_at 733 (by decide +kernel)⟩
theorem fX6_188 : gFL RX6 188 6 14 := ⟨_, _, _, rfl, by decide, tb_at 734 (by decide +kernel)⟩
theorem fX6_191 : gFL RX6 191 6 15 := ⟨_, _, _, rfl, by decide, tb_at 735 (by decide +kernel)⟩
theorem fX6_194 : gFL RX6 194 6 16 := ⟨_, _, _, rfl, by decide, tb_at 736 (by decide +kernel)⟩
theorem fX6_197 : gFL RX6 197 6 17 := ⟨_, _, _, rfl, by decide, tb_at 737 (by decide +kernel)⟩
theorem fX6_43 : gFL RX6 43 6 18 := ⟨_, _, _, rfl, by decide, tb_at 738 (by decide +kernel)⟩
theorem fX6_46 : gFL RX6 46 6 19 := ⟨_, _, _, rfl, by decide, tb_at 739 (by decide +kernel)⟩
theorem fX6_49 : gFL RX6 49 6 20 := ⟨_, _, _, rfl, by decide, tb_at 740 (by decide +kernel)⟩
theorem fX6_200 : gFL RX6 200 6 21 := ⟨_, _, _, rfl, by decide, tb_at 741 (by decide +kernel)⟩
theorem fX6_203 : gFL RX6 203 6 22 := ⟨_, _, _, rfl, by decide, tb_at 742 (by decide +kernel)⟩
theorem fX6_206 : gFL RX6 206 6 23 := ⟨_, _, _, rfl, by decide, tb_at 743 (by decide +kernel)⟩
theorem fX6_52 : gFL RX6 52 6 24 := ⟨_, _, _, rfl, by decide, tb_at 744 (by decide +kernel)⟩
theorem fX6_55 : gFL RX6 55 6 25 := ⟨_, _, _, rfl, by decide, tb_at 745 (by decide +kernel)⟩
theorem fX6_58 : gFL RX6 58 6 26 := ⟨_, _, _, rfl, by decide, tb_at 746 (by decide +kernel)⟩
theorem fX6_253 : gFL RX6 253 6 27 := ⟨_, _, _, rfl, by decide, tb_at 747 (by decide +kernel)⟩
theorem fX6_61 : gFL RX6 61 6 28 := ⟨_, _, _, rfl, by decide, tb_at 748 (by decide +kernel)⟩
theorem fX6_64 : gFL RX6 64 6 29 := ⟨_, _, _, rfl, by decide, tb_at 749 (by decide +kernel)⟩
theorem fX6_67 : gFL RX6 67 6 30 := ⟨_, _, _, rfl, by decide, tb_at 750 (by decide +kernel)⟩
theorem fX6_70 : gFL RX6 70 6 31 := ⟨_, _, _, rfl, by decide, tb_at 751 (by decide +kernel)⟩
theorem fX6_74 : gFL RX6 74 6 32 := ⟨_, _, _, rfl, by decide, tb_at 752 (by decide +kernel)⟩
theorem fX6_294 : gFL RX6 294 6 33 := ⟨_, _, _, rfl, by decide, tb_at 753 (by decide +kernel)⟩
theorem fX6_288 : gFL RX6 288 6 34 := ⟨_, _, _, rfl, by decide, tb_at 754 (by decide +kernel)⟩
theorem fX6_291 : gFL RX6 291 6 35 := ⟨_, _, _, rfl, by decide, tb_at 755 (by decide +kernel)⟩
theorem fX6_77 : gFL RX6 77 6 36 := ⟨_, _, _, rfl, by decide, tb_at 756 (by decide +kernel)⟩
theorem fX6_80 : gFL RX6 80 6 37 := ⟨_, _, _, rfl, by decide, tb_at 757 (by decide +kernel)⟩
theorem fX6_83 : gFL RX6 83 6 38 := ⟨_, _, _, rfl, by decide, tb_at 758 (by decide +kernel)⟩
theorem fX6_86 : gFL RX6 86 6 39 := ⟨_, _, _, rfl, by decide, tb_at 759 (by decide +kernel)⟩
theorem fX6_89 : gFL RX6 89 6 40 := ⟨_, _, _, rfl, by decide, tb_at 760 (by decide +kernel)⟩
theorem fX6_92 : gFL RX6 92 6 41 := ⟨_, _, _, rfl, by decide, tb_at 761 (by decide +kernel)⟩
theorem zX0_0 (v : Int32) : gFSn 0 0 (.int v) := ⟨_, _, _, .int, rfl, rfl, by decide +kernel, rfl, rfl⟩
theorem zX0_1 (a : Nat) : gFS RX0 0 1 true (.ref a) := ⟨_, _, _, .array (.object "PatternLanguages$Row"), rfl, rfl, rfl, by decide +kernel, rfl, rfl⟩
theorem zX0_2 (a : Nat) : gFS RX0 0 2 true (.ref a) := ⟨_, _, _, .array (.object "PatternLanguages$Row"), rfl, rfl, rfl, by decide +kernel, rfl, rfl⟩
theorem zX0_3 (a : Nat) : gFS RX0 0 3 true (.ref a) := ⟨_, _, _, .array (.object "PatternLanguages$Row"), rfl, rfl, rfl, by decide +kernel, rfl, rfl⟩
theorem zX0_4 (v : Int32) : gFSn 0 4 (.int v) := ⟨_, _, _, .int, rfl, rfl, by decide +kernel, rfl, rfl⟩
theorem zX1_0 (a : Nat) : gFS RX1 1 0 true (.ref a) := ⟨_, _, _, .array .int, rfl, rfl, rfl, by decide +kernel, rfl, rfl⟩
theorem zX1_1 (a : Nat) : gFS RX1 1 1 true (.ref a) := ⟨_, _, _, .array .int, rfl, rfl, rfl, by decide +kernel, rfl, rfl⟩
theorem zX1_2 (a : Nat) : gFS RX1 1 2 true (.ref a) := ⟨_, _, _, .array .int, rfl, rfl, rfl, by decide +kernel, rfl, rfl⟩
theorem zX1_3 (v : Int32) : gFSn 1 3 (.int v) := ⟨_, _, _, .int, rfl, rfl, by decide +kernel, rfl, rfl⟩
theorem zX1_4 (v : Int32) : gFSn 1 4 (.int v) := ⟨_, _, _, .int, rfl, rfl, by decide +kernel, rfl, rfl⟩
theorem zX1_5 (v : Int32) : gFSn 1 5 (.int v) := ⟨_, _, _, .int, rfl, rfl, by decide +kernel, rfl, rfl⟩
theorem zX2_0 (a : Nat) : gFS RX2 2 0 true (.ref a) := ⟨_, _, _, .array .int, rfl, rfl, rfl, by decide +kernel, rfl, rfl⟩
theorem zX2_1 (v : Int32) : gFSn 2 1 (.int v) := ⟨_, _, _, .int, rfl, rfl, by decide +kernel, rfl, rfl⟩
theorem zX3_0 (a : Nat) : gFS RX3 3 0 true (.ref a) := ⟨_, _, _, .object "PatternLanguages$Matcher", rfl, rfl, rfl, by decide +kernel, rfl, rfl⟩
theorem zX3_1 (a : Nat) : gFS RX3 3 1 true (.ref a) := ⟨_, _, _, .object "PatternLanguages$Row", rfl, rfl, rfl, by decide +kernel, rfl, rfl⟩
theorem zX3_2 (v : Int32) : gFSn 3 2 (.int v) := ⟨_, _, _, .int, rfl, rfl, by decide +kernel, rfl, rfl⟩
theorem zX3_3 (v : Int32) : gFSn 3 3 (.int v) := ⟨_, _, _, .int, rfl, rfl, by decide +kernel, rfl, rfl⟩
theorem zX3_4 (v : Int32) : gFSn 3 4 (.int v) := ⟨_, _, _, .int, rfl, rfl, by decide +kernel, rfl, rfl⟩
theorem zX4_0 (v : Int32) : gFSn 4 0 (.int v) := ⟨_, _, _, .int, rfl, rfl, by decide +kernel, rfl, rfl⟩
theorem zX4_1 (a : Nat) : gFS RX4 4 1 true (.ref a) := ⟨_, _, _, .object "PatternLanguages$Row", rfl, rfl, rfl, by decide +kernel, rfl, rfl⟩
theorem zX5_0 (a : Nat) : gFS RX5 5 0 true (.ref a) := ⟨_, _, _, .object "PatternLanguages$Bench", rfl, rfl, rfl, by decide +kernel, rfl, rfl⟩
theorem zX5_1 (a : Nat) : gFS RX5 5 1 true (.ref a) := ⟨_, _, _, .object "PatternLanguages$Bench", rfl, rfl, rfl, by decide +kernel, rfl, rfl⟩
theorem zX5_2 (b : Bool) : gFSn 5 2 (.int (gb b)) := ⟨_, _, _, .boolean, rfl, rfl, by decide +kernel, gb_nar b, by cases b <;> rfl⟩
theorem zX5_3 (a : Nat) : gFS RX5 5 3 true (.ref a) := ⟨_, _, _, .object "PatternLanguages$Row", rfl, rfl, rfl, by decide +kernel, rfl, rfl⟩
theorem zX5_4 (a : Nat) : gFS RX5 5 4 true (.ref a) := ⟨_, _, _, .array (.object "PatternLanguages$Slot"), rfl, rfl, rfl, by decide +kernel, rfl, rfl⟩
theorem zX5_5 (a : Nat) : gFS RX5 5 5 true (.ref a) := ⟨_, _, _, .object "PatternLanguages$Matcher", rfl, rfl, rfl, by decide +kernel, rfl, rfl⟩
theorem zX5_6 (a : Nat) : gFS RX5 5 6 true (.ref a) := ⟨_, _, _, .object "PatternLanguages$Search", rfl, rfl, rfl, by decide +kernel, rfl, rfl⟩
theorem zX5_7 (a : Nat) : gFS RX5 5 7 true (.ref a) := ⟨_, _, _, .object "PatternLanguages$Row", rfl, rfl, rfl, by decide +kernel, rfl, rfl⟩
theorem zX5_8 (a : Nat) : gFS RX5 5 8 true (.ref a) := ⟨_, _, _, .object "PatternLanguages$Row", rfl, rfl, rfl, by decide +kernel, rfl, rfl⟩
theorem zX6_0 (v : Int32) : gFSn 6 0 (.int v) := ⟨_, _, _, .int, rfl, rfl, by decide +kernel, rfl, rfl⟩
theorem zX6_1 (a : Nat) : gFS RX6 6 1 true (.ref a) := ⟨_, _, _, .array .int, rfl, rfl, rfl, by decide +kernel, rfl, rfl⟩
theorem zX6_2 (a : Nat) : gFS RX6 6 2 true (.ref a) := ⟨_, _, _, .array .int, rfl, rfl, rfl, by decide +kernel, rfl, rfl⟩
theorem zX6_3 (a : Nat) : gFS RX6 6 3 true (.ref a) := ⟨_, _, _, .array .int, rfl, rfl, rfl, by decide +kernel, rfl, rfl⟩
theorem zX6_4 (a : Nat) : gFS RX6 6 4 true (.ref a) := ⟨_, _, _, .array .int, rfl, rfl, rfl, by decide +kernel, rfl, rfl⟩
theorem zX6_5 (v : Int32) : gFSn 6 5 (.int v) := ⟨_, _, _, .int, rfl, rfl, by decide +kernel, rfl, rfl⟩
theorem zX6_6 (a : Nat) : gFS RX6 6 6 true (.ref a) := ⟨_, _, _, .array .int, rfl, rfl, rfl, by decide +kernel, rfl, rfl⟩
theorem zX6_7 (a : Nat) : gFS RX6 6 7 true (.ref a) := ⟨_, _, _, .array .int, rfl, rfl, rfl, by decide +kernel, rfl, rfl⟩
theorem zX6_8 (a : Nat) : gFS RX6 6 8 true (.ref a) := ⟨_, _, _, .array .int, rfl, rfl, rfl, by decide +kernel, rfl, rfl⟩
theorem zX6_9 (v : Int32) : gFSn 6 9 (.int v) := ⟨_, _, _, .int, rfl, rfl, by decide +kernel, rfl, rfl⟩
theorem zX6_10 (a : Nat) : gFS RX6 6 10 true (.ref a) := ⟨_, _, _, .array .int, rfl, rfl, rfl, by decide +kernel, rfl, rfl⟩
theorem zX6_11 (v : Int32) : gFSn 6 11 (.int v) := ⟨_, _, _, .int, rfl, rfl, by decide +kernel, rfl, rfl⟩
theorem zX6_12 (a : Nat) : gFS RX6 6 12 true (.ref a) := ⟨_, _, _, .array .int, rfl, rfl, rfl, by decide +kernel, rfl, rfl⟩
theorem zX6_13 (a : Nat) : gFSn 6 13 (.ref a) := ⟨_, _, _, .array .int, rfl, rfl, by decide +kernel, rfl, rfl⟩
theorem zX6_14 (v : Int32) : gFSn 6 14 (.int v) := ⟨_, _, _, .int, rfl, rfl, by decide +kernel, rfl, rfl⟩
theorem zX6_15 (v : Int32) : gFSn 6 15 (.int v) := ⟨_, _, _, .int, rfl, rfl, by decide +kernel, rfl, rfl⟩
theorem zX6_16 (a : Nat) : gFSn 6 16 (.ref a) := ⟨_, _, _, .array .int, rfl, rfl, by decide +kernel, rfl, rfl⟩
theorem zX6_17 (v : Int32) : gFSn 6 17 (.int v) := ⟨_, _, _, .int, rfl, rfl, by decide +kernel, rfl, rfl⟩
theorem zX6_18 (a : Nat) : gFS RX6 6 18 true (.ref a) := ⟨_, _, _, .array .int, rfl, rfl, rfl, by decide +kernel, rfl, rfl⟩
theorem zX6_19 (a : Nat) : gFS RX6 6 19 true (.ref a) := ⟨_, _, _, .array .int, rfl, rfl, rfl, by decide +kernel, rfl, rfl⟩
theorem zX6_20 (a : Nat) : gFS RX6 6 20 true (.ref a) := ⟨_, _, _, .array .int, rfl, rfl, rfl, by decide +kernel, rfl, rfl⟩
theorem zX6_21 (v : Int32) : gFSn 6 21 (.int v) := ⟨_, _, _, .int, rfl, rfl, by decide +kernel, rfl, rfl⟩
theorem zX6_22 (v : Int32) : gFSn 6 22 (.int v) := ⟨_, _, _, .int, rfl, rfl, by decide +kernel, rfl, rfl⟩
theorem zX6_23 (v : Int32) : gFSn 6 23 (.int v) := ⟨_, _, _, .int, rfl, rfl, by decide +kernel, rfl, rfl⟩
theorem zX6_24 (a : Nat) : gFS RX6 6 24 true (.ref a) := ⟨_, _, _, .array .int, rfl, rfl, rfl, by decide +kernel, rfl, rfl⟩
theorem zX6_25 (a : Nat) : gFS RX6 6 25 true (.ref a) := ⟨_, _, _, .array .int, rfl, rfl, rfl, by decide +kernel, rfl, rfl⟩
theorem zX6_26 (a : Nat) : gFS RX6 6 26 true (.ref a) := ⟨_, _, _, .array .int, rfl, rfl, rfl, by decide +kernel, rfl, rfl⟩
theorem zX6_27 (b : Bool) : gFSn 6 27 (.int (gb b)) := ⟨_, _, _, .boolean, rfl, rfl, by decide +kernel, gb_nar b, by cases b <;> rfl⟩
theorem zX6_28 (a : Nat) : gFS RX6 6 28 true (.ref a) := ⟨_, _, _, .array .int, rfl, rfl, rfl, by decide +kernel, rfl, rfl⟩
theorem zX6_29 (a : Nat) : gFS RX6 6 29 true (.ref a) := ⟨_, _, _, .array .int, rfl, rfl, rfl, by decide +kernel, rfl, rfl⟩
theorem zX6_30 (a : Nat) : gFS RX6 6 30 true (.ref a) := ⟨_, _, _, .array .int, rfl, rfl, rfl, by decide +kernel, rfl, rfl⟩
theorem zX6_31 (a : Nat) : gFS RX6 6 31 true (.ref a) := ⟨_, _, _, .array .long, rfl, rfl, rfl, by decide +kernel, rfl, rfl⟩
theorem zX6_32 (a : Nat) : gFS RX6 6 32 true (.ref a) := ⟨_, _, _, .array .long, rfl, rfl, rfl, by decide +kernel, rfl, rfl⟩
theorem zX6_33 (b : Bool) : gFSn 6 33 (.int (gb b)) := ⟨_, _, _, .boolean, rfl, rfl, by decide +kernel, gb_nar b, by cases b <;> rfl⟩
theorem zX6_34 (v : Int32) : gFSn 6 34 (.int v) := ⟨_, _, _, .int, rfl, rfl, by decide +kernel, rfl, rfl⟩
theorem zX6_35 (v : Int32) : gFSn 6 35 (.int v) := ⟨_, _, _, .int, rfl, rfl, by decide +kernel, rfl, rfl⟩
theorem zX6_36 (a : Nat) : gFS RX6 6 36 true (.ref a) := ⟨_, _, _, .array .int, rfl, rfl, rfl, by decide +kernel, rfl, rfl⟩
theorem zX6_37 (a : Nat) : gFS RX6 6 37 true (.ref a) := ⟨_, _, _, .array .int, rfl, rfl, rfl, by decide +kernel, rfl, rfl⟩
theorem zX6_38 (a : Nat) : gFS RX6 6 38 true (.ref a) := ⟨_, _, _, .array .int, rfl, rfl, rfl, by decide +kernel, rfl, rfl⟩
theorem zX6_39 (a : Nat) : gFS RX6 6 39 true (.ref a) := ⟨_, _, _, .array .int, rfl, rfl, rfl, by decide +kernel, rfl, rfl⟩
theorem zX6_40 (a : Nat) : gFS RX6 6 40 true (.ref a) := ⟨_, _, _, .array .int, rfl, rfl, rfl, by decide +kernel, rfl, rfl⟩
theorem zX6_41 (a : Nat) : gFS RX6 6 41 true (.ref a) := ⟨_, _, _, .array .int, rfl, rfl, rfl, by decide +kernel, rfl, rfl⟩
theorem MJ0_charAt_5068e : gMth yJ0_charAt_5068e cJ0_charAt_5068e 2 (some .char) := ⟨tb_at 411 (by decide +kernel), by decide, by decide +kernel, by decide +kernel⟩
theorem hJ0_charAt_5068e : gNH yJ0_charAt_5068e 1 := ⟨by decide +kernel, by decide +kernel, by decide +kernel⟩
theorem iJ0_charAt_5068e : Cond.instanceMethod yJ0_charAt_5068e ∈ lw_tbl := tb_at 409 (by decide +kernel)
theorem sJ0_charAt_5068e : Cond.selects yJ0_charAt_5068e.cls yJ0_charAt_5068e yJ0_charAt_5068e ∈ lw_tbl := tb_at 410 (by decide +kernel)
theorem nJ0_charAt_5068e : Cond.initialized yJ0_charAt_5068e.cls ∈ lw_tbl := tb_at 59 (by decide +kernel)
theorem MJ0_checkIndex_df160 : gMth yJ0_checkIndex_df160 cJ0_checkIndex_df160 2 none := ⟨tb_at 421 (by decide +kernel), by decide, by decide +kernel, by decide +kernel⟩
theorem hJ0_checkIndex_df160 : gNH yJ0_checkIndex_df160 2 := ⟨by decide +kernel, by decide +kernel, by decide +kernel⟩
theorem tJ0_checkIndex_df160 : Cond.static yJ0_checkIndex_df160 ∈ lw_tbl := tb_at 420 (by decide +kernel)
theorem nJ0_checkIndex_df160 : Cond.initialized yJ0_checkIndex_df160.cls ∈ lw_tbl := tb_at 59 (by decide +kernel)
theorem MJ0_coder_7d493 : gMth yJ0_coder_7d493 cJ0_coder_7d493 1 (some .byte) := ⟨tb_at 405 (by decide +kernel), by decide, by decide +kernel, by decide +kernel⟩
theorem hJ0_coder_7d493 : gNH yJ0_coder_7d493 0 := ⟨by decide +kernel, by decide +kernel, by decide +kernel⟩
theorem iJ0_coder_7d493 : Cond.instanceMethod yJ0_coder_7d493 ∈ lw_tbl := tb_at 403 (by decide +kernel)
theorem sJ0_coder_7d493 : Cond.selects yJ0_coder_7d493.cls yJ0_coder_7d493 yJ0_coder_7d493 ∈ lw_tbl := tb_at 404 (by decide +kernel)
theorem nJ0_coder_7d493 : Cond.initialized yJ0_coder_7d493.cls ∈ lw_tbl := tb_at 59 (by decide +kernel)
theorem MJ0_isLatin1_aae02 : gMth yJ0_isLatin1_aae02 cJ0_isLatin1_aae02 1 (some .boolean) := ⟨tb_at 415 (by decide +kernel), by decide, by decide +kernel, by decide +kernel⟩
theorem hJ0_isLatin1_aae02 : gNH yJ0_isLatin1_aae02 0 := ⟨by decide +kernel, by decide +kernel, by decide +kernel⟩
theorem iJ0_isLatin1_aae02 : Cond.instanceMethod yJ0_isLatin1_aae02 ∈ lw_tbl := tb_at 413 (by decide +kernel)
theorem sJ0_isLatin1_aae02 : Cond.selects yJ0_isLatin1_aae02.cls yJ0_isLatin1_aae02 yJ0_isLatin1_aae02 ∈ lw_tbl := tb_at 414 (by decide +kernel)
theorem nJ0_isLatin1_aae02 : Cond.initialized yJ0_isLatin1_aae02.cls ∈ lw_tbl := tb_at 59 (by decide +kernel)
theorem MJ0_length_8abf5 : gMth yJ0_length_8abf5 cJ0_length_8abf5 1 (some .int) := ⟨tb_at 401 (by decide +kernel), by decide, by decide +kernel, by decide +kernel⟩
theorem hJ0_length_8abf5 : gNH yJ0_length_8abf5 0 := ⟨by decide +kernel, by decide +kernel, by decide +kernel⟩
theorem iJ0_length_8abf5 : Cond.instanceMethod yJ0_length_8abf5 ∈ lw_tbl := tb_at 399 (by decide +kernel)
theorem sJ0_length_8abf5 : Cond.selects yJ0_length_8abf5.cls yJ0_length_8abf5 yJ0_length_8abf5 ∈ lw_tbl := tb_at 400 (by decide +kernel)
theorem nJ0_length_8abf5 : Cond.initialized yJ0_length_8abf5.cls ∈ lw_tbl := tb_at 59 (by decide +kernel)
theorem MJ1_charAt_3b067 : gMth yJ1_charAt_3b067 cJ1_charAt_3b067 2 (some .char) := ⟨tb_at 418 (by decide +kernel), by decide, by decide +kernel, by decide +kernel⟩
theorem hJ1_charAt_3b067 : gNH yJ1_charAt_3b067 2 := ⟨by decide +kernel, by decide +kernel, by decide +kernel⟩
theorem tJ1_charAt_3b067 : Cond.static yJ1_charAt_3b067 ∈ lw_tbl := tb_at 417 (by decide +kernel)
theorem nJ1_charAt_3b067 : Cond.initialized yJ1_charAt_3b067.cls ∈ lw_tbl := tb_at 60 (by decide +kernel)
theorem MJ3_checkIndex_8e157 : gMth yJ3_checkIndex_8e157 cJ3_checkIndex_8e157 3 (some .int) := ⟨tb_at 426 (by decide +kernel), by decide, by decide +kernel, by decide +kernel⟩
theorem hJ3_checkIndex_8e157 : gNH yJ3_checkIndex_8e157 3 := ⟨by decide +kernel, by decide +kernel, by decide +kernel⟩
theorem tJ3_checkIndex_8e157 : Cond.static yJ3_checkIndex_8e157 ∈ lw_tbl := tb_at 425 (by decide +kernel)
theorem nJ3_checkIndex_8e157 : Cond.initialized yJ3_checkIndex_8e157.cls ∈ lw_tbl := tb_at 61 (by decide +kernel)
theorem MJ6_compare_7cf53 : gMth yJ6_compare_7cf53 cJ6_compare_7cf53 2 (some .int) := ⟨tb_at 364 (by decide +kernel), by decide, by decide +kernel, by decide +kernel⟩
theorem hJ6_compare_7cf53 : gNH yJ6_compare_7cf53 2 := ⟨by decide +kernel, by decide +kernel, by decide +kernel⟩
theorem tJ6_compare_7cf53 : Cond.static yJ6_compare_7cf53 ∈ lw_tbl := tb_at 363 (by decide +kernel)
theorem nJ6_compare_7cf53 : Cond.initialized yJ6_compare_7cf53.cls ∈ lw_tbl := tb_at 58 (by decide +kernel)
theorem MX0_begin : gMth yX0_begin cX0_begin 3 none := ⟨tb_at 105 (by decide +kernel), by decide, by decide +kernel, by decide +kernel⟩
theorem hX0_begin : gNH yX0_begin 1 := ⟨by decide +kernel, by decide +kernel, by decide +kernel⟩
theorem iX0_begin : Cond.instanceMethod yX0_begin ∈ lw_tbl := tb_at 103 (by decide +kernel)
theorem sX0_begin : Cond.selects yX0_begin.cls yX0_begin yX0_begin ∈ lw_tbl := tb_at 104 (by decide +kernel)
theorem nX0_begin : Cond.initialized yX0_begin.cls ∈ lw_tbl := tb_at 50 (by decide +kernel)
theorem kX0_begin : (vwCl[0]?).map (fun q => q.1) = some yX0_begin.cls := rfl
theorem MX0_copyRows : gMth yX0_copyRows cX0_copyRows 3 none := ⟨tb_at 704 (by decide +kernel), by decide, by decide +kernel, by decide +kernel⟩
theorem hX0_copyRows : gNH yX0_copyRows 2 := ⟨by decide +kernel, by decide +kernel, by decide +kernel⟩
theorem tX0_copyRows : Cond.static yX0_copyRows ∈ lw_tbl := tb_at 703 (by decide +kernel)
theorem nX0_copyRows : Cond.initialized yX0_copyRows.cls ∈ lw_tbl := tb_at 50 (by decide +kernel)
theorem kX0_copyRows : (vwCl[0]?).map (fun q => q.1) = some yX0_copyRows.cls := rfl
theorem MX0_init : gMth yX0_init cX0_init 1 none := ⟨tb_at 75 (by decide +kernel), by decide, by decide +kernel, by decide +kernel⟩
theorem hX0_init : gNH yX0_init 0 := ⟨by decide +kernel, by decide +kernel, by decide +kernel⟩
theorem iX0_init : Cond.instanceMethod yX0_init ∈ lw_tbl := tb_at 74 (by decide +kernel)
theorem nX0_init : Cond.initialized yX0_init.cls ∈ lw_tbl := tb_at 50 (by decide +kernel)
theorem kX0_init : (vwCl[0]?).map (fun q => q.1) = some yX0_init.cls := rfl
theorem MX0_makeRows : gMth yX0_makeRows cX0_makeRows 2 none := ⟨tb_at 81 (by decide +kernel), by decide, by decide +kernel, by decide +kernel⟩
theorem hX0_makeRows : gNH yX0_makeRows 1 := ⟨by decide +kernel, by decide +kernel, by decide +kernel⟩
theorem tX0_makeRows : Cond.static yX0_makeRows ∈ lw_tbl := tb_at 80 (by decide +kernel)
theorem nX0_makeRows : Cond.initialized yX0_makeRows.cls ∈ lw_tbl := tb_at 50 (by decide +kernel)
theorem kX0_makeRows : (vwCl[0]?).map (fun q => q.1) = some yX0_makeRows.cls := rfl
theorem MX0_setTo : gMth yX0_setTo cX0_setTo 2 none := ⟨tb_at 701 (by decide +kernel), by decide, by decide +kernel, by decide +kernel⟩
theorem hX0_setTo : gNH yX0_setTo 1 := ⟨by decide +kernel, by decide +kernel, by decide +kernel⟩
theorem iX0_setTo : Cond.instanceMethod yX0_setTo ∈ lw_tbl := tb_at 699 (by decide +kernel)
theorem sX0_setTo : Cond.selects yX0_setTo.cls yX0_setTo yX0_setTo ∈ lw_tbl := tb_at 700 (by decide +kernel)
theorem nX0_setTo : Cond.initialized yX0_setTo.cls ∈ lw_tbl := tb_at 50 (by decide +kernel)
theorem kX0_setTo : (vwCl[0]?).map (fun q => q.1) = some yX0_setTo.cls := rfl
theorem MX1_canComeOut : gMth yX1_canComeOut cX1_canComeOut 2 (some .boolean) := ⟨tb_at 499 (by decide +kernel), by decide, by decide +kernel, by decide +kernel⟩
theorem hX1_canComeOut : gNH yX1_canComeOut 1 := ⟨by decide +kernel, by decide +kernel, by decide +kernel⟩
theorem iX1_canComeOut : Cond.instanceMethod yX1_canComeOut ∈ lw_tbl := tb_at 498 (by decide +kernel)
theorem sX1_canComeOut : Cond.selects yX1_canComeOut.cls yX1_canComeOut yX1_canComeOut ∈ lw_tbl := tb_at 12 (by decide +kernel)
theorem nX1_canComeOut : Cond.initialized yX1_canComeOut.cls ∈ lw_tbl := tb_at 53 (by decide +kernel)
theorem kX1_canComeOut : (vwCl[1]?).map (fun q => q.1) = some yX1_canComeOut.cls := rfl
theorem MX1_count : gMth yX1_count cX1_count 11 (some .int) := ⟨tb_at 503 (by decide +kernel), by decide, by decide +kernel, by decide +kernel⟩
theorem hX1_count : gNH yX1_count 6 := ⟨by decide +kernel, by decide +kernel, by decide +kernel⟩
theorem iX1_count : Cond.instanceMethod yX1_count ∈ lw_tbl := tb_at 502 (by decide +kernel)
theorem sX1_count : Cond.selects yX1_count.cls yX1_count yX1_count ∈ lw_tbl := tb_at 13 (by decide +kernel)
theorem nX1_count : Cond.initialized yX1_count.cls ∈ lw_tbl := tb_at 53 (by decide +kernel)
theorem kX1_count : (vwCl[1]?).map (fun q => q.1) = some yX1_count.cls := rfl
theorem MX1_countAll : gMth yX1_countAll cX1_countAll 5 (some .int) := ⟨tb_at 518 (by decide +kernel), by decide, by decide +kernel, by decide +kernel⟩
theorem hX1_countAll : gNH yX1_countAll 3 := ⟨by decide +kernel, by decide +kernel, by decide +kernel⟩
theorem iX1_countAll : Cond.instanceMethod yX1_countAll ∈ lw_tbl := tb_at 516 (by decide +kernel)
theorem sX1_countAll : Cond.selects yX1_countAll.cls yX1_countAll yX1_countAll ∈ lw_tbl := tb_at 517 (by decide +kernel)
theorem nX1_countAll : Cond.initialized yX1_countAll.cls ∈ lw_tbl := tb_at 53 (by decide +kernel)
theorem kX1_countAll : (vwCl[1]?).map (fun q => q.1) = some yX1_countAll.cls := rfl
theorem MX1_countBindings : gMth yX1_countBindings cX1_countBindings 14 (some .int) := ⟨tb_at 507 (by decide +kernel), by decide, by decide +kernel, by decide +kernel⟩
theorem hX1_countBindings : gNH yX1_countBindings 6 := ⟨by decide +kernel, by decide +kernel, by decide +kernel⟩
theorem iX1_countBindings : Cond.instanceMethod yX1_countBindings ∈ lw_tbl := tb_at 506 (by decide +kernel)
theorem sX1_countBindings : Cond.selects yX1_countBindings.cls yX1_countBindings yX1_countBindings ∈ lw_tbl := tb_at 14 (by decide +kernel)
theorem nX1_countBindings : Cond.initialized yX1_countBindings.cls ∈ lw_tbl := tb_at 53 (by decide +kernel)
theorem kX1_countBindings : (vwCl[1]?).map (fun q => q.1) = some yX1_countBindings.cls := rfl
theorem MX1_init : gMth yX1_init cX1_init 1 none := ⟨tb_at 150 (by decide +kernel), by decide, by decide +kernel, by decide +kernel⟩
theorem hX1_init : gNH yX1_init 0 := ⟨by decide +kernel, by decide +kernel, by decide +kernel⟩
theorem iX1_init : Cond.instanceMethod yX1_init ∈ lw_tbl := tb_at 149 (by decide +kernel)
theorem nX1_init : Cond.initialized yX1_init.cls ∈ lw_tbl := tb_at 53 (by decide +kernel)
theorem kX1_init : (vwCl[1]?).map (fun q => q.1) = some yX1_init.cls := rfl
theorem MX1_isMatch : gMth yX1_isMatch cX1_isMatch 4 (some .boolean) := ⟨tb_at 484 (by decide +kernel), by decide, by decide +kernel, by decide +kernel⟩
theorem hX1_isMatch : gNH yX1_isMatch 3 := ⟨by decide +kernel, by decide +kernel, by decide +kernel⟩
theorem iX1_isMatch : Cond.instanceMethod yX1_isMatch ∈ lw_tbl := tb_at 482 (by decide +kernel)
theorem sX1_isMatch : Cond.selects yX1_isMatch.cls yX1_isMatch yX1_isMatch ∈ lw_tbl := tb_at 483 (by decide +kernel)
theorem nX1_isMatch : Cond.initialized yX1_isMatch.cls ∈ lw_tbl := tb_at 53 (by decide +kernel)
theorem kX1_isMatch : (vwCl[1]?).map (fun q => q.1) = some yX1_isMatch.cls := rfl
theorem MX1_isMatchBefore : gMth yX1_isMatchBefore cX1_isMatchBefore 7 (some .boolean) := ⟨tb_at 488 (by decide +kernel), by decide, by decide +kernel, by decide +kernel⟩
theorem hX1_isMatchBefore : gNH yX1_isMatchBefore 5 := ⟨by decide +kernel, by decide +kernel, by decide +kernel⟩
theorem iX1_isMatchBefore : Cond.instanceMethod yX1_isMatchBefore ∈ lw_tbl := tb_at 486 (by decide +kernel)
theorem sX1_isMatchBefore : Cond.selects yX1_isMatchBefore.cls yX1_isMatchBefore yX1_isMatchBefore ∈ lw_tbl := tb_at 487 (by decide +kernel)
theorem nX1_isMatchBefore : Cond.initialized yX1_isMatchBefore.cls ∈ lw_tbl := tb_at 53 (by decide +kernel)
theorem kX1_isMatchBefore : (vwCl[1]?).map (fun q => q.1) = some yX1_isMatchBefore.cls := rfl
theorem MX1_isSame : gMth yX1_isSame cX1_isSame 5 (some .boolean) := ⟨tb_at 510 (by decide +kernel), by decide, by decide +kernel, by decide +kernel⟩
theorem hX1_isSame : gNH yX1_isSame 4 := ⟨by decide +kernel, by decide +kernel, by decide +kernel⟩
theorem tX1_isSame : Cond.static yX1_isSame ∈ lw_tbl := tb_at 509 (by decide +kernel)
theorem nX1_isSame : Cond.initialized yX1_isSame.cls ∈ lw_tbl := tb_at 53 (by decide +kernel)
theorem kX1_isSame : (vwCl[1]?).map (fun q => q.1) = some yX1_isSame.cls := rfl
theorem MX1_prepare : gMth yX1_prepare cX1_prepare 6 (some .int) := ⟨tb_at 492 (by decide +kernel), by decide, by decide +kernel, by decide +kernel⟩
theorem hX1_prepare : gNH yX1_prepare 2 := ⟨by decide +kernel, by decide +kernel, by decide +kernel⟩
theorem iX1_prepare : Cond.instanceMethod yX1_prepare ∈ lw_tbl := tb_at 491 (by decide +kernel)
theorem sX1_prepare : Cond.selects yX1_prepare.cls yX1_prepare yX1_prepare ∈ lw_tbl := tb_at 11 (by decide +kernel)
theorem nX1_prepare : Cond.initialized yX1_prepare.cls ∈ lw_tbl := tb_at 53 (by decide +kernel)
theorem kX1_prepare : (vwCl[1]?).map (fun q => q.1) = some yX1_prepare.cls := rfl
theorem MX1_writeImage : gMth yX1_writeImage cX1_writeImage 5 none := ⟨tb_at 528 (by decide +kernel), by decide, by decide +kernel, by decide +kernel⟩
theorem hX1_writeImage : gNH yX1_writeImage 3 := ⟨by decide +kernel, by decide +kernel, by decide +kernel⟩
theorem iX1_writeImage : Cond.instanceMethod yX1_writeImage ∈ lw_tbl := tb_at 526 (by decide +kernel)
theorem sX1_writeImage : Cond.selects yX1_writeImage.cls yX1_writeImage yX1_writeImage ∈ lw_tbl := tb_at 527 (by decide +kernel)
theorem nX1_writeImage : Cond.initialized yX1_writeImage.cls ∈ lw_tbl := tb_at 53 (by decide +kernel)
theorem kX1_writeImage : (vwCl[1]?).map (fun q => q.1) = some yX1_writeImage.cls := rfl
theorem MX2_add : gMth yX2_add cX2_add 2 (some .boolean) := ⟨tb_at 117 (by decide +kernel), by decide, by decide +kernel, by decide +kernel⟩
theorem hX2_add : gNH yX2_add 1 := ⟨by decide +kernel, by decide +kernel, by decide +kernel⟩
theorem iX2_add : Cond.instanceMethod yX2_add ∈ lw_tbl := tb_at 115 (by decide +kernel)
theorem sX2_add : Cond.selects yX2_add.cls yX2_add yX2_add ∈ lw_tbl := tb_at 116 (by decide +kernel)
theorem nX2_add : Cond.initialized yX2_add.cls ∈ lw_tbl := tb_at 51 (by decide +kernel)
theorem kX2_add : (vwCl[2]?).map (fun q => q.1) = some yX2_add.cls := rfl
theorem MX2_addAll : gMth yX2_addAll cX2_addAll 4 (some .boolean) := ⟨tb_at 550 (by decide +kernel), by decide, by decide +kernel, by decide +kernel⟩
theorem hX2_addAll : gNH yX2_addAll 1 := ⟨by decide +kernel, by decide +kernel, by decide +kernel⟩
theorem iX2_addAll : Cond.instanceMethod yX2_addAll ∈ lw_tbl := tb_at 548 (by decide +kernel)
theorem sX2_addAll : Cond.selects yX2_addAll.cls yX2_addAll yX2_addAll ∈ lw_tbl := tb_at 549 (by decide +kernel)
theorem nX2_addAll : Cond.initialized yX2_addAll.cls ∈ lw_tbl := tb_at 51 (by decide +kernel)
theorem kX2_addAll : (vwCl[2]?).map (fun q => q.1) = some yX2_addAll.cls := rfl
theorem MX2_advance : gMth yX2_advance cX2_advance 3 none := ⟨tb_at 646 (by decide +kernel), by decide, by decide +kernel, by decide +kernel⟩
theorem hX2_advance : gNH yX2_advance 1 := ⟨by decide +kernel, by decide +kernel, by decide +kernel⟩
theorem iX2_advance : Cond.instanceMethod yX2_advance ∈ lw_tbl := tb_at 644 (by decide +kernel)
theorem sX2_advance : Cond.selects yX2_advance.cls yX2_advance yX2_advance ∈ lw_tbl := tb_at 645 (by decide +kernel)
theorem nX2_advance : Cond.initialized yX2_advance.cls ∈ lw_tbl := tb_at 51 (by decide +kernel)
theorem kX2_advance : (vwCl[2]?).map (fun q => q.1) = some yX2_advance.cls := rfl
theorem MX2_at : gMth yX2_at cX2_at 3 (some .int) := ⟨tb_at 280 (by decide +kernel), by decide, by decide +kernel, by decide +kernel⟩
theorem hX2_at : gNH yX2_at 1 := ⟨by decide +kernel, by decide +kernel, by decide +kernel⟩
theorem iX2_at : Cond.instanceMethod yX2_at ∈ lw_tbl := tb_at 278 (by decide +kernel)
theorem sX2_at : Cond.selects yX2_at.cls yX2_at yX2_at ∈ lw_tbl := tb_at 279 (by decide +kernel)
theorem nX2_at : Cond.initialized yX2_at.cls ∈ lw_tbl := tb_at 51 (by decide +kernel)
theorem kX2_at : (vwCl[2]?).map (fun q => q.1) = some yX2_at.cls := rfl
theorem MX2_clear : gMth yX2_clear cX2_clear 1 none := ⟨tb_at 113 (by decide +kernel), by decide, by decide +kernel, by decide +kernel⟩
theorem hX2_clear : gNH yX2_clear 0 := ⟨by decide +kernel, by decide +kernel, by decide +kernel⟩
theorem iX2_clear : Cond.instanceMethod yX2_clear ∈ lw_tbl := tb_at 111 (by decide +kernel)
theorem sX2_clear : Cond.selects yX2_clear.cls yX2_clear yX2_clear ∈ lw_tbl := tb_at 112 (by decide +kernel)
theorem nX2_clear : Cond.initialized yX2_clear.cls ∈ lw_tbl := tb_at 51 (by decide +kernel)
theorem kX2_clear : (vwCl[2]?).map (fun q => q.1) = some yX2_clear.cls := rfl
theorem MX2_countOf : gMth yX2_countOf cX2_countOf 4 (some .int) := ⟨tb_at 350 (by decide +kernel), by decide, by decide +kernel, by decide +kernel⟩
theorem hX2_countOf : gNH yX2_countOf 1 := ⟨by decide +kernel, by decide +kernel, by decide +kernel⟩
theorem iX2_countOf : Cond.instanceMethod yX2_countOf ∈ lw_tbl := tb_at 348 (by decide +kernel)
theorem sX2_countOf : Cond.selects yX2_countOf.cls yX2_countOf yX2_countOf ∈ lw_tbl := tb_at 349 (by decide +kernel)
theorem nX2_countOf : Cond.initialized yX2_countOf.cls ∈ lw_tbl := tb_at 51 (by decide +kernel)
theorem kX2_countOf : (vwCl[2]?).map (fun q => q.1) = some yX2_countOf.cls := rfl
theorem MX2_exchange : gMth yX2_exchange cX2_exchange 4 none := ⟨tb_at 293 (by decide +kernel), by decide, by decide +kernel, by decide +kernel⟩
theorem hX2_exchange : gNH yX2_exchange 2 := ⟨by decide +kernel, by decide +kernel, by decide +kernel⟩
theorem iX2_exchange : Cond.instanceMethod yX2_exchange ∈ lw_tbl := tb_at 291 (by decide +kernel)
theorem sX2_exchange : Cond.selects yX2_exchange.cls yX2_exchange yX2_exchange ∈ lw_tbl := tb_at 292 (by decide +kernel)
theorem nX2_exchange : Cond.initialized yX2_exchange.cls ∈ lw_tbl := tb_at 51 (by decide +kernel)
theorem kX2_exchange : (vwCl[2]?).map (fun q => q.1) = some yX2_exchange.cls := rfl
theorem MX2_fillWith : gMth yX2_fillWith cX2_fillWith 4 none := ⟨tb_at 109 (by decide +kernel), by decide, by decide +kernel, by decide +kernel⟩
theorem hX2_fillWith : gNH yX2_fillWith 2 := ⟨by decide +kernel, by decide +kernel, by decide +kernel⟩
theorem iX2_fillWith : Cond.instanceMethod yX2_fillWith ∈ lw_tbl := tb_at 107 (by decide +kernel)
theorem sX2_fillWith : Cond.selects yX2_fillWith.cls yX2_fillWith yX2_fillWith ∈ lw_tbl := tb_at 108 (by decide +kernel)
theorem nX2_fillWith : Cond.initialized yX2_fillWith.cls ∈ lw_tbl := tb_at 51 (by decide +kernel)
theorem kX2_fillWith : (vwCl[2]?).map (fun q => q.1) = some yX2_fillWith.cls := rfl
theorem MX2_hasIndex : gMth yX2_hasIndex cX2_hasIndex 2 (some .boolean) := ⟨tb_at 301 (by decide +kernel), by decide, by decide +kernel, by decide +kernel⟩
theorem hX2_hasIndex : gNH yX2_hasIndex 1 := ⟨by decide +kernel, by decide +kernel, by decide +kernel⟩
theorem iX2_hasIndex : Cond.instanceMethod yX2_hasIndex ∈ lw_tbl := tb_at 299 (by decide +kernel)
theorem sX2_hasIndex : Cond.selects yX2_hasIndex.cls yX2_hasIndex yX2_hasIndex ∈ lw_tbl := tb_at 300 (by decide +kernel)
theorem nX2_hasIndex : Cond.initialized yX2_hasIndex.cls ∈ lw_tbl := tb_at 51 (by decide +kernel)
theorem kX2_hasIndex : (vwCl[2]?).map (fun q => q.1) = some yX2_hasIndex.cls := rfl
theorem MX2_hasRange : gMth yX2_hasRange cX2_hasRange 3 (some .boolean) := ⟨tb_at 686 (by decide +kernel), by decide, by decide +kernel, by decide +kernel⟩
theorem hX2_hasRange : gNH yX2_hasRange 2 := ⟨by decide +kernel, by decide +kernel, by decide +kernel⟩
theorem iX2_hasRange : Cond.instanceMethod yX2_hasRange ∈ lw_tbl := tb_at 684 (by decide +kernel)
theorem sX2_hasRange : Cond.selects yX2_hasRange.cls yX2_hasRange yX2_hasRange ∈ lw_tbl := tb_at 685 (by decide +kernel)
theorem nX2_hasRange : Cond.initialized yX2_hasRange.cls ∈ lw_tbl := tb_at 51 (by decide +kernel)
theorem kX2_hasRange : (vwCl[2]?).map (fun q => q.1) = some yX2_hasRange.cls := rfl
theorem MX2_init : gMth yX2_init cX2_init 2 none := ⟨tb_at 85 (by decide +kernel), by decide, by decide +kernel, by decide +kernel⟩
theorem hX2_init : gNH yX2_init 1 := ⟨by decide +kernel, by decide +kernel, by decide +kernel⟩
theorem iX2_init : Cond.instanceMethod yX2_init ∈ lw_tbl := tb_at 84 (by decide +kernel)
theorem nX2_init : Cond.initialized yX2_init.cls ∈ lw_tbl := tb_at 51 (by decide +kernel)
theorem kX2_init : (vwCl[2]?).map (fun q => q.1) = some yX2_init.cls := rfl
theorem MX2_letterCount : gMth yX2_letterCount cX2_letterCount 3 (some .int) := ⟨tb_at 361 (by decide +kernel), by decide, by decide +kernel, by decide +kernel⟩
theorem hX2_letterCount : gNH yX2_letterCount 0 := ⟨by decide +kernel, by decide +kernel, by decide +kernel⟩
theorem iX2_letterCount : Cond.instanceMethod yX2_letterCount ∈ lw_tbl := tb_at 359 (by decide +kernel)
theorem sX2_letterCount : Cond.selects yX2_letterCount.cls yX2_letterCount yX2_letterCount ∈ lw_tbl := tb_at 360 (by decide +kernel)
theorem nX2_letterCount : Cond.initialized yX2_letterCount.cls ∈ lw_tbl := tb_at 51 (by decide +kernel)
theorem kX2_letterCount : (vwCl[2]?).map (fun q => q.1) = some yX2_letterCount.cls := rfl
theorem MX2_makeCanonical : gMth yX2_makeCanonical cX2_makeCanonical 3 none := ⟨tb_at 288 (by decide +kernel), by decide, by decide +kernel, by decide +kernel⟩
theorem hX2_makeCanonical : gNH yX2_makeCanonical 0 := ⟨by decide +kernel, by decide +kernel, by decide +kernel⟩
theorem iX2_makeCanonical : Cond.instanceMethod yX2_makeCanonical ∈ lw_tbl := tb_at 286 (by decide +kernel)
theorem sX2_makeCanonical : Cond.selects yX2_makeCanonical.cls yX2_makeCanonical yX2_makeCanonical ∈ lw_tbl := tb_at 287 (by decide +kernel)
theorem nX2_makeCanonical : Cond.initialized yX2_makeCanonical.cls ∈ lw_tbl := tb_at 51 (by decide +kernel)
theorem kX2_makeCanonical : (vwCl[2]?).map (fun q => q.1) = some yX2_makeCanonical.cls := rfl
theorem MX2_put : gMth yX2_put cX2_put 3 none := ⟨tb_at 297 (by decide +kernel), by decide, by decide +kernel, by decide +kernel⟩
theorem hX2_put : gNH yX2_put 2 := ⟨by decide +kernel, by decide +kernel, by decide +kernel⟩
theorem iX2_put : Cond.instanceMethod yX2_put ∈ lw_tbl := tb_at 295 (by decide +kernel)
theorem sX2_put : Cond.selects yX2_put.cls yX2_put yX2_put ∈ lw_tbl := tb_at 296 (by decide +kernel)
theorem nX2_put : Cond.initialized yX2_put.cls ∈ lw_tbl := tb_at 51 (by decide +kernel)
theorem kX2_put : (vwCl[2]?).map (fun q => q.1) = some yX2_put.cls := rfl
theorem MX2_putForCodes : gMth yX2_putForCodes cX2_putForCodes 5 none := ⟨tb_at 376 (by decide +kernel), by decide, by decide +kernel, by decide +kernel⟩
theorem hX2_putForCodes : gNH yX2_putForCodes 3 := ⟨by decide +kernel, by decide +kernel, by decide +kernel⟩
theorem iX2_putForCodes : Cond.instanceMethod yX2_putForCodes ∈ lw_tbl := tb_at 374 (by decide +kernel)
theorem sX2_putForCodes : Cond.selects yX2_putForCodes.cls yX2_putForCodes yX2_putForCodes ∈ lw_tbl := tb_at 375 (by decide +kernel)
theorem nX2_putForCodes : Cond.initialized yX2_putForCodes.cls ∈ lw_tbl := tb_at 51 (by decide +kernel)
theorem kX2_putForCodes : (vwCl[2]?).map (fun q => q.1) = some yX2_putForCodes.cls := rfl
theorem MX2_removeLast : gMth yX2_removeLast cX2_removeLast 1 none := ⟨tb_at 463 (by decide +kernel), by decide, by decide +kernel, by decide +kernel⟩
theorem hX2_removeLast : gNH yX2_removeLast 0 := ⟨by decide +kernel, by decide +kernel, by decide +kernel⟩
theorem iX2_removeLast : Cond.instanceMethod yX2_removeLast ∈ lw_tbl := tb_at 461 (by decide +kernel)
theorem sX2_removeLast : Cond.selects yX2_removeLast.cls yX2_removeLast yX2_removeLast ∈ lw_tbl := tb_at 462 (by decide +kernel)
theorem nX2_removeLast : Cond.initialized yX2_removeLast.cls ∈ lw_tbl := tb_at 51 (by decide +kernel)
theorem kX2_removeLast : (vwCl[2]?).map (fun q => q.1) = some yX2_removeLast.cls := rfl
theorem MX2_setTo : gMth yX2_setTo cX2_setTo 4 none := ⟨tb_at 312 (by decide +kernel), by decide, by decide +kernel, by decide +kernel⟩
theorem hX2_setTo : gNH yX2_setTo 1 := ⟨by decide +kernel, by decide +kernel, by decide +kernel⟩
theorem iX2_setTo : Cond.instanceMethod yX2_setTo ∈ lw_tbl := tb_at 310 (by decide +kernel)
theorem sX2_setTo : Cond.selects yX2_setTo.cls yX2_setTo yX2_setTo ∈ lw_tbl := tb_at 311 (by decide +kernel)
theorem nX2_setTo : Cond.initialized yX2_setTo.cls ∈ lw_tbl := tb_at 51 (by decide +kernel)
theorem kX2_setTo : (vwCl[2]?).map (fun q => q.1) = some yX2_setTo.cls := rfl
theorem MX2_turnAround : gMth yX2_turnAround cX2_turnAround 4 none := ⟨tb_at 449 (by decide +kernel), by decide, by decide +kernel, by decide +kernel⟩
theorem hX2_turnAround : gNH yX2_turnAround 0 := ⟨by decide +kernel, by decide +kernel, by decide +kernel⟩
theorem iX2_turnAround : Cond.instanceMethod yX2_turnAround ∈ lw_tbl := tb_at 447 (by decide +kernel)
theorem sX2_turnAround : Cond.selects yX2_turnAround.cls yX2_turnAround yX2_turnAround ∈ lw_tbl := tb_at 448 (by decide +kernel)
theorem nX2_turnAround : Cond.initialized yX2_turnAround.cls ∈ lw_tbl := tb_at 51 (by decide +kernel)
theorem kX2_turnAround : (vwCl[2]?).map (fun q => q.1) = some yX2_turnAround.cls := rfl
theorem MX2_variablesIn : gMth yX2_variablesIn cX2_variablesIn 3 (some .int) := ⟨tb_at 335 (by decide +kernel), by decide, by decide +kernel, by decide +kernel⟩
theorem hX2_variablesIn : gNH yX2_variablesIn 0 := ⟨by decide +kernel, by decide +kernel, by decide +kernel⟩
theorem iX2_variablesIn : Cond.instanceMethod yX2_variablesIn ∈ lw_tbl := tb_at 333 (by decide +kernel)
theorem sX2_variablesIn : Cond.selects yX2_variablesIn.cls yX2_variablesIn yX2_variablesIn ∈ lw_tbl := tb_at 334 (by decide +kernel)
theorem nX2_variablesIn : Cond.initialized yX2_variablesIn.cls ∈ lw_tbl := tb_at 51 (by decide +kernel)
theorem kX2_variablesIn : (vwCl[2]?).map (fun q => q.1) = some yX2_variablesIn.cls := rfl
theorem MX2_wordCode : gMth yX2_wordCode cX2_wordCode 6 (some .long) := ⟨tb_at 578 (by decide +kernel), by decide, by decide +kernel, by decide +kernel⟩
theorem hX2_wordCode : gNH yX2_wordCode 0 := ⟨by decide +kernel, by decide +kernel, by decide +kernel⟩
theorem iX2_wordCode : Cond.instanceMethod yX2_wordCode ∈ lw_tbl := tb_at 576 (by decide +kernel)
theorem sX2_wordCode : Cond.selects yX2_wordCode.cls yX2_wordCode yX2_wordCode ∈ lw_tbl := tb_at 577 (by decide +kernel)
theorem nX2_wordCode : Cond.initialized yX2_wordCode.cls ∈ lw_tbl := tb_at 51 (by decide +kernel)
theorem kX2_wordCode : (vwCl[2]?).map (fun q => q.1) = some yX2_wordCode.cls := rfl
theorem MX3_canBegin : gMth yX3_canBegin cX3_canBegin 7 (some .boolean) := ⟨tb_at 614 (by decide +kernel), by decide, by decide +kernel, by decide +kernel⟩
theorem hX3_canBegin : gNH yX3_canBegin 3 := ⟨by decide +kernel, by decide +kernel, by decide +kernel⟩
theorem iX3_canBegin : Cond.instanceMethod yX3_canBegin ∈ lw_tbl := tb_at 613 (by decide +kernel)
theorem sX3_canBegin : Cond.selects yX3_canBegin.cls yX3_canBegin yX3_canBegin ∈ lw_tbl := tb_at 20 (by decide +kernel)
theorem nX3_canBegin : Cond.initialized yX3_canBegin.cls ∈ lw_tbl := tb_at 54 (by decide +kernel)
theorem kX3_canBegin : (vwCl[3]?).map (fun q => q.1) = some yX3_canBegin.cls := rfl
theorem MX3_canStretch : gMth yX3_canStretch cX3_canStretch 5 (some .boolean) := ⟨tb_at 633 (by decide +kernel), by decide, by decide +kernel, by decide +kernel⟩
theorem hX3_canStretch : gNH yX3_canStretch 3 := ⟨by decide +kernel, by decide +kernel, by decide +kernel⟩
theorem tX3_canStretch : Cond.static yX3_canStretch ∈ lw_tbl := tb_at 632 (by decide +kernel)
theorem nX3_canStretch : Cond.initialized yX3_canStretch.cls ∈ lw_tbl := tb_at 54 (by decide +kernel)
theorem kX3_canStretch : (vwCl[3]?).map (fun q => q.1) = some yX3_canStretch.cls := rfl
theorem MX3_complete : gMth yX3_complete cX3_complete 8 (some .boolean) := ⟨tb_at 610 (by decide +kernel), by decide, by decide +kernel, by decide +kernel⟩
theorem hX3_complete : gNH yX3_complete 4 := ⟨by decide +kernel, by decide +kernel, by decide +kernel⟩
theorem iX3_complete : Cond.instanceMethod yX3_complete ∈ lw_tbl := tb_at 609 (by decide +kernel)
theorem sX3_complete : Cond.selects yX3_complete.cls yX3_complete yX3_complete ∈ lw_tbl := tb_at 19 (by decide +kernel)
theorem nX3_complete : Cond.initialized yX3_complete.cls ∈ lw_tbl := tb_at 54 (by decide +kernel)
theorem kX3_complete : (vwCl[3]?).map (fun q => q.1) = some yX3_complete.cls := rfl
theorem MX3_completeWithVariable : gMth yX3_completeWithVariable cX3_completeWithVariable 11 (some .boolean) := ⟨tb_at 621 (by decide +kernel), by decide, by decide +kernel, by decide +kernel⟩
theorem hX3_completeWithVariable : gNH yX3_completeWithVariable 4 := ⟨by decide +kernel, by decide +kernel, by decide +kernel⟩
theorem iX3_completeWithVariable : Cond.instanceMethod yX3_completeWithVariable ∈ lw_tbl := tb_at 620 (by decide +kernel)
theorem sX3_completeWithVariable : Cond.selects yX3_completeWithVariable.cls yX3_completeWithVariable yX3_completeWithVariable ∈ lw_tbl := tb_at 21 (by decide +kernel)
theorem nX3_completeWithVariable : Cond.initialized yX3_completeWithVariable.cls ∈ lw_tbl := tb_at 54 (by decide +kernel)
theorem kX3_completeWithVariable : (vwCl[3]?).map (fun q => q.1) = some yX3_completeWithVariable.cls := rfl
theorem MX3_findBest : gMth yX3_findBest cX3_findBest 8 (some .boolean) := ⟨tb_at 604 (by decide +kernel), by decide, by decide +kernel, by decide +kernel⟩
theorem hX3_findBest : gNH yX3_findBest 3 := ⟨by decide +kernel, by decide +kernel, by decide +kernel⟩
theorem iX3_findBest : Cond.instanceMethod yX3_findBest ∈ lw_tbl := tb_at 602 (by decide +kernel)
theorem sX3_findBest : Cond.selects yX3_findBest.cls yX3_findBest yX3_findBest ∈ lw_tbl := tb_at 603 (by decide +kernel)
theorem nX3_findBest : Cond.initialized yX3_findBest.cls ∈ lw_tbl := tb_at 54 (by decide +kernel)
theorem kX3_findBest : (vwCl[3]?).map (fun q => q.1) = some yX3_findBest.cls := rfl
theorem MX3_findLongestOfX : gMth yX3_findLongestOfX cX3_findLongestOfX 4 (some .boolean) := ⟨tb_at 630 (by decide +kernel), by decide, by decide +kernel, by decide +kernel⟩
theorem hX3_findLongestOfX : gNH yX3_findLongestOfX 1 := ⟨by decide +kernel, by decide +kernel, by decide +kernel⟩
theorem iX3_findLongestOfX : Cond.instanceMethod yX3_findLongestOfX ∈ lw_tbl := tb_at 628 (by decide +kernel)
theorem sX3_findLongestOfX : Cond.selects yX3_findLongestOfX.cls yX3_findLongestOfX yX3_findLongestOfX ∈ lw_tbl := tb_at 629 (by decide +kernel)
theorem nX3_findLongestOfX : Cond.initialized yX3_findLongestOfX.cls ∈ lw_tbl := tb_at 54 (by decide +kernel)
theorem kX3_findLongestOfX : (vwCl[3]?).map (fun q => q.1) = some yX3_findLongestOfX.cls := rfl
theorem MX3_init : gMth yX3_init cX3_init 1 none := ⟨tb_at 175 (by decide +kernel), by decide, by decide +kernel, by decide +kernel⟩
theorem hX3_init : gNH yX3_init 0 := ⟨by decide +kernel, by decide +kernel, by decide +kernel⟩
theorem iX3_init : Cond.instanceMethod yX3_init ∈ lw_tbl := tb_at 174 (by decide +kernel)
theorem nX3_init : Cond.initialized yX3_init.cls ∈ lw_tbl := tb_at 54 (by decide +kernel)
theorem kX3_init : (vwCl[3]?).map (fun q => q.1) = some yX3_init.cls := rfl
theorem MX4_init : gMth yX4_init cX4_init 1 none := ⟨tb_at 201 (by decide +kernel), by decide, by decide +kernel, by decide +kernel⟩
theorem hX4_init : gNH yX4_init 0 := ⟨by decide +kernel, by decide +kernel, by decide +kernel⟩
theorem iX4_init : Cond.instanceMethod yX4_init ∈ lw_tbl := tb_at 200 (by decide +kernel)
theorem nX4_init : Cond.initialized yX4_init.cls ∈ lw_tbl := tb_at 55 (by decide +kernel)
theorem kX4_init : (vwCl[4]?).map (fun q => q.1) = some yX4_init.cls := rfl
theorem MX5_addProduced : gMth yX5_addProduced cX5_addProduced 2 (some .int) := ⟨tb_at 542 (by decide +kernel), by decide, by decide +kernel, by decide +kernel⟩
theorem hX5_addProduced : gNH yX5_addProduced 1 := ⟨by decide +kernel, by decide +kernel, by decide +kernel⟩
theorem iX5_addProduced : Cond.instanceMethod yX5_addProduced ∈ lw_tbl := tb_at 540 (by decide +kernel)
theorem sX5_addProduced : Cond.selects yX5_addProduced.cls yX5_addProduced yX5_addProduced ∈ lw_tbl := tb_at 541 (by decide +kernel)
theorem nX5_addProduced : Cond.initialized yX5_addProduced.cls ∈ lw_tbl := tb_at 49 (by decide +kernel)
theorem kX5_addProduced : (vwCl[5]?).map (fun q => q.1) = some yX5_addProduced.cls := rfl
theorem MX5_addToSample : gMth yX5_addToSample cX5_addToSample 1 (some .int) := ⟨tb_at 554 (by decide +kernel), by decide, by decide +kernel, by decide +kernel⟩
theorem hX5_addToSample : gNH yX5_addToSample 0 := ⟨by decide +kernel, by decide +kernel, by decide +kernel⟩
theorem iX5_addToSample : Cond.instanceMethod yX5_addToSample ∈ lw_tbl := tb_at 553 (by decide +kernel)
theorem sX5_addToSample : Cond.selects yX5_addToSample.cls yX5_addToSample yX5_addToSample ∈ lw_tbl := tb_at 16 (by decide +kernel)
theorem nX5_addToSample : Cond.initialized yX5_addToSample.cls ∈ lw_tbl := tb_at 49 (by decide +kernel)
theorem kX5_addToSample : (vwCl[5]?).map (fun q => q.1) = some yX5_addToSample.cls := rfl
theorem MX5_addWord : gMth yX5_addWord cX5_addWord 1 (some .int) := ⟨tb_at 558 (by decide +kernel), by decide, by decide +kernel, by decide +kernel⟩
theorem hX5_addWord : gNH yX5_addWord 0 := ⟨by decide +kernel, by decide +kernel, by decide +kernel⟩
theorem iX5_addWord : Cond.instanceMethod yX5_addWord ∈ lw_tbl := tb_at 556 (by decide +kernel)
theorem sX5_addWord : Cond.selects yX5_addWord.cls yX5_addWord yX5_addWord ∈ lw_tbl := tb_at 557 (by decide +kernel)
theorem nX5_addWord : Cond.initialized yX5_addWord.cls ∈ lw_tbl := tb_at 49 (by decide +kernel)
theorem kX5_addWord : (vwCl[5]?).map (fun q => q.1) = some yX5_addWord.cls := rfl
theorem MX5_advantage : gMth yX5_advantage cX5_advantage 5 (some .int) := ⟨tb_at 357 (by decide +kernel), by decide, by decide +kernel, by decide +kernel⟩
theorem hX5_advantage : gNH yX5_advantage 2 := ⟨by decide +kernel, by decide +kernel, by decide +kernel⟩
theorem tX5_advantage : Cond.static yX5_advantage ∈ lw_tbl := tb_at 356 (by decide +kernel)
theorem nX5_advantage : Cond.initialized yX5_advantage.cls ∈ lw_tbl := tb_at 49 (by decide +kernel)
theorem kX5_advantage : (vwCl[5]?).map (fun q => q.1) = some yX5_advantage.cls := rfl
theorem MX5_allocate : gMth yX5_allocate cX5_allocate 4 (some .int) := ⟨tb_at 658 (by decide +kernel), by decide, by decide +kernel, by decide +kernel⟩
theorem hX5_allocate : gNH yX5_allocate 3 := ⟨by decide +kernel, by decide +kernel, by decide +kernel⟩
theorem iX5_allocate : Cond.instanceMethod yX5_allocate ∈ lw_tbl := tb_at 656 (by decide +kernel)
theorem sX5_allocate : Cond.selects yX5_allocate.cls yX5_allocate yX5_allocate ∈ lw_tbl := tb_at 657 (by decide +kernel)
theorem nX5_allocate : Cond.initialized yX5_allocate.cls ∈ lw_tbl := tb_at 49 (by decide +kernel)
theorem kX5_allocate : (vwCl[5]?).map (fun q => q.1) = some yX5_allocate.cls := rfl
theorem MX5_append : gMth yX5_append cX5_append 4 (some .int) := ⟨tb_at 254 (by decide +kernel), by decide, by decide +kernel, by decide +kernel⟩
theorem hX5_append : gNH yX5_append 2 := ⟨by decide +kernel, by decide +kernel, by decide +kernel⟩
theorem iX5_append : Cond.instanceMethod yX5_append ∈ lw_tbl := tb_at 252 (by decide +kernel)
theorem sX5_append : Cond.selects yX5_append.cls yX5_append yX5_append ∈ lw_tbl := tb_at 253 (by decide +kernel)
theorem nX5_append : Cond.initialized yX5_append.cls ∈ lw_tbl := tb_at 49 (by decide +kernel)
theorem kX5_append : (vwCl[5]?).map (fun q => q.1) = some yX5_append.cls := rfl
theorem MX5_chainBreak : gMth yX5_chainBreak cX5_chainBreak 5 (some .int) := ⟨tb_at 596 (by decide +kernel), by decide, by decide +kernel, by decide +kernel⟩
theorem hX5_chainBreak : gNH yX5_chainBreak 3 := ⟨by decide +kernel, by decide +kernel, by decide +kernel⟩
theorem iX5_chainBreak : Cond.instanceMethod yX5_chainBreak ∈ lw_tbl := tb_at 594 (by decide +kernel)
theorem sX5_chainBreak : Cond.selects yX5_chainBreak.cls yX5_chainBreak yX5_chainBreak ∈ lw_tbl := tb_at 595 (by decide +kernel)
theorem nX5_chainBreak : Cond.initialized yX5_chainBreak.cls ∈ lw_tbl := tb_at 49 (by decide +kernel)
theorem kX5_chainBreak : (vwCl[5]?).map (fun q => q.1) = some yX5_chainBreak.cls := rfl
theorem MX5_changeAsTold : gMth yX5_changeAsTold cX5_changeAsTold 3 (some .int) := ⟨tb_at 392 (by decide +kernel), by decide, by decide +kernel, by decide +kernel⟩
theorem hX5_changeAsTold : gNH yX5_changeAsTold 1 := ⟨by decide +kernel, by decide +kernel, by decide +kernel⟩
theorem iX5_changeAsTold : Cond.instanceMethod yX5_changeAsTold ∈ lw_tbl := tb_at 391 (by decide +kernel)
theorem sX5_changeAsTold : Cond.selects yX5_changeAsTold.cls yX5_changeAsTold yX5_changeAsTold ∈ lw_tbl := tb_at 7 (by decide +kernel)
theorem nX5_changeAsTold : Cond.initialized yX5_changeAsTold.cls ∈ lw_tbl := tb_at 49 (by decide +kernel)
theorem kX5_changeAsTold : (vwCl[5]?).map (fun q => q.1) = some yX5_changeAsTold.cls := rfl
theorem MX5_clearInput : gMth yX5_clearInput cX5_clearInput 2 (some .int) := ⟨tb_at 259 (by decide +kernel), by decide, by decide +kernel, by decide +kernel⟩
theorem hX5_clearInput : gNH yX5_clearInput 0 := ⟨by decide +kernel, by decide +kernel, by decide +kernel⟩
theorem iX5_clearInput : Cond.instanceMethod yX5_clearInput ∈ lw_tbl := tb_at 257 (by decide +kernel)
theorem sX5_clearInput : Cond.selects yX5_clearInput.cls yX5_clearInput yX5_clearInput ∈ lw_tbl := tb_at 258 (by decide +kernel)
theorem nX5_clearInput : Cond.initialized yX5_clearInput.cls ∈ lw_tbl := tb_at 49 (by decide +kernel)
theorem kX5_clearInput : (vwCl[5]?).map (fun q => q.1) = some yX5_clearInput.cls := rfl
theorem MX5_codeOf : gMth yX5_codeOf cX5_codeOf 3 (some .int) := ⟨tb_at 284 (by decide +kernel), by decide, by decide +kernel, by decide +kernel⟩
theorem hX5_codeOf : gNH yX5_codeOf 1 := ⟨by decide +kernel, by decide +kernel, by decide +kernel⟩
theorem iX5_codeOf : Cond.instanceMethod yX5_codeOf ∈ lw_tbl := tb_at 283 (by decide +kernel)
theorem sX5_codeOf : Cond.selects yX5_codeOf.cls yX5_codeOf yX5_codeOf ∈ lw_tbl := tb_at 3 (by decide +kernel)
theorem nX5_codeOf : Cond.initialized yX5_codeOf.cls ∈ lw_tbl := tb_at 49 (by decide +kernel)
theorem kX5_codeOf : (vwCl[5]?).map (fun q => q.1) = some yX5_codeOf.cls := rfl
theorem MX5_compareQuality : gMth yX5_compareQuality cX5_compareQuality 3 (some .int) := ⟨tb_at 354 (by decide +kernel), by decide, by decide +kernel, by decide +kernel⟩
theorem hX5_compareQuality : gNH yX5_compareQuality 2 := ⟨by decide +kernel, by decide +kernel, by decide +kernel⟩
theorem iX5_compareQuality : Cond.instanceMethod yX5_compareQuality ∈ lw_tbl := tb_at 352 (by decide +kernel)
theorem sX5_compareQuality : Cond.selects yX5_compareQuality.cls yX5_compareQuality yX5_compareQuality ∈ lw_tbl := tb_at 353 (by decide +kernel)
theorem nX5_compareQuality : Cond.initialized yX5_compareQuality.cls ∈ lw_tbl := tb_at 49 (by decide +kernel)
theorem kX5_compareQuality : (vwCl[5]?).map (fun q => q.1) = some yX5_compareQuality.cls := rfl
theorem MX5_copy : gMth yX5_copy cX5_copy 3 (some .int) := ⟨tb_at 319 (by decide +kernel), by decide, by decide +kernel, by decide +kernel⟩
theorem hX5_copy : gNH yX5_copy 2 := ⟨by decide +kernel, by decide +kernel, by decide +kernel⟩
theorem iX5_copy : Cond.instanceMethod yX5_copy ∈ lw_tbl := tb_at 317 (by decide +kernel)
theorem sX5_copy : Cond.selects yX5_copy.cls yX5_copy yX5_copy ∈ lw_tbl := tb_at 318 (by decide +kernel)
theorem nX5_copy : Cond.initialized yX5_copy.cls ∈ lw_tbl := tb_at 49 (by decide +kernel)
theorem kX5_copy : (vwCl[5]?).map (fun q => q.1) = some yX5_copy.cls := rfl
theorem MX5_copyElements : gMth yX5_copyElements cX5_copyElements 8 (some .int) := ⟨tb_at 682 (by decide +kernel), by decide, by decide +kernel, by decide +kernel⟩
theorem hX5_copyElements : gNH yX5_copyElements 5 := ⟨by decide +kernel, by decide +kernel, by decide +kernel⟩
theorem iX5_copyElements : Cond.instanceMethod yX5_copyElements ∈ lw_tbl := tb_at 680 (by decide +kernel)
theorem sX5_copyElements : Cond.selects yX5_copyElements.cls yX5_copyElements yX5_copyElements ∈ lw_tbl := tb_at 681 (by decide +kernel)
theorem nX5_copyElements : Cond.initialized yX5_copyElements.cls ∈ lw_tbl := tb_at 49 (by decide +kernel)
theorem kX5_copyElements : (vwCl[5]?).map (fun q => q.1) = some yX5_copyElements.cls := rfl
theorem MX5_countWords : gMth yX5_countWords cX5_countWords 7 (some .int) := ⟨tb_at 637 (by decide +kernel), by decide, by decide +kernel, by decide +kernel⟩
theorem hX5_countWords : gNH yX5_countWords 3 := ⟨by decide +kernel, by decide +kernel, by decide +kernel⟩
theorem iX5_countWords : Cond.instanceMethod yX5_countWords ∈ lw_tbl := tb_at 635 (by decide +kernel)
theorem sX5_countWords : Cond.selects yX5_countWords.cls yX5_countWords yX5_countWords ∈ lw_tbl := tb_at 636 (by decide +kernel)
theorem nX5_countWords : Cond.initialized yX5_countWords.cls ∈ lw_tbl := tb_at 49 (by decide +kernel)
theorem kX5_countWords : (vwCl[5]?).map (fun q => q.1) = some yX5_countWords.cls := rfl
theorem MX5_difference : gMth yX5_difference cX5_difference 6 (some .long) := ⟨tb_at 650 (by decide +kernel), by decide, by decide +kernel, by decide +kernel⟩
theorem hX5_difference : gNH yX5_difference 4 := ⟨by decide +kernel, by decide +kernel, by decide +kernel⟩
theorem iX5_difference : Cond.instanceMethod yX5_difference ∈ lw_tbl := tb_at 648 (by decide +kernel)
theorem sX5_difference : Cond.selects yX5_difference.cls yX5_difference yX5_difference ∈ lw_tbl := tb_at 649 (by decide +kernel)
theorem nX5_difference : Cond.initialized yX5_difference.cls ∈ lw_tbl := tb_at 49 (by decide +kernel)
theorem kX5_difference : (vwCl[5]?).map (fun q => q.1) = some yX5_difference.cls := rfl
theorem MX5_dropLast : gMth yX5_dropLast cX5_dropLast 1 none := ⟨tb_at 459 (by decide +kernel), by decide, by decide +kernel, by decide +kernel⟩
theorem hX5_dropLast : gNH yX5_dropLast 1 := ⟨by decide +kernel, by decide +kernel, by decide +kernel⟩
theorem tX5_dropLast : Cond.static yX5_dropLast ∈ lw_tbl := tb_at 458 (by decide +kernel)
theorem nX5_dropLast : Cond.initialized yX5_dropLast.cls ∈ lw_tbl := tb_at 49 (by decide +kernel)
theorem kX5_dropLast : (vwCl[5]?).map (fun q => q.1) = some yX5_dropLast.cls := rfl
theorem MX5_element : gMth yX5_element cX5_element 4 (some .long) := ⟨tb_at 678 (by decide +kernel), by decide, by decide +kernel, by decide +kernel⟩
theorem hX5_element : gNH yX5_element 2 := ⟨by decide +kernel, by decide +kernel, by decide +kernel⟩
theorem iX5_element : Cond.instanceMethod yX5_element ∈ lw_tbl := tb_at 676 (by decide +kernel)
theorem sX5_element : Cond.selects yX5_element.cls yX5_element yX5_element ∈ lw_tbl := tb_at 677 (by decide +kernel)
theorem nX5_element : Cond.initialized yX5_element.cls ∈ lw_tbl := tb_at 49 (by decide +kernel)
theorem kX5_element : (vwCl[5]?).map (fun q => q.1) = some yX5_element.cls := rfl
theorem MX5_findDifference : gMth yX5_findDifference cX5_findDifference 7 (some .boolean) := ⟨tb_at 654 (by decide +kernel), by decide, by decide +kernel, by decide +kernel⟩
theorem hX5_findDifference : gNH yX5_findDifference 4 := ⟨by decide +kernel, by decide +kernel, by decide +kernel⟩
theorem iX5_findDifference : Cond.instanceMethod yX5_findDifference ∈ lw_tbl := tb_at 653 (by decide +kernel)
theorem sX5_findDifference : Cond.selects yX5_findDifference.cls yX5_findDifference yX5_findDifference ∈ lw_tbl := tb_at 23 (by decide +kernel)
theorem nX5_findDifference : Cond.initialized yX5_findDifference.cls ∈ lw_tbl := tb_at 49 (by decide +kernel)
theorem kX5_findDifference : (vwCl[5]?).map (fun q => q.1) = some yX5_findDifference.cls := rfl
theorem MX5_findOneVariable : gMth yX5_findOneVariable cX5_findOneVariable 2 (some .int) := ⟨tb_at 626 (by decide +kernel), by decide, by decide +kernel, by decide +kernel⟩
theorem hX5_findOneVariable : gNH yX5_findOneVariable 1 := ⟨by decide +kernel, by decide +kernel, by decide +kernel⟩
theorem iX5_findOneVariable : Cond.instanceMethod yX5_findOneVariable ∈ lw_tbl := tb_at 624 (by decide +kernel)
theorem sX5_findOneVariable : Cond.selects yX5_findOneVariable.cls yX5_findOneVariable yX5_findOneVariable ∈ lw_tbl := tb_at 625 (by decide +kernel)
theorem nX5_findOneVariable : Cond.initialized yX5_findOneVariable.cls ∈ lw_tbl := tb_at 49 (by decide +kernel)
theorem kX5_findOneVariable : (vwCl[5]?).map (fun q => q.1) = some yX5_findOneVariable.cls := rfl
theorem MX5_findPattern : gMth yX5_findPattern cX5_findPattern 4 (some .int) := ⟨tb_at 600 (by decide +kernel), by decide, by decide +kernel, by decide +kernel⟩
theorem hX5_findPattern : gNH yX5_findPattern 3 := ⟨by decide +kernel, by decide +kernel, by decide +kernel⟩
theorem iX5_findPattern : Cond.instanceMethod yX5_findPattern ∈ lw_tbl := tb_at 598 (by decide +kernel)
theorem sX5_findPattern : Cond.selects yX5_findPattern.cls yX5_findPattern yX5_findPattern ∈ lw_tbl := tb_at 599 (by decide +kernel)
theorem nX5_findPattern : Cond.initialized yX5_findPattern.cls ∈ lw_tbl := tb_at 49 (by decide +kernel)
theorem kX5_findPattern : (vwCl[5]?).map (fun q => q.1) = some yX5_findPattern.cls := rfl
theorem MX5_firstMisfit : gMth yX5_firstMisfit cX5_firstMisfit 4 (some .int) := ⟨tb_at 584 (by decide +kernel), by decide, by decide +kernel, by decide +kernel⟩
theorem hX5_firstMisfit : gNH yX5_firstMisfit 2 := ⟨by decide +kernel, by decide +kernel, by decide +kernel⟩
theorem iX5_firstMisfit : Cond.instanceMethod yX5_firstMisfit ∈ lw_tbl := tb_at 582 (by decide +kernel)
theorem sX5_firstMisfit : Cond.selects yX5_firstMisfit.cls yX5_firstMisfit yX5_firstMisfit ∈ lw_tbl := tb_at 583 (by decide +kernel)
theorem nX5_firstMisfit : Cond.initialized yX5_firstMisfit.cls ∈ lw_tbl := tb_at 49 (by decide +kernel)
theorem kX5_firstMisfit : (vwCl[5]?).map (fun q => q.1) = some yX5_firstMisfit.cls := rfl
theorem MX5_hasVariable : gMth yX5_hasVariable cX5_hasVariable 3 (some .boolean) := ⟨tb_at 343 (by decide +kernel), by decide, by decide +kernel, by decide +kernel⟩
theorem hX5_hasVariable : gNH yX5_hasVariable 2 := ⟨by decide +kernel, by decide +kernel, by decide +kernel⟩
theorem iX5_hasVariable : Cond.instanceMethod yX5_hasVariable ∈ lw_tbl := tb_at 342 (by decide +kernel)
theorem sX5_hasVariable : Cond.selects yX5_hasVariable.cls yX5_hasVariable yX5_hasVariable ∈ lw_tbl := tb_at 5 (by decide +kernel)
theorem nX5_hasVariable : Cond.initialized yX5_hasVariable.cls ∈ lw_tbl := tb_at 49 (by decide +kernel)
theorem kX5_hasVariable : (vwCl[5]?).map (fun q => q.1) = some yX5_hasVariable.cls := rfl
theorem MX5_imageLetter : gMth yX5_imageLetter cX5_imageLetter 4 (some .int) := ⟨tb_at 538 (by decide +kernel), by decide, by decide +kernel, by decide +kernel⟩
theorem hX5_imageLetter : gNH yX5_imageLetter 2 := ⟨by decide +kernel, by decide +kernel, by decide +kernel⟩
theorem iX5_imageLetter : Cond.instanceMethod yX5_imageLetter ∈ lw_tbl := tb_at 536 (by decide +kernel)
theorem sX5_imageLetter : Cond.selects yX5_imageLetter.cls yX5_imageLetter yX5_imageLetter ∈ lw_tbl := tb_at 537 (by decide +kernel)
theorem nX5_imageLetter : Cond.initialized yX5_imageLetter.cls ∈ lw_tbl := tb_at 49 (by decide +kernel)
theorem kX5_imageLetter : (vwCl[5]?).map (fun q => q.1) = some yX5_imageLetter.cls := rfl
theorem MX5_init : gMth yX5_init cX5_init 2 none := ⟨tb_at 67 (by decide +kernel), by decide, by decide +kernel, by decide +kernel⟩
theorem hX5_init : gNH yX5_init 0 := ⟨by decide +kernel, by decide +kernel, by decide +kernel⟩
theorem iX5_init : Cond.instanceMethod yX5_init ∈ lw_tbl := tb_at 66 (by decide +kernel)
theorem nX5_init : Cond.initialized yX5_init.cls ∈ lw_tbl := tb_at 49 (by decide +kernel)
theorem kX5_init : (vwCl[5]?).map (fun q => q.1) = some yX5_init.cls := rfl
theorem MX5_inputIs : gMth yX5_inputIs cX5_inputIs 3 (some .boolean) := ⟨tb_at 397 (by decide +kernel), by decide, by decide +kernel, by decide +kernel⟩
theorem hX5_inputIs : gNH yX5_inputIs 1 := ⟨by decide +kernel, by decide +kernel, by decide +kernel⟩
theorem iX5_inputIs : Cond.instanceMethod yX5_inputIs ∈ lw_tbl := tb_at 396 (by decide +kernel)
theorem sX5_inputIs : Cond.selects yX5_inputIs.cls yX5_inputIs yX5_inputIs ∈ lw_tbl := tb_at 8 (by decide +kernel)
theorem nX5_inputIs : Cond.initialized yX5_inputIs.cls ∈ lw_tbl := tb_at 49 (by decide +kernel)
theorem kX5_inputIs : (vwCl[5]?).map (fun q => q.1) = some yX5_inputIs.cls := rfl
theorem MX5_isAsGeneral : gMth yX5_isAsGeneral cX5_isAsGeneral 4 (some .boolean) := ⟨tb_at 592 (by decide +kernel), by decide, by decide +kernel, by decide +kernel⟩
theorem hX5_isAsGeneral : gNH yX5_isAsGeneral 3 := ⟨by decide +kernel, by decide +kernel, by decide +kernel⟩
theorem iX5_isAsGeneral : Cond.instanceMethod yX5_isAsGeneral ∈ lw_tbl := tb_at 591 (by decide +kernel)
theorem sX5_isAsGeneral : Cond.selects yX5_isAsGeneral.cls yX5_isAsGeneral yX5_isAsGeneral ∈ lw_tbl := tb_at 18 (by decide +kernel)
theorem nX5_isAsGeneral : Cond.initialized yX5_isAsGeneral.cls ∈ lw_tbl := tb_at 49 (by decide +kernel)
theorem kX5_isAsGeneral : (vwCl[5]?).map (fun q => q.1) = some yX5_isAsGeneral.cls := rfl
theorem MX5_isMode : gMth yX5_isMode cX5_isMode 1 (some .boolean) := ⟨tb_at 480 (by decide +kernel), by decide, by decide +kernel, by decide +kernel⟩
theorem hX5_isMode : gNH yX5_isMode 1 := ⟨by decide +kernel, by decide +kernel, by decide +kernel⟩
theorem tX5_isMode : Cond.static yX5_isMode ∈ lw_tbl := tb_at 479 (by decide +kernel)
theorem nX5_isMode : Cond.initialized yX5_isMode.cls ∈ lw_tbl := tb_at 49 (by decide +kernel)
theorem kX5_isMode : (vwCl[5]?).map (fun q => q.1) = some yX5_isMode.cls := rfl
theorem MX5_isMoreGeneral : gMth yX5_isMoreGeneral cX5_isMoreGeneral 4 (some .int) := ⟨tb_at 588 (by decide +kernel), by decide, by decide +kernel, by decide +kernel⟩
theorem hX5_isMoreGeneral : gNH yX5_isMoreGeneral 3 := ⟨by decide +kernel, by decide +kernel, by decide +kernel⟩
theorem iX5_isMoreGeneral : Cond.instanceMethod yX5_isMoreGeneral ∈ lw_tbl := tb_at 586 (by decide +kernel)
theorem sX5_isMoreGeneral : Cond.selects yX5_isMoreGeneral.cls yX5_isMoreGeneral yX5_isMoreGeneral ∈ lw_tbl := tb_at 587 (by decide +kernel)
theorem nX5_isMoreGeneral : Cond.initialized yX5_isMoreGeneral.cls ∈ lw_tbl := tb_at 49 (by decide +kernel)
theorem kX5_isMoreGeneral : (vwCl[5]?).map (fun q => q.1) = some yX5_isMoreGeneral.cls := rfl
theorem MX5_isRegister : gMth yX5_isRegister cX5_isRegister 1 (some .boolean) := ⟨tb_at 304 (by decide +kernel), by decide, by decide +kernel, by decide +kernel⟩
theorem hX5_isRegister : gNH yX5_isRegister 1 := ⟨by decide +kernel, by decide +kernel, by decide +kernel⟩
theorem tX5_isRegister : Cond.static yX5_isRegister ∈ lw_tbl := tb_at 303 (by decide +kernel)
theorem nX5_isRegister : Cond.initialized yX5_isRegister.cls ∈ lw_tbl := tb_at 49 (by decide +kernel)
theorem kX5_isRegister : (vwCl[5]?).map (fun q => q.1) = some yX5_isRegister.cls := rfl
theorem MX5_isSampleIndex : gMth yX5_isSampleIndex cX5_isSampleIndex 2 (some .boolean) := ⟨tb_at 566 (by decide +kernel), by decide, by decide +kernel, by decide +kernel⟩
theorem hX5_isSampleIndex : gNH yX5_isSampleIndex 1 := ⟨by decide +kernel, by decide +kernel, by decide +kernel⟩
theorem iX5_isSampleIndex : Cond.instanceMethod yX5_isSampleIndex ∈ lw_tbl := tb_at 565 (by decide +kernel)
theorem sX5_isSampleIndex : Cond.selects yX5_isSampleIndex.cls yX5_isSampleIndex yX5_isSampleIndex ∈ lw_tbl := tb_at 17 (by decide +kernel)
theorem nX5_isSampleIndex : Cond.initialized yX5_isSampleIndex.cls ∈ lw_tbl := tb_at 49 (by decide +kernel)
theorem kX5_isSampleIndex : (vwCl[5]?).map (fun q => q.1) = some yX5_isSampleIndex.cls := rfl
theorem MX5_isSlot : gMth yX5_isSlot cX5_isSlot 1 (some .boolean) := ⟨tb_at 661 (by decide +kernel), by decide, by decide +kernel, by decide +kernel⟩
theorem hX5_isSlot : gNH yX5_isSlot 1 := ⟨by decide +kernel, by decide +kernel, by decide +kernel⟩
theorem tX5_isSlot : Cond.static yX5_isSlot ∈ lw_tbl := tb_at 660 (by decide +kernel)
theorem nX5_isSlot : Cond.initialized yX5_isSlot.cls ∈ lw_tbl := tb_at 49 (by decide +kernel)
theorem kX5_isSlot : (vwCl[5]?).map (fun q => q.1) = some yX5_isSlot.cls := rfl
theorem MX5_isVariable : gMth yX5_isVariable cX5_isVariable 1 (some .boolean) := ⟨tb_at 346 (by decide +kernel), by decide, by decide +kernel, by decide +kernel⟩
theorem hX5_isVariable : gNH yX5_isVariable 1 := ⟨by decide +kernel, by decide +kernel, by decide +kernel⟩
theorem tX5_isVariable : Cond.static yX5_isVariable ∈ lw_tbl := tb_at 345 (by decide +kernel)
theorem nX5_isVariable : Cond.initialized yX5_isVariable.cls ∈ lw_tbl := tb_at 49 (by decide +kernel)
theorem kX5_isVariable : (vwCl[5]?).map (fun q => q.1) = some yX5_isVariable.cls := rfl
theorem MX5_length : gMth yX5_length cX5_length 2 (some .int) := ⟨tb_at 323 (by decide +kernel), by decide, by decide +kernel, by decide +kernel⟩
theorem hX5_length : gNH yX5_length 1 := ⟨by decide +kernel, by decide +kernel, by decide +kernel⟩
theorem iX5_length : Cond.instanceMethod yX5_length ∈ lw_tbl := tb_at 321 (by decide +kernel)
theorem sX5_length : Cond.selects yX5_length.cls yX5_length yX5_length ∈ lw_tbl := tb_at 322 (by decide +kernel)
theorem nX5_length : Cond.initialized yX5_length.cls ∈ lw_tbl := tb_at 49 (by decide +kernel)
theorem kX5_length : (vwCl[5]?).map (fun q => q.1) = some yX5_length.cls := rfl
theorem MX5_letters : gMth yX5_letters cX5_letters 1 (some .int) := ⟨tb_at 250 (by decide +kernel), by decide, by decide +kernel, by decide +kernel⟩
theorem hX5_letters : gNH yX5_letters 0 := ⟨by decide +kernel, by decide +kernel, by decide +kernel⟩
theorem iX5_letters : Cond.instanceMethod yX5_letters ∈ lw_tbl := tb_at 248 (by decide +kernel)
theorem sX5_letters : Cond.selects yX5_letters.cls yX5_letters yX5_letters ∈ lw_tbl := tb_at 249 (by decide +kernel)
theorem nX5_letters : Cond.initialized yX5_letters.cls ∈ lw_tbl := tb_at 49 (by decide +kernel)
theorem kX5_letters : (vwCl[5]?).map (fun q => q.1) = some yX5_letters.cls := rfl
theorem MX5_loadPattern : gMth yX5_loadPattern cX5_loadPattern 3 (some .int) := ⟨tb_at 693 (by decide +kernel), by decide, by decide +kernel, by decide +kernel⟩
theorem hX5_loadPattern : gNH yX5_loadPattern 2 := ⟨by decide +kernel, by decide +kernel, by decide +kernel⟩
theorem iX5_loadPattern : Cond.instanceMethod yX5_loadPattern ∈ lw_tbl := tb_at 691 (by decide +kernel)
theorem sX5_loadPattern : Cond.selects yX5_loadPattern.cls yX5_loadPattern yX5_loadPattern ∈ lw_tbl := tb_at 692 (by decide +kernel)
theorem nX5_loadPattern : Cond.initialized yX5_loadPattern.cls ∈ lw_tbl := tb_at 49 (by decide +kernel)
theorem kX5_loadPattern : (vwCl[5]?).map (fun q => q.1) = some yX5_loadPattern.cls := rfl
theorem MX5_match : gMth yX5_match cX5_match 7 (some .int) := ⟨tb_at 523 (by decide +kernel), by decide, by decide +kernel, by decide +kernel⟩
theorem hX5_match : gNH yX5_match 2 := ⟨by decide +kernel, by decide +kernel, by decide +kernel⟩
theorem iX5_match : Cond.instanceMethod yX5_match ∈ lw_tbl := tb_at 521 (by decide +kernel)
theorem sX5_match : Cond.selects yX5_match.cls yX5_match yX5_match ∈ lw_tbl := tb_at 522 (by decide +kernel)
theorem nX5_match : Cond.initialized yX5_match.cls ∈ lw_tbl := tb_at 49 (by decide +kernel)
theorem kX5_match : (vwCl[5]?).map (fun q => q.1) = some yX5_match.cls := rfl
theorem MX5_matchCount : gMth yX5_matchCount cX5_matchCount 4 (some .int) := ⟨tb_at 514 (by decide +kernel), by decide, by decide +kernel, by decide +kernel⟩
theorem hX5_matchCount : gNH yX5_matchCount 2 := ⟨by decide +kernel, by decide +kernel, by decide +kernel⟩
theorem iX5_matchCount : Cond.instanceMethod yX5_matchCount ∈ lw_tbl := tb_at 512 (by decide +kernel)
theorem sX5_matchCount : Cond.selects yX5_matchCount.cls yX5_matchCount yX5_matchCount ∈ lw_tbl := tb_at 513 (by decide +kernel)
theorem nX5_matchCount : Cond.initialized yX5_matchCount.cls ∈ lw_tbl := tb_at 49 (by decide +kernel)
theorem kX5_matchCount : (vwCl[5]?).map (fun q => q.1) = some yX5_matchCount.cls := rfl
theorem MX5_matches : gMth yX5_matches cX5_matches 4 (some .int) := ⟨tb_at 470 (by decide +kernel), by decide, by decide +kernel, by decide +kernel⟩
theorem hX5_matches : gNH yX5_matches 2 := ⟨by decide +kernel, by decide +kernel, by decide +kernel⟩
theorem iX5_matches : Cond.instanceMethod yX5_matches ∈ lw_tbl := tb_at 468 (by decide +kernel)
theorem sX5_matches : Cond.selects yX5_matches.cls yX5_matches yX5_matches ∈ lw_tbl := tb_at 469 (by decide +kernel)
theorem nX5_matches : Cond.initialized yX5_matches.cls ∈ lw_tbl := tb_at 49 (by decide +kernel)
theorem kX5_matches : (vwCl[5]?).map (fun q => q.1) = some yX5_matches.cls := rfl
theorem MX5_merge : gMth yX5_merge cX5_merge 4 (some .int) := ⟨tb_at 380 (by decide +kernel), by decide, by decide +kernel, by decide +kernel⟩
theorem hX5_merge : gNH yX5_merge 3 := ⟨by decide +kernel, by decide +kernel, by decide +kernel⟩
theorem iX5_merge : Cond.instanceMethod yX5_merge ∈ lw_tbl := tb_at 378 (by decide +kernel)
theorem sX5_merge : Cond.selects yX5_merge.cls yX5_merge yX5_merge ∈ lw_tbl := tb_at 379 (by decide +kernel)
theorem nX5_merge : Cond.initialized yX5_merge.cls ∈ lw_tbl := tb_at 49 (by decide +kernel)
theorem kX5_merge : (vwCl[5]?).map (fun q => q.1) = some yX5_merge.cls := rfl
theorem MX5_narrowed : gMth yX5_narrowed cX5_narrowed 3 (some .int) := ⟨tb_at 673 (by decide +kernel), by decide, by decide +kernel, by decide +kernel⟩
theorem hX5_narrowed : gNH yX5_narrowed 2 := ⟨by decide +kernel, by decide +kernel, by decide +kernel⟩
theorem tX5_narrowed : Cond.static yX5_narrowed ∈ lw_tbl := tb_at 672 (by decide +kernel)
theorem nX5_narrowed : Cond.initialized yX5_narrowed.cls ∈ lw_tbl := tb_at 49 (by decide +kernel)
theorem kX5_narrowed : (vwCl[5]?).map (fun q => q.1) = some yX5_narrowed.cls := rfl
theorem MX5_occurrences : gMth yX5_occurrences cX5_occurrences 3 (some .int) := ⟨tb_at 339 (by decide +kernel), by decide, by decide +kernel, by decide +kernel⟩
theorem hX5_occurrences : gNH yX5_occurrences 2 := ⟨by decide +kernel, by decide +kernel, by decide +kernel⟩
theorem iX5_occurrences : Cond.instanceMethod yX5_occurrences ∈ lw_tbl := tb_at 337 (by decide +kernel)
theorem sX5_occurrences : Cond.selects yX5_occurrences.cls yX5_occurrences yX5_occurrences ∈ lw_tbl := tb_at 338 (by decide +kernel)
theorem nX5_occurrences : Cond.initialized yX5_occurrences.cls ∈ lw_tbl := tb_at 49 (by decide +kernel)
theorem kX5_occurrences : (vwCl[5]?).map (fun q => q.1) = some yX5_occurrences.cls := rfl
theorem MX5_produce : gMth yX5_produce cX5_produce 6 (some .boolean) := ⟨tb_at 546 (by decide +kernel), by decide, by decide +kernel, by decide +kernel⟩
theorem hX5_produce : gNH yX5_produce 1 := ⟨by decide +kernel, by decide +kernel, by decide +kernel⟩
theorem iX5_produce : Cond.instanceMethod yX5_produce ∈ lw_tbl := tb_at 545 (by decide +kernel)
theorem sX5_produce : Cond.selects yX5_produce.cls yX5_produce yX5_produce ∈ lw_tbl := tb_at 15 (by decide +kernel)
theorem nX5_produce : Cond.initialized yX5_produce.cls ∈ lw_tbl := tb_at 49 (by decide +kernel)
theorem kX5_produce : (vwCl[5]?).map (fun q => q.1) = some yX5_produce.cls := rfl
theorem MX5_putElement : gMth yX5_putElement cX5_putElement 6 (some .int) := ⟨tb_at 669 (by decide +kernel), by decide, by decide +kernel, by decide +kernel⟩
theorem hX5_putElement : gNH yX5_putElement 3 := ⟨by decide +kernel, by decide +kernel, by decide +kernel⟩
theorem iX5_putElement : Cond.instanceMethod yX5_putElement ∈ lw_tbl := tb_at 667 (by decide +kernel)
theorem sX5_putElement : Cond.selects yX5_putElement.cls yX5_putElement yX5_putElement ∈ lw_tbl := tb_at 668 (by decide +kernel)
theorem nX5_putElement : Cond.initialized yX5_putElement.cls ∈ lw_tbl := tb_at 49 (by decide +kernel)
theorem kX5_putElement : (vwCl[5]?).map (fun q => q.1) = some yX5_putElement.cls := rfl
theorem MX5_putForVariable : gMth yX5_putForVariable cX5_putForVariable 5 (some .int) := ⟨tb_at 372 (by decide +kernel), by decide, by decide +kernel, by decide +kernel⟩
theorem hX5_putForVariable : gNH yX5_putForVariable 3 := ⟨by decide +kernel, by decide +kernel, by decide +kernel⟩
theorem iX5_putForVariable : Cond.instanceMethod yX5_putForVariable ∈ lw_tbl := tb_at 371 (by decide +kernel)
theorem sX5_putForVariable : Cond.selects yX5_putForVariable.cls yX5_putForVariable yX5_putForVariable ∈ lw_tbl := tb_at 6 (by decide +kernel)
theorem nX5_putForVariable : Cond.initialized yX5_putForVariable.cls ∈ lw_tbl := tb_at 49 (by decide +kernel)
theorem kX5_putForVariable : (vwCl[5]?).map (fun q => q.1) = some yX5_putForVariable.cls := rfl
theorem MX5_readPattern : gMth yX5_readPattern cX5_readPattern 2 (some .boolean) := ⟨tb_at 272 (by decide +kernel), by decide, by decide +kernel, by decide +kernel⟩
theorem hX5_readPattern : gNH yX5_readPattern 1 := ⟨by decide +kernel, by decide +kernel, by decide +kernel⟩
theorem iX5_readPattern : Cond.instanceMethod yX5_readPattern ∈ lw_tbl := tb_at 271 (by decide +kernel)
theorem sX5_readPattern : Cond.selects yX5_readPattern.cls yX5_readPattern yX5_readPattern ∈ lw_tbl := tb_at 1 (by decide +kernel)
theorem nX5_readPattern : Cond.initialized yX5_readPattern.cls ∈ lw_tbl := tb_at 49 (by decide +kernel)
theorem kX5_readPattern : (vwCl[5]?).map (fun q => q.1) = some yX5_readPattern.cls := rfl
theorem MX5_readSymbols : gMth yX5_readSymbols cX5_readSymbols 4 (some .boolean) := ⟨tb_at 276 (by decide +kernel), by decide, by decide +kernel, by decide +kernel⟩
theorem hX5_readSymbols : gNH yX5_readSymbols 1 := ⟨by decide +kernel, by decide +kernel, by decide +kernel⟩
theorem iX5_readSymbols : Cond.instanceMethod yX5_readSymbols ∈ lw_tbl := tb_at 275 (by decide +kernel)
theorem sX5_readSymbols : Cond.selects yX5_readSymbols.cls yX5_readSymbols yX5_readSymbols ∈ lw_tbl := tb_at 2 (by decide +kernel)
theorem nX5_readSymbols : Cond.initialized yX5_readSymbols.cls ∈ lw_tbl := tb_at 49 (by decide +kernel)
theorem kX5_readSymbols : (vwCl[5]?).map (fun q => q.1) = some yX5_readSymbols.cls := rfl
theorem MX5_refusalOfMatching : gMth yX5_refusalOfMatching cX5_refusalOfMatching 3 (some .int) := ⟨tb_at 477 (by decide +kernel), by decide, by decide +kernel, by decide +kernel⟩
theorem hX5_refusalOfMatching : gNH yX5_refusalOfMatching 3 := ⟨by decide +kernel, by decide +kernel, by decide +kernel⟩
theorem tX5_refusalOfMatching : Cond.static yX5_refusalOfMatching ∈ lw_tbl := tb_at 476 (by decide +kernel)
theorem nX5_refusalOfMatching : Cond.initialized yX5_refusalOfMatching.cls ∈ lw_tbl := tb_at 49 (by decide +kernel)
theorem kX5_refusalOfMatching : (vwCl[5]?).map (fun q => q.1) = some yX5_refusalOfMatching.cls := rfl
theorem MX5_release : gMth yX5_release cX5_release 3 (some .int) := ⟨tb_at 665 (by decide +kernel), by decide, by decide +kernel, by decide +kernel⟩
theorem hX5_release : gNH yX5_release 1 := ⟨by decide +kernel, by decide +kernel, by decide +kernel⟩
theorem iX5_release : Cond.instanceMethod yX5_release ∈ lw_tbl := tb_at 663 (by decide +kernel)
theorem sX5_release : Cond.selects yX5_release.cls yX5_release yX5_release ∈ lw_tbl := tb_at 664 (by decide +kernel)
theorem nX5_release : Cond.initialized yX5_release.cls ∈ lw_tbl := tb_at 49 (by decide +kernel)
theorem kX5_release : (vwCl[5]?).map (fun q => q.1) = some yX5_release.cls := rfl
theorem MX5_removeWord : gMth yX5_removeWord cX5_removeWord 3 (some .int) := ⟨tb_at 562 (by decide +kernel), by decide, by decide +kernel, by decide +kernel⟩
theorem hX5_removeWord : gNH yX5_removeWord 1 := ⟨by decide +kernel, by decide +kernel, by decide +kernel⟩
theorem iX5_removeWord : Cond.instanceMethod yX5_removeWord ∈ lw_tbl := tb_at 560 (by decide +kernel)
theorem sX5_removeWord : Cond.selects yX5_removeWord.cls yX5_removeWord yX5_removeWord ∈ lw_tbl := tb_at 561 (by decide +kernel)
theorem nX5_removeWord : Cond.initialized yX5_removeWord.cls ∈ lw_tbl := tb_at 49 (by decide +kernel)
theorem kX5_removeWord : (vwCl[5]?).map (fun q => q.1) = some yX5_removeWord.cls := rfl
theorem MX5_replace : gMth yX5_replace cX5_replace 4 (some .int) := ⟨tb_at 368 (by decide +kernel), by decide, by decide +kernel, by decide +kernel⟩
theorem hX5_replace : gNH yX5_replace 3 := ⟨by decide +kernel, by decide +kernel, by decide +kernel⟩
theorem iX5_replace : Cond.instanceMethod yX5_replace ∈ lw_tbl := tb_at 366 (by decide +kernel)
theorem sX5_replace : Cond.selects yX5_replace.cls yX5_replace yX5_replace ∈ lw_tbl := tb_at 367 (by decide +kernel)
theorem nX5_replace : Cond.initialized yX5_replace.cls ∈ lw_tbl := tb_at 49 (by decide +kernel)
theorem kX5_replace : (vwCl[5]?).map (fun q => q.1) = some yX5_replace.cls := rfl
theorem MX5_reset : gMth yX5_reset cX5_reset 3 (some .int) := ⟨tb_at 245 (by decide +kernel), by decide, by decide +kernel, by decide +kernel⟩
theorem hX5_reset : gNH yX5_reset 1 := ⟨by decide +kernel, by decide +kernel, by decide +kernel⟩
theorem iX5_reset : Cond.instanceMethod yX5_reset ∈ lw_tbl := tb_at 243 (by decide +kernel)
theorem sX5_reset : Cond.selects yX5_reset.cls yX5_reset yX5_reset ∈ lw_tbl := tb_at 244 (by decide +kernel)
theorem nX5_reset : Cond.initialized yX5_reset.cls ∈ lw_tbl := tb_at 49 (by decide +kernel)
theorem kX5_reset : (vwCl[5]?).map (fun q => q.1) = some yX5_reset.cls := rfl
theorem MX5_restore : gMth yX5_restore cX5_restore 1 (some .int) := ⟨tb_at 709 (by decide +kernel), by decide, by decide +kernel, by decide +kernel⟩
theorem hX5_restore : gNH yX5_restore 0 := ⟨by decide +kernel, by decide +kernel, by decide +kernel⟩
theorem iX5_restore : Cond.instanceMethod yX5_restore ∈ lw_tbl := tb_at 707 (by decide +kernel)
theorem sX5_restore : Cond.selects yX5_restore.cls yX5_restore yX5_restore ∈ lw_tbl := tb_at 708 (by decide +kernel)
theorem nX5_restore : Cond.initialized yX5_restore.cls ∈ lw_tbl := tb_at 49 (by decide +kernel)
theorem kX5_restore : (vwCl[5]?).map (fun q => q.1) = some yX5_restore.cls := rfl
theorem MX5_sampleCode : gMth yX5_sampleCode cX5_sampleCode 2 (some .long) := ⟨tb_at 574 (by decide +kernel), by decide, by decide +kernel, by decide +kernel⟩
theorem hX5_sampleCode : gNH yX5_sampleCode 1 := ⟨by decide +kernel, by decide +kernel, by decide +kernel⟩
theorem iX5_sampleCode : Cond.instanceMethod yX5_sampleCode ∈ lw_tbl := tb_at 572 (by decide +kernel)
theorem sX5_sampleCode : Cond.selects yX5_sampleCode.cls yX5_sampleCode yX5_sampleCode ∈ lw_tbl := tb_at 573 (by decide +kernel)
theorem nX5_sampleCode : Cond.initialized yX5_sampleCode.cls ∈ lw_tbl := tb_at 49 (by decide +kernel)
theorem kX5_sampleCode : (vwCl[5]?).map (fun q => q.1) = some yX5_sampleCode.cls := rfl
theorem MX5_sampleSize : gMth yX5_sampleSize cX5_sampleSize 1 (some .int) := ⟨tb_at 570 (by decide +kernel), by decide, by decide +kernel, by decide +kernel⟩
theorem hX5_sampleSize : gNH yX5_sampleSize 0 := ⟨by decide +kernel, by decide +kernel, by decide +kernel⟩
theorem iX5_sampleSize : Cond.instanceMethod yX5_sampleSize ∈ lw_tbl := tb_at 568 (by decide +kernel)
theorem sX5_sampleSize : Cond.selects yX5_sampleSize.cls yX5_sampleSize yX5_sampleSize ∈ lw_tbl := tb_at 569 (by decide +kernel)
theorem nX5_sampleSize : Cond.initialized yX5_sampleSize.cls ∈ lw_tbl := tb_at 49 (by decide +kernel)
theorem kX5_sampleSize : (vwCl[5]?).map (fun q => q.1) = some yX5_sampleSize.cls := rfl
theorem MX5_setImage : gMth yX5_setImage cX5_setImage 3 (some .int) := ⟨tb_at 534 (by decide +kernel), by decide, by decide +kernel, by decide +kernel⟩
theorem hX5_setImage : gNH yX5_setImage 1 := ⟨by decide +kernel, by decide +kernel, by decide +kernel⟩
theorem iX5_setImage : Cond.instanceMethod yX5_setImage ∈ lw_tbl := tb_at 532 (by decide +kernel)
theorem sX5_setImage : Cond.selects yX5_setImage.cls yX5_setImage yX5_setImage ∈ lw_tbl := tb_at 533 (by decide +kernel)
theorem nX5_setImage : Cond.initialized yX5_setImage.cls ∈ lw_tbl := tb_at 49 (by decide +kernel)
theorem kX5_setImage : (vwCl[5]?).map (fun q => q.1) = some yX5_setImage.cls := rfl
theorem MX5_setPattern : gMth yX5_setPattern cX5_setPattern 3 (some .int) := ⟨tb_at 264 (by decide +kernel), by decide, by decide +kernel, by decide +kernel⟩
theorem hX5_setPattern : gNH yX5_setPattern 1 := ⟨by decide +kernel, by decide +kernel, by decide +kernel⟩
theorem iX5_setPattern : Cond.instanceMethod yX5_setPattern ∈ lw_tbl := tb_at 262 (by decide +kernel)
theorem sX5_setPattern : Cond.selects yX5_setPattern.cls yX5_setPattern yX5_setPattern ∈ lw_tbl := tb_at 263 (by decide +kernel)
theorem nX5_setPattern : Cond.initialized yX5_setPattern.cls ∈ lw_tbl := tb_at 49 (by decide +kernel)
theorem kX5_setPattern : (vwCl[5]?).map (fun q => q.1) = some yX5_setPattern.cls := rfl
theorem MX5_snapshot : gMth yX5_snapshot cX5_snapshot 1 (some .int) := ⟨tb_at 697 (by decide +kernel), by decide, by decide +kernel, by decide +kernel⟩
theorem hX5_snapshot : gNH yX5_snapshot 0 := ⟨by decide +kernel, by decide +kernel, by decide +kernel⟩
theorem iX5_snapshot : Cond.instanceMethod yX5_snapshot ∈ lw_tbl := tb_at 695 (by decide +kernel)
theorem sX5_snapshot : Cond.selects yX5_snapshot.cls yX5_snapshot yX5_snapshot ∈ lw_tbl := tb_at 696 (by decide +kernel)
theorem nX5_snapshot : Cond.initialized yX5_snapshot.cls ∈ lw_tbl := tb_at 49 (by decide +kernel)
theorem kX5_snapshot : (vwCl[5]?).map (fun q => q.1) = some yX5_snapshot.cls := rfl
theorem MX5_split : gMth yX5_split cX5_split 7 (some .int) := ⟨tb_at 384 (by decide +kernel), by decide, by decide +kernel, by decide +kernel⟩
theorem hX5_split : gNH yX5_split 2 := ⟨by decide +kernel, by decide +kernel, by decide +kernel⟩
theorem iX5_split : Cond.instanceMethod yX5_split ∈ lw_tbl := tb_at 382 (by decide +kernel)
theorem sX5_split : Cond.selects yX5_split.cls yX5_split yX5_split ∈ lw_tbl := tb_at 383 (by decide +kernel)
theorem nX5_split : Cond.initialized yX5_split.cls ∈ lw_tbl := tb_at 49 (by decide +kernel)
theorem kX5_split : (vwCl[5]?).map (fun q => q.1) = some yX5_split.cls := rfl
theorem MX5_store : gMth yX5_store cX5_store 3 (some .int) := ⟨tb_at 308 (by decide +kernel), by decide, by decide +kernel, by decide +kernel⟩
theorem hX5_store : gNH yX5_store 2 := ⟨by decide +kernel, by decide +kernel, by decide +kernel⟩
theorem iX5_store : Cond.instanceMethod yX5_store ∈ lw_tbl := tb_at 307 (by decide +kernel)
theorem sX5_store : Cond.selects yX5_store.cls yX5_store yX5_store ∈ lw_tbl := tb_at 4 (by decide +kernel)
theorem nX5_store : Cond.initialized yX5_store.cls ∈ lw_tbl := tb_at 49 (by decide +kernel)
theorem kX5_store : (vwCl[5]?).map (fun q => q.1) = some yX5_store.cls := rfl
theorem MX5_swapLetters : gMth yX5_swapLetters cX5_swapLetters 2 none := ⟨tb_at 454 (by decide +kernel), by decide, by decide +kernel, by decide +kernel⟩
theorem hX5_swapLetters : gNH yX5_swapLetters 1 := ⟨by decide +kernel, by decide +kernel, by decide +kernel⟩
theorem iX5_swapLetters : Cond.instanceMethod yX5_swapLetters ∈ lw_tbl := tb_at 453 (by decide +kernel)
theorem sX5_swapLetters : Cond.selects yX5_swapLetters.cls yX5_swapLetters yX5_swapLetters ∈ lw_tbl := tb_at 9 (by decide +kernel)
theorem nX5_swapLetters : Cond.initialized yX5_swapLetters.cls ∈ lw_tbl := tb_at 49 (by decide +kernel)
theorem kX5_swapLetters : (vwCl[5]?).map (fun q => q.1) = some yX5_swapLetters.cls := rfl
theorem MX5_symbol : gMth yX5_symbol cX5_symbol 4 (some .int) := ⟨tb_at 327 (by decide +kernel), by decide, by decide +kernel, by decide +kernel⟩
theorem hX5_symbol : gNH yX5_symbol 2 := ⟨by decide +kernel, by decide +kernel, by decide +kernel⟩
theorem iX5_symbol : Cond.instanceMethod yX5_symbol ∈ lw_tbl := tb_at 325 (by decide +kernel)
theorem sX5_symbol : Cond.selects yX5_symbol.cls yX5_symbol yX5_symbol ∈ lw_tbl := tb_at 326 (by decide +kernel)
theorem nX5_symbol : Cond.initialized yX5_symbol.cls ∈ lw_tbl := tb_at 49 (by decide +kernel)
theorem kX5_symbol : (vwCl[5]?).map (fun q => q.1) = some yX5_symbol.cls := rfl
theorem MX5_takePattern : gMth yX5_takePattern cX5_takePattern 2 (some .boolean) := ⟨tb_at 268 (by decide +kernel), by decide, by decide +kernel, by decide +kernel⟩
theorem hX5_takePattern : gNH yX5_takePattern 0 := ⟨by decide +kernel, by decide +kernel, by decide +kernel⟩
theorem iX5_takePattern : Cond.instanceMethod yX5_takePattern ∈ lw_tbl := tb_at 267 (by decide +kernel)
theorem sX5_takePattern : Cond.selects yX5_takePattern.cls yX5_takePattern yX5_takePattern ∈ lw_tbl := tb_at 0 (by decide +kernel)
theorem nX5_takePattern : Cond.initialized yX5_takePattern.cls ∈ lw_tbl := tb_at 49 (by decide +kernel)
theorem kX5_takePattern : (vwCl[5]?).map (fun q => q.1) = some yX5_takePattern.cls := rfl
theorem MX5_takeWord : gMth yX5_takeWord cX5_takeWord 2 (some .boolean) := ⟨tb_at 474 (by decide +kernel), by decide, by decide +kernel, by decide +kernel⟩
theorem hX5_takeWord : gNH yX5_takeWord 0 := ⟨by decide +kernel, by decide +kernel, by decide +kernel⟩
theorem iX5_takeWord : Cond.instanceMethod yX5_takeWord ∈ lw_tbl := tb_at 473 (by decide +kernel)
theorem sX5_takeWord : Cond.selects yX5_takeWord.cls yX5_takeWord yX5_takeWord ∈ lw_tbl := tb_at 10 (by decide +kernel)
theorem nX5_takeWord : Cond.initialized yX5_takeWord.cls ∈ lw_tbl := tb_at 49 (by decide +kernel)
theorem kX5_takeWord : (vwCl[5]?).map (fun q => q.1) = some yX5_takeWord.cls := rfl
theorem MX5_transform : gMth yX5_transform cX5_transform 3 (some .int) := ⟨tb_at 388 (by decide +kernel), by decide, by decide +kernel, by decide +kernel⟩
theorem hX5_transform : gNH yX5_transform 1 := ⟨by decide +kernel, by decide +kernel, by decide +kernel⟩
theorem iX5_transform : Cond.instanceMethod yX5_transform ∈ lw_tbl := tb_at 386 (by decide +kernel)
theorem sX5_transform : Cond.selects yX5_transform.cls yX5_transform yX5_transform ∈ lw_tbl := tb_at 387 (by decide +kernel)
theorem nX5_transform : Cond.initialized yX5_transform.cls ∈ lw_tbl := tb_at 49 (by decide +kernel)
theorem kX5_transform : (vwCl[5]?).map (fun q => q.1) = some yX5_transform.cls := rfl
theorem MX5_variableCount : gMth yX5_variableCount cX5_variableCount 2 (some .int) := ⟨tb_at 331 (by decide +kernel), by decide, by decide +kernel, by decide +kernel⟩
theorem hX5_variableCount : gNH yX5_variableCount 1 := ⟨by decide +kernel, by decide +kernel, by decide +kernel⟩
theorem iX5_variableCount : Cond.instanceMethod yX5_variableCount ∈ lw_tbl := tb_at 329 (by decide +kernel)
theorem sX5_variableCount : Cond.selects yX5_variableCount.cls yX5_variableCount yX5_variableCount ∈ lw_tbl := tb_at 330 (by decide +kernel)
theorem nX5_variableCount : Cond.initialized yX5_variableCount.cls ∈ lw_tbl := tb_at 49 (by decide +kernel)
theorem kX5_variableCount : (vwCl[5]?).map (fun q => q.1) = some yX5_variableCount.cls := rfl
theorem MX5_wordsOfLength : gMth yX5_wordsOfLength cX5_wordsOfLength 4 (some .int) := ⟨tb_at 641 (by decide +kernel), by decide, by decide +kernel, by decide +kernel⟩
theorem hX5_wordsOfLength : gNH yX5_wordsOfLength 1 := ⟨by decide +kernel, by decide +kernel, by decide +kernel⟩
theorem iX5_wordsOfLength : Cond.instanceMethod yX5_wordsOfLength ∈ lw_tbl := tb_at 640 (by decide +kernel)
theorem sX5_wordsOfLength : Cond.selects yX5_wordsOfLength.cls yX5_wordsOfLength yX5_wordsOfLength ∈ lw_tbl := tb_at 22 (by decide +kernel)
theorem nX5_wordsOfLength : Cond.initialized yX5_wordsOfLength.cls ∈ lw_tbl := tb_at 49 (by decide +kernel)
theorem kX5_wordsOfLength : (vwCl[5]?).map (fun q => q.1) = some yX5_wordsOfLength.cls := rfl
theorem MX6_addProduced : gMth yX6_addProduced cX6_addProduced 7 (some .int) := ⟨tb_at 1013 (by decide +kernel), by decide, by decide +kernel, by decide +kernel⟩
theorem hX6_addProduced : gNH yX6_addProduced 1 := ⟨by decide +kernel, by decide +kernel, by decide +kernel⟩
theorem iX6_addProduced : Cond.instanceMethod yX6_addProduced ∈ lw_tbl := tb_at 1011 (by decide +kernel)
theorem sX6_addProduced : Cond.selects yX6_addProduced.cls yX6_addProduced yX6_addProduced ∈ lw_tbl := tb_at 1012 (by decide +kernel)
theorem nX6_addProduced : Cond.initialized yX6_addProduced.cls ∈ lw_tbl := tb_at 56 (by decide +kernel)
theorem kX6_addProduced : (vwCl[6]?).map (fun q => q.1) = some yX6_addProduced.cls := rfl
theorem MX6_addToSample : gMth yX6_addToSample cX6_addToSample 1 (some .int) := ⟨tb_at 1017 (by decide +kernel), by decide, by decide +kernel, by decide +kernel⟩
theorem hX6_addToSample : gNH yX6_addToSample 0 := ⟨by decide +kernel, by decide +kernel, by decide +kernel⟩
theorem iX6_addToSample : Cond.instanceMethod yX6_addToSample ∈ lw_tbl := tb_at 1016 (by decide +kernel)
theorem sX6_addToSample : Cond.selects yX6_addToSample.cls yX6_addToSample yX6_addToSample ∈ lw_tbl := tb_at 38 (by decide +kernel)
theorem nX6_addToSample : Cond.initialized yX6_addToSample.cls ∈ lw_tbl := tb_at 56 (by decide +kernel)
theorem kX6_addToSample : (vwCl[6]?).map (fun q => q.1) = some yX6_addToSample.cls := rfl
theorem MX6_addWord : gMth yX6_addWord cX6_addWord 1 (some .int) := ⟨tb_at 1021 (by decide +kernel), by decide, by decide +kernel, by decide +kernel⟩
theorem hX6_addWord : gNH yX6_addWord 0 := ⟨by decide +kernel, by decide +kernel, by decide +kernel⟩
theorem iX6_addWord : Cond.instanceMethod yX6_addWord ∈ lw_tbl := tb_at 1019 (by decide +kernel)
theorem sX6_addWord : Cond.selects yX6_addWord.cls yX6_addWord yX6_addWord ∈ lw_tbl := tb_at 1020 (by decide +kernel)
theorem nX6_addWord : Cond.initialized yX6_addWord.cls ∈ lw_tbl := tb_at 56 (by decide +kernel)
theorem kX6_addWord : (vwCl[6]?).map (fun q => q.1) = some yX6_addWord.cls := rfl
theorem MX6_allocate : gMth yX6_allocate cX6_allocate 5 (some .int) := ⟨tb_at 1102 (by decide +kernel), by decide, by decide +kernel, by decide +kernel⟩
theorem hX6_allocate : gNH yX6_allocate 3 := ⟨by decide +kernel, by decide +kernel, by decide +kernel⟩
theorem iX6_allocate : Cond.instanceMethod yX6_allocate ∈ lw_tbl := tb_at 1100 (by decide +kernel)
theorem sX6_allocate : Cond.selects yX6_allocate.cls yX6_allocate yX6_allocate ∈ lw_tbl := tb_at 1101 (by decide +kernel)
theorem nX6_allocate : Cond.initialized yX6_allocate.cls ∈ lw_tbl := tb_at 56 (by decide +kernel)
theorem kX6_allocate : (vwCl[6]?).map (fun q => q.1) = some yX6_allocate.cls := rfl
theorem MX6_append : gMth yX6_append cX6_append 4 (some .int) := ⟨tb_at 862 (by decide +kernel), by decide, by decide +kernel, by decide +kernel⟩
theorem hX6_append : gNH yX6_append 2 := ⟨by decide +kernel, by decide +kernel, by decide +kernel⟩
theorem iX6_append : Cond.instanceMethod yX6_append ∈ lw_tbl := tb_at 860 (by decide +kernel)
theorem sX6_append : Cond.selects yX6_append.cls yX6_append yX6_append ∈ lw_tbl := tb_at 861 (by decide +kernel)
theorem nX6_append : Cond.initialized yX6_append.cls ∈ lw_tbl := tb_at 56 (by decide +kernel)
theorem kX6_append : (vwCl[6]?).map (fun q => q.1) = some yX6_append.cls := rfl
theorem MX6_better : gMth yX6_better cX6_better 8 (some .int) := ⟨tb_at 931 (by decide +kernel), by decide, by decide +kernel, by decide +kernel⟩
theorem hX6_better : gNH yX6_better 5 := ⟨by decide +kernel, by decide +kernel, by decide +kernel⟩
theorem tX6_better : Cond.static yX6_better ∈ lw_tbl := tb_at 930 (by decide +kernel)
theorem nX6_better : Cond.initialized yX6_better.cls ∈ lw_tbl := tb_at 56 (by decide +kernel)
theorem kX6_better : (vwCl[6]?).map (fun q => q.1) = some yX6_better.cls := rfl
theorem MX6_carry : gMth yX6_carry cX6_carry 3 none := ⟨tb_at 1139 (by decide +kernel), by decide, by decide +kernel, by decide +kernel⟩
theorem hX6_carry : gNH yX6_carry 3 := ⟨by decide +kernel, by decide +kernel, by decide +kernel⟩
theorem tX6_carry : Cond.static yX6_carry ∈ lw_tbl := tb_at 1138 (by decide +kernel)
theorem nX6_carry : Cond.initialized yX6_carry.cls ∈ lw_tbl := tb_at 56 (by decide +kernel)
theorem kX6_carry : (vwCl[6]?).map (fun q => q.1) = some yX6_carry.cls := rfl
theorem MX6_carryAll : gMth yX6_carryAll cX6_carryAll 2 none := ⟨tb_at 1136 (by decide +kernel), by decide, by decide +kernel, by decide +kernel⟩
theorem hX6_carryAll : gNH yX6_carryAll 1 := ⟨by decide +kernel, by decide +kernel, by decide +kernel⟩
theorem iX6_carryAll : Cond.instanceMethod yX6_carryAll ∈ lw_tbl := tb_at 1135 (by decide +kernel)
theorem sX6_carryAll : Cond.selects yX6_carryAll.cls yX6_carryAll yX6_carryAll ∈ lw_tbl := tb_at 47 (by decide +kernel)
theorem nX6_carryAll : Cond.initialized yX6_carryAll.cls ∈ lw_tbl := tb_at 56 (by decide +kernel)
theorem kX6_carryAll : (vwCl[6]?).map (fun q => q.1) = some yX6_carryAll.cls := rfl
theorem MX6_chainBreak : gMth yX6_chainBreak cX6_chainBreak 5 (some .int) := ⟨tb_at 1062 (by decide +kernel), by decide, by decide +kernel, by decide +kernel⟩
theorem hX6_chainBreak : gNH yX6_chainBreak 3 := ⟨by decide +kernel, by decide +kernel, by decide +kernel⟩
theorem iX6_chainBreak : Cond.instanceMethod yX6_chainBreak ∈ lw_tbl := tb_at 1060 (by decide +kernel)
theorem sX6_chainBreak : Cond.selects yX6_chainBreak.cls yX6_chainBreak yX6_chainBreak ∈ lw_tbl := tb_at 1061 (by decide +kernel)
theorem nX6_chainBreak : Cond.initialized yX6_chainBreak.cls ∈ lw_tbl := tb_at 56 (by decide +kernel)
theorem kX6_chainBreak : (vwCl[6]?).map (fun q => q.1) = some yX6_chainBreak.cls := rfl
theorem MX6_choose : gMth yX6_choose cX6_choose 4 none := ⟨tb_at 988 (by decide +kernel), by decide, by decide +kernel, by decide +kernel⟩
theorem hX6_choose : gNH yX6_choose 2 := ⟨by decide +kernel, by decide +kernel, by decide +kernel⟩
theorem iX6_choose : Cond.instanceMethod yX6_choose ∈ lw_tbl := tb_at 987 (by decide +kernel)
theorem sX6_choose : Cond.selects yX6_choose.cls yX6_choose yX6_choose ∈ lw_tbl := tb_at 36 (by decide +kernel)
theorem nX6_choose : Cond.initialized yX6_choose.cls ∈ lw_tbl := tb_at 56 (by decide +kernel)
theorem kX6_choose : (vwCl[6]?).map (fun q => q.1) = some yX6_choose.cls := rfl
theorem MX6_clear : gMth yX6_clear cX6_clear 2 none := ⟨tb_at 719 (by decide +kernel), by decide, by decide +kernel, by decide +kernel⟩
theorem hX6_clear : gNH yX6_clear 0 := ⟨by decide +kernel, by decide +kernel, by decide +kernel⟩
theorem iX6_clear : Cond.instanceMethod yX6_clear ∈ lw_tbl := tb_at 718 (by decide +kernel)
theorem sX6_clear : Cond.selects yX6_clear.cls yX6_clear yX6_clear ∈ lw_tbl := tb_at 24 (by decide +kernel)
theorem nX6_clear : Cond.initialized yX6_clear.cls ∈ lw_tbl := tb_at 56 (by decide +kernel)
theorem kX6_clear : (vwCl[6]?).map (fun q => q.1) = some yX6_clear.cls := rfl
theorem MX6_clearInput : gMth yX6_clearInput cX6_clearInput 2 (some .int) := ⟨tb_at 866 (by decide +kernel), by decide, by decide +kernel, by decide +kernel⟩
theorem hX6_clearInput : gNH yX6_clearInput 0 := ⟨by decide +kernel, by decide +kernel, by decide +kernel⟩
theorem iX6_clearInput : Cond.instanceMethod yX6_clearInput ∈ lw_tbl := tb_at 864 (by decide +kernel)
theorem sX6_clearInput : Cond.selects yX6_clearInput.cls yX6_clearInput yX6_clearInput ∈ lw_tbl := tb_at 865 (by decide +kernel)
theorem nX6_clearInput : Cond.initialized yX6_clearInput.cls ∈ lw_tbl := tb_at 56 (by decide +kernel)
theorem kX6_clearInput : (vwCl[6]?).map (fun q => q.1) = some yX6_clearInput.cls := rfl
theorem MX6_codeOf : gMth yX6_codeOf cX6_codeOf 2 (some .int) := ⟨tb_at 878 (by decide +kernel), by decide, by decide +kernel, by decide +kernel⟩
theorem hX6_codeOf : gNH yX6_codeOf 1 := ⟨by decide +kernel, by decide +kernel, by decide +kernel⟩
theorem iX6_codeOf : Cond.instanceMethod yX6_codeOf ∈ lw_tbl := tb_at 877 (by decide +kernel)
theorem sX6_codeOf : Cond.selects yX6_codeOf.cls yX6_codeOf yX6_codeOf ∈ lw_tbl := tb_at 26 (by decide +kernel)
theorem nX6_codeOf : Cond.initialized yX6_codeOf.cls ∈ lw_tbl := tb_at 56 (by decide +kernel)
theorem kX6_codeOf : (vwCl[6]?).map (fun q => q.1) = some yX6_codeOf.cls := rfl
theorem MX6_codeOf_ : gMth yX6_codeOf_ cX6_codeOf_ 6 (some .long) := ⟨tb_at 1040 (by decide +kernel), by decide, by decide +kernel, by decide +kernel⟩
theorem hX6_codeOf_ : gNH yX6_codeOf_ 3 := ⟨by decide +kernel, by decide +kernel, by decide +kernel⟩
theorem tX6_codeOf_ : Cond.static yX6_codeOf_ ∈ lw_tbl := tb_at 1039 (by decide +kernel)
theorem nX6_codeOf_ : Cond.initialized yX6_codeOf_.cls ∈ lw_tbl := tb_at 56 (by decide +kernel)
theorem kX6_codeOf_ : (vwCl[6]?).map (fun q => q.1) = some yX6_codeOf_.cls := rfl
theorem MX6_compareQuality : gMth yX6_compareQuality cX6_compareQuality 4 (some .int) := ⟨tb_at 928 (by decide +kernel), by decide, by decide +kernel, by decide +kernel⟩
theorem hX6_compareQuality : gNH yX6_compareQuality 2 := ⟨by decide +kernel, by decide +kernel, by decide +kernel⟩
theorem iX6_compareQuality : Cond.instanceMethod yX6_compareQuality ∈ lw_tbl := tb_at 926 (by decide +kernel)
theorem sX6_compareQuality : Cond.selects yX6_compareQuality.cls yX6_compareQuality yX6_compareQuality ∈ lw_tbl := tb_at 927 (by decide +kernel)
theorem nX6_compareQuality : Cond.initialized yX6_compareQuality.cls ∈ lw_tbl := tb_at 56 (by decide +kernel)
theorem kX6_compareQuality : (vwCl[6]?).map (fun q => q.1) = some yX6_compareQuality.cls := rfl
theorem MX6_copy : gMth yX6_copy cX6_copy 3 (some .int) := ⟨tb_at 894 (by decide +kernel), by decide, by decide +kernel, by decide +kernel⟩
theorem hX6_copy : gNH yX6_copy 2 := ⟨by decide +kernel, by decide +kernel, by decide +kernel⟩
theorem iX6_copy : Cond.instanceMethod yX6_copy ∈ lw_tbl := tb_at 892 (by decide +kernel)
theorem sX6_copy : Cond.selects yX6_copy.cls yX6_copy yX6_copy ∈ lw_tbl := tb_at 893 (by decide +kernel)
theorem nX6_copy : Cond.initialized yX6_copy.cls ∈ lw_tbl := tb_at 56 (by decide +kernel)
theorem kX6_copy : (vwCl[6]?).map (fun q => q.1) = some yX6_copy.cls := rfl
theorem MX6_copyElements : gMth yX6_copyElements cX6_copyElements 7 (some .int) := ⟨tb_at 1124 (by decide +kernel), by decide, by decide +kernel, by decide +kernel⟩
theorem hX6_copyElements : gNH yX6_copyElements 5 := ⟨by decide +kernel, by decide +kernel, by decide +kernel⟩
theorem iX6_copyElements : Cond.instanceMethod yX6_copyElements ∈ lw_tbl := tb_at 1122 (by decide +kernel)
theorem sX6_copyElements : Cond.selects yX6_copyElements.cls yX6_copyElements yX6_copyElements ∈ lw_tbl := tb_at 1123 (by decide +kernel)
theorem nX6_copyElements : Cond.initialized yX6_copyElements.cls ∈ lw_tbl := tb_at 56 (by decide +kernel)
theorem kX6_copyElements : (vwCl[6]?).map (fun q => q.1) = some yX6_copyElements.cls := rfl
theorem MX6_countOf : gMth yX6_countOf cX6_countOf 6 (some .int) := ⟨tb_at 916 (by decide +kernel), by decide, by decide +kernel, by decide +kernel⟩
theorem hX6_countOf : gNH yX6_countOf 4 := ⟨by decide +kernel, by decide +kernel, by decide +kernel⟩
theorem tX6_countOf : Cond.static yX6_countOf ∈ lw_tbl := tb_at 915 (by decide +kernel)
theorem nX6_countOf : Cond.initialized yX6_countOf.cls ∈ lw_tbl := tb_at 56 (by decide +kernel)
theorem kX6_countOf : (vwCl[6]?).map (fun q => q.1) = some yX6_countOf.cls := rfl
theorem MX6_countWords : gMth yX6_countWords cX6_countWords 6 (some .int) := ⟨tb_at 1082 (by decide +kernel), by decide, by decide +kernel, by decide +kernel⟩
theorem hX6_countWords : gNH yX6_countWords 3 := ⟨by decide +kernel, by decide +kernel, by decide +kernel⟩
theorem iX6_countWords : Cond.instanceMethod yX6_countWords ∈ lw_tbl := tb_at 1080 (by decide +kernel)
theorem sX6_countWords : Cond.selects yX6_countWords.cls yX6_countWords yX6_countWords ∈ lw_tbl := tb_at 1081 (by decide +kernel)
theorem nX6_countWords : Cond.initialized yX6_countWords.cls ∈ lw_tbl := tb_at 56 (by decide +kernel)
theorem kX6_countWords : (vwCl[6]?).map (fun q => q.1) = some yX6_countWords.cls := rfl
theorem MX6_covers : gMth yX6_covers cX6_covers 4 (some .boolean) := ⟨tb_at 1058 (by decide +kernel), by decide, by decide +kernel, by decide +kernel⟩
theorem hX6_covers : gNH yX6_covers 3 := ⟨by decide +kernel, by decide +kernel, by decide +kernel⟩
theorem iX6_covers : Cond.instanceMethod yX6_covers ∈ lw_tbl := tb_at 1057 (by decide +kernel)
theorem sX6_covers : Cond.selects yX6_covers.cls yX6_covers yX6_covers ∈ lw_tbl := tb_at 41 (by decide +kernel)
theorem nX6_covers : Cond.initialized yX6_covers.cls ∈ lw_tbl := tb_at 56 (by decide +kernel)
theorem kX6_covers : (vwCl[6]?).map (fun q => q.1) = some yX6_covers.cls := rfl
theorem MX6_difference : gMth yX6_difference cX6_difference 7 (some .long) := ⟨tb_at 1098 (by decide +kernel), by decide, by decide +kernel, by decide +kernel⟩
theorem hX6_difference : gNH yX6_difference 4 := ⟨by decide +kernel, by decide +kernel, by decide +kernel⟩
theorem iX6_difference : Cond.instanceMethod yX6_difference ∈ lw_tbl := tb_at 1096 (by decide +kernel)
theorem sX6_difference : Cond.selects yX6_difference.cls yX6_difference yX6_difference ∈ lw_tbl := tb_at 1097 (by decide +kernel)
theorem nX6_difference : Cond.initialized yX6_difference.cls ∈ lw_tbl := tb_at 56 (by decide +kernel)
theorem kX6_difference : (vwCl[6]?).map (fun q => q.1) = some yX6_difference.cls := rfl
theorem MX6_element : gMth yX6_element cX6_element 3 (some .long) := ⟨tb_at 1120 (by decide +kernel), by decide, by decide +kernel, by decide +kernel⟩
theorem hX6_element : gNH yX6_element 2 := ⟨by decide +kernel, by decide +kernel, by decide +kernel⟩
theorem iX6_element : Cond.instanceMethod yX6_element ∈ lw_tbl := tb_at 1118 (by decide +kernel)
theorem sX6_element : Cond.selects yX6_element.cls yX6_element yX6_element ∈ lw_tbl := tb_at 1119 (by decide +kernel)
theorem nX6_element : Cond.initialized yX6_element.cls ∈ lw_tbl := tb_at 56 (by decide +kernel)
theorem kX6_element : (vwCl[6]?).map (fun q => q.1) = some yX6_element.cls := rfl
theorem MX6_exchange : gMth yX6_exchange cX6_exchange 5 (some .int) := ⟨tb_at 942 (by decide +kernel), by decide, by decide +kernel, by decide +kernel⟩
theorem hX6_exchange : gNH yX6_exchange 3 := ⟨by decide +kernel, by decide +kernel, by decide +kernel⟩
theorem iX6_exchange : Cond.instanceMethod yX6_exchange ∈ lw_tbl := tb_at 941 (by decide +kernel)
theorem sX6_exchange : Cond.selects yX6_exchange.cls yX6_exchange yX6_exchange ∈ lw_tbl := tb_at 31 (by decide +kernel)
theorem nX6_exchange : Cond.initialized yX6_exchange.cls ∈ lw_tbl := tb_at 56 (by decide +kernel)
theorem kX6_exchange : (vwCl[6]?).map (fun q => q.1) = some yX6_exchange.cls := rfl
theorem MX6_findOneVariable : gMth yX6_findOneVariable cX6_findOneVariable 3 (some .int) := ⟨tb_at 1078 (by decide +kernel), by decide, by decide +kernel, by decide +kernel⟩
theorem hX6_findOneVariable : gNH yX6_findOneVariable 1 := ⟨by decide +kernel, by decide +kernel, by decide +kernel⟩
theorem iX6_findOneVariable : Cond.instanceMethod yX6_findOneVariable ∈ lw_tbl := tb_at 1076 (by decide +kernel)
theorem sX6_findOneVariable : Cond.selects yX6_findOneVariable.cls yX6_findOneVariable yX6_findOneVariable ∈ lw_tbl := tb_at 1077 (by decide +kernel)
theorem nX6_findOneVariable : Cond.initialized yX6_findOneVariable.cls ∈ lw_tbl := tb_at 56 (by decide +kernel)
theorem kX6_findOneVariable : (vwCl[6]?).map (fun q => q.1) = some yX6_findOneVariable.cls := rfl
theorem MX6_findPattern : gMth yX6_findPattern cX6_findPattern 4 (some .int) := ⟨tb_at 1066 (by decide +kernel), by decide, by decide +kernel, by decide +kernel⟩
theorem hX6_findPattern : gNH yX6_findPattern 3 := ⟨by decide +kernel, by decide +kernel, by decide +kernel⟩
theorem iX6_findPattern : Cond.instanceMethod yX6_findPattern ∈ lw_tbl := tb_at 1064 (by decide +kernel)
theorem sX6_findPattern : Cond.selects yX6_findPattern.cls yX6_findPattern yX6_findPattern ∈ lw_tbl := tb_at 1065 (by decide +kernel)
theorem nX6_findPattern : Cond.initialized yX6_findPattern.cls ∈ lw_tbl := tb_at 56 (by decide +kernel)
theorem kX6_findPattern : (vwCl[6]?).map (fun q => q.1) = some yX6_findPattern.cls := rfl
theorem MX6_firstMisfit : gMth yX6_firstMisfit cX6_firstMisfit 3 (some .int) := ⟨tb_at 1046 (by decide +kernel), by decide, by decide +kernel, by decide +kernel⟩
theorem hX6_firstMisfit : gNH yX6_firstMisfit 2 := ⟨by decide +kernel, by decide +kernel, by decide +kernel⟩
theorem iX6_firstMisfit : Cond.instanceMethod yX6_firstMisfit ∈ lw_tbl := tb_at 1044 (by decide +kernel)
theorem sX6_firstMisfit : Cond.selects yX6_firstMisfit.cls yX6_firstMisfit yX6_firstMisfit ∈ lw_tbl := tb_at 1045 (by decide +kernel)
theorem nX6_firstMisfit : Cond.initialized yX6_firstMisfit.cls ∈ lw_tbl := tb_at 56 (by decide +kernel)
theorem kX6_firstMisfit : (vwCl[6]?).map (fun q => q.1) = some yX6_firstMisfit.cls := rfl
theorem MX6_firstWord : gMth yX6_firstWord cX6_firstWord 2 none := ⟨tb_at 1086 (by decide +kernel), by decide, by decide +kernel, by decide +kernel⟩
theorem hX6_firstWord : gNH yX6_firstWord 0 := ⟨by decide +kernel, by decide +kernel, by decide +kernel⟩
theorem iX6_firstWord : Cond.instanceMethod yX6_firstWord ∈ lw_tbl := tb_at 1085 (by decide +kernel)
theorem sX6_firstWord : Cond.selects yX6_firstWord.cls yX6_firstWord yX6_firstWord ∈ lw_tbl := tb_at 44 (by decide +kernel)
theorem nX6_firstWord : Cond.initialized yX6_firstWord.cls ∈ lw_tbl := tb_at 56 (by decide +kernel)
theorem kX6_firstWord : (vwCl[6]?).map (fun q => q.1) = some yX6_firstWord.cls := rfl
theorem MX6_generates : gMth yX6_generates cX6_generates 4 (some .boolean) := ⟨tb_at 1090 (by decide +kernel), by decide, by decide +kernel, by decide +kernel⟩
theorem hX6_generates : gNH yX6_generates 3 := ⟨by decide +kernel, by decide +kernel, by decide +kernel⟩
theorem iX6_generates : Cond.instanceMethod yX6_generates ∈ lw_tbl := tb_at 1089 (by decide +kernel)
theorem sX6_generates : Cond.selects yX6_generates.cls yX6_generates yX6_generates ∈ lw_tbl := tb_at 45 (by decide +kernel)
theorem nX6_generates : Cond.initialized yX6_generates.cls ∈ lw_tbl := tb_at 56 (by decide +kernel)
theorem kX6_generates : (vwCl[6]?).map (fun q => q.1) = some yX6_generates.cls := rfl
theorem MX6_imageLetter : gMth yX6_imageLetter cX6_imageLetter 3 (some .int) := ⟨tb_at 1009 (by decide +kernel), by decide, by decide +kernel, by decide +kernel⟩
theorem hX6_imageLetter : gNH yX6_imageLetter 2 := ⟨by decide +kernel, by decide +kernel, by decide +kernel⟩
theorem iX6_imageLetter : Cond.instanceMethod yX6_imageLetter ∈ lw_tbl := tb_at 1007 (by decide +kernel)
theorem sX6_imageLetter : Cond.selects yX6_imageLetter.cls yX6_imageLetter yX6_imageLetter ∈ lw_tbl := tb_at 1008 (by decide +kernel)
theorem nX6_imageLetter : Cond.initialized yX6_imageLetter.cls ∈ lw_tbl := tb_at 56 (by decide +kernel)
theorem kX6_imageLetter : (vwCl[6]?).map (fun q => q.1) = some yX6_imageLetter.cls := rfl
theorem MX6_in : gMth yX6_in cX6_in 3 (some .boolean) := ⟨tb_at 854 (by decide +kernel), by decide, by decide +kernel, by decide +kernel⟩
theorem hX6_in : gNH yX6_in 3 := ⟨by decide +kernel, by decide +kernel, by decide +kernel⟩
theorem tX6_in : Cond.static yX6_in ∈ lw_tbl := tb_at 853 (by decide +kernel)
theorem nX6_in : Cond.initialized yX6_in.cls ∈ lw_tbl := tb_at 56 (by decide +kernel)
theorem kX6_in : (vwCl[6]?).map (fun q => q.1) = some yX6_in.cls := rfl
theorem MX6_init : gMth yX6_init cX6_init 1 none := ⟨tb_at 714 (by decide +kernel), by decide, by decide +kernel, by decide +kernel⟩
theorem hX6_init : gNH yX6_init 0 := ⟨by decide +kernel, by decide +kernel, by decide +kernel⟩
theorem iX6_init : Cond.instanceMethod yX6_init ∈ lw_tbl := tb_at 713 (by decide +kernel)
theorem nX6_init : Cond.initialized yX6_init.cls ∈ lw_tbl := tb_at 56 (by decide +kernel)
theorem kX6_init : (vwCl[6]?).map (fun q => q.1) = some yX6_init.cls := rfl
theorem MX6_inputIs : gMth yX6_inputIs cX6_inputIs 4 (some .boolean) := ⟨tb_at 959 (by decide +kernel), by decide, by decide +kernel, by decide +kernel⟩
theorem hX6_inputIs : gNH yX6_inputIs 1 := ⟨by decide +kernel, by decide +kernel, by decide +kernel⟩
theorem iX6_inputIs : Cond.instanceMethod yX6_inputIs ∈ lw_tbl := tb_at 958 (by decide +kernel)
theorem sX6_inputIs : Cond.selects yX6_inputIs.cls yX6_inputIs yX6_inputIs ∈ lw_tbl := tb_at 32 (by decide +kernel)
theorem nX6_inputIs : Cond.initialized yX6_inputIs.cls ∈ lw_tbl := tb_at 56 (by decide +kernel)
theorem kX6_inputIs : (vwCl[6]?).map (fun q => q.1) = some yX6_inputIs.cls := rfl
theorem MX6_isInSample : gMth yX6_isInSample cX6_isInSample 2 (some .boolean) := ⟨tb_at 1029 (by decide +kernel), by decide, by decide +kernel, by decide +kernel⟩
theorem hX6_isInSample : gNH yX6_isInSample 1 := ⟨by decide +kernel, by decide +kernel, by decide +kernel⟩
theorem iX6_isInSample : Cond.instanceMethod yX6_isInSample ∈ lw_tbl := tb_at 1028 (by decide +kernel)
theorem sX6_isInSample : Cond.selects yX6_isInSample.cls yX6_isInSample yX6_isInSample ∈ lw_tbl := tb_at 39 (by decide +kernel)
theorem nX6_isInSample : Cond.initialized yX6_isInSample.cls ∈ lw_tbl := tb_at 56 (by decide +kernel)
theorem kX6_isInSample : (vwCl[6]?).map (fun q => q.1) = some yX6_isInSample.cls := rfl
theorem MX6_isMode : gMth yX6_isMode cX6_isMode 1 (some .boolean) := ⟨tb_at 976 (by decide +kernel), by decide, by decide +kernel, by decide +kernel⟩
theorem hX6_isMode : gNH yX6_isMode 1 := ⟨by decide +kernel, by decide +kernel, by decide +kernel⟩
theorem tX6_isMode : Cond.static yX6_isMode ∈ lw_tbl := tb_at 975 (by decide +kernel)
theorem nX6_isMode : Cond.initialized yX6_isMode.cls ∈ lw_tbl := tb_at 56 (by decide +kernel)
theorem kX6_isMode : (vwCl[6]?).map (fun q => q.1) = some yX6_isMode.cls := rfl
theorem MX6_isMoreGeneral : gMth yX6_isMoreGeneral cX6_isMoreGeneral 4 (some .int) := ⟨tb_at 1054 (by decide +kernel), by decide, by decide +kernel, by decide +kernel⟩
theorem hX6_isMoreGeneral : gNH yX6_isMoreGeneral 3 := ⟨by decide +kernel, by decide +kernel, by decide +kernel⟩
theorem iX6_isMoreGeneral : Cond.instanceMethod yX6_isMoreGeneral ∈ lw_tbl := tb_at 1052 (by decide +kernel)
theorem sX6_isMoreGeneral : Cond.selects yX6_isMoreGeneral.cls yX6_isMoreGeneral yX6_isMoreGeneral ∈ lw_tbl := tb_at 1053 (by decide +kernel)
theorem nX6_isMoreGeneral : Cond.initialized yX6_isMoreGeneral.cls ∈ lw_tbl := tb_at 56 (by decide +kernel)
theorem kX6_isMoreGeneral : (vwCl[6]?).map (fun q => q.1) = some yX6_isMoreGeneral.cls := rfl
theorem MX6_isRegister : gMth yX6_isRegister cX6_isRegister 1 (some .boolean) := ⟨tb_at 881 (by decide +kernel), by decide, by decide +kernel, by decide +kernel⟩
theorem hX6_isRegister : gNH yX6_isRegister 1 := ⟨by decide +kernel, by decide +kernel, by decide +kernel⟩
theorem tX6_isRegister : Cond.static yX6_isRegister ∈ lw_tbl := tb_at 880 (by decide +kernel)
theorem nX6_isRegister : Cond.initialized yX6_isRegister.cls ∈ lw_tbl := tb_at 56 (by decide +kernel)
theorem kX6_isRegister : (vwCl[6]?).map (fun q => q.1) = some yX6_isRegister.cls := rfl
theorem MX6_isSlot : gMth yX6_isSlot cX6_isSlot 1 (some .boolean) := ⟨tb_at 1105 (by decide +kernel), by decide, by decide +kernel, by decide +kernel⟩
theorem hX6_isSlot : gNH yX6_isSlot 1 := ⟨by decide +kernel, by decide +kernel, by decide +kernel⟩
theorem tX6_isSlot : Cond.static yX6_isSlot ∈ lw_tbl := tb_at 1104 (by decide +kernel)
theorem nX6_isSlot : Cond.initialized yX6_isSlot.cls ∈ lw_tbl := tb_at 56 (by decide +kernel)
theorem kX6_isSlot : (vwCl[6]?).map (fun q => q.1) = some yX6_isSlot.cls := rfl
theorem MX6_length : gMth yX6_length cX6_length 2 (some .int) := ⟨tb_at 898 (by decide +kernel), by decide, by decide +kernel, by decide +kernel⟩
theorem hX6_length : gNH yX6_length 1 := ⟨by decide +kernel, by decide +kernel, by decide +kernel⟩
theorem iX6_length : Cond.instanceMethod yX6_length ∈ lw_tbl := tb_at 896 (by decide +kernel)
theorem sX6_length : Cond.selects yX6_length.cls yX6_length yX6_length ∈ lw_tbl := tb_at 897 (by decide +kernel)
theorem nX6_length : Cond.initialized yX6_length.cls ∈ lw_tbl := tb_at 56 (by decide +kernel)
theorem kX6_length : (vwCl[6]?).map (fun q => q.1) = some yX6_length.cls := rfl
theorem MX6_letters : gMth yX6_letters cX6_letters 1 (some .int) := ⟨tb_at 858 (by decide +kernel), by decide, by decide +kernel, by decide +kernel⟩
theorem hX6_letters : gNH yX6_letters 0 := ⟨by decide +kernel, by decide +kernel, by decide +kernel⟩
theorem iX6_letters : Cond.instanceMethod yX6_letters ∈ lw_tbl := tb_at 856 (by decide +kernel)
theorem sX6_letters : Cond.selects yX6_letters.cls yX6_letters yX6_letters ∈ lw_tbl := tb_at 857 (by decide +kernel)
theorem nX6_letters : Cond.initialized yX6_letters.cls ∈ lw_tbl := tb_at 56 (by decide +kernel)
theorem kX6_letters : (vwCl[6]?).map (fun q => q.1) = some yX6_letters.cls := rfl
theorem MX6_lettersIn : gMth yX6_lettersIn cX6_lettersIn 5 (some .int) := ⟨tb_at 934 (by decide +kernel), by decide, by decide +kernel, by decide +kernel⟩
theorem hX6_lettersIn : gNH yX6_lettersIn 3 := ⟨by decide +kernel, by decide +kernel, by decide +kernel⟩
theorem tX6_lettersIn : Cond.static yX6_lettersIn ∈ lw_tbl := tb_at 933 (by decide +kernel)
theorem nX6_lettersIn : Cond.initialized yX6_lettersIn.cls ∈ lw_tbl := tb_at 56 (by decide +kernel)
theorem kX6_lettersIn : (vwCl[6]?).map (fun q => q.1) = some yX6_lettersIn.cls := rfl
theorem MX6_loadPattern : gMth yX6_loadPattern cX6_loadPattern 4 (some .int) := ⟨tb_at 1128 (by decide +kernel), by decide, by decide +kernel, by decide +kernel⟩
theorem hX6_loadPattern : gNH yX6_loadPattern 2 := ⟨by decide +kernel, by decide +kernel, by decide +kernel⟩
theorem iX6_loadPattern : Cond.instanceMethod yX6_loadPattern ∈ lw_tbl := tb_at 1126 (by decide +kernel)
theorem sX6_loadPattern : Cond.selects yX6_loadPattern.cls yX6_loadPattern yX6_loadPattern ∈ lw_tbl := tb_at 1127 (by decide +kernel)
theorem nX6_loadPattern : Cond.initialized yX6_loadPattern.cls ∈ lw_tbl := tb_at 56 (by decide +kernel)
theorem kX6_loadPattern : (vwCl[6]?).map (fun q => q.1) = some yX6_loadPattern.cls := rfl
theorem MX6_match : gMth yX6_match cX6_match 10 (some .int) := ⟨tb_at 984 (by decide +kernel), by decide, by decide +kernel, by decide +kernel⟩
theorem hX6_match : gNH yX6_match 8 := ⟨by decide +kernel, by decide +kernel, by decide +kernel⟩
theorem iX6_match : Cond.instanceMethod yX6_match ∈ lw_tbl := tb_at 983 (by decide +kernel)
theorem sX6_match : Cond.selects yX6_match.cls yX6_match yX6_match ∈ lw_tbl := tb_at 35 (by decide +kernel)
theorem nX6_match : Cond.initialized yX6_match.cls ∈ lw_tbl := tb_at 56 (by decide +kernel)
theorem kX6_match : (vwCl[6]?).map (fun q => q.1) = some yX6_match.cls := rfl
theorem MX6_matchCount : gMth yX6_matchCount cX6_matchCount 4 (some .int) := ⟨tb_at 996 (by decide +kernel), by decide, by decide +kernel, by decide +kernel⟩
theorem hX6_matchCount : gNH yX6_matchCount 2 := ⟨by decide +kernel, by decide +kernel, by decide +kernel⟩
theorem iX6_matchCount : Cond.instanceMethod yX6_matchCount ∈ lw_tbl := tb_at 994 (by decide +kernel)
theorem sX6_matchCount : Cond.selects yX6_matchCount.cls yX6_matchCount yX6_matchCount ∈ lw_tbl := tb_at 995 (by decide +kernel)
theorem nX6_matchCount : Cond.initialized yX6_matchCount.cls ∈ lw_tbl := tb_at 56 (by decide +kernel)
theorem kX6_matchCount : (vwCl[6]?).map (fun q => q.1) = some yX6_matchCount.cls := rfl
theorem MX6_match_ : gMth yX6_match_ cX6_match_ 7 (some .int) := ⟨tb_at 1001 (by decide +kernel), by decide, by decide +kernel, by decide +kernel⟩
theorem hX6_match_ : gNH yX6_match_ 2 := ⟨by decide +kernel, by decide +kernel, by decide +kernel⟩
theorem iX6_match_ : Cond.instanceMethod yX6_match_ ∈ lw_tbl := tb_at 999 (by decide +kernel)
theorem sX6_match_ : Cond.selects yX6_match_.cls yX6_match_ yX6_match_ ∈ lw_tbl := tb_at 1000 (by decide +kernel)
theorem nX6_match_ : Cond.initialized yX6_match_.cls ∈ lw_tbl := tb_at 56 (by decide +kernel)
theorem kX6_match_ : (vwCl[6]?).map (fun q => q.1) = some yX6_match_.cls := rfl
theorem MX6_matches : gMth yX6_matches cX6_matches 4 (some .int) := ⟨tb_at 969 (by decide +kernel), by decide, by decide +kernel, by decide +kernel⟩
theorem hX6_matches : gNH yX6_matches 2 := ⟨by decide +kernel, by decide +kernel, by decide +kernel⟩
theorem iX6_matches : Cond.instanceMethod yX6_matches ∈ lw_tbl := tb_at 967 (by decide +kernel)
theorem sX6_matches : Cond.selects yX6_matches.cls yX6_matches yX6_matches ∈ lw_tbl := tb_at 968 (by decide +kernel)
theorem nX6_matches : Cond.initialized yX6_matches.cls ∈ lw_tbl := tb_at 56 (by decide +kernel)
theorem kX6_matches : (vwCl[6]?).map (fun q => q.1) = some yX6_matches.cls := rfl
theorem MX6_matchesOf : gMth yX6_matchesOf cX6_matchesOf 4 (some .int) := ⟨tb_at 980 (by decide +kernel), by decide, by decide +kernel, by decide +kernel⟩
theorem hX6_matchesOf : gNH yX6_matchesOf 3 := ⟨by decide +kernel, by decide +kernel, by decide +kernel⟩
theorem iX6_matchesOf : Cond.instanceMethod yX6_matchesOf ∈ lw_tbl := tb_at 979 (by decide +kernel)
theorem sX6_matchesOf : Cond.selects yX6_matchesOf.cls yX6_matchesOf yX6_matchesOf ∈ lw_tbl := tb_at 34 (by decide +kernel)
theorem nX6_matchesOf : Cond.initialized yX6_matchesOf.cls ∈ lw_tbl := tb_at 56 (by decide +kernel)
theorem kX6_matchesOf : (vwCl[6]?).map (fun q => q.1) = some yX6_matchesOf.cls := rfl
theorem MX6_merge : gMth yX6_merge cX6_merge 4 (some .int) := ⟨tb_at 946 (by decide +kernel), by decide, by decide +kernel, by decide +kernel⟩
theorem hX6_merge : gNH yX6_merge 3 := ⟨by decide +kernel, by decide +kernel, by decide +kernel⟩
theorem iX6_merge : Cond.instanceMethod yX6_merge ∈ lw_tbl := tb_at 944 (by decide +kernel)
theorem sX6_merge : Cond.selects yX6_merge.cls yX6_merge yX6_merge ∈ lw_tbl := tb_at 945 (by decide +kernel)
theorem nX6_merge : Cond.initialized yX6_merge.cls ∈ lw_tbl := tb_at 56 (by decide +kernel)
theorem kX6_merge : (vwCl[6]?).map (fun q => q.1) = some yX6_merge.cls := rfl
theorem MX6_misfit : gMth yX6_misfit cX6_misfit 6 (some .int) := ⟨tb_at 1050 (by decide +kernel), by decide, by decide +kernel, by decide +kernel⟩
theorem hX6_misfit : gNH yX6_misfit 4 := ⟨by decide +kernel, by decide +kernel, by decide +kernel⟩
theorem iX6_misfit : Cond.instanceMethod yX6_misfit ∈ lw_tbl := tb_at 1049 (by decide +kernel)
theorem sX6_misfit : Cond.selects yX6_misfit.cls yX6_misfit yX6_misfit ∈ lw_tbl := tb_at 40 (by decide +kernel)
theorem nX6_misfit : Cond.initialized yX6_misfit.cls ∈ lw_tbl := tb_at 56 (by decide +kernel)
theorem kX6_misfit : (vwCl[6]?).map (fun q => q.1) = some yX6_misfit.cls := rfl
theorem MX6_narrowed : gMth yX6_narrowed cX6_narrowed 3 (some .long) := ⟨tb_at 1116 (by decide +kernel), by decide, by decide +kernel, by decide +kernel⟩
theorem hX6_narrowed : gNH yX6_narrowed 2 := ⟨by decide +kernel, by decide +kernel, by decide +kernel⟩
theorem tX6_narrowed : Cond.static yX6_narrowed ∈ lw_tbl := tb_at 1115 (by decide +kernel)
theorem nX6_narrowed : Cond.initialized yX6_narrowed.cls ∈ lw_tbl := tb_at 56 (by decide +kernel)
theorem kX6_narrowed : (vwCl[6]?).map (fun q => q.1) = some yX6_narrowed.cls := rfl
theorem MX6_nextWord : gMth yX6_nextWord cX6_nextWord 3 (some .boolean) := ⟨tb_at 1094 (by decide +kernel), by decide, by decide +kernel, by decide +kernel⟩
theorem hX6_nextWord : gNH yX6_nextWord 1 := ⟨by decide +kernel, by decide +kernel, by decide +kernel⟩
theorem iX6_nextWord : Cond.instanceMethod yX6_nextWord ∈ lw_tbl := tb_at 1093 (by decide +kernel)
theorem sX6_nextWord : Cond.selects yX6_nextWord.cls yX6_nextWord yX6_nextWord ∈ lw_tbl := tb_at 46 (by decide +kernel)
theorem nX6_nextWord : Cond.initialized yX6_nextWord.cls ∈ lw_tbl := tb_at 56 (by decide +kernel)
theorem kX6_nextWord : (vwCl[6]?).map (fun q => q.1) = some yX6_nextWord.cls := rfl
theorem MX6_normalize : gMth yX6_normalize cX6_normalize 5 none := ⟨tb_at 890 (by decide +kernel), by decide, by decide +kernel, by decide +kernel⟩
theorem hX6_normalize : gNH yX6_normalize 1 := ⟨by decide +kernel, by decide +kernel, by decide +kernel⟩
theorem iX6_normalize : Cond.instanceMethod yX6_normalize ∈ lw_tbl := tb_at 889 (by decide +kernel)
theorem sX6_normalize : Cond.selects yX6_normalize.cls yX6_normalize yX6_normalize ∈ lw_tbl := tb_at 28 (by decide +kernel)
theorem nX6_normalize : Cond.initialized yX6_normalize.cls ∈ lw_tbl := tb_at 56 (by decide +kernel)
theorem kX6_normalize : (vwCl[6]?).map (fun q => q.1) = some yX6_normalize.cls := rfl
theorem MX6_occurrences : gMth yX6_occurrences cX6_occurrences 4 (some .int) := ⟨tb_at 920 (by decide +kernel), by decide, by decide +kernel, by decide +kernel⟩
theorem hX6_occurrences : gNH yX6_occurrences 2 := ⟨by decide +kernel, by decide +kernel, by decide +kernel⟩
theorem iX6_occurrences : Cond.instanceMethod yX6_occurrences ∈ lw_tbl := tb_at 918 (by decide +kernel)
theorem sX6_occurrences : Cond.selects yX6_occurrences.cls yX6_occurrences yX6_occurrences ∈ lw_tbl := tb_at 919 (by decide +kernel)
theorem nX6_occurrences : Cond.initialized yX6_occurrences.cls ∈ lw_tbl := tb_at 56 (by decide +kernel)
theorem kX6_occurrences : (vwCl[6]?).map (fun q => q.1) = some yX6_occurrences.cls := rfl
theorem MX6_occurs : gMth yX6_occurs cX6_occurs 3 (some .int) := ⟨tb_at 924 (by decide +kernel), by decide, by decide +kernel, by decide +kernel⟩
theorem hX6_occurs : gNH yX6_occurs 2 := ⟨by decide +kernel, by decide +kernel, by decide +kernel⟩
theorem iX6_occurs : Cond.instanceMethod yX6_occurs ∈ lw_tbl := tb_at 923 (by decide +kernel)
theorem sX6_occurs : Cond.selects yX6_occurs.cls yX6_occurs yX6_occurs ∈ lw_tbl := tb_at 30 (by decide +kernel)
theorem nX6_occurs : Cond.initialized yX6_occurs.cls ∈ lw_tbl := tb_at 56 (by decide +kernel)
theorem kX6_occurs : (vwCl[6]?).map (fun q => q.1) = some yX6_occurs.cls := rfl
theorem MX6_produces : gMth yX6_produces cX6_produces 6 (some .boolean) := ⟨tb_at 992 (by decide +kernel), by decide, by decide +kernel, by decide +kernel⟩
theorem hX6_produces : gNH yX6_produces 0 := ⟨by decide +kernel, by decide +kernel, by decide +kernel⟩
theorem iX6_produces : Cond.instanceMethod yX6_produces ∈ lw_tbl := tb_at 991 (by decide +kernel)
theorem sX6_produces : Cond.selects yX6_produces.cls yX6_produces yX6_produces ∈ lw_tbl := tb_at 37 (by decide +kernel)
theorem nX6_produces : Cond.initialized yX6_produces.cls ∈ lw_tbl := tb_at 56 (by decide +kernel)
theorem kX6_produces : (vwCl[6]?).map (fun q => q.1) = some yX6_produces.cls := rfl
theorem MX6_putElement : gMth yX6_putElement cX6_putElement 5 (some .int) := ⟨tb_at 1113 (by decide +kernel), by decide, by decide +kernel, by decide +kernel⟩
theorem hX6_putElement : gNH yX6_putElement 3 := ⟨by decide +kernel, by decide +kernel, by decide +kernel⟩
theorem iX6_putElement : Cond.instanceMethod yX6_putElement ∈ lw_tbl := tb_at 1111 (by decide +kernel)
theorem sX6_putElement : Cond.selects yX6_putElement.cls yX6_putElement yX6_putElement ∈ lw_tbl := tb_at 1112 (by decide +kernel)
theorem nX6_putElement : Cond.initialized yX6_putElement.cls ∈ lw_tbl := tb_at 56 (by decide +kernel)
theorem kX6_putElement : (vwCl[6]?).map (fun q => q.1) = some yX6_putElement.cls := rfl
theorem MX6_release : gMth yX6_release cX6_release 3 (some .int) := ⟨tb_at 1109 (by decide +kernel), by decide, by decide +kernel, by decide +kernel⟩
theorem hX6_release : gNH yX6_release 1 := ⟨by decide +kernel, by decide +kernel, by decide +kernel⟩
theorem iX6_release : Cond.instanceMethod yX6_release ∈ lw_tbl := tb_at 1107 (by decide +kernel)
theorem sX6_release : Cond.selects yX6_release.cls yX6_release yX6_release ∈ lw_tbl := tb_at 1108 (by decide +kernel)
theorem nX6_release : Cond.initialized yX6_release.cls ∈ lw_tbl := tb_at 56 (by decide +kernel)
theorem kX6_release : (vwCl[6]?).map (fun q => q.1) = some yX6_release.cls := rfl
theorem MX6_removeWord : gMth yX6_removeWord cX6_removeWord 3 (some .int) := ⟨tb_at 1025 (by decide +kernel), by decide, by decide +kernel, by decide +kernel⟩
theorem hX6_removeWord : gNH yX6_removeWord 1 := ⟨by decide +kernel, by decide +kernel, by decide +kernel⟩
theorem iX6_removeWord : Cond.instanceMethod yX6_removeWord ∈ lw_tbl := tb_at 1023 (by decide +kernel)
theorem sX6_removeWord : Cond.selects yX6_removeWord.cls yX6_removeWord yX6_removeWord ∈ lw_tbl := tb_at 1024 (by decide +kernel)
theorem nX6_removeWord : Cond.initialized yX6_removeWord.cls ∈ lw_tbl := tb_at 56 (by decide +kernel)
theorem kX6_removeWord : (vwCl[6]?).map (fun q => q.1) = some yX6_removeWord.cls := rfl
theorem MX6_replace : gMth yX6_replace cX6_replace 4 (some .int) := ⟨tb_at 938 (by decide +kernel), by decide, by decide +kernel, by decide +kernel⟩
theorem hX6_replace : gNH yX6_replace 3 := ⟨by decide +kernel, by decide +kernel, by decide +kernel⟩
theorem iX6_replace : Cond.instanceMethod yX6_replace ∈ lw_tbl := tb_at 936 (by decide +kernel)
theorem sX6_replace : Cond.selects yX6_replace.cls yX6_replace yX6_replace ∈ lw_tbl := tb_at 937 (by decide +kernel)
theorem nX6_replace : Cond.initialized yX6_replace.cls ∈ lw_tbl := tb_at 56 (by decide +kernel)
theorem kX6_replace : (vwCl[6]?).map (fun q => q.1) = some yX6_replace.cls := rfl
theorem MX6_reset : gMth yX6_reset cX6_reset 3 (some .int) := ⟨tb_at 851 (by decide +kernel), by decide, by decide +kernel, by decide +kernel⟩
theorem hX6_reset : gNH yX6_reset 1 := ⟨by decide +kernel, by decide +kernel, by decide +kernel⟩
theorem iX6_reset : Cond.instanceMethod yX6_reset ∈ lw_tbl := tb_at 849 (by decide +kernel)
theorem sX6_reset : Cond.selects yX6_reset.cls yX6_reset yX6_reset ∈ lw_tbl := tb_at 850 (by decide +kernel)
theorem nX6_reset : Cond.initialized yX6_reset.cls ∈ lw_tbl := tb_at 56 (by decide +kernel)
theorem kX6_reset : (vwCl[6]?).map (fun q => q.1) = some yX6_reset.cls := rfl
theorem MX6_restore : gMth yX6_restore cX6_restore 1 (some .int) := ⟨tb_at 1143 (by decide +kernel), by decide, by decide +kernel, by decide +kernel⟩
theorem hX6_restore : gNH yX6_restore 0 := ⟨by decide +kernel, by decide +kernel, by decide +kernel⟩
theorem iX6_restore : Cond.instanceMethod yX6_restore ∈ lw_tbl := tb_at 1141 (by decide +kernel)
theorem sX6_restore : Cond.selects yX6_restore.cls yX6_restore yX6_restore ∈ lw_tbl := tb_at 1142 (by decide +kernel)
theorem nX6_restore : Cond.initialized yX6_restore.cls ∈ lw_tbl := tb_at 56 (by decide +kernel)
theorem kX6_restore : (vwCl[6]?).map (fun q => q.1) = some yX6_restore.cls := rfl
theorem MX6_sampleCode : gMth yX6_sampleCode cX6_sampleCode 2 (some .long) := ⟨tb_at 1037 (by decide +kernel), by decide, by decide +kernel, by decide +kernel⟩
theorem hX6_sampleCode : gNH yX6_sampleCode 1 := ⟨by decide +kernel, by decide +kernel, by decide +kernel⟩
theorem iX6_sampleCode : Cond.instanceMethod yX6_sampleCode ∈ lw_tbl := tb_at 1035 (by decide +kernel)
theorem sX6_sampleCode : Cond.selects yX6_sampleCode.cls yX6_sampleCode yX6_sampleCode ∈ lw_tbl := tb_at 1036 (by decide +kernel)
theorem nX6_sampleCode : Cond.initialized yX6_sampleCode.cls ∈ lw_tbl := tb_at 56 (by decide +kernel)
theorem kX6_sampleCode : (vwCl[6]?).map (fun q => q.1) = some yX6_sampleCode.cls := rfl
theorem MX6_sampleSize : gMth yX6_sampleSize cX6_sampleSize 1 (some .int) := ⟨tb_at 1033 (by decide +kernel), by decide, by decide +kernel, by decide +kernel⟩
theorem hX6_sampleSize : gNH yX6_sampleSize 0 := ⟨by decide +kernel, by decide +kernel, by decide +kernel⟩
theorem iX6_sampleSize : Cond.instanceMethod yX6_sampleSize ∈ lw_tbl := tb_at 1031 (by decide +kernel)
theorem sX6_sampleSize : Cond.selects yX6_sampleSize.cls yX6_sampleSize yX6_sampleSize ∈ lw_tbl := tb_at 1032 (by decide +kernel)
theorem nX6_sampleSize : Cond.initialized yX6_sampleSize.cls ∈ lw_tbl := tb_at 56 (by decide +kernel)
theorem kX6_sampleSize : (vwCl[6]?).map (fun q => q.1) = some yX6_sampleSize.cls := rfl
theorem MX6_search : gMth yX6_search cX6_search 7 none := ⟨tb_at 1070 (by decide +kernel), by decide, by decide +kernel, by decide +kernel⟩
theorem hX6_search : gNH yX6_search 5 := ⟨by decide +kernel, by decide +kernel, by decide +kernel⟩
theorem iX6_search : Cond.instanceMethod yX6_search ∈ lw_tbl := tb_at 1069 (by decide +kernel)
theorem sX6_search : Cond.selects yX6_search.cls yX6_search yX6_search ∈ lw_tbl := tb_at 42 (by decide +kernel)
theorem nX6_search : Cond.initialized yX6_search.cls ∈ lw_tbl := tb_at 56 (by decide +kernel)
theorem kX6_search : (vwCl[6]?).map (fun q => q.1) = some yX6_search.cls := rfl
theorem MX6_setImage : gMth yX6_setImage cX6_setImage 3 (some .int) := ⟨tb_at 1005 (by decide +kernel), by decide, by decide +kernel, by decide +kernel⟩
theorem hX6_setImage : gNH yX6_setImage 1 := ⟨by decide +kernel, by decide +kernel, by decide +kernel⟩
theorem iX6_setImage : Cond.instanceMethod yX6_setImage ∈ lw_tbl := tb_at 1003 (by decide +kernel)
theorem sX6_setImage : Cond.selects yX6_setImage.cls yX6_setImage yX6_setImage ∈ lw_tbl := tb_at 1004 (by decide +kernel)
theorem nX6_setImage : Cond.initialized yX6_setImage.cls ∈ lw_tbl := tb_at 56 (by decide +kernel)
theorem kX6_setImage : (vwCl[6]?).map (fun q => q.1) = some yX6_setImage.cls := rfl
theorem MX6_setPattern : gMth yX6_setPattern cX6_setPattern 3 (some .int) := ⟨tb_at 870 (by decide +kernel), by decide, by decide +kernel, by decide +kernel⟩
theorem hX6_setPattern : gNH yX6_setPattern 1 := ⟨by decide +kernel, by decide +kernel, by decide +kernel⟩
theorem iX6_setPattern : Cond.instanceMethod yX6_setPattern ∈ lw_tbl := tb_at 868 (by decide +kernel)
theorem sX6_setPattern : Cond.selects yX6_setPattern.cls yX6_setPattern yX6_setPattern ∈ lw_tbl := tb_at 869 (by decide +kernel)
theorem nX6_setPattern : Cond.initialized yX6_setPattern.cls ∈ lw_tbl := tb_at 56 (by decide +kernel)
theorem kX6_setPattern : (vwCl[6]?).map (fun q => q.1) = some yX6_setPattern.cls := rfl
theorem MX6_snapshot : gMth yX6_snapshot cX6_snapshot 1 (some .int) := ⟨tb_at 1132 (by decide +kernel), by decide, by decide +kernel, by decide +kernel⟩
theorem hX6_snapshot : gNH yX6_snapshot 0 := ⟨by decide +kernel, by decide +kernel, by decide +kernel⟩
theorem iX6_snapshot : Cond.instanceMethod yX6_snapshot ∈ lw_tbl := tb_at 1130 (by decide +kernel)
theorem sX6_snapshot : Cond.selects yX6_snapshot.cls yX6_snapshot yX6_snapshot ∈ lw_tbl := tb_at 1131 (by decide +kernel)
theorem nX6_snapshot : Cond.initialized yX6_snapshot.cls ∈ lw_tbl := tb_at 56 (by decide +kernel)
theorem kX6_snapshot : (vwCl[6]?).map (fun q => q.1) = some yX6_snapshot.cls := rfl
theorem MX6_split : gMth yX6_split cX6_split 6 (some .int) := ⟨tb_at 950 (by decide +kernel), by decide, by decide +kernel, by decide +kernel⟩
theorem hX6_split : gNH yX6_split 2 := ⟨by decide +kernel, by decide +kernel, by decide +kernel⟩
theorem iX6_split : Cond.instanceMethod yX6_split ∈ lw_tbl := tb_at 948 (by decide +kernel)
theorem sX6_split : Cond.selects yX6_split.cls yX6_split yX6_split ∈ lw_tbl := tb_at 949 (by decide +kernel)
theorem nX6_split : Cond.initialized yX6_split.cls ∈ lw_tbl := tb_at 56 (by decide +kernel)
theorem kX6_split : (vwCl[6]?).map (fun q => q.1) = some yX6_split.cls := rfl
theorem MX6_store : gMth yX6_store cX6_store 2 (some .int) := ⟨tb_at 885 (by decide +kernel), by decide, by decide +kernel, by decide +kernel⟩
theorem hX6_store : gNH yX6_store 1 := ⟨by decide +kernel, by decide +kernel, by decide +kernel⟩
theorem iX6_store : Cond.instanceMethod yX6_store ∈ lw_tbl := tb_at 884 (by decide +kernel)
theorem sX6_store : Cond.selects yX6_store.cls yX6_store yX6_store ∈ lw_tbl := tb_at 27 (by decide +kernel)
theorem nX6_store : Cond.initialized yX6_store.cls ∈ lw_tbl := tb_at 56 (by decide +kernel)
theorem kX6_store : (vwCl[6]?).map (fun q => q.1) = some yX6_store.cls := rfl
theorem MX6_storeBest : gMth yX6_storeBest cX6_storeBest 3 none := ⟨tb_at 1074 (by decide +kernel), by decide, by decide +kernel, by decide +kernel⟩
theorem hX6_storeBest : gNH yX6_storeBest 2 := ⟨by decide +kernel, by decide +kernel, by decide +kernel⟩
theorem iX6_storeBest : Cond.instanceMethod yX6_storeBest ∈ lw_tbl := tb_at 1073 (by decide +kernel)
theorem sX6_storeBest : Cond.selects yX6_storeBest.cls yX6_storeBest yX6_storeBest ∈ lw_tbl := tb_at 43 (by decide +kernel)
theorem nX6_storeBest : Cond.initialized yX6_storeBest.cls ∈ lw_tbl := tb_at 56 (by decide +kernel)
theorem kX6_storeBest : (vwCl[6]?).map (fun q => q.1) = some yX6_storeBest.cls := rfl
theorem MX6_symbol : gMth yX6_symbol cX6_symbol 3 (some .int) := ⟨tb_at 902 (by decide +kernel), by decide, by decide +kernel, by decide +kernel⟩
theorem hX6_symbol : gNH yX6_symbol 2 := ⟨by decide +kernel, by decide +kernel, by decide +kernel⟩
theorem iX6_symbol : Cond.instanceMethod yX6_symbol ∈ lw_tbl := tb_at 900 (by decide +kernel)
theorem sX6_symbol : Cond.selects yX6_symbol.cls yX6_symbol yX6_symbol ∈ lw_tbl := tb_at 901 (by decide +kernel)
theorem nX6_symbol : Cond.initialized yX6_symbol.cls ∈ lw_tbl := tb_at 56 (by decide +kernel)
theorem kX6_symbol : (vwCl[6]?).map (fun q => q.1) = some yX6_symbol.cls := rfl
theorem MX6_takeInput : gMth yX6_takeInput cX6_takeInput 4 (some .boolean) := ⟨tb_at 874 (by decide +kernel), by decide, by decide +kernel, by decide +kernel⟩
theorem hX6_takeInput : gNH yX6_takeInput 1 := ⟨by decide +kernel, by decide +kernel, by decide +kernel⟩
theorem iX6_takeInput : Cond.instanceMethod yX6_takeInput ∈ lw_tbl := tb_at 873 (by decide +kernel)
theorem sX6_takeInput : Cond.selects yX6_takeInput.cls yX6_takeInput yX6_takeInput ∈ lw_tbl := tb_at 25 (by decide +kernel)
theorem nX6_takeInput : Cond.initialized yX6_takeInput.cls ∈ lw_tbl := tb_at 56 (by decide +kernel)
theorem kX6_takeInput : (vwCl[6]?).map (fun q => q.1) = some yX6_takeInput.cls := rfl
theorem MX6_takeWord : gMth yX6_takeWord cX6_takeWord 4 (some .int) := ⟨tb_at 973 (by decide +kernel), by decide, by decide +kernel, by decide +kernel⟩
theorem hX6_takeWord : gNH yX6_takeWord 2 := ⟨by decide +kernel, by decide +kernel, by decide +kernel⟩
theorem iX6_takeWord : Cond.instanceMethod yX6_takeWord ∈ lw_tbl := tb_at 972 (by decide +kernel)
theorem sX6_takeWord : Cond.selects yX6_takeWord.cls yX6_takeWord yX6_takeWord ∈ lw_tbl := tb_at 33 (by decide +kernel)
theorem nX6_takeWord : Cond.initialized yX6_takeWord.cls ∈ lw_tbl := tb_at 56 (by decide +kernel)
theorem kX6_takeWord : (vwCl[6]?).map (fun q => q.1) = some yX6_takeWord.cls := rfl
theorem MX6_transform : gMth yX6_transform cX6_transform 7 (some .int) := ⟨tb_at 954 (by decide +kernel), by decide, by decide +kernel, by decide +kernel⟩
theorem hX6_transform : gNH yX6_transform 1 := ⟨by decide +kernel, by decide +kernel, by decide +kernel⟩
theorem iX6_transform : Cond.instanceMethod yX6_transform ∈ lw_tbl := tb_at 952 (by decide +kernel)
theorem sX6_transform : Cond.selects yX6_transform.cls yX6_transform yX6_transform ∈ lw_tbl := tb_at 953 (by decide +kernel)
theorem nX6_transform : Cond.initialized yX6_transform.cls ∈ lw_tbl := tb_at 56 (by decide +kernel)
theorem kX6_transform : (vwCl[6]?).map (fun q => q.1) = some yX6_transform.cls := rfl
theorem MX6_variableCount : gMth yX6_variableCount cX6_variableCount 2 (some .int) := ⟨tb_at 906 (by decide +kernel), by decide, by decide +kernel, by decide +kernel⟩
theorem hX6_variableCount : gNH yX6_variableCount 1 := ⟨by decide +kernel, by decide +kernel, by decide +kernel⟩
theorem iX6_variableCount : Cond.instanceMethod yX6_variableCount ∈ lw_tbl := tb_at 904 (by decide +kernel)
theorem sX6_variableCount : Cond.selects yX6_variableCount.cls yX6_variableCount yX6_variableCount ∈ lw_tbl := tb_at 905 (by decide +kernel)
theorem nX6_variableCount : Cond.initialized yX6_variableCount.cls ∈ lw_tbl := tb_at 56 (by decide +kernel)
theorem kX6_variableCount : (vwCl[6]?).map (fun q => q.1) = some yX6_variableCount.cls := rfl
theorem MX6_variables : gMth yX6_variables cX6_variables 2 (some .int) := ⟨tb_at 910 (by decide +kernel), by decide, by decide +kernel, by decide +kernel⟩
theorem hX6_variables : gNH yX6_variables 1 := ⟨by decide +kernel, by decide +kernel, by decide +kernel⟩
theorem iX6_variables : Cond.instanceMethod yX6_variables ∈ lw_tbl := tb_at 909 (by decide +kernel)
theorem sX6_variables : Cond.selects yX6_variables.cls yX6_variables yX6_variables ∈ lw_tbl := tb_at 29 (by decide +kernel)
theorem nX6_variables : Cond.initialized yX6_variables.cls ∈ lw_tbl := tb_at 56 (by decide +kernel)
theorem kX6_variables : (vwCl[6]?).map (fun q => q.1) = some yX6_variables.cls := rfl
theorem MX6_variablesIn : gMth yX6_variablesIn cX6_variablesIn 5 (some .int) := ⟨tb_at 913 (by decide +kernel), by decide, by decide +kernel, by decide +kernel⟩
theorem hX6_variablesIn : gNH yX6_variablesIn 3 := ⟨by decide +kernel, by decide +kernel, by decide +kernel⟩
theorem tX6_variablesIn : Cond.static yX6_variablesIn ∈ lw_tbl := tb_at 912 (by decide +kernel)
theorem nX6_variablesIn : Cond.initialized yX6_variablesIn.cls ∈ lw_tbl := tb_at 56 (by decide +kernel)
theorem kX6_variablesIn : (vwCl[6]?).map (fun q => q.1) = some yX6_variablesIn.cls := rfl
theorem mL_9 : gMI RL 9 yX5_init 0 := ⟨tb_at 65 (by decide +kernel), iX5_init, nX5_init, rfl, by decide +kernel, hX5_init⟩
theorem mX5_3 : Cond.methodLink RX5 3 objectInit ∈ lw_tbl := tb_at 68 (by decide +kernel)
theorem mX5_11 : gMI RX5 11 yX0_init 0 := ⟨tb_at 73 (by decide +kernel), iX0_init, nX0_init, rfl, by decide +kernel, hX0_init⟩
theorem mX0_3 : Cond.methodLink RX0 3 objectInit ∈ lw_tbl := tb_at 76 (by decide +kernel)
theorem mX0_23 : gMS RX0 23 yX0_makeRows 1 := ⟨tb_at 79 (by decide +kernel), tX0_makeRows, nX0_makeRows, hX0_makeRows⟩
theorem mX0_31 : gMI RX0 31 yX2_init 1 := ⟨tb_at 83 (by decide +kernel), iX2_init, nX2_init, rfl, by decide +kernel, hX2_init⟩
theorem mX2_3 : Cond.methodLink RX2 3 objectInit ∈ lw_tbl := tb_at 86 (by decide +kernel)
theorem mX2_15 : Cond.methodLink RX2 15 Lib.Math.max.name ∈ lw_tbl := tb_at 87 (by decide +kernel)
theorem mX0_27 : gMV RX0 27 yX0_begin 1 := ⟨tb_at 102 (by decide +kernel), iX0_begin, sX0_begin, nX0_begin, hX0_begin⟩
theorem mX0_37 : gMV RX0 37 yX2_fillWith 2 := ⟨tb_at 106 (by decide +kernel), iX2_fillWith, sX2_fillWith, nX2_fillWith, hX2_fillWith⟩
theorem mX2_39 : gMV RX2 39 yX2_clear 0 := ⟨tb_at 110 (by decide +kernel), iX2_clear, sX2_clear, nX2_clear, hX2_clear⟩
theorem mX2_33 : gMV RX2 33 yX2_add 1 := ⟨tb_at 114 (by decide +kernel), iX2_add, sX2_add, nX2_add, hX2_add⟩
theorem mX5_27 : gMI RX5 27 yX2_init 1 := ⟨tb_at 143 (by decide +kernel), iX2_init, nX2_init, rfl, by decide +kernel, hX2_init⟩
theorem mX5_42 : gMIN RX5 42 yX1_init 0 := ⟨by decide +kernel, iX1_init, nX1_init, rfl, by decide +kernel, hX1_init⟩
theorem mX1_3 : Cond.methodLink RX1 3 objectInit ∈ lw_tbl := tb_at 151 (by decide +kernel)
theorem mX5_49 : gMIN RX5 49 yX3_init 0 := ⟨by decide +kernel, iX3_init, nX3_init, rfl, by decide +kernel, hX3_init⟩
theorem mX3_3 : Cond.methodLink RX3 3 objectInit ∈ lw_tbl := tb_at 176 (by decide +kernel)
theorem mX3_11 : gMIN RX3 11 yX1_init 0 := ⟨by decide +kernel, iX1_init, nX1_init, rfl, by decide +kernel, hX1_init⟩
theorem mX3_20 : gMI RX3 20 yX2_init 1 := ⟨tb_at 180 (by decide +kernel), iX2_init, nX2_init, rfl, by decide +kernel, hX2_init⟩
theorem mX5_60 : gMIN RX5 60 yX4_init 0 := ⟨by decide +kernel, iX4_init, nX4_init, rfl, by decide +kernel, hX4_init⟩
theorem mX4_3 : Cond.methodLink RX4 3 objectInit ∈ lw_tbl := tb_at 202 (by decide +kernel)
theorem mX4_17 : gMI RX4 17 yX2_init 1 := ⟨tb_at 204 (by decide +kernel), iX2_init, nX2_init, rfl, by decide +kernel, hX2_init⟩
theorem mL_13 : gMV RL 13 yX5_reset 1 := ⟨tb_at 242 (by decide +kernel), iX5_reset, sX5_reset, nX5_reset, hX5_reset⟩
theorem mX5_65 : gMV RX5 65 yX0_begin 1 := ⟨tb_at 246 (by decide +kernel), iX0_begin, sX0_begin, nX0_begin, hX0_begin⟩
theorem mL_18 : gMV RL 18 yX5_letters 0 := ⟨tb_at 247 (by decide +kernel), iX5_letters, sX5_letters, nX5_letters, hX5_letters⟩
theorem mL_23 : gMV RL 23 yX5_append 2 := ⟨tb_at 251 (by decide +kernel), iX5_append, sX5_append, nX5_append, hX5_append⟩
theorem mX5_71 : gMV RX5 71 yX2_add 1 := ⟨tb_at 255 (by decide +kernel), iX2_add, sX2_add, nX2_add, hX2_add⟩
theorem mL_28 : gMV RL 28 yX5_clearInput 0 := ⟨tb_at 256 (by decide +kernel), iX5_clearInput, sX5_clearInput, nX5_clearInput, hX5_clearInput⟩
theorem mX5_75 : gMV RX5 75 yX2_clear 0 := ⟨tb_at 260 (by decide +kernel), iX2_clear, sX2_clear, nX2_clear, hX2_clear⟩
theorem mL_32 : gMV RL 32 yX5_setPattern 1 := ⟨tb_at 261 (by decide +kernel), iX5_setPattern, sX5_setPattern, nX5_setPattern, hX5_setPattern⟩
theorem mX5_108 : gMV RX5 108 yX5_takePattern 0 := ⟨tb_at 265 (by decide +kernel), iX5_takePattern, sX5_takePattern, nX5_takePattern, hX5_takePattern⟩
theorem mX5_78 : gMV RX5 78 yX5_readPattern 1 := ⟨tb_at 269 (by decide +kernel), iX5_readPattern, sX5_readPattern, nX5_readPattern, hX5_readPattern⟩
theorem mX5_82 : gMV RX5 82 yX5_readSymbols 1 := ⟨tb_at 273 (by decide +kernel), iX5_readSymbols, sX5_readSymbols, nX5_readSymbols, hX5_readSymbols⟩
theorem mX5_92 : gMV RX5 92 yX2_at 1 := ⟨tb_at 277 (by decide +kernel), iX2_at, sX2_at, nX2_at, hX2_at⟩
theorem mX5_96 : gMV RX5 96 yX5_codeOf 1 := ⟨tb_at 281 (by decide +kernel), iX5_codeOf, sX5_codeOf, nX5_codeOf, hX5_codeOf⟩
theorem mX5_89 : gMV RX5 89 yX2_makeCanonical 0 := ⟨tb_at 285 (by decide +kernel), iX2_makeCanonical, sX2_makeCanonical, nX2_makeCanonical, hX2_makeCanonical⟩
theorem mX2_29 : gMV RX2 29 yX2_at 1 := ⟨tb_at 289 (by decide +kernel), iX2_at, sX2_at, nX2_at, hX2_at⟩
theorem mX2_46 : gMV RX2 46 yX2_exchange 2 := ⟨tb_at 290 (by decide +kernel), iX2_exchange, sX2_exchange, nX2_exchange, hX2_exchange⟩
theorem mX2_42 : gMV RX2 42 yX2_put 2 := ⟨tb_at 294 (by decide +kernel), iX2_put, sX2_put, nX2_put, hX2_put⟩
theorem mX2_25 : gMV RX2 25 yX2_hasIndex 1 := ⟨tb_at 298 (by decide +kernel), iX2_hasIndex, sX2_hasIndex, nX2_hasIndex, hX2_hasIndex⟩
theorem mX5_112 : gMS RX5 112 yX5_isRegister 1 := ⟨tb_at 302 (by decide +kernel), tX5_isRegister, nX5_isRegister, hX5_isRegister⟩
theorem mX5_115 : gMV RX5 115 yX5_store 2 := ⟨tb_at 305 (by decide +kernel), iX5_store, sX5_store, nX5_store, hX5_store⟩
theorem mX5_143 : gMV RX5 143 yX2_setTo 1 := ⟨tb_at 309 (by decide +kernel), iX2_setTo, sX2_setTo, nX2_setTo, hX2_setTo⟩
theorem mX2_36 : Cond.methodLink RX2 36 Lib.Math.min.name ∈ lw_tbl := tb_at 313 (by decide +kernel)
theorem mL_36 : gMV RL 36 yX5_copy 2 := ⟨tb_at 316 (by decide +kernel), iX5_copy, sX5_copy, nX5_copy, hX5_copy⟩
theorem mL_40 : gMV RL 40 yX5_length 1 := ⟨tb_at 320 (by decide +kernel), iX5_length, sX5_length, nX5_length, hX5_length⟩
theorem mL_44 : gMV RL 44 yX5_symbol 2 := ⟨tb_at 324 (by decide +kernel), iX5_symbol, sX5_symbol, nX5_symbol, hX5_symbol⟩
theorem mL_48 : gMV RL 48 yX5_variableCount 1 := ⟨tb_at 328 (by decide +kernel), iX5_variableCount, sX5_variableCount, nX5_variableCount, hX5_variableCount⟩
theorem mX5_123 : gMV RX5 123 yX2_variablesIn 0 := ⟨tb_at 332 (by decide +kernel), iX2_variablesIn, sX2_variablesIn, nX2_variablesIn, hX2_variablesIn⟩
theorem mL_52 : gMV RL 52 yX5_occurrences 2 := ⟨tb_at 336 (by decide +kernel), iX5_occurrences, sX5_occurrences, nX5_occurrences, hX5_occurrences⟩
theorem mX5_126 : gMV RX5 126 yX5_hasVariable 2 := ⟨tb_at 340 (by decide +kernel), iX5_hasVariable, sX5_hasVariable, nX5_hasVariable, hX5_hasVariable⟩
theorem mX5_147 : gMS RX5 147 yX5_isVariable 1 := ⟨tb_at 344 (by decide +kernel), tX5_isVariable, nX5_isVariable, hX5_isVariable⟩
theorem mX5_130 : gMV RX5 130 yX2_countOf 1 := ⟨tb_at 347 (by decide +kernel), iX2_countOf, sX2_countOf, nX2_countOf, hX2_countOf⟩
theorem mL_56 : gMV RL 56 yX5_compareQuality 2 := ⟨tb_at 351 (by decide +kernel), iX5_compareQuality, sX5_compareQuality, nX5_compareQuality, hX5_compareQuality⟩
theorem mX5_133 : gMS RX5 133 yX5_advantage 2 := ⟨tb_at 355 (by decide +kernel), tX5_advantage, nX5_advantage, hX5_advantage⟩
theorem mX5_85 : gMV RX5 85 yX2_letterCount 0 := ⟨tb_at 358 (by decide +kernel), iX2_letterCount, sX2_letterCount, nX2_letterCount, hX2_letterCount⟩
theorem mX5_137 : gMS RX5 137 yJ6_compare_7cf53 2 := ⟨tb_at 362 (by decide +kernel), tJ6_compare_7cf53, nJ6_compare_7cf53, hJ6_compare_7cf53⟩
theorem mL_60 : gMV RL 60 yX5_replace 3 := ⟨tb_at 365 (by decide +kernel), iX5_replace, sX5_replace, nX5_replace, hX5_replace⟩
theorem mX5_150 : gMV RX5 150 yX5_putForVariable 3 := ⟨tb_at 369 (by decide +kernel), iX5_putForVariable, sX5_putForVariable, nX5_putForVariable, hX5_putForVariable⟩
theorem mX5_154 : gMV RX5 154 yX2_putForCodes 3 := ⟨tb_at 373 (by decide +kernel), iX2_putForCodes, sX2_putForCodes, nX2_putForCodes, hX2_putForCodes⟩
theorem mL_65 : gMV RL 65 yX5_merge 3 := ⟨tb_at 377 (by decide +kernel), iX5_merge, sX5_merge, nX5_merge, hX5_merge⟩
theorem mL_69 : gMV RL 69 yX5_split 2 := ⟨tb_at 381 (by decide +kernel), iX5_split, sX5_split, nX5_split, hX5_split⟩
theorem mL_73 : gMV RL 73 yX5_transform 1 := ⟨tb_at 385 (by decide +kernel), iX5_transform, sX5_transform, nX5_transform, hX5_transform⟩
theorem mX5_158 : gMV RX5 158 yX5_changeAsTold 1 := ⟨tb_at 389 (by decide +kernel), iX5_changeAsTold, sX5_changeAsTold, nX5_changeAsTold, hX5_changeAsTold⟩
theorem mX5_163 : gMV RX5 163 yX5_inputIs 1 := ⟨tb_at 394 (by decide +kernel), iX5_inputIs, sX5_inputIs, nX5_inputIs, hX5_inputIs⟩
theorem mX5_99 : gMV RX5 99 yJ0_length_8abf5 0 := ⟨tb_at 398 (by decide +kernel), iJ0_length_8abf5, sJ0_length_8abf5, nJ0_length_8abf5, hJ0_length_8abf5⟩
theorem mJ0_335 : gMV RJ0 335 yJ0_coder_7d493 0 := ⟨tb_at 402 (by decide +kernel), iJ0_coder_7d493, sJ0_coder_7d493, nJ0_coder_7d493, hJ0_coder_7d493⟩
theorem mX5_104 : gMV RX5 104 yJ0_charAt_5068e 1 := ⟨tb_at 408 (by decide +kernel), iJ0_charAt_5068e, sJ0_charAt_5068e, nJ0_charAt_5068e, hJ0_charAt_5068e⟩
theorem mJ0_492 : gMV RJ0 492 yJ0_isLatin1_aae02 0 := ⟨tb_at 412 (by decide +kernel), iJ0_isLatin1_aae02, sJ0_isLatin1_aae02, nJ0_isLatin1_aae02, hJ0_isLatin1_aae02⟩
theorem mJ0_495 : gMS RJ0 495 yJ1_charAt_3b067 2 := ⟨tb_at 416 (by decide +kernel), tJ1_charAt_3b067, nJ1_charAt_3b067, hJ1_charAt_3b067⟩
theorem mJ1_9 : gMS RJ1 9 yJ0_checkIndex_df160 2 := ⟨tb_at 419 (by decide +kernel), tJ0_checkIndex_df160, nJ0_checkIndex_df160, hJ0_checkIndex_df160⟩
theorem mJ0_1059 : gMS RJ0 1059 yJ3_checkIndex_8e157 3 := ⟨tb_at 424 (by decide +kernel), tJ3_checkIndex_8e157, nJ3_checkIndex_8e157, hJ3_checkIndex_8e157⟩
theorem mX5_167 : gMV RX5 167 yX2_turnAround 0 := ⟨tb_at 446 (by decide +kernel), iX2_turnAround, sX2_turnAround, nX2_turnAround, hX2_turnAround⟩
theorem mX5_172 : gMV RX5 172 yX5_swapLetters 1 := ⟨tb_at 451 (by decide +kernel), iX5_swapLetters, sX5_swapLetters, nX5_swapLetters, hX5_swapLetters⟩
theorem mX5_184 : gMV RX5 184 yX2_exchange 2 := ⟨tb_at 455 (by decide +kernel), iX2_exchange, sX2_exchange, nX2_exchange, hX2_exchange⟩
theorem mX5_177 : gMS RX5 177 yX5_dropLast 1 := ⟨tb_at 457 (by decide +kernel), tX5_dropLast, nX5_dropLast, hX5_dropLast⟩
theorem mX5_188 : gMV RX5 188 yX2_removeLast 0 := ⟨tb_at 460 (by decide +kernel), iX2_removeLast, sX2_removeLast, nX2_removeLast, hX2_removeLast⟩
theorem mL_77 : gMV RL 77 yX5_matches 2 := ⟨tb_at 467 (by decide +kernel), iX5_matches, sX5_matches, nX5_matches, hX5_matches⟩
theorem mX5_191 : gMV RX5 191 yX5_takeWord 0 := ⟨tb_at 471 (by decide +kernel), iX5_takeWord, sX5_takeWord, nX5_takeWord, hX5_takeWord⟩
theorem mX5_194 : gMS RX5 194 yX5_refusalOfMatching 3 := ⟨tb_at 475 (by decide +kernel), tX5_refusalOfMatching, nX5_refusalOfMatching, hX5_refusalOfMatching⟩
theorem mX5_218 : gMS RX5 218 yX5_isMode 1 := ⟨tb_at 478 (by decide +kernel), tX5_isMode, nX5_isMode, hX5_isMode⟩
theorem mX5_198 : gMV RX5 198 yX1_isMatch 3 := ⟨tb_at 481 (by decide +kernel), iX1_isMatch, sX1_isMatch, nX1_isMatch, hX1_isMatch⟩
theorem mX1_21 : gMV RX1 21 yX1_isMatchBefore 5 := ⟨tb_at 485 (by decide +kernel), iX1_isMatchBefore, sX1_isMatchBefore, nX1_isMatchBefore, hX1_isMatchBefore⟩
theorem mX1_31 : gMV RX1 31 yX1_prepare 2 := ⟨tb_at 489 (by decide +kernel), iX1_prepare, sX1_prepare, nX1_prepare, hX1_prepare⟩
theorem mX1_55 : gMV RX1 55 yX2_at 1 := ⟨tb_at 493 (by decide +kernel), iX2_at, sX2_at, nX2_at, hX2_at⟩
theorem mX1_52 : gMSN RX1 52 yX5_isVariable 1 := ⟨by decide +kernel, tX5_isVariable, nX5_isVariable, hX5_isVariable⟩
theorem mX1_68 : Cond.methodLink RX1 68 Lib.Math.max.name ∈ lw_tbl := tb_at 495 (by decide +kernel)
theorem mX1_38 : gMV RX1 38 yX1_canComeOut 1 := ⟨tb_at 496 (by decide +kernel), iX1_canComeOut, sX1_canComeOut, nX1_canComeOut, hX1_canComeOut⟩
theorem mX1_42 : gMV RX1 42 yX1_count 6 := ⟨tb_at 500 (by decide +kernel), iX1_count, sX1_count, nX1_count, hX1_count⟩
theorem mX1_74 : gMV RX1 74 yX1_countBindings 6 := ⟨tb_at 504 (by decide +kernel), iX1_countBindings, sX1_countBindings, nX1_countBindings, hX1_countBindings⟩
theorem mX1_77 : gMS RX1 77 yX1_isSame 4 := ⟨tb_at 508 (by decide +kernel), tX1_isSame, nX1_isSame, hX1_isSame⟩
theorem mL_81 : gMV RL 81 yX5_matchCount 2 := ⟨tb_at 511 (by decide +kernel), iX5_matchCount, sX5_matchCount, nX5_matchCount, hX5_matchCount⟩
theorem mX5_202 : gMV RX5 202 yX1_countAll 3 := ⟨tb_at 515 (by decide +kernel), iX1_countAll, sX1_countAll, nX1_countAll, hX1_countAll⟩
theorem qX1_48 : Cond.constant RX1 48 (2147483647) ∈ lw_tbl := tb_at 519 (by decide +kernel)
theorem mL_85 : gMV RL 85 yX5_match 2 := ⟨tb_at 520 (by decide +kernel), iX5_match, sX5_match, nX5_match, hX5_match⟩
theorem mX5_206 : Cond.methodLink RX5 206 Lib.Math.min.name ∈ lw_tbl := tb_at 524 (by decide +kernel)
theorem mX5_214 : gMV RX5 214 yX1_writeImage 3 := ⟨tb_at 525 (by decide +kernel), iX1_writeImage, sX1_writeImage, nX1_writeImage, hX1_writeImage⟩
theorem mX1_49 : gMV RX1 49 yX2_clear 0 := ⟨tb_at 529 (by decide +kernel), iX2_clear, sX2_clear, nX2_clear, hX2_clear⟩
theorem mX1_59 : gMV RX1 59 yX2_add 1 := ⟨tb_at 530 (by decide +kernel), iX2_add, sX2_add, nX2_add, hX2_add⟩
theorem mL_89 : gMV RL 89 yX5_setImage 1 := ⟨tb_at 531 (by decide +kernel), iX5_setImage, sX5_setImage, nX5_setImage, hX5_setImage⟩
theorem mL_93 : gMV RL 93 yX5_imageLetter 2 := ⟨tb_at 535 (by decide +kernel), iX5_imageLetter, sX5_imageLetter, nX5_imageLetter, hX5_imageLetter⟩
theorem mL_97 : gMV RL 97 yX5_addProduced 1 := ⟨tb_at 539 (by decide +kernel), iX5_addProduced, sX5_addProduced, nX5_addProduced, hX5_addProduced⟩
theorem mX5_221 : gMV RX5 221 yX5_produce 1 := ⟨tb_at 543 (by decide +kernel), iX5_produce, sX5_produce, nX5_produce, hX5_produce⟩
theorem mX5_227 : gMV RX5 227 yX2_addAll 1 := ⟨tb_at 547 (by decide +kernel), iX2_addAll, sX2_addAll, nX2_addAll, hX2_addAll⟩
theorem mX5_224 : gMV RX5 224 yX5_addToSample 0 := ⟨tb_at 551 (by decide +kernel), iX5_addToSample, sX5_addToSample, nX5_addToSample, hX5_addToSample⟩
theorem mL_101 : gMV RL 101 yX5_addWord 0 := ⟨tb_at 555 (by decide +kernel), iX5_addWord, sX5_addWord, nX5_addWord, hX5_addWord⟩
theorem mL_105 : gMV RL 105 yX5_removeWord 1 := ⟨tb_at 559 (by decide +kernel), iX5_removeWord, sX5_removeWord, nX5_removeWord, hX5_removeWord⟩
theorem mX5_236 : gMV RX5 236 yX5_isSampleIndex 1 := ⟨tb_at 563 (by decide +kernel), iX5_isSampleIndex, sX5_isSampleIndex, nX5_isSampleIndex, hX5_isSampleIndex⟩
theorem mL_109 : gMV RL 109 yX5_sampleSize 0 := ⟨tb_at 567 (by decide +kernel), iX5_sampleSize, sX5_sampleSize, nX5_sampleSize, hX5_sampleSize⟩
theorem mL_113 : gMV RL 113 yX5_sampleCode 1 := ⟨tb_at 571 (by decide +kernel), iX5_sampleCode, sX5_sampleCode, nX5_sampleCode, hX5_sampleCode⟩
theorem mX5_239 : gMV RX5 239 yX2_wordCode 0 := ⟨tb_at 575 (by decide +kernel), iX2_wordCode, sX2_wordCode, nX2_wordCode, hX2_wordCode⟩
theorem qX2_49 : Cond.constantLong RX2 49 (4) ∈ lw_tbl := tb_at 579 (by decide +kernel)
theorem qX5_243 : Cond.constantLong RX5 243 (-9223372036854775808) ∈ lw_tbl := tb_at 580 (by decide +kernel)
theorem mL_118 : gMV RL 118 yX5_firstMisfit 2 := ⟨tb_at 581 (by decide +kernel), iX5_firstMisfit, sX5_firstMisfit, nX5_firstMisfit, hX5_firstMisfit⟩
theorem mL_122 : gMV RL 122 yX5_isMoreGeneral 3 := ⟨tb_at 585 (by decide +kernel), iX5_isMoreGeneral, sX5_isMoreGeneral, nX5_isMoreGeneral, hX5_isMoreGeneral⟩
theorem mX5_245 : gMV RX5 245 yX5_isAsGeneral 3 := ⟨tb_at 589 (by decide +kernel), iX5_isAsGeneral, sX5_isAsGeneral, nX5_isAsGeneral, hX5_isAsGeneral⟩
theorem mL_126 : gMV RL 126 yX5_chainBreak 3 := ⟨tb_at 593 (by decide +kernel), iX5_chainBreak, sX5_chainBreak, nX5_chainBreak, hX5_chainBreak⟩
theorem mL_130 : gMV RL 130 yX5_findPattern 3 := ⟨tb_at 597 (by decide +kernel), iX5_findPattern, sX5_findPattern, nX5_findPattern, hX5_findPattern⟩
theorem mX5_249 : gMV RX5 249 yX3_findBest 3 := ⟨tb_at 601 (by decide +kernel), iX3_findBest, sX3_findBest, nX3_findBest, hX3_findBest⟩
theorem mX3_34 : gMV RX3 34 yX2_clear 0 := ⟨tb_at 605 (by decide +kernel), iX2_clear, sX2_clear, nX2_clear, hX2_clear⟩
theorem mX3_37 : Cond.methodLink RX3 37 Lib.Math.min.name ∈ lw_tbl := tb_at 606 (by decide +kernel)
theorem mX3_46 : gMV RX3 46 yX3_complete 4 := ⟨tb_at 607 (by decide +kernel), iX3_complete, sX3_complete, nX3_complete, hX3_complete⟩
theorem mX3_66 : gMV RX3 66 yX3_canBegin 3 := ⟨tb_at 611 (by decide +kernel), iX3_canBegin, sX3_canBegin, nX3_canBegin, hX3_canBegin⟩
theorem mX3_85 : gMV RX3 85 yX1_isMatchBefore 5 := ⟨tb_at 615 (by decide +kernel), iX1_isMatchBefore, sX1_isMatchBefore, nX1_isMatchBefore, hX1_isMatchBefore⟩
theorem mX3_72 : gMV RX3 72 yX2_add 1 := ⟨tb_at 616 (by decide +kernel), iX2_add, sX2_add, nX2_add, hX2_add⟩
theorem mX3_76 : gMV RX3 76 yX2_removeLast 0 := ⟨tb_at 617 (by decide +kernel), iX2_removeLast, sX2_removeLast, nX2_removeLast, hX2_removeLast⟩
theorem mX3_79 : gMV RX3 79 yX3_completeWithVariable 4 := ⟨tb_at 618 (by decide +kernel), iX3_completeWithVariable, sX3_completeWithVariable, nX3_completeWithVariable, hX3_completeWithVariable⟩
theorem mX3_82 : Cond.methodLink RX3 82 Lib.Math.max.name ∈ lw_tbl := tb_at 622 (by decide +kernel)
theorem mL_134 : gMV RL 134 yX5_findOneVariable 1 := ⟨tb_at 623 (by decide +kernel), iX5_findOneVariable, sX5_findOneVariable, nX5_findOneVariable, hX5_findOneVariable⟩
theorem mX5_256 : gMV RX5 256 yX3_findLongestOfX 1 := ⟨tb_at 627 (by decide +kernel), iX3_findLongestOfX, sX3_findLongestOfX, nX3_findLongestOfX, hX3_findLongestOfX⟩
theorem mX3_50 : gMS RX3 50 yX3_canStretch 3 := ⟨tb_at 631 (by decide +kernel), tX3_canStretch, nX3_canStretch, hX3_canStretch⟩
theorem mL_138 : gMV RL 138 yX5_countWords 3 := ⟨tb_at 634 (by decide +kernel), iX5_countWords, sX5_countWords, nX5_countWords, hX5_countWords⟩
theorem mX5_260 : gMV RX5 260 yX5_wordsOfLength 1 := ⟨tb_at 638 (by decide +kernel), iX5_wordsOfLength, sX5_wordsOfLength, nX5_wordsOfLength, hX5_wordsOfLength⟩
theorem mX5_263 : gMV RX5 263 yX2_fillWith 2 := ⟨tb_at 642 (by decide +kernel), iX2_fillWith, sX2_fillWith, nX2_fillWith, hX2_fillWith⟩
theorem mX5_266 : gMV RX5 266 yX2_advance 1 := ⟨tb_at 643 (by decide +kernel), iX2_advance, sX2_advance, nX2_advance, hX2_advance⟩
theorem mL_142 : gMV RL 142 yX5_difference 4 := ⟨tb_at 647 (by decide +kernel), iX5_difference, sX5_difference, nX5_difference, hX5_difference⟩
theorem mX5_269 : gMV RX5 269 yX5_findDifference 4 := ⟨tb_at 651 (by decide +kernel), iX5_findDifference, sX5_findDifference, nX5_findDifference, hX5_findDifference⟩
theorem mL_147 : gMV RL 147 yX5_allocate 3 := ⟨tb_at 655 (by decide +kernel), iX5_allocate, sX5_allocate, nX5_allocate, hX5_allocate⟩
theorem mX5_273 : gMS RX5 273 yX5_isSlot 1 := ⟨tb_at 659 (by decide +kernel), tX5_isSlot, nX5_isSlot, hX5_isSlot⟩
theorem mL_151 : gMV RL 151 yX5_release 1 := ⟨tb_at 662 (by decide +kernel), iX5_release, sX5_release, nX5_release, hX5_release⟩
theorem mL_157 : gMV RL 157 yX5_putElement 3 := ⟨tb_at 666 (by decide +kernel), iX5_putElement, sX5_putElement, nX5_putElement, hX5_putElement⟩
theorem mX5_282 : gMV RX5 282 yX2_hasIndex 1 := ⟨tb_at 670 (by decide +kernel), iX2_hasIndex, sX2_hasIndex, nX2_hasIndex, hX2_hasIndex⟩
theorem mX5_285 : gMS RX5 285 yX5_narrowed 2 := ⟨tb_at 671 (by decide +kernel), tX5_narrowed, nX5_narrowed, hX5_narrowed⟩
theorem mX5_289 : gMV RX5 289 yX2_put 2 := ⟨tb_at 674 (by decide +kernel), iX2_put, sX2_put, nX2_put, hX2_put⟩
theorem mL_162 : gMV RL 162 yX5_element 2 := ⟨tb_at 675 (by decide +kernel), iX5_element, sX5_element, nX5_element, hX5_element⟩
theorem mL_167 : gMV RL 167 yX5_copyElements 5 := ⟨tb_at 679 (by decide +kernel), iX5_copyElements, sX5_copyElements, nX5_copyElements, hX5_copyElements⟩
theorem mX5_292 : gMV RX5 292 yX2_hasRange 2 := ⟨tb_at 683 (by decide +kernel), iX2_hasRange, sX2_hasRange, nX2_hasRange, hX2_hasRange⟩
theorem mX5_299 : Cond.methodLink RX5 299 arraycopyName ∈ lw_tbl := tb_at 687 (by decide +kernel)
theorem mL_172 : gMV RL 172 yX5_loadPattern 2 := ⟨tb_at 690 (by decide +kernel), iX5_loadPattern, sX5_loadPattern, nX5_loadPattern, hX5_loadPattern⟩
theorem mL_176 : gMV RL 176 yX5_snapshot 0 := ⟨tb_at 694 (by decide +kernel), iX5_snapshot, sX5_snapshot, nX5_snapshot, hX5_snapshot⟩
theorem mX5_305 : gMV RX5 305 yX0_setTo 1 := ⟨tb_at 698 (by decide +kernel), iX0_setTo, sX0_setTo, nX0_setTo, hX0_setTo⟩
theorem mX0_44 : gMS RX0 44 yX0_copyRows 2 := ⟨tb_at 702 (by decide +kernel), tX0_copyRows, nX0_copyRows, hX0_copyRows⟩
theorem mX0_48 : gMV RX0 48 yX2_setTo 1 := ⟨tb_at 705 (by decide +kernel), iX2_setTo, sX2_setTo, nX2_setTo, hX2_setTo⟩
theorem mL_180 : gMV RL 180 yX5_restore 0 := ⟨tb_at 706 (by decide +kernel), iX5_restore, sX5_restore, nX5_restore, hX5_restore⟩
theorem mL_12 : gMI RL 12 yX6_init 0 := ⟨tb_at 712 (by decide +kernel), iX6_init, nX6_init, rfl, by decide +kernel, hX6_init⟩
theorem mX6_3 : Cond.methodLink RX6 3 objectInit ∈ lw_tbl := tb_at 715 (by decide +kernel)
theorem mX6_95 : gMV RX6 95 yX6_clear 0 := ⟨tb_at 716 (by decide +kernel), iX6_clear, sX6_clear, nX6_clear, hX6_clear⟩
theorem mL_17 : gMV RL 17 yX6_reset 1 := ⟨tb_at 848 (by decide +kernel), iX6_reset, sX6_reset, nX6_reset, hX6_reset⟩
theorem mX6_101 : gMS RX6 101 yX6_in 3 := ⟨tb_at 852 (by decide +kernel), tX6_in, nX6_in, hX6_in⟩
theorem mL_22 : gMV RL 22 yX6_letters 0 := ⟨tb_at 855 (by decide +kernel), iX6_letters, sX6_letters, nX6_letters, hX6_letters⟩
theorem mL_27 : gMV RL 27 yX6_append 2 := ⟨tb_at 859 (by decide +kernel), iX6_append, sX6_append, nX6_append, hX6_append⟩
theorem mL_31 : gMV RL 31 yX6_clearInput 0 := ⟨tb_at 863 (by decide +kernel), iX6_clearInput, sX6_clearInput, nX6_clearInput, hX6_clearInput⟩
theorem mL_35 : gMV RL 35 yX6_setPattern 1 := ⟨tb_at 867 (by decide +kernel), iX6_setPattern, sX6_setPattern, nX6_setPattern, hX6_setPattern⟩
theorem mX6_135 : gMV RX6 135 yX6_takeInput 1 := ⟨tb_at 871 (by decide +kernel), iX6_takeInput, sX6_takeInput, nX6_takeInput, hX6_takeInput⟩
theorem mX6_108 : gMV RX6 108 yX6_codeOf 1 := ⟨tb_at 875 (by decide +kernel), iX6_codeOf, sX6_codeOf, nX6_codeOf, hX6_codeOf⟩
theorem mX6_139 : gMS RX6 139 yX6_isRegister 1 := ⟨tb_at 879 (by decide +kernel), tX6_isRegister, nX6_isRegister, hX6_isRegister⟩
theorem mX6_143 : gMV RX6 143 yX6_store 1 := ⟨tb_at 882 (by decide +kernel), iX6_store, sX6_store, nX6_store, hX6_store⟩
theorem mX6_125 : Cond.methodLink RX6 125 arraycopyName ∈ lw_tbl := tb_at 886 (by decide +kernel)
theorem mX6_131 : gMV RX6 131 yX6_normalize 1 := ⟨tb_at 887 (by decide +kernel), iX6_normalize, sX6_normalize, nX6_normalize, hX6_normalize⟩
theorem mL_39 : gMV RL 39 yX6_copy 2 := ⟨tb_at 891 (by decide +kernel), iX6_copy, sX6_copy, nX6_copy, hX6_copy⟩
theorem mL_43 : gMV RL 43 yX6_length 1 := ⟨tb_at 895 (by decide +kernel), iX6_length, sX6_length, nX6_length, hX6_length⟩
theorem mL_47 : gMV RL 47 yX6_symbol 2 := ⟨tb_at 899 (by decide +kernel), iX6_symbol, sX6_symbol, nX6_symbol, hX6_symbol⟩
theorem mL_51 : gMV RL 51 yX6_variableCount 1 := ⟨tb_at 903 (by decide +kernel), iX6_variableCount, sX6_variableCount, nX6_variableCount, hX6_variableCount⟩
theorem mX6_154 : gMV RX6 154 yX6_variables 1 := ⟨tb_at 907 (by decide +kernel), iX6_variables, sX6_variables, nX6_variables, hX6_variables⟩
theorem mX6_150 : gMS RX6 150 yX6_variablesIn 3 := ⟨tb_at 911 (by decide +kernel), tX6_variablesIn, nX6_variablesIn, hX6_variablesIn⟩
theorem mX6_146 : gMS RX6 146 yX6_countOf 4 := ⟨tb_at 914 (by decide +kernel), tX6_countOf, nX6_countOf, hX6_countOf⟩
theorem mL_55 : gMV RL 55 yX6_occurrences 2 := ⟨tb_at 917 (by decide +kernel), iX6_occurrences, sX6_occurrences, nX6_occurrences, hX6_occurrences⟩
theorem mX6_157 : gMV RX6 157 yX6_occurs 2 := ⟨tb_at 921 (by decide +kernel), iX6_occurs, sX6_occurs, nX6_occurs, hX6_occurs⟩
theorem mL_59 : gMV RL 59 yX6_compareQuality 2 := ⟨tb_at 925 (by decide +kernel), iX6_compareQuality, sX6_compareQuality, nX6_compareQuality, hX6_compareQuality⟩
theorem mX6_163 : gMS RX6 163 yX6_better 5 := ⟨tb_at 929 (by decide +kernel), tX6_better, nX6_better, hX6_better⟩
theorem mX6_160 : gMS RX6 160 yX6_lettersIn 3 := ⟨tb_at 932 (by decide +kernel), tX6_lettersIn, nX6_lettersIn, hX6_lettersIn⟩
theorem mL_64 : gMV RL 64 yX6_replace 3 := ⟨tb_at 935 (by decide +kernel), iX6_replace, sX6_replace, nX6_replace, hX6_replace⟩
theorem mX6_167 : gMV RX6 167 yX6_exchange 3 := ⟨tb_at 939 (by decide +kernel), iX6_exchange, sX6_exchange, nX6_exchange, hX6_exchange⟩
theorem mL_68 : gMV RL 68 yX6_merge 3 := ⟨tb_at 943 (by decide +kernel), iX6_merge, sX6_merge, nX6_merge, hX6_merge⟩
theorem mL_72 : gMV RL 72 yX6_split 2 := ⟨tb_at 947 (by decide +kernel), iX6_split, sX6_split, nX6_split, hX6_split⟩
theorem mL_76 : gMV RL 76 yX6_transform 1 := ⟨tb_at 951 (by decide +kernel), iX6_transform, sX6_transform, nX6_transform, hX6_transform⟩
theorem mX6_173 : gMV RX6 173 yX6_inputIs 1 := ⟨tb_at 956 (by decide +kernel), iX6_inputIs, sX6_inputIs, nX6_inputIs, hX6_inputIs⟩
theorem mX6_115 : gMV RX6 115 yJ0_length_8abf5 0 := ⟨tb_at 960 (by decide +kernel), iJ0_length_8abf5, sJ0_length_8abf5, nJ0_length_8abf5, hJ0_length_8abf5⟩
theorem mX6_121 : gMV RX6 121 yJ0_charAt_5068e 1 := ⟨tb_at 961 (by decide +kernel), iJ0_charAt_5068e, sJ0_charAt_5068e, nJ0_charAt_5068e, hJ0_charAt_5068e⟩
theorem mL_80 : gMV RL 80 yX6_matches 2 := ⟨tb_at 966 (by decide +kernel), iX6_matches, sX6_matches, nX6_matches, hX6_matches⟩
theorem mX6_224 : gMV RX6 224 yX6_takeWord 2 := ⟨tb_at 970 (by decide +kernel), iX6_takeWord, sX6_takeWord, nX6_takeWord, hX6_takeWord⟩
theorem mX6_221 : gMS RX6 221 yX6_isMode 1 := ⟨tb_at 974 (by decide +kernel), tX6_isMode, nX6_isMode, hX6_isMode⟩
theorem mX6_227 : gMV RX6 227 yX6_matchesOf 3 := ⟨tb_at 977 (by decide +kernel), iX6_matchesOf, sX6_matchesOf, nX6_matchesOf, hX6_matchesOf⟩
theorem mX6_217 : gMV RX6 217 yX6_match 8 := ⟨tb_at 981 (by decide +kernel), iX6_match, sX6_match, nX6_match, hX6_match⟩
theorem mX6_209 : gMV RX6 209 yX6_choose 2 := ⟨tb_at 985 (by decide +kernel), iX6_choose, sX6_choose, nX6_choose, hX6_choose⟩
theorem mX6_213 : gMV RX6 213 yX6_produces 0 := ⟨tb_at 989 (by decide +kernel), iX6_produces, sX6_produces, nX6_produces, hX6_produces⟩
theorem mL_84 : gMV RL 84 yX6_matchCount 2 := ⟨tb_at 993 (by decide +kernel), iX6_matchCount, sX6_matchCount, nX6_matchCount, hX6_matchCount⟩
theorem qX6_232 : Cond.constant RX6 232 (2147483647) ∈ lw_tbl := tb_at 997 (by decide +kernel)
theorem mL_88 : gMV RL 88 yX6_match_ 2 := ⟨tb_at 998 (by decide +kernel), iX6_match_, sX6_match_, nX6_match_, hX6_match_⟩
theorem mL_92 : gMV RL 92 yX6_setImage 1 := ⟨tb_at 1002 (by decide +kernel), iX6_setImage, sX6_setImage, nX6_setImage, hX6_setImage⟩
theorem mL_96 : gMV RL 96 yX6_imageLetter 2 := ⟨tb_at 1006 (by decide +kernel), iX6_imageLetter, sX6_imageLetter, nX6_imageLetter, hX6_imageLetter⟩
theorem mL_100 : gMV RL 100 yX6_addProduced 1 := ⟨tb_at 1010 (by decide +kernel), iX6_addProduced, sX6_addProduced, nX6_addProduced, hX6_addProduced⟩
theorem mX6_233 : gMV RX6 233 yX6_addToSample 0 := ⟨tb_at 1014 (by decide +kernel), iX6_addToSample, sX6_addToSample, nX6_addToSample, hX6_addToSample⟩
theorem mL_104 : gMV RL 104 yX6_addWord 0 := ⟨tb_at 1018 (by decide +kernel), iX6_addWord, sX6_addWord, nX6_addWord, hX6_addWord⟩
theorem mL_108 : gMV RL 108 yX6_removeWord 1 := ⟨tb_at 1022 (by decide +kernel), iX6_removeWord, sX6_removeWord, nX6_removeWord, hX6_removeWord⟩
theorem mX6_236 : gMV RX6 236 yX6_isInSample 1 := ⟨tb_at 1026 (by decide +kernel), iX6_isInSample, sX6_isInSample, nX6_isInSample, hX6_isInSample⟩
theorem mL_112 : gMV RL 112 yX6_sampleSize 0 := ⟨tb_at 1030 (by decide +kernel), iX6_sampleSize, sX6_sampleSize, nX6_sampleSize, hX6_sampleSize⟩
theorem mL_117 : gMV RL 117 yX6_sampleCode 1 := ⟨tb_at 1034 (by decide +kernel), iX6_sampleCode, sX6_sampleCode, nX6_sampleCode, hX6_sampleCode⟩
theorem mX6_241 : gMS RX6 241 yX6_codeOf_ 3 := ⟨tb_at 1038 (by decide +kernel), tX6_codeOf_, nX6_codeOf_, hX6_codeOf_⟩
theorem qX6_239 : Cond.constantLong RX6 239 (4) ∈ lw_tbl := tb_at 1041 (by decide +kernel)
theorem qX6_244 : Cond.constantLong RX6 244 (-9223372036854775808) ∈ lw_tbl := tb_at 1042 (by decide +kernel)
theorem mL_121 : gMV RL 121 yX6_firstMisfit 2 := ⟨tb_at 1043 (by decide +kernel), iX6_firstMisfit, sX6_firstMisfit, nX6_firstMisfit, hX6_firstMisfit⟩
theorem mX6_246 : gMV RX6 246 yX6_misfit 4 := ⟨tb_at 1047 (by decide +kernel), iX6_misfit, sX6_misfit, nX6_misfit, hX6_misfit⟩
theorem mL_125 : gMV RL 125 yX6_isMoreGeneral 3 := ⟨tb_at 1051 (by decide +kernel), iX6_isMoreGeneral, sX6_isMoreGeneral, nX6_isMoreGeneral, hX6_isMoreGeneral⟩
theorem mX6_250 : gMV RX6 250 yX6_covers 3 := ⟨tb_at 1055 (by decide +kernel), iX6_covers, sX6_covers, nX6_covers, hX6_covers⟩
theorem mL_129 : gMV RL 129 yX6_chainBreak 3 := ⟨tb_at 1059 (by decide +kernel), iX6_chainBreak, sX6_chainBreak, nX6_chainBreak, hX6_chainBreak⟩
theorem mL_133 : gMV RL 133 yX6_findPattern 3 := ⟨tb_at 1063 (by decide +kernel), iX6_findPattern, sX6_findPattern, nX6_findPattern, hX6_findPattern⟩
theorem mX6_257 : gMV RX6 257 yX6_search 5 := ⟨tb_at 1067 (by decide +kernel), iX6_search, sX6_search, nX6_search, hX6_search⟩
theorem mX6_261 : gMV RX6 261 yX6_storeBest 2 := ⟨tb_at 1071 (by decide +kernel), iX6_storeBest, sX6_storeBest, nX6_storeBest, hX6_storeBest⟩
theorem mL_137 : gMV RL 137 yX6_findOneVariable 1 := ⟨tb_at 1075 (by decide +kernel), iX6_findOneVariable, sX6_findOneVariable, nX6_findOneVariable, hX6_findOneVariable⟩
theorem mL_141 : gMV RL 141 yX6_countWords 3 := ⟨tb_at 1079 (by decide +kernel), iX6_countWords, sX6_countWords, nX6_countWords, hX6_countWords⟩
theorem mX6_264 : gMV RX6 264 yX6_firstWord 0 := ⟨tb_at 1083 (by decide +kernel), iX6_firstWord, sX6_firstWord, nX6_firstWord, hX6_firstWord⟩
theorem mX6_267 : gMV RX6 267 yX6_generates 3 := ⟨tb_at 1087 (by decide +kernel), iX6_generates, sX6_generates, nX6_generates, hX6_generates⟩
theorem mX6_270 : gMV RX6 270 yX6_nextWord 1 := ⟨tb_at 1091 (by decide +kernel), iX6_nextWord, sX6_nextWord, nX6_nextWord, hX6_nextWord⟩
theorem mL_146 : gMV RL 146 yX6_difference 4 := ⟨tb_at 1095 (by decide +kernel), iX6_difference, sX6_difference, nX6_difference, hX6_difference⟩
theorem mL_150 : gMV RL 150 yX6_allocate 3 := ⟨tb_at 1099 (by decide +kernel), iX6_allocate, sX6_allocate, nX6_allocate, hX6_allocate⟩
theorem mX6_273 : gMS RX6 273 yX6_isSlot 1 := ⟨tb_at 1103 (by decide +kernel), tX6_isSlot, nX6_isSlot, hX6_isSlot⟩
theorem mL_154 : gMV RL 154 yX6_release 1 := ⟨tb_at 1106 (by decide +kernel), iX6_release, sX6_release, nX6_release, hX6_release⟩
theorem mL_161 : gMV RL 161 yX6_putElement 3 := ⟨tb_at 1110 (by decide +kernel), iX6_putElement, sX6_putElement, nX6_putElement, hX6_putElement⟩
theorem mX6_276 : gMS RX6 276 yX6_narrowed 2 := ⟨tb_at 1114 (by decide +kernel), tX6_narrowed, nX6_narrowed, hX6_narrowed⟩
theorem mL_166 : gMV RL 166 yX6_element 2 := ⟨tb_at 1117 (by decide +kernel), iX6_element, sX6_element, nX6_element, hX6_element⟩
theorem mL_171 : gMV RL 171 yX6_copyElements 5 := ⟨tb_at 1121 (by decide +kernel), iX6_copyElements, sX6_copyElements, nX6_copyElements, hX6_copyElements⟩
theorem mL_175 : gMV RL 175 yX6_loadPattern 2 := ⟨tb_at 1125 (by decide +kernel), iX6_loadPattern, sX6_loadPattern, nX6_loadPattern, hX6_loadPattern⟩
theorem mL_179 : gMV RL 179 yX6_snapshot 0 := ⟨tb_at 1129 (by decide +kernel), iX6_snapshot, sX6_snapshot, nX6_snapshot, hX6_snapshot⟩
theorem mX6_284 : gMV RX6 284 yX6_carryAll 1 := ⟨tb_at 1133 (by decide +kernel), iX6_carryAll, sX6_carryAll, nX6_carryAll, hX6_carryAll⟩
theorem mX6_280 : gMS RX6 280 yX6_carry 3 := ⟨tb_at 1137 (by decide +kernel), tX6_carry, nX6_carry, hX6_carry⟩
theorem mL_183 : gMV RL 183 yX6_restore 0 := ⟨tb_at 1140 (by decide +kernel), iX6_restore, sX6_restore, nX6_restore, hX6_restore⟩
theorem qL_155 : Cond.constantLong RL 155 (4294967295) ∈ lw_tbl := tb_at 1144 (by decide +kernel)
theorem gk_bipush_m14 : gics (.bipush (-14)) = some (-14) := by decide +kernel
theorem gk_bipush_m13 : gics (.bipush (-13)) = some (-13) := by decide +kernel
theorem gk_bipush_m12 : gics (.bipush (-12)) = some (-12) := by decide +kernel
theorem gk_bipush_m11 : gics (.bipush (-11)) = some (-11) := by decide +kernel
theorem gk_bipush_m6 : gics (.bipush (-6)) = some (-6) := by decide +kernel
theorem gk_bipush_m5 : gics (.bipush (-5)) = some (-5) := by decide +kernel
theorem gk_bipush_m4 : gics (.bipush (-4)) = some (-4) := by decide +kernel
theorem gk_bipush_m3 : gics (.bipush (-3)) = some (-3) := by decide +kernel
theorem gk_bipush_m2 : gics (.bipush (-2)) = some (-2) := by decide +kernel
theorem gk_bipush_6 : gics (.bipush (6)) = some (6) := by decide +kernel
theorem gk_bipush_7 : gics (.bipush (7)) = some (7) := by decide +kernel
theorem gk_bipush_8 : gics (.bipush (8)) = some (8) := by decide +kernel
theorem gk_bipush_9 : gics (.bipush (9)) = some (9) := by decide +kernel
theorem gk_bipush_10 : gics (.bipush (10)) = some (10) := by decide +kernel
theorem gk_bipush_11 : gics (.bipush (11)) = some (11) := by decide +kernel
theorem gk_bipush_12 : gics (.bipush (12)) = some (12) := by decide +kernel
theorem gk_bipush_13 : gics (.bipush (13)) = some (13) := by decide +kernel
theorem gk_bipush_14 : gics (.bipush (14)) = some (14) := by decide +kernel
theorem gk_bipush_20 : gics (.bipush (20)) = some (20) := by decide +kernel
theorem gk_bipush_32 : gics (.bipush (32)) = some (32) := by decide +kernel
theorem gk_bipush_40 : gics (.bipush (40)) = some (40) := by decide +kernel
theorem gk_bipush_48 : gics (.bipush (48)) = some (48) := by decide +kernel
theorem gk_bipush_63 : gics (.bipush (63)) = some (63) := by decide +kernel
theorem gk_bipush_87 : gics (.bipush (87)) = some (87) := by decide +kernel
theorem gk_bipush_88 : gics (.bipush (88)) = some (88) := by decide +kernel
theorem gk_bipush_89 : gics (.bipush (89)) = some (89) := by decide +kernel
theorem gk_bipush_90 : gics (.bipush (90)) = some (90) := by decide +kernel
theorem gk_bipush_97 : gics (.bipush (97)) = some (97) := by decide +kernel
theorem gk_bipush_127 : gics (.bipush (127)) = some (127) := by decide +kernel
theorem gk_iconst_m1 : gics (.iconst (-1)) = some (-1) := by decide +kernel
theorem gk_iconst_0 : gics (.iconst (0)) = some (0) := by decide +kernel
theorem gk_iconst_1 : gics (.iconst (1)) = some (1) := by decide +kernel
theorem gk_iconst_2 : gics (.iconst (2)) = some (2) := by decide +kernel
theorem gk_iconst_3 : gics (.iconst (3)) = some (3) := by decide +kernel
theorem gk_iconst_4 : gics (.iconst (4)) = some (4) := by decide +kernel
theorem gk_iconst_5 : gics (.iconst (5)) = some (5) := by decide +kernel
theorem gk_sipush_160 : gics (.sipush (160)) = some (160) := by decide +kernel
theorem gk_sipush_255 : gics (.sipush (255)) = some (255) := by decide +kernel
