/-! ===== constructors: rows ===== -/
/-- method y, called with vs in the heap h where n is the next address, makes mc cells with ms slots and leaves P -/
def gMk (fl : Bool) (d : Nat) (y : MethodName) (vs : List Value) (h : GH) (n mc ms : Nat) (P : GH → Prop) : Prop := gRuns d y vs h (n, mc, ms, true) (fun r h' e' => r = none ∧ e' = (n + mc, 0, 0, fl) ∧ P h')
theorem gMk.of {fl : Bool} {d : Nat} {y : MethodName} {vs : List Value} {h : GH} {n mc ms : Nat} {P : GH → Prop} {cc : ByteArray} {maxL : Nat} (hM : gMth y cc maxL none) (hf : (lg_sl vs).length ≤ maxL) (body : ∀ J : JT, gCl y.cls cc none (y.name == "<init>") (gRuns d) J (fun r h' e' => r = none ∧ e' = (n + mc, 0, 0, fl) ∧ P h') → J 0 (gent vs maxL) [] h (n, mc, ms, true)) : gMk fl (d + 1) y vs h n mc ms P := ⟨cc, maxL, none, hM, hf, body⟩
/-- what new of an entry makes: class t, its fields' first values -/
def gNew (own : String) (idx t N : Nat) (fs : List Value) : Prop := ∃ (C : String) (T : u_T) (ty : Nat → FieldType), Cond.classLink own idx C ∈ lw_tbl ∧ Cond.instantiable C N ∈ lw_tbl ∧ Cond.initialized C ∈ lw_tbl ∧ vwCl[t]? = some (C, T, N) ∧ (∀ j, j < N → parseFieldDescriptor (T j).2.2.1 = some (ty j)) ∧ (∀ j, j < N → defaultValue (ty j) = vp_V fs j) ∧ ∀ v ∈ fs, ∀ a, v ≠ .ref a
theorem gphi_lo {a : Nat} (h : a < 81) : gphi a = a := by unfold gphi; rw [if_pos h]
theorem gphi_mid {a : Nat} (h : 81 ≤ a) (h2 : a < 126) : gphi a = a + 4 := by unfold gphi; rw [if_neg (by omega), if_pos h2]
theorem gphi_hi {a : Nat} (h : 126 ≤ a) (h2 : a < 130) : gphi a = a - 45 := by unfold gphi; rw [if_neg (by omega), if_neg (by omega), if_pos h2]
section GMK
variable {own : String} {cc : ByteArray} {ret : Option FieldType} {ini : Bool} {call : CT} {d : Nat} {J : JT} {P : RT} {Pc : GH → Prop}
theorem j_mret {n9 : Nat} {fl : Bool} (hJ : gCl own cc none ini call J (fun r h' e' => r = none ∧ e' = (n9, 0, 0, fl) ∧ Pc h')) {pc n : Nat} {ls : GL} {h : GH} (hd : decode cc pc = .ok (.return_, 1)) (hn : n = n9) (hP : Pc h) : J pc ls [] h (n, 0, 0, fl) := hJ 38 _ _ _ _ hd rfl ⟨rfl, by rw [hn], hP⟩
theorem j_newG (hJ : gCl own cc ret ini call J P) {pc idx nx t N n c0 s0 : Nat} (a bc bs : Nat) {fs : List Value} {ls : GL} {st : List Value} {h : GH} (hd : decode cc pc = .ok (.new idx, 3)) (hn : pc + 3 = nx) (hw : gNew own idx t N fs) (hc : c0 = bc + 1) (hs : s0 = bs + N) (ha : gphi a = n) (hl : n + 1 ≤ 1000000) (k : J nx ls (.ref a :: st) (gup h a (gob t fs)) (n + 1, bc, bs, true)) : J pc ls st h (n, c0, s0, true) := by
  obtain ⟨C, T, ty, w1, w2, w3, w4, w5, w6, w7⟩ := hw
  subst hc
  subst hs
  exact hJ 24 pc idx nx t n bc bs a C T N ty fs ls st h hd hn w1 w2 w3 w4 w5 w6 w7 ha hl k
theorem j_new (hJ : gCl own cc ret ini call J P) {pc idx nx t N n c0 s0 : Nat} (bc bs : Nat) {fs : List Value} {ls : GL} {st : List Value} {h : GH} (hd : decode cc pc = .ok (.new idx, 3)) (hn : pc + 3 = nx) (hw : gNew own idx t N fs) (hc : c0 = bc + 1) (hs : s0 = bs + N) (hl : n < 81) (k : J nx ls (.ref n :: st) (gup h n (gob t fs)) (n + 1, bc, bs, true)) : J pc ls st h (n, c0, s0, true) := j_newG hJ n bc bs hd hn hw hc hs (gphi_lo hl) (by omega) k
theorem gnc {m : Nat} (h : m < 2 ^ 31) : ¬ nI m < 0 ∧ (nI m).toNatClampNeg = m := by
  refine ⟨by rw [Int32.lt_iff_toInt_lt, nI_toInt h, Int32.toInt_zero]; omega, ?_⟩
  show (nI m).toInt.toNat = m
  rw [nI_toInt h]; rfl
theorem j_nwi (hJ : gCl own cc ret ini call J P) {pc nx n c0 s0 : Nat} (a m bc bs : Nat) {i : Int32} {ls : GL} {st : List Value} {h : GH} (hd : decode cc pc = .ok (.newarray .int, 2)) (hn : pc + 2 = nx) (hi : i = nI m) (hm : m ≤ 1000) (hc : c0 = bc + 1) (hs : s0 = bs + m) (ha : gphi a = n) (hl : n + 1 ≤ 1000000) (k : J nx ls (.ref a :: st) (gup h a (gia m (fun _ => 0))) (n + 1, bc, bs, true)) : J pc ls (.int i :: st) h (n, c0, s0, true) := by
  subst hc
  subst hs
  subst hi
  exact hJ 25 pc nx n m bc bs a _ ls st h hd hn (gnc (by omega)).1 (gnc (by omega)).2 hm ha hl k
theorem j_nwl (hJ : gCl own cc ret ini call J P) {pc nx n c0 s0 : Nat} (a m bc bs : Nat) {i : Int32} {ls : GL} {st : List Value} {h : GH} (hd : decode cc pc = .ok (.newarray .long, 2)) (hn : pc + 2 = nx) (hi : i = nI m) (hm : m ≤ 1000) (hc : c0 = bc + 1) (hs : s0 = bs + m) (ha : gphi a = n) (hl : n + 1 ≤ 1000000) (k : J nx ls (.ref a :: st) (gup h a (gla m (fun _ => 0))) (n + 1, bc, bs, true)) : J pc ls (.int i :: st) h (n, c0, s0, true) := by
  subst hc
  subst hs
  subst hi
  exact hJ 26 pc nx n m bc bs a _ ls st h hd hn (gnc (by omega)).1 (gnc (by omega)).2 hm ha hl k
theorem j_anw (hJ : gCl own cc ret ini call J P) {pc idx nx t n c0 s0 : Nat} (m bc bs : Nat) {C : String} {T : u_T} {N : Nat} {i : Int32} {ls : GL} {st : List Value} {h : GH} (hd : decode cc pc = .ok (.anewarray idx, 3)) (hn : pc + 3 = nx) (hw : Cond.classLink own idx C ∈ lw_tbl) (hv : vwCl[t]? = some (C, T, N)) (ht : t = 2 ∨ t = 4) (hi : i = nI m) (hm : m ≤ 1000) (hc : c0 = bc + 1) (hs : s0 = bs + m) (hl : n < 81) (k : J nx ls (.ref n :: st) (gup h n (gra t m (fun _ => none))) (n + 1, bc, bs, true)) : J pc ls (.int i :: st) h (n, c0, s0, true) := by
  subst hc
  subst hs
  subst hi
  exact hJ 27 pc idx nx t n m bc bs n C T N _ ls st h hd hn hw hv ht (gnc (by omega)).1 (gnc (by omega)).2 hm (gphi_lo hl) (by omega) k
theorem j_obj (hJ : gCl own cc ret ini call J P) {pc idx nx a : Nat} {ls : GL} {st : List Value} {h : GH} {e : GE} (hd : decode cc pc = .ok (.invokespecial idx, 3)) (hn : pc + 3 = nx) (hw : Cond.methodLink own idx objectInit ∈ lw_tbl) (hcat : gcat st ≤ 8) (k : J nx ls st h e) : J pc ls (.ref a :: st) h e := hJ 34 _ _ _ _ _ _ _ _ hd hn hw hcat k
theorem j_alt (hJ : gCl own cc ret ini call J P) {pc a t n : Nat} {f : Nat → Option Nat} (g : Nat → Option Nat) {ls : GL} {st : List Value} {h : GH} {e : GE} (ha : h a = some (gra t n f)) (hf : ∀ i, i < n → f i = g i) (k : J pc ls st (gup h a (gra t n g)) e) : J pc ls st h e := hJ 47 _ _ _ _ _ _ _ _ _ _ ha hf k
theorem j_wk (hJ : gCl own cc ret ini call J P) {pc n bc bs : Nat} {fl : Bool} {ls : GL} {st : List Value} {h : GH} (k : J pc ls st h (n, 0, 0, false)) : J pc ls st h (n, bc, bs, fl) := hJ 48 _ _ _ _ _ _ _ _ k
theorem j_mk (hJ : gCl own cc ret ini (gRuns d) J P) {pc idx nx a n mc ms c0 s0 : Nat} (bc bs : Nat) {fl : Bool} {y : MethodName} {As : List Value} {ls : GL} {st st0 : List Value} {h : GH} (hd : decode cc pc = .ok (.invokespecial idx, 3)) (hn : pc + 3 = nx) (hc : gMk fl d y (.ref a :: As) h n mc ms Pc) (hM : gMI own idx y As.length) (hst : st0 = As.reverse ++ .ref a :: st) (hcat : gcat st ≤ 8) (h1 : c0 = bc + mc) (h2 : s0 = bs + ms) (kk : ∀ h', Pc h' → J nx ls st h' (n + mc, bc, bs, fl)) : J pc ls st0 h (n, c0, s0, true) := by
  refine hJ 32 _ _ _ _ mc ms _ _ _ _ _ _ _ hd hn hM hcat hst (by show mc ≤ c0; omega) (by show ms ≤ s0; omega) (gRuns_post hc (fun r h' e' q => ?_))
  obtain ⟨rfl, rfl, q3⟩ := q
  show J nx ls st h' (n + mc, c0 - mc, s0 - ms, fl)
  rw [show c0 - mc = bc by omega, show s0 - ms = bs by omega]
  exact kk h' q3
theorem j_mkN (hJ : gCl own cc ret ini (gRuns d) J P) {pc idx nx a n mc ms c0 s0 : Nat} (bc bs : Nat) {fl : Bool} {y : MethodName} {As : List Value} {ls : GL} {st st0 : List Value} {h : GH} (hd : decode cc pc = .ok (.invokespecial idx, 3)) (hn : pc + 3 = nx) (hc : gMk fl d y (.ref a :: As) h n mc ms Pc) (hM : gMIN own idx y As.length) (hst : st0 = As.reverse ++ .ref a :: st) (hcat : gcat st ≤ 8) (h1 : c0 = bc + mc) (h2 : s0 = bs + ms) (kk : ∀ h', Pc h' → J nx ls st h' (n + mc, bc, bs, fl)) : J pc ls st0 h (n, c0, s0, true) := by
  refine hJ 33 _ _ _ _ mc ms _ _ _ _ _ _ _ hd hn hM hcat hst (by show mc ≤ c0; omega) (by show ms ≤ s0; omega) (gRuns_post hc (fun r h' e' q => ?_))
  obtain ⟨rfl, rfl, q3⟩ := q
  show J nx ls st h' (n + mc, c0 - mc, s0 - ms, fl)
  rw [show c0 - mc = bc by omega, show s0 - ms = bs by omega]
  exact kk h' q3
theorem j_mks (hJ : gCl own cc ret ini (gRuns d) J P) {pc idx nx n mc ms c0 s0 : Nat} (bc bs : Nat) {fl : Bool} {y : MethodName} {As : List Value} {ls : GL} {st st0 : List Value} {h : GH} (hd : decode cc pc = .ok (.invokestatic idx, 3)) (hn : pc + 3 = nx) (hc : gMk fl d y As h n mc ms Pc) (hM : gMS own idx y As.length) (hst : st0 = As.reverse ++ st) (hcat : gcat st ≤ 8) (h1 : c0 = bc + mc) (h2 : s0 = bs + ms) (kk : ∀ h', Pc h' → J nx ls st h' (n + mc, bc, bs, fl)) : J pc ls st0 h (n, c0, s0, true) := by
  refine hJ 30 _ _ _ mc ms _ _ _ _ _ _ _ hd hn hM hcat hst (by show mc ≤ c0; omega) (by show ms ≤ s0; omega) (gRuns_post hc (fun r h' e' q => ?_))
  obtain ⟨rfl, rfl, q3⟩ := q
  show J nx ls st h' (n + mc, c0 - mc, s0 - ms, fl)
  rw [show c0 - mc = bc by omega, show s0 - ms = bs by omega]
  exact kk h' q3
end GMK
theorem lL_7 : Cond.classLink "PatternLanguagesLaw" 7 RX5 ∈ lw_tbl := tb_at 63 (by decide +kernel)
theorem wL_7 : gNew "PatternLanguagesLaw" 7 5 9 [.null, .null, .int 0, .null, .null, .null, .null, .null, .null] := ⟨RX5, TX5, fun j => [.object "PatternLanguages$Bench", .object "PatternLanguages$Bench", .boolean, .object "PatternLanguages$Row", .array (.object "PatternLanguages$Slot"), .object "PatternLanguages$Matcher", .object "PatternLanguages$Search", .object "PatternLanguages$Row", .object "PatternLanguages$Row"].getD j .int, lL_7, tb_at 64 (by decide +kernel), tb_at 49 (by decide +kernel), rfl, by decide +kernel, by decide +kernel, by simp⟩
theorem pL_9 : gMI "PatternLanguagesLaw" 9 yX5_init 0 := ⟨tb_at 65 (by decide +kernel), iX5_init, nX5_init, by decide +kernel, by decide +kernel, hX5_init⟩
theorem oX5_3 : Cond.methodLink RX5 3 objectInit ∈ lw_tbl := tb_at 68 (by decide +kernel)
theorem lX5_9 : Cond.classLink RX5 9 RX0 ∈ lw_tbl := tb_at 71 (by decide +kernel)
theorem wX5_9 : gNew RX5 9 0 5 [.int 0, .null, .null, .null, .int 0] := ⟨RX0, TX0, fun j => [.int, .array (.object "PatternLanguages$Row"), .array (.object "PatternLanguages$Row"), .array (.object "PatternLanguages$Row"), .int].getD j .int, lX5_9, tb_at 72 (by decide +kernel), tb_at 50 (by decide +kernel), rfl, by decide +kernel, by decide +kernel, by simp⟩
theorem pX5_11 : gMI RX5 11 yX0_init 0 := ⟨tb_at 73 (by decide +kernel), iX0_init, nX0_init, by decide +kernel, by decide +kernel, hX0_init⟩
theorem oX0_3 : Cond.methodLink RX0 3 objectInit ∈ lw_tbl := tb_at 76 (by decide +kernel)
theorem lX0_9 : Cond.classLink RX0 9 RX2 ∈ lw_tbl := tb_at 77 (by decide +kernel)
theorem wX0_9 : gNew RX0 9 2 2 [.null, .int 0] := ⟨RX2, TX2, fun j => [.array .int, .int].getD j .int, lX0_9, tb_at 82 (by decide +kernel), tb_at 51 (by decide +kernel), rfl, by decide +kernel, by decide +kernel, by simp⟩
theorem pX0_31 : gMI RX0 31 yX2_init 1 := ⟨tb_at 83 (by decide +kernel), iX2_init, nX2_init, by decide +kernel, by decide +kernel, hX2_init⟩
theorem oX2_3 : Cond.methodLink RX2 3 objectInit ∈ lw_tbl := tb_at 86 (by decide +kernel)
theorem lX5_25 : Cond.classLink RX5 25 RX2 ∈ lw_tbl := tb_at 142 (by decide +kernel)
theorem wX5_25 : gNew RX5 25 2 2 [.null, .int 0] := ⟨RX2, TX2, fun j => [.array .int, .int].getD j .int, lX5_25, tb_at 82 (by decide +kernel), tb_at 51 (by decide +kernel), rfl, by decide +kernel, by decide +kernel, by simp⟩
theorem pX5_27 : gMI RX5 27 yX2_init 1 := ⟨tb_at 143 (by decide +kernel), iX2_init, nX2_init, by decide +kernel, by decide +kernel, hX2_init⟩
theorem lX5_34 : Cond.classLink RX5 34 RX4 ∈ lw_tbl := tb_at 144 (by decide +kernel)
theorem wX5_34 : gNew RX5 34 4 2 [.int 0, .null] := ⟨RX4, TX4, fun j => [.int, .object "PatternLanguages$Row"].getD j .int, lX5_34, tb_at 198 (by decide +kernel), tb_at 55 (by decide +kernel), rfl, by decide +kernel, by decide +kernel, by simp⟩
theorem lX5_40 : Cond.classLink RX5 40 RX1 ∈ lw_tbl := tb_at 146 (by decide +kernel)
theorem wX5_40 : gNew RX5 40 1 6 [.null, .null, .null, .int 0, .int 0, .int 0] := ⟨RX1, TX1, fun j => [.array .int, .array .int, .array .int, .int, .int, .int].getD j .int, lX5_40, tb_at 147 (by decide +kernel), tb_at 53 (by decide +kernel), rfl, by decide +kernel, by decide +kernel, by simp⟩
theorem pX5_42 : gMIN RX5 42 yX1_init 0 := ⟨by decide +kernel, iX1_init, nX1_init, by decide +kernel, by decide +kernel, hX1_init⟩
theorem oX1_3 : Cond.methodLink RX1 3 objectInit ∈ lw_tbl := tb_at 151 (by decide +kernel)
theorem lX5_47 : Cond.classLink RX5 47 RX3 ∈ lw_tbl := tb_at 171 (by decide +kernel)
theorem wX5_47 : gNew RX5 47 3 5 [.null, .null, .int 0, .int 0, .int 0] := ⟨RX3, TX3, fun j => [.object "PatternLanguages$Matcher", .object "PatternLanguages$Row", .int, .int, .int].getD j .int, lX5_47, tb_at 172 (by decide +kernel), tb_at 54 (by decide +kernel), rfl, by decide +kernel, by decide +kernel, by simp⟩
theorem pX5_49 : gMIN RX5 49 yX3_init 0 := ⟨by decide +kernel, iX3_init, nX3_init, by decide +kernel, by decide +kernel, hX3_init⟩
theorem oX3_3 : Cond.methodLink RX3 3 objectInit ∈ lw_tbl := tb_at 176 (by decide +kernel)
theorem lX3_9 : Cond.classLink RX3 9 RX1 ∈ lw_tbl := tb_at 177 (by decide +kernel)
theorem wX3_9 : gNew RX3 9 1 6 [.null, .null, .null, .int 0, .int 0, .int 0] := ⟨RX1, TX1, fun j => [.array .int, .array .int, .array .int, .int, .int, .int].getD j .int, lX3_9, tb_at 147 (by decide +kernel), tb_at 53 (by decide +kernel), rfl, by decide +kernel, by decide +kernel, by simp⟩
theorem pX3_11 : gMIN RX3 11 yX1_init 0 := ⟨by decide +kernel, iX1_init, nX1_init, by decide +kernel, by decide +kernel, hX1_init⟩
theorem lX3_18 : Cond.classLink RX3 18 RX2 ∈ lw_tbl := tb_at 179 (by decide +kernel)
theorem wX3_18 : gNew RX3 18 2 2 [.null, .int 0] := ⟨RX2, TX2, fun j => [.array .int, .int].getD j .int, lX3_18, tb_at 82 (by decide +kernel), tb_at 51 (by decide +kernel), rfl, by decide +kernel, by decide +kernel, by simp⟩
theorem pX3_20 : gMI RX3 20 yX2_init 1 := ⟨tb_at 180 (by decide +kernel), iX2_init, nX2_init, by decide +kernel, by decide +kernel, hX2_init⟩
theorem pX5_60 : gMIN RX5 60 yX4_init 0 := ⟨by decide +kernel, iX4_init, nX4_init, by decide +kernel, by decide +kernel, hX4_init⟩
theorem oX4_3 : Cond.methodLink RX4 3 objectInit ∈ lw_tbl := tb_at 202 (by decide +kernel)
theorem lX4_15 : Cond.classLink RX4 15 RX2 ∈ lw_tbl := tb_at 203 (by decide +kernel)
theorem wX4_15 : gNew RX4 15 2 2 [.null, .int 0] := ⟨RX2, TX2, fun j => [.array .int, .int].getD j .int, lX4_15, tb_at 82 (by decide +kernel), tb_at 51 (by decide +kernel), rfl, by decide +kernel, by decide +kernel, by simp⟩
theorem pX4_17 : gMI RX4 17 yX2_init 1 := ⟨tb_at 204 (by decide +kernel), iX2_init, nX2_init, by decide +kernel, by decide +kernel, hX2_init⟩
theorem lL_10 : Cond.classLink "PatternLanguagesLaw" 10 RX6 ∈ lw_tbl := tb_at 710 (by decide +kernel)
theorem wL_10 : gNew "PatternLanguagesLaw" 10 6 42 [.int 0, .null, .null, .null, .null, .int 0, .null, .null, .null, .int 0, .null, .int 0, .null, .null, .int 0, .int 0, .null, .int 0, .null, .null, .null, .int 0, .int 0, .int 0, .null, .null, .null, .int 0, .null, .null, .null, .null, .null, .int 0, .int 0, .int 0, .null, .null, .null, .null, .null, .null] := ⟨RX6, TX6, fun j => [.int, .array .int, .array .int, .array .int, .array .int, .int, .array .int, .array .int, .array .int, .int, .array .int, .int, .array .int, .array .int, .int, .int, .array .int, .int, .array .int, .array .int, .array .int, .int, .int, .int, .array .int, .array .int, .array .int, .boolean, .array .int, .array .int, .array .int, .array .long, .array .long, .boolean, .int, .int, .array .int, .array .int, .array .int, .array .int, .array .int, .array .int].getD j .int, lL_10, tb_at 711 (by decide +kernel), tb_at 56 (by decide +kernel), rfl, by decide +kernel, by decide +kernel, by simp⟩
theorem pL_12 : gMI "PatternLanguagesLaw" 12 yX6_init 0 := ⟨tb_at 712 (by decide +kernel), iX6_init, nX6_init, by decide +kernel, by decide +kernel, hX6_init⟩
theorem oX6_3 : Cond.methodLink RX6 3 objectInit ∈ lw_tbl := tb_at 715 (by decide +kernel)
