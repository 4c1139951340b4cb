theorem gk_arr {s : State} {args : Array Value} {ty : FieldType} (h : (Cond.arrayClass ty).before args s = true) (hr : ∀ cA, s.vm.findClass ("[" ++ ty.toString) = some cA → va_RA s cA ty) : ∃ cA : ClassId, ArrOfT s cA ty ∧ va_RA s cA ty := by
  obtain ⟨cA, kA, comp, h1, h2, h3⟩ := Cond.arrayClass_spec (args := args) (first := s) (o := none) (s := s) (idx := []) h
  exact ⟨cA, fun n z => ⟨fun k h => (by cases h), kA, h2, comp, h3⟩, hr cA h1⟩
theorem gk_arrO {s : State} {args : Array Value} {C : String} (h : (Cond.arrayOver (.object C)).before args s = true) : ∃ cA : ClassId, ArrOfT s cA (.object C) ∧ va_RA s cA (.object C) := by
  obtain ⟨comp, cA, kA, f1, -, f2, f3, f4⟩ := Cond.arrayOver_spec (args := args) (first := s) (o := none) (s := s) (idx := []) h
  exact ⟨cA, fun n z => ⟨fun k h => (by cases h), kA, f2, comp, f3⟩, kA, comp, f2, f3, f1, f4⟩
def gtm (i : Nat) : Term := .string "PatternLanguages" ([161, 170, 175, 180, 182].getD i 0)
def gspm (b fa : Nat) (adK adV : Nat → Nat) : Nat → Nat := fun n => if n < 5 then adK n else if n = 200 then fa else if n = 300 then b else adV (n - 100)
set_option maxHeartbeats 8000000 in
theorem gk_str {s : State} {b : Nat} (hgv : (Jvm.Cond.and given_1 narrow_1).before #[Value.ref b] s = true) (A : Nat → Prop) (hA : ∀ a : Nat, a < s.heap.size → ¬ A a) : ∃ adK adV : Nat → Nat, vk_S 5 glen gbyt adK adV A s s.heap ∧ ∀ i : Nat, i < 5 → (gtm i).eval #[Value.ref b] s none [] s = some (.ref (adK i)) := by
  have hg := flat_of_before _ hgv
  refine vk_Sof (tm := gtm) (fun i hi => ?_) (fun i hi => ?_) (fun i hi => ?_) (fun i hi => ?_) (fun i hi => ?_) (fun i hi j hj => ?_) (fun i j hi hj hij => ?_) hA
  · match i, hi with
    | 0, _ => decide
    | 1, _ => decide
    | 2, _ => decide
    | 3, _ => decide
    | 4, _ => decide
    | n + 5, h => exact absurd h (by omega)
  · match i, hi with
    | 0, _ => exact hg (.exactly (.string "PatternLanguages" 161) "java/lang/String") (by decide +kernel)
    | 1, _ => exact hg (.exactly (.string "PatternLanguages" 170) "java/lang/String") (by decide +kernel)
    | 2, _ => exact hg (.exactly (.string "PatternLanguages" 175) "java/lang/String") (by decide +kernel)
    | 3, _ => exact hg (.exactly (.string "PatternLanguages" 180) "java/lang/String") (by decide +kernel)
    | 4, _ => exact hg (.exactly (.string "PatternLanguages" 182) "java/lang/String") (by decide +kernel)
    | n + 5, h => exact absurd h (by omega)
  · match i, hi with
    | 0, _ => exact hg (.eq (.field (.string "PatternLanguages" 161) "java/lang/String" "coder" "B") (.int 0)) (by decide +kernel)
    | 1, _ => exact hg (.eq (.field (.string "PatternLanguages" 170) "java/lang/String" "coder" "B") (.int 0)) (by decide +kernel)
    | 2, _ => exact hg (.eq (.field (.string "PatternLanguages" 175) "java/lang/String" "coder" "B") (.int 0)) (by decide +kernel)
    | 3, _ => exact hg (.eq (.field (.string "PatternLanguages" 180) "java/lang/String" "coder" "B") (.int 0)) (by decide +kernel)
    | 4, _ => exact hg (.eq (.field (.string "PatternLanguages" 182) "java/lang/String" "coder" "B") (.int 0)) (by decide +kernel)
    | n + 5, h => exact absurd h (by omega)
  · match i, hi with
    | 0, _ => exact hg (.arrayOf (.field (.string "PatternLanguages" 161) "java/lang/String" "value" "[B") .byte) (by decide +kernel)
    | 1, _ => exact hg (.arrayOf (.field (.string "PatternLanguages" 170) "java/lang/String" "value" "[B") .byte) (by decide +kernel)
    | 2, _ => exact hg (.arrayOf (.field (.string "PatternLanguages" 175) "java/lang/String" "value" "[B") .byte) (by decide +kernel)
    | 3, _ => exact hg (.arrayOf (.field (.string "PatternLanguages" 180) "java/lang/String" "value" "[B") .byte) (by decide +kernel)
    | 4, _ => exact hg (.arrayOf (.field (.string "PatternLanguages" 182) "java/lang/String" "value" "[B") .byte) (by decide +kernel)
    | n + 5, h => exact absurd h (by omega)
  · match i, hi with
    | 0, _ => exact hg (.eq (.length (.field (.string "PatternLanguages" 161) "java/lang/String" "value" "[B")) (.int 7)) (by decide +kernel)
    | 1, _ => exact hg (.eq (.length (.field (.string "PatternLanguages" 170) "java/lang/String" "value" "[B")) (.int 4)) (by decide +kernel)
    | 2, _ => exact hg (.eq (.length (.field (.string "PatternLanguages" 175) "java/lang/String" "value" "[B")) (.int 4)) (by decide +kernel)
    | 3, _ => exact hg (.eq (.length (.field (.string "PatternLanguages" 180) "java/lang/String" "value" "[B")) (.int 8)) (by decide +kernel)
    | 4, _ => exact hg (.eq (.length (.field (.string "PatternLanguages" 182) "java/lang/String" "value" "[B")) (.int 6)) (by decide +kernel)
    | n + 5, h => exact absurd h (by omega)
  · match i, hi with
    | 0, _ =>
      match j, hj with
      | 0, _ => exact hg (.eq (.elem (.field (.string "PatternLanguages" 161) "java/lang/String" "value" "[B") (.int 0)) (.int 114)) (by decide +kernel)
      | 1, _ => exact hg (.eq (.elem (.field (.string "PatternLanguages" 161) "java/lang/String" "value" "[B") (.int 1)) (.int 101)) (by decide +kernel)
      | 2, _ => exact hg (.eq (.elem (.field (.string "PatternLanguages" 161) "java/lang/String" "value" "[B") (.int 2)) (.int 118)) (by decide +kernel)
      | 3, _ => exact hg (.eq (.elem (.field (.string "PatternLanguages" 161) "java/lang/String" "value" "[B") (.int 3)) (.int 101)) (by decide +kernel)
      | 4, _ => exact hg (.eq (.elem (.field (.string "PatternLanguages" 161) "java/lang/String" "value" "[B") (.int 4)) (.int 114)) (by decide +kernel)
      | 5, _ => exact hg (.eq (.elem (.field (.string "PatternLanguages" 161) "java/lang/String" "value" "[B") (.int 5)) (.int 115)) (by decide +kernel)
      | 6, _ => exact hg (.eq (.elem (.field (.string "PatternLanguages" 161) "java/lang/String" "value" "[B") (.int 6)) (.int 101)) (by decide +kernel)
      | n + 7, h => exact absurd h (by show ¬ n + 7 < 7; omega)
    | 1, _ =>
      match j, hj with
      | 0, _ => exact hg (.eq (.elem (.field (.string "PatternLanguages" 170) "java/lang/String" "value" "[B") (.int 0)) (.int 115)) (by decide +kernel)
      | 1, _ => exact hg (.eq (.elem (.field (.string "PatternLanguages" 170) "java/lang/String" "value" "[B") (.int 1)) (.int 119)) (by decide +kernel)
      | 2, _ => exact hg (.eq (.elem (.field (.string "PatternLanguages" 170) "java/lang/String" "value" "[B") (.int 2)) (.int 97)) (by decide +kernel)
      | 3, _ => exact hg (.eq (.elem (.field (.string "PatternLanguages" 170) "java/lang/String" "value" "[B") (.int 3)) (.int 112)) (by decide +kernel)
      | n + 4, h => exact absurd h (by show ¬ n + 4 < 4; omega)
    | 2, _ =>
      match j, hj with
      | 0, _ => exact hg (.eq (.elem (.field (.string "PatternLanguages" 175) "java/lang/String" "value" "[B") (.int 0)) (.int 100)) (by decide +kernel)
      | 1, _ => exact hg (.eq (.elem (.field (.string "PatternLanguages" 175) "java/lang/String" "value" "[B") (.int 1)) (.int 114)) (by decide +kernel)
      | 2, _ => exact hg (.eq (.elem (.field (.string "PatternLanguages" 175) "java/lang/String" "value" "[B") (.int 2)) (.int 111)) (by decide +kernel)
      | 3, _ => exact hg (.eq (.elem (.field (.string "PatternLanguages" 175) "java/lang/String" "value" "[B") (.int 3)) (.int 112)) (by decide +kernel)
      | n + 4, h => exact absurd h (by show ¬ n + 4 < 4; omega)
    | 3, _ =>
      match j, hj with
      | 0, _ => exact hg (.eq (.elem (.field (.string "PatternLanguages" 180) "java/lang/String" "value" "[B") (.int 0)) (.int 99)) (by decide +kernel)
      | 1, _ => exact hg (.eq (.elem (.field (.string "PatternLanguages" 180) "java/lang/String" "value" "[B") (.int 1)) (.int 111)) (by decide +kernel)
      | 2, _ => exact hg (.eq (.elem (.field (.string "PatternLanguages" 180) "java/lang/String" "value" "[B") (.int 2)) (.int 108)) (by decide +kernel)
      | 3, _ => exact hg (.eq (.elem (.field (.string "PatternLanguages" 180) "java/lang/String" "value" "[B") (.int 3)) (.int 108)) (by decide +kernel)
      | 4, _ => exact hg (.eq (.elem (.field (.string "PatternLanguages" 180) "java/lang/String" "value" "[B") (.int 4)) (.int 97)) (by decide +kernel)
      | 5, _ => exact hg (.eq (.elem (.field (.string "PatternLanguages" 180) "java/lang/String" "value" "[B") (.int 5)) (.int 112)) (by decide +kernel)
      | 6, _ => exact hg (.eq (.elem (.field (.string "PatternLanguages" 180) "java/lang/String" "value" "[B") (.int 6)) (.int 115)) (by decide +kernel)
      | 7, _ => exact hg (.eq (.elem (.field (.string "PatternLanguages" 180) "java/lang/String" "value" "[B") (.int 7)) (.int 101)) (by decide +kernel)
      | n + 8, h => exact absurd h (by show ¬ n + 8 < 8; omega)
    | 4, _ =>
      match j, hj with
      | 0, _ => exact hg (.eq (.elem (.field (.string "PatternLanguages" 182) "java/lang/String" "value" "[B") (.int 0)) (.int 102)) (by decide +kernel)
      | 1, _ => exact hg (.eq (.elem (.field (.string "PatternLanguages" 182) "java/lang/String" "value" "[B") (.int 1)) (.int 111)) (by decide +kernel)
      | 2, _ => exact hg (.eq (.elem (.field (.string "PatternLanguages" 182) "java/lang/String" "value" "[B") (.int 2)) (.int 114)) (by decide +kernel)
      | 3, _ => exact hg (.eq (.elem (.field (.string "PatternLanguages" 182) "java/lang/String" "value" "[B") (.int 3)) (.int 103)) (by decide +kernel)
      | 4, _ => exact hg (.eq (.elem (.field (.string "PatternLanguages" 182) "java/lang/String" "value" "[B") (.int 4)) (.int 101)) (by decide +kernel)
      | 5, _ => exact hg (.eq (.elem (.field (.string "PatternLanguages" 182) "java/lang/String" "value" "[B") (.int 5)) (.int 116)) (by decide +kernel)
      | n + 6, h => exact absurd h (by show ¬ n + 6 < 6; omega)
    | n + 5, h => exact absurd h (by omega)
  · have key : ∀ i j : Nat, i < j → j < 5 → (Cond.not (Cond.eq (gtm i) (gtm j))).before #[Value.ref b] s = true := by
      intro i j h1 h2
      match i, j, h1, h2 with
      | 0, 1, _, _ => exact hg (.not (.eq (.string "PatternLanguages" 161) (.string "PatternLanguages" 170))) (by decide +kernel)
      | 0, 2, _, _ => exact hg (.not (.eq (.string "PatternLanguages" 161) (.string "PatternLanguages" 175))) (by decide +kernel)
      | 0, 3, _, _ => exact hg (.not (.eq (.string "PatternLanguages" 161) (.string "PatternLanguages" 180))) (by decide +kernel)
      | 0, 4, _, _ => exact hg (.not (.eq (.string "PatternLanguages" 161) (.string "PatternLanguages" 182))) (by decide +kernel)
      | 1, 2, _, _ => exact hg (.not (.eq (.string "PatternLanguages" 170) (.string "PatternLanguages" 175))) (by decide +kernel)
      | 1, 3, _, _ => exact hg (.not (.eq (.string "PatternLanguages" 170) (.string "PatternLanguages" 180))) (by decide +kernel)
      | 1, 4, _, _ => exact hg (.not (.eq (.string "PatternLanguages" 170) (.string "PatternLanguages" 182))) (by decide +kernel)
      | 2, 3, _, _ => exact hg (.not (.eq (.string "PatternLanguages" 175) (.string "PatternLanguages" 180))) (by decide +kernel)
      | 2, 4, _, _ => exact hg (.not (.eq (.string "PatternLanguages" 175) (.string "PatternLanguages" 182))) (by decide +kernel)
      | 3, 4, _, _ => exact hg (.not (.eq (.string "PatternLanguages" 180) (.string "PatternLanguages" 182))) (by decide +kernel)
      | i, n + 5, _, h => exact absurd h (by omega)
      | 0, 0, h, _ => exact absurd h (by omega)
      | 1, 0, h, _ => exact absurd h (by omega)
      | 1, 1, h, _ => exact absurd h (by omega)
      | 2, 0, h, _ => exact absurd h (by omega)
      | 2, 1, h, _ => exact absurd h (by omega)
      | 2, 2, h, _ => exact absurd h (by omega)
      | 3, 0, h, _ => exact absurd h (by omega)
      | 3, 1, h, _ => exact absurd h (by omega)
      | 3, 2, h, _ => exact absurd h (by omega)
      | 3, 3, h, _ => exact absurd h (by omega)
      | 4, 0, h, _ => exact absurd h (by omega)
      | 4, 1, h, _ => exact absurd h (by omega)
      | 4, 2, h, _ => exact absurd h (by omega)
      | 4, 3, h, _ => exact absurd h (by omega)
      | 4, 4, h, _ => exact absurd h (by omega)
      | n + 5, j, h, h9 => exact absurd h (by omega)
    rcases Nat.lt_or_gt_of_ne hij with h | h
    · exact Or.inl (key i j h hj)
    · exact Or.inr (key j i h hi)
set_option maxHeartbeats 8000000 in
theorem gk_env {s : State} {b : Nat} (hts : ∀ w ∈ lw_tbl, w.before #[Value.ref b] s = true) (hgv : (Jvm.Cond.and given_1 narrow_1).before #[Value.ref b] s = true) : ∃ (sp : Nat → Nat) (D : va_G) (cI cL : ClassId) (cQ : Nat → ClassId), gEnv s.heap.size sp D cI cL cQ s ∧ sp 300 = b := by
  have hg := flat_of_before _ hgv
  have hA : ∀ a : Nat, a < s.heap.size → ¬ gA s.heap.size a := fun a h => Nat.not_le.mpr h
  obtain ⟨adK, adV, hS, hev⟩ := gk_str hgv (gA s.heap.size) hA
  obtain ⟨fv, hfv, hfr⟩ := Cond.isRef_spec (args := #[Value.ref b]) (first := s) (o := none) (s := s) (idx := []) (hg (.isRef (.static "jdk/internal/util/Preconditions" "SIOOBE_FORMATTER" "Ljava/util/function/BiFunction;")) (by decide +kernel))
  obtain ⟨fa, hfa⟩ : ∃ fa : Nat, fv = .null ∨ fv = .ref fa := by
    cases fv with
    | null => exact ⟨0, Or.inl rfl⟩
    | ref a => exact ⟨a, Or.inr rfl⟩
    | int _ => cases hfr
    | long _ => cases hfr
    | float _ => cases hfr
    | double _ => cases hfr
    | retAddr _ => cases hfr
  obtain ⟨cI, aI, rI⟩ := gk_arr (hts _ gt_aI) (fun cA h => h)
  obtain ⟨cL, aL, rL⟩ := gk_arr (hts _ gt_aL) (fun cA h => h)
  obtain ⟨c2, a2, r2⟩ := gk_arrO (C := RX2) (hts _ (tb_at 78 (by decide +kernel)))
  obtain ⟨c4, a4, r4⟩ := gk_arrO (C := RX4) (hts _ (tb_at 145 (by decide +kernel)))
  have hT : ∀ w ∈ gTs, w.before #[Value.ref b] s = true := fun w hw => hts w (List.mem_filter.mp hw).1
  obtain ⟨d0, e0, K0⟩ := u_known (C := RX0) (T := TX0) (N := 5) (n := 5) hT (gcl_all (t := 0) rfl).1 (hts _ (tb_at 72 (by decide +kernel)))
  obtain ⟨d1, e1, K1⟩ := u_known (C := RX1) (T := TX1) (N := 6) (n := 6) hT (gcl_all (t := 1) rfl).1 (hts _ (tb_at 147 (by decide +kernel)))
  obtain ⟨d2, e2, K2⟩ := u_known (C := RX2) (T := TX2) (N := 2) (n := 2) hT (gcl_all (t := 2) rfl).1 (hts _ (tb_at 82 (by decide +kernel)))
  obtain ⟨d3, e3, K3⟩ := u_known (C := RX3) (T := TX3) (N := 5) (n := 5) hT (gcl_all (t := 3) rfl).1 (hts _ (tb_at 172 (by decide +kernel)))
  obtain ⟨d4, e4, K4⟩ := u_known (C := RX4) (T := TX4) (N := 2) (n := 2) hT (gcl_all (t := 4) rfl).1 (hts _ (tb_at 198 (by decide +kernel)))
  obtain ⟨d5, e5, K5⟩ := u_known (C := RX5) (T := TX5) (N := 9) (n := 9) hT (gcl_all (t := 5) rfl).1 (hts _ (tb_at 64 (by decide +kernel)))
  obtain ⟨d6, e6, K6⟩ := u_known (C := RX6) (T := TX6) (N := 42) (n := 42) hT (gcl_all (t := 6) rfl).1 (hts _ (tb_at 711 (by decide +kernel)))
  refine ⟨gspm b fa adK adV, (fun k => if k = 0 then d0 else if k = 1 then d1 else if k = 2 then d2 else if k = 3 then d3 else if k = 4 then d4 else if k = 5 then d5 else d6, fun k => if k = 0 then e0 else if k = 1 then e1 else if k = 2 then e2 else if k = 3 then e3 else if k = 4 then e4 else if k = 5 then e5 else e6), cI, cL, fun k => if k = 2 then c2 else c4, ⟨⟨?_, ?_⟩, ⟨va_AO.of (hts _ (tb_at 78 (by decide +kernel))), va_AO.of (hts _ (tb_at 145 (by decide +kernel)))⟩, ?_, ?_, ?_, ?_, ?_⟩, rfl⟩
  · intro k q hq
    match k, hq with
    | 0, hq => cases hq; exact K0
    | 1, hq => cases hq; exact K1
    | 2, hq => cases hq; exact K2
    | 3, hq => cases hq; exact K3
    | 4, hq => cases hq; exact K4
    | 5, hq => cases hq; exact K5
    | 6, hq => cases hq; exact K6
    | k + 7, hq => cases hq
  · intro k q hq
    match k, hq with
    | 0, hq => cases hq; exact ⟨aI, rI⟩
    | 1, hq => cases hq; exact ⟨aL, rL⟩
    | 2, hq => cases hq; exact ⟨a2, r2⟩
    | 3, hq => cases hq; exact ⟨a4, r4⟩
    | k + 4, hq => cases hq
  · intro w hw
    unfold gnestW at hw
    rcases List.mem_cons.mp hw with rfl | hw
    · exact va_Nw.of rfl (hts _ (tb_at 148 (by decide +kernel)))
    rcases List.mem_cons.mp hw with rfl | hw
    · exact va_Nw.of rfl (hts _ (tb_at 173 (by decide +kernel)))
    rcases List.mem_cons.mp hw with rfl | hw
    · exact va_Nw.of rfl (hts _ (tb_at 178 (by decide +kernel)))
    rcases List.mem_cons.mp hw with rfl | hw
    · exact va_Nw.of rfl (hts _ (tb_at 199 (by decide +kernel)))
    rcases List.mem_cons.mp hw with rfl | hw
    · exact va_Nw.of rfl (hts _ (tb_at 494 (by decide +kernel)))
    · cases hw
  · have e5 : ∀ i, i < 5 → (gtm i).eval #[Value.ref b] s none [] s = some (.ref (gspm b fa adK adV i)) := fun i hi => by rw [show gspm b fa adK adV i = adK i from if_pos hi]; exact hev i hi
    intro q hq
    unfold gstrs at hq
    rcases List.mem_cons.mp hq with rfl | hq
    · exact vk_R.of (A := #[Value.ref b]) (hts _ (tb_at 393 (by decide +kernel))) (e5 0 (by omega))
    rcases List.mem_cons.mp hq with rfl | hq
    · exact vk_R.of (A := #[Value.ref b]) (hts _ (tb_at 450 (by decide +kernel))) (e5 1 (by omega))
    rcases List.mem_cons.mp hq with rfl | hq
    · exact vk_R.of (A := #[Value.ref b]) (hts _ (tb_at 456 (by decide +kernel))) (e5 2 (by omega))
    rcases List.mem_cons.mp hq with rfl | hq
    · exact vk_R.of (A := #[Value.ref b]) (hts _ (tb_at 464 (by decide +kernel))) (e5 3 (by omega))
    rcases List.mem_cons.mp hq with rfl | hq
    · exact vk_R.of (A := #[Value.ref b]) (hts _ (tb_at 465 (by decide +kernel))) (e5 4 (by omega))
    rcases List.mem_cons.mp hq with rfl | hq
    · exact vk_R.of (A := #[Value.ref b]) (hts _ (tb_at 955 (by decide +kernel))) (by obtain ⟨y, y1, y2⟩ := Cond.eq_one (args := #[Value.ref b]) (first := s) (o := none) (s := s) (idx := []) (hg (.eq (.string "PatternLanguages" 161) (.string "PatternLanguagesModel" 171)) (by decide +kernel)); have y3 := (e5 0 (by omega)).symm.trans y1; cases y3; exact y2)
    rcases List.mem_cons.mp hq with rfl | hq
    · exact vk_R.of (A := #[Value.ref b]) (hts _ (tb_at 962 (by decide +kernel))) (by obtain ⟨y, y1, y2⟩ := Cond.eq_one (args := #[Value.ref b]) (first := s) (o := none) (s := s) (idx := []) (hg (.eq (.string "PatternLanguages" 170) (.string "PatternLanguagesModel" 177)) (by decide +kernel)); have y3 := (e5 1 (by omega)).symm.trans y1; cases y3; exact y2)
    rcases List.mem_cons.mp hq with rfl | hq
    · exact vk_R.of (A := #[Value.ref b]) (hts _ (tb_at 963 (by decide +kernel))) (by obtain ⟨y, y1, y2⟩ := Cond.eq_one (args := #[Value.ref b]) (first := s) (o := none) (s := s) (idx := []) (hg (.eq (.string "PatternLanguages" 175) (.string "PatternLanguagesModel" 179)) (by decide +kernel)); have y3 := (e5 2 (by omega)).symm.trans y1; cases y3; exact y2)
    rcases List.mem_cons.mp hq with rfl | hq
    · exact vk_R.of (A := #[Value.ref b]) (hts _ (tb_at 964 (by decide +kernel))) (by obtain ⟨y, y1, y2⟩ := Cond.eq_one (args := #[Value.ref b]) (first := s) (o := none) (s := s) (idx := []) (hg (.eq (.string "PatternLanguages" 180) (.string "PatternLanguagesModel" 181)) (by decide +kernel)); have y3 := (e5 3 (by omega)).symm.trans y1; cases y3; exact y2)
    rcases List.mem_cons.mp hq with rfl | hq
    · exact vk_R.of (A := #[Value.ref b]) (hts _ (tb_at 965 (by decide +kernel))) (by obtain ⟨y, y1, y2⟩ := Cond.eq_one (args := #[Value.ref b]) (first := s) (o := none) (s := s) (idx := []) (hg (.eq (.string "PatternLanguages" 182) (.string "PatternLanguagesModel" 183)) (by decide +kernel)); have y3 := (e5 4 (by omega)).symm.trans y1; cases y3; exact y2)
    · cases hq
  · refine ⟨fun i hi => ?_, fun i j hi hj e => hS.2 i j hi hj ?_⟩
    · have := hS.1 i hi
      dsimp only
      rw [show gspm b fa adK adV i = adK i from if_pos hi, show gspm b fa adK adV (100 + i) = adV i from (by unfold gspm; rw [if_neg (by omega), if_neg (by omega), if_neg (by omega), Nat.add_sub_cancel_left])]
      exact this
    · rw [show gspm b fa adK adV i = adK i from if_pos hi, show gspm b fa adK adV j = adK j from if_pos hj] at e
      exact e
  · exact va_Zof (args := #[Value.ref b]) (hts _ (tb_at 407 (by decide +kernel))) (hts _ (tb_at 59 (by decide +kernel))) (va_eqt (hg (.eq (.static "java/lang/String" "COMPACT_STRINGS" "Z") (.int 1)) (by decide +kernel))) hA
  · exact ⟨fv, hfa, va_Zof (args := #[Value.ref b]) (hts _ (tb_at 423 (by decide +kernel))) (hts _ (tb_at 61 (by decide +kernel))) hfv hA⟩
