def gO (M : Nat → Int32) (pv tv : Value) : GC := gob 6 [.int (M 0), .ref 100, .ref 101, .ref 102, .ref 103, .int (M 5), .ref 104, .ref 105, .ref 106, .int (M 9), .ref 107, .int (M 11), .ref 108, pv, .int (M 14), .int (M 15), tv, .int (M 17), .ref 109, .ref 110, .ref 111, .int (M 21), .int (M 22), .int (M 23), .ref 112, .ref 113, .ref 114, .int (M 27), .ref 115, .ref 116, .ref 117, .ref 118, .ref 119, .int (M 33), .int (M 34), .int (M 35), .ref 120, .ref 121, .ref 122, .ref 123, .ref 124, .ref 125]
def gasz (a : Nat) : Nat := [48, 6, 48, 6, 32, 4, 20, 8, 4, 4, 4, 4, 4, 8, 8, 8, 4, 4, 0, 0, 48, 6, 48, 6, 32, 4].getD (a - 100) 0
def gia' (a : Nat) : Prop := (100 ≤ a ∧ a < 118) ∨ (120 ≤ a ∧ a < 126)
/-- the reference's cells: arrays of ints A, of longs E, the numbers M -/
def gB (h : GH) (A : Nat → Nat → Int32) (E : Nat → Nat → Int64) (M : Nat → Int32) (pv tv : Value) : Prop :=
  h 99 = some (gO M pv tv) ∧ (∀ a, gia' a → h a = some (gia (gasz a) (A a))) ∧ h 118 = some (gla 160 (E 118)) ∧ h 119 = some (gla 40 (E 119))
def gP (h0 h : GH) (A : Nat → Nat → Int32) (E : Nat → Nat → Int64) (M : Nat → Int32) (pv tv : Value) : Prop := gB h A E M pv tv ∧ ∀ a, a < 99 ∨ 126 ≤ a → h a = h0 a
theorem gP.rf {h : GH} {A : Nat → Nat → Int32} {E : Nat → Nat → Int64} {M : Nat → Int32} {pv tv : Value} (hB : gB h A E M pv tv) : gP h h A E M pv tv := ⟨hB, fun _ _ => rfl⟩
theorem gP.fld {h0 h : GH} {A : Nat → Nat → Int32} {E : Nat → Nat → Int64} {M : Nat → Int32} {pv tv : Value} (hP : gP h0 h A E M pv tv) (M' : Nat → Int32) (pv' tv' : Value) : gP h0 (gup h 99 (gO M' pv' tv')) A E M' pv' tv' :=
  ⟨⟨gup_same _ _ _, fun a ha => by rw [gup_ne _ _ (by unfold gia' at ha; omega)]; exact hP.1.2.1 a ha, by rw [gup_ne _ _ (by decide)]; exact hP.1.2.2.1, by rw [gup_ne _ _ (by decide)]; exact hP.1.2.2.2⟩, fun a ha => by rw [gup_ne _ _ (by omega)]; exact hP.2 a ha⟩
theorem gP.arr {h0 h : GH} {A : Nat → Nat → Int32} {E : Nat → Nat → Int64} {M : Nat → Int32} {pv tv : Value} (hP : gP h0 h A E M pv tv) {a : Nat} (ha : gia' a) (f : Nat → Int32) : gP h0 (gup h a (gia (gasz a) f)) (gU A a f) E M pv tv := by
  have ha2 := ha
  unfold gia' at ha2
  refine ⟨⟨by rw [gup_ne _ _ (by omega)]; exact hP.1.1, fun b hb => ?_, by rw [gup_ne _ _ (by omega)]; exact hP.1.2.2.1, by rw [gup_ne _ _ (by omega)]; exact hP.1.2.2.2⟩, fun b hb => by rw [gup_ne _ _ (by omega)]; exact hP.2 b hb⟩
  by_cases e : b = a
  · subst e; rw [gup_same, gU_s]
  · rw [gup_ne _ _ e, gU_n _ _ e]; exact hP.1.2.1 b hb
theorem gP.el {h0 h : GH} {A : Nat → Nat → Int32} {E : Nat → Nat → Int64} {M : Nat → Int32} {pv tv : Value} (hP : gP h0 h A E M pv tv) (f : Nat → Int64) : gP h0 (gup h 118 (gla 160 f)) A (gU E 118 f) M pv tv :=
  ⟨⟨by rw [gup_ne _ _ (by decide)]; exact hP.1.1, fun a ha => by rw [gup_ne _ _ (by unfold gia' at ha; omega)]; exact hP.1.2.1 a ha, gup_same _ _ _, by rw [gup_ne _ _ (by decide)]; exact hP.1.2.2.2⟩, fun a ha => by rw [gup_ne _ _ (by omega)]; exact hP.2 a ha⟩
theorem gP.ca {h0 h : GH} {A : Nat → Nat → Int32} {E : Nat → Nat → Int64} {M : Nat → Int32} {pv tv : Value} (hP : gP h0 h A E M pv tv) (f : Nat → Int64) : gP h0 (gup h 119 (gla 40 f)) A (gU E 119 f) M pv tv :=
  ⟨⟨by rw [gup_ne _ _ (by decide)]; exact hP.1.1, fun a ha => by rw [gup_ne _ _ (by unfold gia' at ha; omega)]; exact hP.1.2.1 a ha, by rw [gup_ne _ _ (by decide)]; exact hP.1.2.2.1, gup_same _ _ _⟩, fun a ha => by rw [gup_ne _ _ (by omega)]; exact hP.2 a ha⟩
theorem gP.a {h0 h : GH} {A : Nat → Nat → Int32} {E : Nat → Nat → Int64} {M : Nat → Int32} {pv tv : Value} (hP : gP h0 h A E M pv tv) (a : Nat) (ha : gia' a) : h a = some (gia (gasz a) (A a)) := hP.1.2.1 a ha
theorem gP.rw {h0 h : GH} {A A' : Nat → Nat → Int32} {E E' : Nat → Nat → Int64} {M M' : Nat → Int32} {pv tv : Value} (hP : gP h0 h A E M pv tv) (e1 : ∀ a, A a = A' a) (e2 : ∀ a, E a = E' a) (e3 : ∀ a, M a = M' a) : gP h0 h A' E' M' pv tv := by
  rw [← funext e1, ← funext e2, ← funext e3]; exact hP
/-- the list l stands in f from o on -/
def gSt (f : Nat → Int32) (o : Nat) (l : List Int32) : Prop := ∀ (i : Nat) (v : Int32), l[i]? = some v → f (o + i) = v
theorem gSt.get {f : Nat → Int32} {o : Nat} {l : List Int32} (h : gSt f o l) {i : Nat} (hi : i < l.length) : f (o + i) = l.getD i (-1) := by
  have h1 : l[i]? = some l[i] := List.getElem?_eq_getElem hi
  rw [h i _ h1, List.getD_eq_getElem?_getD, h1]; rfl
theorem gSt.of {f : Nat → Int32} {o : Nat} {l : List Int32} (h : ∀ i, i < l.length → f (o + i) = l.getD i (-1)) : gSt f o l := fun i v hv => by
  have hi := (List.getElem?_eq_some_iff.mp hv).1
  rw [h i hi, List.getD_eq_getElem?_getD, hv]; rfl
theorem gSt.congr {f g : Nat → Int32} {o : Nat} {l : List Int32} (h : gSt f o l) (e : ∀ i, i < l.length → g (o + i) = f (o + i)) : gSt g o l := fun i v hv => by
  rw [e i (List.getElem?_eq_some_iff.mp hv).1]; exact h i v hv
def gvc (l : List Int32) : Nat := (if 0 < l.count 10 then 1 else 0) + (if 0 < l.count 11 then 1 else 0) + (if 0 < l.count 12 then 1 else 0) + (if 0 < l.count 13 then 1 else 0)
def gin (x a b : Int32) : Bool := decide (a ≤ x ∧ x ≤ b)
set_option maxHeartbeats 4000000 in
theorem r6_in {fl : Bool} {d : Nat} {h : GH} (x a b : Int32) : gR fl (d + 1) yX6_in [.int x, .int a, .int b] h (.int (gb (gin x a b))) := by
  refine gN.of MX6_in (Nat.le_of_ble_eq_true rfl) (fun J n hJ => ?_)
  show J 0 [some (.int x), some (.int a), some (.int b)] [] h (n, 0, 0, fl)
  refine j_p (nx := 1) hJ dX6_in_0 rfl rfl ?_
  refine j_p (nx := 2) hJ dX6_in_1 rfl rfl ?_
  refine j_ic_lt (nx := 5) (tgt := 14) hJ dX6_in_2 rfl (by decide) (fun c2 => ?_) (fun c2 => ?_)
  · refine j_c (nx := 15) hJ dX6_in_14 rfl gk_iconst_0 ?_
    first | rw [Int32.lt_iff_toInt_lt] at c2 | skip
    first | rw [Int32.lt_iff_toInt_lt] at c7 | skip
    have e : gin x a b = false := decide_eq_false (fun q => by rw [Int32.le_iff_toInt_le, Int32.le_iff_toInt_le] at q; omega)
    exact j_zret hJ _ dX6_in_15 (by rw [e]; rfl) ⟨rfl, rfl⟩
  · refine j_p (nx := 6) hJ dX6_in_5 rfl rfl ?_
    refine j_p (nx := 7) hJ dX6_in_6 rfl rfl ?_
    refine j_ic_gt (nx := 10) (tgt := 14) hJ dX6_in_7 rfl (by decide) (fun c7 => ?_) (fun c7 => ?_)
    · refine j_c (nx := 15) hJ dX6_in_14 rfl gk_iconst_0 ?_
      first | rw [Int32.lt_iff_toInt_lt] at c2 | skip
      first | rw [Int32.lt_iff_toInt_lt] at c7 | skip
      have e : gin x a b = false := decide_eq_false (fun q => by rw [Int32.le_iff_toInt_le, Int32.le_iff_toInt_le] at q; omega)
      exact j_zret hJ _ dX6_in_15 (by rw [e]; rfl) ⟨rfl, rfl⟩
    · refine j_c (nx := 11) hJ dX6_in_10 rfl gk_iconst_1 ?_
      refine j_go (tgt := 15) hJ dX6_in_11 (by decide) ?_
      first | rw [Int32.lt_iff_toInt_lt] at c2 | skip
      first | rw [Int32.lt_iff_toInt_lt] at c7 | skip
      have e : gin x a b = true := decide_eq_true ⟨by rw [Int32.le_iff_toInt_le]; omega, by rw [Int32.le_iff_toInt_le]; omega⟩
      exact j_zret hJ _ dX6_in_15 (by rw [e]; rfl) ⟨rfl, rfl⟩
theorem gin_bt (x : Int32) (n : Nat) (hn : n < 1000) : gin x 0 (nI n) = gbt x (n + 1) := by
  unfold gin gbt
  congr 1
  rw [Int32.le_iff_toInt_le, Int32.le_iff_toInt_le, Int32.toInt_zero, nI_toInt (by omega)]
  apply propext
  constructor
  · intro q; exact ⟨q.1, by omega⟩
  · intro q; exact ⟨q.1, by omega⟩
theorem gin_md (x : Int32) : gin x 0 1 = gmd x := by
  unfold gin gmd
  congr 1
  rw [Int32.le_iff_toInt_le, Int32.le_iff_toInt_le, Int32.toInt_zero, show (1 : Int32).toInt = 1 by decide, ← Int32.toInt_inj, ← Int32.toInt_inj, Int32.toInt_zero, show (1 : Int32).toInt = 1 by decide]
  apply propext
  omega
set_option maxHeartbeats 4000000 in
theorem r6_isRegister {fl : Bool} {d : Nat} {h : GH} (x : Int32) : gR fl (d + 2) yX6_isRegister [.int x] h (.int (gb (gbt x 6))) := by
  refine gN.of MX6_isRegister (Nat.le_of_ble_eq_true rfl) (fun J n hJ => ?_)
  show J 0 [some (.int x)] [] h (n, 0, 0, fl)
  refine j_p (nx := 1) hJ dX6_isRegister_0 rfl rfl ?_
  refine j_c (nx := 2) hJ dX6_isRegister_1 rfl gk_iconst_0 ?_
  refine j_c (nx := 3) hJ dX6_isRegister_2 rfl gk_iconst_5 ?_
  refine j_csR (nx := 6) hJ dX6_isRegister_3 rfl (r6_in (fl := fl) (d := d) x _ _) mX6_101 rfl (gle8 rfl) ?_
  exact j_zret hJ _ dX6_isRegister_6 (by rw [show gin x 0 5 = gbt x 6 from gin_bt x 5 (by omega)]) ⟨rfl, rfl⟩
set_option maxHeartbeats 4000000 in
theorem r6_isSlot {fl : Bool} {d : Nat} {h : GH} (x : Int32) : gR fl (d + 2) yX6_isSlot [.int x] h (.int (gb (gbt x 4))) := by
  refine gN.of MX6_isSlot (Nat.le_of_ble_eq_true rfl) (fun J n hJ => ?_)
  show J 0 [some (.int x)] [] h (n, 0, 0, fl)
  refine j_p (nx := 1) hJ dX6_isSlot_0 rfl rfl ?_
  refine j_c (nx := 2) hJ dX6_isSlot_1 rfl gk_iconst_0 ?_
  refine j_c (nx := 3) hJ dX6_isSlot_2 rfl gk_iconst_3 ?_
  refine j_csR (nx := 6) hJ dX6_isSlot_3 rfl (r6_in (fl := fl) (d := d) x _ _) mX6_101 rfl (gle8 rfl) ?_
  exact j_zret hJ _ dX6_isSlot_6 (by rw [show gin x 0 3 = gbt x 4 from gin_bt x 3 (by omega)]) ⟨rfl, rfl⟩
set_option maxHeartbeats 4000000 in
theorem r6_isMode {fl : Bool} {d : Nat} {h : GH} (x : Int32) : gR fl (d + 2) yX6_isMode [.int x] h (.int (gb (gmd x))) := by
  refine gN.of MX6_isMode (Nat.le_of_ble_eq_true rfl) (fun J n hJ => ?_)
  show J 0 [some (.int x)] [] h (n, 0, 0, fl)
  refine j_p (nx := 1) hJ dX6_isMode_0 rfl rfl ?_
  refine j_c (nx := 2) hJ dX6_isMode_1 rfl gk_iconst_0 ?_
  refine j_c (nx := 3) hJ dX6_isMode_2 rfl gk_iconst_1 ?_
  refine j_csR (nx := 6) hJ dX6_isMode_3 rfl (r6_in (fl := fl) (d := d) x _ _) mX6_101 rfl (gle8 rfl) ?_
  exact j_zret hJ _ dX6_isMode_6 (by rw [gin_md]) ⟨rfl, rfl⟩
set_option maxHeartbeats 4000000 in
theorem r6_countOf {fl : Bool} {d : Nat} {h : GH} {a n9 p : Nat} {f : Nat → Int32} {l : List Int32} (ha : h a = some (gia n9 f)) (hS : gSt f p l) (hn : p + l.length ≤ n9) (hn9 : n9 ≤ 1000) (x : Int32) : gR fl (d + 1) yX6_countOf [.int x, .ref a, .int (nI p), .int (nI l.length)] h (.int (gcnt x l)) := by
  refine gN.of MX6_countOf (Nat.le_of_ble_eq_true rfl) (fun J n hJ => ?_)
  show J 0 [some (.int x), some (.ref a), some (.int (nI p)), some (.int (nI l.length)), none, none] [] h (n, 0, 0, fl)
  have loop : ∀ i, i ≤ l.length → J 6 [some (.int x), some (.ref a), some (.int (nI p)), some (.int (nI l.length)), some (.int (gcnt x (l.take i))), some (.int (nI (p + i)))] [] h (n, 0, 0, fl) := by
    refine gloop _ _ (fun i hi ih => ?_)
    refine j_p (nx := 8) hJ dX6_countOf_6 rfl rfl ?_
    refine j_p (nx := 9) hJ dX6_countOf_8 rfl rfl ?_
    refine j_p (nx := 10) hJ dX6_countOf_9 rfl rfl ?_
    refine j_p (nx := 11) hJ dX6_countOf_10 rfl rfl ?_
    rw [gadd]
    refine j_ic_ge (nx := 14) (tgt := 38) hJ dX6_countOf_11 rfl (by decide) (fun c11 => ?_) (fun c11 => ?_)
    · refine j_p (nx := 40) hJ dX6_countOf_38 rfl rfl ?_
      rw [gnle (by omega) (by omega)] at c11
      have e0 : i = l.length := by omega
      subst e0
      rw [List.take_length]
      exact j_iret hJ dX6_countOf_40 ⟨rfl, rfl⟩
    · rw [gnle (by omega) (by omega)] at c11
      have hil : i < l.length := by omega
      refine j_p (nx := 16) hJ dX6_countOf_14 rfl rfl ?_
      refine j_p (nx := 17) hJ dX6_countOf_16 rfl rfl ?_
      refine j_p (nx := 19) hJ dX6_countOf_17 rfl rfl ?_
      refine j_iald (j := p + i) (nx := 20) hJ dX6_countOf_19 rfl ha rfl (by omega) (by omega) ?_
      rw [hS.get hil]
      refine j_p (nx := 21) hJ dX6_countOf_20 rfl rfl ?_
      refine j_ic_ne (nx := 24) (tgt := 28) hJ dX6_countOf_21 rfl (by decide) (fun c21 => ?_) (fun c21 => ?_)
      · refine j_c (nx := 29) hJ dX6_countOf_28 rfl gk_iconst_0 ?_
        refine j_p (nx := 30) hJ dX6_countOf_29 rfl rfl ?_
        refine j_p (nx := 32) hJ dX6_countOf_30 rfl rfl ?_
        refine j_inc (nx := 35) hJ dX6_countOf_32 rfl rfl (gi1 _) rfl ?_
        refine j_go (tgt := 6) hJ dX6_countOf_35 (by decide) ?_
        have hr := ih hil
        rw [gcnt, gfold _ _ hil, if_neg c21] at hr
        rw [show gcnt x (l.take i) + 0 = gcnt x (l.take i) from Int32.add_zero _]
        exact hr
      · refine j_c (nx := 25) hJ dX6_countOf_24 rfl gk_iconst_1 ?_
        refine j_go (tgt := 29) hJ dX6_countOf_25 (by decide) ?_
        refine j_p (nx := 30) hJ dX6_countOf_29 rfl rfl ?_
        refine j_p (nx := 32) hJ dX6_countOf_30 rfl rfl ?_
        refine j_inc (nx := 35) hJ dX6_countOf_32 rfl rfl (gi1 _) rfl ?_
        refine j_go (tgt := 6) hJ dX6_countOf_35 (by decide) ?_
        have hr := ih hil
        rw [gcnt, gfold _ _ hil, if_pos c21] at hr
        exact hr
  refine j_c (nx := 1) hJ dX6_countOf_0 rfl gk_iconst_0 ?_
  refine j_p (nx := 3) hJ dX6_countOf_1 rfl rfl ?_
  refine j_p (nx := 4) hJ dX6_countOf_3 rfl rfl ?_
  refine j_p (nx := 6) hJ dX6_countOf_4 rfl rfl ?_
  exact loop 0 (Nat.zero_le _)
set_option maxHeartbeats 4000000 in
theorem r6_lettersIn {fl : Bool} {d : Nat} {h : GH} {a n9 p : Nat} {f : Nat → Int32} {l : List Int32} (ha : h a = some (gia n9 f)) (hS : gSt f p l) (hn : p + l.length ≤ n9) (hn9 : n9 ≤ 1000) : gR fl (d + 1) yX6_lettersIn [.ref a, .int (nI p), .int (nI l.length)] h (.int (gltr l)) := by
  refine gN.of MX6_lettersIn (Nat.le_of_ble_eq_true rfl) (fun J n hJ => ?_)
  show J 0 [some (.ref a), some (.int (nI p)), some (.int (nI l.length)), none, none] [] h (n, 0, 0, fl)
  have loop : ∀ i, i ≤ l.length → J 5 [some (.ref a), some (.int (nI p)), some (.int (nI l.length)), some (.int (gltr (l.take i))), some (.int (nI (p + i)))] [] h (n, 0, 0, fl) := by
    refine gloop _ _ (fun i hi ih => ?_)
    refine j_p (nx := 7) hJ dX6_lettersIn_5 rfl rfl ?_
    refine j_p (nx := 8) hJ dX6_lettersIn_7 rfl rfl ?_
    refine j_p (nx := 9) hJ dX6_lettersIn_8 rfl rfl ?_
    refine j_p (nx := 10) hJ dX6_lettersIn_9 rfl rfl ?_
    rw [gadd]
    refine j_ic_ge (nx := 13) (tgt := 36) hJ dX6_lettersIn_10 rfl (by decide) (fun c10 => ?_) (fun c10 => ?_)
    · refine j_p (nx := 37) hJ dX6_lettersIn_36 rfl rfl ?_
      rw [gnle (by omega) (by omega)] at c10
      have e0 : i = l.length := by omega
      subst e0
      rw [List.take_length]
      exact j_iret hJ dX6_lettersIn_37 ⟨rfl, rfl⟩
    · rw [gnle (by omega) (by omega)] at c10
      have hil : i < l.length := by omega
      refine j_p (nx := 14) hJ dX6_lettersIn_13 rfl rfl ?_
      refine j_p (nx := 15) hJ dX6_lettersIn_14 rfl rfl ?_
      refine j_p (nx := 17) hJ dX6_lettersIn_15 rfl rfl ?_
      refine j_iald (j := p + i) (nx := 18) hJ dX6_lettersIn_17 rfl ha rfl (by omega) (by omega) ?_
      rw [hS.get hil]
      refine j_c (nx := 20) hJ dX6_lettersIn_18 rfl gk_bipush_10 ?_
      refine j_ic_ge (nx := 23) (tgt := 27) hJ dX6_lettersIn_20 rfl (by decide) (fun c20 => ?_) (fun c20 => ?_)
      · refine j_c (nx := 28) hJ dX6_lettersIn_27 rfl gk_iconst_0 ?_
        refine j_p (nx := 29) hJ dX6_lettersIn_28 rfl rfl ?_
        refine j_p (nx := 30) hJ dX6_lettersIn_29 rfl rfl ?_
        refine j_inc (nx := 33) hJ dX6_lettersIn_30 rfl rfl (gi1 _) rfl ?_
        refine j_go (tgt := 5) hJ dX6_lettersIn_33 (by decide) ?_
        have hr := ih hil
        rw [gltr, gfold _ _ hil, if_pos c20] at hr
        rw [show gltr (l.take i) + 0 = gltr (l.take i) from Int32.add_zero _]
        exact hr
      · refine j_c (nx := 24) hJ dX6_lettersIn_23 rfl gk_iconst_1 ?_
        refine j_go (tgt := 28) hJ dX6_lettersIn_24 (by decide) ?_
        refine j_p (nx := 29) hJ dX6_lettersIn_28 rfl rfl ?_
        refine j_p (nx := 30) hJ dX6_lettersIn_29 rfl rfl ?_
        refine j_inc (nx := 33) hJ dX6_lettersIn_30 rfl rfl (gi1 _) rfl ?_
        refine j_go (tgt := 5) hJ dX6_lettersIn_33 (by decide) ?_
        have hr := ih hil
        rw [gltr, gfold _ _ hil, if_neg c20] at hr
        exact hr
  refine j_c (nx := 1) hJ dX6_lettersIn_0 rfl gk_iconst_0 ?_
  refine j_p (nx := 2) hJ dX6_lettersIn_1 rfl rfl ?_
  refine j_p (nx := 3) hJ dX6_lettersIn_2 rfl rfl ?_
  refine j_p (nx := 5) hJ dX6_lettersIn_3 rfl rfl ?_
  exact loop 0 (Nat.zero_le _)
def gvk (l : List Int32) : Nat → Nat
  | 0 => 0
  | i + 1 => gvk l i + (if 0 < l.count (nI (10 + i)) then 1 else 0)
theorem gvk_le (l : List Int32) : ∀ i, gvk l i ≤ i
  | 0 => Nat.le_refl _
  | i + 1 => by have := gvk_le l i; rw [gvk]; split <;> omega
theorem gvk_4 (l : List Int32) : gvk l 4 = gvc l := by
  unfold gvc
  show 0 + _ + _ + _ + _ = _
  rw [Nat.zero_add]; rfl
set_option maxHeartbeats 4000000 in
theorem r6_variablesIn {fl : Bool} {d : Nat} {h : GH} {a n9 p : Nat} {f : Nat → Int32} {l : List Int32} (ha : h a = some (gia n9 f)) (hS : gSt f p l) (hn : p + l.length ≤ n9) (hn9 : n9 ≤ 1000) : gR fl (d + 2) yX6_variablesIn [.ref a, .int (nI p), .int (nI l.length)] h (.int (nI (gvc l))) := by
  refine gN.of MX6_variablesIn (Nat.le_of_ble_eq_true rfl) (fun J n hJ => ?_)
  show J 0 [some (.ref a), some (.int (nI p)), some (.int (nI l.length)), none, none] [] h (n, 0, 0, fl)
  have loop : ∀ i, i ≤ 4 → J 6 [some (.ref a), some (.int (nI p)), some (.int (nI l.length)), some (.int (nI (gvk l i))), some (.int (nI (10 + i)))] [] h (n, 0, 0, fl) := by
    refine gloop _ _ (fun i hi ih => ?_)
    refine j_p (nx := 8) hJ dX6_variablesIn_6 rfl rfl ?_
    refine j_c (nx := 10) hJ dX6_variablesIn_8 rfl gk_bipush_14 ?_
    refine j_ic_ge (nx := 13) (tgt := 38) hJ dX6_variablesIn_10 rfl (by decide) (fun c10 => ?_) (fun c10 => ?_)
    · refine j_p (nx := 39) hJ dX6_variablesIn_38 rfl rfl ?_
      rw [show (14 : Int32) = nI 14 from rfl, gnle (by omega) (by omega)] at c10
      have e0 : i = 4 := by omega
      subst e0
      rw [gvk_4]
      exact j_iret hJ dX6_variablesIn_39 ⟨rfl, rfl⟩
    · rw [show (14 : Int32) = nI 14 from rfl, gnle (by omega) (by omega)] at c10
      have hil : i < 4 := by omega
      refine j_p (nx := 14) hJ dX6_variablesIn_13 rfl rfl ?_
      refine j_p (nx := 16) hJ dX6_variablesIn_14 rfl rfl ?_
      refine j_p (nx := 17) hJ dX6_variablesIn_16 rfl rfl ?_
      refine j_p (nx := 18) hJ dX6_variablesIn_17 rfl rfl ?_
      refine j_p (nx := 19) hJ dX6_variablesIn_18 rfl rfl ?_
      refine j_csR (nx := 22) hJ dX6_variablesIn_19 rfl (r6_countOf (fl := fl) (d := d) ha hS hn hn9 (nI (10 + i))) mX6_146 rfl (gle8 rfl) ?_
      rw [gcnt_nat]
      refine j_if_le (nx := 25) (tgt := 29) hJ dX6_variablesIn_22 rfl (by decide) (fun c22 => ?_) (fun c22 => ?_)
      · refine j_c (nx := 30) hJ dX6_variablesIn_29 rfl gk_iconst_0 ?_
        rw [Int32.le_iff_toInt_le, Int32.toInt_zero, nI_toInt (by have := List.count_le_length (a := nI (10 + i)) (l := l); omega)] at c22
        have hc : ¬ 0 < l.count (nI (10 + i)) := by omega
        refine j_p (nx := 31) hJ dX6_variablesIn_30 rfl rfl ?_
        rw [show nI (gvk l i) + 0 = nI (gvk l (i + 1)) from by rw [show gvk l (i + 1) = gvk l i from by rw [gvk, if_neg hc]; rfl]; exact Int32.add_zero _]
        refine j_p (nx := 32) hJ dX6_variablesIn_31 rfl rfl ?_
        refine j_inc (nx := 35) hJ dX6_variablesIn_32 rfl rfl (gi1 _) rfl ?_
        refine j_go (tgt := 6) hJ dX6_variablesIn_35 (by decide) ?_
        exact ih hil
      · refine j_c (nx := 26) hJ dX6_variablesIn_25 rfl gk_iconst_1 ?_
        refine j_go (tgt := 30) hJ dX6_variablesIn_26 (by decide) ?_
        rw [Int32.le_iff_toInt_le, Int32.toInt_zero, nI_toInt (by have := List.count_le_length (a := nI (10 + i)) (l := l); omega)] at c22
        have hc : 0 < l.count (nI (10 + i)) := by omega
        refine j_p (nx := 31) hJ dX6_variablesIn_30 rfl rfl ?_
        rw [show nI (gvk l i) + 1 = nI (gvk l (i + 1)) from by rw [show gvk l (i + 1) = gvk l i + 1 from by rw [gvk, if_pos hc]]; exact (nI_succ _).symm]
        refine j_p (nx := 32) hJ dX6_variablesIn_31 rfl rfl ?_
        refine j_inc (nx := 35) hJ dX6_variablesIn_32 rfl rfl (gi1 _) rfl ?_
        refine j_go (tgt := 6) hJ dX6_variablesIn_35 (by decide) ?_
        exact ih hil
  refine j_c (nx := 1) hJ dX6_variablesIn_0 rfl gk_iconst_0 ?_
  refine j_p (nx := 2) hJ dX6_variablesIn_1 rfl rfl ?_
  refine j_c (nx := 4) hJ dX6_variablesIn_2 rfl gk_bipush_10 ?_
  refine j_p (nx := 6) hJ dX6_variablesIn_4 rfl rfl ?_
  exact loop 0 (Nat.zero_le _)
