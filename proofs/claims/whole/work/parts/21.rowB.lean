theorem gloop (P : Nat → Prop) (N : Nat) (h : ∀ k, k ≤ N → (k < N → P (k + 1)) → P k) : ∀ k, k ≤ N → P k := by
  have key : ∀ m k, k + m = N → P k := by
    intro m
    induction m with
    | zero => intro k hk; exact h k (by omega) (fun q => by omega)
    | succ m ih => intro k hk; exact h k (by omega) (fun _ => ih (k + 1) (by omega))
  exact fun k hk => key (N - k) k (by omega)
theorem gone (x : Int32) : x + Int32.ofInt 1 = x + 1 := rfl
theorem gfold {α : Type} (g : α → Int32 → α) (a : α) {l : List Int32} {k : Nat} (hk : k < l.length) : (l.take (k + 1)).foldl g a = g ((l.take k).foldl g a) (l.getD k (-1)) := by
  have h1 : l[k]? = some l[k] := List.getElem?_eq_getElem hk
  rw [List.take_succ, h1, List.foldl_append, List.getD_eq_getElem?_getD, h1]
  rfl
def gcnt (x : Int32) (l : List Int32) : Int32 := l.foldl (fun a y => if y = x then a + 1 else a) 0
def gltr (l : List Int32) : Int32 := l.foldl (fun a y => if 10 ≤ y then a else a + 1) 0
def gvar (l : List Int32) : Int32 := l.foldl (fun a y => if a < y - 10 + 1 then y - 10 + 1 else a) 0
def gwc (l : List Int32) : Int64 × Int64 := l.foldl (fun p y => (p.1 + (y + 1).toInt64 * p.2, p.2 * 4)) (0, 1)
def gmapTo (g : Int32 → Int32) (l : List Int32) (k : Nat) : List Int32 := (l.take k).map g ++ l.drop k
theorem gmapTo_0 (g : Int32 → Int32) (l : List Int32) : gmapTo g l 0 = l := by simp [gmapTo]
theorem gmapTo_all (g : Int32 → Int32) (l : List Int32) : gmapTo g l l.length = l.map g := by simp [gmapTo]
theorem gmapTo_len (g : Int32 → Int32) (l : List Int32) (k : Nat) : (gmapTo g l k).length = l.length := by
  simp [gmapTo]; omega
theorem gmapTo_get (g : Int32 → Int32) {l : List Int32} {k : Nat} (hk : k < l.length) : (gmapTo g l k).getD k (-1) = l.getD k (-1) := by
  unfold gmapTo
  have hl : ((l.take k).map g).length = k := by simp; omega
  rw [List.getD_eq_getElem?_getD, List.getElem?_append_right (by omega), hl, Nat.sub_self, List.getElem?_drop, Nat.add_zero, List.getD_eq_getElem?_getD]
theorem gmapTo_set (g : Int32 → Int32) {l : List Int32} {k : Nat} (hk : k < l.length) : (gmapTo g l k).set k (g (l.getD k (-1))) = gmapTo g l (k + 1) := by
  unfold gmapTo
  have hl : ((l.take k).map g).length = k := by simp; omega
  have h1 : l[k]? = some l[k] := List.getElem?_eq_getElem hk
  rw [List.set_append_right (h := by omega), hl, Nat.sub_self, List.take_succ, h1, List.map_append, List.getD_eq_getElem?_getD, h1]
  simp
  rw [List.drop_eq_getElem_cons hk]
  rfl
theorem gmapTo_keep (g : Int32 → Int32) {l : List Int32} {k : Nat} (hk : k < l.length) (he : g (l.getD k (-1)) = l.getD k (-1)) : gmapTo g l k = gmapTo g l (k + 1) := by
  rw [← gmapTo_set g hk, he, ← gmapTo_get g hk]
  have hlt : k < (gmapTo g l k).length := by rw [gmapTo_len]; exact hk
  have h1 : (gmapTo g l k)[k]? = some (gmapTo g l k)[k] := List.getElem?_eq_getElem hlt
  rw [List.getD_eq_getElem?_getD, h1]
  simp
set_option maxHeartbeats 2000000 in
theorem r_countOf {fl : Bool} {d : Nat} {h : GH} {r q cap : Nat} {l : List Int32} (hR : gRow h r q cap l) (x : Int32) : gR fl (d + 2) yX2_countOf [.ref r, .int x] h (.int (gcnt x l)) := by
  obtain ⟨hrq, hlc, hcap, hr, f, hq, hf⟩ := id hR
  refine gN.of MX2_countOf (Nat.le_of_ble_eq_true rfl) (fun J n hJ => ?_)
  show J 0 [some (.ref r), some (.int x), none, none] [] h (n, 0, 0, fl)
  have loop : ∀ k, k ≤ l.length → J 4 [some (.ref r), some (.int x), some (.int (gcnt x (l.take (k)))), some (.int (nI (k)))] [] h (n, 0, 0, fl) := by
    refine gloop _ _ (fun k hk ih => ?_)
    refine j_p (nx := 5) hJ dX2_countOf_4 rfl rfl ?_
    refine j_p (nx := 6) hJ dX2_countOf_5 rfl rfl ?_
    refine j_get (nx := 9) hJ dX2_countOf_6 rfl fX2_9 (by assumption) (by rfl) ?_
    refine j_ic_ge (nx := 12) (tgt := 30) hJ dX2_countOf_9 rfl (by decide) (fun c9 => ?_) (fun c9 => ?_)
    · refine j_p (nx := 31) hJ dX2_countOf_30 rfl rfl ?_
      rw [gnle (by omega) (by omega)] at c9
      have e0 : k = l.length := by omega
      subst e0
      rw [List.take_length]
      exact j_iret hJ dX2_countOf_31 ⟨rfl, rfl⟩
    · rw [gnle (by omega) (by omega)] at c9
      have hkl : k < l.length := by omega
      refine j_p (nx := 13) hJ dX2_countOf_12 rfl rfl ?_
      refine j_p (nx := 14) hJ dX2_countOf_13 rfl rfl ?_
      refine j_cvR (nx := 17) hJ dX2_countOf_14 rfl (r_at (fl := fl) (d := d) hR (nI k)) mX2_29 (by assumption) kX2_at rfl (gle8 rfl) ?_
      rw [gat_nI (by omega)]
      refine j_p (nx := 18) hJ dX2_countOf_17 rfl rfl ?_
      refine j_ic_ne (nx := 21) (tgt := 24) hJ dX2_countOf_18 rfl (by decide) (fun c18 => ?_) (fun c18 => ?_)
      · refine j_inc (nx := 27) hJ dX2_countOf_24 rfl rfl (gi1 k) rfl ?_
        refine j_go (tgt := 4) hJ dX2_countOf_27 (by decide) ?_
        have ih1 := ih hkl
        first | rw [gcnt, gfold _ _ hkl, if_pos c18] at ih1 | rw [gcnt, gfold _ _ hkl, if_neg c18] at ih1
        exact ih1
      · refine j_inc (nx := 24) hJ dX2_countOf_21 rfl rfl (gone _) rfl ?_
        refine j_inc (nx := 27) hJ dX2_countOf_24 rfl rfl (gi1 k) rfl ?_
        refine j_go (tgt := 4) hJ dX2_countOf_27 (by decide) ?_
        have ih1 := ih hkl
        first | rw [gcnt, gfold _ _ hkl, if_pos c18] at ih1 | rw [gcnt, gfold _ _ hkl, if_neg c18] at ih1
        exact ih1
  refine j_c (nx := 1) hJ dX2_countOf_0 rfl gk_iconst_0 ?_
  refine j_p (nx := 2) hJ dX2_countOf_1 rfl rfl ?_
  refine j_c (nx := 3) hJ dX2_countOf_2 rfl gk_iconst_0 ?_
  refine j_p (nx := 4) hJ dX2_countOf_3 rfl rfl ?_
  exact loop 0 (Nat.zero_le _)
set_option maxHeartbeats 2000000 in
theorem r_letterCount {fl : Bool} {d : Nat} {h : GH} {r q cap : Nat} {l : List Int32} (hR : gRow h r q cap l) : gR fl (d + 2) yX2_letterCount [.ref r] h (.int (gltr l)) := by
  obtain ⟨hrq, hlc, hcap, hr, f, hq, hf⟩ := id hR
  refine gN.of MX2_letterCount (Nat.le_of_ble_eq_true rfl) (fun J n hJ => ?_)
  show J 0 [some (.ref r), none, none] [] h (n, 0, 0, fl)
  have loop : ∀ k, k ≤ l.length → J 4 [some (.ref r), some (.int (gltr (l.take (k)))), some (.int (nI (k)))] [] h (n, 0, 0, fl) := by
    refine gloop _ _ (fun k hk ih => ?_)
    refine j_p (nx := 5) hJ dX2_letterCount_4 rfl rfl ?_
    refine j_p (nx := 6) hJ dX2_letterCount_5 rfl rfl ?_
    refine j_get (nx := 9) hJ dX2_letterCount_6 rfl fX2_9 (by assumption) (by rfl) ?_
    refine j_ic_ge (nx := 12) (tgt := 31) hJ dX2_letterCount_9 rfl (by decide) (fun c9 => ?_) (fun c9 => ?_)
    · refine j_p (nx := 32) hJ dX2_letterCount_31 rfl rfl ?_
      rw [gnle (by omega) (by omega)] at c9
      have e0 : k = l.length := by omega
      subst e0
      rw [List.take_length]
      exact j_iret hJ dX2_letterCount_32 ⟨rfl, rfl⟩
    · rw [gnle (by omega) (by omega)] at c9
      have hkl : k < l.length := by omega
      refine j_p (nx := 13) hJ dX2_letterCount_12 rfl rfl ?_
      refine j_p (nx := 14) hJ dX2_letterCount_13 rfl rfl ?_
      refine j_cvR (nx := 17) hJ dX2_letterCount_14 rfl (r_at (fl := fl) (d := d) hR (nI k)) mX2_29 (by assumption) kX2_at rfl (gle8 rfl) ?_
      rw [gat_nI (by omega)]
      refine j_c (nx := 19) hJ dX2_letterCount_17 rfl gk_bipush_10 ?_
      refine j_ic_ge (nx := 22) (tgt := 25) hJ dX2_letterCount_19 rfl (by decide) (fun c19 => ?_) (fun c19 => ?_)
      · refine j_inc (nx := 28) hJ dX2_letterCount_25 rfl rfl (gi1 k) rfl ?_
        refine j_go (tgt := 4) hJ dX2_letterCount_28 (by decide) ?_
        have ih1 := ih hkl
        first | rw [gltr, gfold _ _ hkl, if_pos c19] at ih1 | rw [gltr, gfold _ _ hkl, if_neg c19] at ih1
        exact ih1
      · refine j_inc (nx := 25) hJ dX2_letterCount_22 rfl rfl (gone _) rfl ?_
        refine j_inc (nx := 28) hJ dX2_letterCount_25 rfl rfl (gi1 k) rfl ?_
        refine j_go (tgt := 4) hJ dX2_letterCount_28 (by decide) ?_
        have ih1 := ih hkl
        first | rw [gltr, gfold _ _ hkl, if_pos c19] at ih1 | rw [gltr, gfold _ _ hkl, if_neg c19] at ih1
        exact ih1
  refine j_c (nx := 1) hJ dX2_letterCount_0 rfl gk_iconst_0 ?_
  refine j_p (nx := 2) hJ dX2_letterCount_1 rfl rfl ?_
  refine j_c (nx := 3) hJ dX2_letterCount_2 rfl gk_iconst_0 ?_
  refine j_p (nx := 4) hJ dX2_letterCount_3 rfl rfl ?_
  exact loop 0 (Nat.zero_le _)
set_option maxHeartbeats 2000000 in
theorem r_variablesIn {fl : Bool} {d : Nat} {h : GH} {r q cap : Nat} {l : List Int32} (hR : gRow h r q cap l) : gR fl (d + 2) yX2_variablesIn [.ref r] h (.int (gvar l)) := by
  obtain ⟨hrq, hlc, hcap, hr, f, hq, hf⟩ := id hR
  refine gN.of MX2_variablesIn (Nat.le_of_ble_eq_true rfl) (fun J n hJ => ?_)
  show J 0 [some (.ref r), none, none] [] h (n, 0, 0, fl)
  have loop : ∀ k, k ≤ l.length → J 4 [some (.ref r), some (.int (gvar (l.take (k)))), some (.int (nI (k)))] [] h (n, 0, 0, fl) := by
    refine gloop _ _ (fun k hk ih => ?_)
    refine j_p (nx := 5) hJ dX2_variablesIn_4 rfl rfl ?_
    refine j_p (nx := 6) hJ dX2_variablesIn_5 rfl rfl ?_
    refine j_get (nx := 9) hJ dX2_variablesIn_6 rfl fX2_9 (by assumption) (by rfl) ?_
    refine j_ic_ge (nx := 12) (tgt := 33) hJ dX2_variablesIn_9 rfl (by decide) (fun c9 => ?_) (fun c9 => ?_)
    · refine j_p (nx := 34) hJ dX2_variablesIn_33 rfl rfl ?_
      rw [gnle (by omega) (by omega)] at c9
      have e0 : k = l.length := by omega
      subst e0
      rw [List.take_length]
      exact j_iret hJ dX2_variablesIn_34 ⟨rfl, rfl⟩
    · rw [gnle (by omega) (by omega)] at c9
      have hkl : k < l.length := by omega
      refine j_p (nx := 13) hJ dX2_variablesIn_12 rfl rfl ?_
      refine j_p (nx := 14) hJ dX2_variablesIn_13 rfl rfl ?_
      refine j_p (nx := 15) hJ dX2_variablesIn_14 rfl rfl ?_
      refine j_cvR (nx := 18) hJ dX2_variablesIn_15 rfl (r_at (fl := fl) (d := d) hR (nI k)) mX2_29 (by assumption) kX2_at rfl (gle8 rfl) ?_
      rw [gat_nI (by omega)]
      refine j_c (nx := 20) hJ dX2_variablesIn_18 rfl gk_bipush_10 ?_
      refine j_p (nx := 21) hJ dX2_variablesIn_20 rfl rfl ?_
      refine j_c (nx := 22) hJ dX2_variablesIn_21 rfl gk_iconst_1 ?_
      refine j_p (nx := 23) hJ dX2_variablesIn_22 rfl rfl ?_
      refine j_max (nx := 26) hJ dX2_variablesIn_23 rfl mX2_15 (gle8 rfl) ?_
      refine j_p (nx := 27) hJ dX2_variablesIn_26 rfl rfl ?_
      refine j_inc (nx := 30) hJ dX2_variablesIn_27 rfl rfl (gi1 k) rfl ?_
      refine j_go (tgt := 4) hJ dX2_variablesIn_30 (by decide) ?_
      have ih1 := ih hkl
      rw [gvar, gfold _ _ hkl] at ih1
      exact ih1
  refine j_c (nx := 1) hJ dX2_variablesIn_0 rfl gk_iconst_0 ?_
  refine j_p (nx := 2) hJ dX2_variablesIn_1 rfl rfl ?_
  refine j_c (nx := 3) hJ dX2_variablesIn_2 rfl gk_iconst_0 ?_
  refine j_p (nx := 4) hJ dX2_variablesIn_3 rfl rfl ?_
  exact loop 0 (Nat.zero_le _)
set_option maxHeartbeats 2000000 in
theorem r_wordCode {fl : Bool} {d : Nat} {h : GH} {r q cap : Nat} {l : List Int32} (hR : gRow h r q cap l) : gR fl (d + 2) yX2_wordCode [.ref r] h (.long (gwc l).1) := by
  obtain ⟨hrq, hlc, hcap, hr, f, hq, hf⟩ := id hR
  refine gN.of MX2_wordCode (Nat.le_of_ble_eq_true rfl) (fun J n hJ => ?_)
  show J 0 [some (.ref r), none, none, none, none, none] [] h (n, 0, 0, fl)
  have loop : ∀ k, k ≤ l.length → J 7 [some (.ref r), some (.long (gwc (l.take (k))).1), none, some (.long (gwc (l.take (k))).2), none, some (.int (nI (k)))] [] h (n, 0, 0, fl) := by
    refine gloop _ _ (fun k hk ih => ?_)
    refine j_p (nx := 9) hJ dX2_wordCode_7 rfl rfl ?_
    refine j_p (nx := 10) hJ dX2_wordCode_9 rfl rfl ?_
    refine j_get (nx := 13) hJ dX2_wordCode_10 rfl fX2_9 (by assumption) (by rfl) ?_
    refine j_ic_ge (nx := 16) (tgt := 42) hJ dX2_wordCode_13 rfl (by decide) (fun c13 => ?_) (fun c13 => ?_)
    · refine j_p (nx := 43) hJ dX2_wordCode_42 rfl rfl ?_
      rw [gnle (by omega) (by omega)] at c13
      have e0 : k = l.length := by omega
      subst e0
      rw [List.take_length]
      exact j_lret hJ dX2_wordCode_43 ⟨rfl, rfl⟩
    · rw [gnle (by omega) (by omega)] at c13
      have hkl : k < l.length := by omega
      refine j_p (nx := 17) hJ dX2_wordCode_16 rfl rfl ?_
      refine j_p (nx := 18) hJ dX2_wordCode_17 rfl rfl ?_
      refine j_p (nx := 20) hJ dX2_wordCode_18 rfl rfl ?_
      refine j_cvR (nx := 23) hJ dX2_wordCode_20 rfl (r_at (fl := fl) (d := d) hR (nI k)) mX2_29 (by assumption) kX2_at rfl (gle8 rfl) ?_
      rw [gat_nI (by omega)]
      refine j_c (nx := 24) hJ dX2_wordCode_23 rfl gk_iconst_1 ?_
      refine j_p (nx := 25) hJ dX2_wordCode_24 rfl rfl ?_
      refine j_p (nx := 26) hJ dX2_wordCode_25 rfl rfl ?_
      refine j_p (nx := 27) hJ dX2_wordCode_26 rfl rfl ?_
      refine j_p (nx := 28) hJ dX2_wordCode_27 rfl rfl ?_
      refine j_p (nx := 29) hJ dX2_wordCode_28 rfl rfl ?_
      refine j_p (nx := 30) hJ dX2_wordCode_29 rfl rfl ?_
      refine j_p (nx := 31) hJ dX2_wordCode_30 rfl rfl ?_
      refine j_ldc2 (nx := 34) hJ dX2_wordCode_31 rfl qX2_49 ?_
      refine j_p (nx := 35) hJ dX2_wordCode_34 rfl rfl ?_
      refine j_p (nx := 36) hJ dX2_wordCode_35 rfl rfl ?_
      refine j_inc (nx := 39) hJ dX2_wordCode_36 rfl rfl (gi1 k) rfl ?_
      refine j_go (tgt := 7) hJ dX2_wordCode_39 (by decide) ?_
      have ih1 := ih hkl
      rw [gwc, gfold _ _ hkl] at ih1
      exact ih1
  refine j_lc (nx := 1) (v := 0) hJ dX2_wordCode_0 rfl (by decide) ?_
  refine j_p (nx := 2) hJ dX2_wordCode_1 rfl rfl ?_
  refine j_lc (nx := 3) (v := 1) hJ dX2_wordCode_2 rfl (by decide) ?_
  refine j_p (nx := 4) hJ dX2_wordCode_3 rfl rfl ?_
  refine j_c (nx := 5) hJ dX2_wordCode_4 rfl gk_iconst_0 ?_
  refine j_p (nx := 7) hJ dX2_wordCode_5 rfl rfl ?_
  exact loop 0 (Nat.zero_le _)
set_option maxHeartbeats 2000000 in
theorem r_putForCodes {fl : Bool} {d : Nat} {h : GH} {r q cap : Nat} {l : List Int32} (hR : gRow h r q cap l) (lo hi c : Int32) : gN fl (d + 3) yX2_putForCodes [.ref r, .int lo, .int hi, .int c] h (fun o h' => o = none ∧ gRow h' r q cap (l.map (fun y => if lo ≤ y ∧ y ≤ hi then c else y)) ∧ gFr r q h h') := by
  obtain ⟨hrq, hlc, hcap, hr, f, hq, hf⟩ := id hR
  refine gN.of MX2_putForCodes (Nat.le_of_ble_eq_true rfl) (fun J n hJ => ?_)
  show J 0 [some (.ref r), some (.int lo), some (.int hi), some (.int c), none] [] h (n, 0, 0, fl)
  have loop : ∀ k, k ≤ l.length → ∀ h1, gRow h1 r q cap (gmapTo (fun y => if lo ≤ y ∧ y ≤ hi then c else y) l k) → gFr r q h h1 → J 3 [some (.ref r), some (.int lo), some (.int hi), some (.int c), some (.int (nI k))] [] h1 (n, 0, 0, fl) := by
    refine gloop _ _ (fun k hk ih h1 hR1 hF1 => ?_)
    obtain ⟨hrq1, hlc1, hcap1, hr1, f1, hq1, hf1⟩ := id hR1
    refine j_p (nx := 5) hJ dX2_putForCodes_3 rfl rfl ?_
    refine j_p (nx := 6) hJ dX2_putForCodes_5 rfl rfl ?_
    refine j_get (nx := 9) hJ dX2_putForCodes_6 rfl fX2_9 (by assumption) (by rfl) ?_
    refine j_ic_ge (nx := 12) (tgt := 45) hJ dX2_putForCodes_9 rfl (by decide) (fun c9 => ?_) (fun c9 => ?_)
    · rw [gmapTo_len, gnle (by omega) (by omega)] at c9
      have e0 : k = l.length := by omega
      subst e0
      rw [gmapTo_all] at hR1
      exact j_vret hJ dX2_putForCodes_45 ⟨rfl, hR1, hF1⟩
    · rw [gmapTo_len, gnle (by omega) (by omega)] at c9
      have hkl : k < l.length := by omega
      refine j_p (nx := 13) hJ dX2_putForCodes_12 rfl rfl ?_
      refine j_p (nx := 15) hJ dX2_putForCodes_13 rfl rfl ?_
      refine j_cvR (nx := 18) hJ dX2_putForCodes_15 rfl (r_at (fl := fl) (d := d + 1) hR1 (nI k)) mX2_29 (by assumption) kX2_at rfl (gle8 rfl) ?_
      rw [gat_nI (by omega), gmapTo_get _ hkl]
      refine j_p (nx := 19) hJ dX2_putForCodes_18 rfl rfl ?_
      refine j_ic_lt (nx := 22) (tgt := 39) hJ dX2_putForCodes_19 rfl (by decide) (fun c19 => ?_) (fun c19 => ?_)
      · rw [gmapTo_keep (fun y => if lo ≤ y ∧ y ≤ hi then c else y) hkl (if_neg (by first | exact fun q => absurd c19 (Int32.not_lt.mpr q.1) | exact fun q => absurd c29 (Int32.not_lt.mpr q.2)))] at hR1
        refine j_inc (nx := 42) hJ dX2_putForCodes_39 rfl rfl (gi1 k) rfl ?_
        refine j_go (tgt := 3) hJ dX2_putForCodes_42 (by decide) ?_
        exact ih hkl h1 hR1 hF1
      · refine j_p (nx := 23) hJ dX2_putForCodes_22 rfl rfl ?_
        refine j_p (nx := 25) hJ dX2_putForCodes_23 rfl rfl ?_
        refine j_cvR (nx := 28) hJ dX2_putForCodes_25 rfl (r_at (fl := fl) (d := d + 1) hR1 (nI k)) mX2_29 (by assumption) kX2_at rfl (gle8 rfl) ?_
        rw [gat_nI (by omega), gmapTo_get _ hkl]
        refine j_p (nx := 29) hJ dX2_putForCodes_28 rfl rfl ?_
        refine j_ic_gt (nx := 32) (tgt := 39) hJ dX2_putForCodes_29 rfl (by decide) (fun c29 => ?_) (fun c29 => ?_)
        · rw [gmapTo_keep (fun y => if lo ≤ y ∧ y ≤ hi then c else y) hkl (if_neg (by first | exact fun q => absurd c19 (Int32.not_lt.mpr q.1) | exact fun q => absurd c29 (Int32.not_lt.mpr q.2)))] at hR1
          refine j_inc (nx := 42) hJ dX2_putForCodes_39 rfl rfl (gi1 k) rfl ?_
          refine j_go (tgt := 3) hJ dX2_putForCodes_42 (by decide) ?_
          exact ih hkl h1 hR1 hF1
        · refine j_p (nx := 33) hJ dX2_putForCodes_32 rfl rfl ?_
          refine j_p (nx := 35) hJ dX2_putForCodes_33 rfl rfl ?_
          refine j_p (nx := 36) hJ dX2_putForCodes_35 rfl rfl ?_
          refine j_cv (nx := 39) hJ dX2_putForCodes_36 rfl (r_put (fl := fl) (d := d) hR1 (j := k) (by omega) c) mX2_42 (by assumption) kX2_put rfl (gle8 rfl) (fun o h2 hp => ?_)
          obtain ⟨rfl, hR2, hF2⟩ := hp
          have e9 : (gmapTo (fun y => if lo ≤ y ∧ y ≤ hi then c else y) l k).set k c = gmapTo (fun y => if lo ≤ y ∧ y ≤ hi then c else y) l (k + 1) := by
            rw [← gmapTo_set _ hkl]
            rw [if_pos ⟨Int32.not_lt.mp c19, Int32.not_lt.mp c29⟩]
          rw [e9] at hR2
          refine j_inc (nx := 42) hJ dX2_putForCodes_39 rfl rfl (gi1 k) rfl ?_
          refine j_go (tgt := 3) hJ dX2_putForCodes_42 (by decide) ?_
          exact ih hkl h2 hR2 (hF1.tr hF2)
  refine j_c (nx := 1) hJ dX2_putForCodes_0 rfl gk_iconst_0 ?_
  refine j_p (nx := 3) hJ dX2_putForCodes_1 rfl rfl ?_
  exact loop 0 (Nat.zero_le _) h (by rw [gmapTo_0]; exact hR) gFr.rf
set_option maxHeartbeats 2000000 in
theorem r_exchange {fl : Bool} {d : Nat} {h : GH} {r q cap : Nat} {l : List Int32} (hR : gRow h r q cap l) (x z : Int32) : gN fl (d + 3) yX2_exchange [.ref r, .int x, .int z] h (fun o h' => o = none ∧ gRow h' r q cap (l.map (fun y => if y = x then z else if y = z then x else y)) ∧ gFr r q h h') := by
  obtain ⟨hrq, hlc, hcap, hr, f, hq, hf⟩ := id hR
  refine gN.of MX2_exchange (Nat.le_of_ble_eq_true rfl) (fun J n hJ => ?_)
  show J 0 [some (.ref r), some (.int x), some (.int z), none] [] h (n, 0, 0, fl)
  have loop : ∀ k, k ≤ l.length → ∀ h1, gRow h1 r q cap (gmapTo (fun y => if y = x then z else if y = z then x else y) l k) → gFr r q h h1 → J 2 [some (.ref r), some (.int x), some (.int z), some (.int (nI k))] [] h1 (n, 0, 0, fl) := by
    refine gloop _ _ (fun k hk ih h1 hR1 hF1 => ?_)
    obtain ⟨hrq1, hlc1, hcap1, hr1, f1, hq1, hf1⟩ := id hR1
    refine j_p (nx := 3) hJ dX2_exchange_2 rfl rfl ?_
    refine j_p (nx := 4) hJ dX2_exchange_3 rfl rfl ?_
    refine j_get (nx := 7) hJ dX2_exchange_4 rfl fX2_9 (by assumption) (by rfl) ?_
    refine j_ic_ge (nx := 10) (tgt := 49) hJ dX2_exchange_7 rfl (by decide) (fun c7 => ?_) (fun c7 => ?_)
    · rw [gmapTo_len, gnle (by omega) (by omega)] at c7
      have e0 : k = l.length := by omega
      subst e0
      rw [gmapTo_all] at hR1
      exact j_vret hJ dX2_exchange_49 ⟨rfl, hR1, hF1⟩
    · rw [gmapTo_len, gnle (by omega) (by omega)] at c7
      have hkl : k < l.length := by omega
      refine j_p (nx := 11) hJ dX2_exchange_10 rfl rfl ?_
      refine j_p (nx := 12) hJ dX2_exchange_11 rfl rfl ?_
      refine j_cvR (nx := 15) hJ dX2_exchange_12 rfl (r_at (fl := fl) (d := d + 1) hR1 (nI k)) mX2_29 (by assumption) kX2_at rfl (gle8 rfl) ?_
      rw [gat_nI (by omega), gmapTo_get _ hkl]
      refine j_p (nx := 16) hJ dX2_exchange_15 rfl rfl ?_
      refine j_ic_ne (nx := 19) (tgt := 28) hJ dX2_exchange_16 rfl (by decide) (fun c16 => ?_) (fun c16 => ?_)
      · refine j_p (nx := 29) hJ dX2_exchange_28 rfl rfl ?_
        refine j_p (nx := 30) hJ dX2_exchange_29 rfl rfl ?_
        refine j_cvR (nx := 33) hJ dX2_exchange_30 rfl (r_at (fl := fl) (d := d + 1) hR1 (nI k)) mX2_29 (by assumption) kX2_at rfl (gle8 rfl) ?_
        rw [gat_nI (by omega), gmapTo_get _ hkl]
        refine j_p (nx := 34) hJ dX2_exchange_33 rfl rfl ?_
        refine j_ic_ne (nx := 37) (tgt := 43) hJ dX2_exchange_34 rfl (by decide) (fun c34 => ?_) (fun c34 => ?_)
        · rw [gmapTo_keep (fun y => if y = x then z else if y = z then x else y) hkl (by rw [if_neg c16, if_neg c34])] at hR1
          refine j_inc (nx := 46) hJ dX2_exchange_43 rfl rfl (gi1 k) rfl ?_
          refine j_go (tgt := 2) hJ dX2_exchange_46 (by decide) ?_
          exact ih hkl h1 hR1 hF1
        · refine j_p (nx := 38) hJ dX2_exchange_37 rfl rfl ?_
          refine j_p (nx := 39) hJ dX2_exchange_38 rfl rfl ?_
          refine j_p (nx := 40) hJ dX2_exchange_39 rfl rfl ?_
          refine j_cv (nx := 43) hJ dX2_exchange_40 rfl (r_put (fl := fl) (d := d) hR1 (j := k) (by omega) x) mX2_42 (by assumption) kX2_put rfl (gle8 rfl) (fun o h2 hp => ?_)
          obtain ⟨rfl, hR2, hF2⟩ := hp
          have e9 : (gmapTo (fun y => if y = x then z else if y = z then x else y) l k).set k x = gmapTo (fun y => if y = x then z else if y = z then x else y) l (k + 1) := by
            rw [← gmapTo_set _ hkl]
            rw [if_neg c16, if_pos c34]
          rw [e9] at hR2
          refine j_inc (nx := 46) hJ dX2_exchange_43 rfl rfl (gi1 k) rfl ?_
          refine j_go (tgt := 2) hJ dX2_exchange_46 (by decide) ?_
          exact ih hkl h2 hR2 (hF1.tr hF2)
      · refine j_p (nx := 20) hJ dX2_exchange_19 rfl rfl ?_
        refine j_p (nx := 21) hJ dX2_exchange_20 rfl rfl ?_
        refine j_p (nx := 22) hJ dX2_exchange_21 rfl rfl ?_
        refine j_cv (nx := 25) hJ dX2_exchange_22 rfl (r_put (fl := fl) (d := d) hR1 (j := k) (by omega) z) mX2_42 (by assumption) kX2_put rfl (gle8 rfl) (fun o h2 hp => ?_)
        obtain ⟨rfl, hR2, hF2⟩ := hp
        have e9 : (gmapTo (fun y => if y = x then z else if y = z then x else y) l k).set k z = gmapTo (fun y => if y = x then z else if y = z then x else y) l (k + 1) := by
          rw [← gmapTo_set _ hkl]
          rw [if_pos c16]
        rw [e9] at hR2
        refine j_go (tgt := 43) hJ dX2_exchange_25 (by decide) ?_
        refine j_inc (nx := 46) hJ dX2_exchange_43 rfl rfl (gi1 k) rfl ?_
        refine j_go (tgt := 2) hJ dX2_exchange_46 (by decide) ?_
        exact ih hkl h2 hR2 (hF1.tr hF2)
  refine j_c (nx := 1) hJ dX2_exchange_0 rfl gk_iconst_0 ?_
  refine j_p (nx := 2) hJ dX2_exchange_1 rfl rfl ?_
  exact loop 0 (Nat.zero_le _) h (by rw [gmapTo_0]; exact hR) gFr.rf
