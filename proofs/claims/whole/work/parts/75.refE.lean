def gsc (k : Nat) (c : Int32) : Prop := (0 ≤ c.toInt ∧ c.toInt < (k : Int)) ∨ (10 ≤ c.toInt ∧ c.toInt < 14)
def gPt (k : Nat) (p : List Int32) : Prop := 1 ≤ p.length ∧ p.length ≤ 8 ∧ (∀ c ∈ p, gsc k c) ∧ gcn p ∧ gco 0 p
def gWd (k : Nat) (w : List Int32) : Prop := w.length ≤ 8 ∧ ∀ c ∈ w, 0 ≤ c.toInt ∧ c.toInt < (k : Int)
def gBi (k s : Int32) (P I W : Nat → List Int32) : Prop := ∃ kn sn : Nat, k = nI kn ∧ (1 ≤ kn ∧ kn ≤ 3) ∧ s = nI sn ∧ sn ≤ 6 ∧ (∀ r, r < 6 → gPt kn (P r)) ∧ (∀ v, v < 4 → gWd kn (I v)) ∧ ∀ w, w < 6 → w < sn → gWd kn (W w)
/-- what always holds of the state -/
def gInv (R : Nat → List Int32) (N : Nat → Int32) : Prop :=
  gBi (N 1) (N 2) (fun r => R (5 + 2 * r)) (fun v => R (17 + 2 * v)) (fun w => R (25 + 2 * w)) ∧ (R 73).length ≤ 20 ∧ (N 0 = 0 ∨ N 0 = 1) ∧
  (N 0 ≠ 0 → gBi (N 37) (N 38) (fun r => R (41 + 2 * r)) (fun v => R (53 + 2 * v)) (fun w => R (61 + 2 * w))) ∧
  ∀ i, i < 4 → (N (87 + 3 * i) = -1 ∨ gbt (N (87 + 3 * i)) 4 = true) ∧ (R (88 + 3 * i)).length ≤ 40
theorem gsc.sy {k : Nat} (hk : k ≤ 3) {c : Int32} (h : gsc k c) : gsy c := by unfold gsc at h; unfold gsy; omega
theorem gPt.sy {k : Nat} (hk : k ≤ 3) {p : List Int32} (h : gPt k p) : ∀ c ∈ p, gsy c := fun c hc => (h.2.2.1 c hc).sy hk
theorem gcount_nv {l : List Int32} (hs : ∀ c ∈ l, gsy c) (hc : gcn l) (v : Nat) (hv : v < 4) : 0 < l.count (nI (10 + v)) ↔ v < gnv l := by
  rw [List.count_pos_iff]
  constructor
  · intro h; exact gnv_lt h (gvo_nI hv)
  · intro h
    obtain ⟨c, hc1, hc2⟩ := hc v h
    rw [(gvo_some hc2).2.2] at hc1; exact hc1
theorem gvc_nv {l : List Int32} (hs : ∀ c ∈ l, gsy c) (hc : gcn l) : gvc l = gnv l := by
  have h4 := gnv_le l
  have a0 := gcount_nv hs hc 0 (by omega)
  have a1 := gcount_nv hs hc 1 (by omega)
  have a2 := gcount_nv hs hc 2 (by omega)
  have a3 := gcount_nv hs hc 3 (by omega)
  unfold gvc
  rw [show (10 : Int32) = nI (10 + 0) from rfl, show (11 : Int32) = nI (10 + 1) from rfl, show (12 : Int32) = nI (10 + 2) from rfl, show (13 : Int32) = nI (10 + 3) from rfl]
  split <;> split <;> split <;> split <;> omega
theorem gin_ix {l : List Int32} (h : l.length ≤ 1000) (p : Int32) : gin p 0 (nI l.length - 1) = gix l p := by
  unfold gin gix
  congr 1
  rw [Int32.le_iff_toInt_le, Int32.le_iff_toInt_le, Int32.toInt_zero, show (nI l.length - 1 : Int32).toInt = (l.length : Int) - 1 from gsl2 (b := 1) h (by omega)]
  apply propext
  omega
set_option maxHeartbeats 4000000 in
theorem r6_store {d : Nat} {h0 h : GH} {A : Nat → Nat → Int32} {E : Nat → Nat → Int64} {M : Nat → Int32} {pv tv : Value} (hP : gP h0 h A E M pv tv) {r : Nat} (hr : r < 6) {l : List Int32} (hM : M 11 = nI l.length) (h8 : l.length ≤ 8) (hR : gSt (A 107) 0 l) (hsy : ∀ c ∈ l, gsy c) : gN false (d + 2) yX6_store [.ref 99, .int (nI r)] h (fun o h' => o = some (.int (nI l.length)) ∧ ∃ A1, gP h0 h' A1 E M pv tv ∧ gSl (A1 100) (A1 101) r (gcan l) ∧ (∀ j, (j < 8 * r ∨ 8 * r + 8 ≤ j) → A1 100 j = A 100 j) ∧ (∀ j, j ≠ r → A1 101 j = A 101 j) ∧ ∀ a, a ≠ 100 → a ≠ 101 → a ≠ 108 → A1 a = A a) := by
  refine gN.of MX6_store (Nat.le_of_ble_eq_true rfl) (fun J n hJ => ?_)
  show J 0 [some (.ref 99), some (.int (nI r))] [] h (n, 0, 0, false)
  refine j_p (nx := 1) hJ dX6_store_0 rfl rfl ?_
  refine j_get (nx := 4) hJ dX6_store_1 rfl fX6_37 hP.1.1 (by rfl) ?_
  refine j_c (nx := 5) hJ dX6_store_4 rfl gk_iconst_0 ?_
  refine j_p (nx := 6) hJ dX6_store_5 rfl rfl ?_
  refine j_get (nx := 9) hJ dX6_store_6 rfl fX6_15 hP.1.1 (by rfl) ?_
  refine j_c (nx := 11) hJ dX6_store_9 rfl gk_bipush_8 ?_
  refine j_p (nx := 12) hJ dX6_store_11 rfl rfl ?_
  refine j_p (nx := 13) hJ dX6_store_12 rfl rfl ?_
  rw [show (8 : Int32) = nI 8 from rfl, gmul]
  refine j_p (nx := 14) hJ dX6_store_13 rfl rfl ?_
  refine j_get (nx := 17) hJ dX6_store_14 rfl fX6_112 hP.1.1 (by rfl) ?_
  rw [hM]
  refine j_acp (nx := 20) hJ 0 (8 * r) l.length dX6_store_17 rfl mX6_125 (gle8 rfl) (show h 107 = some (gia 8 (A 107)) from hP.a 107 (by unfold gia'; omega)) (show h 100 = some (gia 48 (A 100)) from hP.a 100 (by unfold gia'; omega)) rfl rfl rfl (by omega) (by omega) (by decide) (by decide) ?_
  have hP1 := hP.arr (a := 100) (by unfold gia'; omega) (va_cpy (A 107) (A 100) 0 (8 * r) l.length)
  refine j_p (nx := 21) hJ dX6_store_20 rfl rfl ?_
  refine j_get (nx := 24) hJ dX6_store_21 rfl fX6_19 hP1.1.1 (by rfl) ?_
  refine j_p (nx := 25) hJ dX6_store_24 rfl rfl ?_
  refine j_p (nx := 26) hJ dX6_store_25 rfl rfl ?_
  refine j_get (nx := 29) hJ dX6_store_26 rfl fX6_112 hP1.1.1 (by rfl) ?_
  rw [hM]
  refine j_iast (j := r) (nx := 30) hJ dX6_store_29 rfl (show (gup h 100 (gia 48 (va_cpy (A 107) (A 100) 0 (8 * r) l.length))) 101 = some (gia 6 ((gU A 100 (va_cpy (A 107) (A 100) 0 (8 * r) l.length)) 101)) from hP1.a 101 (by unfold gia'; omega)) rfl (by omega) (by decide) ?_
  have hP2 := hP1.arr (a := 101) (by unfold gia'; omega) (upd ((gU A 100 (va_cpy (A 107) (A 100) 0 (8 * r) l.length)) 101) (r) (nI l.length))
  have hsl : gSl (gU (gU A 100 (va_cpy (A 107) (A 100) 0 (8 * r) l.length)) 101 (upd (A 101) r (nI l.length)) 100) (gU (gU A 100 (va_cpy (A 107) (A 100) 0 (8 * r) l.length)) 101 (upd (A 101) r (nI l.length)) 101) r l := by
    rw [gU_s, gU_n _ _ (by omega), gU_s]
    refine ⟨by simp [upd], h8, gSt.of (fun i hi => ?_)⟩
    have hri := hR.get hi
    rw [Nat.zero_add] at hri
    unfold va_cpy
    rw [if_pos ⟨by omega, by omega⟩, show 0 + (8 * r + i - 8 * r) = i by omega]
    exact hri
  refine j_p (nx := 31) hJ dX6_store_30 rfl rfl ?_
  refine j_p (nx := 32) hJ dX6_store_31 rfl rfl ?_
  refine j_cv (nx := 35) hJ dX6_store_32 rfl (r6_normalize (d := d) hP2 hr hsl hsy) mX6_131 hP2.1.1 kX6_normalize rfl (gle8 rfl) (fun o h3 hp => ?_)
  obtain ⟨rfl, A3, hP3, hs3, ho3, ha3⟩ := hp
  rw [gno_can hsy] at hs3
  refine j_p (nx := 36) hJ dX6_store_35 rfl rfl ?_
  refine j_get (nx := 39) hJ dX6_store_36 rfl fX6_112 hP3.1.1 (by rfl) ?_
  rw [hM]
  refine j_iret hJ dX6_store_39 ⟨rfl, A3, hP3, hs3, fun j hj => ?_, fun j hj => ?_, fun a p1 p2 p3 => ?_⟩
  · rw [ho3 j hj, gU_n _ _ (by omega), gU_s]
    unfold va_cpy
    rw [if_neg (by omega)]
  · rw [ha3 101 (by omega) (by omega), gU_s]
    simp only [upd]
    rw [if_neg hj]; rfl
  · rw [ha3 a p1 p3, gU_n _ _ p2, gU_n _ _ p1]
theorem gtk_rd {k1 : Int32} {l : List Int32} {p : Bool} (h : gtk p k1 l = true) : grd k1 l = some (l.map (gcode k1)) := by
  obtain ⟨h1, h2, h3⟩ := of_decide_eq_true h
  refine if_pos ⟨h1, fun c hc q => ?_⟩
  have := (h3 c hc).1
  rw [q] at this
  exact absurd this (by decide)
theorem gcode_sy {k1 : Int32} {k : Nat} (hk : k1 = nI k) (hk3 : k ≤ 3) (c : Int32) : gcode k1 c = -1 ∨ gsc k (gcode k1 c) := by
  unfold gcode
  have e2 : (97 + k1 : Int32) = nI (97 + k) := by rw [hk, show (97 : Int32) = nI 97 from rfl, gadd]
  split
  · exact Or.inr (Or.inr (by decide))
  · split
    · exact Or.inr (Or.inr (by decide))
    · split
      · exact Or.inr (Or.inr (by decide))
      · split
        · exact Or.inr (Or.inr (by decide))
        · split
          · next q =>
            rw [e2, Int32.le_iff_toInt_le, Int32.lt_iff_toInt_lt, nI_toInt (by omega), show (97 : Int32).toInt = 97 by decide] at q
            have h3 : (c - 97).toInt = c.toInt - 97 := by
              rw [Int32.toInt_sub, show (97 : Int32).toInt = 97 by decide, Int.bmod_eq_of_le] <;> (try simp) <;> omega
            refine Or.inr (Or.inl ?_)
            rw [h3]; omega
          · exact Or.inl rfl
theorem gtk_t {k1 : Int32} {k : Nat} (hk : k1 = nI k) (hk3 : k ≤ 3) (l : List Int32) : gtk true k1 l = (gpt k1 l).isSome := by
  cases hg : gtk true k1 l with
  | true =>
    obtain ⟨h1, h2, h3⟩ := of_decide_eq_true hg
    unfold gpt
    rw [gtk_rd hg]
    show true = (if (l.map (gcode k1)).length < 1 then none else some _).isSome
    rw [List.length_map, if_neg (by have := h2 rfl; omega)]; rfl
  | false =>
    have h1 := of_decide_eq_false hg
    unfold gpt
    unfold grd
    split
    · next x hx =>
      split at hx
      · next q =>
        cases hx
        rw [List.length_map]
        split
        · rfl
        · next q2 =>
          refine absurd ⟨q.1, fun _ => by omega, fun c hc => ⟨?_, Or.inl rfl⟩⟩ h1
          rcases gcode_sy hk hk3 c with u | u
          · exact absurd u (q.2 c hc)
          · have := (u.sy hk3).1
            rw [Int32.le_iff_toInt_le, Int32.toInt_zero]; exact this
      · cases hx
    · rfl
theorem gltr_nat (l : List Int32) : gltr l = nI (l.countP (fun y => decide (¬ (10 : Int32) ≤ y))) := by
  have key : ∀ (l : List Int32) (n : Nat), l.foldl (fun a y => if (10 : Int32) ≤ y then a else a + 1) (nI n) = nI (n + l.countP (fun y => decide (¬ (10 : Int32) ≤ y))) := by
    intro l
    induction l with
    | nil => intro n; rfl
    | cons y l ih =>
      intro n
      rw [List.foldl_cons, List.countP_cons]
      by_cases e : (10 : Int32) ≤ y
      · rw [if_pos e, ih]; simp [e]
      · rw [if_neg e, show nI n + 1 = nI (n + 1) from (nI_succ n).symm, ih]
        simp only [e, not_false_eq_true, decide_true, if_true]
        congr 1
        omega
  have := key l 0
  rw [Nat.zero_add] at this
  exact this
theorem gtk_f {k1 : Int32} {k : Nat} (hk : k1 = nI k) (hk3 : k ≤ 3) (l : List Int32) : gtk false k1 l = (gwd k1 l).isSome := by
  have hlt : ∀ x : Int32, x < 10 ↔ ¬ (10 : Int32) ≤ x := fun x => by rw [Int32.lt_iff_toInt_lt, Int32.le_iff_toInt_le]; omega
  cases hg : gtk false k1 l with
  | true =>
    obtain ⟨h1, h2, h3⟩ := of_decide_eq_true hg
    unfold gwd
    rw [gtk_rd hg]
    show true = (if gltr (l.map (gcode k1)) = nI (l.map (gcode k1)).length then some _ else none).isSome
    rw [if_pos]
    · rfl
    · rw [gltr_nat, List.countP_eq_length.mpr]
      intro c hc
      obtain ⟨y, hy, rfl⟩ := List.mem_map.mp hc
      rcases (h3 y hy).2 with u | u
      · cases u
      · exact decide_eq_true ((hlt _).mp u)
  | false =>
    have h1 := of_decide_eq_false hg
    unfold gwd
    unfold grd
    split
    · next x hx =>
      split at hx
      · next q =>
        cases hx
        split
        · next q2 =>
          have h9 := List.countP_le_length (p := fun y => decide (¬ (10 : Int32) ≤ y)) (l := l.map (gcode k1))
          rw [gltr_nat, gneq (by rw [List.length_map] at h9; omega) (by rw [List.length_map]; omega)] at q2
          have h10 := List.countP_eq_length.mp q2
          refine absurd ⟨q.1, fun z => (by cases z), fun c hc => ⟨?_, Or.inr ((hlt _).mpr (of_decide_eq_true (h10 _ (List.mem_map_of_mem hc))))⟩⟩ h1
          rcases gcode_sy hk hk3 c with u | u
          · exact absurd u (q.2 c hc)
          · have := (u.sy hk3).1
            rw [Int32.le_iff_toInt_le, Int32.toInt_zero]; exact this
        · rfl
      · cases hx
    · rfl
theorem gpt_v {k1 : Int32} {l x : List Int32} (h : gpt k1 l = some x) : x = gcan (l.map (gcode k1)) ∧ l.length ≤ 8 ∧ 1 ≤ l.length ∧ ∀ c ∈ l, gcode k1 c ≠ -1 := by
  unfold gpt grd at h
  split at h
  · next y hy =>
    split at hy
    · next q =>
      cases hy
      rw [List.length_map] at h
      split at h
      · cases h
      · cases h; exact ⟨rfl, q.1, by omega, q.2⟩
    · cases hy
  · cases h
theorem gwd_v {k1 : Int32} {l x : List Int32} (h : gwd k1 l = some x) : x = l.map (gcode k1) ∧ l.length ≤ 8 ∧ (∀ c ∈ l, gcode k1 c ≠ -1) ∧ gltr x = nI x.length := by
  unfold gwd grd at h
  split at h
  · next y hy =>
    split at hy
    · next q =>
      cases hy
      split at h
      · next q2 => cases h; exact ⟨rfl, q.1, q.2, q2⟩
      · cases h
    · cases hy
  · cases h
set_option maxHeartbeats 4000000 in
theorem r6_setPattern {d : Nat} {h0 h : GH} {R : Nat → List Int32} {N : Nat → Int32} (hS : gRS h0 h R N) (hI : gInv R N) (x : Int32) : gN false (d + 60) yX6_setPattern [.ref 99, .int x] h (fun o h' => o = some (.int (s_setPattern R N x).1) ∧ gRS h0 h' (s_setPattern R N x).2.1 (s_setPattern R N x).2.2) := by
  obtain ⟨A, E, M, pv, tv, hP, hG⟩ := hS
  have g0 := hG.1.1
  have g9 := hG.1.2.2.1
  obtain ⟨⟨k, ss, hk1, hk3, hss1, hss6, hpt, him, hsm⟩, hI2, hI3, hI4, hI5⟩ := hI
  refine gN.of MX6_setPattern (Nat.le_of_ble_eq_true rfl) (fun J n hJ => ?_)
  show J 0 [some (.ref 99), some (.int x), none] [] h (n, 0, 0, false)
  by_cases hx : gbt x 6 = true
  · obtain ⟨r, rfl, hr⟩ := gbt_spec hx
    have egr := gr_nI (r := r) (by omega)
    have hl := hG.2.1 r hr
    have hl8 := hl.2.1
    have hpr := hpt r hr
    refine j_p (nx := 1) hJ dX6_setPattern_0 rfl rfl ?_
    refine j_c (nx := 2) hJ dX6_setPattern_1 rfl gk_iconst_1 ?_
    refine j_cv (nx := 5) hJ dX6_setPattern_2 rfl (r6_takeInput (d := d + 56) hP hG (g0.trans hk1) hk3.2 true) mX6_135 hP.1.1 kX6_takeInput rfl (gle8 rfl) (fun o h1 hp => ?_)
    obtain ⟨rfl, f, hP1, hf⟩ := hp
    rw [gtk_t (g0.trans hk1) hk3.2] at hf ⊢
    rw [g0] at hf ⊢
    have hG1 : gG (gU A 107 f) E (gU (gU M 11 (nI (R 73).length)) 9 0) (gU R 73 []) N := hG.inp (l := []) (by show 0 ≤ 20; omega) rfl (fun i v hv => by cases hv) ⟨rfl, rfl, rfl, rfl, rfl⟩ (fun a _ p => gU_n _ _ (by omega))
    refine j_p (nx := 6) hJ dX6_setPattern_5 rfl rfl ?_
    refine j_p (nx := 7) hJ dX6_setPattern_6 rfl rfl ?_
    refine j_csR (nx := 10) hJ dX6_setPattern_7 rfl (r6_isRegister (fl := false) (d := d + 57) _) mX6_139 rfl (gle8 rfl) ?_
    rw [show gbt _ 6 = true from hx]
    refine j_if_ne (nx := 13) (tgt := 16) hJ dX6_setPattern_10 rfl (by decide) (fun c10 => ?_) (fun c10 => absurd c10 (by decide))
    refine j_p (nx := 17) hJ dX6_setPattern_16 rfl rfl ?_
    refine j_if_eq (nx := 20) (tgt := 28) hJ dX6_setPattern_17 rfl (by decide) (fun c17 => ?_) (fun c17 => ?_)
    · have hg := gsome_f c17
      have e : s_setPattern R N (nI r) = (-5, gU R 73 [], N) := by unfold s_setPattern; rw [if_pos hx, hg]
      refine j_c (nx := 30) hJ dX6_setPattern_28 rfl gk_bipush_m5 ?_
      exact j_iret hJ dX6_setPattern_30 ⟨by rw [e], by rw [e]; exact ⟨_, _, _, _, _, hP1, hG1⟩⟩
    obtain ⟨y, hg⟩ := gsome_t c17
    obtain ⟨hy1, hy2, hy3, hy4⟩ := gpt_v hg
    have hst := hf (by rw [hg]; rfl)
    have hsym : ∀ c ∈ (R 73).map (gcode (N 1)), gsy c := fun c hc => by
      obtain ⟨z, hz, rfl⟩ := List.mem_map.mp hc
      exact ((gcode_sy hk1 hk3.2 z).resolve_left (hy4 z hz)).sy hk3.2
    have hle : (R 73).length = ((R 73).map (gcode (N 1))).length := (List.length_map ..).symm
    refine j_p (nx := 21) hJ dX6_setPattern_20 rfl rfl ?_
    refine j_p (nx := 22) hJ dX6_setPattern_21 rfl rfl ?_
    refine j_cv (nx := 25) hJ dX6_setPattern_22 rfl (r6_store (d := d + 57) hP1 hr (l := (R 73).map (gcode (N 1))) (by show nI _ = _; rw [← hle]) (by omega) (by rw [gU_s]; exact hst) hsym) mX6_143 hP1.1.1 kX6_store rfl (gle8 rfl) (fun o h2 hp => ?_)
    obtain ⟨rfl, A2, hP2, k1, k2, k3, k4⟩ := hp
    refine j_go (tgt := 30) hJ dX6_setPattern_25 (by decide) ?_
    have e : s_setPattern R N (nI r) = (nI y.length, gU (gU R 73 []) (5 + 2 * r) y, N) := by unfold s_setPattern; rw [if_pos hx, hg, egr]
    refine j_iret hJ dX6_setPattern_30 ⟨by rw [e, hy1, gcan_len], ?_⟩
    rw [e]
    rw [← hy1] at k1
    exact ⟨_, _, _, _, _, hP2, hG1.pat hr k1 (fun i hi => (k2 i hi).trans (by rw [gU_n _ _ (by omega)])) (fun i hi => (k3 i hi).trans (by rw [gU_n _ _ (by omega)])) (fun a p1 p2 p3 => (k4 a p1 p2 (by omega)).trans rfl)⟩
  · refine j_p (nx := 1) hJ dX6_setPattern_0 rfl rfl ?_
    refine j_c (nx := 2) hJ dX6_setPattern_1 rfl gk_iconst_1 ?_
    refine j_cv (nx := 5) hJ dX6_setPattern_2 rfl (r6_takeInput (d := d + 56) hP hG (g0.trans hk1) hk3.2 true) mX6_135 hP.1.1 kX6_takeInput rfl (gle8 rfl) (fun o h1 hp => ?_)
    obtain ⟨rfl, f, hP1, hf⟩ := hp
    rw [gtk_t (g0.trans hk1) hk3.2] at hf ⊢
    rw [g0] at hf ⊢
    have hG1 : gG (gU A 107 f) E (gU (gU M 11 (nI (R 73).length)) 9 0) (gU R 73 []) N := hG.inp (l := []) (by show 0 ≤ 20; omega) rfl (fun i v hv => by cases hv) ⟨rfl, rfl, rfl, rfl, rfl⟩ (fun a _ p => gU_n _ _ (by omega))
    refine j_p (nx := 6) hJ dX6_setPattern_5 rfl rfl ?_
    refine j_p (nx := 7) hJ dX6_setPattern_6 rfl rfl ?_
    refine j_csR (nx := 10) hJ dX6_setPattern_7 rfl (r6_isRegister (fl := false) (d := d + 57) _) mX6_139 rfl (gle8 rfl) ?_
    rw [show gbt _ 6 = false from Bool.eq_false_iff.mpr hx]
    refine j_if_ne (nx := 13) (tgt := 16) hJ dX6_setPattern_10 rfl (by decide) (fun c10 => absurd c10 (by decide)) (fun c10 => ?_)
    refine j_c (nx := 15) hJ dX6_setPattern_13 rfl gk_bipush_m2 ?_
    have e : s_setPattern R N x = (-2, gU R 73 [], N) := if_neg hx
    exact j_iret hJ dX6_setPattern_15 ⟨by rw [e], by rw [e]; exact ⟨_, _, _, _, _, hP1, hG1⟩⟩
