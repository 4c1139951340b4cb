/-- the reference while it searches: the pattern so far c, the best b -/
def gSr (h0 h : GH) (R : Nat → List Int32) (N : Nat → Int32) (gn : Nat) (c : List Int32) (b : Option (List Int32)) : Prop :=
  ∃ A E M pv tv, gP h0 h A E M pv tv ∧ gG A E M R N ∧ gSt (A 113) 0 c ∧ M 27 = gb b.isSome ∧ ∀ l, b = some l → l.length = gn ∧ gSt (A 114) 0 l
theorem gSt.pre {f : Nat → Int32} {n : Nat} {c s : List Int32} (h : gSt f n (c ++ s)) : gSt f n c := fun i v hv => h i v (by rw [List.getElem?_append_left (List.getElem?_eq_some_iff.mp hv).1]; exact hv)
theorem gSr.pre {h0 h : GH} {R : Nat → List Int32} {N : Nat → Int32} {gn : Nat} {c s : List Int32} {b : Option (List Int32)} (hS : gSr h0 h R N gn (c ++ s) b) : gSr h0 h R N gn c b := by
  obtain ⟨A, E, M, pv, tv, h1, h2, h3, h4⟩ := hS
  exact ⟨A, E, M, pv, tv, h1, h2, h3.pre, h4⟩
theorem gfd_iff {n : Nat} {f : Nat → Bool} (hn : n ≤ 100) : gfd n f 0 = -6 ↔ ∀ i, i < n → f i = false := by
  constructor
  · intro h i hi
    cases hf : f i with
    | false => rfl
    | true =>
      unfold gfd at h
      cases hq : (List.range n).find? f with
      | none => exact absurd hf (List.find?_eq_none.mp hq i (List.mem_range.mpr hi))
      | some j =>
        rw [hq] at h
        have hj := List.mem_range.mp (List.mem_of_find?_eq_some hq)
        have h : nI (0 + j) = -6 := h
        have := congrArg Int32.toInt h
        rw [nI_toInt (by omega), show (-6 : Int32).toInt = -6 by decide] at this
        omega
  · exact gfd_n
theorem gfit_fd {R : Nat → List Int32} {ss k : Nat} {md : Int32} {c : List Int32} (hss : ss ≤ 6) (hk : k ≤ 3) (hc : gca k 4 0 c) : gfd ss (fun i => decide (gsol c (R (25 + 2 * i)) md = [])) 0 = -6 ↔ gfit (fun i => R (25 + 2 * i)) ss md c = true := by
  rw [gfd_iff (by omega)]
  have hs : ∀ y ∈ c, gsy y := fun y hy => (gca_sy hk (by omega) c 0 hc y hy).sy hk
  constructor
  · intro h
    refine gall_t (fun i hi => ?_)
    rw [gMB_sol hs (gca0 hk hc)]
    exact decide_eq_true (of_decide_eq_false (h i hi))
  · intro h i hi
    have := gfit_i h hi
    rw [gMB_sol hs (gca0 hk hc)] at this
    exact decide_eq_false (of_decide_eq_true this)
def gSok (D : Nat) (h0 : GH) (R : Nat → List Int32) (N : Nat → Int32) (k ss : Nat) (md : Int32) (mv gn m : Nat) : Prop :=
  ∀ (h : GH) (c : List Int32) (vu : Nat) (b : Option (List Int32)), gSr h0 h R N gn c b → c.length + m = gn → gca k 4 0 c → gvf 0 c = vu → vu ≤ 4 →
    gN false D yX6_search [.ref 99, .int (nI c.length), .int (nI gn), .int (nI vu), .int (nI mv), .int md] h (fun o h' => o = none ∧ gSr h0 h' R N gn c ((gY k mv m c vu).foldl (gstp (fun i => R (25 + 2 * i)) ss md mv) b))
set_option maxHeartbeats 4000000 in
theorem r6_searchLeaf {d : Nat} {h0 : GH} {R : Nat → List Int32} {N : Nat → Int32} {k ss mv gn : Nat} {md : Int32} (hk : N 1 = nI k) (hk3 : k ≤ 3) (hs : N 2 = nI ss) (hss : ss ≤ 6) (hmd : gmd md = true) (hmv : mv ≤ 4) (hgn : gn ≤ 8) : gSok (d + 10) h0 R N k ss md mv gn 0 := by
  intro h c vu b hS hn hca hvf hvu
  obtain ⟨A, E, M, pv, tv, hP, hG, hst, hm, hb⟩ := hS
  have hgc : gn = c.length := by omega
  subst hgc
  have hsy : ∀ y ∈ c, gsy y := fun y hy => (gca_sy hk3 (by omega) c 0 hca y hy).sy hk3
  have hfold : (gY k mv 0 c vu).foldl (gstp (fun i => R (25 + 2 * i)) ss md mv) b = gstp (fun i => R (25 + 2 * i)) ss md mv b c := rfl
  rw [hfold]
  refine gN.of MX6_search (Nat.le_of_ble_eq_true rfl) (fun J n hJ => ?_)
  show J 0 [some (.ref 99), some (.int (nI c.length)), some (.int (nI c.length)), some (.int (nI vu)), some (.int (nI mv)), some (.int md), none] [] h (n, 0, 0, false)
  refine j_p (nx := 1) hJ dX6_search_0 rfl rfl ?_
  refine j_p (nx := 2) hJ dX6_search_1 rfl rfl ?_
  refine j_ic_ne (nx := 5) (tgt := 89) hJ dX6_search_2 rfl (by decide) (fun c2 => absurd c2 (fun z => z rfl)) (fun c2 => ?_)
  refine j_p (nx := 7) hJ dX6_search_5 rfl rfl ?_
  refine j_c (nx := 8) hJ dX6_search_7 rfl gk_iconst_1 ?_
  by_cases hcnt : 1 < mv ∨ gvf 0 c = 1
  · have to16 : J 16 [some (.ref 99), some (.int (nI c.length)), some (.int (nI c.length)), some (.int (nI vu)), some (.int (nI mv)), some (.int md), none] [] h (n, 0, 0, false) := by
      refine j_c (nx := 17) hJ dX6_search_16 rfl gk_iconst_1 ?_
      refine j_go (tgt := 21) hJ dX6_search_17 (by decide) ?_
      refine j_p (nx := 23) hJ dX6_search_21 rfl rfl ?_
      refine j_p (nx := 25) hJ dX6_search_23 rfl rfl ?_
      refine j_if_eq (nx := 28) (tgt := 88) hJ dX6_search_25 rfl (by decide) (fun c25 => absurd c25 (by decide)) (fun c25 => ?_)
      refine j_p (nx := 29) hJ dX6_search_28 rfl rfl ?_
      refine j_get (nx := 32) hJ dX6_search_29 rfl fX6_253 hP.1.1 (by rfl) ?_
      rw [hm]
      cases hbb : b with
      | none =>
        subst hbb
        refine j_if_eq (nx := 35) (tgt := 52) hJ dX6_search_32 rfl (by decide) (fun c32 => ?_) (fun c32 => absurd rfl c32)
        refine j_p (nx := 53) hJ dX6_search_52 rfl rfl ?_
        refine j_p (nx := 54) hJ dX6_search_53 rfl rfl ?_
        refine j_get (nx := 57) hJ dX6_search_54 rfl fX6_55 hP.1.1 (by rfl) ?_
        refine j_c (nx := 58) hJ dX6_search_57 rfl gk_iconst_0 ?_
        refine j_p (nx := 59) hJ dX6_search_58 rfl rfl ?_
        refine j_p (nx := 61) hJ dX6_search_59 rfl rfl ?_
        refine j_cv (nx := 64) hJ dX6_search_61 rfl (r6_misfit (d := d) hP hG hs hss (pa := 113) (po := 0) (p := c) (by unfold gia'; omega) (by omega) hst (by show 0 + _ ≤ 8; omega) hsy hmd) mX6_246 hP.1.1 kX6_misfit rfl (gle8 rfl) (fun o h1 hp => ?_)
        obtain ⟨rfl, A1, M1, pv1, tv1, hP1, hfx⟩ := hp
        have hG1 := hG.fx hfx
        have hst1 : gSt (A1 113) 0 c := by rw [hfx.1 113 (by omega) (by omega) (by omega) (by omega)]; exact hst
        have hm1 : M1 27 = gb (none : Option (List Int32)).isSome := (hfx.2 27 (by omega) (by omega) (by omega) (by omega) (by omega) (by omega)).trans hm
        have hb1 : ∀ l9, none = some l9 → l9.length = c.length ∧ gSt (A1 114) 0 l9 := fun l9 hl => by rw [hfx.1 114 (by omega) (by omega) (by omega) (by omega)]; exact hb l9 hl
        refine j_c (nx := 66) hJ dX6_search_64 rfl gk_bipush_m6 ?_
        refine j_ic_ne (nx := 69) (tgt := 88) hJ dX6_search_66 rfl (by decide) (fun c66 => ?_) (fun c66 => ?_)
        · rw [gfit_fd hss hk3 hca] at c66
          have e : gstp (fun i => R (25 + 2 * i)) ss md mv none c = none := if_neg (fun z => c66 z.2.2)
          exact j_vret hJ dX6_search_88 ⟨rfl, by rw [e]; exact ⟨A1, E, M1, pv1, tv1, hP1, hG1, hst1, hm1, hb1⟩⟩
        rw [gfit_fd hss hk3 hca] at c66
        have e : gstp (fun i => R (25 + 2 * i)) ss md mv none c = some c := if_pos ⟨decide_eq_true hcnt, rfl, c66⟩
        refine j_p (nx := 70) hJ dX6_search_69 rfl rfl ?_
        refine j_get (nx := 73) hJ dX6_search_70 rfl fX6_55 hP1.1.1 (by rfl) ?_
        refine j_c (nx := 74) hJ dX6_search_73 rfl gk_iconst_0 ?_
        refine j_p (nx := 75) hJ dX6_search_74 rfl rfl ?_
        refine j_get (nx := 78) hJ dX6_search_75 rfl fX6_58 hP1.1.1 (by rfl) ?_
        refine j_c (nx := 79) hJ dX6_search_78 rfl gk_iconst_0 ?_
        refine j_p (nx := 80) hJ dX6_search_79 rfl rfl ?_
        refine j_acp (nx := 83) hJ 0 0 c.length dX6_search_80 rfl mX6_125 (gle8 rfl) (show h1 113 = some (gia 8 (A1 113)) from hP1.a 113 (by unfold gia'; omega)) (show h1 114 = some (gia 8 (A1 114)) from hP1.a 114 (by unfold gia'; omega)) rfl rfl rfl (by omega) (by omega) (by decide) (by decide) ?_
        have hP2 := hP1.arr (a := 114) (by unfold gia'; omega) (va_cpy (A1 113) (A1 114) 0 0 c.length)
        refine j_p (nx := 84) hJ dX6_search_83 rfl rfl ?_
        refine j_c (nx := 85) hJ dX6_search_84 rfl gk_iconst_1 ?_
        refine j_put (nx := 88) hJ dX6_search_85 rfl fX6_253 (zX6_27 true) hP2.1.1 (Nat.le_of_ble_eq_true rfl) ?_
        change J 88 _ _ (gup (gup h1 114 (gia 8 (va_cpy (A1 113) (A1 114) 0 0 c.length))) 99 (gO (gU M1 27 (1)) pv1 tv1)) _
        have hP3 := hP2.fld (gU M1 27 (1)) pv1 tv1
        refine j_vret hJ dX6_search_88 ⟨rfl, ?_⟩
        rw [e]
        refine ⟨_, _, _, _, _, hP3, hG1.scr (fun a ha => gU_n _ _ (by omega)) rfl ⟨rfl, rfl, rfl, rfl, rfl, rfl⟩, by rw [gU_n _ _ (by omega)]; exact hst1, by rw [gU_s]; rfl, fun l hl => ?_⟩
        cases hl
        exact ⟨rfl, by rw [gU_s]; exact gcpy_st hst1⟩
      | some l =>
        subst hbb
        obtain ⟨hll, hlst⟩ := hb l rfl
        refine j_if_eq (nx := 35) (tgt := 52) hJ dX6_search_32 rfl (by decide) (fun c32 => absurd (show (1 : Int32) = 0 from c32) (by decide)) (fun c32 => ?_)
        refine j_p (nx := 36) hJ dX6_search_35 rfl rfl ?_
        refine j_get (nx := 39) hJ dX6_search_36 rfl fX6_55 hP.1.1 (by rfl) ?_
        refine j_c (nx := 40) hJ dX6_search_39 rfl gk_iconst_0 ?_
        refine j_p (nx := 41) hJ dX6_search_40 rfl rfl ?_
        refine j_get (nx := 44) hJ dX6_search_41 rfl fX6_58 hP.1.1 (by rfl) ?_
        refine j_c (nx := 45) hJ dX6_search_44 rfl gk_iconst_0 ?_
        refine j_p (nx := 46) hJ dX6_search_45 rfl rfl ?_
        refine j_csR (nx := 49) hJ dX6_search_46 rfl (r6_better (d := d + 6) (show h 113 = some (gia 8 (A 113)) from hP.a 113 (by unfold gia'; omega)) hst (by omega) (by decide) (show h 114 = some (gia 8 (A 114)) from hP.a 114 (by unfold gia'; omega)) hlst (by omega) (by decide) hll.symm) mX6_163 rfl (gle8 rfl) ?_
        refine j_if_le (nx := 52) (tgt := 88) hJ dX6_search_49 rfl (by decide) (fun c49 => ?_) (fun c49 => ?_)
        · have e : gstp (fun i => R (25 + 2 * i)) ss md mv (some l) c = some l := if_neg (fun z => by have q : 0 < gbet c l := of_decide_eq_true z.2.1; rw [Int32.lt_iff_toInt_lt] at q; rw [Int32.le_iff_toInt_le] at c49; omega)
          exact j_vret hJ dX6_search_88 ⟨rfl, by rw [e]; exact ⟨A, E, M, pv, tv, hP, hG, hst, hm, hb⟩⟩
        have hbt : 0 < gbet c l := by rw [Int32.lt_iff_toInt_lt]; rw [Int32.le_iff_toInt_le] at c49; omega
        refine j_p (nx := 53) hJ dX6_search_52 rfl rfl ?_
        refine j_p (nx := 54) hJ dX6_search_53 rfl rfl ?_
        refine j_get (nx := 57) hJ dX6_search_54 rfl fX6_55 hP.1.1 (by rfl) ?_
        refine j_c (nx := 58) hJ dX6_search_57 rfl gk_iconst_0 ?_
        refine j_p (nx := 59) hJ dX6_search_58 rfl rfl ?_
        refine j_p (nx := 61) hJ dX6_search_59 rfl rfl ?_
        refine j_cv (nx := 64) hJ dX6_search_61 rfl (r6_misfit (d := d) hP hG hs hss (pa := 113) (po := 0) (p := c) (by unfold gia'; omega) (by omega) hst (by show 0 + _ ≤ 8; omega) hsy hmd) mX6_246 hP.1.1 kX6_misfit rfl (gle8 rfl) (fun o h1 hp => ?_)
        obtain ⟨rfl, A1, M1, pv1, tv1, hP1, hfx⟩ := hp
        have hG1 := hG.fx hfx
        have hst1 : gSt (A1 113) 0 c := by rw [hfx.1 113 (by omega) (by omega) (by omega) (by omega)]; exact hst
        have hm1 : M1 27 = gb ((some l) : Option (List Int32)).isSome := (hfx.2 27 (by omega) (by omega) (by omega) (by omega) (by omega) (by omega)).trans hm
        have hb1 : ∀ l9, (some l) = some l9 → l9.length = c.length ∧ gSt (A1 114) 0 l9 := fun l9 hl => by rw [hfx.1 114 (by omega) (by omega) (by omega) (by omega)]; exact hb l9 hl
        refine j_c (nx := 66) hJ dX6_search_64 rfl gk_bipush_m6 ?_
        refine j_ic_ne (nx := 69) (tgt := 88) hJ dX6_search_66 rfl (by decide) (fun c66 => ?_) (fun c66 => ?_)
        · rw [gfit_fd hss hk3 hca] at c66
          have e : gstp (fun i => R (25 + 2 * i)) ss md mv (some l) c = (some l) := if_neg (fun z => c66 z.2.2)
          exact j_vret hJ dX6_search_88 ⟨rfl, by rw [e]; exact ⟨A1, E, M1, pv1, tv1, hP1, hG1, hst1, hm1, hb1⟩⟩
        rw [gfit_fd hss hk3 hca] at c66
        have e : gstp (fun i => R (25 + 2 * i)) ss md mv (some l) c = some c := if_pos ⟨decide_eq_true hcnt, decide_eq_true hbt, c66⟩
        refine j_p (nx := 70) hJ dX6_search_69 rfl rfl ?_
        refine j_get (nx := 73) hJ dX6_search_70 rfl fX6_55 hP1.1.1 (by rfl) ?_
        refine j_c (nx := 74) hJ dX6_search_73 rfl gk_iconst_0 ?_
        refine j_p (nx := 75) hJ dX6_search_74 rfl rfl ?_
        refine j_get (nx := 78) hJ dX6_search_75 rfl fX6_58 hP1.1.1 (by rfl) ?_
        refine j_c (nx := 79) hJ dX6_search_78 rfl gk_iconst_0 ?_
        refine j_p (nx := 80) hJ dX6_search_79 rfl rfl ?_
        refine j_acp (nx := 83) hJ 0 0 c.length dX6_search_80 rfl mX6_125 (gle8 rfl) (show h1 113 = some (gia 8 (A1 113)) from hP1.a 113 (by unfold gia'; omega)) (show h1 114 = some (gia 8 (A1 114)) from hP1.a 114 (by unfold gia'; omega)) rfl rfl rfl (by omega) (by omega) (by decide) (by decide) ?_
        have hP2 := hP1.arr (a := 114) (by unfold gia'; omega) (va_cpy (A1 113) (A1 114) 0 0 c.length)
        refine j_p (nx := 84) hJ dX6_search_83 rfl rfl ?_
        refine j_c (nx := 85) hJ dX6_search_84 rfl gk_iconst_1 ?_
        refine j_put (nx := 88) hJ dX6_search_85 rfl fX6_253 (zX6_27 true) hP2.1.1 (Nat.le_of_ble_eq_true rfl) ?_
        change J 88 _ _ (gup (gup h1 114 (gia 8 (va_cpy (A1 113) (A1 114) 0 0 c.length))) 99 (gO (gU M1 27 (1)) pv1 tv1)) _
        have hP3 := hP2.fld (gU M1 27 (1)) pv1 tv1
        refine j_vret hJ dX6_search_88 ⟨rfl, ?_⟩
        rw [e]
        refine ⟨_, _, _, _, _, hP3, hG1.scr (fun a ha => gU_n _ _ (by omega)) rfl ⟨rfl, rfl, rfl, rfl, rfl, rfl⟩, by rw [gU_n _ _ (by omega)]; exact hst1, by rw [gU_s]; rfl, fun l hl => ?_⟩
        cases hl
        exact ⟨rfl, by rw [gU_s]; exact gcpy_st hst1⟩
    refine j_ic_gt (nx := 11) (tgt := 16) hJ dX6_search_8 rfl (by decide) (fun c8 => to16) (fun c8 => ?_)
    refine j_p (nx := 12) hJ dX6_search_11 rfl rfl ?_
    refine j_c (nx := 13) hJ dX6_search_12 rfl gk_iconst_1 ?_
    refine j_ic_ne (nx := 16) (tgt := 20) hJ dX6_search_13 rfl (by decide) (fun c13 => ?_) (fun c13 => to16)
    rw [show (1 : Int32) = nI 1 from rfl, gneq (by omega) (by omega)] at c13
    rw [show (1 : Int32) = nI 1 from rfl, gnlt (by omega) (by omega)] at c8
    omega
  · have e : gstp (fun i => R (25 + 2 * i)) ss md mv b c = b := if_neg (fun z => hcnt (of_decide_eq_true z.1))
    refine j_ic_gt (nx := 11) (tgt := 16) hJ dX6_search_8 rfl (by decide) (fun c8 => ?_) (fun c8 => ?_)
    · rw [show (1 : Int32) = nI 1 from rfl, gnlt (by omega) (by omega)] at c8; omega
    refine j_p (nx := 12) hJ dX6_search_11 rfl rfl ?_
    refine j_c (nx := 13) hJ dX6_search_12 rfl gk_iconst_1 ?_
    refine j_ic_ne (nx := 16) (tgt := 20) hJ dX6_search_13 rfl (by decide) (fun c13 => ?_) (fun c13 => ?_)
    rotate_left
    · rw [show (1 : Int32) = nI 1 from rfl, gneq (by omega) (by omega)] at c13; omega
    refine j_c (nx := 21) hJ dX6_search_20 rfl gk_iconst_0 ?_
    refine j_p (nx := 23) hJ dX6_search_21 rfl rfl ?_
    refine j_p (nx := 25) hJ dX6_search_23 rfl rfl ?_
    refine j_if_eq (nx := 28) (tgt := 88) hJ dX6_search_25 rfl (by decide) (fun c25 => ?_) (fun c25 => absurd rfl c25)
    exact j_vret hJ dX6_search_88 ⟨rfl, by rw [e]; exact ⟨A, E, M, pv, tv, hP, hG, hst, hm, hb⟩⟩
set_option maxHeartbeats 4000000 in
theorem r6_searchStep {D : Nat} {h0 : GH} {R : Nat → List Int32} {N : Nat → Int32} {k ss mv gn m : Nat} {md : Int32} (hk : N 1 = nI k) (hk3 : k ≤ 3) (hs : N 2 = nI ss) (hss : ss ≤ 6) (hmd : gmd md = true) (hmv : mv ≤ 4) (hgn : gn ≤ 8) (IH : gSok D h0 R N k ss md mv gn m) : gSok (D + 1) h0 R N k ss md mv gn (m + 1) := by
  intro h c vu b hS hn hca hvf hvu
  have hfin : (gY k mv (m + 1) c vu).foldl (gstp (fun i => R (25 + 2 * i)) ss md mv) b = ((List.range (min (vu + 1) mv)).flatMap (fun v9 => gY k mv m (c ++ [nI (10 + v9)]) (max vu (v9 + 1)))).foldl (gstp (fun i => R (25 + 2 * i)) ss md mv) (((List.range k).flatMap (fun x => gY k mv m (c ++ [nI x]) vu)).foldl (gstp (fun i => R (25 + 2 * i)) ss md mv) b) := by rw [gY, List.foldl_append]
  refine gN.of MX6_search (Nat.le_of_ble_eq_true rfl) (fun J n hJ => ?_)
  show J 0 [some (.ref 99), some (.int (nI c.length)), some (.int (nI gn)), some (.int (nI vu)), some (.int (nI mv)), some (.int md), none] [] h (n, 0, 0, false)
  have loop2v : ∀ v, v ≤ min (vu + 1) mv → ∀ (h1 : GH), gSr h0 h1 R N gn c (((List.range v).flatMap (fun v9 => gY k mv m (c ++ [nI (10 + v9)]) (max vu (v9 + 1)))).foldl (gstp (fun i => R (25 + 2 * i)) ss md mv) (((List.range k).flatMap (fun x => gY k mv m (c ++ [nI x]) vu)).foldl (gstp (fun i => R (25 + 2 * i)) ss md mv) b)) → J 131 [some (.ref 99), some (.int (nI c.length)), some (.int (nI gn)), some (.int (nI vu)), some (.int (nI mv)), some (.int md), some (.int (nI v))] [] h1 (n, 0, 0, false) := by
    refine gloop _ _ (fun v hv ih h1 hS1 => ?_)
    refine j_p (nx := 133) hJ dX6_search_131 rfl rfl ?_
    refine j_p (nx := 134) hJ dX6_search_133 rfl rfl ?_
    refine j_ic_gt (nx := 137) (tgt := 186) hJ dX6_search_134 rfl (by decide) (fun c134 => ?_) (fun c134 => ?_)
    · rw [gnlt (by omega) (by omega)] at c134
      have e0 : v = min (vu + 1) mv := by omega
      subst e0
      rw [← hfin] at hS1
      exact j_vret hJ dX6_search_186 ⟨rfl, hS1⟩
    rw [gnlt (by omega) (by omega)] at c134
    refine j_p (nx := 139) hJ dX6_search_137 rfl rfl ?_
    refine j_p (nx := 141) hJ dX6_search_139 rfl rfl ?_
    refine j_ic_ge (nx := 144) (tgt := 186) hJ dX6_search_141 rfl (by decide) (fun c141 => ?_) (fun c141 => ?_)
    · rw [gnle (by omega) (by omega)] at c141
      have e0 : v = min (vu + 1) mv := by omega
      subst e0
      rw [← hfin] at hS1
      exact j_vret hJ dX6_search_186 ⟨rfl, hS1⟩
    rw [gnle (by omega) (by omega)] at c141
    obtain ⟨A, E, M, pv, tv, hP, hG, hst, hm, hb⟩ := id hS1
    refine j_p (nx := 145) hJ dX6_search_144 rfl rfl ?_
    refine j_get (nx := 148) hJ dX6_search_145 rfl fX6_55 hP.1.1 (by rfl) ?_
    refine j_p (nx := 149) hJ dX6_search_148 rfl rfl ?_
    refine j_c (nx := 151) hJ dX6_search_149 rfl gk_bipush_10 ?_
    refine j_p (nx := 153) hJ dX6_search_151 rfl rfl ?_
    refine j_p (nx := 154) hJ dX6_search_153 rfl rfl ?_
    rw [show (10 : Int32) = nI 10 from rfl, gadd]
    refine j_iast (j := c.length) (nx := 155) hJ dX6_search_154 rfl (show h1 113 = some (gia 8 (A 113)) from hP.a 113 (by unfold gia'; omega)) rfl (by omega) (by decide) ?_
    have hP1 := hP.arr (a := 113) (by unfold gia'; omega) (upd (A 113) (c.length) (nI (10 + v)))
    have hS2 : gSr h0 (gup h1 113 (gia 8 (upd (A 113) c.length (nI (10 + v))))) R N gn (c ++ [nI (10 + v)]) (((List.range v).flatMap (fun v9 => gY k mv m (c ++ [nI (10 + v9)]) (max vu (v9 + 1)))).foldl (gstp (fun i => R (25 + 2 * i)) ss md mv) (((List.range k).flatMap (fun x => gY k mv m (c ++ [nI x]) vu)).foldl (gstp (fun i => R (25 + 2 * i)) ss md mv) b)) := ⟨_, _, _, _, _, hP1, hG.scr (fun a ha => gU_n _ _ (by omega)) rfl ⟨rfl, rfl, rfl, rfl, rfl, rfl⟩, by rw [gU_s]; exact hst.snoc rfl, hm, fun l hl => by rw [gU_n _ _ (by omega)]; exact hb l hl⟩
    refine j_p (nx := 156) hJ dX6_search_155 rfl rfl ?_
    refine j_p (nx := 157) hJ dX6_search_156 rfl rfl ?_
    refine j_c (nx := 158) hJ dX6_search_157 rfl gk_iconst_1 ?_
    refine j_p (nx := 159) hJ dX6_search_158 rfl rfl ?_
    rw [show nI c.length + 1 = nI (c ++ [nI (10 + v)]).length from by rw [List.length_append]; exact (nI_succ _).symm]
    refine j_p (nx := 160) hJ dX6_search_159 rfl rfl ?_
    refine j_p (nx := 162) hJ dX6_search_160 rfl rfl ?_
    refine j_p (nx := 163) hJ dX6_search_162 rfl rfl ?_
    refine j_ic_ne (nx := 166) (tgt := 172) hJ dX6_search_163 rfl (by decide) (fun c163 => ?_) (fun c163 => ?_)
    · rw [gneq (by omega) (by omega)] at c163
      refine j_p (nx := 173) hJ dX6_search_172 rfl rfl ?_
      have e1 : max vu (v + 1) = vu := by omega
      rw [show J 173 = J 173 from rfl]
      have k1 := fun z => IH (gup h1 113 (gia 8 (upd (A 113) c.length (nI (10 + v))))) (c ++ [nI (10 + v)]) (max vu (v + 1)) (((List.range v).flatMap (fun v9 => gY k mv m (c ++ [nI (10 + v9)]) (max vu (v9 + 1)))).foldl (gstp (fun i => R (25 + 2 * i)) ss md mv) (((List.range k).flatMap (fun x => gY k mv m (c ++ [nI x]) vu)).foldl (gstp (fun i => R (25 + 2 * i)) ss md mv) b)) hS2 z ((gca_app hk3 (by omega) c _ 0).mpr ⟨hca, Or.inr ⟨v, by omega, by omega, rfl, trivial⟩⟩) (by rw [gvf_app, gvf_v (by omega), hvf]; rfl) (by omega)
      have k2 := k1 (by rw [List.length_append]; show c.length + 1 + m = gn; omega)
      rw [e1] at k2
      refine j_p (nx := 175) hJ dX6_search_173 rfl rfl ?_
      refine j_p (nx := 177) hJ dX6_search_175 rfl rfl ?_
      refine j_cv (nx := 180) hJ dX6_search_177 rfl (k2) mX6_257 hP1.1.1 kX6_search rfl (gle8 rfl) (fun o h2 hp => ?_)
      obtain ⟨rfl, hS3⟩ := hp
      have hS4 := hS3.pre
      rw [← List.foldl_append, show (List.range v).flatMap (fun v9 => gY k mv m (c ++ [nI (10 + v9)]) (max vu (v9 + 1))) ++ gY k mv m (c ++ [nI (10 + v)]) vu = (List.range (v + 1)).flatMap (fun v9 => gY k mv m (c ++ [nI (10 + v9)]) (max vu (v9 + 1))) from by rw [List.range_succ, List.flatMap_append, List.flatMap_singleton, e1]] at hS4
      refine j_inc (nx := 183) hJ dX6_search_180 rfl rfl (gi1 v) rfl ?_
      refine j_go (tgt := 131) hJ dX6_search_183 (by decide) ?_
      exact ih (by omega) h2 hS4
    rw [gneq (by omega) (by omega)] at c163
    subst c163
    refine j_p (nx := 167) hJ dX6_search_166 rfl rfl ?_
    refine j_c (nx := 168) hJ dX6_search_167 rfl gk_iconst_1 ?_
    refine j_p (nx := 169) hJ dX6_search_168 rfl rfl ?_
    rw [show nI v + 1 = nI (max v (v + 1)) from by rw [show max v (v + 1) = v + 1 by omega]; exact (nI_succ v).symm]
    refine j_go (tgt := 173) hJ dX6_search_169 (by decide) ?_
    refine j_p (nx := 175) hJ dX6_search_173 rfl rfl ?_
    refine j_p (nx := 177) hJ dX6_search_175 rfl rfl ?_
    refine j_cv (nx := 180) hJ dX6_search_177 rfl (IH _ (c ++ [nI (10 + v)]) (max v (v + 1)) _ hS2 (by rw [List.length_append]; show c.length + 1 + m = gn; omega) ((gca_app hk3 (by omega) c _ 0).mpr ⟨hca, Or.inr ⟨v, by omega, by omega, rfl, trivial⟩⟩) (by rw [gvf_app, gvf_v (by omega), hvf]; rfl) (by omega)) mX6_257 hP1.1.1 kX6_search rfl (gle8 rfl) (fun o h2 hp => ?_)
    obtain ⟨rfl, hS3⟩ := hp
    have hS4 := hS3.pre
    rw [← List.foldl_append, show (List.range v).flatMap (fun v9 => gY k mv m (c ++ [nI (10 + v9)]) (max v (v9 + 1))) ++ gY k mv m (c ++ [nI (10 + v)]) (max v (v + 1)) = (List.range (v + 1)).flatMap (fun v9 => gY k mv m (c ++ [nI (10 + v9)]) (max v (v9 + 1))) from by rw [List.range_succ, List.flatMap_append, List.flatMap_singleton]] at hS4
    refine j_inc (nx := 183) hJ dX6_search_180 rfl rfl (gi1 v) rfl ?_
    refine j_go (tgt := 131) hJ dX6_search_183 (by decide) ?_
    exact ih (by omega) h2 hS4
  have loop2 : ∀ (h1 : GH) (w : Option Value), gSr h0 h1 R N gn c (((List.range k).flatMap (fun x => gY k mv m (c ++ [nI x]) vu)).foldl (gstp (fun i => R (25 + 2 * i)) ss md mv) b) → J 128 [some (.ref 99), some (.int (nI c.length)), some (.int (nI gn)), some (.int (nI vu)), some (.int (nI mv)), some (.int md), w] [] h1 (n, 0, 0, false) := by
    intro h1 w hS1
    refine j_c (nx := 129) hJ dX6_search_128 rfl gk_iconst_0 ?_
    refine j_p (nx := 131) hJ dX6_search_129 rfl rfl ?_
    exact loop2v 0 (Nat.zero_le _) h1 hS1
  have loop1 : ∀ x, x ≤ k → ∀ (h1 : GH), gSr h0 h1 R N gn c (((List.range x).flatMap (fun x => gY k mv m (c ++ [nI x]) vu)).foldl (gstp (fun i => R (25 + 2 * i)) ss md mv) b) → J 92 [some (.ref 99), some (.int (nI c.length)), some (.int (nI gn)), some (.int (nI vu)), some (.int (nI mv)), some (.int md), some (.int (nI x))] [] h1 (n, 0, 0, false) := by
    refine gloop _ _ (fun x hx ih h1 hS1 => ?_)
    refine j_p (nx := 94) hJ dX6_search_92 rfl rfl ?_
    refine j_p (nx := 95) hJ dX6_search_94 rfl rfl ?_
    obtain ⟨A, E, M, pv, tv, hP, hG, hst, hm, hb⟩ := id hS1
    refine j_get (nx := 98) hJ dX6_search_95 rfl fX6_9 hP.1.1 (by rfl) ?_
    rw [hG.1.1.trans hk]
    refine j_ic_ge (nx := 101) (tgt := 128) hJ dX6_search_98 rfl (by decide) (fun c98 => ?_) (fun c98 => ?_)
    · rw [gnle (by omega) (by omega)] at c98
      have e0 : x = k := by omega
      subst e0
      exact loop2 h1 _ hS1
    rw [gnle (by omega) (by omega)] at c98
    have hxk : x < k := by omega
    refine j_p (nx := 102) hJ dX6_search_101 rfl rfl ?_
    refine j_get (nx := 105) hJ dX6_search_102 rfl fX6_55 hP.1.1 (by rfl) ?_
    refine j_p (nx := 106) hJ dX6_search_105 rfl rfl ?_
    refine j_p (nx := 108) hJ dX6_search_106 rfl rfl ?_
    refine j_iast (j := c.length) (nx := 109) hJ dX6_search_108 rfl (show h1 113 = some (gia 8 (A 113)) from hP.a 113 (by unfold gia'; omega)) rfl (by omega) (by decide) ?_
    have hP1 := hP.arr (a := 113) (by unfold gia'; omega) (upd (A 113) (c.length) (nI x))
    have hS2 : gSr h0 (gup h1 113 (gia 8 (upd (A 113) c.length (nI x)))) R N gn (c ++ [nI x]) (((List.range x).flatMap (fun x => gY k mv m (c ++ [nI x]) vu)).foldl (gstp (fun i => R (25 + 2 * i)) ss md mv) b) := ⟨_, _, _, _, _, hP1, hG.scr (fun a ha => gU_n _ _ (by omega)) rfl ⟨rfl, rfl, rfl, rfl, rfl, rfl⟩, by rw [gU_s]; exact hst.snoc rfl, hm, fun l hl => by rw [gU_n _ _ (by omega)]; exact hb l hl⟩
    refine j_p (nx := 110) hJ dX6_search_109 rfl rfl ?_
    refine j_p (nx := 111) hJ dX6_search_110 rfl rfl ?_
    refine j_c (nx := 112) hJ dX6_search_111 rfl gk_iconst_1 ?_
    refine j_p (nx := 113) hJ dX6_search_112 rfl rfl ?_
    rw [show nI c.length + 1 = nI (c ++ [nI x]).length from by rw [List.length_append]; exact (nI_succ _).symm]
    refine j_p (nx := 114) hJ dX6_search_113 rfl rfl ?_
    refine j_p (nx := 115) hJ dX6_search_114 rfl rfl ?_
    refine j_p (nx := 117) hJ dX6_search_115 rfl rfl ?_
    refine j_p (nx := 119) hJ dX6_search_117 rfl rfl ?_
    refine j_cv (nx := 122) hJ dX6_search_119 rfl (IH _ (c ++ [nI x]) vu _ hS2 (by rw [List.length_append]; show c.length + 1 + m = gn; omega) ((gca_app hk3 (by omega) c _ 0).mpr ⟨hca, Or.inl ⟨x, hxk, rfl, trivial⟩⟩) (by rw [gvf_app, gvf_l (by omega), hvf]; rfl) hvu) mX6_257 hP1.1.1 kX6_search rfl (gle8 rfl) (fun o h2 hp => ?_)
    obtain ⟨rfl, hS3⟩ := hp
    have hS4 := hS3.pre
    rw [← List.foldl_append, show (List.range x).flatMap (fun x => gY k mv m (c ++ [nI x]) vu) ++ gY k mv m (c ++ [nI x]) vu = (List.range (x + 1)).flatMap (fun x => gY k mv m (c ++ [nI x]) vu) from by rw [List.range_succ, List.flatMap_append, List.flatMap_singleton]] at hS4
    refine j_inc (nx := 125) hJ dX6_search_122 rfl rfl (gi1 x) rfl ?_
    refine j_go (tgt := 92) hJ dX6_search_125 (by decide) ?_
    exact ih hxk h2 hS4
  refine j_p (nx := 1) hJ dX6_search_0 rfl rfl ?_
  refine j_p (nx := 2) hJ dX6_search_1 rfl rfl ?_
  refine j_ic_ne (nx := 5) (tgt := 89) hJ dX6_search_2 rfl (by decide) (fun c2 => ?_) (fun c2 => ?_)
  rotate_left
  · rw [gneq (by omega) (by omega)] at c2; omega
  refine j_c (nx := 90) hJ dX6_search_89 rfl gk_iconst_0 ?_
  refine j_p (nx := 92) hJ dX6_search_90 rfl rfl ?_
  exact loop1 0 (Nat.zero_le _) h hS
theorem r6_search {d : Nat} {h0 : GH} {R : Nat → List Int32} {N : Nat → Int32} {k ss mv gn : Nat} {md : Int32} (hk : N 1 = nI k) (hk3 : k ≤ 3) (hs : N 2 = nI ss) (hss : ss ≤ 6) (hmd : gmd md = true) (hmv : mv ≤ 4) (hgn : gn ≤ 8) : ∀ m, gSok (d + 10 + m) h0 R N k ss md mv gn m
  | 0 => r6_searchLeaf hk hk3 hs hss hmd hmv hgn
  | m + 1 => r6_searchStep hk hk3 hs hss hmd hmv hgn (r6_search hk hk3 hs hss hmd hmv hgn m)
set_option maxHeartbeats 4000000 in
theorem r6_storeBest {d : Nat} {h0 h : GH} {A : Nat → Nat → Int32} {E : Nat → Nat → Int64} {M : Nat → Int32} {pv tv : Value} (hP : gP h0 h A E M pv tv) {R : Nat → List Int32} {N : Nat → Int32} (hG : gG A E M R N) {r : Nat} (hr : r < 6) {l : List Int32} (h8 : l.length ≤ 8) (hR : gSt (A 114) 0 l) : gN false (d + 1) yX6_storeBest [.ref 99, .int (nI r), .int (nI l.length)] h (fun o h' => o = none ∧ ∃ A', gP h0 h' A' E M pv tv ∧ gG A' E M (gU R (5 + 2 * r) l) N ∧ A' 114 = A 114) := by
  refine gN.of MX6_storeBest (Nat.le_of_ble_eq_true rfl) (fun J n hJ => ?_)
  show J 0 [some (.ref 99), some (.int (nI r)), some (.int (nI l.length))] [] h (n, 0, 0, false)
  refine j_p (nx := 1) hJ dX6_storeBest_0 rfl rfl ?_
  refine j_get (nx := 4) hJ dX6_storeBest_1 rfl fX6_58 hP.1.1 (by rfl) ?_
  refine j_c (nx := 5) hJ dX6_storeBest_4 rfl gk_iconst_0 ?_
  refine j_p (nx := 6) hJ dX6_storeBest_5 rfl rfl ?_
  refine j_get (nx := 9) hJ dX6_storeBest_6 rfl fX6_15 hP.1.1 (by rfl) ?_
  refine j_c (nx := 11) hJ dX6_storeBest_9 rfl gk_bipush_8 ?_
  refine j_p (nx := 12) hJ dX6_storeBest_11 rfl rfl ?_
  refine j_p (nx := 13) hJ dX6_storeBest_12 rfl rfl ?_
  rw [show (8 : Int32) = nI 8 from rfl, gmul]
  refine j_p (nx := 14) hJ dX6_storeBest_13 rfl rfl ?_
  refine j_acp (nx := 17) hJ 0 (8 * r) l.length dX6_storeBest_14 rfl mX6_125 (gle8 rfl) (show h 114 = some (gia 8 (A 114)) from hP.a 114 (by unfold gia'; omega)) (show h 100 = some (gia 48 (A 100)) from hP.a 100 (by unfold gia'; omega)) rfl rfl rfl (by omega) (by omega) (by decide) (by decide) ?_
  have hP1 := hP.arr (a := 100) (by unfold gia'; omega) (va_cpy (A 114) (A 100) 0 (8 * r) l.length)
  refine j_p (nx := 18) hJ dX6_storeBest_17 rfl rfl ?_
  refine j_get (nx := 21) hJ dX6_storeBest_18 rfl fX6_19 hP1.1.1 (by rfl) ?_
  refine j_p (nx := 22) hJ dX6_storeBest_21 rfl rfl ?_
  refine j_p (nx := 23) hJ dX6_storeBest_22 rfl rfl ?_
  refine j_iast (j := r) (nx := 24) hJ dX6_storeBest_23 rfl (show (gup h 100 (gia 48 (va_cpy (A 114) (A 100) 0 (8 * r) l.length))) 101 = some (gia 6 ((gU A 100 (va_cpy (A 114) (A 100) 0 (8 * r) l.length)) 101)) from hP1.a 101 (by unfold gia'; omega)) rfl (by omega) (by decide) ?_
  have hP2 := hP1.arr (a := 101) (by unfold gia'; omega) (upd ((gU A 100 (va_cpy (A 114) (A 100) 0 (8 * r) l.length)) 101) (r) (nI l.length))
  refine j_vret hJ dX6_storeBest_24 ⟨rfl, _, hP2, hG.pat (A' := gU (gU A 100 (va_cpy (A 114) (A 100) 0 (8 * r) l.length)) 101 (upd (A 101) r (nI l.length))) hr ⟨?_, h8, ?_⟩ (fun i hi => ?_) (fun i hi => ?_) (fun a p1 p2 _ => ?_), ?_⟩
  · rw [gU_s]; simp [upd]
  · rw [gU_n _ _ (by omega), gU_s]; exact gcpy_st hR
  · rw [gU_n _ _ (by omega), gU_s, gcpy_out (by omega)]
  · rw [gU_s]; simp only [upd]; rw [if_neg hi]
  · rw [gU_n _ _ p2, gU_n _ _ p1]
  · rw [gU_n _ _ (by omega), gU_n _ _ (by omega)]
set_option maxHeartbeats 4000000 in
theorem r6_findPattern {d : Nat} {h0 h : GH} {R : Nat → List Int32} {N : Nat → Int32} (hS : gRS h0 h R N) (hI : gInv R N) (x z md : Int32) : gN false (d + 60) yX6_findPattern [.ref 99, .int x, .int z, .int md] h (fun o h' => o = some (.int (s_findPattern R N x z md).1) ∧ gRS h0 h' (s_findPattern R N x z md).2.1 (s_findPattern R N x z md).2.2) := by
  obtain ⟨A, E, M, pv, tv, hP, hG⟩ := hS
  have g0 := hG.1.1
  have g9 := hG.1.2.2.1
  obtain ⟨⟨k, ss, hk1, hk3, hss1, hss6, hpt, him, hsm⟩, hI2, hI3, hI4, hI5⟩ := hI
  have hW8 : ∀ i, i < ss → ((fun i => R (25 + 2 * i)) i).length ≤ 8 := fun i hi => (hsm i (by omega) hi).1
  refine gN.of MX6_findPattern (Nat.le_of_ble_eq_true rfl) (fun J n hJ => ?_)
  show J 0 [some (.ref 99), some (.int x), some (.int z), some (.int md)] [] h (n, 0, 0, false)
  by_cases hx : gbt x 6 = true
  · obtain ⟨r, rfl, hr⟩ := gbt_spec hx
    have egr := gr_nI (r := r) (by omega)
    have hl := hG.2.1 r hr
    have hl8 := hl.2.1
    have hpr := hpt r hr
    by_cases hm : (1 ≤ z.toInt ∧ z.toInt ≤ 5) ∧ gmd md = true
    · obtain ⟨zn, hzn⟩ : ∃ zn, z.toInt.toNat = zn := ⟨_, rfl⟩
      have hz := gnat (x := z) (by omega)
      rw [hzn] at hz
      have ez : s_findPattern R N (nI r) z md = (match gFB (fun i => R (25 + 2 * i)) ss md k zn with | some l => (gltr l, gU R (5 + 2 * r) l, N) | none => (-6, R, N)) := by unfold s_findPattern; rw [if_pos hx, if_pos hm, egr, gss_nI hss1 hss6, gkk_nI hk1 hk3.2, hzn]; rfl
      have hz6 : zn ≤ 5 := by omega
      rw [hz]
      refine j_p (nx := 1) hJ dX6_findPattern_0 rfl rfl ?_
      refine j_csR (nx := 4) hJ dX6_findPattern_1 rfl (r6_isRegister (fl := false) (d := d + 57) _) mX6_139 rfl (gle8 rfl) ?_
      rw [show gbt _ 6 = true from hx]
      refine j_if_ne (nx := 7) (tgt := 10) hJ dX6_findPattern_4 rfl (by decide) (fun c4 => ?_) (fun c4 => absurd c4 (by decide))
      refine j_p (nx := 11) hJ dX6_findPattern_10 rfl rfl ?_
      refine j_c (nx := 12) hJ dX6_findPattern_11 rfl gk_iconst_1 ?_
      refine j_c (nx := 13) hJ dX6_findPattern_12 rfl gk_iconst_5 ?_
      refine j_csR (nx := 16) hJ dX6_findPattern_13 rfl (r6_in (fl := false) (d := d + 58) _ 1 5) mX6_101 rfl (gle8 rfl) ?_
      rw [show gin (nI zn) 1 5 = true from decide_eq_true (by rw [show (5 : Int32) = nI 5 from rfl, show (1 : Int32) = nI 1 from rfl, gnle (by omega) (by omega), gnle (by omega) (by omega)]; omega)]
      refine j_if_eq (nx := 19) (tgt := 26) hJ dX6_findPattern_16 rfl (by decide) (fun c16 => absurd c16 (by decide)) (fun c16 => ?_)
      refine j_p (nx := 20) hJ dX6_findPattern_19 rfl rfl ?_
      refine j_csR (nx := 23) hJ dX6_findPattern_20 rfl (r6_isMode (fl := false) (d := d + 57) _) mX6_221 rfl (gle8 rfl) ?_
      rw [show gmd _ = true from hm.2]
      refine j_if_ne (nx := 26) (tgt := 28) hJ dX6_findPattern_23 rfl (by decide) (fun c23 => ?_) (fun c23 => absurd c23 (by decide))
      refine j_p (nx := 29) hJ dX6_findPattern_28 rfl rfl ?_
      refine j_c (nx := 30) hJ dX6_findPattern_29 rfl gk_iconst_0 ?_
      refine j_put (nx := 33) hJ dX6_findPattern_30 rfl fX6_253 (zX6_27 false) hP.1.1 (Nat.le_of_ble_eq_true rfl) ?_
      change J 33 _ _ (gup h 99 (gO (gU M 27 (0)) pv tv)) _
      have hP1 := hP.fld (gU M 27 (0)) pv tv
      have hG1 : gG A E (gU M 27 0) R N := hG.scr (fun a ha => rfl) rfl ⟨rfl, rfl, rfl, rfl, rfl, rfl⟩
      have hS1 : gSr h0 (gup h 99 (gO (gU M 27 0) pv tv)) R N zn [] none := ⟨_, _, _, _, _, hP1, hG1, (fun i v hv => by cases hv), gU_s _ _ _, (fun l hl => by cases hl)⟩
      refine j_p (nx := 34) hJ dX6_findPattern_33 rfl rfl ?_
      refine j_c (nx := 35) hJ dX6_findPattern_34 rfl gk_iconst_0 ?_
      refine j_p (nx := 36) hJ dX6_findPattern_35 rfl rfl ?_
      refine j_c (nx := 37) hJ dX6_findPattern_36 rfl gk_iconst_0 ?_
      refine j_c (nx := 38) hJ dX6_findPattern_37 rfl gk_iconst_4 ?_
      refine j_p (nx := 39) hJ dX6_findPattern_38 rfl rfl ?_
      have hse := r6_search (d := d + (49 - zn)) (h0 := h0) (R := R) (N := N) (mv := 4) (gn := zn) (md := md) hk1 hk3.2 hss1 hss6 hm.2 (by omega) (by omega) zn _ [] 0 none hS1 (by show 0 + zn = zn; omega) trivial rfl (by omega)
      rw [gFB_fold hk3.2 (by omega) hW8] at hse
      rw [show d + (49 - zn) + 10 + zn = d + 59 by omega] at hse
      refine j_cv (nx := 42) hJ dX6_findPattern_39 rfl hse mX6_257 hP1.1.1 kX6_search rfl (gle8 rfl) (fun o h2 hp => ?_)
      obtain ⟨rfl, A2, E2, M2, pv2, tv2, hP2, hG2, -, hm2, hb2⟩ := hp
      refine j_p (nx := 43) hJ dX6_findPattern_42 rfl rfl ?_
      refine j_get (nx := 46) hJ dX6_findPattern_43 rfl fX6_253 hP2.1.1 (by rfl) ?_
      rw [hm2]
      refine j_if_ne (nx := 49) (tgt := 52) hJ dX6_findPattern_46 rfl (by decide) (fun c46 => ?_) (fun c46 => ?_)
      rotate_left
      · have hg := gsome_f c46
        have e : s_findPattern R N (nI r) z md = (-6, R, N) := by rw [ez, hg]
        refine j_c (nx := 51) hJ dX6_findPattern_49 rfl gk_bipush_m6 ?_
        exact j_iret hJ dX6_findPattern_51 ⟨by rw [e], by rw [e]; exact ⟨_, _, _, _, _, hP2, hG2⟩⟩
      obtain ⟨l, hg⟩ := gsome_t c46
      obtain ⟨hl9, hlst⟩ := hb2 l hg
      have e : s_findPattern R N (nI r) z md = (gltr l, gU R (5 + 2 * r) l, N) := by rw [ez, hg]
      rw [← hl9]
      refine j_p (nx := 53) hJ dX6_findPattern_52 rfl rfl ?_
      refine j_p (nx := 54) hJ dX6_findPattern_53 rfl rfl ?_
      refine j_p (nx := 55) hJ dX6_findPattern_54 rfl rfl ?_
      refine j_cv (nx := 58) hJ dX6_findPattern_55 rfl (r6_storeBest (d := d + 58) hP2 hG2 hr (l := l) (by omega) hlst) mX6_261 hP2.1.1 kX6_storeBest rfl (gle8 rfl) (fun o h3 hp => ?_)
      obtain ⟨rfl, A3, hP3, hG3, ha3⟩ := hp
      refine j_p (nx := 59) hJ dX6_findPattern_58 rfl rfl ?_
      refine j_get (nx := 62) hJ dX6_findPattern_59 rfl fX6_58 hP3.1.1 (by rfl) ?_
      refine j_c (nx := 63) hJ dX6_findPattern_62 rfl gk_iconst_0 ?_
      refine j_p (nx := 64) hJ dX6_findPattern_63 rfl rfl ?_
      refine j_csR (nx := 67) hJ dX6_findPattern_64 rfl (r6_lettersIn (fl := false) (d := d + 58) (show h3 114 = some (gia 8 (A3 114)) from hP3.a 114 (by unfold gia'; omega)) (p := 0) (l := l) (by rw [ha3]; exact hlst) (by show 0 + l.length ≤ 8; omega) (by decide)) mX6_160 rfl (gle8 rfl) ?_
      exact j_iret hJ dX6_findPattern_67 ⟨by rw [e], by rw [e]; exact ⟨_, _, _, _, _, hP3, hG3⟩⟩
    · refine j_p (nx := 1) hJ dX6_findPattern_0 rfl rfl ?_
      refine j_csR (nx := 4) hJ dX6_findPattern_1 rfl (r6_isRegister (fl := false) (d := d + 57) _) mX6_139 rfl (gle8 rfl) ?_
      rw [show gbt _ 6 = true from hx]
      refine j_if_ne (nx := 7) (tgt := 10) hJ dX6_findPattern_4 rfl (by decide) (fun c4 => ?_) (fun c4 => absurd c4 (by decide))
      refine j_p (nx := 11) hJ dX6_findPattern_10 rfl rfl ?_
      refine j_c (nx := 12) hJ dX6_findPattern_11 rfl gk_iconst_1 ?_
      refine j_c (nx := 13) hJ dX6_findPattern_12 rfl gk_iconst_5 ?_
      refine j_csR (nx := 16) hJ dX6_findPattern_13 rfl (r6_in (fl := false) (d := d + 58) z 1 5) mX6_101 rfl (gle8 rfl) ?_
      refine j_if_eq (nx := 19) (tgt := 26) hJ dX6_findPattern_16 rfl (by decide) (fun c16 => ?_) (fun c16 => ?_)
      · refine j_c (nx := 27) hJ dX6_findPattern_26 rfl gk_iconst_m1 ?_
        have e : s_findPattern R N (nI r) z md = (-1, R, N) := by unfold s_findPattern; rw [if_pos hx, if_neg hm]
        exact j_iret hJ dX6_findPattern_27 ⟨by rw [e], by rw [e]; exact ⟨A, E, M, pv, tv, hP, hG⟩⟩
      · refine j_p (nx := 20) hJ dX6_findPattern_19 rfl rfl ?_
        refine j_csR (nx := 23) hJ dX6_findPattern_20 rfl (r6_isMode (fl := false) (d := d + 57) md) mX6_221 rfl (gle8 rfl) ?_
        refine j_if_ne (nx := 26) (tgt := 28) hJ dX6_findPattern_23 rfl (by decide) (fun c23 => ?_) (fun c23 => ?_)
        · rw [gb_t] at c16 c23
          have u := of_decide_eq_true c16
          rw [Int32.le_iff_toInt_le, Int32.le_iff_toInt_le, show (1 : Int32).toInt = 1 by decide, show (5 : Int32).toInt = 5 by decide] at u
          exact absurd ⟨u, c23⟩ hm
        · refine j_c (nx := 27) hJ dX6_findPattern_26 rfl gk_iconst_m1 ?_
          have e : s_findPattern R N (nI r) z md = (-1, R, N) := by unfold s_findPattern; rw [if_pos hx, if_neg hm]
          exact j_iret hJ dX6_findPattern_27 ⟨by rw [e], by rw [e]; exact ⟨A, E, M, pv, tv, hP, hG⟩⟩
  · refine j_p (nx := 1) hJ dX6_findPattern_0 rfl rfl ?_
    refine j_csR (nx := 4) hJ dX6_findPattern_1 rfl (r6_isRegister (fl := false) (d := d + 57) _) mX6_139 rfl (gle8 rfl) ?_
    rw [show gbt _ 6 = false from Bool.eq_false_iff.mpr hx]
    refine j_if_ne (nx := 7) (tgt := 10) hJ dX6_findPattern_4 rfl (by decide) (fun c4 => absurd c4 (by decide)) (fun c4 => ?_)
    refine j_c (nx := 9) hJ dX6_findPattern_7 rfl gk_bipush_m2 ?_
    have e : s_findPattern R N x z md = (-2, R, N) := if_neg hx
    exact j_iret hJ dX6_findPattern_9 ⟨by rw [e], by rw [e]; exact ⟨A, E, M, pv, tv, hP, hG⟩⟩
set_option maxHeartbeats 4000000 in
theorem r6_findOneVariable {d : Nat} {h0 h : GH} {R : Nat → List Int32} {N : Nat → Int32} (hS : gRS h0 h R N) (hI : gInv R N) (x : Int32) : gN false (d + 60) yX6_findOneVariable [.ref 99, .int x] h (fun o h' => o = some (.int (s_findOneVariable R N x).1) ∧ gRS h0 h' (s_findOneVariable R N x).2.1 (s_findOneVariable R N x).2.2) := by
  obtain ⟨A, E, M, pv, tv, hP, hG⟩ := hS
  have g0 := hG.1.1
  have g9 := hG.1.2.2.1
  obtain ⟨⟨k, ss, hk1, hk3, hss1, hss6, hpt, him, hsm⟩, hI2, hI3, hI4, hI5⟩ := hI
  have hW8 : ∀ i, i < ss → ((fun i => R (25 + 2 * i)) i).length ≤ 8 := fun i hi => (hsm i (by omega) hi).1
  refine gN.of MX6_findOneVariable (Nat.le_of_ble_eq_true rfl) (fun J n hJ => ?_)
  show J 0 [some (.ref 99), some (.int x), none] [] h (n, 0, 0, false)
  by_cases hx : gbt x 6 = true
  · obtain ⟨r, rfl, hr⟩ := gbt_spec hx
    have egr := gr_nI (r := r) (by omega)
    have hl := hG.2.1 r hr
    have hl8 := hl.2.1
    have hpr := hpt r hr
    have ez : s_findOneVariable R N (nI r) = (match (List.range 7).findSome? (fun j => (gOne k (7 - j)).find? (gfit (fun i => R (25 + 2 * i)) ss 0)) with | some l => (nI l.length, gU R (5 + 2 * r) l, N) | none => (-6, R, N)) := by unfold s_findOneVariable; rw [if_pos hx, egr, gss_nI hss1 hss6, gkk_nI hk1 hk3.2, gFX_find hk3.2 hW8]; rfl
    have loop : ∀ j, j ≤ 7 → ∀ (h1 : GH), gSr h0 h1 R N (7 - j) [] none → (∀ i, i < j → (fun j => (gOne k (7 - j)).find? (gfit (fun i => R (25 + 2 * i)) ss 0)) i = none) → J 18 [some (.ref 99), some (.int (nI r)), some (.int (nI (7 - j)))] [] h1 (n, 0, 0, false) := by
      refine gloop _ _ (fun j hj ih h1 hS1 hno => ?_)
      refine j_p (nx := 19) hJ dX6_findOneVariable_18 rfl rfl ?_
      refine j_c (nx := 20) hJ dX6_findOneVariable_19 rfl gk_iconst_1 ?_
      refine j_ic_lt (nx := 23) (tgt := 53) hJ dX6_findOneVariable_20 rfl (by decide) (fun c20 => ?_) (fun c20 => ?_)
      · rw [show (1 : Int32) = nI 1 from rfl, gnlt (by omega) (by omega)] at c20
        have e : s_findOneVariable R N (nI r) = (-6, R, N) := by rw [ez, gfs_n (fun i hi => hno i (by omega))]
        obtain ⟨A1, E1, M1, pv1, tv1, hP1, hG1, -⟩ := hS1
        refine j_c (nx := 55) hJ dX6_findOneVariable_53 rfl gk_bipush_m6 ?_
        exact j_iret hJ dX6_findOneVariable_55 ⟨by rw [e], by rw [e]; exact ⟨_, _, _, _, _, hP1, hG1⟩⟩
      rw [show (1 : Int32) = nI 1 from rfl, gnlt (by omega) (by omega)] at c20
      have hj7 : j < 7 := by omega
      have h99 : ∃ M1 pv1 tv1, h1 99 = some (gO M1 pv1 tv1) := by obtain ⟨A1, E1, M1, pv1, tv1, hP1, _⟩ := hS1; exact ⟨_, _, _, hP1.1.1⟩
      obtain ⟨M1, pv1, tv1, h99⟩ := h99
      refine j_p (nx := 24) hJ dX6_findOneVariable_23 rfl rfl ?_
      refine j_c (nx := 25) hJ dX6_findOneVariable_24 rfl gk_iconst_0 ?_
      refine j_p (nx := 26) hJ dX6_findOneVariable_25 rfl rfl ?_
      refine j_c (nx := 27) hJ dX6_findOneVariable_26 rfl gk_iconst_0 ?_
      refine j_c (nx := 28) hJ dX6_findOneVariable_27 rfl gk_iconst_1 ?_
      refine j_c (nx := 29) hJ dX6_findOneVariable_28 rfl gk_iconst_0 ?_
      have hse := r6_search (d := d + (49 - (7 - j))) (h0 := h0) (R := R) (N := N) (mv := 1) (gn := 7 - j) (md := 0) hk1 hk3.2 hss1 hss6 (by decide) (by omega) (by omega) (7 - j) h1 [] 0 none hS1 (by show 0 + (7 - j) = 7 - j; omega) trivial rfl (by omega)
      rw [gOne_fold hk3.2 (by omega)] at hse
      rw [show d + (49 - (7 - j)) + 10 + (7 - j) = d + 59 by omega] at hse
      refine j_cv (nx := 32) hJ dX6_findOneVariable_29 rfl hse mX6_257 h99 kX6_search rfl (gle8 rfl) (fun o h2 hp => ?_)
      obtain ⟨rfl, A2, E2, M2, pv2, tv2, hP2, hG2, hst2, hm2, hb2⟩ := hp
      refine j_p (nx := 33) hJ dX6_findOneVariable_32 rfl rfl ?_
      refine j_get (nx := 36) hJ dX6_findOneVariable_33 rfl fX6_253 hP2.1.1 (by rfl) ?_
      rw [hm2]
      refine j_if_eq (nx := 39) (tgt := 47) hJ dX6_findOneVariable_36 rfl (by decide) (fun c36 => ?_) (fun c36 => ?_)
      · have hg := gsome_f c36
        refine j_inc (nx := 50) hJ dX6_findOneVariable_47 rfl rfl (gdec (7 - j) (by omega)) rfl ?_
        refine j_go (tgt := 18) hJ dX6_findOneVariable_50 (by decide) ?_
        refine ih hj7 h2 ⟨_, _, _, _, _, hP2, hG2, hst2, by rw [hm2, hg], fun l hl => by cases hl⟩ (fun i hi => ?_)
        by_cases e9 : i = j
        · subst e9; exact hg
        · exact hno i (by omega)
      obtain ⟨l, hg⟩ := gsome_t c36
      obtain ⟨hl9, hlst⟩ := hb2 l hg
      have e : s_findOneVariable R N (nI r) = (nI l.length, gU R (5 + 2 * r) l, N) := by rw [ez, gfs_s (k := j) hno hj7 hg]
      rw [← hl9]
      refine j_p (nx := 40) hJ dX6_findOneVariable_39 rfl rfl ?_
      refine j_p (nx := 41) hJ dX6_findOneVariable_40 rfl rfl ?_
      refine j_p (nx := 42) hJ dX6_findOneVariable_41 rfl rfl ?_
      refine j_cv (nx := 45) hJ dX6_findOneVariable_42 rfl (r6_storeBest (d := d + 58) hP2 hG2 hr (l := l) (by omega) hlst) mX6_261 hP2.1.1 kX6_storeBest rfl (gle8 rfl) (fun o h3 hp => ?_)
      obtain ⟨rfl, A3, hP3, hG3, ha3⟩ := hp
      refine j_p (nx := 46) hJ dX6_findOneVariable_45 rfl rfl ?_
      exact j_iret hJ dX6_findOneVariable_46 ⟨by rw [e], by rw [e]; exact ⟨_, _, _, _, _, hP3, hG3⟩⟩
    refine j_p (nx := 1) hJ dX6_findOneVariable_0 rfl rfl ?_
    refine j_csR (nx := 4) hJ dX6_findOneVariable_1 rfl (r6_isRegister (fl := false) (d := d + 57) _) mX6_139 rfl (gle8 rfl) ?_
    rw [show gbt _ 6 = true from hx]
    refine j_if_ne (nx := 7) (tgt := 10) hJ dX6_findOneVariable_4 rfl (by decide) (fun c4 => ?_) (fun c4 => absurd c4 (by decide))
    refine j_p (nx := 11) hJ dX6_findOneVariable_10 rfl rfl ?_
    refine j_c (nx := 12) hJ dX6_findOneVariable_11 rfl gk_iconst_0 ?_
    refine j_put (nx := 15) hJ dX6_findOneVariable_12 rfl fX6_253 (zX6_27 false) hP.1.1 (Nat.le_of_ble_eq_true rfl) ?_
    change J 15 _ _ (gup h 99 (gO (gU M 27 (0)) pv tv)) _
    have hP1 := hP.fld (gU M 27 (0)) pv tv
    have hG1 : gG A E (gU M 27 0) R N := hG.scr (fun a ha => rfl) rfl ⟨rfl, rfl, rfl, rfl, rfl, rfl⟩
    have hS1 : gSr h0 (gup h 99 (gO (gU M 27 0) pv tv)) R N (7 - 0) [] none := ⟨_, _, _, _, _, hP1, hG1, (fun i v hv => by cases hv), gU_s _ _ _, (fun l hl => by cases hl)⟩
    refine j_c (nx := 17) hJ dX6_findOneVariable_15 rfl gk_bipush_7 ?_
    refine j_p (nx := 18) hJ dX6_findOneVariable_17 rfl rfl ?_
    exact loop 0 (Nat.zero_le _) _ hS1 (fun i hi => by omega)
  · refine j_p (nx := 1) hJ dX6_findOneVariable_0 rfl rfl ?_
    refine j_csR (nx := 4) hJ dX6_findOneVariable_1 rfl (r6_isRegister (fl := false) (d := d + 57) _) mX6_139 rfl (gle8 rfl) ?_
    rw [show gbt _ 6 = false from Bool.eq_false_iff.mpr hx]
    refine j_if_ne (nx := 7) (tgt := 10) hJ dX6_findOneVariable_4 rfl (by decide) (fun c4 => absurd c4 (by decide)) (fun c4 => ?_)
    refine j_c (nx := 9) hJ dX6_findOneVariable_7 rfl gk_bipush_m2 ?_
    have e : s_findOneVariable R N x = (-2, R, N) := if_neg hx
    exact j_iret hJ dX6_findOneVariable_9 ⟨by rw [e], by rw [e]; exact ⟨A, E, M, pv, tv, hP, hG⟩⟩
