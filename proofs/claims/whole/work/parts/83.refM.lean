def gsol (p t : List Int32) (md : Int32) : List (Nat → Nat) := if glc p ≤ t.length then gch p t (gL md) (gus p) 4 (fun _ => 0) (t.length - glc p) else []
theorem gcount_us {p : List Int32} {v : Nat} (hv : v < 4) : p.count (nI (10 + v)) = gus p v := by
  rw [gus_cP]
  unfold List.count
  congr 1
  funext c
  by_cases e : c = nI (10 + v)
  · rw [e, gvo_nI hv]; simp
  · rw [decide_eq_false (fun q => e (gvo_some q).2.2)]
    simpa using e
set_option maxHeartbeats 4000000 in
theorem r6_chooseN {h0 : GH} {E : Nat → Nat → Int64} {M : Nat → Int32} {pa ta L : Nat} {us : Nat → Nat} {z : Int32} (hz : z.toInt < 0) (hL : M 21 = nI L) (hL1 : L ≤ 1) (hus8 : ∀ u, us u ≤ 48) : ∀ (m D0 : Nat) (h : GH) (A : Nat → Nat → Int32) (v : Nat), v + m = 4 → gP h0 h A E M (.ref pa) (.ref ta) → (∀ u, u < 4 → A 109 u = nI (us u)) → gN false (D0 + 1 + m) yX6_choose [.ref 99, .int (nI v), .int z] h (fun o h' => o = none ∧ ∃ f, gP h0 h' (gU A 110 f) E M (.ref pa) (.ref ta)) := by
  intro m
  induction m with
  | zero =>
    intro D0 h A v hv hP hus
    refine gN.of MX6_choose (Nat.le_of_ble_eq_true rfl) (fun J n hJ => ?_)
    show J 0 [some (.ref 99), some (.int (nI v)), some (.int z), none] [] h (n, 0, 0, false)
    refine j_p (nx := 1) hJ dX6_choose_0 rfl rfl ?_
    refine j_c (nx := 2) hJ dX6_choose_1 rfl gk_iconst_4 ?_
    refine j_ic_ne (nx := 5) (tgt := 59) hJ dX6_choose_2 rfl (by decide) (fun c2 => absurd c2 (fun q => q (by rw [show v = 4 by omega]; rfl))) (fun c2 => ?_)
    refine j_p (nx := 6) hJ dX6_choose_5 rfl rfl ?_
    refine j_if_ne (nx := 9) (tgt := 58) hJ dX6_choose_6 rfl (by decide) (fun c6 => ?_) (fun c6 => absurd c6 (by intro q; rw [q] at hz; exact absurd hz (by decide)))
    exact j_vret hJ dX6_choose_58 ⟨rfl, A 110, hP.rw (gU_self A 110) (fun _ => rfl) (fun _ => rfl)⟩
  | succ m ih =>
    intro D0 h A v hv hP hus
    have hus9 := hus8 v
    show gN false (D0 + 1 + m + 1) _ _ _ _
    refine gN.of MX6_choose (Nat.le_of_ble_eq_true rfl) (fun J n hJ => ?_)
    show J 0 [some (.ref 99), some (.int (nI v)), some (.int z), none] [] h (n, 0, 0, false)
    by_cases hu0 : us v = 0
    · refine j_p (nx := 1) hJ dX6_choose_0 rfl rfl ?_
      refine j_c (nx := 2) hJ dX6_choose_1 rfl gk_iconst_4 ?_
      refine j_ic_ne (nx := 5) (tgt := 59) hJ dX6_choose_2 rfl (by decide) (fun c2 => ?_) (fun c2 => absurd c2 (by rw [show (4 : Int32) = nI 4 from rfl, gneq (by omega) (by omega)]; omega))
      refine j_p (nx := 60) hJ dX6_choose_59 rfl rfl ?_
      refine j_get (nx := 63) hJ dX6_choose_60 rfl fX6_43 hP.1.1 (by rfl) ?_
      refine j_p (nx := 64) hJ dX6_choose_63 rfl rfl ?_
      refine j_iald (j := v) (nx := 65) hJ dX6_choose_64 rfl (show h 109 = some (gia 4 (A 109)) from hP.a 109 (by unfold gia'; omega)) rfl (by omega) (by decide) ?_
      rw [hus v (by omega)]
      refine j_if_ne (nx := 68) (tgt := 84) hJ dX6_choose_65 rfl (by decide) (fun c65 => absurd c65 (fun q => q (by rw [hu0]; rfl))) (fun c65 => ?_)
      refine j_p (nx := 69) hJ dX6_choose_68 rfl rfl ?_
      refine j_get (nx := 72) hJ dX6_choose_69 rfl fX6_46 hP.1.1 (by rfl) ?_
      refine j_p (nx := 73) hJ dX6_choose_72 rfl rfl ?_
      refine j_c (nx := 74) hJ dX6_choose_73 rfl gk_iconst_0 ?_
      refine j_iast (j := v) (nx := 75) hJ dX6_choose_74 rfl (show h 110 = some (gia 4 (A 110)) from hP.a 110 (by unfold gia'; omega)) rfl (by omega) (by decide) ?_
      have hP1 : gP h0 (gup h 110 (gia 4 (upd (A 110) v (nI 0)))) (gU A 110 (upd (A 110) v (nI 0))) E M (.ref pa) (.ref ta) := hP.arr (a := 110) (by unfold gia'; omega) _
      refine j_p (nx := 76) hJ dX6_choose_75 rfl rfl ?_
      refine j_p (nx := 77) hJ dX6_choose_76 rfl rfl ?_
      refine j_c (nx := 78) hJ dX6_choose_77 rfl gk_iconst_1 ?_
      refine j_p (nx := 79) hJ dX6_choose_78 rfl rfl ?_
      rw [show nI v + 1 = nI (v + 1) from (nI_succ v).symm]
      refine j_p (nx := 80) hJ dX6_choose_79 rfl rfl ?_
      refine j_cv (nx := 83) hJ dX6_choose_80 rfl (ih D0 _ (gU A 110 (upd (A 110) v (nI 0))) (v + 1) (by omega) hP1 hus) mX6_209 hP1.1.1 kX6_choose rfl (gle8 rfl) (fun o h2 hp => ?_)
      obtain ⟨rfl, f, hP2⟩ := hp
      exact j_vret hJ dX6_choose_83 ⟨rfl, f, hP2.uu⟩
    · refine j_p (nx := 1) hJ dX6_choose_0 rfl rfl ?_
      refine j_c (nx := 2) hJ dX6_choose_1 rfl gk_iconst_4 ?_
      refine j_ic_ne (nx := 5) (tgt := 59) hJ dX6_choose_2 rfl (by decide) (fun c2 => ?_) (fun c2 => absurd c2 (by rw [show (4 : Int32) = nI 4 from rfl, gneq (by omega) (by omega)]; omega))
      refine j_p (nx := 60) hJ dX6_choose_59 rfl rfl ?_
      refine j_get (nx := 63) hJ dX6_choose_60 rfl fX6_43 hP.1.1 (by rfl) ?_
      refine j_p (nx := 64) hJ dX6_choose_63 rfl rfl ?_
      refine j_iald (j := v) (nx := 65) hJ dX6_choose_64 rfl (show h 109 = some (gia 4 (A 109)) from hP.a 109 (by unfold gia'; omega)) rfl (by omega) (by decide) ?_
      rw [hus v (by omega)]
      refine j_if_ne (nx := 68) (tgt := 84) hJ dX6_choose_65 rfl (by decide) (fun c65 => ?_) (fun c65 => absurd c65 (by rw [gz0 (by omega)]; exact hu0))
      refine j_p (nx := 85) hJ dX6_choose_84 rfl rfl ?_
      refine j_get (nx := 88) hJ dX6_choose_85 rfl fX6_200 hP.1.1 (by rfl) ?_
      rw [hL]
      refine j_p (nx := 89) hJ dX6_choose_88 rfl rfl ?_
      refine j_p (nx := 90) hJ dX6_choose_89 rfl rfl ?_
      refine j_p (nx := 91) hJ dX6_choose_90 rfl rfl ?_
      refine j_get (nx := 94) hJ dX6_choose_91 rfl fX6_43 hP.1.1 (by rfl) ?_
      refine j_p (nx := 95) hJ dX6_choose_94 rfl rfl ?_
      refine j_iald (j := v) (nx := 96) hJ dX6_choose_95 rfl (show h 109 = some (gia 4 (A 109)) from hP.a 109 (by unfold gia'; omega)) rfl (by omega) (by decide) ?_
      rw [hus v (by omega)]
      refine j_p (nx := 97) hJ dX6_choose_96 rfl rfl ?_
      rw [gmul]
      refine j_p (nx := 98) hJ dX6_choose_97 rfl rfl ?_
      refine j_ic_gt (nx := 101) (tgt := 142) hJ dX6_choose_98 rfl (by decide) (fun c98 => ?_) (fun c98 => absurd c98 (fun q => q (by rw [Int32.lt_iff_toInt_lt, nI_toInt (by have := Nat.mul_le_mul hL1 (hus8 v); omega)]; omega)))
      exact j_vret hJ dX6_choose_142 ⟨rfl, A 110, hP.rw (gU_self A 110) (fun _ => rfl) (fun _ => rfl)⟩
set_option maxHeartbeats 4000000 in
theorem r6_matchP {d : Nat} {h0 h : GH} {A : Nat → Nat → Int32} {E : Nat → Nat → Int64} {M : Nat → Int32} {pv tv : Value} (hP : gP h0 h A E M pv tv) {pa po ta tq : Nat} {p t : List Int32} (xpa : gia' pa) (xta : gia' ta) (xpn : pa < 109 ∨ 112 < pa) (xtn : ta < 109 ∨ 112 < ta) (xsp : gSt (A pa) po p) (xst : gSt (A ta) tq t) (xpl : po + p.length ≤ gasz pa) (xtl : tq + t.length ≤ gasz ta) (xsy : ∀ c ∈ p, gsy c) {md : Int32} (hmd : gmd md = true) {mst : Nat} (hm1 : 1 ≤ mst) (hm31 : mst < 2 ^ 31) : gN false (d + 8) yX6_match [.ref 99, .ref pa, .int (nI po), .int (nI p.length), .ref ta, .int (nI tq), .int (nI t.length), .int md, .int (nI mst)] h (fun o h' => o = some (.int (nI (min mst (gsol p t md).length))) ∧ ∃ A' M', gP h0 h' A' E M' (.ref pa) (.ref ta) ∧ (∀ a, a ≠ 109 → a ≠ 110 → a ≠ 111 → a ≠ 112 → A' a = A a) ∧ (∀ i, i ≠ 14 → i ≠ 15 → i ≠ 17 → i ≠ 21 → i ≠ 22 → i ≠ 23 → M' i = M i) ∧ (gsol p t md ≠ [] → ∀ u, u < 4 → A' 111 u = nI (((gsol p t md).headD (fun _ => 0)) u))) := by
  have xz1 := gasz_le pa
  have xz2 := gasz_le ta
  have hlc8 : glc p ≤ p.length := List.countP_le_length
  have hmdv : (1 : Int32) - md = nI (gL md) := by
    rcases of_decide_eq_true hmd with e | e
    · rw [e]; rfl
    · rw [e]; rfl
  refine gN.of MX6_match (Nat.le_of_ble_eq_true rfl) (fun J n hJ => ?_)
  show J 0 [some (.ref 99), some (.ref pa), some (.int (nI po)), some (.int (nI p.length)), some (.ref ta), some (.int (nI tq)), some (.int (nI t.length)), some (.int md), some (.int (nI mst)), none] [] h (n, 0, 0, false)
  refine j_p (nx := 1) hJ dX6_match_0 rfl rfl ?_
  refine j_p (nx := 2) hJ dX6_match_1 rfl rfl ?_
  refine j_put (nx := 5) hJ dX6_match_2 rfl fX6_185 (zX6_13 _) hP.1.1 (Nat.le_of_ble_eq_true rfl) ?_
  change J 5 _ _ (gup _ 99 (gO M (.ref pa) tv)) _
  have hP1 := hP.fld M (.ref pa) tv
  generalize gup _ 99 (gO M (.ref pa) tv) = g1 at hP1 ⊢
  refine j_p (nx := 6) hJ dX6_match_5 rfl rfl ?_
  refine j_p (nx := 7) hJ dX6_match_6 rfl rfl ?_
  refine j_put (nx := 10) hJ dX6_match_7 rfl fX6_188 (zX6_14 _) hP1.1.1 (Nat.le_of_ble_eq_true rfl) ?_
  change J 10 _ _ (gup _ 99 (gO (gU M 14 (nI po)) (.ref pa) tv)) _
  have hP2 := hP1.fld (gU M 14 (nI po)) (.ref pa) tv
  generalize gup _ 99 (gO (gU M 14 (nI po)) (.ref pa) tv) = g2 at hP2 ⊢
  refine j_p (nx := 11) hJ dX6_match_10 rfl rfl ?_
  refine j_p (nx := 12) hJ dX6_match_11 rfl rfl ?_
  refine j_put (nx := 15) hJ dX6_match_12 rfl fX6_191 (zX6_15 _) hP2.1.1 (Nat.le_of_ble_eq_true rfl) ?_
  change J 15 _ _ (gup _ 99 (gO (gU (gU M 14 (nI po)) 15 (nI p.length)) (.ref pa) tv)) _
  have hP3 := hP2.fld (gU (gU M 14 (nI po)) 15 (nI p.length)) (.ref pa) tv
  generalize gup _ 99 (gO (gU (gU M 14 (nI po)) 15 (nI p.length)) (.ref pa) tv) = g3 at hP3 ⊢
  refine j_p (nx := 16) hJ dX6_match_15 rfl rfl ?_
  refine j_p (nx := 18) hJ dX6_match_16 rfl rfl ?_
  refine j_put (nx := 21) hJ dX6_match_18 rfl fX6_194 (zX6_16 _) hP3.1.1 (Nat.le_of_ble_eq_true rfl) ?_
  change J 21 _ _ (gup _ 99 (gO (gU (gU M 14 (nI po)) 15 (nI p.length)) (.ref pa) (.ref ta))) _
  have hP4 := hP3.fld (gU (gU M 14 (nI po)) 15 (nI p.length)) (.ref pa) (.ref ta)
  generalize gup _ 99 (gO (gU (gU M 14 (nI po)) 15 (nI p.length)) (.ref pa) (.ref ta)) = g4 at hP4 ⊢
  refine j_p (nx := 22) hJ dX6_match_21 rfl rfl ?_
  refine j_p (nx := 24) hJ dX6_match_22 rfl rfl ?_
  refine j_put (nx := 27) hJ dX6_match_24 rfl fX6_197 (zX6_17 _) hP4.1.1 (Nat.le_of_ble_eq_true rfl) ?_
  change J 27 _ _ (gup _ 99 (gO (gU (gU (gU M 14 (nI po)) 15 (nI p.length)) 17 (nI tq)) (.ref pa) (.ref ta))) _
  have hP5 := hP4.fld (gU (gU (gU M 14 (nI po)) 15 (nI p.length)) 17 (nI tq)) (.ref pa) (.ref ta)
  generalize gup _ 99 (gO (gU (gU (gU M 14 (nI po)) 15 (nI p.length)) 17 (nI tq)) (.ref pa) (.ref ta)) = g5 at hP5 ⊢
  refine j_p (nx := 28) hJ dX6_match_27 rfl rfl ?_
  refine j_c (nx := 29) hJ dX6_match_28 rfl gk_iconst_1 ?_
  refine j_p (nx := 31) hJ dX6_match_29 rfl rfl ?_
  refine j_p (nx := 32) hJ dX6_match_31 rfl rfl ?_
  rw [show (1 : Int32) - md = nI (gL md) from hmdv]
  refine j_put (nx := 35) hJ dX6_match_32 rfl fX6_200 (zX6_21 _) hP5.1.1 (Nat.le_of_ble_eq_true rfl) ?_
  change J 35 _ _ (gup _ 99 (gO (gU (gU (gU (gU M 14 (nI po)) 15 (nI p.length)) 17 (nI tq)) 21 (nI (gL md))) (.ref pa) (.ref ta))) _
  have hP6 := hP5.fld (gU (gU (gU (gU M 14 (nI po)) 15 (nI p.length)) 17 (nI tq)) 21 (nI (gL md))) (.ref pa) (.ref ta)
  generalize gup _ 99 (gO (gU (gU (gU (gU M 14 (nI po)) 15 (nI p.length)) 17 (nI tq)) 21 (nI (gL md))) (.ref pa) (.ref ta)) = g6 at hP6 ⊢
  refine j_p (nx := 36) hJ dX6_match_35 rfl rfl ?_
  refine j_p (nx := 38) hJ dX6_match_36 rfl rfl ?_
  refine j_put (nx := 41) hJ dX6_match_38 rfl fX6_203 (zX6_22 _) hP6.1.1 (Nat.le_of_ble_eq_true rfl) ?_
  change J 41 _ _ (gup _ 99 (gO (gU (gU (gU (gU (gU M 14 (nI po)) 15 (nI p.length)) 17 (nI tq)) 21 (nI (gL md))) 22 (nI mst)) (.ref pa) (.ref ta))) _
  have hP7 := hP6.fld (gU (gU (gU (gU (gU M 14 (nI po)) 15 (nI p.length)) 17 (nI tq)) 21 (nI (gL md))) 22 (nI mst)) (.ref pa) (.ref ta)
  generalize gup _ 99 (gO (gU (gU (gU (gU (gU M 14 (nI po)) 15 (nI p.length)) 17 (nI tq)) 21 (nI (gL md))) 22 (nI mst)) (.ref pa) (.ref ta)) = g7 at hP7 ⊢
  refine j_p (nx := 42) hJ dX6_match_41 rfl rfl ?_
  refine j_c (nx := 43) hJ dX6_match_42 rfl gk_iconst_0 ?_
  refine j_put (nx := 46) hJ dX6_match_43 rfl fX6_206 (zX6_23 _) hP7.1.1 (Nat.le_of_ble_eq_true rfl) ?_
  change J 46 _ _ (gup _ 99 (gO (gU (gU (gU (gU (gU (gU M 14 (nI po)) 15 (nI p.length)) 17 (nI tq)) 21 (nI (gL md))) 22 (nI mst)) 23 (0)) (.ref pa) (.ref ta))) _
  have hP8 := hP7.fld (gU (gU (gU (gU (gU (gU M 14 (nI po)) 15 (nI p.length)) 17 (nI tq)) 21 (nI (gL md))) 22 (nI mst)) 23 (0)) (.ref pa) (.ref ta)
  generalize gup _ 99 (gO (gU (gU (gU (gU (gU (gU M 14 (nI po)) 15 (nI p.length)) 17 (nI tq)) 21 (nI (gL md))) 22 (nI mst)) 23 (0)) (.ref pa) (.ref ta)) = g8 at hP8 ⊢
  refine j_c (nx := 47) hJ dX6_match_46 rfl gk_iconst_0 ?_
  refine j_p (nx := 49) hJ dX6_match_47 rfl rfl ?_
  have loop : ∀ i, i ≤ 4 → ∀ (h1 : GH) (f : Nat → Int32), gP h0 h1 (gU A 109 f) E (gU (gU (gU (gU (gU (gU M 14 (nI po)) 15 (nI p.length)) 17 (nI tq)) 21 (nI (gL md))) 22 (nI mst)) 23 (0)) (.ref pa) (.ref ta) → (∀ u, u < i → f u = nI (gus p u)) → J 49 [some (.ref 99), some (.ref pa), some (.int (nI po)), some (.int (nI p.length)), some (.ref ta), some (.int (nI tq)), some (.int (nI t.length)), some (.int md), some (.int (nI mst)), some (.int (nI i))] [] h1 (n, 0, 0, false) := by
    refine gloop _ _ (fun i hi ih h1 f hQ1 hf => ?_)
    refine j_p (nx := 51) hJ dX6_match_49 rfl rfl ?_
    refine j_c (nx := 52) hJ dX6_match_51 rfl gk_iconst_4 ?_
    refine j_ic_ge (nx := 55) (tgt := 79) hJ dX6_match_52 rfl (by decide) (fun c52 => ?_) (fun c52 => ?_)
    · rw [show (4 : Int32) = nI 4 from rfl, gnle (by omega) (by omega)] at c52
      have hX1 : gXc (gU A 109 f) (gU (gU (gU (gU (gU (gU M 14 (nI po)) 15 (nI p.length)) 17 (nI tq)) 21 (nI (gL md))) 22 (nI mst)) 23 (0)) pa po p ta tq t := ⟨rfl, rfl, rfl, xpa, xta, xpn, xtn, by rw [gU_n _ _ (by omega)]; exact xsp, by rw [gU_n _ _ (by omega)]; exact xst, xpl, xtl, xsy⟩
      refine j_p (nx := 80) hJ dX6_match_79 rfl rfl ?_
      refine j_c (nx := 81) hJ dX6_match_80 rfl gk_iconst_0 ?_
      refine j_p (nx := 83) hJ dX6_match_81 rfl rfl ?_
      refine j_p (nx := 84) hJ dX6_match_83 rfl rfl ?_
      refine j_p (nx := 85) hJ dX6_match_84 rfl rfl ?_
      refine j_p (nx := 86) hJ dX6_match_85 rfl rfl ?_
      refine j_csR (nx := 89) hJ dX6_match_86 rfl (r6_lettersIn (fl := false) (d := d + 6) (show h1 pa = some (gia (gasz pa) (A pa)) from (hQ1.a pa xpa).trans (by rw [gU_n _ _ (show pa ≠ 109 by omega)])) xsp xpl (by omega)) mX6_160 rfl (gle8 rfl) ?_
      rw [show gltr p = nI (glc p) from gltr_nat p]
      refine j_p (nx := 90) hJ dX6_match_89 rfl rfl ?_
      by_cases hgl : glc p ≤ t.length
      · rw [gsub hgl]
        have hS : gsol p t md = gch p t (gL md) (gus p) 4 (fun _ => 0) (t.length - glc p) := if_pos hgl
        have hc := r6_choose (h0 := h0) (E := E) (pa := pa) (po := po) (ta := ta) (tq := tq) (t := t) (rfl : gus p = gus p) (gL_le md) (d + 1) 4 h1 (gU A 109 f) (gU (gU (gU (gU (gU (gU M 14 (nI po)) 15 (nI p.length)) 17 (nI tq)) 21 (nI (gL md))) 22 (nI mst)) 23 (0)) (fun _ => 0) 0 (t.length - glc p) 0 mst (by omega) hQ1 hX1 (fun u hu => by omega) (fun u hu => hf u (by omega)) rfl rfl rfl (by omega) hm31 (by show _ + 0 + _ = _; omega)
        rw [← hS] at hc
        refine j_cv (nx := 93) hJ dX6_match_90 rfl hc mX6_209 hQ1.1.1 kX6_choose rfl (gle8 rfl) (fun o h2 hp => ?_)
        obtain ⟨rfl, A2, hQ2, k1, k2, k3⟩ := hp
        refine j_p (nx := 94) hJ dX6_match_93 rfl rfl ?_
        refine j_get (nx := 97) hJ dX6_match_94 rfl fX6_206 hQ2.1.1 (by rfl) ?_
        refine j_iret hJ dX6_match_97 ⟨?_, A2, _, hQ2, fun a p1 p2 p3 p4 => (k1 a p2 p3 p4).trans (gU_n _ _ p1), fun i p1 p2 p3 p4 p5 p6 => ?_, fun hne u hu => k3.1 rfl hne u hu⟩
        · rw [gU_s, Nat.zero_add]
        · simp only [gU, if_neg p1, if_neg p2, if_neg p3, if_neg p4, if_neg p5, if_neg p6]
      · have hS : gsol p t md = [] := if_neg hgl
        refine j_cv (nx := 93) hJ dX6_match_90 rfl (r6_chooseN (us := gus p) (L := gL md) (z := nI t.length - nI (glc p)) (by rw [gsl2 (by omega) (by omega)]; omega) rfl (gL_le md) (fun u => Nat.le_trans (gus_le p u) (by omega)) 4 (d + 2) h1 (gU A 109 f) 0 (by omega) hQ1 (fun u hu => hf u (by omega))) mX6_209 hQ1.1.1 kX6_choose rfl (gle8 rfl) (fun o h2 hp => ?_)
        obtain ⟨rfl, g, hQ2⟩ := hp
        refine j_p (nx := 94) hJ dX6_match_93 rfl rfl ?_
        refine j_get (nx := 97) hJ dX6_match_94 rfl fX6_206 hQ2.1.1 (by rfl) ?_
        refine j_iret hJ dX6_match_97 ⟨?_, _, _, hQ2, fun a p1 p2 p3 p4 => (gU_n _ _ p2).trans (gU_n _ _ p1), fun i p1 p2 p3 p4 p5 p6 => ?_, fun hne => absurd hS hne⟩
        · rw [hS, List.length_nil, Nat.min_eq_right (by omega)]; rfl
        · simp only [gU, if_neg p1, if_neg p2, if_neg p3, if_neg p4, if_neg p5, if_neg p6]
    · rw [show (4 : Int32) = nI 4 from rfl, gnle (by omega) (by omega)] at c52
      have hil : i < 4 := by omega
      refine j_p (nx := 56) hJ dX6_match_55 rfl rfl ?_
      refine j_get (nx := 59) hJ dX6_match_56 rfl fX6_43 hQ1.1.1 (by rfl) ?_
      refine j_p (nx := 61) hJ dX6_match_59 rfl rfl ?_
      refine j_c (nx := 63) hJ dX6_match_61 rfl gk_bipush_10 ?_
      refine j_p (nx := 65) hJ dX6_match_63 rfl rfl ?_
      refine j_p (nx := 66) hJ dX6_match_65 rfl rfl ?_
      rw [show (10 : Int32) = nI 10 from rfl, gadd]
      refine j_p (nx := 67) hJ dX6_match_66 rfl rfl ?_
      refine j_p (nx := 68) hJ dX6_match_67 rfl rfl ?_
      refine j_p (nx := 69) hJ dX6_match_68 rfl rfl ?_
      refine j_csR (nx := 72) hJ dX6_match_69 rfl (r6_countOf (fl := false) (d := d + 6) (show h1 pa = some (gia (gasz pa) (A pa)) from (hQ1.a pa xpa).trans (by rw [gU_n _ _ (show pa ≠ 109 by omega)])) xsp xpl (by omega) (nI (10 + i))) mX6_146 rfl (gle8 rfl) ?_
      rw [gcnt_nat, gcount_us hil]
      refine j_iast (j := i) (nx := 73) hJ dX6_match_72 rfl (show h1 109 = some (gia 4 f) from hQ1.a 109 (by unfold gia'; omega)) rfl hil (by decide) ?_
      have hQ2 : gP h0 (gup h1 109 (gia 4 (upd f i (nI (gus p i))))) (gU A 109 (upd f i (nI (gus p i)))) E (gU (gU (gU (gU (gU (gU M 14 (nI po)) 15 (nI p.length)) 17 (nI tq)) 21 (nI (gL md))) 22 (nI mst)) 23 (0)) (.ref pa) (.ref ta) := (hQ1.arr (a := 109) (by unfold gia'; omega) _).uu
      refine j_inc (nx := 76) hJ dX6_match_73 rfl rfl (gi1 i) rfl ?_
      refine j_go (tgt := 49) hJ dX6_match_76 (by decide) ?_
      refine ih hil _ _ hQ2 (fun u hu => ?_)
      by_cases e : u = i
      · subst e; simp [upd]
      · simp only [upd]; rw [if_neg e]; exact hf u (by omega)
  exact loop 0 (Nat.zero_le _) _ (A 109) (hP8.rw (gU_self A 109) (fun _ => rfl) (fun _ => rfl)) (fun u hu => by omega)
