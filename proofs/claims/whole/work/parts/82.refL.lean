set_option maxHeartbeats 4000000 in
theorem r6_chooseS {h0 : GH} {E : Nat → Nat → Int64} {pa po ta tq : Nat} {p t : List Int32} {L : Nat} {us : Nat → Nat} (husE : us = gus p) (hL1 : L ≤ 1) {D m : Nat} (IH : gChOK D h0 E pa po ta tq p t L us m) : gChOK (D + 1) h0 E pa po ta tq p t L us (m + 1) := by
  intro h A M w v left fnd mst hv hP hX hw hus hL hmst hfnd hfm hm31 hsum
  obtain ⟨x14, x15, x17, xpa, xta, xpn, xtn, xsp, xst, xpl, xtl, xsy⟩ := id hX
  have xz1 := gasz_le pa
  have xz2 := gasz_le ta
  have hv3 : 3 - m = v := by omega
  have hus8 : us v ≤ 48 := by rw [husE]; exact Nat.le_trans (gus_le p v) (by omega)
  refine gN.of MX6_choose (Nat.le_of_ble_eq_true rfl) (fun J n hJ => ?_)
  show J 0 [some (.ref 99), some (.int (nI v)), some (.int (nI left)), none] [] h (n, 0, 0, false)
  by_cases hu0 : us v = 0
  · have eS : gch p t L us (m + 1) w left = gch p t L us m (gU w v 0) left := by rw [gch, hv3, if_pos hu0]
    refine j_p (nx := 1) hJ dX6_choose_0 rfl rfl ?_
    refine j_c (nx := 2) hJ dX6_choose_1 rfl gk_iconst_4 ?_
    refine j_ic_ne (nx := 5) (tgt := 59) hJ dX6_choose_2 rfl (by decide) (fun c2 => ?_) (fun c2 => absurd c2 (by rw [show (4 : Int32) = nI 4 from rfl, gneq (by omega) (by omega)]; omega))
    refine j_p (nx := 60) hJ dX6_choose_59 rfl rfl ?_
    refine j_get (nx := 63) hJ dX6_choose_60 rfl fX6_43 hP.1.1 (by rfl) ?_
    refine j_p (nx := 64) hJ dX6_choose_63 rfl rfl ?_
    refine j_iald (j := v) (nx := 65) hJ dX6_choose_64 rfl (show h 109 = some (gia 4 (A 109)) from hP.a 109 (by unfold gia'; omega)) rfl (by omega) (by decide) ?_
    rw [hus v (by omega)]
    refine j_if_ne (nx := 68) (tgt := 84) hJ dX6_choose_65 rfl (by decide) (fun c65 => absurd c65 (fun q => q (by rw [hu0]; rfl))) (fun c65 => ?_)
    refine j_p (nx := 69) hJ dX6_choose_68 rfl rfl ?_
    refine j_get (nx := 72) hJ dX6_choose_69 rfl fX6_46 hP.1.1 (by rfl) ?_
    refine j_p (nx := 73) hJ dX6_choose_72 rfl rfl ?_
    refine j_c (nx := 74) hJ dX6_choose_73 rfl gk_iconst_0 ?_
    refine j_iast (j := v) (nx := 75) hJ dX6_choose_74 rfl (show h 110 = some (gia 4 (A 110)) from hP.a 110 (by unfold gia'; omega)) rfl (by omega) (by decide) ?_
    have hP1 : gP h0 (gup h 110 (gia 4 (upd (A 110) v (nI 0)))) (gU A 110 (upd (A 110) v (nI 0))) E M (.ref pa) (.ref ta) := hP.arr (a := 110) (by unfold gia'; omega) _
    refine j_p (nx := 76) hJ dX6_choose_75 rfl rfl ?_
    refine j_p (nx := 77) hJ dX6_choose_76 rfl rfl ?_
    refine j_c (nx := 78) hJ dX6_choose_77 rfl gk_iconst_1 ?_
    refine j_p (nx := 79) hJ dX6_choose_78 rfl rfl ?_
    rw [show nI v + 1 = nI (v + 1) from (nI_succ v).symm]
    refine j_p (nx := 80) hJ dX6_choose_79 rfl rfl ?_
    refine j_cv (nx := 83) hJ dX6_choose_80 rfl (IH _ (gU A 110 (upd (A 110) v (nI 0))) M (gU w v 0) (v + 1) left fnd mst (by omega) hP1 (hX.fr (fun a ha => gU_n _ _ (by omega)) ⟨rfl, rfl, rfl⟩) (fun u hu => ?_) hus hL hmst hfnd hfm hm31 (by rw [gS, gS_U w us v 0 v (Nat.le_refl _), gU_s, Nat.zero_mul]; omega)) mX6_209 hP1.1.1 kX6_choose rfl (gle8 rfl) (fun o h2 hp => ?_)
    · rw [gU_s]
      simp only [upd]
      by_cases e : u = v
      · rw [if_pos e, e, gU_s]; exact ⟨rfl, by omega⟩
      · rw [if_neg e, gU_n _ _ e]; exact hw u (by omega)
    obtain ⟨rfl, A2, hP2, k1, k2, k3⟩ := hp
    refine j_vret hJ dX6_choose_83 ⟨rfl, A2, by rw [eS]; exact hP2, fun a p1 p2 p3 => (k1 a p1 p2 p3).trans (gU_n _ _ p1), fun u hu => (k2 u (by omega)).trans ?_, by rw [eS]; exact k3⟩
    rw [gU_s]
    simp only [upd]
    rw [if_neg (by omega)]
  · have hu1 : 0 < us v := by omega
    obtain ⟨K, hK⟩ : ∃ K, K = left / us v + 1 - L := ⟨_, rfl⟩
    obtain ⟨F, hF⟩ : ∃ F : Nat → List (Nat → Nat), F = (fun k => gch p t L us m (gU w v (L + k)) (left - (L + k) * us v)) := ⟨_, rfl⟩
    have eS : gch p t L us (m + 1) w left = (List.range K).flatMap F := by rw [gch, hv3, if_neg hu0, hK, hF]
    refine j_p (nx := 1) hJ dX6_choose_0 rfl rfl ?_
    refine j_c (nx := 2) hJ dX6_choose_1 rfl gk_iconst_4 ?_
    refine j_ic_ne (nx := 5) (tgt := 59) hJ dX6_choose_2 rfl (by decide) (fun c2 => ?_) (fun c2 => absurd c2 (by rw [show (4 : Int32) = nI 4 from rfl, gneq (by omega) (by omega)]; omega))
    refine j_p (nx := 60) hJ dX6_choose_59 rfl rfl ?_
    refine j_get (nx := 63) hJ dX6_choose_60 rfl fX6_43 hP.1.1 (by rfl) ?_
    refine j_p (nx := 64) hJ dX6_choose_63 rfl rfl ?_
    refine j_iald (j := v) (nx := 65) hJ dX6_choose_64 rfl (show h 109 = some (gia 4 (A 109)) from hP.a 109 (by unfold gia'; omega)) rfl (by omega) (by decide) ?_
    rw [hus v (by omega)]
    refine j_if_ne (nx := 68) (tgt := 84) hJ dX6_choose_65 rfl (by decide) (fun c65 => ?_) (fun c65 => absurd c65 (by rw [gz0 (by omega)]; exact hu0))
    refine j_p (nx := 85) hJ dX6_choose_84 rfl rfl ?_
    refine j_get (nx := 88) hJ dX6_choose_85 rfl fX6_200 hP.1.1 (by rfl) ?_
    rw [hL]
    refine j_p (nx := 89) hJ dX6_choose_88 rfl rfl ?_
    have loop : ∀ k, k ≤ K → ∀ (h1 : GH) (A1 : Nat → Nat → Int32), gP h0 h1 A1 E (gU M 23 (nI (min mst (fnd + ((List.range k).flatMap F).length)))) (.ref pa) (.ref ta) → (∀ a, a ≠ 110 → a ≠ 111 → a ≠ 112 → A1 a = A a) → (∀ u, u < v → A1 110 u = A 110 u) → gFl fnd ((List.range k).flatMap F) (A1 111) (A 111) → J 89 [some (.ref 99), some (.int (nI v)), some (.int (nI left)), some (.int (nI (L + k)))] [] h1 (n, 0, 0, false) := by
      refine gloop _ _ (fun k hk ih h1 A1 hP1 hA1 hA2 hfl => ?_)
      have hmul : (L + k) * us v ≤ 50 * 48 := Nat.mul_le_mul (by have := Nat.div_le_self left (us v); omega) hus8
      refine j_p (nx := 90) hJ dX6_choose_89 rfl rfl ?_
      refine j_p (nx := 91) hJ dX6_choose_90 rfl rfl ?_
      refine j_get (nx := 94) hJ dX6_choose_91 rfl fX6_43 hP1.1.1 (by rfl) ?_
      refine j_p (nx := 95) hJ dX6_choose_94 rfl rfl ?_
      refine j_iald (j := v) (nx := 96) hJ dX6_choose_95 rfl (show h1 109 = some (gia 4 (A1 109)) from hP1.a 109 (by unfold gia'; omega)) rfl (by omega) (by decide) ?_
      rw [hA1 109 (by omega) (by omega) (by omega), hus v (by omega)]
      refine j_p (nx := 97) hJ dX6_choose_96 rfl rfl ?_
      rw [gmul]
      refine j_p (nx := 98) hJ dX6_choose_97 rfl rfl ?_
      refine j_ic_gt (nx := 101) (tgt := 142) hJ dX6_choose_98 rfl (by decide) (fun c98 => ?_) (fun c98 => ?_)
      · rw [gnlt (by omega) (by omega)] at c98
        have hk0 : k = K := by
          have : left / us v < L + k := (Nat.div_lt_iff_lt_mul hu1).mpr (by omega)
          omega
        subst hk0
        exact j_vret hJ dX6_choose_142 ⟨rfl, A1, by rw [eS]; exact hP1, hA1, hA2, by rw [eS]; exact hfl⟩
      · rw [gnlt (by omega) (by omega)] at c98
        have hle : (L + k) * us v ≤ left := by omega
        have hkd : L + k ≤ left / us v := (Nat.le_div_iff_mul_le hu1).mpr hle
        have hkK : k < K := by omega
        refine j_p (nx := 102) hJ dX6_choose_101 rfl rfl ?_
        refine j_get (nx := 105) hJ dX6_choose_102 rfl fX6_206 hP1.1.1 (by rfl) ?_
        rw [show (gU M 23 (nI (min mst (fnd + ((List.range k).flatMap F).length)))) 23 = nI (min mst (fnd + ((List.range k).flatMap F).length)) from gU_s _ _ _]
        refine j_p (nx := 106) hJ dX6_choose_105 rfl rfl ?_
        refine j_get (nx := 109) hJ dX6_choose_106 rfl fX6_203 hP1.1.1 (by rfl) ?_
        rw [show (gU M 23 (nI (min mst (fnd + ((List.range k).flatMap F).length)))) 22 = nI mst from hmst]
        refine j_ic_ge (nx := 112) (tgt := 142) hJ dX6_choose_109 rfl (by decide) (fun c109 => ?_) (fun c109 => ?_)
        · rw [gnle (by omega) (by omega)] at c109
          have hSk : (List.range K).flatMap F = ((List.range k).flatMap F) ++ ((List.range (K - k)).map (fun i => k + i)).flatMap F := by
            rw [← List.flatMap_append, ← List.range_add, show k + (K - k) = K by omega]
          have hne : ((List.range k).flatMap F) ≠ [] := by
            intro q
            rw [q, List.length_nil] at c109
            omega
          exact j_vret hJ dX6_choose_142 ⟨rfl, A1, by rw [eS, hSk, List.length_append, show min mst (fnd + (((List.range k).flatMap F).length + (((List.range (K - k)).map (fun i => k + i)).flatMap F).length)) = min mst (fnd + ((List.range k).flatMap F).length) from by omega]; exact hP1, hA1, hA2, by rw [eS, hSk]; exact gFl_more hfl hne⟩
        · rw [gnle (by omega) (by omega)] at c109
          have hmn : min mst (fnd + ((List.range k).flatMap F).length) = (fnd + ((List.range k).flatMap F).length) := Nat.min_eq_right (by omega)
          have hn48 : L + k ≤ 48 := by
            have := Nat.le_mul_of_pos_right (L + k) hu1
            omega
          refine j_p (nx := 113) hJ dX6_choose_112 rfl rfl ?_
          refine j_get (nx := 116) hJ dX6_choose_113 rfl fX6_46 hP1.1.1 (by rfl) ?_
          refine j_p (nx := 117) hJ dX6_choose_116 rfl rfl ?_
          refine j_p (nx := 118) hJ dX6_choose_117 rfl rfl ?_
          refine j_iast (j := v) (nx := 119) hJ dX6_choose_118 rfl (show h1 110 = some (gia 4 (A1 110)) from hP1.a 110 (by unfold gia'; omega)) rfl (by omega) (by decide) ?_
          have hP2 : gP h0 (gup h1 110 (gia 4 (upd (A1 110) v (nI (L + k))))) (gU A1 110 (upd (A1 110) v (nI (L + k)))) E (gU M 23 (nI (min mst (fnd + ((List.range k).flatMap F).length)))) (.ref pa) (.ref ta) := hP1.arr (a := 110) (by unfold gia'; omega) _
          refine j_p (nx := 120) hJ dX6_choose_119 rfl rfl ?_
          refine j_p (nx := 121) hJ dX6_choose_120 rfl rfl ?_
          refine j_c (nx := 122) hJ dX6_choose_121 rfl gk_iconst_1 ?_
          refine j_p (nx := 123) hJ dX6_choose_122 rfl rfl ?_
          rw [show nI v + 1 = nI (v + 1) from (nI_succ v).symm]
          refine j_p (nx := 124) hJ dX6_choose_123 rfl rfl ?_
          refine j_p (nx := 125) hJ dX6_choose_124 rfl rfl ?_
          refine j_p (nx := 126) hJ dX6_choose_125 rfl rfl ?_
          refine j_get (nx := 129) hJ dX6_choose_126 rfl fX6_43 hP2.1.1 (by rfl) ?_
          refine j_p (nx := 130) hJ dX6_choose_129 rfl rfl ?_
          refine j_iald (j := v) (nx := 131) hJ dX6_choose_130 rfl (show (gup h1 110 (gia 4 (upd (A1 110) v (nI (L + k))))) 109 = some (gia 4 ((gU A1 110 (upd (A1 110) v (nI (L + k)))) 109)) from hP2.a 109 (by unfold gia'; omega)) rfl (by omega) (by decide) ?_
          rw [gU_n _ _ (show (109 : Nat) ≠ 110 by omega), hA1 109 (by omega) (by omega) (by omega), hus v (by omega)]
          refine j_p (nx := 132) hJ dX6_choose_131 rfl rfl ?_
          rw [gmul]
          refine j_p (nx := 133) hJ dX6_choose_132 rfl rfl ?_
          rw [gsub hle]
          refine j_cv (nx := 136) hJ dX6_choose_133 rfl (IH _ (gU A1 110 (upd (A1 110) v (nI (L + k)))) (gU M 23 (nI (min mst (fnd + ((List.range k).flatMap F).length)))) (gU w v (L + k)) (v + 1) (left - (L + k) * us v) (fnd + ((List.range k).flatMap F).length) mst (by omega) hP2 (hX.fr (fun a ha => (gU_n _ _ (by omega)).trans (hA1 a (by omega) (by omega) (by omega))) ⟨rfl, rfl, rfl⟩) (fun u hu => ?_) (fun u hu => by rw [gU_n _ _ (show (109 : Nat) ≠ 110 by omega), hA1 109 (by omega) (by omega) (by omega)]; exact hus u hu) hL hmst ((gU_s _ _ _).trans (by rw [hmn])) (by omega) hm31 (by rw [gS, gS_U w us v (L + k) v (Nat.le_refl _), gU_s]; omega)) mX6_209 hP2.1.1 kX6_choose rfl (gle8 rfl) (fun o h3 hp => ?_)
          · rw [gU_s]
            simp only [upd]
            by_cases e : u = v
            · rw [if_pos e, e, gU_s]; exact ⟨rfl, hn48⟩
            · rw [if_neg e, gU_n _ _ e, hA2 u (by omega)]; exact hw u (by omega)
          obtain ⟨rfl, A3, hP3, k1, k2, k3⟩ := hp
          have hFk : gch p t L us m (gU w v (L + k)) (left - (L + k) * us v) = F k := by rw [hF]
          rw [hFk] at hP3 k3
          refine j_inc (nx := 139) hJ dX6_choose_136 rfl rfl (gi1 _) rfl ?_
          refine j_go (tgt := 89) hJ dX6_choose_139 (by decide) ?_
          have eK : (List.range (k + 1)).flatMap F = ((List.range k).flatMap F) ++ F k := by rw [List.range_succ, List.flatMap_append]; simp
          refine ih hkK h3 A3 ?_ (fun a p1 p2 p3 => (k1 a p1 p2 p3).trans ((gU_n _ _ p1).trans (hA1 a p1 p2 p3))) (fun u hu => (k2 u (by omega)).trans ?_) ?_
          · rw [eK, List.length_append, ← Nat.add_assoc]; exact hP3.mm
          · rw [gU_s]; simp only [upd]; rw [if_neg (by omega)]; exact hA2 u hu
          · rw [eK]; exact gFl_app hfl k3
    exact loop 0 (Nat.zero_le _) h A (hP.rw (fun _ => rfl) (fun _ => rfl) (gU_id (hfnd.trans (by rw [List.range_zero, List.flatMap_nil, List.length_nil, Nat.add_zero, Nat.min_eq_right (by omega)])))) (fun _ _ _ _ => rfl) (fun _ _ => rfl) gFl_nil
set_option maxHeartbeats 4000000 in
theorem r6_choose {h0 : GH} {E : Nat → Nat → Int64} {pa po ta tq : Nat} {p t : List Int32} {L : Nat} {us : Nat → Nat} (husE : us = gus p) (hL1 : L ≤ 1) (D0 : Nat) : ∀ m, gChOK (D0 + 2 + m) h0 E pa po ta tq p t L us m := by
  intro m
  induction m with
  | zero => exact r6_choose0 husE D0
  | succ m ih => exact r6_chooseS husE hL1 ih
