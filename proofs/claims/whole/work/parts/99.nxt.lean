/-- whether there is a next word -/
def gwr (z : Int32) : List Int32 → Nat → Bool
  | _, 0 => false
  | l, i + 1 => if l.getD i (-1) + 1 < z then true else gwr z (l.set i 0) i
theorem gnx {m k : Nat} (hm : m < k) (hk : k ≤ 3) : (nI m + 1 < nI k) ↔ ¬ nI m = nI k - 1 := by
  rw [show nI m + 1 = nI (m + 1) from (nI_succ m).symm, gnlt (by omega) (by omega), show nI k - 1 = nI (k - 1) from gsub (b := 1) (by omega), gneq (by omega) (by omega)]
  omega
set_option maxHeartbeats 4000000 in
theorem r6_nextWord {d : Nat} {h0 h : GH} {A : Nat → Nat → Int32} {E : Nat → Nat → Int64} {M : Nat → Int32} {pv tv : Value} (hP : gP h0 h A E M pv tv) {k : Nat} (hk : M 0 = nI k) (hk3 : k ≤ 3) {w : List Int32} (hw8 : w.length ≤ 8) (hf : gSt (A 115) 0 w) (hel : ∀ i, i < w.length → ∃ m, w.getD i (-1) = nI m ∧ m < k) : gN false (d + 1) yX6_nextWord [.ref 99, .int (nI w.length)] h (fun o h' => o = some (.int (gb (gwr (nI k) w w.length))) ∧ ∃ f, gP h0 h' (gU A 115 f) E M pv tv ∧ gSt f 0 (gadvI (nI k) w w.length)) := by
  refine gN.of MX6_nextWord (Nat.le_of_ble_eq_true rfl) (fun J n hJ => ?_)
  show J 0 [some (.ref 99), some (.int (nI w.length)), none] [] h (n, 0, 0, false)
  have loop : ∀ j, j ≤ w.length → ∀ (l : List Int32) (f : Nat → Int32) (h1 : GH), gP h0 h1 (gU A 115 f) E M pv tv → gSt f 0 l → l.length = w.length → (∀ i, i < j → ∃ m, l.getD i (-1) = nI m ∧ m < k) → gadvI (nI k) w w.length = gadvI (nI k) l j → gwr (nI k) w w.length = gwr (nI k) l j → J 4 [some (.ref 99), some (.int (nI w.length)), some (.int (nI j - 1))] [] h1 (n, 0, 0, false) := by
    intro j
    induction j with
    | zero =>
      intro _ l f h1 hP1 hf hl hel ha hw
      refine j_p (nx := 5) hJ dX6_nextWord_4 rfl rfl ?_
      refine j_if_lt (nx := 8) (tgt := 36) hJ dX6_nextWord_5 rfl (by decide) (fun c5 => ?_) (fun c5 => absurd c5 (fun q => q (by decide)))
      refine j_p (nx := 37) hJ dX6_nextWord_36 rfl rfl ?_
      refine j_if_lt (nx := 40) (tgt := 50) hJ dX6_nextWord_37 rfl (by decide) (fun c37 => ?_) (fun c37 => absurd c37 (fun q => q (by decide)))
      refine j_p (nx := 51) hJ dX6_nextWord_50 rfl rfl ?_
      refine j_if_lt (nx := 54) (tgt := 58) hJ dX6_nextWord_51 rfl (by decide) (fun c51 => ?_) (fun c51 => absurd c51 (fun q => q (by decide)))
      refine j_c (nx := 59) hJ dX6_nextWord_58 rfl gk_iconst_0 ?_
      exact j_zret hJ false dX6_nextWord_59 rfl ⟨by rw [hw]; rfl, f, hP1, by rw [ha]; exact hf⟩
    | succ j ih =>
      intro hj l f h1 hP1 hf hl hel ha hw
      obtain ⟨m, hym, hmk⟩ := hel j (by omega)
      rw [show nI (j + 1) - 1 = nI j from gsub (b := 1) (by omega)]
      refine j_p (nx := 5) hJ dX6_nextWord_4 rfl rfl ?_
      refine j_if_lt (nx := 8) (tgt := 36) hJ dX6_nextWord_5 rfl (by decide) (fun c5 => absurd c5 (by rw [gcz0, nI_toInt (by omega)]; omega)) (fun c5 => ?_)
      refine j_p (nx := 9) hJ dX6_nextWord_8 rfl rfl ?_
      refine j_get (nx := 12) hJ dX6_nextWord_9 rfl fX6_61 hP1.1.1 (by rfl) ?_
      refine j_p (nx := 13) hJ dX6_nextWord_12 rfl rfl ?_
      refine j_iald (j := j) (nx := 14) hJ dX6_nextWord_13 rfl (show h1 115 = some (gia 8 f) from hP1.a 115 (by unfold gia'; omega)) rfl (by omega) (by decide) ?_
      rw [show f j = (l.getD j (-1)) from (by have := hf.get (show j < l.length by omega); rwa [Nat.zero_add] at this)]
      refine j_p (nx := 15) hJ dX6_nextWord_14 rfl rfl ?_
      refine j_get (nx := 18) hJ dX6_nextWord_15 rfl fX6_9 hP1.1.1 (by rfl) ?_
      rw [hk]
      refine j_c (nx := 19) hJ dX6_nextWord_18 rfl gk_iconst_1 ?_
      refine j_p (nx := 20) hJ dX6_nextWord_19 rfl rfl ?_
      refine j_ic_ne (nx := 23) (tgt := 36) hJ dX6_nextWord_20 rfl (by decide) (fun c20 => ?_) (fun c20 => ?_)
      · refine j_p (nx := 37) hJ dX6_nextWord_36 rfl rfl ?_
        refine j_if_lt (nx := 40) (tgt := 50) hJ dX6_nextWord_37 rfl (by decide) (fun c37 => absurd c37 (by rw [gcz0, nI_toInt (by omega)]; omega)) (fun c37 => ?_)
        refine j_p (nx := 41) hJ dX6_nextWord_40 rfl rfl ?_
        refine j_get (nx := 44) hJ dX6_nextWord_41 rfl fX6_61 hP1.1.1 (by rfl) ?_
        refine j_p (nx := 45) hJ dX6_nextWord_44 rfl rfl ?_
        refine j_p (nx := 46) hJ dX6_nextWord_45 rfl rfl ?_
        refine j_iald (j := j) (nx := 47) hJ dX6_nextWord_46 rfl (show h1 115 = some (gia 8 f) from hP1.a 115 (by unfold gia'; omega)) rfl (by omega) (by decide) ?_
        rw [show f j = (l.getD j (-1)) from (by have := hf.get (show j < l.length by omega); rwa [Nat.zero_add] at this)]
        refine j_c (nx := 48) hJ dX6_nextWord_47 rfl gk_iconst_1 ?_
        refine j_p (nx := 49) hJ dX6_nextWord_48 rfl rfl ?_
        refine j_iast (j := j) (nx := 50) hJ dX6_nextWord_49 rfl (show h1 115 = some (gia 8 f) from hP1.a 115 (by unfold gia'; omega)) rfl (by omega) (by decide) ?_
        have hP2 : gP h0 (gup h1 115 (gia 8 (upd f j ((l.getD j (-1)) + 1)))) (gU A 115 (upd f j ((l.getD j (-1)) + 1))) E M pv tv := (hP1.arr (a := 115) (by unfold gia'; omega) _).uu
        refine j_p (nx := 51) hJ dX6_nextWord_50 rfl rfl ?_
        refine j_if_lt (nx := 54) (tgt := 58) hJ dX6_nextWord_51 rfl (by decide) (fun c51 => absurd c51 (by rw [gcz0, nI_toInt (by omega)]; omega)) (fun c51 => ?_)
        refine j_c (nx := 55) hJ dX6_nextWord_54 rfl gk_iconst_1 ?_
        refine j_go (tgt := 59) hJ dX6_nextWord_55 (by decide) ?_
        have hlt : (l.getD j (-1)) + 1 < nI k := by rw [hym]; exact (gnx hmk hk3).mpr (fun q => c20 (by rw [hym]; exact q))
        have hst := hf.set (i := j) ((l.getD j (-1)) + 1)
        rw [Nat.zero_add] at hst
        exact j_zret hJ true dX6_nextWord_59 rfl ⟨by rw [hw, gwr, if_pos hlt], _, hP2, by rw [ha, gadvI, if_pos hlt]; exact hst⟩
      · refine j_p (nx := 24) hJ dX6_nextWord_23 rfl rfl ?_
        refine j_get (nx := 27) hJ dX6_nextWord_24 rfl fX6_61 hP1.1.1 (by rfl) ?_
        refine j_p (nx := 28) hJ dX6_nextWord_27 rfl rfl ?_
        refine j_c (nx := 29) hJ dX6_nextWord_28 rfl gk_iconst_0 ?_
        refine j_iast (j := j) (nx := 30) hJ dX6_nextWord_29 rfl (show h1 115 = some (gia 8 f) from hP1.a 115 (by unfold gia'; omega)) rfl (by omega) (by decide) ?_
        have hP2 : gP h0 (gup h1 115 (gia 8 (upd f j 0))) (gU A 115 (upd f j 0)) E M pv tv := (hP1.arr (a := 115) (by unfold gia'; omega) _).uu
        refine j_inc (nx := 33) hJ dX6_nextWord_30 rfl rfl (gdec1 _) rfl ?_
        refine j_go (tgt := 4) hJ dX6_nextWord_33 (by decide) ?_
        have hnl : ¬ (l.getD j (-1)) + 1 < nI k := by rw [hym]; exact fun q => (gnx hmk hk3).mp q (by rw [← hym]; exact c20)
        have hst := hf.set (i := j) 0
        rw [Nat.zero_add] at hst
        exact ih (by omega) (l.set j 0) (upd f j 0) _ hP2 hst (by rw [List.length_set]; exact hl) (fun i hi => by rw [gset_get _ _ _ _ (by omega), if_neg (by omega)]; exact hel i (by omega)) (by rw [ha, gadvI, if_neg hnl]) (by rw [hw, gwr, if_neg hnl])
  refine j_p (nx := 1) hJ dX6_nextWord_0 rfl rfl ?_
  refine j_c (nx := 2) hJ dX6_nextWord_1 rfl gk_iconst_1 ?_
  refine j_p (nx := 3) hJ dX6_nextWord_2 rfl rfl ?_
  refine j_p (nx := 4) hJ dX6_nextWord_3 rfl rfl ?_
  exact loop w.length (Nat.le_refl _) w (A 115) h (hP.rw (gU_self A 115) (fun _ => rfl) (fun _ => rfl)) hf rfl hel rfl rfl
