def gMxS (h : GH) (fs fz fu : Nat → Int32) (x y z : Int32) : Prop := h 126 = some (gob 1 [.ref 127, .ref 128, .ref 129, .int x, .int y, .int z]) ∧ h 127 = some (gia 4 fs) ∧ h 128 = some (gia 4 fz) ∧ h 129 = some (gia 4 fu)
theorem gMxS.u76 {h : GH} {fs fz fu : Nat → Int32} {x y z : Int32} (hX : gMxS h fs fz fu x y z) (x' y' z' : Int32) : gMxS (gup h 126 (gob 1 [.ref 127, .ref 128, .ref 129, .int x', .int y', .int z'])) fs fz fu x' y' z' :=
  ⟨gup_same _ _ _, by rw [gup_ne _ _ (by decide)]; exact hX.2.1, by rw [gup_ne _ _ (by decide)]; exact hX.2.2.1, by rw [gup_ne _ _ (by decide)]; exact hX.2.2.2⟩
theorem gMxS.u78 {h : GH} {fs fz fu : Nat → Int32} {x y z : Int32} (hX : gMxS h fs fz fu x y z) (g : Nat → Int32) : gMxS (gup h 128 (gia 4 g)) fs g fu x y z :=
  ⟨by rw [gup_ne _ _ (by decide)]; exact hX.1, by rw [gup_ne _ _ (by decide)]; exact hX.2.1, gup_same _ _ _, by rw [gup_ne _ _ (by decide)]; exact hX.2.2.2⟩
theorem gMxS.u79 {h : GH} {fs fz fu : Nat → Int32} {x y z : Int32} (hX : gMxS h fs fz fu x y z) (g : Nat → Int32) : gMxS (gup h 129 (gia 4 g)) fs fz g x y z :=
  ⟨by rw [gup_ne _ _ (by decide)]; exact hX.1, by rw [gup_ne _ _ (by decide)]; exact hX.2.1, by rw [gup_ne _ _ (by decide)]; exact hX.2.2.1, gup_same _ _ _⟩
/-- apart from the matcher; heaps alike but for the matcher -/
def gOmS (x : Nat) : Prop := x < 126 ∨ 129 < x
def gFmS (h h' : GH) : Prop := ∀ a, gOmS a → h' a = h a
theorem gFmS.rf {h : GH} : gFmS h h := fun _ _ => rfl
theorem gFmS.tr {h h1 h2 : GH} (a : gFmS h h1) (b : gFmS h1 h2) : gFmS h h2 := fun x p => (b x p).trans (a x p)
theorem gFmS.up {h h1 : GH} (a : gFmS h h1) (k : Nat) (c : GC) (hk : ¬ gOmS k) : gFmS h (gup h1 k c) := fun x p => by
  rw [gup_ne _ _ (fun q => hk (by rw [← q]; exact p))]; exact a x p
theorem gFmS.of {h h' : GH} (a : gFr 127 128 h h') : gFmS h h' := fun x p => a x (by unfold gOmS at p; omega) (by unfold gOmS at p; omega)
theorem gRow.fmS {h h' : GH} {r q cap : Nat} {l : List Int32} (hR : gRow h r q cap l) (hF : gFmS h h') (h1 : gOmS r) (h2 : gOmS q) : gRow h' r q cap l := by
  obtain ⟨a1, a2, a3, a4, f, a5, a6⟩ := hR
  exact ⟨a1, a2, a3, by rw [hF r h1]; exact a4, f, by rw [hF q h2]; exact a5, a6⟩
theorem gOmS.off {x : Nat} (h : gOmS x) : gOffS x := by unfold gOmS at h; exact ⟨by omega, by omega⟩
/-- the matcher with nothing bound, its spare still to come -/
def gMzS (h : GH) (L : Nat) (z : Int32) (nv : Nat) (us : Nat → Nat) : Prop := ∃ fs fz fu : Nat → Int32, gMxS h fs fz fu (nI nv) (nI L) z ∧ (∀ v, v < 4 → fu v = nI (us v)) ∧ ∀ v, v < 4 → fz v = -1
set_option maxHeartbeats 4000000 in
theorem r_prepareS {fl : Bool} {d : Nat} {h : GH} {r q cap : Nat} {p : List Int32} {fs fz fu : Nat → Int32} {x y z : Int32} (mode : Int32) (hX : gMxS h fs fz fu x y z) (hP : gRow h r q cap p) (o1 : gOmS r) (o2 : gOmS q) (hsy : ∀ c ∈ p, gsy c) : gN fl (d + 3) yX1_prepare [.ref 126, .ref r, .int mode] h (fun o h' => o = some (.int (nI (gned (gL mode) p))) ∧ gMzS h' (gL mode) z (gnv p) (gus p) ∧ gFmS h h') := by
  obtain ⟨h76, -⟩ := id hX
  have hcap := hP.2.2.1
  have hlc := hP.2.1
  refine gN.of MX1_prepare (Nat.le_of_ble_eq_true rfl) (fun J n hJ => ?_)
  show J 0 [some (.ref 126), some (.ref r), some (.int mode), none, none, none] [] h (n, 0, 0, fl)
  have loopB : (∀ k, k ≤ p.length → ∀ (h1 : GH) (w : Option Value), gMzS h1 (gL mode) z (gnv (p.take k)) (gus (p.take k)) → gFmS h h1 → J 51 [some (.ref 126), some (.ref r), some (.int mode), some (.int (nI (gned (gL mode) (p.take k)))), some (.int (nI k)), w] [] h1 (n, 0, 0, fl)) := by
    refine gloop _ _ (fun k hk ih h1 w hz1 hF1 => ?_)
    have hP1 := hP.fmS hF1 o1 o2
    have hr1 := hP1.2.2.2.1
    obtain ⟨fs, fz, fu, hX1, hfu, hfz⟩ := id hz1
    obtain ⟨h761, h771, h781, h791⟩ := id hX1
    have b1 := gnv_le (p.take k)
    refine j_p (nx := 53) hJ dX1_prepare_51 rfl rfl ?_
    refine j_p (nx := 54) hJ dX1_prepare_53 rfl rfl ?_
    refine j_get (nx := 57) hJ dX1_prepare_54 rfl fX1_25 (by repeat (first | assumption | exact gup_same _ _ _ | rw [gup_ne _ _ (by first | decide | assumption | omega)])) (by rfl) ?_
    refine j_ic_ge (nx := 60) (tgt := 124) hJ dX1_prepare_57 rfl (by decide) (fun c57 => ?_) (fun c57 => ?_)
    · refine j_p (nx := 125) hJ dX1_prepare_124 rfl rfl ?_
      rw [gnle (by omega) (by omega)] at c57
      have e0 : k = p.length := by omega
      subst e0
      rw [List.take_length] at hz1 ⊢
      exact j_iret hJ dX1_prepare_125 ⟨rfl, hz1, hF1⟩
    · rw [gnle (by omega) (by omega)] at c57
      have hkl : k < p.length := by omega
      have hcm := hsy _ (ggetD_mem hkl)
      cases hvo : gvo (p.getD k (-1)) with
      | none =>
        refine j_p (nx := 61) hJ dX1_prepare_60 rfl rfl ?_
        refine j_p (nx := 63) hJ dX1_prepare_61 rfl rfl ?_
        refine j_cvR (nx := 66) hJ dX1_prepare_63 rfl (r_at (fl := fl) (d := d + 1) hP1 (nI k)) mX1_55 (by repeat (first | assumption | exact gup_same _ _ _ | rw [gup_ne _ _ (by first | decide | assumption | omega)])) kX2_at rfl (gle8 rfl) ?_
        rw [gat_nI (by omega)]
        refine j_c (nx := 68) hJ dX1_prepare_66 rfl gk_bipush_10 ?_
        refine j_p (nx := 69) hJ dX1_prepare_68 rfl rfl ?_
        refine j_p (nx := 71) hJ dX1_prepare_69 rfl rfl ?_
        refine j_p (nx := 73) hJ dX1_prepare_71 rfl rfl ?_
        refine j_csNR (nx := 76) hJ dX1_prepare_73 rfl (r_isVariable (fl := fl) (d := d + 1) (p.getD k (-1) - 10)) mX1_52 rfl (gle8 rfl) ?_
        rw [gvo_var hcm, hvo]
        refine j_if_eq (nx := 79) (tgt := 115) hJ dX1_prepare_76 rfl (by decide) (fun c76 => ?_) (fun c76 => absurd c76 (fun q => q rfl))
        refine j_inc (nx := 118) hJ dX1_prepare_115 rfl rfl (gi1 _) rfl ?_
        refine j_inc (nx := 121) hJ dX1_prepare_118 rfl rfl (gi1 k) rfl ?_
        refine j_go (tgt := 51) hJ dX1_prepare_121 (by decide) ?_
        have e1 := ih hkl h1 (some (.int (p.getD k (-1) - 10))) ⟨fs, fz, fu, by rw [gnv_k hkl, hvo]; exact hX1, fun v hv => by rw [gus_k hkl, hvo, if_neg (by simp)]; exact hfu v hv, hfz⟩ hF1
        rw [gned_k hkl, hvo] at e1
        exact e1
      | some v =>
        obtain ⟨hv4, -, -⟩ := gvo_some hvo
        refine j_p (nx := 61) hJ dX1_prepare_60 rfl rfl ?_
        refine j_p (nx := 63) hJ dX1_prepare_61 rfl rfl ?_
        refine j_cvR (nx := 66) hJ dX1_prepare_63 rfl (r_at (fl := fl) (d := d + 1) hP1 (nI k)) mX1_55 (by repeat (first | assumption | exact gup_same _ _ _ | rw [gup_ne _ _ (by first | decide | assumption | omega)])) kX2_at rfl (gle8 rfl) ?_
        rw [gat_nI (by omega)]
        refine j_c (nx := 68) hJ dX1_prepare_66 rfl gk_bipush_10 ?_
        refine j_p (nx := 69) hJ dX1_prepare_68 rfl rfl ?_
        rw [show p.getD k (-1) - 10 = nI v from (gvo_some hvo).2.1]
        refine j_p (nx := 71) hJ dX1_prepare_69 rfl rfl ?_
        refine j_p (nx := 73) hJ dX1_prepare_71 rfl rfl ?_
        refine j_csNR (nx := 76) hJ dX1_prepare_73 rfl (r_isVariable (fl := fl) (d := d + 1) (nI v)) mX1_52 rfl (gle8 rfl) ?_
        rw [gbt_nI (by omega), decide_eq_true hv4]
        refine j_if_eq (nx := 79) (tgt := 115) hJ dX1_prepare_76 rfl (by decide) (fun c76 => absurd c76 (by decide)) (fun c76 => ?_)
        refine j_p (nx := 80) hJ dX1_prepare_79 rfl rfl ?_
        refine j_get (nx := 83) hJ dX1_prepare_80 rfl fX1_18 (by repeat (first | assumption | exact gup_same _ _ _ | rw [gup_ne _ _ (by first | decide | assumption | omega)])) (by rfl) ?_
        refine j_p (nx := 85) hJ dX1_prepare_83 rfl rfl ?_
        refine j_p (nx := 86) hJ dX1_prepare_85 rfl rfl ?_
        refine j_iald (j := _) (nx := 87) hJ dX1_prepare_86 rfl (by repeat (first | assumption | exact gup_same _ _ _ | rw [gup_ne _ _ (by first | decide | assumption | omega)])) rfl (by first | assumption | omega) (by decide) ?_
        refine j_c (nx := 88) hJ dX1_prepare_87 rfl gk_iconst_1 ?_
        refine j_p (nx := 89) hJ dX1_prepare_88 rfl rfl ?_
        refine j_iast (j := v) (nx := 90) hJ dX1_prepare_89 rfl hX1.2.2.2 rfl hv4 (by decide) ?_
        have hX2 := hX1.u79 (upd fu v (fu v + 1))
        obtain ⟨g76, -⟩ := id hX2
        refine j_p (nx := 91) hJ dX1_prepare_90 rfl rfl ?_
        refine j_p (nx := 92) hJ dX1_prepare_91 rfl rfl ?_
        refine j_get (nx := 95) hJ dX1_prepare_92 rfl fX1_65 (by repeat (first | assumption | exact gup_same _ _ _ | rw [gup_ne _ _ (by first | decide | assumption | omega)])) (by rfl) ?_
        refine j_p (nx := 97) hJ dX1_prepare_95 rfl rfl ?_
        refine j_c (nx := 98) hJ dX1_prepare_97 rfl gk_iconst_1 ?_
        refine j_p (nx := 99) hJ dX1_prepare_98 rfl rfl ?_
        rw [show nI v + 1 = nI (v + 1) from (nI_succ v).symm]
        refine j_max (nx := 102) hJ dX1_prepare_99 rfl mX1_68 (gle8 rfl) ?_
        rw [gmaxI (by omega) (by omega)]
        refine j_put (nx := 105) hJ dX1_prepare_102 rfl fX1_65 (zX1_3 _) g76 (Nat.le_of_ble_eq_true rfl) ?_
        have hX3 := hX2.u76 (nI (max (gnv (p.take k)) (v + 1))) (nI (gL mode)) z
        obtain ⟨g76b, -⟩ := id hX3
        refine j_p (nx := 106) hJ dX1_prepare_105 rfl rfl ?_
        refine j_p (nx := 107) hJ dX1_prepare_106 rfl rfl ?_
        refine j_get (nx := 110) hJ dX1_prepare_107 rfl fX1_62 g76b (by rfl) ?_
        refine j_p (nx := 111) hJ dX1_prepare_110 rfl rfl ?_
        rw [gadd]
        refine j_p (nx := 112) hJ dX1_prepare_111 rfl rfl ?_
        refine j_go (tgt := 118) hJ dX1_prepare_112 (by decide) ?_
        refine j_inc (nx := 121) hJ dX1_prepare_118 rfl rfl (gi1 k) rfl ?_
        refine j_go (tgt := 51) hJ dX1_prepare_121 (by decide) ?_
        have e1 := ih hkl _ (some (.int (nI v))) ⟨fs, fz, upd fu v (fu v + 1), by rw [gnv_k hkl, hvo]; exact hX3, fun w hw => ?_, hfz⟩ ((hF1.up 129 _ (by unfold gOmS; omega)).up 126 _ (by unfold gOmS; omega))
        rw [gned_k hkl, hvo] at e1
        exact e1
        rw [gus_k hkl, hvo]
        by_cases e : w = v
        · subst e; rw [if_pos rfl]; simp only [upd, if_true]; rw [hfu w hv4]; exact (nI_succ _).symm
        · rw [if_neg (fun q => e (Option.some.inj q).symm)]; simp only [upd, if_neg e]; exact hfu w hw
  have loopA : (∀ k, k ≤ 4 → ∀ (h1 : GH) (fs fz fu : Nat → Int32), gMxS h1 fs fz fu 0 (nI (gL mode)) z → (∀ i, i < k → fz i = -1 ∧ fu i = 0) → gFmS h h1 → J 21 [some (.ref 126), some (.ref r), some (.int mode), some (.int (nI k)), none, none] [] h1 (n, 0, 0, fl)) := by
    refine gloop _ _ (fun k hk ih h1 fs fz fu hX1 hi1 hF1 => ?_)
    obtain ⟨h761, h771, h781, h791⟩ := id hX1
    by_cases hk4 : k < 4
    · refine j_p (nx := 22) hJ dX1_prepare_21 rfl rfl ?_
      refine j_c (nx := 23) hJ dX1_prepare_22 rfl gk_iconst_4 ?_
      refine j_ic_ge (nx := 26) (tgt := 46) hJ dX1_prepare_23 rfl (by decide) (fun c23 => absurd c23 (fun q => absurd q (by rw [show (4:Int32) = nI 4 from rfl, gnle (by omega) (by omega)]; omega))) (fun c23 => ?_)
      refine j_p (nx := 27) hJ dX1_prepare_26 rfl rfl ?_
      refine j_get (nx := 30) hJ dX1_prepare_27 rfl fX1_15 (by repeat (first | assumption | exact gup_same _ _ _ | rw [gup_ne _ _ (by first | decide | assumption | omega)])) (by rfl) ?_
      refine j_p (nx := 31) hJ dX1_prepare_30 rfl rfl ?_
      refine j_c (nx := 32) hJ dX1_prepare_31 rfl gk_iconst_m1 ?_
      refine j_iast (j := _) (nx := 33) hJ dX1_prepare_32 rfl (by repeat (first | assumption | exact gup_same _ _ _ | rw [gup_ne _ _ (by first | decide | assumption | omega)])) rfl (by first | assumption | omega) (by decide) ?_
      refine j_p (nx := 34) hJ dX1_prepare_33 rfl rfl ?_
      refine j_get (nx := 37) hJ dX1_prepare_34 rfl fX1_18 (by repeat (first | assumption | exact gup_same _ _ _ | rw [gup_ne _ _ (by first | decide | assumption | omega)])) (by rfl) ?_
      refine j_p (nx := 38) hJ dX1_prepare_37 rfl rfl ?_
      refine j_c (nx := 39) hJ dX1_prepare_38 rfl gk_iconst_0 ?_
      refine j_iast (j := _) (nx := 40) hJ dX1_prepare_39 rfl (by repeat (first | assumption | exact gup_same _ _ _ | rw [gup_ne _ _ (by first | decide | assumption | omega)])) rfl (by first | assumption | omega) (by decide) ?_
      refine j_inc (nx := 43) hJ dX1_prepare_40 rfl rfl (gi1 k) rfl ?_
      refine j_go (tgt := 21) hJ dX1_prepare_43 (by decide) ?_
      refine ih hk4 _ _ _ _ ((gMxS.u78 hX1 _).u79 _) (fun i hi => ?_) ((hF1.up 128 _ (by unfold gOmS; omega)).up 129 _ (by unfold gOmS; omega))
      by_cases e : i = k
      · subst e; exact ⟨by simp [upd], by simp [upd]⟩
      · simp only [upd, if_neg e]; exact hi1 i (by omega)
    · refine j_p (nx := 22) hJ dX1_prepare_21 rfl rfl ?_
      refine j_c (nx := 23) hJ dX1_prepare_22 rfl gk_iconst_4 ?_
      refine j_ic_ge (nx := 26) (tgt := 46) hJ dX1_prepare_23 rfl (by decide) (fun c23 => ?_) (fun c23 => absurd c23 (fun q => q ((gnle (a := 4) (b := k) (by omega) (by omega)).mpr (by omega))))
      refine j_c (nx := 47) hJ dX1_prepare_46 rfl gk_iconst_0 ?_
      refine j_p (nx := 48) hJ dX1_prepare_47 rfl rfl ?_
      refine j_c (nx := 49) hJ dX1_prepare_48 rfl gk_iconst_0 ?_
      refine j_p (nx := 51) hJ dX1_prepare_49 rfl rfl ?_
      refine loopB 0 (Nat.zero_le _) h1 none ⟨fs, fz, fu, hX1, fun v hv => (hi1 v (by omega)).2, fun v hv => (hi1 v (by omega)).1⟩ hF1
  refine j_p (nx := 1) hJ dX1_prepare_0 rfl rfl ?_
  refine j_p (nx := 2) hJ dX1_prepare_1 rfl rfl ?_
  refine j_c (nx := 3) hJ dX1_prepare_2 rfl gk_iconst_1 ?_
  refine j_ic_ne (nx := 6) (tgt := 10) hJ dX1_prepare_3 rfl (by decide) (fun c3 => ?_) (fun c3 => ?_)
  · refine j_c (nx := 11) hJ dX1_prepare_10 rfl gk_iconst_1 ?_
    refine j_put (nx := 14) hJ dX1_prepare_11 rfl fX1_62 (zX1_4 _) h76 (Nat.le_of_ble_eq_true rfl) ?_
    have hL0 : gL mode = 1 := if_neg c3
    refine j_p (nx := 15) hJ dX1_prepare_14 rfl rfl ?_
    refine j_c (nx := 16) hJ dX1_prepare_15 rfl gk_iconst_0 ?_
    refine j_put (nx := 19) hJ dX1_prepare_16 rfl fX1_65 (zX1_3 _) (by repeat (first | assumption | exact gup_same _ _ _ | rw [gup_ne _ _ (by first | decide | assumption | omega)])) (Nat.le_of_ble_eq_true rfl) ?_
    refine j_c (nx := 20) hJ dX1_prepare_19 rfl gk_iconst_0 ?_
    refine j_p (nx := 21) hJ dX1_prepare_20 rfl rfl ?_
    refine loopA 0 (Nat.zero_le _) _ fs fz fu ?_ (fun i hi => by omega) ((gFmS.rf.up 126 _ (by unfold gOmS; omega)).up 126 _ (by unfold gOmS; omega))
    rw [hL0]
    exact (hX.u76 x _ z).u76 0 _ z
  · refine j_c (nx := 7) hJ dX1_prepare_6 rfl gk_iconst_0 ?_
    refine j_go (tgt := 11) hJ dX1_prepare_7 (by decide) ?_
    refine j_put (nx := 14) hJ dX1_prepare_11 rfl fX1_62 (zX1_4 _) h76 (Nat.le_of_ble_eq_true rfl) ?_
    have hL0 : gL mode = 0 := if_pos c3
    refine j_p (nx := 15) hJ dX1_prepare_14 rfl rfl ?_
    refine j_c (nx := 16) hJ dX1_prepare_15 rfl gk_iconst_0 ?_
    refine j_put (nx := 19) hJ dX1_prepare_16 rfl fX1_65 (zX1_3 _) (by repeat (first | assumption | exact gup_same _ _ _ | rw [gup_ne _ _ (by first | decide | assumption | omega)])) (Nat.le_of_ble_eq_true rfl) ?_
    refine j_c (nx := 20) hJ dX1_prepare_19 rfl gk_iconst_0 ?_
    refine j_p (nx := 21) hJ dX1_prepare_20 rfl rfl ?_
    refine loopA 0 (Nat.zero_le _) _ fs fz fu ?_ (fun i hi => by omega) ((gFmS.rf.up 126 _ (by unfold gOmS; omega)).up 126 _ (by unfold gOmS; omega))
    rw [hL0]
    exact (hX.u76 x _ z).u76 0 _ z
