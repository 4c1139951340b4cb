def gMXS (h : GH) : Prop := ∃ (fs fz fu : Nat → Int32) (x y z : Int32), gMxS h fs fz fu x y z
theorem gMatS.X {h : GH} {env : GV} {L spare nv : Nat} {us : Nat → Nat} (hM : gMatS h env L spare nv us) : gMXS h := by
  obtain ⟨h1, fs, fz, fu, h2, h3, h4, -⟩ := hM
  exact ⟨fs, fz, fu, _, _, _, h1, h2, h3, h4⟩
theorem gMXS.fr {h h' : GH} (hX : gMXS h) (hF : ∀ a, ¬ gOmS a → h' a = h a) : gMXS h' := by
  obtain ⟨fs, fz, fu, x, y, z, h1, h2, h3, h4⟩ := hX
  refine ⟨fs, fz, fu, x, y, z, ?_, ?_, ?_, ?_⟩
  · rw [hF _ (by unfold gOmS; omega)]; exact h1
  · rw [hF _ (by unfold gOmS; omega)]; exact h2
  · rw [hF _ (by unfold gOmS; omega)]; exact h3
  · rw [hF _ (by unfold gOmS; omega)]; exact h4
theorem gMzS.put {h : GH} {L nv : Nat} {z : Int32} {us : Nat → Nat} (hz : gMzS h L z nv us) (s : Nat) : gMatS (gup h 126 (gob 1 [.ref 127, .ref 128, .ref 129, .int (nI nv), .int (nI L), .int (nI s)])) gV0 L s nv us := by
  obtain ⟨fs, fz, fu, hX, hu, hf⟩ := hz
  obtain ⟨h1, h2, h3, h4⟩ := hX.u76 (nI nv) (nI L) (nI s)
  exact ⟨h1, fs, fz, fu, h2, h3, h4, hu, fun v hv => ⟨fun _ => hf v hv, fun a n q => by cases q⟩⟩
set_option maxHeartbeats 4000000 in
theorem r_isMatchBeforeS {fl : Bool} {d : Nat} {h : GH} {rp qp cp rt qt ct : Nat} {p t : List Int32} (mode : Int32) (hX : gMXS h) (hP : gRow h rp qp cp p) (hT : gRow h rt qt ct t) (o1 : gOmS rp) (o2 : gOmS qp) (o3 : gOmS rt) (o4 : gOmS qt) (hsy : ∀ c ∈ p, gsy c) (hp8 : p.length ≤ 8) (ht8 : t.length ≤ 40) {lt mt : Nat} (hlt : lt ≤ mt) (hmt : mt ≤ 40) : gN fl (d + 20) yX1_isMatchBefore [.ref 126, .ref rp, .ref rt, .int mode, .int (nI lt), .int (nI mt)] h (fun o h' => o = some (.int (gb (gMB p t mode lt mt))) ∧ gMXS h' ∧ gFmS h h' ∧ (gMB p t mode lt mt = true → gMatS h' ((gEs p t (gL mode) (mt - lt) (t.length - gned (gL mode) p - lt)).headD gV0) (gL mode) (mt - lt) (gnv p) (gus p))) := by
  obtain ⟨fs, fz, fu, x, y, z, hX1⟩ := hX
  obtain ⟨h76, -⟩ := id hX1
  have hrp := hP.2.2.2.1
  have hrt := hT.2.2.2.1
  have hned := gned_le (gL_le mode) p
  have hL1 := gL_le mode
  have hnv4 := gnv_le p
  have hus9 : ∀ c v, c ∈ p → gvo c = some v → 1 ≤ gus p v ∧ v < gnv p ∧ gus p v ≤ 100 := fun c v hc hv => ⟨gus_pos hc hv, gnv_lt hc hv, Nat.le_trans (gus_le p v) (by omega)⟩
  refine gN.of MX1_isMatchBefore (Nat.le_of_ble_eq_true rfl) (fun J n hJ => ?_)
  show J 0 [some (.ref 126), some (.ref rp), some (.ref rt), some (.int mode), some (.int (nI lt)), some (.int (nI mt)), none] [] h (n, 0, 0, fl)
  by_cases hb : gned (gL mode) p + lt ≤ t.length
  · refine j_p (nx := 1) hJ dX1_isMatchBefore_0 rfl rfl ?_
    refine j_get (nx := 4) hJ dX1_isMatchBefore_1 rfl fX1_25 (by repeat (first | assumption | exact gup_same _ _ _ | rw [gup_ne _ _ (by first | decide | assumption | omega)])) (by rfl) ?_
    refine j_p (nx := 5) hJ dX1_isMatchBefore_4 rfl rfl ?_
    refine j_p (nx := 6) hJ dX1_isMatchBefore_5 rfl rfl ?_
    refine j_p (nx := 7) hJ dX1_isMatchBefore_6 rfl rfl ?_
    refine j_cv (nx := 10) hJ dX1_isMatchBefore_7 rfl (r_prepareS (fl := fl) (d := d + 16) mode hX1 hP o1 o2 hsy) mX1_31 (by repeat (first | assumption | exact gup_same _ _ _ | rw [gup_ne _ _ (by first | decide | assumption | omega)])) kX1_prepare rfl (gle8 rfl) (fun o h1 hp => ?_)
    obtain ⟨rfl, hz1, hF1⟩ := hp
    obtain ⟨fs1, fz1, fu1, hX2, -⟩ := id hz1
    obtain ⟨g76, -⟩ := id hX2
    refine j_p (nx := 11) hJ dX1_isMatchBefore_10 rfl rfl ?_
    rw [gsub (by omega)]
    refine j_p (nx := 13) hJ dX1_isMatchBefore_11 rfl rfl ?_
    refine j_p (nx := 14) hJ dX1_isMatchBefore_13 rfl rfl ?_
    rw [gsub (by omega)]
    refine j_p (nx := 16) hJ dX1_isMatchBefore_14 rfl rfl ?_
    refine j_p (nx := 17) hJ dX1_isMatchBefore_16 rfl rfl ?_
    refine j_p (nx := 19) hJ dX1_isMatchBefore_17 rfl rfl ?_
    refine j_p (nx := 21) hJ dX1_isMatchBefore_19 rfl rfl ?_
    refine j_p (nx := 22) hJ dX1_isMatchBefore_21 rfl rfl ?_
    rw [gsub hlt]
    refine j_put (nx := 25) hJ dX1_isMatchBefore_22 rfl fX1_35 (zX1_5 _) g76 (Nat.le_of_ble_eq_true rfl) ?_
    have hM3 := gMzS.put hz1 (mt - lt)
    have hF3 := hF1.up 126 (gob 1 [.ref 127, .ref 128, .ref 129, .int (nI (gnv p)), .int (nI (gL mode)), .int (nI (mt - lt))]) (by unfold gOmS; omega)
    have hP3 := hP.fmS hF3 o1 o2
    have hT3 := hT.fmS hF3 o3 o4
    obtain ⟨k76, -⟩ := id hM3
    refine j_p (nx := 26) hJ dX1_isMatchBefore_25 rfl rfl ?_
    refine j_p (nx := 28) hJ dX1_isMatchBefore_26 rfl rfl ?_
    refine j_cvR (nx := 31) hJ dX1_isMatchBefore_28 rfl (r_canComeOutS (fl := fl) (d := d + 18) hM3 (by omega) (by omega) _) mX1_38 (by repeat (first | assumption | exact gup_same _ _ _ | rw [gup_ne _ _ (by first | decide | assumption | omega)])) kX1_canComeOut rfl (gle8 rfl) ?_
    rw [nI_toInt (by omega)]
    refine j_if_eq (nx := 34) (tgt := 52) hJ dX1_isMatchBefore_31 rfl (by decide) (fun c31 => ?_) (fun c31 => ?_)
    · rw [gb_f] at c31
      replace c31 := of_decide_eq_false c31
      refine j_c (nx := 53) hJ dX1_isMatchBefore_52 rfl gk_iconst_0 ?_
      exact j_zret hJ (gMB p t mode lt mt) dX1_isMatchBefore_53 (by rw [show gMB p t mode lt mt = false from decide_eq_false (fun q => c31 ⟨by omega, by omega⟩)]; rfl) ⟨rfl, hM3.X, hF3, fun q => absurd q (by rw [show gMB p t mode lt mt = false from decide_eq_false (fun q => c31 ⟨by omega, by omega⟩)]; decide)⟩
    rw [gb_t] at c31
    replace c31 := of_decide_eq_true c31
    refine j_p (nx := 35) hJ dX1_isMatchBefore_34 rfl rfl ?_
    refine j_p (nx := 36) hJ dX1_isMatchBefore_35 rfl rfl ?_
    refine j_c (nx := 37) hJ dX1_isMatchBefore_36 rfl gk_iconst_0 ?_
    refine j_p (nx := 38) hJ dX1_isMatchBefore_37 rfl rfl ?_
    refine j_c (nx := 39) hJ dX1_isMatchBefore_38 rfl gk_iconst_0 ?_
    refine j_p (nx := 41) hJ dX1_isMatchBefore_39 rfl rfl ?_
    refine j_c (nx := 42) hJ dX1_isMatchBefore_41 rfl gk_iconst_1 ?_
    have hc := r_countS (fl := fl) (t := t) o1.off o2.off o3.off o4.off hL1 (spare := mt - lt) (by omega) hnv4 hsy hus9 p (d + 16 - 2 * p.length) _ 0 0 (t.length - gned (gL mode) p - lt) 1 gV0 hM3 hP3 hT3 rfl (Nat.zero_le _) (by omega) (by omega) (by omega) (by omega) (fun v b n q => by cases q)
    rw [show d + 16 - 2 * p.length + 2 * p.length + 3 = d + 19 by omega] at hc
    refine j_cv (nx := 45) hJ dX1_isMatchBefore_42 rfl (hc) mX1_42 (by repeat (first | assumption | exact gup_same _ _ _ | rw [gup_ne _ _ (by first | decide | assumption | omega)])) kX1_count rfl (gle8 rfl) (fun o h4 hp => ?_)
    obtain ⟨rfl, hM4, hF4⟩ := hp
    change gMatS h4 (if (gEs p t (gL mode) (mt - lt) (t.length - gned (gL mode) p - lt)).length < 1 then gV0 else (gEs p t (gL mode) (mt - lt) (t.length - gned (gL mode) p - lt)).getD (1 - 1) gV0) _ _ _ _ at hM4
    change J 45 _ [.int (nI (min 1 (gEs p t (gL mode) (mt - lt) (t.length - gned (gL mode) p - lt)).length))] _ _
    by_cases he : (gEs p t (gL mode) (mt - lt) (t.length - gned (gL mode) p - lt)) = []
    · rw [he]
      refine j_if_le (nx := 48) (tgt := 52) hJ dX1_isMatchBefore_45 rfl (by decide) (fun c45 => ?_) (fun c45 => absurd c45 (fun q => q (by decide)))
      refine j_c (nx := 53) hJ dX1_isMatchBefore_52 rfl gk_iconst_0 ?_
      have hgf : gMB p t mode lt mt = false := decide_eq_false (fun q => q.2.2 he)
      exact j_zret hJ (gMB p t mode lt mt) dX1_isMatchBefore_53 (by rw [hgf]; rfl) ⟨rfl, hM4.X, hF3.tr (gFmS.of hF4), fun q => absurd q (by rw [hgf]; decide)⟩
    · rw [gmin1 he]
      rw [ghead_of he] at hM4
      refine j_if_le (nx := 48) (tgt := 52) hJ dX1_isMatchBefore_45 rfl (by decide) (fun c45 => absurd c45 (by decide)) (fun c45 => ?_)
      refine j_c (nx := 49) hJ dX1_isMatchBefore_48 rfl gk_iconst_1 ?_
      refine j_go (tgt := 53) hJ dX1_isMatchBefore_49 (by decide) ?_
      have hgt : gMB p t mode lt mt = true := decide_eq_true ⟨by omega, by omega, he⟩
      exact j_zret hJ (gMB p t mode lt mt) dX1_isMatchBefore_53 (by rw [hgt]; rfl) ⟨rfl, hM4.X, hF3.tr (gFmS.of hF4), fun _ => hM4⟩
  · refine j_p (nx := 1) hJ dX1_isMatchBefore_0 rfl rfl ?_
    refine j_get (nx := 4) hJ dX1_isMatchBefore_1 rfl fX1_25 (by repeat (first | assumption | exact gup_same _ _ _ | rw [gup_ne _ _ (by first | decide | assumption | omega)])) (by rfl) ?_
    refine j_p (nx := 5) hJ dX1_isMatchBefore_4 rfl rfl ?_
    refine j_p (nx := 6) hJ dX1_isMatchBefore_5 rfl rfl ?_
    refine j_p (nx := 7) hJ dX1_isMatchBefore_6 rfl rfl ?_
    refine j_cv (nx := 10) hJ dX1_isMatchBefore_7 rfl (r_prepareS (fl := fl) (d := d + 16) mode hX1 hP o1 o2 hsy) mX1_31 (by repeat (first | assumption | exact gup_same _ _ _ | rw [gup_ne _ _ (by first | decide | assumption | omega)])) kX1_prepare rfl (gle8 rfl) (fun o h1 hp => ?_)
    obtain ⟨rfl, hz1, hF1⟩ := hp
    obtain ⟨fs1, fz1, fu1, hX2, -⟩ := id hz1
    obtain ⟨g76, -⟩ := id hX2
    refine j_p (nx := 11) hJ dX1_isMatchBefore_10 rfl rfl ?_
    refine j_p (nx := 13) hJ dX1_isMatchBefore_11 rfl rfl ?_
    refine j_p (nx := 14) hJ dX1_isMatchBefore_13 rfl rfl ?_
    refine j_p (nx := 16) hJ dX1_isMatchBefore_14 rfl rfl ?_
    refine j_p (nx := 17) hJ dX1_isMatchBefore_16 rfl rfl ?_
    refine j_p (nx := 19) hJ dX1_isMatchBefore_17 rfl rfl ?_
    refine j_p (nx := 21) hJ dX1_isMatchBefore_19 rfl rfl ?_
    refine j_p (nx := 22) hJ dX1_isMatchBefore_21 rfl rfl ?_
    rw [gsub hlt]
    refine j_put (nx := 25) hJ dX1_isMatchBefore_22 rfl fX1_35 (zX1_5 _) g76 (Nat.le_of_ble_eq_true rfl) ?_
    have hM3 := gMzS.put hz1 (mt - lt)
    have hF3 := hF1.up 126 (gob 1 [.ref 127, .ref 128, .ref 129, .int (nI (gnv p)), .int (nI (gL mode)), .int (nI (mt - lt))]) (by unfold gOmS; omega)
    have hP3 := hP.fmS hF3 o1 o2
    have hT3 := hT.fmS hF3 o3 o4
    obtain ⟨k76, -⟩ := id hM3
    refine j_p (nx := 26) hJ dX1_isMatchBefore_25 rfl rfl ?_
    refine j_p (nx := 28) hJ dX1_isMatchBefore_26 rfl rfl ?_
    refine j_cvR (nx := 31) hJ dX1_isMatchBefore_28 rfl (r_canComeOutS (fl := fl) (d := d + 18) hM3 (by omega) (by omega) _) mX1_38 (by repeat (first | assumption | exact gup_same _ _ _ | rw [gup_ne _ _ (by first | decide | assumption | omega)])) kX1_canComeOut rfl (gle8 rfl) ?_
    rw [gslk (by omega) (by omega) (by omega), decide_eq_false (fun q => by omega)]
    refine j_if_eq (nx := 34) (tgt := 52) hJ dX1_isMatchBefore_31 rfl (by decide) (fun c31 => ?_) (fun c31 => absurd c31 (fun q => q rfl))
    refine j_c (nx := 53) hJ dX1_isMatchBefore_52 rfl gk_iconst_0 ?_
    exact j_zret hJ (gMB p t mode lt mt) dX1_isMatchBefore_53 (by rw [show gMB p t mode lt mt = false from decide_eq_false (fun q => by omega)]; rfl) ⟨rfl, hM3.X, hF3, fun q => absurd q (by rw [show gMB p t mode lt mt = false from decide_eq_false (fun q => by omega)]; decide)⟩
