theorem gfold_ge {g : Nat → Int32 → Nat} (h : ∀ n c, n ≤ g n c) : ∀ (p : List Int32) (n : Nat), n ≤ p.foldl g n := by
  intro p
  induction p with
  | nil => intro n; exact Nat.le_refl _
  | cons c p ih => intro n; exact Nat.le_trans (h n c) (ih _)
theorem gfold_mem {g : Nat → Int32 → Nat} {b : Nat} {c : Int32} (h : ∀ n c, n ≤ g n c) (hc : ∀ n, b ≤ g n c) : ∀ (p : List Int32) (n : Nat), c ∈ p → b ≤ p.foldl g n := by
  intro p
  induction p with
  | nil => intro n q; cases q
  | cons e p ih =>
    intro n q
    rcases List.mem_cons.mp q with q | q
    · subst q; exact Nat.le_trans (hc n) (gfold_ge h p _)
    · exact ih _ q
theorem gus_pos {p : List Int32} {c : Int32} {v : Nat} (hc : c ∈ p) (hv : gvo c = some v) : 1 ≤ gus p v :=
  gfold_mem (g := fun n c => if gvo c = some v then n + 1 else n) (fun n c => by split <;> omega) (fun n => by rw [if_pos hv]; omega) p 0 hc
theorem gnv_lt {p : List Int32} {c : Int32} {v : Nat} (hc : c ∈ p) (hv : gvo c = some v) : v < gnv p :=
  gfold_mem (g := fun n c => match gvo c with | some v => max n (v + 1) | none => n) (fun n c => by split <;> omega) (fun n => by rw [hv]; show v + 1 ≤ max n (v + 1); omega) p 0 hc
def gMX (h : GH) : Prop := ∃ (fs fz fu : Nat → Int32) (x y z : Int32), gMx h fs fz fu x y z
theorem gMat.X {h : GH} {env : GV} {L spare nv : Nat} {us : Nat → Nat} (hM : gMat h env L spare nv us) : gMX h := by
  obtain ⟨h1, fs, fz, fu, h2, h3, h4, -⟩ := hM
  exact ⟨fs, fz, fu, _, _, _, h1, h2, h3, h4⟩
theorem gMX.fr {h h' : GH} (hX : gMX h) (hF : ∀ a, ¬ gOm a → h' a = h a) : gMX h' := by
  obtain ⟨fs, fz, fu, x, y, z, h1, h2, h3, h4⟩ := hX
  refine ⟨fs, fz, fu, x, y, z, ?_, ?_, ?_, ?_⟩
  · rw [hF _ (by unfold gOm; omega)]; exact h1
  · rw [hF _ (by unfold gOm; omega)]; exact h2
  · rw [hF _ (by unfold gOm; omega)]; exact h3
  · rw [hF _ (by unfold gOm; omega)]; exact h4
theorem gMz.put {h : GH} {L nv : Nat} {z : Int32} {us : Nat → Nat} (hz : gMz h L z nv us) (s : Nat) : gMat (gup h 76 (gob 1 [.ref 77, .ref 78, .ref 79, .int (nI nv), .int (nI L), .int (nI s)])) gV0 L s nv us := by
  obtain ⟨fs, fz, fu, hX, hu, hf⟩ := hz
  obtain ⟨h1, h2, h3, h4⟩ := hX.u76 (nI nv) (nI L) (nI s)
  exact ⟨h1, fs, fz, fu, h2, h3, h4, hu, fun v hv => ⟨fun _ => hf v hv, fun a n q => by cases q⟩⟩
/-- the matches of a pattern in a text, in their order: with so much slack -/
def gEs (p t : List Int32) (L spare s : Nat) : List GV := gE t L spare (gnv p) (gus p) p 0 s gV0
def gMB (p t : List Int32) (mode : Int32) (lt mt : Nat) : Bool := decide (gned (gL mode) p + lt ≤ t.length ∧ (0 < gnv p ∨ t.length - gned (gL mode) p - lt ≤ mt - lt) ∧ gEs p t (gL mode) (mt - lt) (t.length - gned (gL mode) p - lt) ≠ [])
theorem gslk {a b c : Nat} (ha : a ≤ 1000) (hb : b ≤ 1000) (hc : c ≤ 1000) : (nI a - nI b - nI c).toInt = (a : Int) - b - c := by
  rw [Int32.toInt_sub, Int32.toInt_sub, nI_toInt (by omega), nI_toInt (by omega), nI_toInt (by omega), Int.bmod_eq_of_le (n := (a : Int) - b), Int.bmod_eq_of_le] <;> simp <;> omega
theorem ghead_of {l : List GV} {e : GV} (h : l ≠ []) : (if l.length < 1 then e else l.getD (1 - 1) e) = l.headD e := by
  cases l with
  | nil => exact absurd rfl h
  | cons a l => rfl
theorem gmin1 {l : List GV} (h : l ≠ []) : min 1 l.length = 1 := by
  cases l with
  | nil => exact absurd rfl h
  | cons a l => simp only [List.length_cons]; omega
set_option maxHeartbeats 4000000 in
theorem r_isMatchBefore {fl : Bool} {d : Nat} {h : GH} {rp qp cp rt qt ct : Nat} {p t : List Int32} (mode : Int32) (hX : gMX h) (hP : gRow h rp qp cp p) (hT : gRow h rt qt ct t) (o1 : gOm rp) (o2 : gOm qp) (o3 : gOm rt) (o4 : gOm qt) (hsy : ∀ c ∈ p, gsy c) (hp8 : p.length ≤ 8) (ht8 : t.length ≤ 40) {lt mt : Nat} (hlt : lt ≤ mt) (hmt : mt ≤ 40) : gN fl (d + 20) yX1_isMatchBefore [.ref 76, .ref rp, .ref rt, .int mode, .int (nI lt), .int (nI mt)] h (fun o h' => o = some (.int (gb (gMB p t mode lt mt))) ∧ gMX h' ∧ gFm h h' ∧ (gMB p t mode lt mt = true → gMat h' ((gEs p t (gL mode) (mt - lt) (t.length - gned (gL mode) p - lt)).headD gV0) (gL mode) (mt - lt) (gnv p) (gus p))) := by
  obtain ⟨fs, fz, fu, x, y, z, hX1⟩ := hX
  obtain ⟨h76, -⟩ := id hX1
  have hrp := hP.2.2.2.1
  have hrt := hT.2.2.2.1
  have hned := gned_le (gL_le mode) p
  have hL1 := gL_le mode
  have hnv4 := gnv_le p
  have hus9 : ∀ c v, c ∈ p → gvo c = some v → 1 ≤ gus p v ∧ v < gnv p ∧ gus p v ≤ 100 := fun c v hc hv => ⟨gus_pos hc hv, gnv_lt hc hv, Nat.le_trans (gus_le p v) (by omega)⟩
  refine gN.of MX1_isMatchBefore (Nat.le_of_ble_eq_true rfl) (fun J n hJ => ?_)
  show J 0 [some (.ref 76), some (.ref rp), some (.ref rt), some (.int mode), some (.int (nI lt)), some (.int (nI mt)), none] [] h (n, 0, 0, fl)
  by_cases hb : gned (gL mode) p + lt ≤ t.length
  · refine j_p (nx := 1) hJ dX1_isMatchBefore_0 rfl rfl ?_
    refine j_get (nx := 4) hJ dX1_isMatchBefore_1 rfl fX1_25 (by repeat (first | assumption | exact gup_same _ _ _ | rw [gup_ne _ _ (by first | decide | assumption | omega)])) (by rfl) ?_
    refine j_p (nx := 5) hJ dX1_isMatchBefore_4 rfl rfl ?_
    refine j_p (nx := 6) hJ dX1_isMatchBefore_5 rfl rfl ?_
    refine j_p (nx := 7) hJ dX1_isMatchBefore_6 rfl rfl ?_
    refine j_cv (nx := 10) hJ dX1_isMatchBefore_7 rfl (r_prepare (fl := fl) (d := d + 16) mode hX1 hP o1 o2 hsy) mX1_31 (by repeat (first | assumption | exact gup_same _ _ _ | rw [gup_ne _ _ (by first | decide | assumption | omega)])) kX1_prepare rfl (gle8 rfl) (fun o h1 hp => ?_)
    obtain ⟨rfl, hz1, hF1⟩ := hp
    obtain ⟨fs1, fz1, fu1, hX2, -⟩ := id hz1
    obtain ⟨g76, -⟩ := id hX2
    refine j_p (nx := 11) hJ dX1_isMatchBefore_10 rfl rfl ?_
    rw [gsub (by omega)]
    refine j_p (nx := 13) hJ dX1_isMatchBefore_11 rfl rfl ?_
    refine j_p (nx := 14) hJ dX1_isMatchBefore_13 rfl rfl ?_
    rw [gsub (by omega)]
    refine j_p (nx := 16) hJ dX1_isMatchBefore_14 rfl rfl ?_
    refine j_p (nx := 17) hJ dX1_isMatchBefore_16 rfl rfl ?_
    refine j_p (nx := 19) hJ dX1_isMatchBefore_17 rfl rfl ?_
    refine j_p (nx := 21) hJ dX1_isMatchBefore_19 rfl rfl ?_
    refine j_p (nx := 22) hJ dX1_isMatchBefore_21 rfl rfl ?_
    rw [gsub hlt]
    refine j_put (nx := 25) hJ dX1_isMatchBefore_22 rfl fX1_35 (zX1_5 _) g76 (Nat.le_of_ble_eq_true rfl) ?_
    have hM3 := gMz.put hz1 (mt - lt)
    have hF3 := hF1.up 76 (gob 1 [.ref 77, .ref 78, .ref 79, .int (nI (gnv p)), .int (nI (gL mode)), .int (nI (mt - lt))]) (by unfold gOm; omega)
    have hP3 := hP.fm hF3 o1 o2
    have hT3 := hT.fm hF3 o3 o4
    obtain ⟨k76, -⟩ := id hM3
    refine j_p (nx := 26) hJ dX1_isMatchBefore_25 rfl rfl ?_
    refine j_p (nx := 28) hJ dX1_isMatchBefore_26 rfl rfl ?_
    refine j_cvR (nx := 31) hJ dX1_isMatchBefore_28 rfl (r_canComeOut (fl := fl) (d := d + 18) hM3 (by omega) (by omega) _) mX1_38 (by repeat (first | assumption | exact gup_same _ _ _ | rw [gup_ne _ _ (by first | decide | assumption | omega)])) kX1_canComeOut rfl (gle8 rfl) ?_
    rw [nI_toInt (by omega)]
    refine j_if_eq (nx := 34) (tgt := 52) hJ dX1_isMatchBefore_31 rfl (by decide) (fun c31 => ?_) (fun c31 => ?_)
    · rw [gb_f] at c31
      replace c31 := of_decide_eq_false c31
      refine j_c (nx := 53) hJ dX1_isMatchBefore_52 rfl gk_iconst_0 ?_
      exact j_zret hJ (gMB p t mode lt mt) dX1_isMatchBefore_53 (by rw [show gMB p t mode lt mt = false from decide_eq_false (fun q => c31 ⟨by omega, by omega⟩)]; rfl) ⟨rfl, hM3.X, hF3, fun q => absurd q (by rw [show gMB p t mode lt mt = false from decide_eq_false (fun q => c31 ⟨by omega, by omega⟩)]; decide)⟩
    rw [gb_t] at c31
    replace c31 := of_decide_eq_true c31
    refine j_p (nx := 35) hJ dX1_isMatchBefore_34 rfl rfl ?_
    refine j_p (nx := 36) hJ dX1_isMatchBefore_35 rfl rfl ?_
    refine j_c (nx := 37) hJ dX1_isMatchBefore_36 rfl gk_iconst_0 ?_
    refine j_p (nx := 38) hJ dX1_isMatchBefore_37 rfl rfl ?_
    refine j_c (nx := 39) hJ dX1_isMatchBefore_38 rfl gk_iconst_0 ?_
    refine j_p (nx := 41) hJ dX1_isMatchBefore_39 rfl rfl ?_
    refine j_c (nx := 42) hJ dX1_isMatchBefore_41 rfl gk_iconst_1 ?_
    have hc := r_count (fl := fl) (t := t) o1.off o2.off o3.off o4.off hL1 (spare := mt - lt) (by omega) hnv4 hsy hus9 p (d + 16 - 2 * p.length) _ 0 0 (t.length - gned (gL mode) p - lt) 1 gV0 hM3 hP3 hT3 rfl (Nat.zero_le _) (by omega) (by omega) (by omega) (by omega) (fun v b n q => by cases q)
    rw [show d + 16 - 2 * p.length + 2 * p.length + 3 = d + 19 by omega] at hc
    refine j_cv (nx := 45) hJ dX1_isMatchBefore_42 rfl (hc) mX1_42 (by repeat (first | assumption | exact gup_same _ _ _ | rw [gup_ne _ _ (by first | decide | assumption | omega)])) kX1_count rfl (gle8 rfl) (fun o h4 hp => ?_)
    obtain ⟨rfl, hM4, hF4⟩ := hp
    change gMat h4 (if (gEs p t (gL mode) (mt - lt) (t.length - gned (gL mode) p - lt)).length < 1 then gV0 else (gEs p t (gL mode) (mt - lt) (t.length - gned (gL mode) p - lt)).getD (1 - 1) gV0) _ _ _ _ at hM4
    change J 45 _ [.int (nI (min 1 (gEs p t (gL mode) (mt - lt) (t.length - gned (gL mode) p - lt)).length))] _ _
    by_cases he : (gEs p t (gL mode) (mt - lt) (t.length - gned (gL mode) p - lt)) = []
    · rw [he]
      refine j_if_le (nx := 48) (tgt := 52) hJ dX1_isMatchBefore_45 rfl (by decide) (fun c45 => ?_) (fun c45 => absurd c45 (fun q => q (by decide)))
      refine j_c (nx := 53) hJ dX1_isMatchBefore_52 rfl gk_iconst_0 ?_
      have hgf : gMB p t mode lt mt = false := decide_eq_false (fun q => q.2.2 he)
      exact j_zret hJ (gMB p t mode lt mt) dX1_isMatchBefore_53 (by rw [hgf]; rfl) ⟨rfl, hM4.X, hF3.tr (gFm.of hF4), fun q => absurd q (by rw [hgf]; decide)⟩
    · rw [gmin1 he]
      rw [ghead_of he] at hM4
      refine j_if_le (nx := 48) (tgt := 52) hJ dX1_isMatchBefore_45 rfl (by decide) (fun c45 => absurd c45 (by decide)) (fun c45 => ?_)
      refine j_c (nx := 49) hJ dX1_isMatchBefore_48 rfl gk_iconst_1 ?_
      refine j_go (tgt := 53) hJ dX1_isMatchBefore_49 (by decide) ?_
      have hgt : gMB p t mode lt mt = true := decide_eq_true ⟨by omega, by omega, he⟩
      exact j_zret hJ (gMB p t mode lt mt) dX1_isMatchBefore_53 (by rw [hgt]; rfl) ⟨rfl, hM4.X, hF3.tr (gFm.of hF4), fun _ => hM4⟩
  · refine j_p (nx := 1) hJ dX1_isMatchBefore_0 rfl rfl ?_
    refine j_get (nx := 4) hJ dX1_isMatchBefore_1 rfl fX1_25 (by repeat (first | assumption | exact gup_same _ _ _ | rw [gup_ne _ _ (by first | decide | assumption | omega)])) (by rfl) ?_
    refine j_p (nx := 5) hJ dX1_isMatchBefore_4 rfl rfl ?_
    refine j_p (nx := 6) hJ dX1_isMatchBefore_5 rfl rfl ?_
    refine j_p (nx := 7) hJ dX1_isMatchBefore_6 rfl rfl ?_
    refine j_cv (nx := 10) hJ dX1_isMatchBefore_7 rfl (r_prepare (fl := fl) (d := d + 16) mode hX1 hP o1 o2 hsy) mX1_31 (by repeat (first | assumption | exact gup_same _ _ _ | rw [gup_ne _ _ (by first | decide | assumption | omega)])) kX1_prepare rfl (gle8 rfl) (fun o h1 hp => ?_)
    obtain ⟨rfl, hz1, hF1⟩ := hp
    obtain ⟨fs1, fz1, fu1, hX2, -⟩ := id hz1
    obtain ⟨g76, -⟩ := id hX2
    refine j_p (nx := 11) hJ dX1_isMatchBefore_10 rfl rfl ?_
    refine j_p (nx := 13) hJ dX1_isMatchBefore_11 rfl rfl ?_
    refine j_p (nx := 14) hJ dX1_isMatchBefore_13 rfl rfl ?_
    refine j_p (nx := 16) hJ dX1_isMatchBefore_14 rfl rfl ?_
    refine j_p (nx := 17) hJ dX1_isMatchBefore_16 rfl rfl ?_
    refine j_p (nx := 19) hJ dX1_isMatchBefore_17 rfl rfl ?_
    refine j_p (nx := 21) hJ dX1_isMatchBefore_19 rfl rfl ?_
    refine j_p (nx := 22) hJ dX1_isMatchBefore_21 rfl rfl ?_
    rw [gsub hlt]
    refine j_put (nx := 25) hJ dX1_isMatchBefore_22 rfl fX1_35 (zX1_5 _) g76 (Nat.le_of_ble_eq_true rfl) ?_
    have hM3 := gMz.put hz1 (mt - lt)
    have hF3 := hF1.up 76 (gob 1 [.ref 77, .ref 78, .ref 79, .int (nI (gnv p)), .int (nI (gL mode)), .int (nI (mt - lt))]) (by unfold gOm; omega)
    have hP3 := hP.fm hF3 o1 o2
    have hT3 := hT.fm hF3 o3 o4
    obtain ⟨k76, -⟩ := id hM3
    refine j_p (nx := 26) hJ dX1_isMatchBefore_25 rfl rfl ?_
    refine j_p (nx := 28) hJ dX1_isMatchBefore_26 rfl rfl ?_
    refine j_cvR (nx := 31) hJ dX1_isMatchBefore_28 rfl (r_canComeOut (fl := fl) (d := d + 18) hM3 (by omega) (by omega) _) mX1_38 (by repeat (first | assumption | exact gup_same _ _ _ | rw [gup_ne _ _ (by first | decide | assumption | omega)])) kX1_canComeOut rfl (gle8 rfl) ?_
    rw [gslk (by omega) (by omega) (by omega), decide_eq_false (fun q => by omega)]
    refine j_if_eq (nx := 34) (tgt := 52) hJ dX1_isMatchBefore_31 rfl (by decide) (fun c31 => ?_) (fun c31 => absurd c31 (fun q => q rfl))
    refine j_c (nx := 53) hJ dX1_isMatchBefore_52 rfl gk_iconst_0 ?_
    exact j_zret hJ (gMB p t mode lt mt) dX1_isMatchBefore_53 (by rw [show gMB p t mode lt mt = false from decide_eq_false (fun q => by omega)]; rfl) ⟨rfl, hM3.X, hF3, fun q => absurd q (by rw [show gMB p t mode lt mt = false from decide_eq_false (fun q => by omega)]; decide)⟩
set_option maxHeartbeats 4000000 in
theorem r_isMatch {fl : Bool} {d : Nat} {h : GH} {rp qp cp rt qt ct : Nat} {p t : List Int32} (mode : Int32) (hX : gMX h) (hP : gRow h rp qp cp p) (hT : gRow h rt qt ct t) (o1 : gOm rp) (o2 : gOm qp) (o3 : gOm rt) (o4 : gOm qt) (hsy : ∀ c ∈ p, gsy c) (hp8 : p.length ≤ 8) (ht8 : t.length ≤ 40) : gN fl (d + 21) yX1_isMatch [.ref 76, .ref rp, .ref rt, .int mode] h (fun o h' => o = some (.int (gb (gMB p t mode 0 0))) ∧ gMX h' ∧ gFm h h' ∧ (gMB p t mode 0 0 = true → gMat h' ((gEs p t (gL mode) (0 - 0) (t.length - gned (gL mode) p - 0)).headD gV0) (gL mode) (0 - 0) (gnv p) (gus p))) := by
  obtain ⟨fs, fz, fu, x, y, z, hX1⟩ := id hX
  obtain ⟨h76, -⟩ := id hX1
  refine gN.of MX1_isMatch (Nat.le_of_ble_eq_true rfl) (fun J n hJ => ?_)
  show J 0 [some (.ref 76), some (.ref rp), some (.ref rt), some (.int mode)] [] h (n, 0, 0, fl)
  refine j_p (nx := 1) hJ dX1_isMatch_0 rfl rfl ?_
  refine j_p (nx := 2) hJ dX1_isMatch_1 rfl rfl ?_
  refine j_p (nx := 3) hJ dX1_isMatch_2 rfl rfl ?_
  refine j_p (nx := 4) hJ dX1_isMatch_3 rfl rfl ?_
  refine j_c (nx := 5) hJ dX1_isMatch_4 rfl gk_iconst_0 ?_
  refine j_c (nx := 6) hJ dX1_isMatch_5 rfl gk_iconst_0 ?_
  refine j_cv (nx := 9) hJ dX1_isMatch_6 rfl (r_isMatchBefore (fl := fl) (d := d) mode hX hP hT o1 o2 o3 o4 hsy hp8 ht8 (lt := 0) (mt := 0) (by omega) (by omega)) mX1_21 (by repeat (first | assumption | exact gup_same _ _ _ | rw [gup_ne _ _ (by first | decide | assumption | omega)])) kX1_isMatchBefore rfl (gle8 rfl) (fun o h1 hp => ?_)
  obtain ⟨rfl, hp1⟩ := hp
  exact j_zret hJ _ dX1_isMatch_9 rfl ⟨rfl, hp1⟩
def gCA (p t : List Int32) (mode : Int32) : Nat := if gned (gL mode) p ≤ t.length ∧ (0 < gnv p ∨ t.length - gned (gL mode) p ≤ 0) then min 2147483647 (gEs p t (gL mode) 0 (t.length - gned (gL mode) p)).length else 0
theorem gsl2 {a b : Nat} (ha : a ≤ 1000) (hb : b ≤ 1000) : (nI a - nI b).toInt = (a : Int) - b := by
  rw [Int32.toInt_sub, nI_toInt (by omega), nI_toInt (by omega), Int.bmod_eq_of_le] <;> simp <;> omega
set_option maxHeartbeats 4000000 in
theorem r_countAll {fl : Bool} {d : Nat} {h : GH} {rp qp cp rt qt ct : Nat} {p t : List Int32} (mode : Int32) (hX : gMX h) (hP : gRow h rp qp cp p) (hT : gRow h rt qt ct t) (o1 : gOm rp) (o2 : gOm qp) (o3 : gOm rt) (o4 : gOm qt) (hsy : ∀ c ∈ p, gsy c) (hp8 : p.length ≤ 8) (ht8 : t.length ≤ 40) : gN fl (d + 20) yX1_countAll [.ref 76, .ref rp, .ref rt, .int mode] h (fun o h' => o = some (.int (nI (gCA p t mode))) ∧ gMX h' ∧ gFm h h') := by
  obtain ⟨fs, fz, fu, x, y, z, hX1⟩ := hX
  obtain ⟨h76, -⟩ := id hX1
  have hrp := hP.2.2.2.1
  have hrt := hT.2.2.2.1
  have hned := gned_le (gL_le mode) p
  have hL1 := gL_le mode
  have hnv4 := gnv_le p
  have hus9 : ∀ c v, c ∈ p → gvo c = some v → 1 ≤ gus p v ∧ v < gnv p ∧ gus p v ≤ 100 := fun c v hc hv => ⟨gus_pos hc hv, gnv_lt hc hv, Nat.le_trans (gus_le p v) (by omega)⟩
  refine gN.of MX1_countAll (Nat.le_of_ble_eq_true rfl) (fun J n hJ => ?_)
  show J 0 [some (.ref 76), some (.ref rp), some (.ref rt), some (.int mode), none] [] h (n, 0, 0, fl)
  by_cases hb : gned (gL mode) p ≤ t.length
  · refine j_p (nx := 1) hJ dX1_countAll_0 rfl rfl ?_
    refine j_get (nx := 4) hJ dX1_countAll_1 rfl fX1_25 (by repeat (first | assumption | exact gup_same _ _ _ | rw [gup_ne _ _ (by first | decide | assumption | omega)])) (by rfl) ?_
    refine j_p (nx := 5) hJ dX1_countAll_4 rfl rfl ?_
    refine j_p (nx := 6) hJ dX1_countAll_5 rfl rfl ?_
    refine j_p (nx := 7) hJ dX1_countAll_6 rfl rfl ?_
    refine j_cv (nx := 10) hJ dX1_countAll_7 rfl (r_prepare (fl := fl) (d := d + 16) mode hX1 hP o1 o2 hsy) mX1_31 (by repeat (first | assumption | exact gup_same _ _ _ | rw [gup_ne _ _ (by first | decide | assumption | omega)])) kX1_prepare rfl (gle8 rfl) (fun o h1 hp => ?_)
    obtain ⟨rfl, hz1, hF1⟩ := hp
    obtain ⟨fs1, fz1, fu1, hX2, -⟩ := id hz1
    obtain ⟨g76, -⟩ := id hX2
    refine j_p (nx := 11) hJ dX1_countAll_10 rfl rfl ?_
    rw [gsub (by omega)]
    refine j_p (nx := 13) hJ dX1_countAll_11 rfl rfl ?_
    refine j_p (nx := 14) hJ dX1_countAll_13 rfl rfl ?_
    refine j_c (nx := 15) hJ dX1_countAll_14 rfl gk_iconst_0 ?_
    refine j_put (nx := 18) hJ dX1_countAll_15 rfl fX1_35 (zX1_5 _) g76 (Nat.le_of_ble_eq_true rfl) ?_
    have hM3 := gMz.put hz1 (0)
    have hF3 := hF1.up 76 (gob 1 [.ref 77, .ref 78, .ref 79, .int (nI (gnv p)), .int (nI (gL mode)), .int (nI (0))]) (by unfold gOm; omega)
    have hP3 := hP.fm hF3 o1 o2
    have hT3 := hT.fm hF3 o3 o4
    obtain ⟨k76, -⟩ := id hM3
    refine j_p (nx := 19) hJ dX1_countAll_18 rfl rfl ?_
    refine j_p (nx := 21) hJ dX1_countAll_19 rfl rfl ?_
    refine j_cvR (nx := 24) hJ dX1_countAll_21 rfl (r_canComeOut (fl := fl) (d := d + 18) hM3 (by omega) (by omega) _) mX1_38 (by repeat (first | assumption | exact gup_same _ _ _ | rw [gup_ne _ _ (by first | decide | assumption | omega)])) kX1_canComeOut rfl (gle8 rfl) ?_
    rw [nI_toInt (by omega)]
    refine j_if_eq (nx := 27) (tgt := 42) hJ dX1_countAll_24 rfl (by decide) (fun c24 => ?_) (fun c24 => ?_)
    · rw [gb_f] at c24
      replace c24 := of_decide_eq_false c24
      refine j_c (nx := 43) hJ dX1_countAll_42 rfl gk_iconst_0 ?_
      exact j_iret hJ dX1_countAll_43 ⟨by rw [show gCA p t mode = 0 from if_neg (fun q => c24 ⟨by omega, by omega⟩)]; rfl, hM3.X, hF3⟩
    rw [gb_t] at c24
    replace c24 := of_decide_eq_true c24
    refine j_p (nx := 28) hJ dX1_countAll_27 rfl rfl ?_
    refine j_p (nx := 29) hJ dX1_countAll_28 rfl rfl ?_
    refine j_c (nx := 30) hJ dX1_countAll_29 rfl gk_iconst_0 ?_
    refine j_p (nx := 31) hJ dX1_countAll_30 rfl rfl ?_
    refine j_c (nx := 32) hJ dX1_countAll_31 rfl gk_iconst_0 ?_
    refine j_p (nx := 34) hJ dX1_countAll_32 rfl rfl ?_
    refine j_ldc (nx := 36) hJ dX1_countAll_34 rfl qX1_48 ?_
    have hc := r_count (fl := fl) (t := t) o1.off o2.off o3.off o4.off hL1 (spare := 0) (by omega) hnv4 hsy hus9 p (d + 16 - 2 * p.length) _ 0 0 (t.length - gned (gL mode) p) 2147483647 gV0 hM3 hP3 hT3 rfl (Nat.zero_le _) (by omega) (by omega) (by omega) (by omega) (fun v b n q => by cases q)
    rw [show d + 16 - 2 * p.length + 2 * p.length + 3 = d + 19 by omega] at hc
    refine j_cv (nx := 39) hJ dX1_countAll_36 rfl (hc) mX1_42 (by repeat (first | assumption | exact gup_same _ _ _ | rw [gup_ne _ _ (by first | decide | assumption | omega)])) kX1_count rfl (gle8 rfl) (fun o h4 hp => ?_)
    obtain ⟨rfl, hM4, hF4⟩ := hp
    refine j_go (tgt := 43) hJ dX1_countAll_39 (by decide) ?_
    exact j_iret hJ dX1_countAll_43 ⟨by rw [show gCA p t mode = min 2147483647 (gEs p t (gL mode) 0 (t.length - gned (gL mode) p)).length from if_pos ⟨by omega, by omega⟩]; rfl, hM4.X, hF3.tr (gFm.of hF4)⟩
  · refine j_p (nx := 1) hJ dX1_countAll_0 rfl rfl ?_
    refine j_get (nx := 4) hJ dX1_countAll_1 rfl fX1_25 (by repeat (first | assumption | exact gup_same _ _ _ | rw [gup_ne _ _ (by first | decide | assumption | omega)])) (by rfl) ?_
    refine j_p (nx := 5) hJ dX1_countAll_4 rfl rfl ?_
    refine j_p (nx := 6) hJ dX1_countAll_5 rfl rfl ?_
    refine j_p (nx := 7) hJ dX1_countAll_6 rfl rfl ?_
    refine j_cv (nx := 10) hJ dX1_countAll_7 rfl (r_prepare (fl := fl) (d := d + 16) mode hX1 hP o1 o2 hsy) mX1_31 (by repeat (first | assumption | exact gup_same _ _ _ | rw [gup_ne _ _ (by first | decide | assumption | omega)])) kX1_prepare rfl (gle8 rfl) (fun o h1 hp => ?_)
    obtain ⟨rfl, hz1, hF1⟩ := hp
    obtain ⟨fs1, fz1, fu1, hX2, -⟩ := id hz1
    obtain ⟨g76, -⟩ := id hX2
    refine j_p (nx := 11) hJ dX1_countAll_10 rfl rfl ?_
    refine j_p (nx := 13) hJ dX1_countAll_11 rfl rfl ?_
    refine j_p (nx := 14) hJ dX1_countAll_13 rfl rfl ?_
    refine j_c (nx := 15) hJ dX1_countAll_14 rfl gk_iconst_0 ?_
    refine j_put (nx := 18) hJ dX1_countAll_15 rfl fX1_35 (zX1_5 _) g76 (Nat.le_of_ble_eq_true rfl) ?_
    have hM3 := gMz.put hz1 (0)
    have hF3 := hF1.up 76 (gob 1 [.ref 77, .ref 78, .ref 79, .int (nI (gnv p)), .int (nI (gL mode)), .int (nI (0))]) (by unfold gOm; omega)
    have hP3 := hP.fm hF3 o1 o2
    have hT3 := hT.fm hF3 o3 o4
    obtain ⟨k76, -⟩ := id hM3
    refine j_p (nx := 19) hJ dX1_countAll_18 rfl rfl ?_
    refine j_p (nx := 21) hJ dX1_countAll_19 rfl rfl ?_
    refine j_cvR (nx := 24) hJ dX1_countAll_21 rfl (r_canComeOut (fl := fl) (d := d + 18) hM3 (by omega) (by omega) _) mX1_38 (by repeat (first | assumption | exact gup_same _ _ _ | rw [gup_ne _ _ (by first | decide | assumption | omega)])) kX1_canComeOut rfl (gle8 rfl) ?_
    rw [gsl2 (by omega) (by omega), decide_eq_false (fun q => by omega)]
    refine j_if_eq (nx := 27) (tgt := 42) hJ dX1_countAll_24 rfl (by decide) (fun c24 => ?_) (fun c24 => absurd c24 (fun q => q rfl))
    refine j_c (nx := 43) hJ dX1_countAll_42 rfl gk_iconst_0 ?_
    exact j_iret hJ dX1_countAll_43 ⟨by rw [show gCA p t mode = 0 from if_neg (fun q => by omega)]; rfl, hM3.X, hF3⟩
set_option maxHeartbeats 4000000 in
theorem r_writeImage {fl : Bool} {d : Nat} {h : GH} {rt qt ct ri qi ci : Nat} {t l : List Int32} {env : GV} {L spare nv v b z : Nat} {us : Nat → Nat} (hM : gMat h env L spare nv us) (hv : v < 4) (hev : env v = some (b, z)) (hT : gRow h rt qt ct t) (hR : gRow h ri qi ci l) (hA : gAp ri qi rt qt) (oi : gOm ri) (oj : gOm qi) (hz : z ≤ ci) (hb : b ≤ 1000) : gN fl (d + 2) yX1_writeImage [.ref 76, .int (nI v), .ref rt, .ref ri] h (fun o h' => o = none ∧ gRow h' ri qi ci ((List.range z).map (fun i => t.getD (b + i) (-1))) ∧ gFr ri qi h h') := by
  have hri := hR.2.2.2.1
  have hci := hR.2.2.1
  obtain ⟨h76, fs, fz, fu, h77, h78, h79, h5, h6⟩ := id hM
  unfold gOm at oi oj
  refine gN.of MX1_writeImage (Nat.le_of_ble_eq_true rfl) (fun J n hJ => ?_)
  show J 0 [some (.ref 76), some (.int (nI v)), some (.ref rt), some (.ref ri), none] [] h (n, 0, 0, fl)
  have loop : ∀ k, k ≤ z → ∀ h1 : GH, gRow h1 ri qi ci ((List.range k).map (fun i => t.getD (b + i) (-1))) → gFr ri qi h h1 → J 15 [some (.ref 76), some (.int (nI v)), some (.ref rt), some (.ref ri), some (.int (nI k))] [] h1 (n, 0, 0, fl) := by
    refine gloop _ _ (fun k hk ih h1 hR1 hF1 => ?_)
    have hri1 := hR1.2.2.2.1
    have hT1 := hT.fr hF1 hA.1 hA.2.1 hA.2.2.1 hA.2.2.2
    have hrt1 := hT1.2.2.2.1
    have h761 := (hF1 76 (by omega) (by omega)).trans h76
    have h771 := (hF1 77 (by omega) (by omega)).trans h77
    have h781 := (hF1 78 (by omega) (by omega)).trans h78
    refine j_p (nx := 17) hJ dX1_writeImage_15 rfl rfl ?_
    refine j_p (nx := 18) hJ dX1_writeImage_17 rfl rfl ?_
    refine j_get (nx := 21) hJ dX1_writeImage_18 rfl fX1_15 (by repeat (first | assumption | exact gup_same _ _ _ | rw [gup_ne _ _ (by first | decide | assumption | omega)])) (by rfl) ?_
    refine j_p (nx := 22) hJ dX1_writeImage_21 rfl rfl ?_
    refine j_iald (j := v) (nx := 23) hJ dX1_writeImage_22 rfl h781 rfl hv (by decide) ?_
    rw [((h6 v hv).2 b z hev).1]
    refine j_ic_ge (nx := 26) (tgt := 50) hJ dX1_writeImage_23 rfl (by decide) (fun c23 => ?_) (fun c23 => ?_)
    · rw [gnle (by omega) (by omega)] at c23
      have e0 : k = z := by omega
      subst e0
      exact j_vret hJ dX1_writeImage_50 ⟨rfl, hR1, hF1⟩
    · rw [gnle (by omega) (by omega)] at c23
      have hkl : k < z := by omega
      refine j_p (nx := 27) hJ dX1_writeImage_26 rfl rfl ?_
      refine j_p (nx := 28) hJ dX1_writeImage_27 rfl rfl ?_
      refine j_p (nx := 29) hJ dX1_writeImage_28 rfl rfl ?_
      refine j_get (nx := 32) hJ dX1_writeImage_29 rfl fX1_9 (by repeat (first | assumption | exact gup_same _ _ _ | rw [gup_ne _ _ (by first | decide | assumption | omega)])) (by rfl) ?_
      refine j_p (nx := 33) hJ dX1_writeImage_32 rfl rfl ?_
      refine j_iald (j := v) (nx := 34) hJ dX1_writeImage_33 rfl h771 rfl hv (by decide) ?_
      rw [((h6 v hv).2 b z hev).2]
      refine j_p (nx := 36) hJ dX1_writeImage_34 rfl rfl ?_
      refine j_p (nx := 37) hJ dX1_writeImage_36 rfl rfl ?_
      rw [gadd]
      refine j_cvR (nx := 40) hJ dX1_writeImage_37 rfl (r_at (fl := fl) (d := d) hT1 (nI (b + k))) mX1_55 (by repeat (first | assumption | exact gup_same _ _ _ | rw [gup_ne _ _ (by first | decide | assumption | omega)])) kX2_at rfl (gle8 rfl) ?_
      rw [gat_nI (by omega)]
      refine j_cv (nx := 43) hJ dX1_writeImage_40 rfl (r_add (fl := fl) (d := d) hR1 (t.getD (b + k) (-1))) mX1_59 (by repeat (first | assumption | exact gup_same _ _ _ | rw [gup_ne _ _ (by first | decide | assumption | omega)])) kX2_add rfl (gle8 rfl) (fun o h2 hp => ?_)
      obtain ⟨rfl, hR2, hF2⟩ := hp
      rw [List.length_map, List.length_range, if_pos (by omega)] at hR2
      refine j_p (nx := 44) hJ dX1_writeImage_43 rfl rfl ?_
      refine j_inc (nx := 47) hJ dX1_writeImage_44 rfl rfl (gi1 k) rfl ?_
      refine j_go (tgt := 15) hJ dX1_writeImage_47 (by decide) ?_
      refine ih hkl h2 ?_ (hF1.tr hF2)
      rw [List.range_succ, List.map_append]
      exact hR2
  refine j_p (nx := 1) hJ dX1_writeImage_0 rfl rfl ?_
  refine j_cv (nx := 4) hJ dX1_writeImage_1 rfl (r_clear (fl := fl) (d := d) hR) mX1_49 (by repeat (first | assumption | exact gup_same _ _ _ | rw [gup_ne _ _ (by first | decide | assumption | omega)])) kX2_clear rfl (gle8 rfl) (fun o h1 hp => ?_)
  obtain ⟨rfl, hR1, hF1⟩ := hp
  refine j_p (nx := 5) hJ dX1_writeImage_4 rfl rfl ?_
  refine j_csNR (nx := 8) hJ dX1_writeImage_5 rfl (r_isVariable (fl := fl) (d := d) (nI v)) mX1_52 rfl (gle8 rfl) ?_
  rw [gbt_nI (by omega), decide_eq_true hv]
  refine j_if_ne (nx := 11) (tgt := 12) hJ dX1_writeImage_8 rfl (by decide) (fun c8 => ?_) (fun c8 => absurd c8 (by decide))
  refine j_c (nx := 13) hJ dX1_writeImage_12 rfl gk_iconst_0 ?_
  refine j_p (nx := 15) hJ dX1_writeImage_13 rfl rfl ?_
  exact loop 0 (Nat.zero_le _) h1 hR1 hF1
