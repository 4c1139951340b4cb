theorem gE_ok {t : List Int32} {L sp nv : Nat} {us : Nat → Nat} {Z B : Nat} (hZ : 1 ≤ Z) : ∀ (ps : List Int32) (a s : Nat) (env : GV), (∀ v b z, env v = some (b, z) → z ≤ Z ∧ b ≤ B) → L + s ≤ Z → a + Z * ps.length ≤ B → ∀ e ∈ gE t L sp nv us ps a s env, ∀ v b z, e v = some (b, z) → z ≤ Z ∧ b ≤ B := by
  intro ps
  induction ps with
  | nil =>
    intro a s env he hs ha e hm
    simp only [gE] at hm
    split at hm
    · rw [List.mem_singleton.mp hm]; exact he
    · cases hm
  | cons c ps ih =>
    intro a s env he hs ha e hm
    rw [List.length_cons, Nat.mul_add, Nat.mul_one] at ha
    cases hvo : gvo c with
    | none =>
      simp only [gE, hvo] at hm
      split at hm
      · exact ih (a + 1) s env he hs (by omega) e hm
      · cases hm
    | some v =>
      cases hev : env v with
      | some bn =>
        simp only [gE, hvo, hev] at hm
        split at hm
        · exact ih (a + bn.2) s env he hs (by have := (he v bn.1 bn.2 hev).1; omega) e hm
        · cases hm
      | none =>
        simp only [gE, hvo, hev] at hm
        obtain ⟨k, hk, hm⟩ := List.mem_flatMap.mp hm
        split at hm
        · cases hm
        · have hk1 : k ≤ s := by
            have := List.mem_range.mp hk
            have := Nat.div_le_self s (us v)
            omega
          refine ih (a + (L + k)) (s - k * us v) (gVs env v a (L + k)) (fun w b z q => ?_) (by omega) (by omega) e hm
          unfold gVs at q
          split at q
          · cases q; exact ⟨by omega, by omega⟩
          · exact he w b z q
theorem gE_bd {t : List Int32} {L sp nv : Nat} {us : Nat → Nat} : ∀ (ps : List Int32) (a s : Nat) (env : GV), ∀ e ∈ gE t L sp nv us ps a s env, ∀ v, (env v ≠ none ∨ ∃ c ∈ ps, gvo c = some v) → e v ≠ none := by
  intro ps
  induction ps with
  | nil =>
    intro a s env e hm v hv
    simp only [gE] at hm
    split at hm
    · rw [List.mem_singleton.mp hm]
      rcases hv with hv | ⟨c, hc, -⟩
      · exact hv
      · cases hc
    · cases hm
  | cons c ps ih =>
    intro a s env e hm w hw
    cases hvo : gvo c with
    | none =>
      simp only [gE, hvo] at hm
      split at hm
      · refine ih (a + 1) s env e hm w (hw.imp id (fun ⟨x, hx, hx2⟩ => ?_))
        rcases List.mem_cons.mp hx with q | q
        · subst q; rw [hvo] at hx2; cases hx2
        · exact ⟨x, q, hx2⟩
      · cases hm
    | some v =>
      cases hev : env v with
      | some bn =>
        simp only [gE, hvo, hev] at hm
        split at hm
        · refine ih (a + bn.2) s env e hm w ?_
          rcases hw with hw | ⟨x, hx, hx2⟩
          · exact Or.inl hw
          · rcases List.mem_cons.mp hx with q | q
            · subst q; rw [hvo] at hx2; cases hx2; exact Or.inl (by rw [hev]; simp)
            · exact Or.inr ⟨x, q, hx2⟩
        · cases hm
      | none =>
        simp only [gE, hvo, hev] at hm
        obtain ⟨k, hk, hm⟩ := List.mem_flatMap.mp hm
        split at hm
        · cases hm
        · refine ih (a + (L + k)) (s - k * us v) (gVs env v a (L + k)) e hm w ?_
          by_cases q : w = v
          · subst q; exact Or.inl (by simp [gVs])
          · rcases hw with hw | ⟨x, hx, hx2⟩
            · exact Or.inl (by simp only [gVs, if_neg q]; exact hw)
            · rcases List.mem_cons.mp hx with q2 | q2
              · subst q2; rw [hvo] at hx2; exact absurd (Option.some.inj hx2).symm q
              · exact Or.inr ⟨x, q2, hx2⟩
theorem gvar_nat : ∀ (l : List Int32) (n : Nat), n ≤ 4 → (∀ c ∈ l, gsy c) → l.foldl (fun a y => if a < y - 10 + 1 then y - 10 + 1 else a) (nI n) = nI (l.foldl (fun n c => match gvo c with | some v => max n (v + 1) | none => n) n) := by
  intro l
  induction l with
  | nil => intro n _ _; rfl
  | cons y l ih =>
    intro n hn hs
    rw [List.foldl_cons, List.foldl_cons]
    have hy := hs y (List.mem_cons_self ..)
    cases hvo : gvo y with
    | some v =>
      obtain ⟨hv4, hyv, -⟩ := gvo_some hvo
      rw [hyv, show nI v + 1 = nI (v + 1) from (nI_succ v).symm, gmaxI (by omega) (by omega)]
      exact ih _ (by omega) (fun c hc => hs c (List.mem_cons_of_mem _ hc))
    | none =>
      have h1 := gvo_none hy hvo
      have h2 : (y - 10 + 1).toInt = y.toInt - 9 := by
        have := hy.1
        rw [Int32.toInt_add, Int32.toInt_sub, show (10 : Int32).toInt = 10 by decide, show (1 : Int32).toInt = 1 by decide, Int.bmod_eq_of_le (n := y.toInt - 10), Int.bmod_eq_of_le] <;> (try simp) <;> omega
      rw [if_neg (by rw [Int32.lt_iff_toInt_lt, h2, nI_toInt (by omega)]; omega)]
      exact ih _ hn (fun c hc => hs c (List.mem_cons_of_mem _ hc))
theorem gvar_nv {l : List Int32} (h : ∀ c ∈ l, gsy c) : gvar l = nI (gnv l) := gvar_nat l 0 (by omega) h
theorem gned_ge {L : Nat} (hL : L ≤ 1) {p : List Int32} {c : Int32} {v : Nat} (hc : c ∈ p) (hv : gvo c = some v) : L ≤ gned L p :=
  gfold_mem (g := fun n c => if (gvo c).isSome = true then n + L else n + 1) (fun n c => by split <;> omega) (fun n => by rw [hv]; show L ≤ (if true = true then n + L else n + 1); rw [if_pos rfl]; omega) p 0 hc
theorem gMat.fr {h h' : GH} {env : GV} {L spare nv : Nat} {us : Nat → Nat} (hM : gMat h env L spare nv us) (hF : ∀ a, ¬ gOm a → h' a = h a) : gMat h' env L spare nv us := by
  obtain ⟨h1, fs, fz, fu, h2, h3, h4, h5⟩ := hM
  exact ⟨(hF _ (by unfold gOm; omega)).trans h1, fs, fz, fu, (hF _ (by unfold gOm; omega)).trans h2, (hF _ (by unfold gOm; omega)).trans h3, (hF _ (by unfold gOm; omega)).trans h4, h5⟩
/-- all variables below the highest one stand in the pattern -/
def gcn (p : List Int32) : Prop := ∀ v, v < gnv p → ∃ c ∈ p, gvo c = some v
theorem genv_ok {p t : List Int32} {md : Int32} (ht : t.length ≤ 8) (hp : p.length ≤ 8) (hc : gcn p) (hm : gMB p t md 0 0 = true) {v : Nat} (hv : v < gnv p) : ∃ b z, genv p t md v = some (b, z) ∧ z ≤ 8 ∧ b ≤ 64 := by
  obtain ⟨h1, -, h3⟩ := of_decide_eq_true hm
  have hmem : genv p t md ∈ gEs p t (gL md) 0 (t.length - gned (gL md) p) := by
    unfold genv
    have h3' : gEs p t (gL md) 0 (t.length - gned (gL md) p) ≠ [] := h3
    cases hq : gEs p t (gL md) 0 (t.length - gned (gL md) p) with
    | nil => exact absurd hq h3'
    | cons a l => exact List.mem_cons_self ..
  obtain ⟨c, hcp, hcv⟩ := hc v hv
  have hL := gL_le md
  have hg := gned_ge hL hcp hcv
  have hbd := gE_bd p 0 _ gV0 _ hmem v (Or.inr ⟨c, hcp, hcv⟩)
  cases he : genv p t md v with
  | none => exact absurd he hbd
  | some bz =>
    obtain ⟨b, z⟩ := bz
    exact ⟨b, z, rfl, gE_ok (Z := 8) (B := 64) (by omega) p 0 _ gV0 (fun v b z q => by cases q) (by omega) (by omega) _ hmem v b z he⟩
set_option maxHeartbeats 4000000 in
theorem r_match {fl : Bool} {d : Nat} {h0 h : GH} {R : Nat → List Int32} {N : Nat → Int32} (hQ : gQ h0 h R N) (hsy : ∀ r, r < 6 → ∀ c ∈ R (5 + 2 * r), gsy c) (hcn : ∀ r, r < 6 → gcn (R (5 + 2 * r))) (x md : Int32) : gN fl (d + 60) yX5_match [.ref 0, .int x, .int md] h (fun o h' => o = some (.int (s_match R N x md).1) ∧ gC h0 h' (s_match R N x md).2.1 (s_match R N x md).2.2) := by
  have q0 := hQ.1.1
  have q1 := hQ.1.2.1.1
  have q2 := hQ.1.2.1.2.1
  have q3 := hQ.1.2.1.2.2.1
  have q4 := hQ.1.2.1.2.2.2
  have q75 := hQ.1.2.2.2.1
  have q80 := hQ.1.2.2.2.2.2.1.1
  obtain ⟨_, _, _, _, _, _, q76x⟩ := id hQ.1.2.2.2.2.2.2.1
  have q76 := q76x.1
  refine gN.of MX5_match (Nat.le_of_ble_eq_true rfl) (fun J n hJ => ?_)
  show J 0 [some (.ref 0), some (.int x), some (.int md), none, none, none, none] [] h (n, 0, 0, fl)
  refine j_p (nx := 1) hJ dX5_match_0 rfl rfl ?_
  refine j_p (nx := 2) hJ dX5_match_1 rfl rfl ?_
  refine j_p (nx := 3) hJ dX5_match_2 rfl rfl ?_
  refine j_cv (nx := 6) hJ dX5_match_3 rfl (r_takeWord (fl := fl) (d := d + 55) hQ) mX5_191 (by repeat (first | assumption | exact gup_same _ _ _ | rw [gup_ne _ _ (by first | decide | assumption | omega)])) kX5_takeWord rfl (gle8 rfl) (fun o h1 hp => ?_)
  obtain ⟨rfl, l, hQ1, hl⟩ := hp
  have q01 := hQ1.1.1
  have q11 := hQ1.1.2.1.1
  have q21 := hQ1.1.2.1.2.1
  have q31 := hQ1.1.2.1.2.2.1
  obtain ⟨_, _, _, _, _, _, q76x1⟩ := id hQ1.1.2.2.2.2.2.2.1
  have q761 := q76x1.1
  refine j_csR (nx := 9) hJ dX5_match_6 rfl (r_refusal (fl := fl) (d := d + 57) x md (gwd (N 1) (R 73)).isSome) mX5_194 rfl (gle8 rfl) ?_
  refine j_p (nx := 10) hJ dX5_match_9 rfl rfl ?_
  refine j_p (nx := 11) hJ dX5_match_10 rfl rfl ?_
  refine j_if_eq (nx := 14) (tgt := 16) hJ dX5_match_11 rfl (by decide) (fun c11 => ?_) (fun c11 => ?_)
  · obtain ⟨hx, hm, hw⟩ := grf_0 c11
    obtain ⟨t, hg⟩ := gisSome_some hw
    have hlt := hl t hg
    subst hlt
    have hxx := hx
    obtain ⟨r, rfl, hr⟩ := gbt_spec hxx
    have egr := gr_nI (r := r) (by omega)
    have hT1 := hQ1.r8 (r := 83) (by unfold gisR; omega) (by omega) (by omega)
    have hT1r := hT1.2.2.2.1
    rw [gU_n _ _ (by omega), gU_s] at hT1 hT1r
    refine j_p (nx := 17) hJ dX5_match_16 rfl rfl ?_
    refine j_get (nx := 20) hJ dX5_match_17 rfl fX5_12 (by repeat (first | assumption | exact gup_same _ _ _ | rw [gup_ne _ _ (by first | decide | assumption | omega)])) (by rfl) ?_
    refine j_get (nx := 23) hJ dX5_match_20 rfl fX5_119 (by repeat (first | assumption | exact gup_same _ _ _ | rw [gup_ne _ _ (by first | decide | assumption | omega)])) (by rfl) ?_
    refine j_p (nx := 24) hJ dX5_match_23 rfl rfl ?_
    refine j_aald (j := r) (nx := 25) hJ dX5_match_24 rfl q21 rfl (by omega) (by decide) (by decide) rfl ?_
    have hP1 := hQ1.r8 (r := 5 + 2 * r) (by unfold gisR; omega) (by omega) (by omega)
    have hP1r := hP1.2.2.2.1
    rw [gU_n _ _ (by omega), gU_n _ _ (by omega)] at hP1 hP1r
    refine j_p (nx := 27) hJ dX5_match_25 rfl rfl ?_
    refine j_p (nx := 28) hJ dX5_match_27 rfl rfl ?_
    refine j_get (nx := 31) hJ dX5_match_28 rfl fX5_43 (by repeat (first | assumption | exact gup_same _ _ _ | rw [gup_ne _ _ (by first | decide | assumption | omega)])) (by rfl) ?_
    refine j_p (nx := 33) hJ dX5_match_31 rfl rfl ?_
    refine j_p (nx := 34) hJ dX5_match_33 rfl rfl ?_
    refine j_get (nx := 37) hJ dX5_match_34 rfl fX5_54 (by repeat (first | assumption | exact gup_same _ _ _ | rw [gup_ne _ _ (by first | decide | assumption | omega)])) (by rfl) ?_
    refine j_p (nx := 38) hJ dX5_match_37 rfl rfl ?_
    refine j_cv (nx := 41) hJ dX5_match_38 rfl (r_isMatch (fl := fl) (d := d + 38) md hQ1.1.2.2.2.2.2.2.1 hP1 hT1 (by unfold gOm; omega) (by unfold gOm; omega) (by unfold gOm; omega) (by unfold gOm; omega) (hsy r hr) hP1.2.1 (Nat.le_trans hT1.2.1 (by omega))) mX5_198 (by repeat (first | assumption | exact gup_same _ _ _ | rw [gup_ne _ _ (by first | decide | assumption | omega)])) kX1_isMatch rfl (gle8 rfl) (fun o h2 hp => ?_)
    obtain ⟨rfl, hX2, hF2, hM2⟩ := hp
    have hQ2 := hQ1.mat hX2 hF2
    refine j_if_ne (nx := 44) (tgt := 47) hJ dX5_match_41 rfl (by decide) (fun c41 => ?_) (fun c41 => ?_)
    · rw [gb_t] at c41
      have hM2 : gMat h2 (genv (R (5 + 2 * r)) l md) (gL md) 0 (gnv (R (5 + 2 * r))) (gus (R (5 + 2 * r))) := hM2 c41
      have hnv4 := gnv_le (R (5 + 2 * r))
      have hP2 := hQ2.r8 (r := 5 + 2 * r) (by unfold gisR; omega) (by omega) (by omega)
      have hP2r := hP2.2.2.2.1
      rw [gU_n _ _ (by omega), gU_n _ _ (by omega)] at hP2 hP2r
      refine j_p (nx := 49) hJ dX5_match_47 rfl rfl ?_
      refine j_cvR (nx := 52) hJ dX5_match_49 rfl (r_variablesIn (fl := fl) (d := d + 57) hP2) mX5_123 (by repeat (first | assumption | exact gup_same _ _ _ | rw [gup_ne _ _ (by first | decide | assumption | omega)])) kX2_variablesIn rfl (gle8 rfl) ?_
      rw [gvar_nv (hsy r hr)]
      refine j_c (nx := 53) hJ dX5_match_52 rfl gk_iconst_4 ?_
      refine j_min (nx := 56) hJ dX5_match_53 rfl mX5_206 (gle8 rfl) ?_
      rw [show (if (4 : Int32) < nI (gnv (R (5 + 2 * r))) then (4 : Int32) else nI (gnv (R (5 + 2 * r)))) = nI (gnv (R (5 + 2 * r))) from (gminI (b := 4) (by omega) (by omega)).trans (by rw [Nat.min_eq_left hnv4])]
      refine j_p (nx := 58) hJ dX5_match_56 rfl rfl ?_
      rw [c11]
      have loop : ∀ i, i ≤ gnv (R (5 + 2 * r)) → ∀ h3 : GH, gQ h0 h3 (gUi (gU (gU R 83 l) 73 []) l (genv (R (5 + 2 * r)) l md) i) N → gMat h3 (genv (R (5 + 2 * r)) l md) (gL md) 0 (gnv (R (5 + 2 * r))) (gus (R (5 + 2 * r))) → J 61 [some (.ref 0), some (.int (nI r)), some (.int md), some (.int 0), some (.ref (1 + 4 + 2 * r)), some (.int (nI (gnv (R (5 + 2 * r))))), some (.int (nI i))] [] h3 (n, 0, 0, fl) := by
        refine gloop _ _ (fun i hi ih h3 hQ3 hM3 => ?_)
        have q03 := hQ3.1.1
        have q13 := hQ3.1.2.1.1
        have q33 := hQ3.1.2.1.2.2.1
        have q763 := hM3.1
        refine j_p (nx := 63) hJ dX5_match_61 rfl rfl ?_
        refine j_p (nx := 65) hJ dX5_match_63 rfl rfl ?_
        refine j_ic_ge (nx := 68) (tgt := 97) hJ dX5_match_65 rfl (by decide) (fun c65 => ?_) (fun c65 => ?_)
        · rw [gnle (by omega) (by omega)] at c65
          have e0 : i = gnv (R (5 + 2 * r)) := by omega
          refine j_p (nx := 99) hJ dX5_match_97 rfl rfl ?_
          refine j_if_le (nx := 102) (tgt := 117) hJ dX5_match_99 rfl (by decide) (fun c99 => ?_) (fun c99 => ?_)
          · refine j_c (nx := 118) hJ dX5_match_117 rfl gk_iconst_0 ?_
            rw [Int32.le_iff_toInt_le, Int32.toInt_zero, nI_toInt (by omega)] at c99
            subst e0
            have e : s_match R N (nI r) md = (0, gUi (gU R 73 []) l (genv (R (5 + 2 * r)) l md) (gnv (R (5 + 2 * r))), N) := by unfold s_match; rw [if_pos c11, hg, egr]; show (if _ then _ else _) = _; rw [if_pos c41, if_neg (by omega)]
            exact j_iret hJ dX5_match_118 ⟨by rw [e], by rw [e]; exact hQ3.cc (fun a p1 p2 p3 => by simp [gUi, gU, p1, p2, p3]) (fun _ _ => rfl)⟩
          · refine j_p (nx := 103) hJ dX5_match_102 rfl rfl ?_
            refine j_get (nx := 106) hJ dX5_match_103 rfl fX5_12 (by repeat (first | assumption | exact gup_same _ _ _ | rw [gup_ne _ _ (by first | decide | assumption | omega)])) (by rfl) ?_
            refine j_get (nx := 109) hJ dX5_match_106 rfl fX5_211 (by repeat (first | assumption | exact gup_same _ _ _ | rw [gup_ne _ _ (by first | decide | assumption | omega)])) (by rfl) ?_
            refine j_c (nx := 110) hJ dX5_match_109 rfl gk_iconst_0 ?_
            refine j_aald (j := 0) (nx := 111) hJ dX5_match_110 rfl q33 rfl (by omega) (by decide) (by decide) rfl ?_
            have hI3 := hQ3.r8 (r := 17) (by unfold gisR; omega) (by omega) (by omega)
            have hI3r := hI3.2.2.2.1
            refine j_get (nx := 114) hJ dX5_match_111 rfl fX5_68 (by repeat (first | assumption | exact gup_same _ _ _ | rw [gup_ne _ _ (by first | decide | assumption | omega)])) (by rfl) ?_
            refine j_go (tgt := 118) hJ dX5_match_114 (by decide) ?_
            rw [Int32.le_iff_toInt_le, Int32.toInt_zero, nI_toInt (by omega)] at c99
            subst e0
            have e : s_match R N (nI r) md = (nI (gimg l (genv (R (5 + 2 * r)) l md) 0).length, gUi (gU R 73 []) l (genv (R (5 + 2 * r)) l md) (gnv (R (5 + 2 * r))), N) := by unfold s_match; rw [if_pos c11, hg, egr]; show (if _ then _ else _) = _; rw [if_pos c41, if_pos (by omega)]
            have e9 : gUi (gU (gU R 83 l) 73 []) l (genv (R (5 + 2 * r)) l md) (gnv (R (5 + 2 * r))) 17 = gimg l (genv (R (5 + 2 * r)) l md) 0 := if_pos ⟨by omega, by omega, by omega⟩
            exact j_iret hJ dX5_match_118 ⟨by rw [e, e9], by rw [e]; exact hQ3.cc (fun a p1 p2 p3 => by simp [gUi, gU, p1, p2, p3]) (fun _ _ => rfl)⟩
        · rw [gnle (by omega) (by omega)] at c65
          have hil : i < gnv (R (5 + 2 * r)) := by omega
          obtain ⟨b, z, hev, hz8, hb64⟩ := genv_ok hT1.2.1 hP1.2.1 (hcn r hr) c41 hil
          refine j_p (nx := 69) hJ dX5_match_68 rfl rfl ?_
          refine j_get (nx := 72) hJ dX5_match_69 rfl fX5_43 (by repeat (first | assumption | exact gup_same _ _ _ | rw [gup_ne _ _ (by first | decide | assumption | omega)])) (by rfl) ?_
          refine j_p (nx := 74) hJ dX5_match_72 rfl rfl ?_
          refine j_p (nx := 75) hJ dX5_match_74 rfl rfl ?_
          refine j_get (nx := 78) hJ dX5_match_75 rfl fX5_54 (by repeat (first | assumption | exact gup_same _ _ _ | rw [gup_ne _ _ (by first | decide | assumption | omega)])) (by rfl) ?_
          refine j_p (nx := 79) hJ dX5_match_78 rfl rfl ?_
          refine j_get (nx := 82) hJ dX5_match_79 rfl fX5_12 (by repeat (first | assumption | exact gup_same _ _ _ | rw [gup_ne _ _ (by first | decide | assumption | omega)])) (by rfl) ?_
          refine j_get (nx := 85) hJ dX5_match_82 rfl fX5_211 (by repeat (first | assumption | exact gup_same _ _ _ | rw [gup_ne _ _ (by first | decide | assumption | omega)])) (by rfl) ?_
          refine j_p (nx := 87) hJ dX5_match_85 rfl rfl ?_
          refine j_aald (j := i) (nx := 88) hJ dX5_match_87 rfl q33 rfl (by omega) (by decide) (by decide) rfl ?_
          have hI3 := hQ3.r8 (r := 17 + 2 * i) (by unfold gisR; omega) (by omega) (by omega)
          have hI3r := hI3.2.2.2.1
          have hT3 := hQ3.r8 (r := 83) (by unfold gisR; omega) (by omega) (by omega)
          have hT3r := hT3.2.2.2.1
          have eT : gUi (gU (gU R 83 l) 73 []) l (genv (R (5 + 2 * r)) l md) i 83 = l := by simp [gUi, gU]; omega
          rw [eT] at hT3
          refine j_cv (nx := 91) hJ dX5_match_88 rfl (r_writeImage (fl := fl) (d := d + 57) hM3 (by omega) hev hT3 hI3 ⟨by omega, by omega, by omega, by omega⟩ (by unfold gOm; omega) (by unfold gOm; omega) hz8 (by omega)) mX5_214 (by repeat (first | assumption | exact gup_same _ _ _ | rw [gup_ne _ _ (by first | decide | assumption | omega)])) kX1_writeImage rfl (gle8 rfl) (fun o h4 hp => ?_)
          obtain ⟨rfl, hR4, hF4⟩ := hp
          have hQ4 := hQ3.row8 (r := 17 + 2 * i) (by unfold gisR; omega) (by omega) (by omega) hR4 hF4
          refine j_inc (nx := 94) hJ dX5_match_91 rfl rfl (gi1 i) rfl ?_
          refine j_go (tgt := 61) hJ dX5_match_94 (by decide) ?_
          refine ih hil h4 (hQ4.rw (fun a => ?_) (fun _ => rfl)) (hM3.fr (fun a p => hF4 a (by unfold gOm at p; omega) (by unfold gOm at p; omega)))
          by_cases e1 : a = 17 + 2 * i
          · subst e1
            rw [gU_s]
            unfold gUi
            rw [if_pos ⟨by omega, by omega, by omega⟩, show (17 + 2 * i - 17) / 2 = i by omega]
            unfold gimg
            rw [hev]
          · rw [gU_n _ _ e1]
            unfold gUi
            by_cases e2 : a % 2 = 1 ∧ 17 ≤ a ∧ a < 17 + 2 * i
            · rw [if_pos e2, if_pos ⟨e2.1, e2.2.1, by omega⟩]
            · rw [if_neg e2, if_neg (by omega)]
      refine j_c (nx := 59) hJ dX5_match_58 rfl gk_iconst_0 ?_
      refine j_p (nx := 61) hJ dX5_match_59 rfl rfl ?_
      exact loop 0 (Nat.zero_le _) h2 (hQ2.rw (fun a => (if_neg (by omega)).symm) (fun _ => rfl)) hM2
    · refine j_c (nx := 46) hJ dX5_match_44 rfl gk_bipush_m6 ?_
      rw [gb_f] at c41
      have e : s_match R N (nI r) md = (-6, gU R 73 [], N) := by unfold s_match; rw [if_pos c11, hg, egr]; show (if _ then _ else _) = _; rw [if_neg (by rw [c41]; decide)]
      exact j_iret hJ dX5_match_46 ⟨by rw [e], by rw [e]; exact hQ2.cc (fun a p1 p2 p3 => by simp [gU, p1, p2, p3]) (fun _ _ => rfl)⟩
  · refine j_p (nx := 15) hJ dX5_match_14 rfl rfl ?_
    have e : s_match R N x md = (grf x md (gwd (N 1) (R 73)).isSome, gU R 73 [], N) := if_neg c11
    exact j_iret hJ dX5_match_15 ⟨by rw [e], by rw [e]; exact hQ1.cc (fun a p1 p2 p3 => by simp [gU, p1, p2, p3]) (fun _ _ => rfl)⟩
