/-- the matcher while variable v is being bound at a -/
def gMatLS (h : GH) (env : GV) (v a L spare nv : Nat) (us : Nat → Nat) : Prop :=
  h 126 = some (gob 1 [.ref 127, .ref 128, .ref 129, .int (nI nv), .int (nI L), .int (nI spare)]) ∧ ∃ fs fz fu : Nat → Int32, h 127 = some (gia 4 fs) ∧ h 128 = some (gia 4 fz) ∧ h 129 = some (gia 4 fu) ∧ (∀ w, w < 4 → fu w = nI (us w)) ∧ fs v = nI a ∧ ∀ w, w < 4 → w ≠ v → (env w = none → fz w = -1) ∧ ∀ b n, env w = some (b, n) → fz w = nI n ∧ fs w = nI b
theorem gMatLS.of {h : GH} {env : GV} {v a n L spare nv : Nat} {us : Nat → Nat} (hv : v < 4) (hM : gMatS h (gVs env v a n) L spare nv us) : gMatLS h env v a L spare nv us := by
  obtain ⟨h1, fs, fz, fu, h2, h3, h4, h5, h6⟩ := hM
  refine ⟨h1, fs, fz, fu, h2, h3, h4, h5, ((h6 v hv).2 a n (by simp [gVs])).2, fun w hw hne => ?_⟩
  have := h6 w hw
  simp only [gVs, if_neg hne] at this
  exact this
theorem gMatLS.set {h : GH} {env : GV} {v a L spare nv : Nat} {us : Nat → Nat} {fz : Nat → Int32} (hv : v < 4) (hM : gMatLS h env v a L spare nv us) (hz : h 128 = some (gia 4 fz)) (n : Nat) : gMatS (gup h 128 (gia 4 (upd fz v (nI n)))) (gVs env v a n) L spare nv us := by
  obtain ⟨h1, fs, fz', fu, h2, h3, h4, h5, h6, h7⟩ := hM
  rw [hz] at h3
  cases h3
  refine ⟨by rw [gup_ne _ _ (by decide)]; exact h1, fs, upd fz v (nI n), fu, by rw [gup_ne _ _ (by decide)]; exact h2, gup_same _ _ _, by rw [gup_ne _ _ (by decide)]; exact h4, h5, fun w hw => ?_⟩
  by_cases hne : w = v
  · subst hne
    simp only [gVs, if_pos, upd]
    refine ⟨fun q => by simp at q, fun b m q => ?_⟩
    simp only [if_true, Option.some.injEq, Prod.mk.injEq] at q
    obtain ⟨rfl, rfl⟩ := q
    exact ⟨rfl, h6⟩
  · simp only [gVs, if_neg hne, upd]
    exact h7 w hw hne
theorem gMatLS.un {h : GH} {env : GV} {v a L spare nv : Nat} {us : Nat → Nat} {fz : Nat → Int32} (hv : v < 4) (hM : gMatLS h env v a L spare nv us) (hz : h 128 = some (gia 4 fz)) (he : env v = none) : gMatS (gup h 128 (gia 4 (upd fz v (-1)))) env L spare nv us := by
  obtain ⟨h1, fs, fz', fu, h2, h3, h4, h5, h6, h7⟩ := hM
  rw [hz] at h3
  cases h3
  refine ⟨by rw [gup_ne _ _ (by decide)]; exact h1, fs, upd fz v (-1), fu, by rw [gup_ne _ _ (by decide)]; exact h2, gup_same _ _ _, by rw [gup_ne _ _ (by decide)]; exact h4, h5, fun w hw => ?_⟩
  by_cases hne : w = v
  · subst hne
    refine ⟨fun _ => by simp [upd], fun b m q => ?_⟩
    rw [he] at q
    cases q
  · simp only [upd, if_neg hne]
    exact h7 w hw hne
theorem gMatLS.begin {h : GH} {env : GV} {v L spare nv : Nat} {us : Nat → Nat} {fs : Nat → Int32} (hM : gMatS h env L spare nv us) (hs : h 127 = some (gia 4 fs)) (a : Nat) : gMatLS (gup h 127 (gia 4 (upd fs v (nI a)))) env v a L spare nv us := by
  obtain ⟨h1, fs', fz, fu, h2, h3, h4, h5, h6⟩ := hM
  rw [hs] at h2
  cases h2
  refine ⟨by rw [gup_ne _ _ (by decide)]; exact h1, upd fs v (nI a), fz, fu, gup_same _ _ _, by rw [gup_ne _ _ (by decide)]; exact h3, by rw [gup_ne _ _ (by decide)]; exact h4, h5, by simp [upd], fun w hw hne => ?_⟩
  simp only [upd, if_neg hne]
  exact h6 w hw
/-- rows and the matcher apart -/
def gOffS (x : Nat) : Prop := x ≠ 127 ∧ x ≠ 128
theorem gRow.offS {h h' : GH} {r q cap : Nat} {l : List Int32} (hR : gRow h r q cap l) (hF : gFr 127 128 h h') (h1 : gOffS r) (h2 : gOffS q) : gRow h' r q cap l := hR.fr hF h1.1 h1.2 h2.1 h2.2
def gCntOKS (fl : Bool) (D : Nat) (rp qp cp rt qt ct : Nat) (p t : List Int32) (L spare nv : Nat) (us : Nat → Nat) (ps : List Int32) : Prop :=
  ∀ (h : GH) (pos a s lim : Nat) (env : GV), gMatS h env L spare nv us → gRow h rp qp cp p → gRow h rt qt ct t → p.drop pos = ps → pos ≤ p.length → a + 300 * ps.length ≤ 100000 → s ≤ 100 → 1 ≤ lim → lim < 2 ^ 31 → (∀ v b n, env v = some (b, n) → n ≤ 200 ∧ b ≤ 100000) →
    gN fl D yX1_count [.ref 126, .ref rp, .int (nI pos), .ref rt, .int (nI a), .int (nI s), .int (nI lim)] h (fun o h' => o = some (.int (nI (min lim (gE t L spare nv us ps a s env).length))) ∧ gMatS h' (if (gE t L spare nv us ps a s env).length < lim then env else (gE t L spare nv us ps a s env).getD (lim - 1) env) L spare nv us ∧ gFr 127 128 h h')
set_option maxHeartbeats 4000000 in
theorem r_countBindingsS {fl : Bool} {D rp qp cp rt qt ct : Nat} {p t : List Int32} {L spare nv : Nat} {us : Nat → Nat} (o1 : gOffS rp) (o2 : gOffS qp) (o3 : gOffS rt) (o4 : gOffS qt) (hL : L ≤ 1) (hsp : spare < 2 ^ 31) (hnv : nv ≤ 4) (hsy : ∀ c ∈ p, gsy c) (hus : ∀ c v, c ∈ p → gvo c = some v → 1 ≤ us v ∧ v < nv ∧ us v ≤ 100) {ps : List Int32} (IH : gCntOKS fl D rp qp cp rt qt ct p t L spare nv us ps) (hD : ∃ D0, D = D0 + 2) {h : GH} {pos a s lim : Nat} {env : GV} {c : Int32} {v : Nat} (hvo : gvo c = some v) (he0 : env v = none) (hM : gMatS h env L spare nv us) (hP : gRow h rp qp cp p) (hT : gRow h rt qt ct t) (hdrop : p.drop pos = c :: ps) (ha : a + 300 * (c :: ps).length ≤ 100000) (hs : s ≤ 100) (hlim0 : 1 ≤ lim) (hlim : lim < 2 ^ 31) (henv : ∀ v b n, env v = some (b, n) → n ≤ 200 ∧ b ≤ 100000) : gN fl (D + 1) yX1_countBindings [.ref 126, .ref rp, .int (nI pos), .ref rt, .int (nI a), .int (nI s), .int (nI lim)] h (fun o h' => o = some (.int (nI (min lim (gE t L spare nv us (c :: ps) a s env).length))) ∧ gMatS h' (if (gE t L spare nv us (c :: ps) a s env).length < lim then env else (gE t L spare nv us (c :: ps) a s env).getD (lim - 1) env) L spare nv us ∧ gFr 127 128 h h') := by
  obtain ⟨D0, rfl⟩ := hD
  obtain ⟨h76, fs, fz, fu, h77, h78, h79, hfu, hen⟩ := id hM
  obtain ⟨-, hpl, hpc, hrp, -⟩ := id hP
  have hdr := gdrop_get hdrop
  obtain ⟨hv4, hcv, -⟩ := gvo_some hvo
  obtain ⟨hu1v, hvnv, hu100⟩ := hus c v hdr.2.2.2 hvo
  rw [List.length_cons] at ha
  have hsd : s / us v ≤ s := Nat.div_le_self _ _
  obtain ⟨F, hF⟩ : ∃ F : Nat → List GV, F = (fun k => (if v + 1 = nv ∧ ¬ s - k * us v ≤ spare then [] else gE t L spare nv us ps (a + (L + k)) (s - k * us v) (gVs env v a (L + k)))) := ⟨_, rfl⟩
  have hET : gE t L spare nv us (c :: ps) a s env = ((List.range (s / us v + 1)).flatMap F) := by
    rw [hF]
    simp only [gE, hvo, he0]
  have hFe : ∀ k, F k = (if v + 1 = nv ∧ ¬ s - k * us v ≤ spare then [] else gE t L spare nv us ps (a + (L + k)) (s - k * us v) (gVs env v a (L + k))) := fun k => by rw [hF]
  refine gN.of MX1_countBindings (Nat.le_of_ble_eq_true rfl) (fun J n hJ => ?_)
  show J 0 [some (.ref 126), some (.ref rp), some (.int (nI pos)), some (.ref rt), some (.int (nI a)), some (.int (nI s)), some (.int (nI lim)), none, none, none, none, none, none, none] [] h (n, 0, 0, fl)
  have loop : ∀ k, k ≤ s / us v + 1 → ∀ (h1 : GH) (w12 w13 : Option Value), gMatLS h1 env v a L spare nv us → gFr 127 128 h h1 → ((List.range k).flatMap F).length < lim → J 76 [some (.ref 126), some (.ref rp), some (.int (nI pos)), some (.ref rt), some (.int (nI a)), some (.int (nI s)), some (.int (nI lim)), some (.int (nI v)), some (.int (gb (decide (v + 1 = nv)))), some (.int (nI (s / us v))), some (.int (nI ((List.range k).flatMap F).length)), some (.int (nI k)), w12, w13] [] h1 (n, 0, 0, fl) := by
    refine gloop _ _ (fun k hk ih h1 w12 w13 hM1 hF1 hlim1 => ?_)
    obtain ⟨h761, fs1, fz1, fu1, hs1, hz1, hu1, hfu1, -⟩ := id hM1
    refine j_p (nx := 78) hJ dX1_countBindings_76 rfl rfl ?_
    refine j_p (nx := 80) hJ dX1_countBindings_78 rfl rfl ?_
    refine j_ic_gt (nx := 83) (tgt := 169) hJ dX1_countBindings_80 rfl (by decide) (fun c80 => ?_) (fun c80 => ?_)
    · refine j_p (nx := 171) hJ dX1_countBindings_169 rfl rfl ?_
      refine j_p (nx := 173) hJ dX1_countBindings_171 rfl rfl ?_
      refine j_ic_ge (nx := 176) (tgt := 184) hJ dX1_countBindings_173 rfl (by decide) (fun c173 => absurd c173 (by rw [gnle (by omega) (by omega)]; omega)) (fun c173 => ?_)
      rw [gnlt (by omega) (by omega)] at c80
      have ek : k = s / us v + 1 := by omega
      subst ek
      refine j_p (nx := 177) hJ dX1_countBindings_176 rfl rfl ?_
      refine j_get (nx := 180) hJ dX1_countBindings_177 rfl fX1_15 (by assumption) (by rfl) ?_
      refine j_p (nx := 182) hJ dX1_countBindings_180 rfl rfl ?_
      refine j_c (nx := 183) hJ dX1_countBindings_182 rfl gk_iconst_m1 ?_
      refine j_iast (j := v) (nx := 184) hJ dX1_countBindings_183 rfl hz1 rfl hv4 (by decide) ?_
      refine j_p (nx := 186) hJ dX1_countBindings_184 rfl rfl ?_
      exact j_iret hJ dX1_countBindings_186 ⟨by rw [hET, Nat.min_eq_right (by omega)], by rw [hET, if_pos hlim1]; exact gMatLS.un hv4 hM1 hz1 he0, hF1.tr (gup_fr _ _ _ _)⟩
    · refine j_p (nx := 85) hJ dX1_countBindings_83 rfl rfl ?_
      refine j_p (nx := 87) hJ dX1_countBindings_85 rfl rfl ?_
      refine j_ic_ge (nx := 90) (tgt := 169) hJ dX1_countBindings_87 rfl (by decide) (fun c87 => absurd c87 (by rw [gnle (by omega) (by omega)]; omega)) (fun c87 => ?_)
      rw [gnlt (by omega) (by omega)] at c80
      rw [gnle (by omega) (by omega)] at c87
      have hkm : k ≤ s / us v := by omega
      have hku : k * us v ≤ s := Nat.le_trans (Nat.mul_le_mul_right _ hkm) (Nat.div_mul_le_self s (us v))
      have hks : k ≤ s := Nat.le_trans hkm (Nat.div_le_self s (us v))
      refine j_p (nx := 92) hJ dX1_countBindings_90 rfl rfl ?_
      refine j_p (nx := 94) hJ dX1_countBindings_92 rfl rfl ?_
      refine j_p (nx := 95) hJ dX1_countBindings_94 rfl rfl ?_
      refine j_get (nx := 98) hJ dX1_countBindings_95 rfl fX1_18 (by assumption) (by rfl) ?_
      refine j_p (nx := 100) hJ dX1_countBindings_98 rfl rfl ?_
      refine j_iald (j := v) (nx := 101) hJ dX1_countBindings_100 rfl hu1 rfl hv4 (by decide) ?_
      rw [hfu1 v hv4]
      refine j_p (nx := 102) hJ dX1_countBindings_101 rfl rfl ?_
      rw [gmul]
      refine j_p (nx := 103) hJ dX1_countBindings_102 rfl rfl ?_
      rw [gsub hku]
      refine j_p (nx := 105) hJ dX1_countBindings_103 rfl rfl ?_
      refine j_p (nx := 107) hJ dX1_countBindings_105 rfl rfl ?_
      refine j_if_eq (nx := 110) (tgt := 119) hJ dX1_countBindings_107 rfl (by decide) (fun c107 => ?_) (fun c107 => ?_)
      · have hn9 : ¬ (v + 1 = nv ∧ ¬ s - k * us v ≤ spare) := by
          first
          | (rw [gb_f] at c107; exact fun q => absurd q.1 (of_decide_eq_false c107))
          | (rw [gnlt hsp (by omega)] at c116; exact fun q => absurd q.2 (by omega))
        have hFk : F k = gE t L spare nv us ps (a + (L + k)) (s - k * us v) (gVs env v a (L + k)) := (hFe k).trans (if_neg hn9)
        refine j_p (nx := 120) hJ dX1_countBindings_119 rfl rfl ?_
        refine j_get (nx := 123) hJ dX1_countBindings_120 rfl fX1_62 (by assumption) (by rfl) ?_
        refine j_p (nx := 125) hJ dX1_countBindings_123 rfl rfl ?_
        refine j_p (nx := 126) hJ dX1_countBindings_125 rfl rfl ?_
        rw [gadd]
        refine j_p (nx := 128) hJ dX1_countBindings_126 rfl rfl ?_
        refine j_p (nx := 129) hJ dX1_countBindings_128 rfl rfl ?_
        refine j_get (nx := 132) hJ dX1_countBindings_129 rfl fX1_15 (by assumption) (by rfl) ?_
        refine j_p (nx := 134) hJ dX1_countBindings_132 rfl rfl ?_
        refine j_p (nx := 136) hJ dX1_countBindings_134 rfl rfl ?_
        refine j_iast (j := v) (nx := 137) hJ dX1_countBindings_136 rfl hz1 rfl hv4 (by decide) ?_
        have hM2 := gMatLS.set hv4 hM1 hz1 (L + k)
        obtain ⟨h762, -⟩ := id hM2
        have hF2 : gFr 127 128 h _ := hF1.tr (gup_fr h1 127 128 (gia 4 (upd fz1 v (nI (L + k)))))
        have hP2 := hP.offS hF2 o1 o2
        have hT2 := hT.offS hF2 o3 o4
        refine j_p (nx := 139) hJ dX1_countBindings_137 rfl rfl ?_
        refine j_p (nx := 140) hJ dX1_countBindings_139 rfl rfl ?_
        refine j_p (nx := 141) hJ dX1_countBindings_140 rfl rfl ?_
        refine j_p (nx := 142) hJ dX1_countBindings_141 rfl rfl ?_
        refine j_c (nx := 143) hJ dX1_countBindings_142 rfl gk_iconst_1 ?_
        refine j_p (nx := 144) hJ dX1_countBindings_143 rfl rfl ?_
        rw [show nI pos + 1 = nI (pos + 1) from (nI_succ pos).symm]
        refine j_p (nx := 145) hJ dX1_countBindings_144 rfl rfl ?_
        refine j_p (nx := 147) hJ dX1_countBindings_145 rfl rfl ?_
        refine j_p (nx := 149) hJ dX1_countBindings_147 rfl rfl ?_
        refine j_p (nx := 150) hJ dX1_countBindings_149 rfl rfl ?_
        rw [gadd]
        refine j_p (nx := 152) hJ dX1_countBindings_150 rfl rfl ?_
        refine j_p (nx := 154) hJ dX1_countBindings_152 rfl rfl ?_
        refine j_p (nx := 156) hJ dX1_countBindings_154 rfl rfl ?_
        refine j_p (nx := 157) hJ dX1_countBindings_156 rfl rfl ?_
        rw [gsub (by omega)]
        refine j_cv (nx := 160) hJ dX1_countBindings_157 rfl (IH _ (pos + 1) (a + (L + k)) (s - k * us v) (lim - ((List.range k).flatMap F).length) (gVs env v a (L + k)) hM2 hP2 hT2 hdr.2.2.1 (by omega) (by omega) (by omega) (by omega) (by omega) (gVs_ok henv (by omega) (by omega))) mX1_42 (by assumption) kX1_count rfl (gle8 rfl) (fun o h3 hp => ?_)
        obtain ⟨rfl, hM3, hF3⟩ := hp
        rw [← hFk] at hM3
        rw [← hFk]
        refine j_p (nx := 161) hJ dX1_countBindings_160 rfl rfl ?_
        rw [gadd]
        refine j_p (nx := 163) hJ dX1_countBindings_161 rfl rfl ?_
        refine j_inc (nx := 166) hJ dX1_countBindings_163 rfl rfl (gi1 k) rfl ?_
        refine j_go (tgt := 76) hJ dX1_countBindings_166 (by decide) ?_
        have e8 : (List.range (k + 1)).flatMap F = ((List.range k).flatMap F) ++ F k := by
          rw [List.range_succ, List.flatMap_append]
          simp
        have e7 : ((List.range (k + 1)).flatMap F).length = ((List.range k).flatMap F).length + (F k).length := by rw [e8, List.length_append]
        by_cases hlt : (F k).length < lim - ((List.range k).flatMap F).length
        · rw [if_pos hlt] at hM3
          have ih1 := ih (by omega) h3 (some (.int (nI (s - k * us v)))) (some (.int (nI (L + k)))) (gMatLS.of hv4 hM3) (hF2.tr hF3) (by omega)
          rw [Nat.min_eq_right (by omega), ← e7]
          exact ih1
        · rw [if_neg hlt] at hM3
          have hfin : ((List.range k).flatMap F).length + min (lim - ((List.range k).flatMap F).length) (F k).length = lim := by rw [Nat.min_eq_left (by omega)]; omega
          rw [hfin]
          have e6 : ((List.range (s / us v + 1)).flatMap F) = ((List.range k).flatMap F) ++ F k ++ ((List.range (s / us v + 1 - (k + 1))).map (fun i => k + 1 + i)).flatMap F := by
            rw [grange_split (k := k) (n := s / us v + 1) (by omega), List.flatMap_append, e8]
          have hlen : lim ≤ ((List.range (s / us v + 1)).flatMap F).length := by rw [e6, List.length_append, List.length_append]; omega
          have hget : ((List.range (s / us v + 1)).flatMap F).getD (lim - 1) env = (F k).getD (lim - ((List.range k).flatMap F).length - 1) (gVs env v a (L + k)) := by
            rw [e6, List.append_assoc, List.getD_eq_getElem?_getD, List.getElem?_append_right (by omega), List.getElem?_append_left (by omega), List.getD_eq_getElem?_getD, show lim - 1 - ((List.range k).flatMap F).length = lim - ((List.range k).flatMap F).length - 1 by omega]
            have hlt2 : lim - ((List.range k).flatMap F).length - 1 < (F k).length := by omega
            rw [List.getElem?_eq_getElem hlt2]
            rfl
          have fin : ∀ (x y : Option Value), J 169 [some (.ref 126), some (.ref rp), some (.int (nI pos)), some (.ref rt), some (.int (nI a)), some (.int (nI s)), some (.int (nI lim)), some (.int (nI v)), some (.int (gb (decide (v + 1 = nv)))), some (.int (nI (s / us v))), some (.int (nI lim)), some (.int (nI (k + 1))), x, y] [] h3 (n, 0, 0, fl) := by
            intro x y
            refine j_p (nx := 171) hJ dX1_countBindings_169 rfl rfl ?_
            refine j_p (nx := 173) hJ dX1_countBindings_171 rfl rfl ?_
            refine j_ic_ge (nx := 176) (tgt := 184) hJ dX1_countBindings_173 rfl (by decide) (fun c173 => ?_) (fun c173 => absurd c173 (fun q => q (Int32.le_refl _)))
            refine j_p (nx := 186) hJ dX1_countBindings_184 rfl rfl ?_
            exact j_iret hJ dX1_countBindings_186 ⟨by rw [hET, Nat.min_eq_left hlen], by rw [hET, if_neg (by omega), hget]; exact hM3, hF2.tr hF3⟩
          refine j_p (nx := 78) hJ dX1_countBindings_76 rfl rfl ?_
          refine j_p (nx := 80) hJ dX1_countBindings_78 rfl rfl ?_
          refine j_ic_gt (nx := 83) (tgt := 169) hJ dX1_countBindings_80 rfl (by decide) (fun c80 => ?_) (fun c80 => ?_)
          · exact fin _ _
          · refine j_p (nx := 85) hJ dX1_countBindings_83 rfl rfl ?_
            refine j_p (nx := 87) hJ dX1_countBindings_85 rfl rfl ?_
            refine j_ic_ge (nx := 90) (tgt := 169) hJ dX1_countBindings_87 rfl (by decide) (fun c87 => ?_) (fun c87 => absurd c87 (fun q => q (Int32.le_refl _)))
            exact fin _ _
      · rw [gb_t] at c107
        have hl9 := of_decide_eq_true c107
        refine j_p (nx := 112) hJ dX1_countBindings_110 rfl rfl ?_
        refine j_p (nx := 113) hJ dX1_countBindings_112 rfl rfl ?_
        refine j_get (nx := 116) hJ dX1_countBindings_113 rfl fX1_35 (by assumption) (by rfl) ?_
        refine j_ic_gt (nx := 119) (tgt := 163) hJ dX1_countBindings_116 rfl (by decide) (fun c116 => ?_) (fun c116 => ?_)
        · rw [gnlt hsp (by omega)] at c116
          have hs9 : ¬ s - k * us v ≤ spare := by omega
          have e8 : (List.range (k + 1)).flatMap F = ((List.range k).flatMap F) := by
            rw [List.range_succ, List.flatMap_append]
            have : F k = [] := (hFe k).trans (if_pos ⟨hl9, hs9⟩)
            simp [this]
          have ih1 := ih (by omega) h1 (some (.int (nI (s - k * us v)))) w13 hM1 hF1 (by rw [e8]; omega)
          rw [e8] at ih1
          refine j_inc (nx := 166) hJ dX1_countBindings_163 rfl rfl (gi1 k) rfl ?_
          refine j_go (tgt := 76) hJ dX1_countBindings_166 (by decide) ?_
          exact ih1
        · have hn9 : ¬ (v + 1 = nv ∧ ¬ s - k * us v ≤ spare) := by
            first
            | (rw [gb_f] at c107; exact fun q => absurd q.1 (of_decide_eq_false c107))
            | (rw [gnlt hsp (by omega)] at c116; exact fun q => absurd q.2 (by omega))
          have hFk : F k = gE t L spare nv us ps (a + (L + k)) (s - k * us v) (gVs env v a (L + k)) := (hFe k).trans (if_neg hn9)
          refine j_p (nx := 120) hJ dX1_countBindings_119 rfl rfl ?_
          refine j_get (nx := 123) hJ dX1_countBindings_120 rfl fX1_62 (by assumption) (by rfl) ?_
          refine j_p (nx := 125) hJ dX1_countBindings_123 rfl rfl ?_
          refine j_p (nx := 126) hJ dX1_countBindings_125 rfl rfl ?_
          rw [gadd]
          refine j_p (nx := 128) hJ dX1_countBindings_126 rfl rfl ?_
          refine j_p (nx := 129) hJ dX1_countBindings_128 rfl rfl ?_
          refine j_get (nx := 132) hJ dX1_countBindings_129 rfl fX1_15 (by assumption) (by rfl) ?_
          refine j_p (nx := 134) hJ dX1_countBindings_132 rfl rfl ?_
          refine j_p (nx := 136) hJ dX1_countBindings_134 rfl rfl ?_
          refine j_iast (j := v) (nx := 137) hJ dX1_countBindings_136 rfl hz1 rfl hv4 (by decide) ?_
          have hM2 := gMatLS.set hv4 hM1 hz1 (L + k)
          obtain ⟨h762, -⟩ := id hM2
          have hF2 : gFr 127 128 h _ := hF1.tr (gup_fr h1 127 128 (gia 4 (upd fz1 v (nI (L + k)))))
          have hP2 := hP.offS hF2 o1 o2
          have hT2 := hT.offS hF2 o3 o4
          refine j_p (nx := 139) hJ dX1_countBindings_137 rfl rfl ?_
          refine j_p (nx := 140) hJ dX1_countBindings_139 rfl rfl ?_
          refine j_p (nx := 141) hJ dX1_countBindings_140 rfl rfl ?_
          refine j_p (nx := 142) hJ dX1_countBindings_141 rfl rfl ?_
          refine j_c (nx := 143) hJ dX1_countBindings_142 rfl gk_iconst_1 ?_
          refine j_p (nx := 144) hJ dX1_countBindings_143 rfl rfl ?_
          rw [show nI pos + 1 = nI (pos + 1) from (nI_succ pos).symm]
          refine j_p (nx := 145) hJ dX1_countBindings_144 rfl rfl ?_
          refine j_p (nx := 147) hJ dX1_countBindings_145 rfl rfl ?_
          refine j_p (nx := 149) hJ dX1_countBindings_147 rfl rfl ?_
          refine j_p (nx := 150) hJ dX1_countBindings_149 rfl rfl ?_
          rw [gadd]
          refine j_p (nx := 152) hJ dX1_countBindings_150 rfl rfl ?_
          refine j_p (nx := 154) hJ dX1_countBindings_152 rfl rfl ?_
          refine j_p (nx := 156) hJ dX1_countBindings_154 rfl rfl ?_
          refine j_p (nx := 157) hJ dX1_countBindings_156 rfl rfl ?_
          rw [gsub (by omega)]
          refine j_cv (nx := 160) hJ dX1_countBindings_157 rfl (IH _ (pos + 1) (a + (L + k)) (s - k * us v) (lim - ((List.range k).flatMap F).length) (gVs env v a (L + k)) hM2 hP2 hT2 hdr.2.2.1 (by omega) (by omega) (by omega) (by omega) (by omega) (gVs_ok henv (by omega) (by omega))) mX1_42 (by assumption) kX1_count rfl (gle8 rfl) (fun o h3 hp => ?_)
          obtain ⟨rfl, hM3, hF3⟩ := hp
          rw [← hFk] at hM3
          rw [← hFk]
          refine j_p (nx := 161) hJ dX1_countBindings_160 rfl rfl ?_
          rw [gadd]
          refine j_p (nx := 163) hJ dX1_countBindings_161 rfl rfl ?_
          refine j_inc (nx := 166) hJ dX1_countBindings_163 rfl rfl (gi1 k) rfl ?_
          refine j_go (tgt := 76) hJ dX1_countBindings_166 (by decide) ?_
          have e8 : (List.range (k + 1)).flatMap F = ((List.range k).flatMap F) ++ F k := by
            rw [List.range_succ, List.flatMap_append]
            simp
          have e7 : ((List.range (k + 1)).flatMap F).length = ((List.range k).flatMap F).length + (F k).length := by rw [e8, List.length_append]
          by_cases hlt : (F k).length < lim - ((List.range k).flatMap F).length
          · rw [if_pos hlt] at hM3
            have ih1 := ih (by omega) h3 (some (.int (nI (s - k * us v)))) (some (.int (nI (L + k)))) (gMatLS.of hv4 hM3) (hF2.tr hF3) (by omega)
            rw [Nat.min_eq_right (by omega), ← e7]
            exact ih1
          · rw [if_neg hlt] at hM3
            have hfin : ((List.range k).flatMap F).length + min (lim - ((List.range k).flatMap F).length) (F k).length = lim := by rw [Nat.min_eq_left (by omega)]; omega
            rw [hfin]
            have e6 : ((List.range (s / us v + 1)).flatMap F) = ((List.range k).flatMap F) ++ F k ++ ((List.range (s / us v + 1 - (k + 1))).map (fun i => k + 1 + i)).flatMap F := by
              rw [grange_split (k := k) (n := s / us v + 1) (by omega), List.flatMap_append, e8]
            have hlen : lim ≤ ((List.range (s / us v + 1)).flatMap F).length := by rw [e6, List.length_append, List.length_append]; omega
            have hget : ((List.range (s / us v + 1)).flatMap F).getD (lim - 1) env = (F k).getD (lim - ((List.range k).flatMap F).length - 1) (gVs env v a (L + k)) := by
              rw [e6, List.append_assoc, List.getD_eq_getElem?_getD, List.getElem?_append_right (by omega), List.getElem?_append_left (by omega), List.getD_eq_getElem?_getD, show lim - 1 - ((List.range k).flatMap F).length = lim - ((List.range k).flatMap F).length - 1 by omega]
              have hlt2 : lim - ((List.range k).flatMap F).length - 1 < (F k).length := by omega
              rw [List.getElem?_eq_getElem hlt2]
              rfl
            have fin : ∀ (x y : Option Value), J 169 [some (.ref 126), some (.ref rp), some (.int (nI pos)), some (.ref rt), some (.int (nI a)), some (.int (nI s)), some (.int (nI lim)), some (.int (nI v)), some (.int (gb (decide (v + 1 = nv)))), some (.int (nI (s / us v))), some (.int (nI lim)), some (.int (nI (k + 1))), x, y] [] h3 (n, 0, 0, fl) := by
              intro x y
              refine j_p (nx := 171) hJ dX1_countBindings_169 rfl rfl ?_
              refine j_p (nx := 173) hJ dX1_countBindings_171 rfl rfl ?_
              refine j_ic_ge (nx := 176) (tgt := 184) hJ dX1_countBindings_173 rfl (by decide) (fun c173 => ?_) (fun c173 => absurd c173 (fun q => q (Int32.le_refl _)))
              refine j_p (nx := 186) hJ dX1_countBindings_184 rfl rfl ?_
              exact j_iret hJ dX1_countBindings_186 ⟨by rw [hET, Nat.min_eq_left hlen], by rw [hET, if_neg (by omega), hget]; exact hM3, hF2.tr hF3⟩
            refine j_p (nx := 78) hJ dX1_countBindings_76 rfl rfl ?_
            refine j_p (nx := 80) hJ dX1_countBindings_78 rfl rfl ?_
            refine j_ic_gt (nx := 83) (tgt := 169) hJ dX1_countBindings_80 rfl (by decide) (fun c80 => ?_) (fun c80 => ?_)
            · exact fin _ _
            · refine j_p (nx := 85) hJ dX1_countBindings_83 rfl rfl ?_
              refine j_p (nx := 87) hJ dX1_countBindings_85 rfl rfl ?_
              refine j_ic_ge (nx := 90) (tgt := 169) hJ dX1_countBindings_87 rfl (by decide) (fun c87 => ?_) (fun c87 => absurd c87 (fun q => q (Int32.le_refl _)))
              exact fin _ _
  refine j_p (nx := 1) hJ dX1_countBindings_0 rfl rfl ?_
  refine j_p (nx := 2) hJ dX1_countBindings_1 rfl rfl ?_
  refine j_cvR (nx := 5) hJ dX1_countBindings_2 rfl (r_at (fl := fl) (d := D0 + 1) hP (nI pos)) mX1_55 (by assumption) kX2_at rfl (gle8 rfl) ?_
  rw [gat_nI (by omega), hdr.2.1]
  refine j_c (nx := 7) hJ dX1_countBindings_5 rfl gk_bipush_10 ?_
  refine j_p (nx := 8) hJ dX1_countBindings_7 rfl rfl ?_
  rw [hcv]
  refine j_p (nx := 10) hJ dX1_countBindings_8 rfl rfl ?_
  refine j_p (nx := 12) hJ dX1_countBindings_10 rfl rfl ?_
  refine j_csNR (nx := 15) hJ dX1_countBindings_12 rfl (r_isVariable (fl := fl) (d := D0 + 1) (nI v)) mX1_52 rfl (gle8 rfl) ?_
  rw [gbt_nI (by omega), decide_eq_true hv4]
  refine j_if_eq (nx := 18) (tgt := 29) hJ dX1_countBindings_15 rfl (by decide) (fun c15 => absurd c15 (by decide)) (fun c15 => ?_)
  refine j_p (nx := 19) hJ dX1_countBindings_18 rfl rfl ?_
  refine j_get (nx := 22) hJ dX1_countBindings_19 rfl fX1_18 (by assumption) (by rfl) ?_
  refine j_p (nx := 24) hJ dX1_countBindings_22 rfl rfl ?_
  refine j_iald (j := v) (nx := 25) hJ dX1_countBindings_24 rfl h79 rfl hv4 (by decide) ?_
  rw [hfu v hv4]
  refine j_c (nx := 26) hJ dX1_countBindings_25 rfl gk_iconst_1 ?_
  refine j_ic_ge (nx := 29) (tgt := 31) hJ dX1_countBindings_26 rfl (by decide) (fun c26 => ?_) (fun c26 => absurd c26 (fun q => q ((gnle (a := 1) (by omega) (by omega)).mpr hu1v)))
  refine j_p (nx := 33) hJ dX1_countBindings_31 rfl rfl ?_
  refine j_p (nx := 34) hJ dX1_countBindings_33 rfl rfl ?_
  refine j_get (nx := 37) hJ dX1_countBindings_34 rfl fX1_65 (by assumption) (by rfl) ?_
  refine j_c (nx := 38) hJ dX1_countBindings_37 rfl gk_iconst_1 ?_
  refine j_p (nx := 39) hJ dX1_countBindings_38 rfl rfl ?_
  rw [show nI nv - 1 = nI (nv - 1) from gsub (b := 1) (by omega)]
  have tail : ∀ b : Bool, b = decide (v + 1 = nv) → J 47 [some (.ref 126), some (.ref rp), some (.int (nI pos)), some (.ref rt), some (.int (nI a)), some (.int (nI s)), some (.int (nI lim)), some (.int (nI v)), none, none, none, none, none, none] [.int (gb b)] h (n, 0, 0, fl) := by
    intro b hb
    subst hb
    refine j_p (nx := 49) hJ dX1_countBindings_47 rfl rfl ?_
    refine j_p (nx := 51) hJ dX1_countBindings_49 rfl rfl ?_
    refine j_p (nx := 52) hJ dX1_countBindings_51 rfl rfl ?_
    refine j_get (nx := 55) hJ dX1_countBindings_52 rfl fX1_18 (by assumption) (by rfl) ?_
    refine j_p (nx := 57) hJ dX1_countBindings_55 rfl rfl ?_
    refine j_iald (j := v) (nx := 58) hJ dX1_countBindings_57 rfl h79 rfl hv4 (by decide) ?_
    rw [hfu v hv4]
    refine j_div (nx := 59) hJ dX1_countBindings_58 rfl (by rw [show (0 : Int32) = nI 0 from rfl, gneq (by omega) (by omega)]; omega) ?_
    rw [gdiv (by omega) (by omega)]
    refine j_p (nx := 61) hJ dX1_countBindings_59 rfl rfl ?_
    refine j_c (nx := 62) hJ dX1_countBindings_61 rfl gk_iconst_0 ?_
    refine j_p (nx := 64) hJ dX1_countBindings_62 rfl rfl ?_
    refine j_p (nx := 65) hJ dX1_countBindings_64 rfl rfl ?_
    refine j_get (nx := 68) hJ dX1_countBindings_65 rfl fX1_9 (by assumption) (by rfl) ?_
    refine j_p (nx := 70) hJ dX1_countBindings_68 rfl rfl ?_
    refine j_p (nx := 72) hJ dX1_countBindings_70 rfl rfl ?_
    refine j_iast (j := v) (nx := 73) hJ dX1_countBindings_72 rfl h77 rfl hv4 (by decide) ?_
    refine j_c (nx := 74) hJ dX1_countBindings_73 rfl gk_iconst_0 ?_
    refine j_p (nx := 76) hJ dX1_countBindings_74 rfl rfl ?_
    exact loop 0 (Nat.zero_le _) _ none none (gMatLS.begin hM h77 a) (gup_fr' _ _ _ _) (by show 0 < lim; omega)
  refine j_ic_ne (nx := 42) (tgt := 46) hJ dX1_countBindings_39 rfl (by decide) (fun c39 => ?_) (fun c39 => ?_)
  · rw [gneq (by omega) (by omega)] at c39
    refine j_c (nx := 47) hJ dX1_countBindings_46 rfl gk_iconst_0 ?_
    exact tail false (decide_eq_false (by omega)).symm
  · rw [gneq (by omega) (by omega)] at c39
    refine j_c (nx := 43) hJ dX1_countBindings_42 rfl gk_iconst_1 ?_
    refine j_go (tgt := 47) hJ dX1_countBindings_43 (by decide) ?_
    exact tail true (decide_eq_true (by omega)).symm
