/-- what the images make of one symbol -/
def gpe (R : Nat → List Int32) (c : Int32) : List Int32 := match gvo c with | some v => R (17 + 2 * v) | none => [c]
theorem gpw_s {R : Nat → List Int32} {p : List Int32} {i : Nat} (h : i < p.length) : gpw R (p.take (i + 1)) = gpw R (p.take i) ++ gpe R (p.getD i (-1)) := gpw_k h
theorem gpe_l (R : Nat → List Int32) {c : Int32} (hs : gsy c) (h : ¬ (10 : Int32) ≤ c) : gpe R c = [c] ∧ (c - 10 : Int32) < 0 := by
  rw [Int32.le_iff_toInt_le, show (10 : Int32).toInt = 10 by decide] at h
  obtain ⟨h1, h2⟩ := hs
  constructor
  · unfold gpe
    cases hv : gvo c with
    | none => rfl
    | some v =>
      obtain ⟨q1, q2, q3⟩ := gvo_some hv
      rw [q3, nI_toInt (by omega)] at h; omega
  · rw [Int32.lt_iff_toInt_lt, Int32.toInt_sub, show (10 : Int32).toInt = 10 by decide, Int32.toInt_zero, Int.bmod_eq_of_le] <;> (try simp) <;> omega
theorem gpe_v (R : Nat → List Int32) {c : Int32} (hs : gsy c) (h : (10 : Int32) ≤ c) : ∃ v, v < 4 ∧ c - 10 = nI v ∧ gpe R c = R (17 + 2 * v) ∧ gvo c = some v := by
  rw [Int32.le_iff_toInt_le, show (10 : Int32).toInt = 10 by decide] at h
  cases hv : gvo c with
  | none => have := gvo_none hs hv; omega
  | some v =>
    obtain ⟨q1, q2, q3⟩ := gvo_some hv
    exact ⟨v, q1, q2, by unfold gpe; rw [hv], rfl⟩
theorem gpe_8 {R : Nat → List Int32} (h : ∀ v, v < 4 → (R (17 + 2 * v)).length ≤ 8) (c : Int32) : (gpe R c).length ≤ 8 := by
  unfold gpe
  cases hv : gvo c with
  | none => show 1 ≤ 8; omega
  | some v => exact h v (gvo_some hv).1
theorem gpw_64 {R : Nat → List Int32} (h : ∀ v, v < 4 → (R (17 + 2 * v)).length ≤ 8) (p : List Int32) : (gpw R p).length ≤ 8 * p.length := by
  induction p with
  | nil => exact Nat.le_refl 0
  | cons c p ih =>
    have e : gpw R (c :: p) = gpe R c ++ gpw R p := List.flatMap_cons
    rw [e, List.length_append, List.length_cons]
    have := gpe_8 h c
    omega
theorem gm10 {c : Int32} (hs : gsy c) : (c - 10 : Int32) < 0 ↔ ¬ (10 : Int32) ≤ c := by
  obtain ⟨h1, h2⟩ := hs
  have e : (c - 10 : Int32).toInt = c.toInt - 10 := by
    rw [Int32.toInt_sub, show (10 : Int32).toInt = 10 by decide, Int.bmod_eq_of_le] <;> (try simp) <;> omega
  rw [Int32.lt_iff_toInt_lt, e, Int32.le_iff_toInt_le, show (10 : Int32).toInt = 10 by decide, Int32.toInt_zero]; omega
/-- a list that grows by one -/
theorem gSt.snoc {f : Nat → Int32} {t : List Int32} {j : Nat} {x : Int32} (h : gSt f 0 t) (hj : t.length = j) : gSt (upd f j x) 0 (t ++ [x]) := gSt.of (fun i hi => by
  rw [List.length_append, List.length_singleton] at hi
  rw [Nat.zero_add]
  by_cases e : i = j
  · subst e; rw [ggetD_r hj]; simp [upd]
  · rw [ggetD_l (by omega)]
    have := h.get (i := i) (by omega)
    rw [Nat.zero_add] at this
    simp only [upd]; rw [if_neg e]; exact this)
theorem gtk1 {q : List Int32} {j : Nat} (h : j < q.length) : q.take (j + 1) = q.take j ++ [q.getD j (-1)] := by
  rw [List.take_succ_eq_append_getElem h, List.getD_eq_getElem?_getD, List.getElem?_eq_getElem h]; rfl
set_option maxHeartbeats 4000000 in
theorem r6_addProduced {d : Nat} {h0 h : GH} {R : Nat → List Int32} {N : Nat → Int32} (hS : gRS h0 h R N) (hI : gInv R N) (x : Int32) : gN false (d + 60) yX6_addProduced [.ref 99, .int x] h (fun o h' => o = some (.int (s_addProduced R N x).1) ∧ gRS h0 h' (s_addProduced R N x).2.1 (s_addProduced R N x).2.2) := by
  obtain ⟨A, E, M, pv, tv, hP, hG⟩ := hS
  have g0 := hG.1.1
  have g9 := hG.1.2.2.1
  obtain ⟨⟨k, ss, hk1, hk3, hss1, hss6, hpt, him, hsm⟩, hI2, hI3, hI4, hI5⟩ := hI
  have g5 : M 5 = nI ss := hG.1.2.1.trans hss1
  have egss := gss_nI hss1 hss6
  have him8 : ∀ v, v < 4 → (R (17 + 2 * v)).length ≤ 8 := fun v hv => (him v hv).1
  refine gN.of MX6_addProduced (Nat.le_of_ble_eq_true rfl) (fun J n hJ => ?_)
  show J 0 [some (.ref 99), some (.int x), none, none, none, none, none] [] h (n, 0, 0, false)
  by_cases hx : gbt x 6 = true
  · obtain ⟨r, rfl, hr⟩ := gbt_spec hx
    have egr := gr_nI (r := r) (by omega)
    have hl := hG.2.1 r hr
    have hl8 := hl.2.1
    have hpr := hpt r hr
    have hpr : gPt k (R (5 + 2 * r)) := hpr
    have inner : ∀ (i : Nat) (q : List Int32) (t : List Int32) (hil : i < (R (5 + 2 * r)).length) (hfit : t.length + q.length ≤ 8) (hq : ((((R (5 + 2 * r)).getD i (-1)) - 10 : Int32) < 0 ∧ q = [((R (5 + 2 * r)).getD i (-1))]) ∨ ∃ v, v < 4 ∧ ((R (5 + 2 * r)).getD i (-1)) - 10 = nI v ∧ q = R (17 + 2 * v)) (hex : ∀ (h2 : GH) (f : Nat → Int32), gP h0 h2 (gU A 107 f) E (gU M 11 (nI (t ++ q).length)) pv tv → gSt f 0 (t ++ q) → J 204 [some (.ref 99), some (.int (nI r)), some (.int (nI (gpw R (R (5 + 2 * r))).length)), some (.int (nI (8 * r + i))), some (.int (((R (5 + 2 * r)).getD i (-1)) - 10)), some (.int (nI q.length)), some (.int (nI q.length))] [] h2 (n, 0, 0, false)) (j : Nat), j ≤ q.length → ∀ (h1 : GH) (f : Nat → Int32), gP h0 h1 (gU A 107 f) E (gU M 11 (nI (t.length + j))) pv tv → gSt f 0 (t ++ q.take j) → J 145 [some (.ref 99), some (.int (nI r)), some (.int (nI (gpw R (R (5 + 2 * r))).length)), some (.int (nI (8 * r + i))), some (.int (((R (5 + 2 * r)).getD i (-1)) - 10)), some (.int (nI q.length)), some (.int (nI j))] [] h1 (n, 0, 0, false) := by
      intro i q t hil hfit hq hex
      refine gloop _ _ (fun j hj ih h1 f hP1 hst => ?_)
      refine j_p (nx := 147) hJ dX6_addProduced_145 rfl rfl ?_
      refine j_p (nx := 149) hJ dX6_addProduced_147 rfl rfl ?_
      refine j_ic_ge (nx := 152) (tgt := 204) hJ dX6_addProduced_149 rfl (by decide) (fun c149 => ?_) (fun c149 => ?_)
      · rw [gnle (by omega) (by omega)] at c149
        have e0 : j = q.length := by omega
        subst e0
        rw [List.take_length] at hst
        rw [← List.length_append] at hP1
        exact hex h1 f hP1 hst
      rw [gnle (by omega) (by omega)] at c149
      have hjl : j < q.length := by omega
      refine j_p (nx := 153) hJ dX6_addProduced_152 rfl rfl ?_
      refine j_get (nx := 156) hJ dX6_addProduced_153 rfl fX6_37 hP1.1.1 (by rfl) ?_
      refine j_p (nx := 157) hJ dX6_addProduced_156 rfl rfl ?_
      refine j_get (nx := 160) hJ dX6_addProduced_157 rfl fX6_112 hP1.1.1 (by rfl) ?_
      rw [show gU M 11 (nI (t.length + j)) 11 = nI (t.length + j) from gU_s _ _ _]
      refine j_p (nx := 162) hJ dX6_addProduced_160 rfl rfl ?_
      rcases hq with hq | ⟨v, hv4, hcv, hqv⟩
      · refine j_if_ge (nx := 165) (tgt := 174) hJ dX6_addProduced_162 rfl (by decide) (fun c162 => absurd hq.1 (by rw [Int32.lt_iff_toInt_lt]; rw [Int32.le_iff_toInt_le] at c162; omega)) (fun c162 => ?_)
        refine j_p (nx := 166) hJ dX6_addProduced_165 rfl rfl ?_
        refine j_get (nx := 169) hJ dX6_addProduced_166 rfl fX6_15 hP1.1.1 (by rfl) ?_
        refine j_p (nx := 170) hJ dX6_addProduced_169 rfl rfl ?_
        refine j_iald (j := 8 * r + i) (nx := 171) hJ dX6_addProduced_170 rfl (show h1 100 = some (gia 48 ((gU A 107 f) 100)) from hP1.a 100 (by unfold gia'; omega)) rfl (by omega) (by decide) ?_
        rw [show (gU A 107 f) 100 (8 * r + i) = q.getD j (-1) from (by rw [gU_n _ _ (by omega), hl.2.2.get hil]; rw [hq.2] at hjl ⊢; have : j = 0 := (by simp at hjl; exact hjl); subst this; rfl)]
        refine j_go (tgt := 187) hJ dX6_addProduced_171 (by decide) ?_
        refine j_iast (j := t.length + j) (nx := 188) hJ dX6_addProduced_187 rfl (show h1 107 = some (gia 8 ((gU A 107 f) 107)) from hP1.a 107 (by unfold gia'; omega)) rfl (by omega) (by decide) ?_
        rw [show gU A 107 f 107 = f from gU_s _ _ _]
        have hP2 := hP1.arr (a := 107) (by unfold gia'; omega) (upd f (t.length + j) (q.getD j (-1)))
        have hP3 : gP h0 (gup h1 107 (gia 8 (upd f (t.length + j) (q.getD j (-1))))) (gU A 107 (upd f (t.length + j) (q.getD j (-1)))) E (gU M 11 (nI (t.length + j))) pv tv := hP2.rw (fun a => by unfold gU; split <;> rfl) (fun _ => rfl) (fun _ => rfl)
        generalize gup h1 107 _ = g2 at hP3 ⊢
        refine j_p (nx := 189) hJ dX6_addProduced_188 rfl rfl ?_
        refine j_p (nx := 190) hJ dX6_addProduced_189 rfl rfl ?_
        refine j_get (nx := 193) hJ dX6_addProduced_190 rfl fX6_112 hP3.1.1 (by rfl) ?_
        rw [show gU M 11 (nI (t.length + j)) 11 = nI (t.length + j) from gU_s _ _ _]
        refine j_c (nx := 194) hJ dX6_addProduced_193 rfl gk_iconst_1 ?_
        refine j_p (nx := 195) hJ dX6_addProduced_194 rfl rfl ?_
        rw [show nI (t.length + j) + 1 = nI (t.length + (j + 1)) from (nI_succ _).symm]
        refine j_put (nx := 198) hJ dX6_addProduced_195 rfl fX6_112 (zX6_11 _) hP3.1.1 (Nat.le_of_ble_eq_true rfl) ?_
        change J 198 _ _ (gup g2 99 (gO (gU (gU M 11 (nI (t.length + j))) 11 (nI (t.length + (j + 1)))) pv tv)) _
        have hP4 := hP3.fld (gU (gU M 11 (nI (t.length + j))) 11 (nI (t.length + (j + 1)))) pv tv
        have hP5 := hP4.rw (M' := gU M 11 (nI (t.length + (j + 1)))) (fun _ => rfl) (fun _ => rfl) (fun a => by unfold gU; split <;> rfl)
        refine j_inc (nx := 201) hJ dX6_addProduced_198 rfl rfl (gi1 j) rfl ?_
        refine j_go (tgt := 145) hJ dX6_addProduced_201 (by decide) ?_
        refine ih hjl _ _ hP5 ?_
        rw [gtk1 hjl, ← List.append_assoc]
        exact hst.snoc (by rw [List.length_append, List.length_take]; omega)
      · refine j_if_ge (nx := 165) (tgt := 174) hJ dX6_addProduced_162 rfl (by decide) (fun c162 => ?_) (fun c162 => absurd (show (0 : Int32) ≤ nI v from by rw [Int32.le_iff_toInt_le, nI_toInt (by omega), Int32.toInt_zero]; omega) (by rw [hcv] at c162; exact c162))
        rw [hcv] at ih
        refine j_p (nx := 175) hJ dX6_addProduced_174 rfl rfl ?_
        refine j_get (nx := 178) hJ dX6_addProduced_175 rfl fX6_28 hP1.1.1 (by rfl) ?_
        refine j_c (nx := 180) hJ dX6_addProduced_178 rfl gk_bipush_8 ?_
        refine j_p (nx := 182) hJ dX6_addProduced_180 rfl rfl ?_
        refine j_p (nx := 183) hJ dX6_addProduced_182 rfl rfl ?_
        rw [hcv, show (8 : Int32) = nI 8 from rfl, gmul]
        refine j_p (nx := 185) hJ dX6_addProduced_183 rfl rfl ?_
        refine j_p (nx := 186) hJ dX6_addProduced_185 rfl rfl ?_
        rw [gadd]
        have hiv := hG.2.2.1 v hv4
        have hiv8 := hiv.2.1
        refine j_iald (j := 8 * v + j) (nx := 187) hJ dX6_addProduced_186 rfl (show h1 104 = some (gia 32 ((gU A 107 f) 104)) from hP1.a 104 (by unfold gia'; omega)) rfl (by subst hqv; omega) (by decide) ?_
        rw [show (gU A 107 f) 104 (8 * v + j) = q.getD j (-1) from (by rw [gU_n _ _ (by omega), hqv]; exact hiv.2.2.get (by subst hqv; omega))]
        refine j_iast (j := t.length + j) (nx := 188) hJ dX6_addProduced_187 rfl (show h1 107 = some (gia 8 ((gU A 107 f) 107)) from hP1.a 107 (by unfold gia'; omega)) rfl (by omega) (by decide) ?_
        rw [show gU A 107 f 107 = f from gU_s _ _ _]
        have hP2 := hP1.arr (a := 107) (by unfold gia'; omega) (upd f (t.length + j) (q.getD j (-1)))
        have hP3 : gP h0 (gup h1 107 (gia 8 (upd f (t.length + j) (q.getD j (-1))))) (gU A 107 (upd f (t.length + j) (q.getD j (-1)))) E (gU M 11 (nI (t.length + j))) pv tv := hP2.rw (fun a => by unfold gU; split <;> rfl) (fun _ => rfl) (fun _ => rfl)
        generalize gup h1 107 _ = g2 at hP3 ⊢
        refine j_p (nx := 189) hJ dX6_addProduced_188 rfl rfl ?_
        refine j_p (nx := 190) hJ dX6_addProduced_189 rfl rfl ?_
        refine j_get (nx := 193) hJ dX6_addProduced_190 rfl fX6_112 hP3.1.1 (by rfl) ?_
        rw [show gU M 11 (nI (t.length + j)) 11 = nI (t.length + j) from gU_s _ _ _]
        refine j_c (nx := 194) hJ dX6_addProduced_193 rfl gk_iconst_1 ?_
        refine j_p (nx := 195) hJ dX6_addProduced_194 rfl rfl ?_
        rw [show nI (t.length + j) + 1 = nI (t.length + (j + 1)) from (nI_succ _).symm]
        refine j_put (nx := 198) hJ dX6_addProduced_195 rfl fX6_112 (zX6_11 _) hP3.1.1 (Nat.le_of_ble_eq_true rfl) ?_
        change J 198 _ _ (gup g2 99 (gO (gU (gU M 11 (nI (t.length + j))) 11 (nI (t.length + (j + 1)))) pv tv)) _
        have hP4 := hP3.fld (gU (gU M 11 (nI (t.length + j))) 11 (nI (t.length + (j + 1)))) pv tv
        have hP5 := hP4.rw (M' := gU M 11 (nI (t.length + (j + 1)))) (fun _ => rfl) (fun _ => rfl) (fun a => by unfold gU; split <;> rfl)
        refine j_inc (nx := 201) hJ dX6_addProduced_198 rfl rfl (gi1 j) rfl ?_
        refine j_go (tgt := 145) hJ dX6_addProduced_201 (by decide) ?_
        refine ih hjl _ _ hP5 ?_
        rw [gtk1 hjl, ← List.append_assoc]
        exact hst.snoc (by rw [List.length_append, List.length_take]; omega)
    have loop2 : (gpw R (R (5 + 2 * r))).length ≤ 8 → ss < 6 → ∀ i, i ≤ (R (5 + 2 * r)).length → ∀ (w4 w5 w6 : Option Value) (h1 : GH) (f : Nat → Int32), gP h0 h1 (gU A 107 f) E (gU M 11 (nI (gpw R ((R (5 + 2 * r)).take i)).length)) pv tv → gSt f 0 (gpw R ((R (5 + 2 * r)).take i)) → J 98 [some (.ref 99), some (.int (nI r)), some (.int (nI (gpw R (R (5 + 2 * r))).length)), some (.int (nI (8 * r + i))), w4, w5, w6] [] h1 (n, 0, 0, false) := by
      intro h8 hs6
      refine gloop _ _ (fun i hi ih w4 w5 w6 h1 f hP1 hst => ?_)
      refine j_p (nx := 99) hJ dX6_addProduced_98 rfl rfl ?_
      refine j_c (nx := 101) hJ dX6_addProduced_99 rfl gk_bipush_8 ?_
      refine j_p (nx := 102) hJ dX6_addProduced_101 rfl rfl ?_
      refine j_p (nx := 103) hJ dX6_addProduced_102 rfl rfl ?_
      rw [show (8 : Int32) = nI 8 from rfl, gmul]
      refine j_p (nx := 104) hJ dX6_addProduced_103 rfl rfl ?_
      refine j_get (nx := 107) hJ dX6_addProduced_104 rfl fX6_19 hP1.1.1 (by rfl) ?_
      refine j_p (nx := 108) hJ dX6_addProduced_107 rfl rfl ?_
      refine j_iald (j := r) (nx := 109) hJ dX6_addProduced_108 rfl (show h1 101 = some (gia 6 ((gU A 107 f) 101)) from hP1.a 101 (by unfold gia'; omega)) rfl (by omega) (by decide) ?_
      rw [show (gU A 107 f) 101 r = nI (R (5 + 2 * r)).length from (by rw [gU_n _ _ (by omega)]; exact hl.1)]
      refine j_p (nx := 110) hJ dX6_addProduced_109 rfl rfl ?_
      rw [gadd]
      refine j_ic_ge (nx := 113) (tgt := 210) hJ dX6_addProduced_110 rfl (by decide) (fun c110 => ?_) (fun c110 => ?_)
      · rw [gnle (by omega) (by omega)] at c110
        have e0 : i = (R (5 + 2 * r)).length := by omega
        subst e0
        rw [List.take_length] at hP1 hst
        have hG1 : gG (gU A 107 f) E (gU M 11 (nI (gpw R (R (5 + 2 * r))).length)) R N := hG.scr (fun a ha => gU_n _ _ (by omega)) rfl ⟨rfl, rfl, rfl, rfl, rfl, rfl⟩
        refine j_p (nx := 211) hJ dX6_addProduced_210 rfl rfl ?_
        refine j_cv (nx := 214) hJ dX6_addProduced_211 rfl (r6_addToSample (d := d + 58) hP1 hG1 hss1 (by omega) (t := gpw R (R (5 + 2 * r))) (gU_s _ _ _) h8 (by rw [gU_s]; exact hst)) mX6_233 hP1.1.1 kX6_addToSample rfl (gle8 rfl) (fun o h2 hp => ?_)
        obtain ⟨rfl, hS2⟩ := hp
        have e : s_addProduced R N (nI r) = (nI (ss + 1), gU R (25 + 2 * ss) (gpw R (R (5 + 2 * r))), gU N 2 (nI (ss + 1))) := by unfold s_addProduced; rw [if_pos hx, egr, show gpd R (R (5 + 2 * r)) = some (gpw R (R (5 + 2 * r))) from if_pos h8]; show s_add _ _ _ = _; unfold s_add; rw [egss]; exact if_pos (by omega)
        exact j_iret hJ dX6_addProduced_214 ⟨by rw [e], by rw [e]; exact hS2⟩
      · rw [gnle (by omega) (by omega)] at c110
        have hil : i < (R (5 + 2 * r)).length := by omega
        have hcy := hpr.sy hk3.2 _ (ggetD_mem hil)
        have hle := gpw_le R (R (5 + 2 * r)) (i + 1)
        rw [gpw_s hil, List.length_append] at hle
        skip
        refine j_p (nx := 114) hJ dX6_addProduced_113 rfl rfl ?_
        refine j_get (nx := 117) hJ dX6_addProduced_114 rfl fX6_15 hP1.1.1 (by rfl) ?_
        refine j_p (nx := 118) hJ dX6_addProduced_117 rfl rfl ?_
        refine j_iald (j := 8 * r + i) (nx := 119) hJ dX6_addProduced_118 rfl (show h1 100 = some (gia 48 ((gU A 107 f) 100)) from hP1.a 100 (by unfold gia'; omega)) rfl (by omega) (by decide) ?_
        rw [show (gU A 107 f) 100 (8 * r + i) = ((R (5 + 2 * r)).getD i (-1)) from (by rw [gU_n _ _ (by omega)]; exact hl.2.2.get hil)]
        refine j_c (nx := 121) hJ dX6_addProduced_119 rfl gk_bipush_10 ?_
        refine j_p (nx := 122) hJ dX6_addProduced_121 rfl rfl ?_
        refine j_p (nx := 124) hJ dX6_addProduced_122 rfl rfl ?_
        refine j_p (nx := 126) hJ dX6_addProduced_124 rfl rfl ?_
        by_cases h10 : (10 : Int32) ≤ ((R (5 + 2 * r)).getD i (-1))
        · obtain ⟨v, hv4, hcv, hqv, -⟩ := gpe_v R hcy h10
          have hiv := hG.2.2.1 v hv4
          refine j_if_ge (nx := 129) (tgt := 133) hJ dX6_addProduced_126 rfl (by decide) (fun c126 => ?_) (fun c126 => absurd (show (0 : Int32) ≤ nI v from by rw [Int32.le_iff_toInt_le, nI_toInt (by omega), Int32.toInt_zero]; omega) (by rw [hcv] at c126; exact c126))
          refine j_p (nx := 134) hJ dX6_addProduced_133 rfl rfl ?_
          refine j_get (nx := 137) hJ dX6_addProduced_134 rfl fX6_31 hP1.1.1 (by rfl) ?_
          refine j_p (nx := 139) hJ dX6_addProduced_137 rfl rfl ?_
          rw [hcv]
          refine j_iald (j := v) (nx := 140) hJ dX6_addProduced_139 rfl (show h1 105 = some (gia 4 ((gU A 107 f) 105)) from hP1.a 105 (by unfold gia'; omega)) rfl (by omega) (by decide) ?_
          rw [show (gU A 107 f) 105 v = nI (gpe R ((R (5 + 2 * r)).getD i (-1))).length from (by rw [gU_n _ _ (by omega), hqv]; exact hiv.1), ← hcv]
          refine j_p (nx := 142) hJ dX6_addProduced_140 rfl rfl ?_
          refine j_c (nx := 143) hJ dX6_addProduced_142 rfl gk_iconst_0 ?_
          refine j_p (nx := 145) hJ dX6_addProduced_143 rfl rfl ?_
          refine inner i (gpe R ((R (5 + 2 * r)).getD i (-1))) (gpw R ((R (5 + 2 * r)).take i)) hil (by omega) (Or.inr ⟨v, hv4, hcv, hqv⟩) (fun h2 f2 hP2 hst2 => ?_) 0 (Nat.zero_le _) h1 f hP1 (by rw [List.take_zero, List.append_nil]; exact hst)
          refine j_inc (nx := 207) hJ dX6_addProduced_204 rfl rfl (gi1 _) rfl ?_
          refine j_go (tgt := 98) hJ dX6_addProduced_207 (by decide) ?_
          rw [← gpw_s hil] at hP2 hst2
          exact ih hil _ _ _ _ _ hP2 hst2
        · obtain ⟨hq1, hq2⟩ := gpe_l R hcy h10
          refine j_if_ge (nx := 129) (tgt := 133) hJ dX6_addProduced_126 rfl (by decide) (fun c126 => absurd hq2 (by rw [Int32.lt_iff_toInt_lt]; rw [Int32.le_iff_toInt_le] at c126; omega)) (fun c126 => ?_)
          refine j_c (nx := 130) hJ dX6_addProduced_129 rfl gk_iconst_1 ?_
          refine j_go (tgt := 140) hJ dX6_addProduced_130 (by decide) ?_
          refine j_p (nx := 142) hJ dX6_addProduced_140 rfl rfl ?_
          refine j_c (nx := 143) hJ dX6_addProduced_142 rfl gk_iconst_0 ?_
          refine j_p (nx := 145) hJ dX6_addProduced_143 rfl rfl ?_
          refine inner i [((R (5 + 2 * r)).getD i (-1))] (gpw R ((R (5 + 2 * r)).take i)) hil (by show _ + 1 ≤ 8; rw [hq1] at hle; change _ + 1 ≤ _ at hle; omega) (Or.inl ⟨hq2, rfl⟩) (fun h2 f2 hP2 hst2 => ?_) 0 (Nat.zero_le _) h1 f hP1 (by rw [List.take_zero, List.append_nil]; exact hst)
          refine j_inc (nx := 207) hJ dX6_addProduced_204 rfl rfl (gi1 _) rfl ?_
          refine j_go (tgt := 98) hJ dX6_addProduced_207 (by decide) ?_
          rw [← hq1, ← gpw_s hil] at hP2 hst2
          exact ih hil _ _ _ _ _ hP2 hst2
    have loop1 : ∀ i, i ≤ (R (5 + 2 * r)).length → J 17 [some (.ref 99), some (.int (nI r)), some (.int (nI (gpw R ((R (5 + 2 * r)).take i)).length)), some (.int (nI (8 * r + i))), none, none, none] [] h (n, 0, 0, false) := by
      refine gloop _ _ (fun i hi ih => ?_)
      have hb0 := gpw_64 him8 ((R (5 + 2 * r)).take i)
      rw [List.length_take] at hb0
      refine j_p (nx := 18) hJ dX6_addProduced_17 rfl rfl ?_
      refine j_c (nx := 20) hJ dX6_addProduced_18 rfl gk_bipush_8 ?_
      refine j_p (nx := 21) hJ dX6_addProduced_20 rfl rfl ?_
      refine j_p (nx := 22) hJ dX6_addProduced_21 rfl rfl ?_
      rw [show (8 : Int32) = nI 8 from rfl, gmul]
      refine j_p (nx := 23) hJ dX6_addProduced_22 rfl rfl ?_
      refine j_get (nx := 26) hJ dX6_addProduced_23 rfl fX6_19 hP.1.1 (by rfl) ?_
      refine j_p (nx := 27) hJ dX6_addProduced_26 rfl rfl ?_
      refine j_iald (j := r) (nx := 28) hJ dX6_addProduced_27 rfl (show h 101 = some (gia 6 (A 101)) from hP.a 101 (by unfold gia'; omega)) rfl (by omega) (by decide) ?_
      rw [hl.1]
      refine j_p (nx := 29) hJ dX6_addProduced_28 rfl rfl ?_
      rw [gadd]
      refine j_ic_ge (nx := 32) (tgt := 70) hJ dX6_addProduced_29 rfl (by decide) (fun c29 => ?_) (fun c29 => ?_)
      · rw [gnle (by omega) (by omega)] at c29
        have e0 : i = (R (5 + 2 * r)).length := by omega
        subst e0
        rw [List.take_length]
        have hb8 := gpw_64 him8 (R (5 + 2 * r))
        refine j_p (nx := 71) hJ dX6_addProduced_70 rfl rfl ?_
        refine j_c (nx := 73) hJ dX6_addProduced_71 rfl gk_bipush_8 ?_
        refine j_ic_gt (nx := 76) (tgt := 85) hJ dX6_addProduced_73 rfl (by decide) (fun c73 => ?_) (fun c73 => ?_)
        · rw [show (8 : Int32) = nI 8 from rfl, gnlt (by omega) (by omega)] at c73
          have e : s_addProduced R N (nI r) = (-4, R, N) := by
            unfold s_addProduced
            rw [if_pos hx, egr]
            rw [show gpd R (R (5 + 2 * r)) = none from if_neg (by omega)]
          refine j_c (nx := 87) hJ dX6_addProduced_85 rfl gk_bipush_m4 ?_
          exact j_iret hJ dX6_addProduced_87 ⟨by rw [e], by rw [e]; exact ⟨A, E, M, pv, tv, hP, hG⟩⟩
        rw [show (8 : Int32) = nI 8 from rfl, gnlt (by omega) (by omega)] at c73
        refine j_p (nx := 77) hJ dX6_addProduced_76 rfl rfl ?_
        refine j_get (nx := 80) hJ dX6_addProduced_77 rfl fX6_98 hP.1.1 (by rfl) ?_
        rw [g5]
        refine j_c (nx := 82) hJ dX6_addProduced_80 rfl gk_bipush_6 ?_
        refine j_ic_ne (nx := 85) (tgt := 88) hJ dX6_addProduced_82 rfl (by decide) (fun c82 => ?_) (fun c82 => ?_)
        rotate_left
        · rw [show (6 : Int32) = nI 6 from rfl, gneq (by omega) (by omega)] at c82
          have e : s_addProduced R N (nI r) = (-4, R, N) := by
            unfold s_addProduced
            rw [if_pos hx, egr]
            by_cases h8 : (gpw R (R (5 + 2 * r))).length ≤ 8
            · rw [show gpd R (R (5 + 2 * r)) = some (gpw R (R (5 + 2 * r))) from if_pos h8]; show s_add _ _ _ = _; unfold s_add; rw [egss]; exact if_neg (by omega)
            · rw [show gpd R (R (5 + 2 * r)) = none from if_neg h8]
          refine j_c (nx := 87) hJ dX6_addProduced_85 rfl gk_bipush_m4 ?_
          exact j_iret hJ dX6_addProduced_87 ⟨by rw [e], by rw [e]; exact ⟨A, E, M, pv, tv, hP, hG⟩⟩
        rw [show (6 : Int32) = nI 6 from rfl, gneq (by omega) (by omega)] at c82
        refine j_p (nx := 89) hJ dX6_addProduced_88 rfl rfl ?_
        refine j_c (nx := 90) hJ dX6_addProduced_89 rfl gk_iconst_0 ?_
        refine j_put (nx := 93) hJ dX6_addProduced_90 rfl fX6_112 (zX6_11 _) hP.1.1 (Nat.le_of_ble_eq_true rfl) ?_
        change J 93 _ _ (gup h 99 (gO (gU M 11 (nI 0)) pv tv)) _
        have hP1 := hP.fld (gU M 11 (nI 0)) pv tv
        have hP2 := hP1.rw (A' := gU A 107 (A 107)) (gU_self _ _) (fun _ => rfl) (fun _ => rfl)
        refine j_c (nx := 95) hJ dX6_addProduced_93 rfl gk_bipush_8 ?_
        refine j_p (nx := 96) hJ dX6_addProduced_95 rfl rfl ?_
        refine j_p (nx := 97) hJ dX6_addProduced_96 rfl rfl ?_
        rw [show (8 : Int32) = nI 8 from rfl, gmul]
        refine j_p (nx := 98) hJ dX6_addProduced_97 rfl rfl ?_
        exact loop2 (by omega) (by omega) 0 (Nat.zero_le _) _ _ _ _ _ hP2 (fun i v hv => by cases hv)
      · rw [gnle (by omega) (by omega)] at c29
        have hil : i < (R (5 + 2 * r)).length := by omega
        have hcy := hpr.sy hk3.2 _ (ggetD_mem hil)
        refine j_p (nx := 33) hJ dX6_addProduced_32 rfl rfl ?_
        refine j_p (nx := 34) hJ dX6_addProduced_33 rfl rfl ?_
        refine j_get (nx := 37) hJ dX6_addProduced_34 rfl fX6_15 hP.1.1 (by rfl) ?_
        refine j_p (nx := 38) hJ dX6_addProduced_37 rfl rfl ?_
        refine j_iald (j := 8 * r + i) (nx := 39) hJ dX6_addProduced_38 rfl (show h 100 = some (gia 48 (A 100)) from hP.a 100 (by unfold gia'; omega)) rfl (by omega) (by decide) ?_
        rw [hl.2.2.get hil]
        refine j_c (nx := 41) hJ dX6_addProduced_39 rfl gk_bipush_10 ?_
        refine j_ic_ge (nx := 44) (tgt := 48) hJ dX6_addProduced_41 rfl (by decide) (fun c41 => ?_) (fun c41 => ?_)
        · obtain ⟨v, hv4, hcv, hqv, -⟩ := gpe_v R hcy c41
          have hiv := hG.2.2.1 v hv4
          refine j_p (nx := 49) hJ dX6_addProduced_48 rfl rfl ?_
          refine j_get (nx := 52) hJ dX6_addProduced_49 rfl fX6_31 hP.1.1 (by rfl) ?_
          refine j_p (nx := 53) hJ dX6_addProduced_52 rfl rfl ?_
          refine j_get (nx := 56) hJ dX6_addProduced_53 rfl fX6_15 hP.1.1 (by rfl) ?_
          refine j_p (nx := 57) hJ dX6_addProduced_56 rfl rfl ?_
          refine j_iald (j := 8 * r + i) (nx := 58) hJ dX6_addProduced_57 rfl (show h 100 = some (gia 48 (A 100)) from hP.a 100 (by unfold gia'; omega)) rfl (by omega) (by decide) ?_
          rw [hl.2.2.get hil]
          refine j_c (nx := 60) hJ dX6_addProduced_58 rfl gk_bipush_10 ?_
          refine j_p (nx := 61) hJ dX6_addProduced_60 rfl rfl ?_
          rw [hcv]
          refine j_iald (j := v) (nx := 62) hJ dX6_addProduced_61 rfl (show h 105 = some (gia 4 (A 105)) from hP.a 105 (by unfold gia'; omega)) rfl (by omega) (by decide) ?_
          rw [hiv.1]
          rw [gpw_s hil, List.length_append, hqv] at ih
          refine j_p (nx := 63) hJ dX6_addProduced_62 rfl rfl ?_
          rw [gadd]
          refine j_p (nx := 64) hJ dX6_addProduced_63 rfl rfl ?_
          refine j_inc (nx := 67) hJ dX6_addProduced_64 rfl rfl (gi1 _) rfl ?_
          refine j_go (tgt := 17) hJ dX6_addProduced_67 (by decide) ?_
          exact ih hil
        · refine j_c (nx := 45) hJ dX6_addProduced_44 rfl gk_iconst_1 ?_
          refine j_go (tgt := 62) hJ dX6_addProduced_45 (by decide) ?_
          have hq := gpe_l R hcy c41
          rw [gpw_s hil, List.length_append, hq.1] at ih
          refine j_p (nx := 63) hJ dX6_addProduced_62 rfl rfl ?_
          rw [show nI (gpw R ((R (5 + 2 * r)).take i)).length + 1 = nI ((gpw R ((R (5 + 2 * r)).take i)).length + 1) from (nI_succ _).symm]
          refine j_p (nx := 64) hJ dX6_addProduced_63 rfl rfl ?_
          refine j_inc (nx := 67) hJ dX6_addProduced_64 rfl rfl (gi1 _) rfl ?_
          refine j_go (tgt := 17) hJ dX6_addProduced_67 (by decide) ?_
          exact ih hil
    refine j_p (nx := 1) hJ dX6_addProduced_0 rfl rfl ?_
    refine j_csR (nx := 4) hJ dX6_addProduced_1 rfl (r6_isRegister (fl := false) (d := d + 57) _) mX6_139 rfl (gle8 rfl) ?_
    rw [show gbt _ 6 = true from hx]
    refine j_if_ne (nx := 7) (tgt := 10) hJ dX6_addProduced_4 rfl (by decide) (fun c4 => ?_) (fun c4 => absurd c4 (by decide))
    refine j_c (nx := 11) hJ dX6_addProduced_10 rfl gk_iconst_0 ?_
    refine j_p (nx := 12) hJ dX6_addProduced_11 rfl rfl ?_
    refine j_c (nx := 14) hJ dX6_addProduced_12 rfl gk_bipush_8 ?_
    refine j_p (nx := 15) hJ dX6_addProduced_14 rfl rfl ?_
    refine j_p (nx := 16) hJ dX6_addProduced_15 rfl rfl ?_
    rw [show (8 : Int32) = nI 8 from rfl, gmul]
    refine j_p (nx := 17) hJ dX6_addProduced_16 rfl rfl ?_
    exact loop1 0 (Nat.zero_le _)
  · refine j_p (nx := 1) hJ dX6_addProduced_0 rfl rfl ?_
    refine j_csR (nx := 4) hJ dX6_addProduced_1 rfl (r6_isRegister (fl := false) (d := d + 57) _) mX6_139 rfl (gle8 rfl) ?_
    rw [show gbt _ 6 = false from Bool.eq_false_iff.mpr hx]
    refine j_if_ne (nx := 7) (tgt := 10) hJ dX6_addProduced_4 rfl (by decide) (fun c4 => absurd c4 (by decide)) (fun c4 => ?_)
    refine j_c (nx := 9) hJ dX6_addProduced_7 rfl gk_bipush_m2 ?_
    have e : s_addProduced R N x = (-2, R, N) := if_neg hx
    exact j_iret hJ dX6_addProduced_9 ⟨by rw [e], by rw [e]; exact ⟨A, E, M, pv, tv, hP, hG⟩⟩
