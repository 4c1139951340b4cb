/-- whether the pattern with the lengths w produces t, from place a on; st: where the variables began -/
def gpc (t : List Int32) (w : Nat → Nat) : List Int32 → Nat → (Nat → Option Nat) → Bool
  | [], _, _ => true
  | c :: ps, a, st => match gvo c with
    | none => decide (t.getD a (-1) = c) && gpc t w ps (a + 1) st
    | some v => gsm t a ((st v).getD a) (w v) && gpc t w ps (a + w v) (fun u => if u = v then some ((st v).getD a) else st u)
def gtot (w : Nat → Nat) : List Int32 → Nat
  | [] => 0
  | c :: ps => (match gvo c with | none => 1 | some v => w v) + gtot w ps
/-- a pattern and a text in the reference's arrays -/
def gXc (A : Nat → Nat → Int32) (M : Nat → Int32) (pa po : Nat) (p : List Int32) (ta tq : Nat) (t : List Int32) : Prop :=
  M 14 = nI po ∧ M 15 = nI p.length ∧ M 17 = nI tq ∧ gia' pa ∧ gia' ta ∧ (pa < 109 ∨ 112 < pa) ∧ (ta < 109 ∨ 112 < ta) ∧ gSt (A pa) po p ∧ gSt (A ta) tq t ∧ po + p.length ≤ gasz pa ∧ tq + t.length ≤ gasz ta ∧ (∀ c ∈ p, gsy c)
theorem gasz_le (a : Nat) : gasz a ≤ 48 := by
  unfold gasz
  by_cases h : a - 100 < 26
  · rcases (show a - 100 = 0 ∨ a - 100 = 1 ∨ a - 100 = 2 ∨ a - 100 = 3 ∨ a - 100 = 4 ∨ a - 100 = 5 ∨ a - 100 = 6 ∨ a - 100 = 7 ∨ a - 100 = 8 ∨ a - 100 = 9 ∨ a - 100 = 10 ∨ a - 100 = 11 ∨ a - 100 = 12 ∨ a - 100 = 13 ∨ a - 100 = 14 ∨ a - 100 = 15 ∨ a - 100 = 16 ∨ a - 100 = 17 ∨ a - 100 = 18 ∨ a - 100 = 19 ∨ a - 100 = 20 ∨ a - 100 = 21 ∨ a - 100 = 22 ∨ a - 100 = 23 ∨ a - 100 = 24 ∨ a - 100 = 25 by omega) with e | e | e | e | e | e | e | e | e | e | e | e | e | e | e | e | e | e | e | e | e | e | e | e | e | e <;> rw [e] <;> decide
  · rw [List.getD_eq_getElem?_getD, List.getElem?_eq_none (by simp; omega)]; decide
theorem gXc.fr {A A' : Nat → Nat → Int32} {M M' : Nat → Int32} {pa po ta tq : Nat} {p t : List Int32} (h : gXc A M pa po p ta tq t) (hA : ∀ a, (a < 109 ∨ 112 < a) → A' a = A a) (hM : M' 14 = M 14 ∧ M' 15 = M 15 ∧ M' 17 = M 17) : gXc A' M' pa po p ta tq t := by
  obtain ⟨h1, h2, h3, h4, h5, h6, h7, h8, h9, h10, h11, h12⟩ := h
  exact ⟨hM.1.trans h1, hM.2.1.trans h2, hM.2.2.trans h3, h4, h5, h6, h7, by rw [hA pa h6]; exact h8, by rw [hA ta h7]; exact h9, h10, h11, h12⟩
theorem gsm_self (t : List Int32) (a n : Nat) : gsm t a a n = true := gsm_t (fun _ _ => rfl)
set_option maxHeartbeats 4000000 in
theorem r6_produces {d : Nat} {h0 h : GH} {A : Nat → Nat → Int32} {E : Nat → Nat → Int64} {M : Nat → Int32} {pa po ta tq : Nat} {p t : List Int32} (hP : gP h0 h A E M (.ref pa) (.ref ta)) (hX : gXc A M pa po p ta tq t) {w : Nat → Nat} (hw : ∀ v, v < 4 → A 110 v = nI (w v)) (hwl : ∀ v, v < 4 → w v ≤ 48) (htot : gtot w p = t.length) : gN false (d + 1) yX6_produces [.ref 99] h (fun o h' => o = some (.int (gb (gpc t w p 0 (fun _ => none)))) ∧ ∃ f, gP h0 h' (gU A 112 f) E M (.ref pa) (.ref ta)) := by
  obtain ⟨x14, x15, x17, xpa, xta, xpn, xtn, xsp, xst, xpl, xtl, xsy⟩ := id hX
  have xz1 := gasz_le pa
  have xz2 := gasz_le ta
  refine gN.of MX6_produces (Nat.le_of_ble_eq_true rfl) (fun J n hJ => ?_)
  show J 0 [some (.ref 99), none, none, none, none, none] [] h (n, 0, 0, false)
  have loop2 : ∀ i, i ≤ p.length → ∀ (h1 : GH) (f : Nat → Int32) (a : Nat) (st : Nat → Option Nat) (w3 w4 w5 : Option Value), gP h0 h1 (gU A 112 f) E M (.ref pa) (.ref ta) → (∀ v, v < 4 → f v = match st v with | none => -1 | some b => nI (tq + b)) → (∀ u b, st u = some b → b + w u ≤ t.length) → a + gtot w (p.drop i) = t.length → gpc t w p 0 (fun _ => none) = gpc t w (p.drop i) a st → J 30 [some (.ref 99), some (.int (nI (tq + a))), some (.int (nI (po + i))), w3, w4, w5] [] h1 (n, 0, 0, false) := by
    refine gloop _ _ (fun i hi ih h1 f a st w3 w4 w5 hP1 hst hsb hto hg => ?_)
    refine j_p (nx := 31) hJ dX6_produces_30 rfl rfl ?_
    refine j_p (nx := 32) hJ dX6_produces_31 rfl rfl ?_
    refine j_get (nx := 35) hJ dX6_produces_32 rfl fX6_188 hP1.1.1 (by rfl) ?_
    rw [x14]
    refine j_p (nx := 36) hJ dX6_produces_35 rfl rfl ?_
    refine j_get (nx := 39) hJ dX6_produces_36 rfl fX6_191 hP1.1.1 (by rfl) ?_
    rw [x15]
    refine j_p (nx := 40) hJ dX6_produces_39 rfl rfl ?_
    rw [gadd]
    refine j_ic_ge (nx := 43) (tgt := 174) hJ dX6_produces_40 rfl (by decide) (fun c40 => ?_) (fun c40 => ?_)
    · refine j_c (nx := 175) hJ dX6_produces_174 rfl gk_iconst_1 ?_
      rw [gnle (by omega) (by omega)] at c40
      have e0 : i = p.length := by omega
      subst e0
      rw [List.drop_length] at hg
      exact j_zret hJ true dX6_produces_175 rfl ⟨by rw [hg]; rfl, _, hP1⟩
    · rw [gnle (by omega) (by omega)] at c40
      have hil : i < p.length := by omega
      have hsc := xsy _ (ggetD_mem hil)
      rw [gdropD hil] at hg hto
      cases hvo : gvo (p.getD i (-1)) with
      | none =>
        simp only [gpc, gtot, hvo] at hg hto
        refine j_p (nx := 44) hJ dX6_produces_43 rfl rfl ?_
        refine j_get (nx := 47) hJ dX6_produces_44 rfl fX6_185 hP1.1.1 (by rfl) ?_
        refine j_p (nx := 48) hJ dX6_produces_47 rfl rfl ?_
        refine j_iald (j := po + i) (nx := 49) hJ dX6_produces_48 rfl (show h1 pa = some (gia (gasz pa) (A pa)) from (hP1.a pa xpa).trans (by rw [gU_n _ _ (show pa ≠ 112 by omega)])) rfl (by omega) (by omega) ?_
        rw [xsp.get hil]
        refine j_p (nx := 50) hJ dX6_produces_49 rfl rfl ?_
        refine j_p (nx := 51) hJ dX6_produces_50 rfl rfl ?_
        refine j_c (nx := 53) hJ dX6_produces_51 rfl gk_bipush_10 ?_
        refine j_ic_ge (nx := 56) (tgt := 74) hJ dX6_produces_53 rfl (by decide) (fun c53 => absurd c53 (by have := gvo_none hsc hvo; rw [Int32.le_iff_toInt_le, show (10 : Int32).toInt = 10 by decide]; omega)) (fun c53 => ?_)
        refine j_p (nx := 57) hJ dX6_produces_56 rfl rfl ?_
        refine j_get (nx := 60) hJ dX6_produces_57 rfl fX6_194 hP1.1.1 (by rfl) ?_
        refine j_p (nx := 61) hJ dX6_produces_60 rfl rfl ?_
        refine j_iald (j := tq + a) (nx := 62) hJ dX6_produces_61 rfl (show h1 ta = some (gia (gasz ta) (A ta)) from (hP1.a ta xta).trans (by rw [gU_n _ _ (show ta ≠ 112 by omega)])) rfl (by omega) (by omega) ?_
        rw [xst.get (by omega)]
        refine j_p (nx := 63) hJ dX6_produces_62 rfl rfl ?_
        refine j_ic_eq (nx := 66) (tgt := 68) hJ dX6_produces_63 rfl (by decide) (fun c63 => ?_) (fun c63 => ?_)
        · refine j_inc (nx := 71) hJ dX6_produces_68 rfl rfl (gi1 _) rfl ?_
          refine j_go (tgt := 168) hJ dX6_produces_71 (by decide) ?_
          refine j_inc (nx := 171) hJ dX6_produces_168 rfl rfl (gi1 _) rfl ?_
          refine j_go (tgt := 30) hJ dX6_produces_171 (by decide) ?_
          refine ih hil h1 f (a + 1) st _ _ _ hP1 hst hsb (by omega) ?_
          rw [hg, decide_eq_true c63]; rfl
        · refine j_c (nx := 67) hJ dX6_produces_66 rfl gk_iconst_0 ?_
          exact j_zret hJ false dX6_produces_67 rfl ⟨by rw [show gpc t w p 0 (fun _ => none) = false from by rw [hg, decide_eq_false c63]; rfl], _, hP1⟩
      | some v =>
        obtain ⟨hv4, -, -⟩ := gvo_some hvo
        simp only [gpc, gtot, hvo] at hg hto
        have hw8 := hwl v hv4
        have hfv := hst v hv4
        cases hsv : st v with
        | none =>
          rw [hsv] at hfv
          have hB : ((st v).getD a) = a := by rw [hsv]; rfl
          refine j_p (nx := 44) hJ dX6_produces_43 rfl rfl ?_
          refine j_get (nx := 47) hJ dX6_produces_44 rfl fX6_185 hP1.1.1 (by rfl) ?_
          refine j_p (nx := 48) hJ dX6_produces_47 rfl rfl ?_
          refine j_iald (j := po + i) (nx := 49) hJ dX6_produces_48 rfl (show h1 pa = some (gia (gasz pa) (A pa)) from (hP1.a pa xpa).trans (by rw [gU_n _ _ (show pa ≠ 112 by omega)])) rfl (by omega) (by omega) ?_
          rw [xsp.get hil]
          refine j_p (nx := 50) hJ dX6_produces_49 rfl rfl ?_
          refine j_p (nx := 51) hJ dX6_produces_50 rfl rfl ?_
          refine j_c (nx := 53) hJ dX6_produces_51 rfl gk_bipush_10 ?_
          refine j_ic_ge (nx := 56) (tgt := 74) hJ dX6_produces_53 rfl (by decide) (fun c53 => ?_) (fun c53 => absurd c53 (fun q => q (by obtain ⟨-, -, u⟩ := gvo_some hvo; rw [u, show (10 : Int32) = nI 10 from rfl, gnle (by omega) (by omega)]; omega)))
          refine j_p (nx := 75) hJ dX6_produces_74 rfl rfl ?_
          refine j_c (nx := 77) hJ dX6_produces_75 rfl gk_bipush_10 ?_
          refine j_p (nx := 78) hJ dX6_produces_77 rfl rfl ?_
          rw [(gvo_some hvo).2.1]
          refine j_p (nx := 80) hJ dX6_produces_78 rfl rfl ?_
          refine j_p (nx := 81) hJ dX6_produces_80 rfl rfl ?_
          refine j_get (nx := 84) hJ dX6_produces_81 rfl fX6_52 hP1.1.1 (by rfl) ?_
          refine j_p (nx := 86) hJ dX6_produces_84 rfl rfl ?_
          refine j_p (nx := 87) hJ dX6_produces_86 rfl rfl ?_
          refine j_get (nx := 90) hJ dX6_produces_87 rfl fX6_52 hP1.1.1 (by rfl) ?_
          refine j_p (nx := 92) hJ dX6_produces_90 rfl rfl ?_
          refine j_iald (j := v) (nx := 93) hJ dX6_produces_92 rfl (show h1 112 = some (gia 4 f) from hP1.a 112 (by unfold gia'; omega)) rfl hv4 (by decide) ?_
          rw [hfv]
          refine j_if_ge (nx := 96) (tgt := 100) hJ dX6_produces_93 rfl (by decide) (fun c93 => absurd c93 (by show ¬ (0 : Int32) ≤ -1; decide)) (fun c93 => ?_)
          refine j_p (nx := 97) hJ dX6_produces_96 rfl rfl ?_
          refine j_go (tgt := 107) hJ dX6_produces_97 (by decide) ?_
          refine j_iast (j := v) (nx := 108) hJ dX6_produces_107 rfl (show h1 112 = some (gia 4 f) from hP1.a 112 (by unfold gia'; omega)) rfl hv4 (by decide) ?_
          have hP2 : gP h0 (gup h1 112 (gia 4 (upd f v (nI (tq + ((st v).getD a)))))) (gU A 112 (upd f v (nI (tq + ((st v).getD a))))) E M (.ref pa) (.ref ta) := (hP1.arr (a := 112) (by unfold gia'; omega) _).uu
          have hbb : ((st v).getD a) + w v ≤ t.length := by rw [hB]; omega
          have inner : ∀ j, j ≤ w v → (∀ x, x < j → t.getD (a + x) (-1) = t.getD (((st v).getD a) + x) (-1)) → J 111 [some (.ref 99), some (.int (nI (tq + a))), some (.int (nI (po + i))), some (.int (p.getD i (-1))), some (.int (nI v)), some (.int (nI j))] [] (gup h1 112 (gia 4 (upd f v (nI (tq + ((st v).getD a)))))) (n, 0, 0, false) := by
            refine gloop _ _ (fun j hj ihj hal => ?_)
            refine j_p (nx := 113) hJ dX6_produces_111 rfl rfl ?_
            refine j_p (nx := 114) hJ dX6_produces_113 rfl rfl ?_
            refine j_get (nx := 117) hJ dX6_produces_114 rfl fX6_46 hP2.1.1 (by rfl) ?_
            refine j_p (nx := 119) hJ dX6_produces_117 rfl rfl ?_
            refine j_iald (j := v) (nx := 120) hJ dX6_produces_119 rfl (show (gup h1 112 (gia 4 (upd f v (nI (tq + ((st v).getD a)))))) 110 = some (gia 4 (A 110)) from hP2.a 110 (by unfold gia'; omega)) rfl hv4 (by decide) ?_
            rw [hw v hv4]
            refine j_ic_ge (nx := 123) (tgt := 158) hJ dX6_produces_120 rfl (by decide) (fun c120 => ?_) (fun c120 => ?_)
            · rw [gnle (by omega) (by omega)] at c120
              have hsm : gsm t a ((st v).getD a) (w v) = true := gsm_t (fun x hx => hal x (by omega))
              refine j_p (nx := 159) hJ dX6_produces_158 rfl rfl ?_
              refine j_p (nx := 160) hJ dX6_produces_159 rfl rfl ?_
              refine j_get (nx := 163) hJ dX6_produces_160 rfl fX6_46 hP2.1.1 (by rfl) ?_
              refine j_p (nx := 165) hJ dX6_produces_163 rfl rfl ?_
              refine j_iald (j := v) (nx := 166) hJ dX6_produces_165 rfl (show (gup h1 112 (gia 4 (upd f v (nI (tq + ((st v).getD a)))))) 110 = some (gia 4 (A 110)) from hP2.a 110 (by unfold gia'; omega)) rfl hv4 (by decide) ?_
              rw [hw v hv4]
              refine j_p (nx := 167) hJ dX6_produces_166 rfl rfl ?_
              rw [gadd]
              refine j_p (nx := 168) hJ dX6_produces_167 rfl rfl ?_
              refine j_inc (nx := 171) hJ dX6_produces_168 rfl rfl (gi1 _) rfl ?_
              refine j_go (tgt := 30) hJ dX6_produces_171 (by decide) ?_
              rw [show tq + a + w v = tq + (a + w v) by omega]
              refine ih hil _ (upd f v (nI (tq + ((st v).getD a)))) (a + w v) (fun u => if u = v then some ((st v).getD a) else st u) _ _ _ hP2 (fun u hu => ?_) (fun u b q => ?_) (by omega) ?_
              · simp only [upd]
                by_cases e : u = v
                · rw [if_pos e, if_pos e]
                · rw [if_neg e, if_neg e]; exact hst u hu
              · by_cases e : u = v
                · simp only [if_pos e] at q; cases q; rw [e]; exact hbb
                · simp only [if_neg e] at q; exact hsb u b q
              · rw [hg, hsm]; rfl
            · rw [gnle (by omega) (by omega)] at c120
              have hjl : j < w v := by omega
              refine j_p (nx := 124) hJ dX6_produces_123 rfl rfl ?_
              refine j_get (nx := 127) hJ dX6_produces_124 rfl fX6_194 hP2.1.1 (by rfl) ?_
              refine j_p (nx := 128) hJ dX6_produces_127 rfl rfl ?_
              refine j_p (nx := 130) hJ dX6_produces_128 rfl rfl ?_
              refine j_p (nx := 131) hJ dX6_produces_130 rfl rfl ?_
              rw [gadd]
              refine j_iald (j := tq + a + j) (nx := 132) hJ dX6_produces_131 rfl (show (gup h1 112 (gia 4 (upd f v (nI (tq + ((st v).getD a)))))) ta = some (gia (gasz ta) (A ta)) from (hP2.a ta xta).trans (by rw [gU_n _ _ (show ta ≠ 112 by omega)])) rfl (by omega) (by omega) ?_
              rw [show tq + a + j = tq + (a + j) by omega, xst.get (by omega)]
              refine j_p (nx := 133) hJ dX6_produces_132 rfl rfl ?_
              refine j_get (nx := 136) hJ dX6_produces_133 rfl fX6_194 hP2.1.1 (by rfl) ?_
              refine j_p (nx := 137) hJ dX6_produces_136 rfl rfl ?_
              refine j_get (nx := 140) hJ dX6_produces_137 rfl fX6_52 hP2.1.1 (by rfl) ?_
              refine j_p (nx := 142) hJ dX6_produces_140 rfl rfl ?_
              refine j_iald (j := v) (nx := 143) hJ dX6_produces_142 rfl (show (gup h1 112 (gia 4 (upd f v (nI (tq + ((st v).getD a)))))) 112 = some (gia 4 (upd f v (nI (tq + ((st v).getD a))))) from hP2.a 112 (by unfold gia'; omega)) rfl hv4 (by decide) ?_
              rw [show (upd f v (nI (tq + ((st v).getD a)))) v = nI (tq + ((st v).getD a)) from by simp [upd]]
              refine j_p (nx := 145) hJ dX6_produces_143 rfl rfl ?_
              refine j_p (nx := 146) hJ dX6_produces_145 rfl rfl ?_
              rw [gadd]
              refine j_iald (j := tq + ((st v).getD a) + j) (nx := 147) hJ dX6_produces_146 rfl (show (gup h1 112 (gia 4 (upd f v (nI (tq + ((st v).getD a)))))) ta = some (gia (gasz ta) (A ta)) from (hP2.a ta xta).trans (by rw [gU_n _ _ (show ta ≠ 112 by omega)])) rfl (by omega) (by omega) ?_
              rw [show tq + ((st v).getD a) + j = tq + (((st v).getD a) + j) by omega, xst.get (by omega)]
              refine j_ic_eq (nx := 150) (tgt := 152) hJ dX6_produces_147 rfl (by decide) (fun c147 => ?_) (fun c147 => ?_)
              · refine j_inc (nx := 155) hJ dX6_produces_152 rfl rfl (gi1 j) rfl ?_
                refine j_go (tgt := 111) hJ dX6_produces_155 (by decide) ?_
                refine ihj hjl (fun x hx => ?_)
                by_cases e : x = j
                · subst e; exact c147
                · exact hal x (by omega)
              · refine j_c (nx := 151) hJ dX6_produces_150 rfl gk_iconst_0 ?_
                exact j_zret hJ false dX6_produces_151 rfl ⟨by rw [show gpc t w p 0 (fun _ => none) = false from by rw [hg, gsm_f hjl c147]; rfl], _, hP2⟩
          change J 108 _ _ (gup h1 112 (gia 4 (upd f v (nI (tq + a))))) _
          rw [hB] at inner
          refine j_c (nx := 109) hJ dX6_produces_108 rfl gk_iconst_0 ?_
          refine j_p (nx := 111) hJ dX6_produces_109 rfl rfl ?_
          exact inner 0 (Nat.zero_le _) (fun x hx => by omega)
        | some b0 =>
          rw [hsv] at hfv
          have hsb0 := hsb v b0 hsv
          have hB : ((st v).getD a) = b0 := by rw [hsv]; rfl
          refine j_p (nx := 44) hJ dX6_produces_43 rfl rfl ?_
          refine j_get (nx := 47) hJ dX6_produces_44 rfl fX6_185 hP1.1.1 (by rfl) ?_
          refine j_p (nx := 48) hJ dX6_produces_47 rfl rfl ?_
          refine j_iald (j := po + i) (nx := 49) hJ dX6_produces_48 rfl (show h1 pa = some (gia (gasz pa) (A pa)) from (hP1.a pa xpa).trans (by rw [gU_n _ _ (show pa ≠ 112 by omega)])) rfl (by omega) (by omega) ?_
          rw [xsp.get hil]
          refine j_p (nx := 50) hJ dX6_produces_49 rfl rfl ?_
          refine j_p (nx := 51) hJ dX6_produces_50 rfl rfl ?_
          refine j_c (nx := 53) hJ dX6_produces_51 rfl gk_bipush_10 ?_
          refine j_ic_ge (nx := 56) (tgt := 74) hJ dX6_produces_53 rfl (by decide) (fun c53 => ?_) (fun c53 => absurd c53 (fun q => q (by obtain ⟨-, -, u⟩ := gvo_some hvo; rw [u, show (10 : Int32) = nI 10 from rfl, gnle (by omega) (by omega)]; omega)))
          refine j_p (nx := 75) hJ dX6_produces_74 rfl rfl ?_
          refine j_c (nx := 77) hJ dX6_produces_75 rfl gk_bipush_10 ?_
          refine j_p (nx := 78) hJ dX6_produces_77 rfl rfl ?_
          rw [(gvo_some hvo).2.1]
          refine j_p (nx := 80) hJ dX6_produces_78 rfl rfl ?_
          refine j_p (nx := 81) hJ dX6_produces_80 rfl rfl ?_
          refine j_get (nx := 84) hJ dX6_produces_81 rfl fX6_52 hP1.1.1 (by rfl) ?_
          refine j_p (nx := 86) hJ dX6_produces_84 rfl rfl ?_
          refine j_p (nx := 87) hJ dX6_produces_86 rfl rfl ?_
          refine j_get (nx := 90) hJ dX6_produces_87 rfl fX6_52 hP1.1.1 (by rfl) ?_
          refine j_p (nx := 92) hJ dX6_produces_90 rfl rfl ?_
          refine j_iald (j := v) (nx := 93) hJ dX6_produces_92 rfl (show h1 112 = some (gia 4 f) from hP1.a 112 (by unfold gia'; omega)) rfl hv4 (by decide) ?_
          rw [hfv]
          refine j_if_ge (nx := 96) (tgt := 100) hJ dX6_produces_93 rfl (by decide) (fun c93 => ?_) (fun c93 => absurd c93 (fun q => q (by rw [Int32.le_iff_toInt_le, Int32.toInt_zero, nI_toInt (by omega)]; omega)))
          refine j_p (nx := 101) hJ dX6_produces_100 rfl rfl ?_
          refine j_get (nx := 104) hJ dX6_produces_101 rfl fX6_52 hP1.1.1 (by rfl) ?_
          refine j_p (nx := 106) hJ dX6_produces_104 rfl rfl ?_
          refine j_iald (j := v) (nx := 107) hJ dX6_produces_106 rfl (show h1 112 = some (gia 4 f) from hP1.a 112 (by unfold gia'; omega)) rfl hv4 (by decide) ?_
          rw [hfv]
          refine j_iast (j := v) (nx := 108) hJ dX6_produces_107 rfl (show h1 112 = some (gia 4 f) from hP1.a 112 (by unfold gia'; omega)) rfl hv4 (by decide) ?_
          have hP2 : gP h0 (gup h1 112 (gia 4 (upd f v (nI (tq + ((st v).getD a)))))) (gU A 112 (upd f v (nI (tq + ((st v).getD a))))) E M (.ref pa) (.ref ta) := (hP1.arr (a := 112) (by unfold gia'; omega) _).uu
          have hbb : ((st v).getD a) + w v ≤ t.length := by rw [hB]; exact hsb v b0 hsv
          have inner : ∀ j, j ≤ w v → (∀ x, x < j → t.getD (a + x) (-1) = t.getD (((st v).getD a) + x) (-1)) → J 111 [some (.ref 99), some (.int (nI (tq + a))), some (.int (nI (po + i))), some (.int (p.getD i (-1))), some (.int (nI v)), some (.int (nI j))] [] (gup h1 112 (gia 4 (upd f v (nI (tq + ((st v).getD a)))))) (n, 0, 0, false) := by
            refine gloop _ _ (fun j hj ihj hal => ?_)
            refine j_p (nx := 113) hJ dX6_produces_111 rfl rfl ?_
            refine j_p (nx := 114) hJ dX6_produces_113 rfl rfl ?_
            refine j_get (nx := 117) hJ dX6_produces_114 rfl fX6_46 hP2.1.1 (by rfl) ?_
            refine j_p (nx := 119) hJ dX6_produces_117 rfl rfl ?_
            refine j_iald (j := v) (nx := 120) hJ dX6_produces_119 rfl (show (gup h1 112 (gia 4 (upd f v (nI (tq + ((st v).getD a)))))) 110 = some (gia 4 (A 110)) from hP2.a 110 (by unfold gia'; omega)) rfl hv4 (by decide) ?_
            rw [hw v hv4]
            refine j_ic_ge (nx := 123) (tgt := 158) hJ dX6_produces_120 rfl (by decide) (fun c120 => ?_) (fun c120 => ?_)
            · rw [gnle (by omega) (by omega)] at c120
              have hsm : gsm t a ((st v).getD a) (w v) = true := gsm_t (fun x hx => hal x (by omega))
              refine j_p (nx := 159) hJ dX6_produces_158 rfl rfl ?_
              refine j_p (nx := 160) hJ dX6_produces_159 rfl rfl ?_
              refine j_get (nx := 163) hJ dX6_produces_160 rfl fX6_46 hP2.1.1 (by rfl) ?_
              refine j_p (nx := 165) hJ dX6_produces_163 rfl rfl ?_
              refine j_iald (j := v) (nx := 166) hJ dX6_produces_165 rfl (show (gup h1 112 (gia 4 (upd f v (nI (tq + ((st v).getD a)))))) 110 = some (gia 4 (A 110)) from hP2.a 110 (by unfold gia'; omega)) rfl hv4 (by decide) ?_
              rw [hw v hv4]
              refine j_p (nx := 167) hJ dX6_produces_166 rfl rfl ?_
              rw [gadd]
              refine j_p (nx := 168) hJ dX6_produces_167 rfl rfl ?_
              refine j_inc (nx := 171) hJ dX6_produces_168 rfl rfl (gi1 _) rfl ?_
              refine j_go (tgt := 30) hJ dX6_produces_171 (by decide) ?_
              rw [show tq + a + w v = tq + (a + w v) by omega]
              refine ih hil _ (upd f v (nI (tq + ((st v).getD a)))) (a + w v) (fun u => if u = v then some ((st v).getD a) else st u) _ _ _ hP2 (fun u hu => ?_) (fun u b q => ?_) (by omega) ?_
              · simp only [upd]
                by_cases e : u = v
                · rw [if_pos e, if_pos e]
                · rw [if_neg e, if_neg e]; exact hst u hu
              · by_cases e : u = v
                · simp only [if_pos e] at q; cases q; rw [e]; exact hbb
                · simp only [if_neg e] at q; exact hsb u b q
              · rw [hg, hsm]; rfl
            · rw [gnle (by omega) (by omega)] at c120
              have hjl : j < w v := by omega
              refine j_p (nx := 124) hJ dX6_produces_123 rfl rfl ?_
              refine j_get (nx := 127) hJ dX6_produces_124 rfl fX6_194 hP2.1.1 (by rfl) ?_
              refine j_p (nx := 128) hJ dX6_produces_127 rfl rfl ?_
              refine j_p (nx := 130) hJ dX6_produces_128 rfl rfl ?_
              refine j_p (nx := 131) hJ dX6_produces_130 rfl rfl ?_
              rw [gadd]
              refine j_iald (j := tq + a + j) (nx := 132) hJ dX6_produces_131 rfl (show (gup h1 112 (gia 4 (upd f v (nI (tq + ((st v).getD a)))))) ta = some (gia (gasz ta) (A ta)) from (hP2.a ta xta).trans (by rw [gU_n _ _ (show ta ≠ 112 by omega)])) rfl (by omega) (by omega) ?_
              rw [show tq + a + j = tq + (a + j) by omega, xst.get (by omega)]
              refine j_p (nx := 133) hJ dX6_produces_132 rfl rfl ?_
              refine j_get (nx := 136) hJ dX6_produces_133 rfl fX6_194 hP2.1.1 (by rfl) ?_
              refine j_p (nx := 137) hJ dX6_produces_136 rfl rfl ?_
              refine j_get (nx := 140) hJ dX6_produces_137 rfl fX6_52 hP2.1.1 (by rfl) ?_
              refine j_p (nx := 142) hJ dX6_produces_140 rfl rfl ?_
              refine j_iald (j := v) (nx := 143) hJ dX6_produces_142 rfl (show (gup h1 112 (gia 4 (upd f v (nI (tq + ((st v).getD a)))))) 112 = some (gia 4 (upd f v (nI (tq + ((st v).getD a))))) from hP2.a 112 (by unfold gia'; omega)) rfl hv4 (by decide) ?_
              rw [show (upd f v (nI (tq + ((st v).getD a)))) v = nI (tq + ((st v).getD a)) from by simp [upd]]
              refine j_p (nx := 145) hJ dX6_produces_143 rfl rfl ?_
              refine j_p (nx := 146) hJ dX6_produces_145 rfl rfl ?_
              rw [gadd]
              refine j_iald (j := tq + ((st v).getD a) + j) (nx := 147) hJ dX6_produces_146 rfl (show (gup h1 112 (gia 4 (upd f v (nI (tq + ((st v).getD a)))))) ta = some (gia (gasz ta) (A ta)) from (hP2.a ta xta).trans (by rw [gU_n _ _ (show ta ≠ 112 by omega)])) rfl (by omega) (by omega) ?_
              rw [show tq + ((st v).getD a) + j = tq + (((st v).getD a) + j) by omega, xst.get (by omega)]
              refine j_ic_eq (nx := 150) (tgt := 152) hJ dX6_produces_147 rfl (by decide) (fun c147 => ?_) (fun c147 => ?_)
              · refine j_inc (nx := 155) hJ dX6_produces_152 rfl rfl (gi1 j) rfl ?_
                refine j_go (tgt := 111) hJ dX6_produces_155 (by decide) ?_
                refine ihj hjl (fun x hx => ?_)
                by_cases e : x = j
                · subst e; exact c147
                · exact hal x (by omega)
              · refine j_c (nx := 151) hJ dX6_produces_150 rfl gk_iconst_0 ?_
                exact j_zret hJ false dX6_produces_151 rfl ⟨by rw [show gpc t w p 0 (fun _ => none) = false from by rw [hg, gsm_f hjl c147]; rfl], _, hP2⟩
          change J 108 _ _ (gup h1 112 (gia 4 (upd f v (nI (tq + b0))))) _
          rw [hB] at inner
          refine j_c (nx := 109) hJ dX6_produces_108 rfl gk_iconst_0 ?_
          refine j_p (nx := 111) hJ dX6_produces_109 rfl rfl ?_
          exact inner 0 (Nat.zero_le _) (fun x hx => by omega)
  have loop1 : ∀ i, i ≤ 4 → ∀ (h1 : GH) (f : Nat → Int32), gP h0 h1 (gU A 112 f) E M (.ref pa) (.ref ta) → (∀ v, v < i → f v = -1) → J 2 [some (.ref 99), some (.int (nI i)), none, none, none, none] [] h1 (n, 0, 0, false) := by
    refine gloop _ _ (fun i hi ih h1 f hP1 hd => ?_)
    refine j_p (nx := 3) hJ dX6_produces_2 rfl rfl ?_
    refine j_c (nx := 4) hJ dX6_produces_3 rfl gk_iconst_4 ?_
    refine j_ic_ge (nx := 7) (tgt := 20) hJ dX6_produces_4 rfl (by decide) (fun c4 => ?_) (fun c4 => ?_)
    · refine j_p (nx := 21) hJ dX6_produces_20 rfl rfl ?_
      refine j_get (nx := 24) hJ dX6_produces_21 rfl fX6_197 hP1.1.1 (by rfl) ?_
      rw [x17]
      refine j_p (nx := 25) hJ dX6_produces_24 rfl rfl ?_
      refine j_p (nx := 26) hJ dX6_produces_25 rfl rfl ?_
      refine j_get (nx := 29) hJ dX6_produces_26 rfl fX6_188 hP1.1.1 (by rfl) ?_
      rw [x14]
      refine j_p (nx := 30) hJ dX6_produces_29 rfl rfl ?_
      rw [show (4 : Int32) = nI 4 from rfl, gnle (by omega) (by omega)] at c4
      exact loop2 0 (Nat.zero_le _) h1 f 0 (fun _ => none) none none none hP1 (fun v hv => hd v (by omega)) (fun u b q => by cases q) (by rw [Nat.zero_add]; exact htot) rfl
    · rw [show (4 : Int32) = nI 4 from rfl, gnle (by omega) (by omega)] at c4
      have hil : i < 4 := by omega
      refine j_p (nx := 8) hJ dX6_produces_7 rfl rfl ?_
      refine j_get (nx := 11) hJ dX6_produces_8 rfl fX6_52 hP1.1.1 (by rfl) ?_
      refine j_p (nx := 12) hJ dX6_produces_11 rfl rfl ?_
      refine j_c (nx := 13) hJ dX6_produces_12 rfl gk_iconst_m1 ?_
      refine j_iast (j := i) (nx := 14) hJ dX6_produces_13 rfl (show h1 112 = some (gia 4 f) from hP1.a 112 (by unfold gia'; omega)) rfl hil (by decide) ?_
      have hP2 : gP h0 (gup h1 112 (gia 4 (upd f i (-1)))) (gU A 112 (upd f i (-1))) E M (.ref pa) (.ref ta) := (hP1.arr (a := 112) (by unfold gia'; omega) _).uu
      refine j_inc (nx := 17) hJ dX6_produces_14 rfl rfl (gi1 i) rfl ?_
      refine j_go (tgt := 2) hJ dX6_produces_17 (by decide) ?_
      refine ih hil _ _ hP2 (fun v hv => ?_)
      by_cases e : v = i
      · subst e; simp [upd]
      · simp only [upd]; rw [if_neg e]; exact hd v (by omega)
  refine j_c (nx := 1) hJ dX6_produces_0 rfl gk_iconst_0 ?_
  refine j_p (nx := 2) hJ dX6_produces_1 rfl rfl ?_
  exact loop1 0 (Nat.zero_le _) h (A 112) (hP.rw (gU_self A 112) (fun _ => rfl) (fun _ => rfl)) (fun v hv => by omega)
