theorem gimg_len (t : List Int32) (e : GV) (v : Nat) : (gimg t e v).length = gsz' e v := by
  unfold gimg gsz'
  cases e v with
  | none => rfl
  | some bz => simp
theorem gimg_st {t : List Int32} {e : GV} {v b z : Nat} {f : Nat → Int32} (he : e v = some (b, z)) (hb : b + z ≤ t.length) (hf : gSt f 0 t) : gSt f b (gimg t e v) := gSt.of (fun i hi => by
  unfold gimg at hi ⊢
  rw [he] at hi ⊢
  dsimp only at hi ⊢
  rw [List.length_map, List.length_range] at hi
  have h1 := hf.get (i := b + i) (by omega)
  rw [Nat.zero_add] at h1
  rw [h1, List.getD_eq_getElem?_getD (l := (List.range z).map _), List.getElem?_map, List.getElem?_range hi]
  rfl)
theorem gUi_s (R : Nat → List Int32) (t : List Int32) (e : GV) (n : Nat) : ∀ a, gU (gUi R t e n) (17 + 2 * n) (gimg t e n) a = gUi R t e (n + 1) a := fun a => by
  unfold gU gUi
  by_cases h : a = 17 + 2 * n
  · subst h
    rw [if_pos rfl, if_pos (by omega), show (17 + 2 * n - 17) / 2 = n by omega]
  · rw [if_neg h]
    by_cases h2 : a % 2 = 1 ∧ 17 ≤ a ∧ a < 17 + 2 * n
    · rw [if_pos h2, if_pos (by omega)]
    · rw [if_neg h2, if_neg (by omega)]
theorem goc_nv {p : List Int32} (h8 : p.length ≤ 8) (hs : ∀ c ∈ p, gsy c) (hc : gcn p) : goc p 0 = 0 ↔ ¬ 0 < gnv p := by
  have h1 := gcount_nv hs hc 0 (by omega)
  have h2 := List.count_le_length (a := nI (10 + 0)) (l := p)
  rw [← h1]
  unfold goc
  rw [if_pos (by decide), show (10 + 0 : Int32) = nI (10 + 0) from rfl, gcnt_nat, gz0 (by omega)]
  omega
set_option maxHeartbeats 4000000 in
theorem r6_match_ {d : Nat} {h0 h : GH} {R : Nat → List Int32} {N : Nat → Int32} (hS : gRS h0 h R N) (hI : gInv R N) (x md : Int32) : gN false (d + 60) yX6_match_ [.ref 99, .int x, .int md] h (fun o h' => o = some (.int (s_match R N x md).1) ∧ gRS h0 h' (s_match R N x md).2.1 (s_match R N x md).2.2) := by
  obtain ⟨A, E, M, pv, tv, hP, hG⟩ := hS
  have g0 := hG.1.1
  have g9 := hG.1.2.2.1
  obtain ⟨⟨k, ss, hk1, hk3, hss1, hss6, hpt, him, hsm⟩, hI2, hI3, hI4, hI5⟩ := hI
  refine gN.of MX6_match_ (Nat.le_of_ble_eq_true rfl) (fun J n hJ => ?_)
  show J 0 [some (.ref 99), some (.int x), some (.int md), none, none, none, none] [] h (n, 0, 0, false)
  refine j_p (nx := 1) hJ dX6_match__0 rfl rfl ?_
  refine j_p (nx := 2) hJ dX6_match__1 rfl rfl ?_
  refine j_p (nx := 3) hJ dX6_match__2 rfl rfl ?_
  refine j_cv (nx := 6) hJ dX6_match__3 rfl (r6_takeWord (d := d + 55) hP hG hk1 hk3.2 x md) mX6_224 hP.1.1 kX6_takeWord rfl (gle8 rfl) (fun o h1 hp => ?_)
  obtain ⟨rfl, f, hP1, hf⟩ := hp
  have hG1 : gG (gU A 107 f) E (gU (gU M 11 (nI (R 73).length)) 9 0) (gU R 73 []) N := hG.inp (l := []) (by show 0 ≤ 20; omega) rfl (fun i v hv => by cases hv) ⟨rfl, rfl, rfl, rfl, rfl⟩ (fun a _ p => gU_n _ _ (by omega))
  refine j_p (nx := 7) hJ dX6_match__6 rfl rfl ?_
  refine j_p (nx := 8) hJ dX6_match__7 rfl rfl ?_
  refine j_if_ge (nx := 11) (tgt := 13) hJ dX6_match__8 rfl (by decide) (fun c8 => ?_) (fun c8 => ?_)
  rotate_left
  · refine j_p (nx := 12) hJ dX6_match__11 rfl rfl ?_
    have hz9 : ¬ grf x md (gwd (N 1) (R 73)).isSome = 0 := fun q => by rw [q] at c8; exact absurd c8 (by decide)
    have e : s_match R N x md = (grf x md (gwd (N 1) (R 73)).isSome, gU R 73 [], N) := if_neg hz9
    exact j_iret hJ dX6_match__12 ⟨by rw [e], by rw [e]; exact ⟨_, _, _, _, _, hP1, hG1⟩⟩
  have hz0 : grf x md (gwd (N 1) (R 73)).isSome = 0 := grf_neg.resolve_left (fun q => by rw [Int32.lt_iff_toInt_lt] at q; rw [Int32.le_iff_toInt_le] at c8; omega)
  obtain ⟨hx, hmd, hw⟩ := grf_0 hz0
  obtain ⟨t, hg⟩ := gisSome_some hw
  obtain ⟨ht1, ht2, ht3, ht4⟩ := gwd_v hg
  have hst := hf hw
  rw [← ht1] at hst
  have htl : t.length = (R 73).length := by rw [ht1, List.length_map]
  have hxx := hx
  obtain ⟨r, rfl, hr⟩ := gbt_spec hxx
  have egr := gr_nI (r := r) (by omega)
  have hl := hG.2.1 r hr
  have hpr : gPt k (R (5 + 2 * r)) := hpt r hr
  have hps := hpr.sy hk3.2
  refine j_p (nx := 14) hJ dX6_match__13 rfl rfl ?_
  refine j_p (nx := 15) hJ dX6_match__14 rfl rfl ?_
  refine j_p (nx := 16) hJ dX6_match__15 rfl rfl ?_
  refine j_c (nx := 17) hJ dX6_match__16 rfl gk_iconst_1 ?_
  refine j_cv (nx := 20) hJ dX6_match__17 rfl (r6_matchesOf (d := d + 50) hP1 hr (p := (R (5 + 2 * r))) (t := t) hl hst (by omega) (by show nI _ = _; rw [htl]) hps hmd (mst := 1) (by omega) (by omega)) mX6_227 hP1.1.1 kX6_matchesOf rfl (gle8 rfl) (fun o h2 hp => ?_)
  obtain ⟨rfl, A2, M3, hP2, k1, k2, k3⟩ := hp
  have hG2 := hG1.scr (A' := A2) (M' := M3) (E' := E) (fun a ha => k1 a (by omega) (by omega) (by omega) (by omega)) rfl ⟨k2 0 (by omega) (by omega) (by omega) (by omega) (by omega) (by omega), k2 5 (by omega) (by omega) (by omega) (by omega) (by omega) (by omega), k2 9 (by omega) (by omega) (by omega) (by omega) (by omega) (by omega), k2 33 (by omega) (by omega) (by omega) (by omega) (by omega) (by omega), k2 34 (by omega) (by omega) (by omega) (by omega) (by omega) (by omega), k2 35 (by omega) (by omega) (by omega) (by omega) (by omega) (by omega)⟩
  rw [gmin1s, ← gMB_sol hps hpr.2.2.2.2]
  refine j_if_ne (nx := 23) (tgt := 26) hJ dX6_match__20 rfl (by decide) (fun c20 => ?_) (fun c20 => ?_)
  rotate_left
  · rw [gb_f] at c20
    have e : s_match R N (nI r) md = (-6, gU R 73 [], N) := by unfold s_match; rw [if_pos hz0, hg, egr]; exact if_neg (by rw [c20]; decide)
    refine j_c (nx := 25) hJ dX6_match__23 rfl gk_bipush_m6 ?_
    exact j_iret hJ dX6_match__25 ⟨by rw [e], by rw [e]; exact ⟨_, _, _, _, _, hP2, hG2⟩⟩
  rw [gb_t] at c20
  have hmb : gMB (R (5 + 2 * r)) t md 0 0 = true := c20
  have hl8 := hl.2.1
  have hsol : gsol (R (5 + 2 * r)) t md ≠ [] := fun q => by rw [gMB_sol hps hpr.2.2.2.2, q] at hmb; exact absurd hmb (by decide)
  have h111 : ∀ u, u < 4 → A2 111 u = nI ((gsz' (genv (R (5 + 2 * r)) t md)) u) := fun u hu => by rw [k3 hsol u hu, genv_sol hps hpr.2.2.2.2 md hmb]
  have hat := genv_at hpr.2.2.2.2 hmb
  have hst2 : gSt (A2 107) 0 t := by rw [k1 107 (by omega) (by omega) (by omega) (by omega)]; exact hst
  have ez : s_match R N (nI r) md = (if 0 < gnv (R (5 + 2 * r)) then nI (gimg t (genv (R (5 + 2 * r)) t md) 0).length else 0, (gUi (gU R 73 []) t (genv (R (5 + 2 * r)) t md) (gnv (R (5 + 2 * r)))), N) := by unfold s_match; rw [if_pos hz0, hg, egr]; exact if_pos hmb
  have loopB : ∀ i, i ≤ (R (5 + 2 * r)).length → ∀ (w3 : Int32) (w6 : Option Value) (h3 : GH) (A3 : Nat → Nat → Int32), gP h0 h3 A3 E M3 (.ref 100) (.ref 107) → gG A3 E M3 (gUi (gU R 73 []) t (genv (R (5 + 2 * r)) t md) (gvf 0 ((R (5 + 2 * r)).take i))) N → A3 111 = A2 111 → A3 107 = A2 107 → (∀ u, u < (gvf 0 ((R (5 + 2 * r)).take i)) → 0 ≤ (A3 112 u).toInt) → (∀ u, u < 4 → (gvf 0 ((R (5 + 2 * r)).take i)) ≤ u → A3 112 u = -1) → J 58 [some (.ref 99), some (.int (nI r)), some (.int md), some (.int w3), some (.int (nI (gtot (gsz' (genv (R (5 + 2 * r)) t md)) ((R (5 + 2 * r)).take i)))), some (.int (nI (8 * r + i))), w6] [] h3 (n, 0, 0, false) := by
    refine gloop _ _ (fun i hi ih w3 w6 h3 A3 hP3 hG3 h3a h3b h3c h3d => ?_)
    have htle := gtot_le (gsz' (genv (R (5 + 2 * r)) t md)) (R (5 + 2 * r)) i
    rw [hat.1] at htle
    refine j_p (nx := 60) hJ dX6_match__58 rfl rfl ?_
    refine j_c (nx := 62) hJ dX6_match__60 rfl gk_bipush_8 ?_
    refine j_p (nx := 63) hJ dX6_match__62 rfl rfl ?_
    refine j_p (nx := 64) hJ dX6_match__63 rfl rfl ?_
    rw [show (8 : Int32) = nI 8 from rfl, gmul]
    refine j_p (nx := 65) hJ dX6_match__64 rfl rfl ?_
    refine j_get (nx := 68) hJ dX6_match__65 rfl fX6_19 hP3.1.1 (by rfl) ?_
    refine j_p (nx := 69) hJ dX6_match__68 rfl rfl ?_
    have hl3 := hG3.2.1 r hr
    rw [show (gUi (gU R 73 []) t (genv (R (5 + 2 * r)) t md) (gvf 0 ((R (5 + 2 * r)).take i))) (5 + 2 * r) = (R (5 + 2 * r)) from (by unfold gUi; rw [if_neg (by omega), gU_n _ _ (by omega)])] at hl3
    refine j_iald (j := r) (nx := 70) hJ dX6_match__69 rfl (show h3 101 = some (gia 6 (A3 101)) from hP3.a 101 (by unfold gia'; omega)) rfl (by omega) (by decide) ?_
    rw [hl3.1]
    refine j_p (nx := 71) hJ dX6_match__70 rfl rfl ?_
    rw [gadd]
    refine j_ic_ge (nx := 74) (tgt := 176) hJ dX6_match__71 rfl (by decide) (fun c71 => ?_) (fun c71 => ?_)
    · rw [gnle (by omega) (by omega)] at c71
      have e0 : i = (R (5 + 2 * r)).length := by omega
      subst e0
      rw [List.take_length, ← gnv_vf] at hG3
      have hG3 : gG A3 E M3 (gUi (gU R 73 []) t (genv (R (5 + 2 * r)) t md) (gnv (R (5 + 2 * r)))) N := hG3
      refine j_p (nx := 177) hJ dX6_match__176 rfl rfl ?_
      refine j_p (nx := 178) hJ dX6_match__177 rfl rfl ?_
      refine j_c (nx := 179) hJ dX6_match__178 rfl gk_iconst_0 ?_
      refine j_cvR (nx := 182) hJ dX6_match__179 rfl (r6_occurs (d := d + 57) hP3 hr hl3 0) mX6_157 hP3.1.1 kX6_occurs rfl (gle8 rfl) ?_
      refine j_if_ne (nx := 185) (tgt := 189) hJ dX6_match__182 rfl (by decide) (fun c182 => ?_) (fun c182 => ?_)
      · refine j_p (nx := 190) hJ dX6_match__189 rfl rfl ?_
        refine j_get (nx := 193) hJ dX6_match__190 rfl fX6_49 hP3.1.1 (by rfl) ?_
        refine j_c (nx := 194) hJ dX6_match__193 rfl gk_iconst_0 ?_
        refine j_iald (j := 0) (nx := 195) hJ dX6_match__194 rfl (show h3 111 = some (gia 4 (A3 111)) from hP3.a 111 (by unfold gia'; omega)) rfl (by omega) (by decide) ?_
        rw [show A3 111 0 = nI ((gsz' (genv (R (5 + 2 * r)) t md)) 0) from (by rw [h3a]; exact h111 0 (by omega))]
        rw [goc_nv hl8 hps hpr.2.2.2.1] at c182
        have e : s_match R N (nI r) md = (nI ((gsz' (genv (R (5 + 2 * r)) t md)) 0), (gUi (gU R 73 []) t (genv (R (5 + 2 * r)) t md) (gnv (R (5 + 2 * r)))), N) := by rw [ez, if_pos (Classical.not_not.mp c182), gimg_len]
        exact j_iret hJ dX6_match__195 ⟨by rw [e], by rw [e]; exact ⟨_, _, _, _, _, hP3, hG3⟩⟩
      · refine j_c (nx := 186) hJ dX6_match__185 rfl gk_iconst_0 ?_
        refine j_go (tgt := 195) hJ dX6_match__186 (by decide) ?_
        rw [goc_nv hl8 hps hpr.2.2.2.1] at c182
        have e : s_match R N (nI r) md = (0, (gUi (gU R 73 []) t (genv (R (5 + 2 * r)) t md) (gnv (R (5 + 2 * r)))), N) := by rw [ez, if_neg c182]
        exact j_iret hJ dX6_match__195 ⟨by rw [e], by rw [e]; exact ⟨_, _, _, _, _, hP3, hG3⟩⟩
    rw [gnle (by omega) (by omega)] at c71
    have hil : i < (R (5 + 2 * r)).length := by omega
    have hcy := hps _ (ggetD_mem hil)
    refine j_p (nx := 75) hJ dX6_match__74 rfl rfl ?_
    refine j_get (nx := 78) hJ dX6_match__75 rfl fX6_15 hP3.1.1 (by rfl) ?_
    refine j_p (nx := 80) hJ dX6_match__78 rfl rfl ?_
    refine j_iald (j := 8 * r + i) (nx := 81) hJ dX6_match__80 rfl (show h3 100 = some (gia 48 (A3 100)) from hP3.a 100 (by unfold gia'; omega)) rfl (by omega) (by decide) ?_
    rw [hl3.2.2.get hil]
    refine j_c (nx := 83) hJ dX6_match__81 rfl gk_bipush_10 ?_
    refine j_p (nx := 84) hJ dX6_match__83 rfl rfl ?_
    refine j_p (nx := 86) hJ dX6_match__84 rfl rfl ?_
    refine j_p (nx := 88) hJ dX6_match__86 rfl rfl ?_
    by_cases h10 : (10 : Int32) ≤ ((R (5 + 2 * r)).getD i (-1))
    · obtain ⟨v, hv4, hcv, -, hvo⟩ := gpe_v R hcy h10
      have hvle : v ≤ (gvf 0 ((R (5 + 2 * r)).take i)) := gco_split hvo ((R (5 + 2 * r)).take i) ((R (5 + 2 * r)).drop (i + 1)) 0 (by rw [← gdropD hil, List.take_append_drop]; exact hpr.2.2.2.2)
      have hnn : (0 : Int32) ≤ ((R (5 + 2 * r)).getD i (-1)) - 10 := by rw [hcv, Int32.le_iff_toInt_le, nI_toInt (by omega), Int32.toInt_zero]; omega
      refine j_if_lt (nx := 91) (tgt := 149) hJ dX6_match__88 rfl (by decide) (fun c88 => absurd hnn (by rw [Int32.le_iff_toInt_le]; rw [Int32.lt_iff_toInt_lt] at c88; omega)) (fun c88 => ?_)
      refine j_p (nx := 92) hJ dX6_match__91 rfl rfl ?_
      refine j_get (nx := 95) hJ dX6_match__92 rfl fX6_52 hP3.1.1 (by rfl) ?_
      refine j_p (nx := 97) hJ dX6_match__95 rfl rfl ?_
      rw [hcv]
      refine j_iald (j := v) (nx := 98) hJ dX6_match__97 rfl (show h3 112 = some (gia 4 (A3 112)) from hP3.a 112 (by unfold gia'; omega)) rfl (by omega) (by decide) ?_
      rw [← hcv]
      by_cases hvn : v = (gvf 0 ((R (5 + 2 * r)).take i))
      · obtain hev := hat.2 i v hil hvo hvn
        have htk := gtot_take (w := (gsz' (genv (R (5 + 2 * r)) t md))) hil
        rw [hvo] at htk
        have hbz : (gtot (gsz' (genv (R (5 + 2 * r)) t md)) ((R (5 + 2 * r)).take i)) + (gsz' (genv (R (5 + 2 * r)) t md)) v ≤ t.length := by have := gtot_le (gsz' (genv (R (5 + 2 * r)) t md)) (R (5 + 2 * r)) (i + 1); rw [hat.1] at this; dsimp only at htk; omega
        have hwv : (gsz' (genv (R (5 + 2 * r)) t md)) v ≤ 8 := by omega
        refine j_if_ge (nx := 101) (tgt := 149) hJ dX6_match__98 rfl (by decide) (fun c98 => absurd c98 (by rw [h3d v hv4 (by omega)]; decide)) (fun c98 => ?_)
        refine j_p (nx := 102) hJ dX6_match__101 rfl rfl ?_
        refine j_get (nx := 105) hJ dX6_match__102 rfl fX6_52 hP3.1.1 (by rfl) ?_
        refine j_p (nx := 107) hJ dX6_match__105 rfl rfl ?_
        refine j_p (nx := 109) hJ dX6_match__107 rfl rfl ?_
        rw [hcv]
        refine j_iast (j := v) (nx := 110) hJ dX6_match__109 rfl (show h3 112 = some (gia 4 (A3 112)) from hP3.a 112 (by unfold gia'; omega)) rfl (by omega) (by decide) ?_
        have hP4 := hP3.arr (a := 112) (by unfold gia'; omega) (upd (A3 112) (v) (nI (gtot (gsz' (genv (R (5 + 2 * r)) t md)) ((R (5 + 2 * r)).take i))))
        refine j_p (nx := 111) hJ dX6_match__110 rfl rfl ?_
        refine j_get (nx := 114) hJ dX6_match__111 rfl fX6_37 hP4.1.1 (by rfl) ?_
        refine j_p (nx := 116) hJ dX6_match__114 rfl rfl ?_
        refine j_p (nx := 117) hJ dX6_match__116 rfl rfl ?_
        refine j_get (nx := 120) hJ dX6_match__117 rfl fX6_28 hP4.1.1 (by rfl) ?_
        refine j_c (nx := 122) hJ dX6_match__120 rfl gk_bipush_8 ?_
        refine j_p (nx := 124) hJ dX6_match__122 rfl rfl ?_
        refine j_p (nx := 125) hJ dX6_match__124 rfl rfl ?_
        rw [show (8 : Int32) = nI 8 from rfl, gmul]
        refine j_p (nx := 126) hJ dX6_match__125 rfl rfl ?_
        refine j_get (nx := 129) hJ dX6_match__126 rfl fX6_49 hP4.1.1 (by rfl) ?_
        refine j_p (nx := 131) hJ dX6_match__129 rfl rfl ?_
        refine j_iald (j := v) (nx := 132) hJ dX6_match__131 rfl (show (gup h3 112 (gia 4 (upd (A3 112) v (nI (gtot (gsz' (genv (R (5 + 2 * r)) t md)) ((R (5 + 2 * r)).take i)))))) 111 = some (gia 4 (((gU A3 112 (upd (A3 112) v (nI (gtot (gsz' (genv (R (5 + 2 * r)) t md)) ((R (5 + 2 * r)).take i)))))) 111)) from hP4.a 111 (by unfold gia'; omega)) rfl (by omega) (by decide) ?_
        rw [show (gU A3 112 (upd (A3 112) v (nI (gtot (gsz' (genv (R (5 + 2 * r)) t md)) ((R (5 + 2 * r)).take i))))) 111 v = nI (gimg t (genv (R (5 + 2 * r)) t md) v).length from (by rw [gU_n _ _ (by omega), h3a, gimg_len]; exact h111 v (by omega))]
        refine j_acp (nx := 135) hJ (gtot (gsz' (genv (R (5 + 2 * r)) t md)) ((R (5 + 2 * r)).take i)) (8 * v) (gimg t (genv (R (5 + 2 * r)) t md) v).length dX6_match__132 rfl mX6_125 (gle8 rfl) (show (gup h3 112 (gia 4 (upd (A3 112) v (nI (gtot (gsz' (genv (R (5 + 2 * r)) t md)) ((R (5 + 2 * r)).take i)))))) 107 = some (gia 8 (A3 107)) from by rw [gup_ne _ _ (by decide)]; exact hP3.a 107 (by unfold gia'; omega)) (show (gup h3 112 (gia 4 (upd (A3 112) v (nI (gtot (gsz' (genv (R (5 + 2 * r)) t md)) ((R (5 + 2 * r)).take i)))))) 104 = some (gia 32 (A3 104)) from by rw [gup_ne _ _ (by decide)]; exact hP3.a 104 (by unfold gia'; omega)) rfl rfl rfl (by rw [gimg_len]; omega) (by rw [gimg_len]; omega) (by decide) (by decide) ?_
        have hP5 := hP4.arr (a := 104) (by unfold gia'; omega) (va_cpy (A3 107) (A3 104) (gtot (gsz' (genv (R (5 + 2 * r)) t md)) ((R (5 + 2 * r)).take i)) (8 * v) (gimg t (genv (R (5 + 2 * r)) t md) v).length)
        refine j_p (nx := 136) hJ dX6_match__135 rfl rfl ?_
        refine j_get (nx := 139) hJ dX6_match__136 rfl fX6_31 hP5.1.1 (by rfl) ?_
        refine j_p (nx := 141) hJ dX6_match__139 rfl rfl ?_
        refine j_p (nx := 142) hJ dX6_match__141 rfl rfl ?_
        refine j_get (nx := 145) hJ dX6_match__142 rfl fX6_49 hP5.1.1 (by rfl) ?_
        refine j_p (nx := 147) hJ dX6_match__145 rfl rfl ?_
        refine j_iald (j := v) (nx := 148) hJ dX6_match__147 rfl (show (gup (gup h3 112 (gia 4 (upd (A3 112) v (nI (gtot (gsz' (genv (R (5 + 2 * r)) t md)) ((R (5 + 2 * r)).take i)))))) 104 (gia 32 (va_cpy (A3 107) (A3 104) (gtot (gsz' (genv (R (5 + 2 * r)) t md)) ((R (5 + 2 * r)).take i)) (8 * v) (gimg t (genv (R (5 + 2 * r)) t md) v).length))) 111 = some (gia 4 (((gU (gU A3 112 (upd (A3 112) v (nI (gtot (gsz' (genv (R (5 + 2 * r)) t md)) ((R (5 + 2 * r)).take i))))) 104 (va_cpy (A3 107) (A3 104) (gtot (gsz' (genv (R (5 + 2 * r)) t md)) ((R (5 + 2 * r)).take i)) (8 * v) (gimg t (genv (R (5 + 2 * r)) t md) v).length))) 111)) from hP5.a 111 (by unfold gia'; omega)) rfl (by omega) (by decide) ?_
        rw [show (gU (gU A3 112 (upd (A3 112) v (nI (gtot (gsz' (genv (R (5 + 2 * r)) t md)) ((R (5 + 2 * r)).take i))))) 104 (va_cpy (A3 107) (A3 104) (gtot (gsz' (genv (R (5 + 2 * r)) t md)) ((R (5 + 2 * r)).take i)) (8 * v) (gimg t (genv (R (5 + 2 * r)) t md) v).length)) 111 v = nI ((gsz' (genv (R (5 + 2 * r)) t md)) v) from (by rw [gU_n _ _ (by omega), gU_n _ _ (by omega), h3a]; exact h111 v (by omega))]
        refine j_iast (j := v) (nx := 149) hJ dX6_match__148 rfl (show (gup (gup h3 112 (gia 4 (upd (A3 112) v (nI (gtot (gsz' (genv (R (5 + 2 * r)) t md)) ((R (5 + 2 * r)).take i)))))) 104 (gia 32 (va_cpy (A3 107) (A3 104) (gtot (gsz' (genv (R (5 + 2 * r)) t md)) ((R (5 + 2 * r)).take i)) (8 * v) (gimg t (genv (R (5 + 2 * r)) t md) v).length))) 105 = some (gia 4 (A3 105)) from by rw [gup_ne _ _ (by decide), gup_ne _ _ (by decide)]; exact hP3.a 105 (by unfold gia'; omega)) rfl (by omega) (by decide) ?_
        have hP6 := hP5.arr (a := 105) (by unfold gia'; omega) (upd (A3 105) v (nI ((gsz' (genv (R (5 + 2 * r)) t md)) v)))
        rw [← hcv]
        refine j_p (nx := 151) hJ dX6_match__149 rfl rfl ?_
        refine j_p (nx := 153) hJ dX6_match__151 rfl rfl ?_
        refine j_if_ge (nx := 156) (tgt := 160) hJ dX6_match__153 rfl (by decide) (fun c153 => ?_) (fun c153 => absurd hnn c153)
        refine j_p (nx := 161) hJ dX6_match__160 rfl rfl ?_
        refine j_get (nx := 164) hJ dX6_match__161 rfl fX6_49 hP6.1.1 (by rfl) ?_
        refine j_p (nx := 166) hJ dX6_match__164 rfl rfl ?_
        rw [hcv]
        refine j_iald (j := v) (nx := 167) hJ dX6_match__166 rfl (show (gup (gup (gup h3 112 (gia 4 (upd (A3 112) v (nI (gtot (gsz' (genv (R (5 + 2 * r)) t md)) ((R (5 + 2 * r)).take i)))))) 104 (gia 32 (va_cpy (A3 107) (A3 104) (gtot (gsz' (genv (R (5 + 2 * r)) t md)) ((R (5 + 2 * r)).take i)) (8 * v) (gimg t (genv (R (5 + 2 * r)) t md) v).length))) 105 (gia 4 (upd (A3 105) v (nI ((gsz' (genv (R (5 + 2 * r)) t md)) v))))) 111 = some (gia 4 ((gU (gU (gU A3 112 (upd (A3 112) v (nI (gtot (gsz' (genv (R (5 + 2 * r)) t md)) ((R (5 + 2 * r)).take i))))) 104 (va_cpy (A3 107) (A3 104) (gtot (gsz' (genv (R (5 + 2 * r)) t md)) ((R (5 + 2 * r)).take i)) (8 * v) (gimg t (genv (R (5 + 2 * r)) t md) v).length)) 105 (upd (A3 105) v (nI ((gsz' (genv (R (5 + 2 * r)) t md)) v)))) 111)) from hP6.a 111 (by unfold gia'; omega)) rfl (by omega) (by decide) ?_
        rw [show (gU (gU (gU A3 112 (upd (A3 112) v (nI (gtot (gsz' (genv (R (5 + 2 * r)) t md)) ((R (5 + 2 * r)).take i))))) 104 (va_cpy (A3 107) (A3 104) (gtot (gsz' (genv (R (5 + 2 * r)) t md)) ((R (5 + 2 * r)).take i)) (8 * v) (gimg t (genv (R (5 + 2 * r)) t md) v).length)) 105 (upd (A3 105) v (nI ((gsz' (genv (R (5 + 2 * r)) t md)) v)))) 111 v = nI ((gsz' (genv (R (5 + 2 * r)) t md)) v) from (by rw [show (gU (gU (gU A3 112 (upd (A3 112) v (nI (gtot (gsz' (genv (R (5 + 2 * r)) t md)) ((R (5 + 2 * r)).take i))))) 104 (va_cpy (A3 107) (A3 104) (gtot (gsz' (genv (R (5 + 2 * r)) t md)) ((R (5 + 2 * r)).take i)) (8 * v) (gimg t (genv (R (5 + 2 * r)) t md) v).length)) 105 (upd (A3 105) v (nI ((gsz' (genv (R (5 + 2 * r)) t md)) v)))) 111 = A2 111 from (by rw [gU_n _ _ (by omega), gU_n _ _ (by omega), gU_n _ _ (by omega)]; exact h3a)]; exact h111 v (by omega)), ← hcv]
        refine j_p (nx := 168) hJ dX6_match__167 rfl rfl ?_
        rw [gadd]
        refine j_p (nx := 170) hJ dX6_match__168 rfl rfl ?_
        refine j_inc (nx := 173) hJ dX6_match__170 rfl rfl (gi1 _) rfl ?_
        refine j_go (tgt := 58) hJ dX6_match__173 (by decide) ?_
        have hst9 := ih hil
        rw [gtot_take hil, gvf_take hil, hvo] at hst9
        dsimp only at hst9
        rw [← hvn, show max v (v + 1) = v + 1 by omega] at hst9
        refine hst9 w3 _ _ _ hP6 ?_ ?_ ?_ (fun u hu => ?_) (fun u hu hu2 => ?_)
        · have hGi := hG3.img (A' := (gU (gU (gU A3 112 (upd (A3 112) v (nI (gtot (gsz' (genv (R (5 + 2 * r)) t md)) ((R (5 + 2 * r)).take i))))) 104 (va_cpy (A3 107) (A3 104) (gtot (gsz' (genv (R (5 + 2 * r)) t md)) ((R (5 + 2 * r)).take i)) (8 * v) (gimg t (genv (R (5 + 2 * r)) t md) v).length)) 105 (upd (A3 105) v (nI ((gsz' (genv (R (5 + 2 * r)) t md)) v))))) hv4 (l := gimg t (genv (R (5 + 2 * r)) t md) v) ⟨?_, by rw [gimg_len]; omega, ?_⟩ (fun i hi => ?_) (fun i hi => ?_) (fun a p1 p2 p3 => ?_)
          · rw [← hvn] at hGi
            exact hGi.rwR (gUi_s _ _ _ _)
          · rw [gU_s, gimg_len]; simp [upd]
          · rw [gU_n _ _ (by omega), gU_s]; exact gcpy_st (gimg_st hev hbz (by rw [h3b]; exact hst2))
          · rw [gU_n _ _ (by omega), gU_s, gcpy_out (by rw [gimg_len]; omega)]
          · rw [gU_s]; simp only [upd]; rw [if_neg hi]
          · rw [gU_n _ _ p2, gU_n _ _ p1, gU_n _ _ (by omega)]
        · rw [gU_n _ _ (by omega), gU_n _ _ (by omega), gU_n _ _ (by omega)]; exact h3a
        · rw [gU_n _ _ (by omega), gU_n _ _ (by omega), gU_n _ _ (by omega)]; exact h3b
        · rw [gU_n _ _ (by omega), gU_n _ _ (by omega), gU_s]
          simp only [upd]
          by_cases e9 : u = v
          · rw [if_pos e9, nI_toInt (by omega)]; omega
          · rw [if_neg e9]; exact h3c u (by omega)
        · rw [gU_n _ _ (by omega), gU_n _ _ (by omega), gU_s]
          simp only [upd]
          rw [if_neg (by omega)]
          exact h3d u hu (by omega)
      have hvlt : v < (gvf 0 ((R (5 + 2 * r)).take i)) := by omega
      refine j_if_ge (nx := 101) (tgt := 149) hJ dX6_match__98 rfl (by decide) (fun c98 => ?_) (fun c98 => absurd (show (0 : Int32) ≤ A3 112 v from by rw [Int32.le_iff_toInt_le, Int32.toInt_zero]; exact h3c v hvlt) c98)
      refine j_p (nx := 151) hJ dX6_match__149 rfl rfl ?_
      refine j_p (nx := 153) hJ dX6_match__151 rfl rfl ?_
      refine j_if_ge (nx := 156) (tgt := 160) hJ dX6_match__153 rfl (by decide) (fun c153 => ?_) (fun c153 => absurd hnn c153)
      refine j_p (nx := 161) hJ dX6_match__160 rfl rfl ?_
      refine j_get (nx := 164) hJ dX6_match__161 rfl fX6_49 hP3.1.1 (by rfl) ?_
      refine j_p (nx := 166) hJ dX6_match__164 rfl rfl ?_
      rw [hcv]
      refine j_iald (j := v) (nx := 167) hJ dX6_match__166 rfl (show h3 111 = some (gia 4 (A3 111)) from hP3.a 111 (by unfold gia'; omega)) rfl (by omega) (by decide) ?_
      rw [show A3 111 v = nI ((gsz' (genv (R (5 + 2 * r)) t md)) v) from (by rw [h3a]; exact h111 v (by omega)), ← hcv]
      refine j_p (nx := 168) hJ dX6_match__167 rfl rfl ?_
      rw [gadd]
      refine j_p (nx := 170) hJ dX6_match__168 rfl rfl ?_
      refine j_inc (nx := 173) hJ dX6_match__170 rfl rfl (gi1 _) rfl ?_
      refine j_go (tgt := 58) hJ dX6_match__173 (by decide) ?_
      have hst9 := ih hil
      rw [gtot_take hil, gvf_take hil, hvo] at hst9
      dsimp only at hst9
      rw [show max (gvf 0 ((R (5 + 2 * r)).take i)) (v + 1) = (gvf 0 ((R (5 + 2 * r)).take i)) by omega] at hst9
      exact hst9 w3 _ h3 A3 hP3 hG3 h3a h3b h3c h3d
    · obtain ⟨-, hneg⟩ := gpe_l R hcy h10
      have hvo : gvo ((R (5 + 2 * r)).getD i (-1)) = none := by
        cases hq : gvo ((R (5 + 2 * r)).getD i (-1)) with
        | none => rfl
        | some v => obtain ⟨q1, q2, q3⟩ := gvo_some hq; rw [q3, show (10 : Int32) = nI 10 from rfl, gnle (by omega) (by omega)] at h10; omega
      refine j_if_lt (nx := 91) (tgt := 149) hJ dX6_match__88 rfl (by decide) (fun c88 => ?_) (fun c88 => absurd hneg c88)
      refine j_p (nx := 151) hJ dX6_match__149 rfl rfl ?_
      refine j_p (nx := 153) hJ dX6_match__151 rfl rfl ?_
      refine j_if_ge (nx := 156) (tgt := 160) hJ dX6_match__153 rfl (by decide) (fun c153 => absurd hneg (by rw [Int32.lt_iff_toInt_lt]; rw [Int32.le_iff_toInt_le] at c153; omega)) (fun c153 => ?_)
      refine j_c (nx := 157) hJ dX6_match__156 rfl gk_iconst_1 ?_
      refine j_go (tgt := 167) hJ dX6_match__157 (by decide) ?_
      refine j_p (nx := 168) hJ dX6_match__167 rfl rfl ?_
      rw [show nI (gtot (gsz' (genv (R (5 + 2 * r)) t md)) ((R (5 + 2 * r)).take i)) + 1 = nI ((gtot (gsz' (genv (R (5 + 2 * r)) t md)) ((R (5 + 2 * r)).take i)) + 1) from (nI_succ _).symm]
      refine j_p (nx := 170) hJ dX6_match__168 rfl rfl ?_
      refine j_inc (nx := 173) hJ dX6_match__170 rfl rfl (gi1 _) rfl ?_
      refine j_go (tgt := 58) hJ dX6_match__173 (by decide) ?_
      have hst9 := ih hil
      rw [gtot_take hil, gvf_take hil, hvo] at hst9
      exact hst9 w3 _ h3 A3 hP3 hG3 h3a h3b h3c h3d
  have after : ∀ (w3 : Int32) (h3 : GH) (A3 : Nat → Nat → Int32) (w5 : Option Value), gP h0 h3 A3 E M3 (.ref 100) (.ref 107) → (∀ a, a ≠ 112 → A3 a = A2 a) → (∀ j, j < 4 → A3 112 j = -1) → J 52 [some (.ref 99), some (.int (nI r)), some (.int md), some (.int w3), some (.int 0), w5, none] [] h3 (n, 0, 0, false) := by
    intro w3 h3 A3 w5 hP3 hA3 hu3
    refine j_c (nx := 54) hJ dX6_match__52 rfl gk_bipush_8 ?_
    refine j_p (nx := 55) hJ dX6_match__54 rfl rfl ?_
    refine j_p (nx := 56) hJ dX6_match__55 rfl rfl ?_
    rw [show (8 : Int32) = nI 8 from rfl, gmul]
    refine j_p (nx := 58) hJ dX6_match__56 rfl rfl ?_
    exact loopB 0 (Nat.zero_le _) w3 none h3 A3 hP3 ((hG2.scr (A' := A3) (E' := E) (M' := M3) (fun a ha => hA3 a (by omega)) rfl ⟨rfl, rfl, rfl, rfl, rfl, rfl⟩).rwR (fun a => by unfold gUi; rw [if_neg (by show ¬ (_ ∧ _ ∧ a < 17 + 2 * 0); omega)])) (hA3 111 (by omega)) (hA3 107 (by omega)) (fun u hu => absurd hu (by show ¬ u < 0; omega)) (fun u hu _ => hu3 u hu)
  have loopA : ∀ u, u ≤ 4 → ∀ (w3 : Int32) (h3 : GH) (A3 : Nat → Nat → Int32), gP h0 h3 A3 E M3 (.ref 100) (.ref 107) → (∀ a, a ≠ 112 → A3 a = A2 a) → (∀ j, j < u → A3 112 j = -1) → J 32 [some (.ref 99), some (.int (nI r)), some (.int md), some (.int w3), some (.int (0)), some (.int (nI u)), none] [] h3 (n, 0, 0, false) := by
    refine gloop _ _ (fun u hu ih w3 h3 A3 hP3 hA3 hu3 => ?_)
    refine j_p (nx := 34) hJ dX6_match__32 rfl rfl ?_
    refine j_c (nx := 35) hJ dX6_match__34 rfl gk_iconst_4 ?_
    refine j_ic_ge (nx := 38) (tgt := 52) hJ dX6_match__35 rfl (by decide) (fun c35 => ?_) (fun c35 => ?_)
    · rw [show (4 : Int32) = nI 4 from rfl, gnle (by omega) (by omega)] at c35
      have e0 : u = 4 := by omega
      subst e0
      exact after w3 h3 A3 _ hP3 hA3 hu3
    rw [show (4 : Int32) = nI 4 from rfl, gnle (by omega) (by omega)] at c35
    have hu4 : u < 4 := by omega
    refine j_p (nx := 39) hJ dX6_match__38 rfl rfl ?_
    refine j_get (nx := 42) hJ dX6_match__39 rfl fX6_52 hP3.1.1 (by rfl) ?_
    refine j_p (nx := 44) hJ dX6_match__42 rfl rfl ?_
    refine j_c (nx := 45) hJ dX6_match__44 rfl gk_iconst_m1 ?_
    refine j_iast (j := u) (nx := 46) hJ dX6_match__45 rfl (show h3 112 = some (gia 4 (A3 112)) from hP3.a 112 (by unfold gia'; omega)) rfl (by omega) (by decide) ?_
    have hP4 := hP3.arr (a := 112) (by unfold gia'; omega) (upd (A3 112) (u) (-1))
    refine j_inc (nx := 49) hJ dX6_match__46 rfl rfl (gi1 u) rfl ?_
    refine j_go (tgt := 32) hJ dX6_match__49 (by decide) ?_
    refine ih hu4 w3 _ _ hP4 (fun a ha => by rw [gU_n _ _ ha]; exact hA3 a ha) (fun j hj => ?_)
    rw [gU_s]
    simp only [upd]
    by_cases e9 : j = u
    · rw [if_pos e9]
    · rw [if_neg e9]; exact hu3 j (by omega)
  refine j_c (nx := 27) hJ dX6_match__26 rfl gk_iconst_0 ?_
  refine j_p (nx := 29) hJ dX6_match__27 rfl rfl ?_
  refine j_c (nx := 30) hJ dX6_match__29 rfl gk_iconst_0 ?_
  refine j_p (nx := 32) hJ dX6_match__30 rfl rfl ?_
  exact loopA 0 (Nat.zero_le _) _ _ _ hP2 (fun a _ => rfl) (fun j hj => by omega)
