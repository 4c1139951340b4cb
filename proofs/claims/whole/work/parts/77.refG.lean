def gtri (c a : Int32) : Prop := (0 < c.toInt ∧ a = 1) ∨ (c = 0 ∧ a = 0) ∨ (c.toInt < 0 ∧ a = -1)
theorem gtri_sub {x y : Nat} (hx : x ≤ 1000) (hy : y ≤ 1000) : gtri (nI x - nI y) (gcmp (nI x) (nI y)) := by
  unfold gtri gcmp
  rw [gsl2 hx hy]
  by_cases h1 : x < y
  · rw [if_pos ((gnlt (by omega) (by omega)).mpr h1)]; exact Or.inr (Or.inr ⟨by omega, rfl⟩)
  · rw [if_neg (fun q => h1 ((gnlt (by omega) (by omega)).mp q))]
    by_cases h2 : x = y
    · rw [if_pos (by rw [h2])]; exact Or.inr (Or.inl ⟨by rw [h2, Int32.sub_self], rfl⟩)
    · rw [if_neg (fun q => h2 ((gneq (by omega) (by omega)).mp q))]; exact Or.inl ⟨by omega, rfl⟩
theorem gtri_nz {c a : Int32} (h : gtri c a) : c = 0 ↔ a = 0 := by
  rcases h with ⟨h1, h2⟩ | ⟨h1, h2⟩ | ⟨h1, h2⟩
  · constructor
    · intro q; rw [q] at h1; exact absurd h1 (by decide)
    · intro q; rw [q] at h2; exact absurd h2 (by decide)
  · exact ⟨fun _ => h2, fun _ => h1⟩
  · constructor
    · intro q; rw [q] at h1; exact absurd h1 (by decide)
    · intro q; rw [q] at h2; exact absurd h2 (by decide)
theorem glx_lex : ∀ (a b : List Int32), (∀ c ∈ a, gsy c) → (∀ c ∈ b, gsy c) → gtri (glx a b 0) (glex a b)
  | [], _, _, _ => Or.inr (Or.inl ⟨by simp [glx], by simp [glex]⟩)
  | _ :: _, [], _, _ => Or.inr (Or.inl ⟨by simp [glx], by simp [glex]⟩)
  | x :: xs, y :: ys, ha, hb => by
    rw [glx, if_pos rfl, glex]
    have hx := ha x (List.mem_cons_self ..)
    have hy := hb y (List.mem_cons_self ..)
    by_cases e : x = y
    · rw [if_pos e, e, Int32.sub_self]
      exact glx_lex xs ys (fun c hc => ha c (List.mem_cons_of_mem _ hc)) (fun c hc => hb c (List.mem_cons_of_mem _ hc))
    · rw [if_neg e]
      have hd : (y - x).toInt = y.toInt - x.toInt := by
        unfold gsy at hx hy
        rw [Int32.toInt_sub, Int.bmod_eq_of_le] <;> (try simp) <;> omega
      have hne : y.toInt ≠ x.toInt := fun q => e (Int32.toInt_inj.mp q.symm)
      rw [glx_nz (fun q => by rw [q] at hd; exact hne (by have : (0 : Int32).toInt = 0 := rfl; omega))]
      unfold gtri
      rw [hd]
      by_cases h : x < y
      · rw [if_pos h]; rw [Int32.lt_iff_toInt_lt] at h; exact Or.inl ⟨by omega, rfl⟩
      · rw [if_neg h]; rw [Int32.lt_iff_toInt_lt] at h; exact Or.inr (Or.inr ⟨by omega, rfl⟩)
theorem gltr_le (l : List Int32) : ∃ n, gltr l = nI n ∧ n ≤ l.length := ⟨_, gltr_nat l, List.countP_le_length⟩
theorem gbet_adv {a b : List Int32} (hl : a.length = b.length) (h8 : a.length ≤ 100) (ha : ∀ c ∈ a, gsy c) (hb : ∀ c ∈ b, gsy c) (ca : gcn a) (cb : gcn b) : gtri (gbet a b) (gadv a b) := by
  obtain ⟨la, ea, hla⟩ := gltr_le a
  obtain ⟨lb, eb, hlb⟩ := gltr_le b
  have h1 := gtri_sub (x := la) (y := lb) (by omega) (by omega)
  have h2 := gtri_sub (x := gvc b) (y := gvc a) (by rw [gvc_nv hb cb]; have := gnv_le b; omega) (by rw [gvc_nv ha ca]; have := gnv_le a; omega)
  unfold gbet gadv
  rw [if_pos hl, gvar_nv ha, gvar_nv hb, ← gvc_nv ha ca, ← gvc_nv hb cb, ea, eb]
  by_cases e1 : nI la - nI lb = 0
  · rw [if_pos e1, if_pos ((gtri_nz h1).mp e1)]
    by_cases e2 : nI (gvc b) - nI (gvc a) = 0
    · rw [if_pos ((gtri_nz h2).mp e2), e2]; exact glx_lex a b ha hb
    · rw [if_neg (fun q => e2 ((gtri_nz h2).mpr q)), glx_nz e2]; exact h2
  · rw [if_neg e1, if_neg (fun q => e1 ((gtri_nz h1).mpr q))]; exact h1
set_option maxHeartbeats 4000000 in
theorem r6_compareQuality {d : Nat} {h0 h : GH} {R : Nat → List Int32} {N : Nat → Int32} (hS : gRS h0 h R N) (hI : gInv R N) (x y : Int32) : gN false (d + 60) yX6_compareQuality [.ref 99, .int x, .int y] h (fun o h' => o = some (.int (s_compareQuality R x y)) ∧ gRS h0 h' R N) := by
  obtain ⟨A, E, M, pv, tv, hP, hG⟩ := hS
  have g0 := hG.1.1
  have g9 := hG.1.2.2.1
  obtain ⟨⟨k, ss, hk1, hk3, hss1, hss6, hpt, him, hsm⟩, hI2, hI3, hI4, hI5⟩ := hI
  refine gN.of MX6_compareQuality (Nat.le_of_ble_eq_true rfl) (fun J n hJ => ?_)
  show J 0 [some (.ref 99), some (.int x), some (.int y), none] [] h (n, 0, 0, false)
  by_cases hx : gbt x 6 = true
  · obtain ⟨r, rfl, hr⟩ := gbt_spec hx
    have egr := gr_nI (r := r) (by omega)
    have hl := hG.2.1 r hr
    have hl8 := hl.2.1
    have hpr := hpt r hr
    by_cases hy : gbt y 6 = true
    · obtain ⟨s, rfl, hs⟩ := gbt_spec hy
      have egs := gr_nI (r := s) (by omega)
      have hls := hG.2.1 s hs
      have hls8 := hls.2.1
      refine j_p (nx := 1) hJ dX6_compareQuality_0 rfl rfl ?_
      refine j_csR (nx := 4) hJ dX6_compareQuality_1 rfl (r6_isRegister (fl := false) (d := d + 57) _) mX6_139 rfl (gle8 rfl) ?_
      rw [show gbt _ 6 = true from hx]
      refine j_if_eq (nx := 7) (tgt := 14) hJ dX6_compareQuality_4 rfl (by decide) (fun c4 => absurd c4 (by decide)) (fun c4 => ?_)
      refine j_p (nx := 8) hJ dX6_compareQuality_7 rfl rfl ?_
      refine j_csR (nx := 11) hJ dX6_compareQuality_8 rfl (r6_isRegister (fl := false) (d := d + 57) _) mX6_139 rfl (gle8 rfl) ?_
      rw [show gbt _ 6 = true from hy]
      refine j_if_ne (nx := 14) (tgt := 17) hJ dX6_compareQuality_11 rfl (by decide) (fun c11 => ?_) (fun c11 => absurd c11 (by decide))
      have e : s_compareQuality R (nI r) (nI s) = 1 + gadv (R (5 + 2 * r)) (R (5 + 2 * s)) := by unfold s_compareQuality; rw [if_pos ⟨hx, hy⟩, egr, egs]
      have hps := hpt s hs
      refine j_p (nx := 18) hJ dX6_compareQuality_17 rfl rfl ?_
      refine j_get (nx := 21) hJ dX6_compareQuality_18 rfl fX6_19 hP.1.1 (by rfl) ?_
      refine j_p (nx := 22) hJ dX6_compareQuality_21 rfl rfl ?_
      refine j_iald (j := r) (nx := 23) hJ dX6_compareQuality_22 rfl (show h 101 = some (gia 6 (A 101)) from hP.a 101 (by unfold gia'; omega)) rfl (by omega) (by decide) ?_
      rw [hl.1]
      refine j_p (nx := 24) hJ dX6_compareQuality_23 rfl rfl ?_
      refine j_get (nx := 27) hJ dX6_compareQuality_24 rfl fX6_19 hP.1.1 (by rfl) ?_
      refine j_p (nx := 28) hJ dX6_compareQuality_27 rfl rfl ?_
      refine j_iald (j := s) (nx := 29) hJ dX6_compareQuality_28 rfl (show h 101 = some (gia 6 (A 101)) from hP.a 101 (by unfold gia'; omega)) rfl (by omega) (by decide) ?_
      rw [hls.1]
      refine j_p (nx := 30) hJ dX6_compareQuality_29 rfl rfl ?_
      refine j_p (nx := 31) hJ dX6_compareQuality_30 rfl rfl ?_
      refine j_p (nx := 32) hJ dX6_compareQuality_31 rfl rfl ?_
      refine j_if_eq (nx := 35) (tgt := 39) hJ dX6_compareQuality_32 rfl (by decide) (fun c32 => ?_) (fun c32 => ?_)
      · have hle : (R (5 + 2 * r)).length = (R (5 + 2 * s)).length := by
          have := gsl2 (a := (R (5 + 2 * r)).length) (b := (R (5 + 2 * s)).length) (by omega) (by omega)
          rw [c32] at this
          have h0 : (0 : Int32).toInt = 0 := rfl
          omega
        refine j_p (nx := 40) hJ dX6_compareQuality_39 rfl rfl ?_
        refine j_get (nx := 43) hJ dX6_compareQuality_40 rfl fX6_15 hP.1.1 (by rfl) ?_
        refine j_c (nx := 45) hJ dX6_compareQuality_43 rfl gk_bipush_8 ?_
        refine j_p (nx := 46) hJ dX6_compareQuality_45 rfl rfl ?_
        refine j_p (nx := 47) hJ dX6_compareQuality_46 rfl rfl ?_
        rw [show (8 : Int32) = nI 8 from rfl, gmul]
        refine j_p (nx := 48) hJ dX6_compareQuality_47 rfl rfl ?_
        refine j_get (nx := 51) hJ dX6_compareQuality_48 rfl fX6_15 hP.1.1 (by rfl) ?_
        refine j_c (nx := 53) hJ dX6_compareQuality_51 rfl gk_bipush_8 ?_
        refine j_p (nx := 54) hJ dX6_compareQuality_53 rfl rfl ?_
        refine j_p (nx := 55) hJ dX6_compareQuality_54 rfl rfl ?_
        rw [show (8 : Int32) = nI 8 from rfl, gmul]
        refine j_p (nx := 56) hJ dX6_compareQuality_55 rfl rfl ?_
        refine j_get (nx := 59) hJ dX6_compareQuality_56 rfl fX6_19 hP.1.1 (by rfl) ?_
        refine j_p (nx := 60) hJ dX6_compareQuality_59 rfl rfl ?_
        refine j_iald (j := r) (nx := 61) hJ dX6_compareQuality_60 rfl (show h 101 = some (gia 6 (A 101)) from hP.a 101 (by unfold gia'; omega)) rfl (by omega) (by decide) ?_
        rw [hl.1]
        refine j_csR (nx := 64) hJ dX6_compareQuality_61 rfl (r6_better (d := d + 56) (show h 100 = some (gia 48 (A 100)) from hP.a 100 (by unfold gia'; omega)) hl.2.2 (by omega) (by omega) (show h 100 = some (gia 48 (A 100)) from hP.a 100 (by unfold gia'; omega)) hls.2.2 (by omega) (by omega) hle) mX6_163 rfl (gle8 rfl) ?_
        have hadv := gbet_adv hle (by omega) (hpr.sy hk3.2) (hps.sy hk3.2) hpr.2.2.2.1 hps.2.2.2.1
        refine j_p (nx := 65) hJ dX6_compareQuality_64 rfl rfl ?_
        refine j_p (nx := 66) hJ dX6_compareQuality_65 rfl rfl ?_
        refine j_if_le (nx := 69) (tgt := 73) hJ dX6_compareQuality_66 rfl (by decide) (fun c66 => ?_) (fun c66 => ?_)
        · refine j_p (nx := 74) hJ dX6_compareQuality_73 rfl rfl ?_
          refine j_if_ne (nx := 77) (tgt := 81) hJ dX6_compareQuality_74 rfl (by decide) (fun c74 => ?_) (fun c74 => ?_)
          · refine j_c (nx := 82) hJ dX6_compareQuality_81 rfl gk_iconst_0 ?_
            rw [Int32.le_iff_toInt_le, Int32.toInt_zero] at c66
            have ea : gadv (R (5 + 2 * r)) (R (5 + 2 * s)) = -1 := hadv.elim (fun q => absurd q.1 (by omega)) (fun q => q.elim (fun q => absurd q.1 c74) (fun q => q.2))
            exact j_iret hJ dX6_compareQuality_82 ⟨by rw [e, ea]; rfl, ⟨A, E, M, pv, tv, hP, hG⟩⟩
          · refine j_c (nx := 78) hJ dX6_compareQuality_77 rfl gk_iconst_1 ?_
            refine j_go (tgt := 82) hJ dX6_compareQuality_78 (by decide) ?_
            skip
            have ea : gadv (R (5 + 2 * r)) (R (5 + 2 * s)) = 0 := hadv.elim (fun q => absurd q.1 (by rw [c74]; decide)) (fun q => q.elim (fun q => q.2) (fun q => absurd q.1 (by rw [c74]; decide)))
            exact j_iret hJ dX6_compareQuality_82 ⟨by rw [e, ea]; rfl, ⟨A, E, M, pv, tv, hP, hG⟩⟩
        · refine j_c (nx := 70) hJ dX6_compareQuality_69 rfl gk_iconst_2 ?_
          refine j_go (tgt := 82) hJ dX6_compareQuality_70 (by decide) ?_
          rw [Int32.le_iff_toInt_le, Int32.toInt_zero] at c66
          have ea : gadv (R (5 + 2 * r)) (R (5 + 2 * s)) = 1 := hadv.elim (fun q => q.2) (fun q => q.elim (fun q => absurd (by rw [q.1]; decide) c66) (fun q => absurd q.1 (by omega)))
          exact j_iret hJ dX6_compareQuality_82 ⟨by rw [e, ea]; rfl, ⟨A, E, M, pv, tv, hP, hG⟩⟩
      · refine j_p (nx := 36) hJ dX6_compareQuality_35 rfl rfl ?_
        have hadv : gtri (nI (R (5 + 2 * r)).length - nI (R (5 + 2 * s)).length) (gadv (R (5 + 2 * r)) (R (5 + 2 * s))) := by
          have hne : ¬ (R (5 + 2 * r)).length = (R (5 + 2 * s)).length := fun q => c32 (by rw [q, Int32.sub_self])
          unfold gtri gadv
          rw [gsl2 (by omega) (by omega), if_neg hne]
          by_cases hq : (R (5 + 2 * s)).length < (R (5 + 2 * r)).length
          · rw [if_pos hq]; exact Or.inl ⟨by omega, rfl⟩
          · rw [if_neg hq]; exact Or.inr (Or.inr ⟨by omega, rfl⟩)
        refine j_go (tgt := 64) hJ dX6_compareQuality_36 (by decide) ?_
        refine j_p (nx := 65) hJ dX6_compareQuality_64 rfl rfl ?_
        refine j_p (nx := 66) hJ dX6_compareQuality_65 rfl rfl ?_
        refine j_if_le (nx := 69) (tgt := 73) hJ dX6_compareQuality_66 rfl (by decide) (fun c66 => ?_) (fun c66 => ?_)
        · refine j_p (nx := 74) hJ dX6_compareQuality_73 rfl rfl ?_
          refine j_if_ne (nx := 77) (tgt := 81) hJ dX6_compareQuality_74 rfl (by decide) (fun c74 => ?_) (fun c74 => ?_)
          · refine j_c (nx := 82) hJ dX6_compareQuality_81 rfl gk_iconst_0 ?_
            rw [Int32.le_iff_toInt_le, Int32.toInt_zero] at c66
            have ea : gadv (R (5 + 2 * r)) (R (5 + 2 * s)) = -1 := hadv.elim (fun q => absurd q.1 (by omega)) (fun q => q.elim (fun q => absurd q.1 c74) (fun q => q.2))
            exact j_iret hJ dX6_compareQuality_82 ⟨by rw [e, ea]; rfl, ⟨A, E, M, pv, tv, hP, hG⟩⟩
          · refine j_c (nx := 78) hJ dX6_compareQuality_77 rfl gk_iconst_1 ?_
            refine j_go (tgt := 82) hJ dX6_compareQuality_78 (by decide) ?_
            skip
            have ea : gadv (R (5 + 2 * r)) (R (5 + 2 * s)) = 0 := hadv.elim (fun q => absurd q.1 (by rw [c74]; decide)) (fun q => q.elim (fun q => q.2) (fun q => absurd q.1 (by rw [c74]; decide)))
            exact j_iret hJ dX6_compareQuality_82 ⟨by rw [e, ea]; rfl, ⟨A, E, M, pv, tv, hP, hG⟩⟩
        · refine j_c (nx := 70) hJ dX6_compareQuality_69 rfl gk_iconst_2 ?_
          refine j_go (tgt := 82) hJ dX6_compareQuality_70 (by decide) ?_
          rw [Int32.le_iff_toInt_le, Int32.toInt_zero] at c66
          have ea : gadv (R (5 + 2 * r)) (R (5 + 2 * s)) = 1 := hadv.elim (fun q => q.2) (fun q => q.elim (fun q => absurd (by rw [q.1]; decide) c66) (fun q => absurd q.1 (by omega)))
          exact j_iret hJ dX6_compareQuality_82 ⟨by rw [e, ea]; rfl, ⟨A, E, M, pv, tv, hP, hG⟩⟩
    · refine j_p (nx := 1) hJ dX6_compareQuality_0 rfl rfl ?_
      refine j_csR (nx := 4) hJ dX6_compareQuality_1 rfl (r6_isRegister (fl := false) (d := d + 57) _) mX6_139 rfl (gle8 rfl) ?_
      rw [show gbt _ 6 = true from hx]
      refine j_if_eq (nx := 7) (tgt := 14) hJ dX6_compareQuality_4 rfl (by decide) (fun c4 => absurd c4 (by decide)) (fun c4 => ?_)
      refine j_p (nx := 8) hJ dX6_compareQuality_7 rfl rfl ?_
      refine j_csR (nx := 11) hJ dX6_compareQuality_8 rfl (r6_isRegister (fl := false) (d := d + 57) _) mX6_139 rfl (gle8 rfl) ?_
      rw [show gbt _ 6 = false from Bool.eq_false_iff.mpr hy]
      refine j_if_ne (nx := 14) (tgt := 17) hJ dX6_compareQuality_11 rfl (by decide) (fun c11 => absurd c11 (by decide)) (fun c11 => ?_)
      refine j_c (nx := 16) hJ dX6_compareQuality_14 rfl gk_bipush_m2 ?_
      have e : s_compareQuality R (nI r) y = -2 := if_neg (fun q => hy q.2)
      exact j_iret hJ dX6_compareQuality_16 ⟨by rw [e], ⟨A, E, M, pv, tv, hP, hG⟩⟩
  · refine j_p (nx := 1) hJ dX6_compareQuality_0 rfl rfl ?_
    refine j_csR (nx := 4) hJ dX6_compareQuality_1 rfl (r6_isRegister (fl := false) (d := d + 57) _) mX6_139 rfl (gle8 rfl) ?_
    rw [show gbt _ 6 = false from Bool.eq_false_iff.mpr hx]
    refine j_if_eq (nx := 7) (tgt := 14) hJ dX6_compareQuality_4 rfl (by decide) (fun c4 => ?_) (fun c4 => absurd c4 (by decide))
    refine j_c (nx := 16) hJ dX6_compareQuality_14 rfl gk_bipush_m2 ?_
    have e : s_compareQuality R x y = -2 := if_neg (fun q => hx q.1)
    exact j_iret hJ dX6_compareQuality_16 ⟨by rw [e], ⟨A, E, M, pv, tv, hP, hG⟩⟩
theorem gSt.set {f : Nat → Int32} {o i : Nat} {l : List Int32} (h : gSt f o l) (x : Int32) : gSt (upd f (o + i) x) o (l.set i x) := fun j v hv => by
  unfold upd
  by_cases e : j = i
  · subst e
    rw [if_pos rfl]
    have hj := (List.getElem?_eq_some_iff.mp hv).1
    rw [List.length_set] at hj
    rw [List.getElem?_set_self hj] at hv
    exact Option.some.inj hv
  · rw [if_neg (by omega)]
    rw [List.getElem?_set_ne (by omega)] at hv
    exact h j v hv
set_option maxHeartbeats 4000000 in
theorem r6_exchange {d : Nat} {h0 h : GH} {A : Nat → Nat → Int32} {E : Nat → Nat → Int64} {M : Nat → Int32} {pv tv : Value} (hP : gP h0 h A E M pv tv) {r : Nat} (hr : r < 6) {l : List Int32} (hl : gSl (A 100) (A 101) r l) (x z : Int32) (hsy : ∀ c ∈ l.map (fun y => if y = x then z else y), gsy c) : gN false (d + 4) yX6_exchange [.ref 99, .int (nI r), .int x, .int z] h (fun o h' => o = some (.int (nI (gvc (gcan (l.map (fun y => if y = x then z else y)))))) ∧ ∃ A1, gP h0 h' A1 E M pv tv ∧ gSl (A1 100) (A1 101) r (gcan (l.map (fun y => if y = x then z else y))) ∧ (∀ j, (j < 8 * r ∨ 8 * r + 8 ≤ j) → A1 100 j = A 100 j) ∧ ∀ a, a ≠ 100 → a ≠ 108 → A1 a = A a) := by
  have hl8 := hl.2.1
  refine gN.of MX6_exchange (Nat.le_of_ble_eq_true rfl) (fun J n hJ => ?_)
  show J 0 [some (.ref 99), some (.int (nI r)), some (.int x), some (.int z), none] [] h (n, 0, 0, false)
  have loop : ∀ i, i ≤ l.length → ∀ (h1 : GH) (f : Nat → Int32), gP h0 h1 (gU A 100 f) E M pv tv → gSt f (8 * r) (gmapTo (fun y => if y = x then z else y) l i) → (∀ j, (j < 8 * r ∨ 8 * r + 8 ≤ j) → f j = A 100 j) → J 6 [some (.ref 99), some (.int (nI r)), some (.int x), some (.int z), some (.int (nI (8 * r + i)))] [] h1 (n, 0, 0, false) := by
    refine gloop _ _ (fun i hi ih h1 f hP1 hf hoth => ?_)
    refine j_p (nx := 8) hJ dX6_exchange_6 rfl rfl ?_
    refine j_c (nx := 10) hJ dX6_exchange_8 rfl gk_bipush_8 ?_
    refine j_p (nx := 11) hJ dX6_exchange_10 rfl rfl ?_
    refine j_p (nx := 12) hJ dX6_exchange_11 rfl rfl ?_
    rw [show (8 : Int32) = nI 8 from rfl, gmul]
    refine j_p (nx := 13) hJ dX6_exchange_12 rfl rfl ?_
    refine j_get (nx := 16) hJ dX6_exchange_13 rfl fX6_19 hP1.1.1 (by rfl) ?_
    refine j_p (nx := 17) hJ dX6_exchange_16 rfl rfl ?_
    refine j_iald (j := r) (nx := 18) hJ dX6_exchange_17 rfl (show h1 101 = some (gia 6 ((gU A 100 f) 101)) from hP1.a 101 (by unfold gia'; omega)) rfl (by omega) (by decide) ?_
    rw [show (gU A 100 f) 101 r = nI l.length from hl.1]
    refine j_p (nx := 19) hJ dX6_exchange_18 rfl rfl ?_
    rw [gadd]
    refine j_ic_ge (nx := 22) (tgt := 57) hJ dX6_exchange_19 rfl (by decide) (fun c19 => ?_) (fun c19 => ?_)
    · rw [gnle (by omega) (by omega)] at c19
      have e0 : i = l.length := by omega
      subst e0
      rw [gmapTo_all] at hf
      have hsl : gSl (gU A 100 f 100) (gU A 100 f 101) r (l.map (fun y => if y = x then z else y)) := ⟨by rw [List.length_map]; exact hl.1, by rw [List.length_map]; exact hl8, hf⟩
      refine j_p (nx := 58) hJ dX6_exchange_57 rfl rfl ?_
      refine j_p (nx := 59) hJ dX6_exchange_58 rfl rfl ?_
      refine j_cv (nx := 62) hJ dX6_exchange_59 rfl (r6_normalize (d := d + 2) hP1 hr hsl hsy) mX6_131 hP1.1.1 kX6_normalize rfl (gle8 rfl) (fun o h3 hp => ?_)
      obtain ⟨rfl, A3, hP3, hs3, ho3, ha3⟩ := hp
      rw [gno_can hsy] at hs3
      refine j_p (nx := 63) hJ dX6_exchange_62 rfl rfl ?_
      refine j_p (nx := 64) hJ dX6_exchange_63 rfl rfl ?_
      refine j_cvR (nx := 67) hJ dX6_exchange_64 rfl (r6_variables (d := d) hP3 hr hs3) mX6_154 hP3.1.1 kX6_variables rfl (gle8 rfl) ?_
      exact j_iret hJ dX6_exchange_67 ⟨rfl, A3, hP3, hs3, fun j hj => (ho3 j hj).trans (hoth j hj), fun a p1 p2 => (ha3 a p1 p2).trans (gU_n _ _ p1)⟩
    · rw [gnle (by omega) (by omega)] at c19
      have hil : i < l.length := by omega
      refine j_p (nx := 23) hJ dX6_exchange_22 rfl rfl ?_
      refine j_get (nx := 26) hJ dX6_exchange_23 rfl fX6_15 hP1.1.1 (by rfl) ?_
      refine j_p (nx := 28) hJ dX6_exchange_26 rfl rfl ?_
      refine j_p (nx := 29) hJ dX6_exchange_28 rfl rfl ?_
      refine j_get (nx := 32) hJ dX6_exchange_29 rfl fX6_15 hP1.1.1 (by rfl) ?_
      refine j_p (nx := 34) hJ dX6_exchange_32 rfl rfl ?_
      refine j_iald (j := 8 * r + i) (nx := 35) hJ dX6_exchange_34 rfl (show h1 100 = some (gia 48 ((gU A 100 f) 100)) from hP1.a 100 (by unfold gia'; omega)) rfl (by omega) (by decide) ?_
      rw [show (gU A 100 f) 100 (8 * r + i) = l.getD i (-1) from (hf.get (by rw [gmapTo_len]; exact hil)).trans (gmapTo_get (fun y => if y = x then z else y) hil)]
      refine j_p (nx := 36) hJ dX6_exchange_35 rfl rfl ?_
      refine j_ic_ne (nx := 39) (tgt := 43) hJ dX6_exchange_36 rfl (by decide) (fun c36 => ?_) (fun c36 => ?_)
      · refine j_p (nx := 44) hJ dX6_exchange_43 rfl rfl ?_
        refine j_get (nx := 47) hJ dX6_exchange_44 rfl fX6_15 hP1.1.1 (by rfl) ?_
        refine j_p (nx := 49) hJ dX6_exchange_47 rfl rfl ?_
        refine j_iald (j := 8 * r + i) (nx := 50) hJ dX6_exchange_49 rfl (show h1 100 = some (gia 48 ((gU A 100 f) 100)) from hP1.a 100 (by unfold gia'; omega)) rfl (by omega) (by decide) ?_
        rw [show (gU A 100 f) 100 (8 * r + i) = l.getD i (-1) from (hf.get (by rw [gmapTo_len]; exact hil)).trans (gmapTo_get (fun y => if y = x then z else y) hil)]
        have hv9 : (if l.getD i (-1) = x then z else l.getD i (-1)) = (l.getD i (-1)) := if_neg c36
        refine j_iast (j := 8 * r + i) (nx := 51) hJ dX6_exchange_50 rfl (show h1 100 = some (gia 48 f) from hP1.a 100 (by unfold gia'; omega)) rfl (by omega) (by decide) ?_
        have hP2 : gP h0 (gup h1 100 (gia 48 (upd f (8 * r + i) (l.getD i (-1))))) (gU A 100 (upd f (8 * r + i) (l.getD i (-1)))) E M pv tv := (hP1.arr (a := 100) (by unfold gia'; omega) (upd f (8 * r + i) (l.getD i (-1)))).uu
        refine j_inc (nx := 54) hJ dX6_exchange_51 rfl rfl (gi1 _) rfl ?_
        refine j_go (tgt := 6) hJ dX6_exchange_54 (by decide) ?_
        refine ih hil _ _ hP2 ?_ (fun j hj => ?_)
        · have hm9 := gmapTo_set (fun y => if y = x then z else y) hil
          rw [hv9] at hm9
          rw [← hm9]; exact hf.set _
        · simp only [upd]; rw [if_neg (by omega)]; exact hoth j hj
      · refine j_p (nx := 40) hJ dX6_exchange_39 rfl rfl ?_
        refine j_go (tgt := 50) hJ dX6_exchange_40 (by decide) ?_
        have hv9 : (if l.getD i (-1) = x then z else l.getD i (-1)) = z := if_pos c36
        refine j_iast (j := 8 * r + i) (nx := 51) hJ dX6_exchange_50 rfl (show h1 100 = some (gia 48 f) from hP1.a 100 (by unfold gia'; omega)) rfl (by omega) (by decide) ?_
        have hP2 : gP h0 (gup h1 100 (gia 48 (upd f (8 * r + i) z))) (gU A 100 (upd f (8 * r + i) z)) E M pv tv := (hP1.arr (a := 100) (by unfold gia'; omega) (upd f (8 * r + i) z)).uu
        refine j_inc (nx := 54) hJ dX6_exchange_51 rfl rfl (gi1 _) rfl ?_
        refine j_go (tgt := 6) hJ dX6_exchange_54 (by decide) ?_
        refine ih hil _ _ hP2 ?_ (fun j hj => ?_)
        · have hm9 := gmapTo_set (fun y => if y = x then z else y) hil
          rw [hv9] at hm9
          rw [← hm9]; exact hf.set _
        · simp only [upd]; rw [if_neg (by omega)]; exact hoth j hj
  refine j_c (nx := 2) hJ dX6_exchange_0 rfl gk_bipush_8 ?_
  refine j_p (nx := 3) hJ dX6_exchange_2 rfl rfl ?_
  refine j_p (nx := 4) hJ dX6_exchange_3 rfl rfl ?_
  rw [show (8 : Int32) = nI 8 from rfl, gmul]
  refine j_p (nx := 6) hJ dX6_exchange_4 rfl rfl ?_
  exact loop 0 (Nat.zero_le _) h (A 100) (hP.rw (gU_self A 100) (fun _ => rfl) (fun _ => rfl)) (by rw [gmapTo_0]; exact hl.2.2) (fun _ _ => rfl)
theorem gpfv_eq (l : List Int32) (v c : Int32) : gpfv l v c = gcan (l.map (fun y => if y = 10 + v then c else y)) := by
  unfold gpfv
  congr 1
  refine List.map_congr_left (fun y _ => ?_)
  by_cases e : y = 10 + v
  · rw [if_pos e, if_pos ⟨by rw [e]; exact Int32.le_refl _, by rw [e]; exact Int32.le_refl _⟩]
  · rw [if_neg e, if_neg (fun q => e (Int32.le_antisymm q.2 q.1))]
theorem gmap_sy {l : List Int32} {x z : Int32} (h : ∀ c ∈ l, gsy c) (hz : gsy z) : ∀ c ∈ l.map (fun y => if y = x then z else y), gsy c := fun c hc => by
  obtain ⟨y, hy, rfl⟩ := List.mem_map.mp hc
  split
  · exact hz
  · exact h y hy
theorem gcan_vc {l : List Int32} (hs : ∀ c ∈ l, gsy c) : nI (gvc (gcan l)) = gvar (gcan l) := by
  obtain ⟨h1, h2⟩ := gcan_cn hs
  rw [gvc_nv h1 h2, gvar_nv h1]
set_option maxHeartbeats 4000000 in
theorem r6_replace {d : Nat} {h0 h : GH} {R : Nat → List Int32} {N : Nat → Int32} (hS : gRS h0 h R N) (hI : gInv R N) (x v c : Int32) : gN false (d + 60) yX6_replace [.ref 99, .int x, .int v, .int c] h (fun o h' => o = some (.int (s_replace R N x v c).1) ∧ gRS h0 h' (s_replace R N x v c).2.1 (s_replace R N x v c).2.2) := by
  obtain ⟨A, E, M, pv, tv, hP, hG⟩ := hS
  have g0 := hG.1.1
  have g9 := hG.1.2.2.1
  obtain ⟨⟨k, ss, hk1, hk3, hss1, hss6, hpt, him, hsm⟩, hI2, hI3, hI4, hI5⟩ := hI
  refine gN.of MX6_replace (Nat.le_of_ble_eq_true rfl) (fun J n hJ => ?_)
  show J 0 [some (.ref 99), some (.int x), some (.int v), some (.int c)] [] h (n, 0, 0, false)
  by_cases hx : gbt x 6 = true
  · obtain ⟨r, rfl, hr⟩ := gbt_spec hx
    have egr := gr_nI (r := r) (by omega)
    have hl := hG.2.1 r hr
    have hl8 := hl.2.1
    have hpr := hpt r hr
    refine j_p (nx := 1) hJ dX6_replace_0 rfl rfl ?_
    refine j_csR (nx := 4) hJ dX6_replace_1 rfl (r6_isRegister (fl := false) (d := d + 57) _) mX6_139 rfl (gle8 rfl) ?_
    rw [show gbt _ 6 = true from hx]
    refine j_if_ne (nx := 7) (tgt := 10) hJ dX6_replace_4 rfl (by decide) (fun c4 => ?_) (fun c4 => absurd c4 (by decide))
    refine j_p (nx := 11) hJ dX6_replace_10 rfl rfl ?_
    refine j_p (nx := 12) hJ dX6_replace_11 rfl rfl ?_
    refine j_p (nx := 13) hJ dX6_replace_12 rfl rfl ?_
    refine j_cvR (nx := 16) hJ dX6_replace_13 rfl (r6_occurs (d := d + 57) hP hr hl v) mX6_157 hP.1.1 kX6_occurs rfl (gle8 rfl) ?_
    refine j_if_ne (nx := 19) (tgt := 22) hJ dX6_replace_16 rfl (by decide) (fun c16 => ?_) (fun c16 => ?_)
    · rw [goc_0 (by omega), Bool.not_eq_false] at c16
      have hlet : ((0 : Int32) ≤ c ∧ c ≤ N 1 - 1) ↔ (0 ≤ c.toInt ∧ c < N 1) := by
        rw [hk1, Int32.le_iff_toInt_le, Int32.le_iff_toInt_le, Int32.lt_iff_toInt_lt, Int32.toInt_zero, show (nI k - 1 : Int32).toInt = (k : Int) - 1 from gsl2 (b := 1) (by omega) (by omega), nI_toInt (by omega)]
        omega
      refine j_p (nx := 23) hJ dX6_replace_22 rfl rfl ?_
      refine j_c (nx := 24) hJ dX6_replace_23 rfl gk_iconst_0 ?_
      refine j_p (nx := 25) hJ dX6_replace_24 rfl rfl ?_
      refine j_get (nx := 28) hJ dX6_replace_25 rfl fX6_9 hP.1.1 (by rfl) ?_
      rw [g0]
      refine j_c (nx := 29) hJ dX6_replace_28 rfl gk_iconst_1 ?_
      refine j_p (nx := 30) hJ dX6_replace_29 rfl rfl ?_
      refine j_csR (nx := 33) hJ dX6_replace_30 rfl (r6_in (fl := false) (d := d + 58) c 0 (N 1 - 1)) mX6_101 rfl (gle8 rfl) ?_
      refine j_if_eq (nx := 36) (tgt := 49) hJ dX6_replace_33 rfl (by decide) (fun c33 => ?_) (fun c33 => ?_)
      · refine j_c (nx := 50) hJ dX6_replace_49 rfl gk_iconst_m1 ?_
        rw [gb_f] at c33
        have e : s_replace R N (nI r) v c = (-1, R, N) := by unfold s_replace; rw [if_pos hx, egr, if_pos c16, if_neg (fun q => of_decide_eq_false c33 (hlet.mpr q))]
        exact j_iret hJ dX6_replace_50 ⟨by rw [e], by rw [e]; exact ⟨A, E, M, pv, tv, hP, hG⟩⟩
      · rw [gb_t] at c33
        replace c33 := of_decide_eq_true c33
        have hcz := hlet.mp c33
        have hsyc : gsy c := by have q := hcz.2; rw [hk1, Int32.lt_iff_toInt_lt, nI_toInt (by omega)] at q; exact ⟨hcz.1, by omega⟩
        refine j_p (nx := 37) hJ dX6_replace_36 rfl rfl ?_
        refine j_p (nx := 38) hJ dX6_replace_37 rfl rfl ?_
        refine j_c (nx := 40) hJ dX6_replace_38 rfl gk_bipush_10 ?_
        refine j_p (nx := 41) hJ dX6_replace_40 rfl rfl ?_
        refine j_p (nx := 42) hJ dX6_replace_41 rfl rfl ?_
        refine j_p (nx := 43) hJ dX6_replace_42 rfl rfl ?_
        refine j_cv (nx := 46) hJ dX6_replace_43 rfl (r6_exchange (d := d + 55) hP hr hl (10 + v) c (gmap_sy (hpr.sy hk3.2) hsyc)) mX6_167 hP.1.1 kX6_exchange rfl (gle8 rfl) (fun o h1 hp => ?_)
        obtain ⟨rfl, A1, hP1, k1, k2, k3⟩ := hp
        rw [gcan_vc (gmap_sy (hpr.sy hk3.2) hsyc)]
        rw [← gpfv_eq] at k1 ⊢
        have hG1 := hG.pat hr k1 k2 (fun i _ => by rw [k3 101 (by omega) (by omega)]) (fun a p1 p2 p3 => k3 a p1 (by omega))
        refine j_go (tgt := 50) hJ dX6_replace_46 (by decide) ?_
        have e : s_replace R N (nI r) v c = (gvar (gpfv (R (5 + 2 * r)) v c), gU R (5 + 2 * r) (gpfv (R (5 + 2 * r)) v c), N) := by unfold s_replace; rw [if_pos hx, egr, if_pos c16, if_pos (hlet.mp c33)]
        exact j_iret hJ dX6_replace_50 ⟨by rw [e], by rw [e]; exact ⟨_, _, _, _, _, hP1, hG1⟩⟩
    · refine j_c (nx := 21) hJ dX6_replace_19 rfl gk_bipush_m3 ?_
      rw [goc_0 (by omega)] at c16
      have e : s_replace R N (nI r) v c = (-3, R, N) := by unfold s_replace; rw [if_pos hx, egr, if_neg (by rw [c16]; decide)]
      exact j_iret hJ dX6_replace_21 ⟨by rw [e], by rw [e]; exact ⟨A, E, M, pv, tv, hP, hG⟩⟩
  · refine j_p (nx := 1) hJ dX6_replace_0 rfl rfl ?_
    refine j_csR (nx := 4) hJ dX6_replace_1 rfl (r6_isRegister (fl := false) (d := d + 57) _) mX6_139 rfl (gle8 rfl) ?_
    rw [show gbt _ 6 = false from Bool.eq_false_iff.mpr hx]
    refine j_if_ne (nx := 7) (tgt := 10) hJ dX6_replace_4 rfl (by decide) (fun c4 => absurd c4 (by decide)) (fun c4 => ?_)
    refine j_c (nx := 9) hJ dX6_replace_7 rfl gk_bipush_m2 ?_
    have e : s_replace R N x v c = (-2, R, N) := if_neg hx
    exact j_iret hJ dX6_replace_9 ⟨by rw [e], by rw [e]; exact ⟨A, E, M, pv, tv, hP, hG⟩⟩
set_option maxHeartbeats 4000000 in
theorem r6_merge {d : Nat} {h0 h : GH} {R : Nat → List Int32} {N : Nat → Int32} (hS : gRS h0 h R N) (hI : gInv R N) (x v w : Int32) : gN false (d + 60) yX6_merge [.ref 99, .int x, .int v, .int w] h (fun o h' => o = some (.int (s_merge R N x v w).1) ∧ gRS h0 h' (s_merge R N x v w).2.1 (s_merge R N x v w).2.2) := by
  obtain ⟨A, E, M, pv, tv, hP, hG⟩ := hS
  have g0 := hG.1.1
  have g9 := hG.1.2.2.1
  obtain ⟨⟨k, ss, hk1, hk3, hss1, hss6, hpt, him, hsm⟩, hI2, hI3, hI4, hI5⟩ := hI
  refine gN.of MX6_merge (Nat.le_of_ble_eq_true rfl) (fun J n hJ => ?_)
  show J 0 [some (.ref 99), some (.int x), some (.int v), some (.int w)] [] h (n, 0, 0, false)
  by_cases hx : gbt x 6 = true
  · obtain ⟨r, rfl, hr⟩ := gbt_spec hx
    have egr := gr_nI (r := r) (by omega)
    have hl := hG.2.1 r hr
    have hl8 := hl.2.1
    have hpr := hpt r hr
    refine j_p (nx := 1) hJ dX6_merge_0 rfl rfl ?_
    refine j_csR (nx := 4) hJ dX6_merge_1 rfl (r6_isRegister (fl := false) (d := d + 57) _) mX6_139 rfl (gle8 rfl) ?_
    rw [show gbt _ 6 = true from hx]
    refine j_if_ne (nx := 7) (tgt := 10) hJ dX6_merge_4 rfl (by decide) (fun c4 => ?_) (fun c4 => absurd c4 (by decide))
    refine j_p (nx := 11) hJ dX6_merge_10 rfl rfl ?_
    refine j_p (nx := 12) hJ dX6_merge_11 rfl rfl ?_
    refine j_p (nx := 13) hJ dX6_merge_12 rfl rfl ?_
    refine j_cvR (nx := 16) hJ dX6_merge_13 rfl (r6_occurs (d := d + 57) hP hr hl v) mX6_157 hP.1.1 kX6_occurs rfl (gle8 rfl) ?_
    refine j_if_eq (nx := 19) (tgt := 28) hJ dX6_merge_16 rfl (by decide) (fun c16 => ?_) (fun c16 => ?_)
    · refine j_c (nx := 30) hJ dX6_merge_28 rfl gk_bipush_m3 ?_
      rw [goc_0 (by omega)] at c16
      first | rw [goc_0 (by omega)] at c25 | skip
      have e : s_merge R N (nI r) v w = (-3, R, N) := by unfold s_merge; rw [if_pos hx, egr, if_neg (fun q => by first | (rw [c16] at q; exact absurd q.1 (by decide)) | (rw [c25] at q; exact absurd q.2 (by decide)))]
      exact j_iret hJ dX6_merge_30 ⟨by rw [e], by rw [e]; exact ⟨A, E, M, pv, tv, hP, hG⟩⟩
    · refine j_p (nx := 20) hJ dX6_merge_19 rfl rfl ?_
      refine j_p (nx := 21) hJ dX6_merge_20 rfl rfl ?_
      refine j_p (nx := 22) hJ dX6_merge_21 rfl rfl ?_
      refine j_cvR (nx := 25) hJ dX6_merge_22 rfl (r6_occurs (d := d + 57) hP hr hl w) mX6_157 hP.1.1 kX6_occurs rfl (gle8 rfl) ?_
      refine j_if_ne (nx := 28) (tgt := 31) hJ dX6_merge_25 rfl (by decide) (fun c25 => ?_) (fun c25 => ?_)
      · rw [goc_0 (by omega), Bool.not_eq_false] at c16 c25
        refine j_p (nx := 32) hJ dX6_merge_31 rfl rfl ?_
        refine j_p (nx := 33) hJ dX6_merge_32 rfl rfl ?_
        refine j_ic_ne (nx := 36) (tgt := 40) hJ dX6_merge_33 rfl (by decide) (fun c33 => ?_) (fun c33 => ?_)
        · have hsyc : gsy (10 + w) := by
            have q : gbt w 4 = true := by unfold ghv at c25; exact (Bool.and_eq_true_iff.mp c25).1
            obtain ⟨wn, rfl, hwn⟩ := gbt_spec q
            rw [show (10 : Int32) = nI 10 from rfl, gadd]
            exact gsy_nI (by omega)
          refine j_p (nx := 41) hJ dX6_merge_40 rfl rfl ?_
          refine j_p (nx := 42) hJ dX6_merge_41 rfl rfl ?_
          refine j_c (nx := 44) hJ dX6_merge_42 rfl gk_bipush_10 ?_
          refine j_p (nx := 45) hJ dX6_merge_44 rfl rfl ?_
          refine j_p (nx := 46) hJ dX6_merge_45 rfl rfl ?_
          refine j_c (nx := 48) hJ dX6_merge_46 rfl gk_bipush_10 ?_
          refine j_p (nx := 49) hJ dX6_merge_48 rfl rfl ?_
          refine j_p (nx := 50) hJ dX6_merge_49 rfl rfl ?_
          refine j_cv (nx := 53) hJ dX6_merge_50 rfl (r6_exchange (d := d + 55) hP hr hl (10 + v) (10 + w) (gmap_sy (hpr.sy hk3.2) hsyc)) mX6_167 hP.1.1 kX6_exchange rfl (gle8 rfl) (fun o h1 hp => ?_)
          obtain ⟨rfl, A1, hP1, k1, k2, k3⟩ := hp
          rw [gcan_vc (gmap_sy (hpr.sy hk3.2) hsyc)]
          rw [← gpfv_eq] at k1 ⊢
          have hG1 := hG.pat hr k1 k2 (fun i _ => by rw [k3 101 (by omega) (by omega)]) (fun a p1 p2 p3 => k3 a p1 (by omega))
          have e : s_merge R N (nI r) v w = (gvar (gpfv (R (5 + 2 * r)) v (10 + w)), gU R (5 + 2 * r) (gpfv (R (5 + 2 * r)) v (10 + w)), N) := by unfold s_merge; rw [if_pos hx, egr, if_pos ⟨c16, c25⟩, if_neg c33]
          exact j_iret hJ dX6_merge_53 ⟨by rw [e], by rw [e]; exact ⟨_, _, _, _, _, hP1, hG1⟩⟩
        · refine j_c (nx := 37) hJ dX6_merge_36 rfl gk_iconst_m1 ?_
          refine j_go (tgt := 53) hJ dX6_merge_37 (by decide) ?_
          have e : s_merge R N (nI r) v w = (-1, R, N) := by unfold s_merge; rw [if_pos hx, egr, if_pos ⟨c16, c25⟩, if_pos c33]
          exact j_iret hJ dX6_merge_53 ⟨by rw [e], by rw [e]; exact ⟨A, E, M, pv, tv, hP, hG⟩⟩
      · refine j_c (nx := 30) hJ dX6_merge_28 rfl gk_bipush_m3 ?_
        rw [goc_0 (by omega)] at c16
        first | rw [goc_0 (by omega)] at c25 | skip
        have e : s_merge R N (nI r) v w = (-3, R, N) := by unfold s_merge; rw [if_pos hx, egr, if_neg (fun q => by first | (rw [c16] at q; exact absurd q.1 (by decide)) | (rw [c25] at q; exact absurd q.2 (by decide)))]
        exact j_iret hJ dX6_merge_30 ⟨by rw [e], by rw [e]; exact ⟨A, E, M, pv, tv, hP, hG⟩⟩
  · refine j_p (nx := 1) hJ dX6_merge_0 rfl rfl ?_
    refine j_csR (nx := 4) hJ dX6_merge_1 rfl (r6_isRegister (fl := false) (d := d + 57) _) mX6_139 rfl (gle8 rfl) ?_
    rw [show gbt _ 6 = false from Bool.eq_false_iff.mpr hx]
    refine j_if_ne (nx := 7) (tgt := 10) hJ dX6_merge_4 rfl (by decide) (fun c4 => absurd c4 (by decide)) (fun c4 => ?_)
    refine j_c (nx := 9) hJ dX6_merge_7 rfl gk_bipush_m2 ?_
    have e : s_merge R N x v w = (-2, R, N) := if_neg hx
    exact j_iret hJ dX6_merge_9 ⟨by rw [e], by rw [e]; exact ⟨A, E, M, pv, tv, hP, hG⟩⟩
