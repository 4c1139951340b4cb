def ge (x : Int32) : Nat := 88 + 3 * x.toInt.toNat
theorem ge_nI {r : Nat} (h : r < 2 ^ 31) : ge (nI r) = 88 + 3 * r := by unfold ge; rw [nI_toInt h]; rfl
def gt (x : Int32) : Nat := 87 + 3 * x.toInt.toNat
theorem gt_nI {r : Nat} (h : r < 2 ^ 31) : gt (nI r) = 87 + 3 * r := by unfold gt; rw [nI_toInt h]; rfl
def s_allocate (R : Nat → List Int32) (N : Nat → Int32) (x t z : Int32) : Int32 × (Nat → List Int32) × (Nat → Int32) := if gbt x 4 = true ∧ (0 ≤ t.toInt ∧ t.toInt ≤ 3) ∧ z.toInt ≤ 40 then (if z.toInt < 0 then (-14, R, N) else (z, gU R (ge x) (List.replicate z.toInt.toNat 0), gU N (gt x) t)) else (-1, R, N)
def s_release (R : Nat → List Int32) (N : Nat → Int32) (x : Int32) : Int32 × (Nat → List Int32) × (Nat → Int32) := if gbt x 4 = true then (if N (gt x) = -1 then 0 else 1, R, gU N (gt x) (-1)) else (-1, R, N)
def gnar (v : Int64) (t : Int32) : Int32 := if t = 0 then v.toInt32.toInt8.toInt32 else if t = 1 then (v.toInt32.toUInt32 % 65536).toInt32 else if t = 2 then v.toInt32 else if v = 0 then 0 else 1
def s_putElement (R : Nat → List Int32) (N : Nat → Int32) (x i : Int32) (v : Int64) : Int32 × (Nat → List Int32) × (Nat → Int32) := if gbt x 4 = true then (if N (gt x) = -1 then (-11, R, N) else if gix (R (ge x)) i = true then (1, gU R (ge x) ((R (ge x)).set i.toInt.toNat (gnar v (N (gt x)))), N) else (-13, R, N)) else (-1, R, N)
def s_element (R : Nat → List Int32) (N : Nat → Int32) (x i : Int32) : Int64 := if gbt x 4 = true ∧ N (gt x) ≠ -1 then (if gix (R (ge x)) i = true then (gat (R (ge x)) i).toInt64 else -9223372036854775808) else -9223372036854775808
def gcpl (l m : List Int32) (s t c : Nat) : List Int32 := (List.range m.length).map (fun j => if t ≤ j ∧ j < t + c then l.getD (s + (j - t)) (-1) else m.getD j (-1))
def s_copyElements (R : Nat → List Int32) (N : Nat → Int32) (x i y j c : Int32) : Int32 × (Nat → List Int32) × (Nat → Int32) := if gbt x 4 = true ∧ gbt y 4 = true then (if N (gt x) = -1 ∨ N (gt y) = -1 then (-11, R, N) else if N (gt x) = N (gt y) then (if gRng (R (ge x)).length i c = true ∧ gRng (R (ge y)).length j c = true then (c, gU R (ge y) (gcpl (R (ge x)) (R (ge y)) i.toInt.toNat j.toInt.toNat c.toInt.toNat), N) else (-13, R, N)) else (-12, R, N)) else (-1, R, N)
def s_loadPattern (R : Nat → List Int32) (N : Nat → Int32) (x y : Int32) : Int32 × (Nat → List Int32) × (Nat → Int32) := if gbt x 6 = true then (if gbt y 4 = true then (if N (gt y) = -1 then (-11, R, N) else if N (gt y) = 1 then (match gpt (N 1) (R (ge y)) with
  | some l => (nI l.length, gU R (gr x) l, N)
  | none => (-5, R, N)) else (-12, R, N)) else (-1, R, N)) else (-2, R, N)
def s_snapshot (R : Nat → List Int32) (N : Nat → Int32) : Int32 × (Nat → List Int32) × (Nat → Int32) := (N 2, gUb R 37 (fun i => R (5 + 2 * i)) (fun i => R (17 + 2 * i)) (fun i => R (25 + 2 * i)), gU (gU (gU N 37 (N 1)) 38 (N 2)) 0 1)
def s_restore (R : Nat → List Int32) (N : Nat → Int32) : Int32 × (Nat → List Int32) × (Nat → Int32) := if N 0 = 0 then (-6, R, N) else (N 38, gUb R 1 (fun i => R (41 + 2 * i)) (fun i => R (53 + 2 * i)) (fun i => R (61 + 2 * i)), gU (gU N 1 (N 37)) 2 (N 38))
set_option maxHeartbeats 4000000 in
theorem r_allocate {fl : Bool} {d : Nat} {h0 h : GH} {R : Nat → List Int32} {N : Nat → Int32} (hQ : gQ h0 h R N) (x t z : Int32) : gN fl (d + 60) yX5_allocate [.ref 0, .int x, .int t, .int z] h (fun o h' => o = some (.int (s_allocate R N x t z).1) ∧ gC h0 h' (s_allocate R N x t z).2.1 (s_allocate R N x t z).2.2) := by
  have q0 := hQ.1.1
  have q1 := hQ.1.2.1.1
  have q2 := hQ.1.2.1.2.1
  have q3 := hQ.1.2.1.2.2.1
  have q4 := hQ.1.2.1.2.2.2
  have q75 := hQ.1.2.2.2.1
  have q80 := hQ.1.2.2.2.2.2.1.1
  obtain ⟨_, _, _, _, _, _, q76x⟩ := id hQ.1.2.2.2.2.2.2.1
  have q76 := q76x.1
  refine gN.of MX5_allocate (Nat.le_of_ble_eq_true rfl) (fun J n hJ => ?_)
  show J 0 [some (.ref 0), some (.int x), some (.int t), some (.int z)] [] h (n, 0, 0, fl)
  by_cases hm : gbt x 4 = true ∧ (0 ≤ t.toInt ∧ t.toInt ≤ 3) ∧ z.toInt ≤ 40
  · have hx := hm.1
    obtain ⟨r, rfl, hr⟩ := gbt_spec hx
    have ege := ge_nI (r := r) (by omega)
    have egt := gt_nI (r := r) (by omega)
    by_cases hz : z.toInt < 0
    · refine j_p (nx := 1) hJ dX5_allocate_0 rfl rfl ?_
      refine j_csR (nx := 4) hJ dX5_allocate_1 rfl (r_isSlot (fl := fl) (d := d + 58) _) mX5_273 rfl (gle8 rfl) ?_
      rw [show gbt _ 4 = true from hx]
      refine j_if_eq (nx := 7) (tgt := 22) hJ dX5_allocate_4 rfl (by decide) (fun c4 => absurd c4 (by decide)) (fun c4 => ?_)
      refine j_p (nx := 8) hJ dX5_allocate_7 rfl rfl ?_
      refine j_if_lt (nx := 11) (tgt := 22) hJ dX5_allocate_8 rfl (by decide) (fun c8 => absurd c8 (by rw [gcz0]; omega)) (fun c8 => ?_)
      refine j_p (nx := 12) hJ dX5_allocate_11 rfl rfl ?_
      refine j_c (nx := 13) hJ dX5_allocate_12 rfl gk_iconst_3 ?_
      refine j_ic_gt (nx := 16) (tgt := 22) hJ dX5_allocate_13 rfl (by decide) (fun c13 => absurd c13 (by rw [Int32.lt_iff_toInt_lt, show (3 : Int32).toInt = 3 by decide]; omega)) (fun c13 => ?_)
      refine j_p (nx := 17) hJ dX5_allocate_16 rfl rfl ?_
      refine j_c (nx := 19) hJ dX5_allocate_17 rfl gk_bipush_40 ?_
      refine j_ic_le (nx := 22) (tgt := 24) hJ dX5_allocate_19 rfl (by decide) (fun c19 => ?_) (fun c19 => absurd c19 (fun q => q (by rw [Int32.le_iff_toInt_le, show (40 : Int32).toInt = 40 by decide]; omega)))
      refine j_p (nx := 25) hJ dX5_allocate_24 rfl rfl ?_
      refine j_if_ge (nx := 28) (tgt := 31) hJ dX5_allocate_25 rfl (by decide) (fun c25 => absurd c25 (by rw [Int32.le_iff_toInt_le, Int32.toInt_zero]; omega)) (fun c25 => ?_)
      refine j_c (nx := 30) hJ dX5_allocate_28 rfl gk_bipush_m14 ?_
      have e : s_allocate R N (nI r) t z = (-14, R, N) := by unfold s_allocate; rw [if_pos hm, if_pos hz]
      exact j_iret hJ dX5_allocate_30 ⟨by rw [e], by rw [e]; exact hQ.c⟩
    · obtain ⟨zn, hzn⟩ : ∃ zn, z.toInt.toNat = zn := ⟨_, rfl⟩
      have hzz := gnat (x := z) (by omega)
      rw [hzn] at hzz
      refine j_p (nx := 1) hJ dX5_allocate_0 rfl rfl ?_
      refine j_csR (nx := 4) hJ dX5_allocate_1 rfl (r_isSlot (fl := fl) (d := d + 58) _) mX5_273 rfl (gle8 rfl) ?_
      rw [show gbt _ 4 = true from hx]
      refine j_if_eq (nx := 7) (tgt := 22) hJ dX5_allocate_4 rfl (by decide) (fun c4 => absurd c4 (by decide)) (fun c4 => ?_)
      refine j_p (nx := 8) hJ dX5_allocate_7 rfl rfl ?_
      refine j_if_lt (nx := 11) (tgt := 22) hJ dX5_allocate_8 rfl (by decide) (fun c8 => absurd c8 (by rw [gcz0]; omega)) (fun c8 => ?_)
      refine j_p (nx := 12) hJ dX5_allocate_11 rfl rfl ?_
      refine j_c (nx := 13) hJ dX5_allocate_12 rfl gk_iconst_3 ?_
      refine j_ic_gt (nx := 16) (tgt := 22) hJ dX5_allocate_13 rfl (by decide) (fun c13 => absurd c13 (by rw [Int32.lt_iff_toInt_lt, show (3 : Int32).toInt = 3 by decide]; omega)) (fun c13 => ?_)
      refine j_p (nx := 17) hJ dX5_allocate_16 rfl rfl ?_
      refine j_c (nx := 19) hJ dX5_allocate_17 rfl gk_bipush_40 ?_
      refine j_ic_le (nx := 22) (tgt := 24) hJ dX5_allocate_19 rfl (by decide) (fun c19 => ?_) (fun c19 => absurd c19 (fun q => q (by rw [Int32.le_iff_toInt_le, show (40 : Int32).toInt = 40 by decide]; omega)))
      refine j_p (nx := 25) hJ dX5_allocate_24 rfl rfl ?_
      refine j_if_ge (nx := 28) (tgt := 31) hJ dX5_allocate_25 rfl (by decide) (fun c25 => ?_) (fun c25 => absurd c25 (fun q => q (by rw [Int32.le_iff_toInt_le, Int32.toInt_zero]; omega)))
      refine j_p (nx := 32) hJ dX5_allocate_31 rfl rfl ?_
      refine j_get (nx := 35) hJ dX5_allocate_32 rfl fX5_36 (by repeat (first | assumption | exact gup_same _ _ _ | rw [gup_ne _ _ (by first | decide | assumption | omega)])) (by rfl) ?_
      refine j_p (nx := 36) hJ dX5_allocate_35 rfl rfl ?_
      refine j_aald (j := r) (nx := 37) hJ dX5_allocate_36 rfl q75 rfl (by omega) (by decide) (by decide) rfl ?_
      have hTs := hQ.1.2.2.2.2.1 r (by omega)
      have hT := hQ.r (r := 88 + 3 * r) (by unfold gisR; omega)
      rw [show gcp (88 + 3 * r) = 40 by unfold gcp; rw [if_neg (by omega), if_pos (by omega)]] at hT
      have hTr := hT.2.2.2.1
      have hTl := hT.2.1
      refine j_p (nx := 38) hJ dX5_allocate_37 rfl rfl ?_
      refine j_put (nx := 41) hJ dX5_allocate_38 rfl fX5_276 (zX4_0 _) hTs (Nat.le_of_ble_eq_true rfl) ?_
      have hQ1 := hQ.ty hr t
      have q01 := hQ1.1.1
      have q751 := hQ1.1.2.2.2.1
      refine j_p (nx := 42) hJ dX5_allocate_41 rfl rfl ?_
      refine j_get (nx := 45) hJ dX5_allocate_42 rfl fX5_36 (by repeat (first | assumption | exact gup_same _ _ _ | rw [gup_ne _ _ (by first | decide | assumption | omega)])) (by rfl) ?_
      refine j_p (nx := 46) hJ dX5_allocate_45 rfl rfl ?_
      refine j_aald (j := r) (nx := 47) hJ dX5_allocate_46 rfl q751 rfl (by omega) (by decide) (by decide) rfl ?_
      have hT1s := hQ1.1.2.2.2.2.1 r (by omega)
      have hT1 := hQ1.r (r := 88 + 3 * r) (by unfold gisR; omega)
      rw [show gcp (88 + 3 * r) = 40 by unfold gcp; rw [if_neg (by omega), if_pos (by omega)]] at hT1
      have hT1r := hT1.2.2.2.1
      have hT1l := hT1.2.1
      refine j_get (nx := 50) hJ dX5_allocate_47 rfl fX5_279 (by repeat (first | assumption | exact gup_same _ _ _ | rw [gup_ne _ _ (by first | decide | assumption | omega)])) (by rfl) ?_
      refine j_c (nx := 51) hJ dX5_allocate_50 rfl gk_iconst_0 ?_
      refine j_p (nx := 52) hJ dX5_allocate_51 rfl rfl ?_
      rw [hzz]
      refine j_cv (nx := 55) hJ dX5_allocate_52 rfl (r_fillWith (fl := fl) (d := d + 57) hT1 0 (c := zn) (by omega)) mX5_263 (by repeat (first | assumption | exact gup_same _ _ _ | rw [gup_ne _ _ (by first | decide | assumption | omega)])) kX2_fillWith rfl (gle8 rfl) (fun o h2 hp => ?_)
      obtain ⟨rfl, hR2, hF2⟩ := hp
      have hQ2 := hQ1.row (r := 88 + 3 * r) (by unfold gisR; omega) (by rw [show gcp (88 + 3 * r) = 40 by unfold gcp; rw [if_neg (by omega), if_pos (by omega)]]; exact hR2) hF2
      refine j_p (nx := 56) hJ dX5_allocate_55 rfl rfl ?_
      have e : s_allocate R N (nI r) t z = (z, gU R (88 + 3 * r) (List.replicate zn 0), gU N (87 + 3 * r) t) := by unfold s_allocate; rw [if_pos hm, if_neg hz, ege, egt, hzn]
      exact j_iret hJ dX5_allocate_56 ⟨by rw [e, ← hzz], by rw [e]; exact hQ2.c⟩
  · refine j_p (nx := 1) hJ dX5_allocate_0 rfl rfl ?_
    refine j_csR (nx := 4) hJ dX5_allocate_1 rfl (r_isSlot (fl := fl) (d := d + 58) x) mX5_273 rfl (gle8 rfl) ?_
    refine j_if_eq (nx := 7) (tgt := 22) hJ dX5_allocate_4 rfl (by decide) (fun c4 => ?_) (fun c4 => ?_)
    · refine j_c (nx := 23) hJ dX5_allocate_22 rfl gk_iconst_m1 ?_
      have e : s_allocate R N x t z = (-1, R, N) := if_neg hm
      exact j_iret hJ dX5_allocate_23 ⟨by rw [e], by rw [e]; exact hQ.c⟩
    · refine j_p (nx := 8) hJ dX5_allocate_7 rfl rfl ?_
      refine j_if_lt (nx := 11) (tgt := 22) hJ dX5_allocate_8 rfl (by decide) (fun c8 => ?_) (fun c8 => ?_)
      · refine j_c (nx := 23) hJ dX5_allocate_22 rfl gk_iconst_m1 ?_
        have e : s_allocate R N x t z = (-1, R, N) := if_neg hm
        exact j_iret hJ dX5_allocate_23 ⟨by rw [e], by rw [e]; exact hQ.c⟩
      · refine j_p (nx := 12) hJ dX5_allocate_11 rfl rfl ?_
        refine j_c (nx := 13) hJ dX5_allocate_12 rfl gk_iconst_3 ?_
        refine j_ic_gt (nx := 16) (tgt := 22) hJ dX5_allocate_13 rfl (by decide) (fun c13 => ?_) (fun c13 => ?_)
        · refine j_c (nx := 23) hJ dX5_allocate_22 rfl gk_iconst_m1 ?_
          have e : s_allocate R N x t z = (-1, R, N) := if_neg hm
          exact j_iret hJ dX5_allocate_23 ⟨by rw [e], by rw [e]; exact hQ.c⟩
        · refine j_p (nx := 17) hJ dX5_allocate_16 rfl rfl ?_
          refine j_c (nx := 19) hJ dX5_allocate_17 rfl gk_bipush_40 ?_
          refine j_ic_le (nx := 22) (tgt := 24) hJ dX5_allocate_19 rfl (by decide) (fun c19 => ?_) (fun c19 => ?_)
          · first | rw [gb_t] at c4 | skip
            first | rw [gcz0] at c8 | skip
            first | rw [Int32.lt_iff_toInt_lt, show (3 : Int32).toInt = 3 by decide] at c13 | skip
            first | rw [Int32.le_iff_toInt_le, show (40 : Int32).toInt = 40 by decide] at c19 | skip
            exact absurd ⟨c4, ⟨by omega, by omega⟩, by omega⟩ hm
          · refine j_c (nx := 23) hJ dX5_allocate_22 rfl gk_iconst_m1 ?_
            have e : s_allocate R N x t z = (-1, R, N) := if_neg hm
            exact j_iret hJ dX5_allocate_23 ⟨by rw [e], by rw [e]; exact hQ.c⟩
set_option maxHeartbeats 4000000 in
theorem r_release {fl : Bool} {d : Nat} {h0 h : GH} {R : Nat → List Int32} {N : Nat → Int32} (hQ : gQ h0 h R N) (x : Int32) : gN fl (d + 60) yX5_release [.ref 0, .int x] h (fun o h' => o = some (.int (s_release R N x).1) ∧ gC h0 h' (s_release R N x).2.1 (s_release R N x).2.2) := by
  have q0 := hQ.1.1
  have q1 := hQ.1.2.1.1
  have q2 := hQ.1.2.1.2.1
  have q3 := hQ.1.2.1.2.2.1
  have q4 := hQ.1.2.1.2.2.2
  have q75 := hQ.1.2.2.2.1
  have q80 := hQ.1.2.2.2.2.2.1.1
  obtain ⟨_, _, _, _, _, _, q76x⟩ := id hQ.1.2.2.2.2.2.2.1
  have q76 := q76x.1
  refine gN.of MX5_release (Nat.le_of_ble_eq_true rfl) (fun J n hJ => ?_)
  show J 0 [some (.ref 0), some (.int x), none] [] h (n, 0, 0, fl)
  by_cases hx : gbt x 4 = true
  · obtain ⟨r, rfl, hr⟩ := gbt_spec hx
    have ege := ge_nI (r := r) (by omega)
    have egt := gt_nI (r := r) (by omega)
    refine j_p (nx := 1) hJ dX5_release_0 rfl rfl ?_
    refine j_csR (nx := 4) hJ dX5_release_1 rfl (r_isSlot (fl := fl) (d := d + 58) _) mX5_273 rfl (gle8 rfl) ?_
    rw [show gbt _ 4 = true from hx]
    refine j_if_ne (nx := 7) (tgt := 9) hJ dX5_release_4 rfl (by decide) (fun c4 => ?_) (fun c4 => absurd c4 (by decide))
    refine j_p (nx := 10) hJ dX5_release_9 rfl rfl ?_
    refine j_get (nx := 13) hJ dX5_release_10 rfl fX5_36 (by repeat (first | assumption | exact gup_same _ _ _ | rw [gup_ne _ _ (by first | decide | assumption | omega)])) (by rfl) ?_
    refine j_p (nx := 14) hJ dX5_release_13 rfl rfl ?_
    refine j_aald (j := r) (nx := 15) hJ dX5_release_14 rfl q75 rfl (by omega) (by decide) (by decide) rfl ?_
    have hTs := hQ.1.2.2.2.2.1 r (by omega)
    have hT := hQ.r (r := 88 + 3 * r) (by unfold gisR; omega)
    rw [show gcp (88 + 3 * r) = 40 by unfold gcp; rw [if_neg (by omega), if_pos (by omega)]] at hT
    have hTr := hT.2.2.2.1
    have hTl := hT.2.1
    refine j_get (nx := 18) hJ dX5_release_15 rfl fX5_276 (by repeat (first | assumption | exact gup_same _ _ _ | rw [gup_ne _ _ (by first | decide | assumption | omega)])) (by rfl) ?_
    refine j_c (nx := 19) hJ dX5_release_18 rfl gk_iconst_m1 ?_
    refine j_ic_eq (nx := 22) (tgt := 26) hJ dX5_release_19 rfl (by decide) (fun c19 => ?_) (fun c19 => ?_)
    · refine j_c (nx := 27) hJ dX5_release_26 rfl gk_iconst_0 ?_
      refine j_p (nx := 28) hJ dX5_release_27 rfl rfl ?_
      refine j_p (nx := 29) hJ dX5_release_28 rfl rfl ?_
      refine j_get (nx := 32) hJ dX5_release_29 rfl fX5_36 (by repeat (first | assumption | exact gup_same _ _ _ | rw [gup_ne _ _ (by first | decide | assumption | omega)])) (by rfl) ?_
      refine j_p (nx := 33) hJ dX5_release_32 rfl rfl ?_
      refine j_aald (j := r) (nx := 34) hJ dX5_release_33 rfl q75 rfl (by omega) (by decide) (by decide) rfl ?_
      refine j_c (nx := 35) hJ dX5_release_34 rfl gk_iconst_m1 ?_
      refine j_put (nx := 38) hJ dX5_release_35 rfl fX5_276 (zX4_0 _) hTs (Nat.le_of_ble_eq_true rfl) ?_
      have hQ1 := hQ.ty hr (-1)
      refine j_p (nx := 39) hJ dX5_release_38 rfl rfl ?_
      refine j_if_eq (nx := 42) (tgt := 46) hJ dX5_release_39 rfl (by decide) (fun _ => ?_) (fun c39 => absurd c39 (by decide))
      refine j_c (nx := 47) hJ dX5_release_46 rfl gk_iconst_0 ?_
      have e : s_release R N (nI r) = (0, R, gU N (87 + 3 * r) (-1)) := by unfold s_release; rw [if_pos hx, egt, if_pos c19]
      exact j_iret hJ dX5_release_47 ⟨by rw [e], by rw [e]; exact hQ1.c⟩
    · refine j_c (nx := 23) hJ dX5_release_22 rfl gk_iconst_1 ?_
      refine j_go (tgt := 27) hJ dX5_release_23 (by decide) ?_
      refine j_p (nx := 28) hJ dX5_release_27 rfl rfl ?_
      refine j_p (nx := 29) hJ dX5_release_28 rfl rfl ?_
      refine j_get (nx := 32) hJ dX5_release_29 rfl fX5_36 (by repeat (first | assumption | exact gup_same _ _ _ | rw [gup_ne _ _ (by first | decide | assumption | omega)])) (by rfl) ?_
      refine j_p (nx := 33) hJ dX5_release_32 rfl rfl ?_
      refine j_aald (j := r) (nx := 34) hJ dX5_release_33 rfl q75 rfl (by omega) (by decide) (by decide) rfl ?_
      refine j_c (nx := 35) hJ dX5_release_34 rfl gk_iconst_m1 ?_
      refine j_put (nx := 38) hJ dX5_release_35 rfl fX5_276 (zX4_0 _) hTs (Nat.le_of_ble_eq_true rfl) ?_
      have hQ1 := hQ.ty hr (-1)
      refine j_p (nx := 39) hJ dX5_release_38 rfl rfl ?_
      refine j_if_eq (nx := 42) (tgt := 46) hJ dX5_release_39 rfl (by decide) (fun c39 => absurd c39 (by decide)) (fun _ => ?_)
      refine j_c (nx := 43) hJ dX5_release_42 rfl gk_iconst_1 ?_
      refine j_go (tgt := 47) hJ dX5_release_43 (by decide) ?_
      have e : s_release R N (nI r) = (1, R, gU N (87 + 3 * r) (-1)) := by unfold s_release; rw [if_pos hx, egt, if_neg c19]
      exact j_iret hJ dX5_release_47 ⟨by rw [e], by rw [e]; exact hQ1.c⟩
  · refine j_p (nx := 1) hJ dX5_release_0 rfl rfl ?_
    refine j_csR (nx := 4) hJ dX5_release_1 rfl (r_isSlot (fl := fl) (d := d + 58) _) mX5_273 rfl (gle8 rfl) ?_
    rw [show gbt _ 4 = false from Bool.eq_false_iff.mpr hx]
    refine j_if_ne (nx := 7) (tgt := 9) hJ dX5_release_4 rfl (by decide) (fun c4 => absurd c4 (by decide)) (fun c4 => ?_)
    refine j_c (nx := 8) hJ dX5_release_7 rfl gk_iconst_m1 ?_
    have e : s_release R N x = (-1, R, N) := if_neg hx
    exact j_iret hJ dX5_release_8 ⟨by rw [e], by rw [e]; exact hQ.c⟩
set_option maxHeartbeats 4000000 in
theorem r_narrowed {fl : Bool} {d : Nat} {h : GH} (v : Int64) (t : Int32) : gR fl (d + 1) yX5_narrowed [.long v, .int t] h (.int (gnar v t)) := by
  refine gN.of MX5_narrowed (Nat.le_of_ble_eq_true rfl) (fun J n hJ => ?_)
  show J 0 [some (.long v), none, some (.int t)] [] h (n, 0, 0, fl)
  by_cases e0 : t = 0
  · subst e0
    refine j_p (nx := 1) hJ dX5_narrowed_0 rfl rfl ?_
    refine j_tbI (tgt := 28) hJ dX5_narrowed_1 (by decide) (by decide) rfl (by decide) ?_
    refine j_p (nx := 29) hJ dX5_narrowed_28 rfl rfl ?_
    refine j_p (nx := 30) hJ dX5_narrowed_29 rfl rfl ?_
    refine j_p (nx := 31) hJ dX5_narrowed_30 rfl rfl ?_
    exact j_iret hJ dX5_narrowed_31 ⟨rfl, rfl⟩
  by_cases e1 : t = 1
  · subst e1
    refine j_p (nx := 1) hJ dX5_narrowed_0 rfl rfl ?_
    refine j_tbI (tgt := 32) hJ dX5_narrowed_1 (by decide) (by decide) rfl (by decide) ?_
    refine j_p (nx := 33) hJ dX5_narrowed_32 rfl rfl ?_
    refine j_p (nx := 34) hJ dX5_narrowed_33 rfl rfl ?_
    refine j_p (nx := 35) hJ dX5_narrowed_34 rfl rfl ?_
    exact j_iret hJ dX5_narrowed_35 ⟨rfl, rfl⟩
  by_cases e2 : t = 2
  · subst e2
    refine j_p (nx := 1) hJ dX5_narrowed_0 rfl rfl ?_
    refine j_tbI (tgt := 36) hJ dX5_narrowed_1 (by decide) (by decide) rfl (by decide) ?_
    refine j_p (nx := 37) hJ dX5_narrowed_36 rfl rfl ?_
    refine j_p (nx := 38) hJ dX5_narrowed_37 rfl rfl ?_
    exact j_iret hJ dX5_narrowed_38 ⟨rfl, rfl⟩
  have hout : t.toInt < 0 ∨ 2 < t.toInt := by
    apply Classical.byContradiction
    intro q
    rcases (show t.toInt = 0 ∨ t.toInt = 1 ∨ t.toInt = 2 by omega) with u | u | u
    · exact e0 (Int32.toInt_inj.mp u)
    · exact e1 (Int32.toInt_inj.mp u)
    · exact e2 (Int32.toInt_inj.mp u)
  refine j_p (nx := 1) hJ dX5_narrowed_0 rfl rfl ?_
  refine j_tbO (tgt := 39) hJ dX5_narrowed_1 hout (by decide) ?_
  refine j_p (nx := 40) hJ dX5_narrowed_39 rfl rfl ?_
  refine j_lc (nx := 41) (v := 0) hJ dX5_narrowed_40 rfl (by decide) ?_
  refine j_p (nx := 42) hJ dX5_narrowed_41 rfl rfl ?_
  refine j_if_eq (nx := 45) (tgt := 49) hJ dX5_narrowed_42 rfl (by decide) (fun c42 => ?_) (fun c42 => ?_)
  · refine j_c (nx := 50) hJ dX5_narrowed_49 rfl gk_iconst_0 ?_
    rw [lg_cmp_eq] at c42
    have e : gnar v t = 0 := by unfold gnar; rw [if_neg e0, if_neg e1, if_neg e2, if_pos c42]
    exact j_iret hJ dX5_narrowed_50 ⟨by rw [e], rfl⟩
  · refine j_c (nx := 46) hJ dX5_narrowed_45 rfl gk_iconst_1 ?_
    refine j_go (tgt := 50) hJ dX5_narrowed_46 (by decide) ?_
    rw [lg_cmp_eq] at c42
    have e : gnar v t = 1 := by unfold gnar; rw [if_neg e0, if_neg e1, if_neg e2, if_neg c42]
    exact j_iret hJ dX5_narrowed_50 ⟨by rw [e], rfl⟩
set_option maxHeartbeats 4000000 in
theorem r_putElement {fl : Bool} {d : Nat} {h0 h : GH} {R : Nat → List Int32} {N : Nat → Int32} (hQ : gQ h0 h R N) (x i : Int32) (v : Int64) : gN fl (d + 60) yX5_putElement [.ref 0, .int x, .int i, .long v] h (fun o h' => o = some (.int (s_putElement R N x i v).1) ∧ gC h0 h' (s_putElement R N x i v).2.1 (s_putElement R N x i v).2.2) := by
  have q0 := hQ.1.1
  have q1 := hQ.1.2.1.1
  have q2 := hQ.1.2.1.2.1
  have q3 := hQ.1.2.1.2.2.1
  have q4 := hQ.1.2.1.2.2.2
  have q75 := hQ.1.2.2.2.1
  have q80 := hQ.1.2.2.2.2.2.1.1
  obtain ⟨_, _, _, _, _, _, q76x⟩ := id hQ.1.2.2.2.2.2.2.1
  have q76 := q76x.1
  refine gN.of MX5_putElement (Nat.le_of_ble_eq_true rfl) (fun J n hJ => ?_)
  show J 0 [some (.ref 0), some (.int x), some (.int i), some (.long v), none, none] [] h (n, 0, 0, fl)
  by_cases hx : gbt x 4 = true
  · obtain ⟨r, rfl, hr⟩ := gbt_spec hx
    have ege := ge_nI (r := r) (by omega)
    have egt := gt_nI (r := r) (by omega)
    refine j_p (nx := 1) hJ dX5_putElement_0 rfl rfl ?_
    refine j_csR (nx := 4) hJ dX5_putElement_1 rfl (r_isSlot (fl := fl) (d := d + 58) _) mX5_273 rfl (gle8 rfl) ?_
    rw [show gbt _ 4 = true from hx]
    refine j_if_ne (nx := 7) (tgt := 9) hJ dX5_putElement_4 rfl (by decide) (fun c4 => ?_) (fun c4 => absurd c4 (by decide))
    refine j_p (nx := 10) hJ dX5_putElement_9 rfl rfl ?_
    refine j_get (nx := 13) hJ dX5_putElement_10 rfl fX5_36 (by repeat (first | assumption | exact gup_same _ _ _ | rw [gup_ne _ _ (by first | decide | assumption | omega)])) (by rfl) ?_
    refine j_p (nx := 14) hJ dX5_putElement_13 rfl rfl ?_
    refine j_aald (j := r) (nx := 15) hJ dX5_putElement_14 rfl q75 rfl (by omega) (by decide) (by decide) rfl ?_
    have hTs := hQ.1.2.2.2.2.1 r (by omega)
    have hT := hQ.r (r := 88 + 3 * r) (by unfold gisR; omega)
    rw [show gcp (88 + 3 * r) = 40 by unfold gcp; rw [if_neg (by omega), if_pos (by omega)]] at hT
    have hTr := hT.2.2.2.1
    have hTl := hT.2.1
    refine j_p (nx := 17) hJ dX5_putElement_15 rfl rfl ?_
    refine j_p (nx := 19) hJ dX5_putElement_17 rfl rfl ?_
    refine j_get (nx := 22) hJ dX5_putElement_19 rfl fX5_276 (by repeat (first | assumption | exact gup_same _ _ _ | rw [gup_ne _ _ (by first | decide | assumption | omega)])) (by rfl) ?_
    refine j_c (nx := 23) hJ dX5_putElement_22 rfl gk_iconst_m1 ?_
    refine j_ic_ne (nx := 26) (tgt := 29) hJ dX5_putElement_23 rfl (by decide) (fun c23 => ?_) (fun c23 => ?_)
    · refine j_p (nx := 31) hJ dX5_putElement_29 rfl rfl ?_
      refine j_get (nx := 34) hJ dX5_putElement_31 rfl fX5_279 (by repeat (first | assumption | exact gup_same _ _ _ | rw [gup_ne _ _ (by first | decide | assumption | omega)])) (by rfl) ?_
      refine j_p (nx := 35) hJ dX5_putElement_34 rfl rfl ?_
      refine j_cvR (nx := 38) hJ dX5_putElement_35 rfl (r_hasIndex (fl := fl) (d := d + 58) hT i) mX5_282 (by repeat (first | assumption | exact gup_same _ _ _ | rw [gup_ne _ _ (by first | decide | assumption | omega)])) kX2_hasIndex rfl (gle8 rfl) ?_
      refine j_if_ne (nx := 41) (tgt := 44) hJ dX5_putElement_38 rfl (by decide) (fun c38 => ?_) (fun c38 => ?_)
      · rw [gb_t] at c38
        obtain ⟨j, rfl, hj, -⟩ := gix_spec c38
        refine j_p (nx := 46) hJ dX5_putElement_44 rfl rfl ?_
        refine j_get (nx := 49) hJ dX5_putElement_46 rfl fX5_279 (by repeat (first | assumption | exact gup_same _ _ _ | rw [gup_ne _ _ (by first | decide | assumption | omega)])) (by rfl) ?_
        refine j_p (nx := 50) hJ dX5_putElement_49 rfl rfl ?_
        refine j_p (nx := 51) hJ dX5_putElement_50 rfl rfl ?_
        refine j_p (nx := 53) hJ dX5_putElement_51 rfl rfl ?_
        refine j_get (nx := 56) hJ dX5_putElement_53 rfl fX5_276 (by repeat (first | assumption | exact gup_same _ _ _ | rw [gup_ne _ _ (by first | decide | assumption | omega)])) (by rfl) ?_
        refine j_csR (nx := 59) hJ dX5_putElement_56 rfl (r_narrowed (fl := fl) (d := d + 58) v (N (87 + 3 * r))) mX5_285 rfl (gle8 rfl) ?_
        refine j_cv (nx := 62) hJ dX5_putElement_59 rfl (r_put (fl := fl) (d := d + 57) hT (j := j) (by omega) _) mX5_289 (by repeat (first | assumption | exact gup_same _ _ _ | rw [gup_ne _ _ (by first | decide | assumption | omega)])) kX2_put rfl (gle8 rfl) (fun o h2 hp => ?_)
        obtain ⟨rfl, hR2, hF2⟩ := hp
        have hQ2 := hQ.row (r := 88 + 3 * r) (by unfold gisR; omega) (by rw [show gcp (88 + 3 * r) = 40 by unfold gcp; rw [if_neg (by omega), if_pos (by omega)]]; exact hR2) hF2
        refine j_c (nx := 63) hJ dX5_putElement_62 rfl gk_iconst_1 ?_
        have e : s_putElement R N (nI r) (nI j) v = (1, gU R (88 + 3 * r) ((R (88 + 3 * r)).set j (gnar v (N (87 + 3 * r)))), N) := by unfold s_putElement; rw [if_pos hx, egt, ege, if_neg c23, if_pos c38, nI_toInt (by omega)]; rfl
        exact j_iret hJ dX5_putElement_63 ⟨by rw [e], by rw [e]; exact hQ2.c⟩
      · refine j_c (nx := 43) hJ dX5_putElement_41 rfl gk_bipush_m13 ?_
        rw [gb_f] at c38
        have e : s_putElement R N (nI r) i v = (-13, R, N) := by unfold s_putElement; rw [if_pos hx, egt, ege, if_neg c23, if_neg (by rw [c38]; decide)]
        exact j_iret hJ dX5_putElement_43 ⟨by rw [e], by rw [e]; exact hQ.c⟩
    · refine j_c (nx := 28) hJ dX5_putElement_26 rfl gk_bipush_m11 ?_
      have e : s_putElement R N (nI r) i v = (-11, R, N) := by unfold s_putElement; rw [if_pos hx, egt, if_pos c23]
      exact j_iret hJ dX5_putElement_28 ⟨by rw [e], by rw [e]; exact hQ.c⟩
  · refine j_p (nx := 1) hJ dX5_putElement_0 rfl rfl ?_
    refine j_csR (nx := 4) hJ dX5_putElement_1 rfl (r_isSlot (fl := fl) (d := d + 58) _) mX5_273 rfl (gle8 rfl) ?_
    rw [show gbt _ 4 = false from Bool.eq_false_iff.mpr hx]
    refine j_if_ne (nx := 7) (tgt := 9) hJ dX5_putElement_4 rfl (by decide) (fun c4 => absurd c4 (by decide)) (fun c4 => ?_)
    refine j_c (nx := 8) hJ dX5_putElement_7 rfl gk_iconst_m1 ?_
    have e : s_putElement R N x i v = (-1, R, N) := if_neg hx
    exact j_iret hJ dX5_putElement_8 ⟨by rw [e], by rw [e]; exact hQ.c⟩
set_option maxHeartbeats 4000000 in
theorem r_element {fl : Bool} {d : Nat} {h0 h : GH} {R : Nat → List Int32} {N : Nat → Int32} (hQ : gQ h0 h R N) (x i : Int32) : gN fl (d + 60) yX5_element [.ref 0, .int x, .int i] h (fun o h' => o = some (.long (s_element R N x i)) ∧ gC h0 h' R N) := by
  have q0 := hQ.1.1
  have q1 := hQ.1.2.1.1
  have q2 := hQ.1.2.1.2.1
  have q3 := hQ.1.2.1.2.2.1
  have q4 := hQ.1.2.1.2.2.2
  have q75 := hQ.1.2.2.2.1
  have q80 := hQ.1.2.2.2.2.2.1.1
  obtain ⟨_, _, _, _, _, _, q76x⟩ := id hQ.1.2.2.2.2.2.2.1
  have q76 := q76x.1
  refine gN.of MX5_element (Nat.le_of_ble_eq_true rfl) (fun J n hJ => ?_)
  show J 0 [some (.ref 0), some (.int x), some (.int i), none] [] h (n, 0, 0, fl)
  by_cases hx : gbt x 4 = true
  · obtain ⟨r, rfl, hr⟩ := gbt_spec hx
    have ege := ge_nI (r := r) (by omega)
    have egt := gt_nI (r := r) (by omega)
    refine j_p (nx := 1) hJ dX5_element_0 rfl rfl ?_
    refine j_csR (nx := 4) hJ dX5_element_1 rfl (r_isSlot (fl := fl) (d := d + 58) _) mX5_273 rfl (gle8 rfl) ?_
    rw [show gbt _ 4 = true from hx]
    refine j_if_eq (nx := 7) (tgt := 20) hJ dX5_element_4 rfl (by decide) (fun c4 => absurd c4 (by decide)) (fun c4 => ?_)
    refine j_p (nx := 8) hJ dX5_element_7 rfl rfl ?_
    refine j_get (nx := 11) hJ dX5_element_8 rfl fX5_36 (by repeat (first | assumption | exact gup_same _ _ _ | rw [gup_ne _ _ (by first | decide | assumption | omega)])) (by rfl) ?_
    refine j_p (nx := 12) hJ dX5_element_11 rfl rfl ?_
    refine j_aald (j := r) (nx := 13) hJ dX5_element_12 rfl q75 rfl (by omega) (by decide) (by decide) rfl ?_
    have hTs := hQ.1.2.2.2.2.1 r (by omega)
    have hT := hQ.r (r := 88 + 3 * r) (by unfold gisR; omega)
    rw [show gcp (88 + 3 * r) = 40 by unfold gcp; rw [if_neg (by omega), if_pos (by omega)]] at hT
    have hTr := hT.2.2.2.1
    have hTl := hT.2.1
    refine j_get (nx := 16) hJ dX5_element_13 rfl fX5_276 (by repeat (first | assumption | exact gup_same _ _ _ | rw [gup_ne _ _ (by first | decide | assumption | omega)])) (by rfl) ?_
    refine j_c (nx := 17) hJ dX5_element_16 rfl gk_iconst_m1 ?_
    refine j_ic_ne (nx := 20) (tgt := 24) hJ dX5_element_17 rfl (by decide) (fun c17 => ?_) (fun c17 => ?_)
    · refine j_p (nx := 25) hJ dX5_element_24 rfl rfl ?_
      refine j_get (nx := 28) hJ dX5_element_25 rfl fX5_36 (by repeat (first | assumption | exact gup_same _ _ _ | rw [gup_ne _ _ (by first | decide | assumption | omega)])) (by rfl) ?_
      refine j_p (nx := 29) hJ dX5_element_28 rfl rfl ?_
      refine j_aald (j := r) (nx := 30) hJ dX5_element_29 rfl q75 rfl (by omega) (by decide) (by decide) rfl ?_
      refine j_get (nx := 33) hJ dX5_element_30 rfl fX5_279 (by repeat (first | assumption | exact gup_same _ _ _ | rw [gup_ne _ _ (by first | decide | assumption | omega)])) (by rfl) ?_
      refine j_p (nx := 34) hJ dX5_element_33 rfl rfl ?_
      refine j_p (nx := 35) hJ dX5_element_34 rfl rfl ?_
      refine j_p (nx := 36) hJ dX5_element_35 rfl rfl ?_
      refine j_cvR (nx := 39) hJ dX5_element_36 rfl (r_hasIndex (fl := fl) (d := d + 58) hT i) mX5_282 (by repeat (first | assumption | exact gup_same _ _ _ | rw [gup_ne _ _ (by first | decide | assumption | omega)])) kX2_hasIndex rfl (gle8 rfl) ?_
      refine j_if_eq (nx := 42) (tgt := 51) hJ dX5_element_39 rfl (by decide) (fun c39 => ?_) (fun c39 => ?_)
      · refine j_ldc2 (nx := 54) hJ dX5_element_51 rfl qX5_243 ?_
        rw [gb_f] at c39
        have e : s_element R N (nI r) i = -9223372036854775808 := by unfold s_element; rw [egt, ege, if_pos ⟨hx, c17⟩, if_neg (by rw [c39]; decide)]
        exact j_lret hJ dX5_element_54 ⟨by rw [e], hQ.c⟩
      · refine j_p (nx := 43) hJ dX5_element_42 rfl rfl ?_
        refine j_p (nx := 44) hJ dX5_element_43 rfl rfl ?_
        refine j_cvR (nx := 47) hJ dX5_element_44 rfl (r_at (fl := fl) (d := d + 58) hT i) mX5_92 (by repeat (first | assumption | exact gup_same _ _ _ | rw [gup_ne _ _ (by first | decide | assumption | omega)])) kX2_at rfl (gle8 rfl) ?_
        refine j_p (nx := 48) hJ dX5_element_47 rfl rfl ?_
        rw [gb_t] at c39
        refine j_go (tgt := 54) hJ dX5_element_48 (by decide) ?_
        have e : s_element R N (nI r) i = (gat (R (88 + 3 * r)) i).toInt64 := by unfold s_element; rw [egt, ege, if_pos ⟨hx, c17⟩, if_pos c39]
        exact j_lret hJ dX5_element_54 ⟨by rw [e], hQ.c⟩
    · refine j_ldc2 (nx := 23) hJ dX5_element_20 rfl qX5_243 ?_
      have e : s_element R N (nI r) i = -9223372036854775808 := if_neg (fun q => q.2 (by rw [egt]; exact c17))
      exact j_lret hJ dX5_element_23 ⟨by rw [e], hQ.c⟩
  · refine j_p (nx := 1) hJ dX5_element_0 rfl rfl ?_
    refine j_csR (nx := 4) hJ dX5_element_1 rfl (r_isSlot (fl := fl) (d := d + 58) _) mX5_273 rfl (gle8 rfl) ?_
    rw [show gbt _ 4 = false from Bool.eq_false_iff.mpr hx]
    refine j_if_eq (nx := 7) (tgt := 20) hJ dX5_element_4 rfl (by decide) (fun c4 => ?_) (fun c4 => absurd c4 (by decide))
    refine j_ldc2 (nx := 23) hJ dX5_element_20 rfl qX5_243 ?_
    have e : s_element R N x i = -9223372036854775808 := if_neg (fun q => hx q.1)
    exact j_lret hJ dX5_element_23 ⟨by rw [e], hQ.c⟩
theorem gcpl_row {h : GH} {r q cap : Nat} {l m : List Int32} {f g : Nat → Int32} {s t c : Nat} (hrq : r ≠ q) (hm : m.length ≤ cap) (hc : cap ≤ 1000) (hr : h r = some (gob 2 [.ref q, .int (nI m.length)])) (hf : ∀ (i : Nat) (v : Int32), l[i]? = some v → f i = v) (hg : ∀ (i : Nat) (v : Int32), m[i]? = some v → g i = v) (hs : s + c ≤ l.length) (ht : t + c ≤ m.length) : gRow (gup h q (gia cap (va_cpy f g s t c))) r q cap (gcpl l m s t c) := by
  have hl : (gcpl l m s t c).length = m.length := by unfold gcpl; simp
  refine ⟨hrq, by omega, hc, by rw [gup_ne _ _ hrq, hl]; exact hr, _, gup_same _ _ _, fun i v hv => ?_⟩
  have hi : i < m.length := by rw [← hl]; exact (List.getElem?_eq_some_iff.mp hv).1
  unfold gcpl at hv
  rw [List.getElem?_map, List.getElem?_range hi] at hv
  simp only [Option.map_some, Option.some.injEq] at hv
  unfold va_cpy
  by_cases e : t ≤ i ∧ i < t + c
  · rw [if_pos e] at hv ⊢
    rw [← hv]
    exact grow_get hf (by omega) (-1)
  · rw [if_neg e] at hv ⊢
    rw [← hv]
    exact grow_get hg hi (-1)
theorem gRng_spec {n : Nat} {i c : Int32} (h : gRng n i c = true) : ∃ a b, i = nI a ∧ c = nI b ∧ a + b ≤ n := by
  obtain ⟨h1, h2, h3⟩ := of_decide_eq_true h
  exact ⟨_, _, gnat h1, gnat h2, by omega⟩
set_option maxHeartbeats 4000000 in
theorem r_copyElements {d : Nat} {h0 h : GH} {R : Nat → List Int32} {N : Nat → Int32} (hQ : gQ h0 h R N) (x i y j c : Int32) : gN false (d + 60) yX5_copyElements [.ref 0, .int x, .int i, .int y, .int j, .int c] h (fun o h' => o = some (.int (s_copyElements R N x i y j c).1) ∧ gC h0 h' (s_copyElements R N x i y j c).2.1 (s_copyElements R N x i y j c).2.2) := by
  have q0 := hQ.1.1
  have q1 := hQ.1.2.1.1
  have q2 := hQ.1.2.1.2.1
  have q3 := hQ.1.2.1.2.2.1
  have q4 := hQ.1.2.1.2.2.2
  have q75 := hQ.1.2.2.2.1
  have q80 := hQ.1.2.2.2.2.2.1.1
  obtain ⟨_, _, _, _, _, _, q76x⟩ := id hQ.1.2.2.2.2.2.2.1
  have q76 := q76x.1
  refine gN.of MX5_copyElements (Nat.le_of_ble_eq_true rfl) (fun J n hJ => ?_)
  show J 0 [some (.ref 0), some (.int x), some (.int i), some (.int y), some (.int j), some (.int c), none, none] [] h (n, 0, 0, false)
  by_cases hx : gbt x 4 = true
  · obtain ⟨r, rfl, hr⟩ := gbt_spec hx
    have ege := ge_nI (r := r) (by omega)
    have egt := gt_nI (r := r) (by omega)
    by_cases hy : gbt y 4 = true
    · obtain ⟨s, rfl, hs⟩ := gbt_spec hy
      have ege2 := ge_nI (r := s) (by omega)
      have egt2 := gt_nI (r := s) (by omega)
      refine j_p (nx := 1) hJ dX5_copyElements_0 rfl rfl ?_
      refine j_csR (nx := 4) hJ dX5_copyElements_1 rfl (r_isSlot (fl := false) (d := d + 58) _) mX5_273 rfl (gle8 rfl) ?_
      rw [show gbt _ 4 = true from hx]
      refine j_if_eq (nx := 7) (tgt := 14) hJ dX5_copyElements_4 rfl (by decide) (fun c4 => absurd c4 (by decide)) (fun c4 => ?_)
      refine j_p (nx := 8) hJ dX5_copyElements_7 rfl rfl ?_
      refine j_csR (nx := 11) hJ dX5_copyElements_8 rfl (r_isSlot (fl := false) (d := d + 58) _) mX5_273 rfl (gle8 rfl) ?_
      rw [show gbt _ 4 = true from hy]
      refine j_if_ne (nx := 14) (tgt := 16) hJ dX5_copyElements_11 rfl (by decide) (fun c11 => ?_) (fun c11 => absurd c11 (by decide))
      refine j_p (nx := 17) hJ dX5_copyElements_16 rfl rfl ?_
      refine j_get (nx := 20) hJ dX5_copyElements_17 rfl fX5_36 (by repeat (first | assumption | exact gup_same _ _ _ | rw [gup_ne _ _ (by first | decide | assumption | omega)])) (by rfl) ?_
      refine j_p (nx := 21) hJ dX5_copyElements_20 rfl rfl ?_
      refine j_aald (j := r) (nx := 22) hJ dX5_copyElements_21 rfl q75 rfl (by omega) (by decide) (by decide) rfl ?_
      have hTs := hQ.1.2.2.2.2.1 r (by omega)
      have hT := hQ.r (r := 88 + 3 * r) (by unfold gisR; omega)
      rw [show gcp (88 + 3 * r) = 40 by unfold gcp; rw [if_neg (by omega), if_pos (by omega)]] at hT
      have hTr := hT.2.2.2.1
      have hTl := hT.2.1
      refine j_p (nx := 24) hJ dX5_copyElements_22 rfl rfl ?_
      refine j_p (nx := 25) hJ dX5_copyElements_24 rfl rfl ?_
      refine j_get (nx := 28) hJ dX5_copyElements_25 rfl fX5_36 (by repeat (first | assumption | exact gup_same _ _ _ | rw [gup_ne _ _ (by first | decide | assumption | omega)])) (by rfl) ?_
      refine j_p (nx := 29) hJ dX5_copyElements_28 rfl rfl ?_
      refine j_aald (j := s) (nx := 30) hJ dX5_copyElements_29 rfl q75 rfl (by omega) (by decide) (by decide) rfl ?_
      have hUs := hQ.1.2.2.2.2.1 s (by omega)
      have hU := hQ.r (r := 88 + 3 * s) (by unfold gisR; omega)
      rw [show gcp (88 + 3 * s) = 40 by unfold gcp; rw [if_neg (by omega), if_pos (by omega)]] at hU
      have hUr := hU.2.2.2.1
      have hUl := hU.2.1
      refine j_p (nx := 32) hJ dX5_copyElements_30 rfl rfl ?_
      refine j_p (nx := 34) hJ dX5_copyElements_32 rfl rfl ?_
      refine j_get (nx := 37) hJ dX5_copyElements_34 rfl fX5_276 (by repeat (first | assumption | exact gup_same _ _ _ | rw [gup_ne _ _ (by first | decide | assumption | omega)])) (by rfl) ?_
      refine j_c (nx := 38) hJ dX5_copyElements_37 rfl gk_iconst_m1 ?_
      refine j_ic_eq (nx := 41) (tgt := 50) hJ dX5_copyElements_38 rfl (by decide) (fun c38 => ?_) (fun c38 => ?_)
      · refine j_c (nx := 52) hJ dX5_copyElements_50 rfl gk_bipush_m11 ?_
        have e : s_copyElements R N (nI r) i (nI s) j c = (-11, R, N) := by unfold s_copyElements; rw [if_pos ⟨hx, hy⟩, egt, egt2, if_pos (by first | exact Or.inl c38 | exact Or.inr c47)]
        exact j_iret hJ dX5_copyElements_52 ⟨by rw [e], by rw [e]; exact hQ.c⟩
      · refine j_p (nx := 43) hJ dX5_copyElements_41 rfl rfl ?_
        refine j_get (nx := 46) hJ dX5_copyElements_43 rfl fX5_276 (by repeat (first | assumption | exact gup_same _ _ _ | rw [gup_ne _ _ (by first | decide | assumption | omega)])) (by rfl) ?_
        refine j_c (nx := 47) hJ dX5_copyElements_46 rfl gk_iconst_m1 ?_
        refine j_ic_ne (nx := 50) (tgt := 53) hJ dX5_copyElements_47 rfl (by decide) (fun c47 => ?_) (fun c47 => ?_)
        · refine j_p (nx := 55) hJ dX5_copyElements_53 rfl rfl ?_
          refine j_get (nx := 58) hJ dX5_copyElements_55 rfl fX5_276 (by repeat (first | assumption | exact gup_same _ _ _ | rw [gup_ne _ _ (by first | decide | assumption | omega)])) (by rfl) ?_
          refine j_p (nx := 60) hJ dX5_copyElements_58 rfl rfl ?_
          refine j_get (nx := 63) hJ dX5_copyElements_60 rfl fX5_276 (by repeat (first | assumption | exact gup_same _ _ _ | rw [gup_ne _ _ (by first | decide | assumption | omega)])) (by rfl) ?_
          refine j_ic_eq (nx := 66) (tgt := 69) hJ dX5_copyElements_63 rfl (by decide) (fun c63 => ?_) (fun c63 => ?_)
          · refine j_p (nx := 71) hJ dX5_copyElements_69 rfl rfl ?_
            refine j_get (nx := 74) hJ dX5_copyElements_71 rfl fX5_279 (by repeat (first | assumption | exact gup_same _ _ _ | rw [gup_ne _ _ (by first | decide | assumption | omega)])) (by rfl) ?_
            refine j_p (nx := 75) hJ dX5_copyElements_74 rfl rfl ?_
            refine j_p (nx := 77) hJ dX5_copyElements_75 rfl rfl ?_
            refine j_cvR (nx := 80) hJ dX5_copyElements_77 rfl (r_hasRange (fl := false) (d := d + 58) hT i c) mX5_292 (by repeat (first | assumption | exact gup_same _ _ _ | rw [gup_ne _ _ (by first | decide | assumption | omega)])) kX2_hasRange rfl (gle8 rfl) ?_
            refine j_if_eq (nx := 83) (tgt := 98) hJ dX5_copyElements_80 rfl (by decide) (fun c80 => ?_) (fun c80 => ?_)
            · refine j_c (nx := 100) hJ dX5_copyElements_98 rfl gk_bipush_m13 ?_
              first | rw [gb_f] at c80 | skip
              first | rw [gb_f] at c95 | skip
              have e : s_copyElements R N (nI r) i (nI s) j c = (-13, R, N) := by unfold s_copyElements; rw [if_pos ⟨hx, hy⟩, egt, egt2, if_neg (fun q => q.elim c38 c47), if_pos c63, ege, ege2, if_neg (fun q => by first | (rw [c80] at q; exact absurd q.1 (by decide)) | (rw [c95] at q; exact absurd q.2 (by decide)))]
              exact j_iret hJ dX5_copyElements_100 ⟨by rw [e], by rw [e]; exact hQ.c⟩
            · refine j_p (nx := 85) hJ dX5_copyElements_83 rfl rfl ?_
              refine j_get (nx := 88) hJ dX5_copyElements_85 rfl fX5_279 (by repeat (first | assumption | exact gup_same _ _ _ | rw [gup_ne _ _ (by first | decide | assumption | omega)])) (by rfl) ?_
              refine j_p (nx := 90) hJ dX5_copyElements_88 rfl rfl ?_
              refine j_p (nx := 92) hJ dX5_copyElements_90 rfl rfl ?_
              refine j_cvR (nx := 95) hJ dX5_copyElements_92 rfl (r_hasRange (fl := false) (d := d + 58) hU j c) mX5_292 (by repeat (first | assumption | exact gup_same _ _ _ | rw [gup_ne _ _ (by first | decide | assumption | omega)])) kX2_hasRange rfl (gle8 rfl) ?_
              refine j_if_ne (nx := 98) (tgt := 101) hJ dX5_copyElements_95 rfl (by decide) (fun c95 => ?_) (fun c95 => ?_)
              · rw [gb_t] at c80 c95
                obtain ⟨i1, c1, rfl, rfl, hic⟩ := gRng_spec c80
                obtain ⟨j1, c2, rfl, hc2, hjc⟩ := gRng_spec c95
                have hc12 : c1 = c2 := (gneq (by omega) (by omega)).mp hc2
                subst hc12
                obtain ⟨hT1, hT2, hT3, hT4, f, hT5, hT6⟩ := id hT
                obtain ⟨hU1, hU2, hU3, hU4, g, hU5, hU6⟩ := id hU
                refine j_p (nx := 103) hJ dX5_copyElements_101 rfl rfl ?_
                refine j_get (nx := 106) hJ dX5_copyElements_103 rfl fX5_279 (by repeat (first | assumption | exact gup_same _ _ _ | rw [gup_ne _ _ (by first | decide | assumption | omega)])) (by rfl) ?_
                refine j_get (nx := 109) hJ dX5_copyElements_106 rfl fX5_295 (by repeat (first | assumption | exact gup_same _ _ _ | rw [gup_ne _ _ (by first | decide | assumption | omega)])) (by rfl) ?_
                refine j_p (nx := 110) hJ dX5_copyElements_109 rfl rfl ?_
                refine j_p (nx := 112) hJ dX5_copyElements_110 rfl rfl ?_
                refine j_get (nx := 115) hJ dX5_copyElements_112 rfl fX5_279 (by repeat (first | assumption | exact gup_same _ _ _ | rw [gup_ne _ _ (by first | decide | assumption | omega)])) (by rfl) ?_
                refine j_get (nx := 118) hJ dX5_copyElements_115 rfl fX5_295 (by repeat (first | assumption | exact gup_same _ _ _ | rw [gup_ne _ _ (by first | decide | assumption | omega)])) (by rfl) ?_
                refine j_p (nx := 120) hJ dX5_copyElements_118 rfl rfl ?_
                refine j_p (nx := 122) hJ dX5_copyElements_120 rfl rfl ?_
                refine j_acp (nx := 125) hJ i1 j1 c1 dX5_copyElements_122 rfl mX5_299 (gle8 rfl) hT5 hU5 rfl rfl rfl (by omega) (by omega) (by omega) (by omega) ?_
                have hR2 := gcpl_row (h := h) hU1 hU2 hU3 hU4 hT6 hU6 (s := i1) (t := j1) (c := c1) hic hjc
                have hQ2 := hQ.row (r := 88 + 3 * s) (by unfold gisR; omega) (by rw [show gcp (88 + 3 * s) = 40 by unfold gcp; rw [if_neg (by omega), if_pos (by omega)]]; exact hR2) (gup_fr h (88 + 3 * s) (88 + 3 * s + 1) _)
                refine j_p (nx := 127) hJ dX5_copyElements_125 rfl rfl ?_
                have e : s_copyElements R N (nI r) (nI i1) (nI s) (nI j1) (nI c1) = (nI c1, gU R (88 + 3 * s) (gcpl (R (88 + 3 * r)) (R (88 + 3 * s)) i1 j1 c1), N) := by unfold s_copyElements; rw [if_pos ⟨hx, hy⟩, egt, egt2, if_neg (fun q => q.elim c38 c47), if_pos c63, ege, ege2, if_pos ⟨c80, c95⟩, nI_toInt (by omega), nI_toInt (by omega), nI_toInt (by omega)]; rfl
                exact j_iret hJ dX5_copyElements_127 ⟨by rw [e], by rw [e]; exact hQ2.c⟩
              · refine j_c (nx := 100) hJ dX5_copyElements_98 rfl gk_bipush_m13 ?_
                first | rw [gb_f] at c80 | skip
                first | rw [gb_f] at c95 | skip
                have e : s_copyElements R N (nI r) i (nI s) j c = (-13, R, N) := by unfold s_copyElements; rw [if_pos ⟨hx, hy⟩, egt, egt2, if_neg (fun q => q.elim c38 c47), if_pos c63, ege, ege2, if_neg (fun q => by first | (rw [c80] at q; exact absurd q.1 (by decide)) | (rw [c95] at q; exact absurd q.2 (by decide)))]
                exact j_iret hJ dX5_copyElements_100 ⟨by rw [e], by rw [e]; exact hQ.c⟩
          · refine j_c (nx := 68) hJ dX5_copyElements_66 rfl gk_bipush_m12 ?_
            have e : s_copyElements R N (nI r) i (nI s) j c = (-12, R, N) := by unfold s_copyElements; rw [if_pos ⟨hx, hy⟩, egt, egt2, if_neg (fun q => q.elim c38 c47), if_neg c63]
            exact j_iret hJ dX5_copyElements_68 ⟨by rw [e], by rw [e]; exact hQ.c⟩
        · refine j_c (nx := 52) hJ dX5_copyElements_50 rfl gk_bipush_m11 ?_
          have e : s_copyElements R N (nI r) i (nI s) j c = (-11, R, N) := by unfold s_copyElements; rw [if_pos ⟨hx, hy⟩, egt, egt2, if_pos (by first | exact Or.inl c38 | exact Or.inr c47)]
          exact j_iret hJ dX5_copyElements_52 ⟨by rw [e], by rw [e]; exact hQ.c⟩
    · refine j_p (nx := 1) hJ dX5_copyElements_0 rfl rfl ?_
      refine j_csR (nx := 4) hJ dX5_copyElements_1 rfl (r_isSlot (fl := false) (d := d + 58) _) mX5_273 rfl (gle8 rfl) ?_
      rw [show gbt _ 4 = true from hx]
      refine j_if_eq (nx := 7) (tgt := 14) hJ dX5_copyElements_4 rfl (by decide) (fun c4 => absurd c4 (by decide)) (fun c4 => ?_)
      refine j_p (nx := 8) hJ dX5_copyElements_7 rfl rfl ?_
      refine j_csR (nx := 11) hJ dX5_copyElements_8 rfl (r_isSlot (fl := false) (d := d + 58) _) mX5_273 rfl (gle8 rfl) ?_
      rw [show gbt _ 4 = false from Bool.eq_false_iff.mpr hy]
      refine j_if_ne (nx := 14) (tgt := 16) hJ dX5_copyElements_11 rfl (by decide) (fun c11 => absurd c11 (by decide)) (fun c11 => ?_)
      refine j_c (nx := 15) hJ dX5_copyElements_14 rfl gk_iconst_m1 ?_
      have e : s_copyElements R N (nI r) i y j c = (-1, R, N) := if_neg (fun q => hy q.2)
      exact j_iret hJ dX5_copyElements_15 ⟨by rw [e], by rw [e]; exact hQ.c⟩
  · refine j_p (nx := 1) hJ dX5_copyElements_0 rfl rfl ?_
    refine j_csR (nx := 4) hJ dX5_copyElements_1 rfl (r_isSlot (fl := false) (d := d + 58) _) mX5_273 rfl (gle8 rfl) ?_
    rw [show gbt _ 4 = false from Bool.eq_false_iff.mpr hx]
    refine j_if_eq (nx := 7) (tgt := 14) hJ dX5_copyElements_4 rfl (by decide) (fun c4 => ?_) (fun c4 => absurd c4 (by decide))
    refine j_c (nx := 15) hJ dX5_copyElements_14 rfl gk_iconst_m1 ?_
    have e : s_copyElements R N x i y j c = (-1, R, N) := if_neg (fun q => hx q.1)
    exact j_iret hJ dX5_copyElements_15 ⟨by rw [e], by rw [e]; exact hQ.c⟩
set_option maxHeartbeats 4000000 in
theorem r_loadPattern {fl : Bool} {d : Nat} {h0 h : GH} {R : Nat → List Int32} {N : Nat → Int32} (hQ : gQ h0 h R N) (x y : Int32) : gN fl (d + 60) yX5_loadPattern [.ref 0, .int x, .int y] h (fun o h' => o = some (.int (s_loadPattern R N x y).1) ∧ gC h0 h' (s_loadPattern R N x y).2.1 (s_loadPattern R N x y).2.2) := by
  have q0 := hQ.1.1
  have q1 := hQ.1.2.1.1
  have q2 := hQ.1.2.1.2.1
  have q3 := hQ.1.2.1.2.2.1
  have q4 := hQ.1.2.1.2.2.2
  have q75 := hQ.1.2.2.2.1
  have q80 := hQ.1.2.2.2.2.2.1.1
  obtain ⟨_, _, _, _, _, _, q76x⟩ := id hQ.1.2.2.2.2.2.2.1
  have q76 := q76x.1
  refine gN.of MX5_loadPattern (Nat.le_of_ble_eq_true rfl) (fun J n hJ => ?_)
  show J 0 [some (.ref 0), some (.int x), some (.int y)] [] h (n, 0, 0, fl)
  by_cases hx : gbt x 6 = true
  · obtain ⟨r, rfl, hr⟩ := gbt_spec hx
    have egr := gr_nI (r := r) (by omega)
    by_cases hy : gbt y 4 = true
    · obtain ⟨s, rfl, hs⟩ := gbt_spec hy
      have ege2 := ge_nI (r := s) (by omega)
      have egt2 := gt_nI (r := s) (by omega)
      refine j_p (nx := 1) hJ dX5_loadPattern_0 rfl rfl ?_
      refine j_csR (nx := 4) hJ dX5_loadPattern_1 rfl (r_isRegister (fl := fl) (d := d + 58) _) mX5_112 rfl (gle8 rfl) ?_
      rw [show gbt _ 6 = true from hx]
      refine j_if_ne (nx := 7) (tgt := 10) hJ dX5_loadPattern_4 rfl (by decide) (fun c4 => ?_) (fun c4 => absurd c4 (by decide))
      refine j_p (nx := 11) hJ dX5_loadPattern_10 rfl rfl ?_
      refine j_csR (nx := 14) hJ dX5_loadPattern_11 rfl (r_isSlot (fl := fl) (d := d + 58) _) mX5_273 rfl (gle8 rfl) ?_
      rw [show gbt _ 4 = true from hy]
      refine j_if_ne (nx := 17) (tgt := 19) hJ dX5_loadPattern_14 rfl (by decide) (fun c14 => ?_) (fun c14 => absurd c14 (by decide))
      refine j_p (nx := 20) hJ dX5_loadPattern_19 rfl rfl ?_
      refine j_get (nx := 23) hJ dX5_loadPattern_20 rfl fX5_36 (by repeat (first | assumption | exact gup_same _ _ _ | rw [gup_ne _ _ (by first | decide | assumption | omega)])) (by rfl) ?_
      refine j_p (nx := 24) hJ dX5_loadPattern_23 rfl rfl ?_
      refine j_aald (j := s) (nx := 25) hJ dX5_loadPattern_24 rfl q75 rfl (by omega) (by decide) (by decide) rfl ?_
      have hTs := hQ.1.2.2.2.2.1 s (by omega)
      have hT := hQ.r (r := 88 + 3 * s) (by unfold gisR; omega)
      rw [show gcp (88 + 3 * s) = 40 by unfold gcp; rw [if_neg (by omega), if_pos (by omega)]] at hT
      have hTr := hT.2.2.2.1
      have hTl := hT.2.1
      refine j_get (nx := 28) hJ dX5_loadPattern_25 rfl fX5_276 (by repeat (first | assumption | exact gup_same _ _ _ | rw [gup_ne _ _ (by first | decide | assumption | omega)])) (by rfl) ?_
      refine j_c (nx := 29) hJ dX5_loadPattern_28 rfl gk_iconst_m1 ?_
      refine j_ic_ne (nx := 32) (tgt := 35) hJ dX5_loadPattern_29 rfl (by decide) (fun c29 => ?_) (fun c29 => ?_)
      · refine j_p (nx := 36) hJ dX5_loadPattern_35 rfl rfl ?_
        refine j_get (nx := 39) hJ dX5_loadPattern_36 rfl fX5_36 (by repeat (first | assumption | exact gup_same _ _ _ | rw [gup_ne _ _ (by first | decide | assumption | omega)])) (by rfl) ?_
        refine j_p (nx := 40) hJ dX5_loadPattern_39 rfl rfl ?_
        refine j_aald (j := s) (nx := 41) hJ dX5_loadPattern_40 rfl q75 rfl (by omega) (by decide) (by decide) rfl ?_
        refine j_get (nx := 44) hJ dX5_loadPattern_41 rfl fX5_276 (by repeat (first | assumption | exact gup_same _ _ _ | rw [gup_ne _ _ (by first | decide | assumption | omega)])) (by rfl) ?_
        refine j_c (nx := 45) hJ dX5_loadPattern_44 rfl gk_iconst_1 ?_
        refine j_ic_eq (nx := 48) (tgt := 51) hJ dX5_loadPattern_45 rfl (by decide) (fun c45 => ?_) (fun c45 => ?_)
        · refine j_p (nx := 52) hJ dX5_loadPattern_51 rfl rfl ?_
          refine j_p (nx := 53) hJ dX5_loadPattern_52 rfl rfl ?_
          refine j_get (nx := 56) hJ dX5_loadPattern_53 rfl fX5_36 (by repeat (first | assumption | exact gup_same _ _ _ | rw [gup_ne _ _ (by first | decide | assumption | omega)])) (by rfl) ?_
          refine j_p (nx := 57) hJ dX5_loadPattern_56 rfl rfl ?_
          refine j_aald (j := s) (nx := 58) hJ dX5_loadPattern_57 rfl q75 rfl (by omega) (by decide) (by decide) rfl ?_
          refine j_get (nx := 61) hJ dX5_loadPattern_58 rfl fX5_279 (by repeat (first | assumption | exact gup_same _ _ _ | rw [gup_ne _ _ (by first | decide | assumption | omega)])) (by rfl) ?_
          refine j_cv (nx := 64) hJ dX5_loadPattern_61 rfl (r_readPattern (fl := fl) (d := d + 53) hQ (r := 88 + 3 * s) (by unfold gisR; omega) (by omega)) mX5_78 (by repeat (first | assumption | exact gup_same _ _ _ | rw [gup_ne _ _ (by first | decide | assumption | omega)])) kX5_readPattern rfl (gle8 rfl) (fun o h1 hp => ?_)
          obtain ⟨rfl, l, hQ1, hl⟩ := hp
          have q01 := hQ1.1.1
          refine j_if_eq (nx := 67) (tgt := 79) hJ dX5_loadPattern_64 rfl (by decide) (fun c64 => ?_) (fun c64 => ?_)
          · refine j_c (nx := 81) hJ dX5_loadPattern_79 rfl gk_bipush_m5 ?_
            have hg := gsome_f c64
            have e : s_loadPattern R N (nI r) (nI s) = (-5, R, N) := by unfold s_loadPattern; rw [if_pos hx, if_pos hy, egt2, if_neg c29, if_pos c45, ege2, hg]
            exact j_iret hJ dX5_loadPattern_81 ⟨by rw [e], by rw [e]; exact hQ1.cc (fun a p1 p2 p3 => by simp [gU, p1, p2, p3]) (fun _ _ => rfl)⟩
          · obtain ⟨t, hg⟩ := gsome_t c64
            have hlt := hl t hg
            subst hlt
            refine j_p (nx := 68) hJ dX5_loadPattern_67 rfl rfl ?_
            refine j_p (nx := 69) hJ dX5_loadPattern_68 rfl rfl ?_
            refine j_p (nx := 70) hJ dX5_loadPattern_69 rfl rfl ?_
            refine j_get (nx := 73) hJ dX5_loadPattern_70 rfl fX5_54 (by repeat (first | assumption | exact gup_same _ _ _ | rw [gup_ne _ _ (by first | decide | assumption | omega)])) (by rfl) ?_
            refine j_cv (nx := 76) hJ dX5_loadPattern_73 rfl (r_store (fl := fl) (d := d + 56) hQ1 hr (q := 83) (by unfold gisR; omega) (by omega) (by omega)) mX5_115 (by repeat (first | assumption | exact gup_same _ _ _ | rw [gup_ne _ _ (by first | decide | assumption | omega)])) kX5_store rfl (gle8 rfl) (fun o h2 hp => ?_)
            obtain ⟨rfl, hQ2⟩ := hp
            refine j_go (tgt := 81) hJ dX5_loadPattern_76 (by decide) ?_
            have e : s_loadPattern R N (nI r) (nI s) = (nI l.length, gU R (5 + 2 * r) l, N) := by unfold s_loadPattern; rw [if_pos hx, if_pos hy, egt2, if_neg c29, if_pos c45, ege2, egr, hg]
            exact j_iret hJ dX5_loadPattern_81 ⟨by rw [e, gU_s], by rw [e]; exact hQ2.cc (fun a p1 p2 p3 => by simp [gU, p1, p2, p3]) (fun _ _ => rfl)⟩
        · refine j_c (nx := 50) hJ dX5_loadPattern_48 rfl gk_bipush_m12 ?_
          have e : s_loadPattern R N (nI r) (nI s) = (-12, R, N) := by unfold s_loadPattern; rw [if_pos hx, if_pos hy, egt2, if_neg c29, if_neg c45]
          exact j_iret hJ dX5_loadPattern_50 ⟨by rw [e], by rw [e]; exact hQ.c⟩
      · refine j_c (nx := 34) hJ dX5_loadPattern_32 rfl gk_bipush_m11 ?_
        have e : s_loadPattern R N (nI r) (nI s) = (-11, R, N) := by unfold s_loadPattern; rw [if_pos hx, if_pos hy, egt2, if_pos c29]
        exact j_iret hJ dX5_loadPattern_34 ⟨by rw [e], by rw [e]; exact hQ.c⟩
    · refine j_p (nx := 1) hJ dX5_loadPattern_0 rfl rfl ?_
      refine j_csR (nx := 4) hJ dX5_loadPattern_1 rfl (r_isRegister (fl := fl) (d := d + 58) _) mX5_112 rfl (gle8 rfl) ?_
      rw [show gbt _ 6 = true from hx]
      refine j_if_ne (nx := 7) (tgt := 10) hJ dX5_loadPattern_4 rfl (by decide) (fun c4 => ?_) (fun c4 => absurd c4 (by decide))
      refine j_p (nx := 11) hJ dX5_loadPattern_10 rfl rfl ?_
      refine j_csR (nx := 14) hJ dX5_loadPattern_11 rfl (r_isSlot (fl := fl) (d := d + 58) _) mX5_273 rfl (gle8 rfl) ?_
      rw [show gbt _ 4 = false from Bool.eq_false_iff.mpr hy]
      refine j_if_ne (nx := 17) (tgt := 19) hJ dX5_loadPattern_14 rfl (by decide) (fun c14 => absurd c14 (by decide)) (fun c14 => ?_)
      refine j_c (nx := 18) hJ dX5_loadPattern_17 rfl gk_iconst_m1 ?_
      have e : s_loadPattern R N (nI r) y = (-1, R, N) := by unfold s_loadPattern; rw [if_pos hx, if_neg hy]
      exact j_iret hJ dX5_loadPattern_18 ⟨by rw [e], by rw [e]; exact hQ.c⟩
  · refine j_p (nx := 1) hJ dX5_loadPattern_0 rfl rfl ?_
    refine j_csR (nx := 4) hJ dX5_loadPattern_1 rfl (r_isRegister (fl := fl) (d := d + 58) _) mX5_112 rfl (gle8 rfl) ?_
    rw [show gbt _ 6 = false from Bool.eq_false_iff.mpr hx]
    refine j_if_ne (nx := 7) (tgt := 10) hJ dX5_loadPattern_4 rfl (by decide) (fun c4 => absurd c4 (by decide)) (fun c4 => ?_)
    refine j_c (nx := 9) hJ dX5_loadPattern_7 rfl gk_bipush_m2 ?_
    have e : s_loadPattern R N x y = (-2, R, N) := if_neg hx
    exact j_iret hJ dX5_loadPattern_9 ⟨by rw [e], by rw [e]; exact hQ.c⟩
set_option maxHeartbeats 4000000 in
theorem r_snapshot {fl : Bool} {d : Nat} {h0 h : GH} {R : Nat → List Int32} {N : Nat → Int32} (hQ : gQ h0 h R N) : gN fl (d + 60) yX5_snapshot [.ref 0] h (fun o h' => o = some (.int (s_snapshot R N).1) ∧ gC h0 h' (s_snapshot R N).2.1 (s_snapshot R N).2.2) := by
  have q0 := hQ.1.1
  have q1 := hQ.1.2.1.1
  have q2 := hQ.1.2.1.2.1
  have q3 := hQ.1.2.1.2.2.1
  have q4 := hQ.1.2.1.2.2.2
  have q75 := hQ.1.2.2.2.1
  have q80 := hQ.1.2.2.2.2.2.1.1
  obtain ⟨_, _, _, _, _, _, q76x⟩ := id hQ.1.2.2.2.2.2.2.1
  have q76 := q76x.1
  have q37 := hQ.1.2.2.1.1
  refine gN.of MX5_snapshot (Nat.le_of_ble_eq_true rfl) (fun J n hJ => ?_)
  show J 0 [some (.ref 0)] [] h (n, 0, 0, fl)
  refine j_p (nx := 1) hJ dX5_snapshot_0 rfl rfl ?_
  refine j_get (nx := 4) hJ dX5_snapshot_1 rfl fX5_18 (by repeat (first | assumption | exact gup_same _ _ _ | rw [gup_ne _ _ (by first | decide | assumption | omega)])) (by rfl) ?_
  refine j_p (nx := 5) hJ dX5_snapshot_4 rfl rfl ?_
  refine j_get (nx := 8) hJ dX5_snapshot_5 rfl fX5_12 (by repeat (first | assumption | exact gup_same _ _ _ | rw [gup_ne _ _ (by first | decide | assumption | omega)])) (by rfl) ?_
  refine j_cv (nx := 11) hJ dX5_snapshot_8 rfl (r_benchSetTo (fl := fl) (d := d + 55) (b := 37) (c := 1) hQ.1.2.2.1 (hQ.BR (b := 37) (by omega)) hQ.1.2.1 (hQ.BR (b := 1) (by omega)) (by omega)) mX5_305 (by repeat (first | assumption | exact gup_same _ _ _ | rw [gup_ne _ _ (by first | decide | assumption | omega)])) kX0_setTo rfl (gle8 rfl) (fun o h1 hp => ?_)
  obtain ⟨rfl, hB1, hR1, hF1⟩ := hp
  have hQ1 := hQ.ben (b := 37) (by omega) hB1 hR1 hF1
  have q01 := hQ1.1.1
  have q11 := hQ1.1.2.1.1
  refine j_p (nx := 12) hJ dX5_snapshot_11 rfl rfl ?_
  refine j_c (nx := 13) hJ dX5_snapshot_12 rfl gk_iconst_1 ?_
  refine j_put (nx := 16) hJ dX5_snapshot_13 rfl fX5_21 (zX5_2 true) q01 (Nat.le_of_ble_eq_true rfl) ?_
  have hQ2 := hQ1.sn 1
  have q02 := hQ2.1.1
  have q12 := hQ2.1.2.1.1
  refine j_p (nx := 17) hJ dX5_snapshot_16 rfl rfl ?_
  refine j_get (nx := 20) hJ dX5_snapshot_17 rfl fX5_12 (by repeat (first | assumption | exact gup_same _ _ _ | rw [gup_ne _ _ (by first | decide | assumption | omega)])) (by rfl) ?_
  refine j_get (nx := 23) hJ dX5_snapshot_20 rfl fX5_230 (by repeat (first | assumption | exact gup_same _ _ _ | rw [gup_ne _ _ (by first | decide | assumption | omega)])) (by rfl) ?_
  exact j_iret hJ dX5_snapshot_23 ⟨rfl, hQ2.c⟩
set_option maxHeartbeats 4000000 in
theorem r_restore {fl : Bool} {d : Nat} {h0 h : GH} {R : Nat → List Int32} {N : Nat → Int32} (hQ : gQ h0 h R N) : gN fl (d + 60) yX5_restore [.ref 0] h (fun o h' => o = some (.int (s_restore R N).1) ∧ gC h0 h' (s_restore R N).2.1 (s_restore R N).2.2) := by
  have q0 := hQ.1.1
  have q1 := hQ.1.2.1.1
  have q2 := hQ.1.2.1.2.1
  have q3 := hQ.1.2.1.2.2.1
  have q4 := hQ.1.2.1.2.2.2
  have q75 := hQ.1.2.2.2.1
  have q80 := hQ.1.2.2.2.2.2.1.1
  obtain ⟨_, _, _, _, _, _, q76x⟩ := id hQ.1.2.2.2.2.2.2.1
  have q76 := q76x.1
  have q37 := hQ.1.2.2.1.1
  refine gN.of MX5_restore (Nat.le_of_ble_eq_true rfl) (fun J n hJ => ?_)
  show J 0 [some (.ref 0)] [] h (n, 0, 0, fl)
  refine j_p (nx := 1) hJ dX5_restore_0 rfl rfl ?_
  refine j_get (nx := 4) hJ dX5_restore_1 rfl fX5_21 (by repeat (first | assumption | exact gup_same _ _ _ | rw [gup_ne _ _ (by first | decide | assumption | omega)])) (by rfl) ?_
  refine j_if_ne (nx := 7) (tgt := 10) hJ dX5_restore_4 rfl (by decide) (fun c4 => ?_) (fun c4 => ?_)
  · refine j_p (nx := 11) hJ dX5_restore_10 rfl rfl ?_
    refine j_get (nx := 14) hJ dX5_restore_11 rfl fX5_12 (by repeat (first | assumption | exact gup_same _ _ _ | rw [gup_ne _ _ (by first | decide | assumption | omega)])) (by rfl) ?_
    refine j_p (nx := 15) hJ dX5_restore_14 rfl rfl ?_
    refine j_get (nx := 18) hJ dX5_restore_15 rfl fX5_18 (by repeat (first | assumption | exact gup_same _ _ _ | rw [gup_ne _ _ (by first | decide | assumption | omega)])) (by rfl) ?_
    refine j_cv (nx := 21) hJ dX5_restore_18 rfl (r_benchSetTo (fl := fl) (d := d + 55) (b := 1) (c := 37) hQ.1.2.1 (hQ.BR (b := 1) (by omega)) hQ.1.2.2.1 (hQ.BR (b := 37) (by omega)) (by omega)) mX5_305 (by repeat (first | assumption | exact gup_same _ _ _ | rw [gup_ne _ _ (by first | decide | assumption | omega)])) kX0_setTo rfl (gle8 rfl) (fun o h1 hp => ?_)
    obtain ⟨rfl, hB1, hR1, hF1⟩ := hp
    have hQ1 := hQ.ben (b := 1) (by omega) hB1 hR1 hF1
    have q01 := hQ1.1.1
    have q11 := hQ1.1.2.1.1
    refine j_p (nx := 22) hJ dX5_restore_21 rfl rfl ?_
    refine j_get (nx := 25) hJ dX5_restore_22 rfl fX5_12 (by repeat (first | assumption | exact gup_same _ _ _ | rw [gup_ne _ _ (by first | decide | assumption | omega)])) (by rfl) ?_
    refine j_get (nx := 28) hJ dX5_restore_25 rfl fX5_230 (by repeat (first | assumption | exact gup_same _ _ _ | rw [gup_ne _ _ (by first | decide | assumption | omega)])) (by rfl) ?_
    have e : s_restore R N = (N 38, gUb R 1 (fun i => R (41 + 2 * i)) (fun i => R (53 + 2 * i)) (fun i => R (61 + 2 * i)), gU (gU N 1 (N 37)) 2 (N 38)) := if_neg c4
    exact j_iret hJ dX5_restore_28 ⟨by rw [e]; rfl, by rw [e]; exact hQ1.c⟩
  · refine j_c (nx := 9) hJ dX5_restore_7 rfl gk_bipush_m6 ?_
    have e : s_restore R N = (-6, R, N) := if_pos c4
    exact j_iret hJ dX5_restore_9 ⟨by rw [e], by rw [e]; exact hQ.c⟩
