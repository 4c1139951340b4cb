theorem gsubL {a b : Nat} (ha : a ≤ 100000) (hb : b ≤ 100000) : (nI a - nI b).toInt = (a : Int) - b := by
  rw [Int32.toInt_sub, nI_toInt (by omega), nI_toInt (by omega), Int.bmod_eq_of_le] <;> simp <;> omega
set_option maxHeartbeats 8000000 in
/-- the whole law, in the small machine -/
theorem law_runs {J : JT} {P : RT} {L : Nat} {xs : Nat → Int32} (hJ : gCl RL cL_law (some .boolean) false (gRuns 60) J P) (hs : gScr J L xs) (hn : gSln J L) (hL : L ≤ 3072) (hP : ∀ h e, P (some (.int 1)) h e) : J 0 [some (.ref 1000300), none, none, none] [] (fun _ => none) (0, 130, 1254, true) := by
  have loop : ∀ i, i ≤ L / 6 → ∀ h, gSim h → J 18 [some (.ref 1000300), some (.ref 0), some (.ref 99), some (.int (nI (6 * i)))] [] h (130, 0, 0, false) := by
    refine gloop _ _ (fun i hi ih h hM => ?_)
    refine j_p (nx := 19) hJ dL_law_18 rfl rfl ?_
    refine j_p (nx := 20) hJ dL_law_19 rfl rfl ?_
    refine hn 20 21 _ _ _ _ dL_law_20 rfl ?_
    refine j_c (nx := 23) hJ dL_law_21 rfl gk_bipush_6 ?_
    refine j_p (nx := 24) hJ dL_law_23 rfl rfl ?_
    have hx : (nI (6 * i)).toInt = (6 * i : Nat) := nI_toInt (by omega)
    have hy : (nI L - 6 : Int32).toInt = (L : Int) - 6 := gsubL (b := 6) (by omega) (by omega)
    refine j_ic_gt (nx := 27) (tgt := 1467) hJ dL_law_24 rfl (by decide) (fun c24 => ?_) (fun c24 => ?_)
    · refine j_c (nx := 1468) hJ dL_law_1467 rfl gk_iconst_1 ?_
      exact hJ 36 _ _ _ _ _ dL_law_1468 ⟨.boolean, rfl, rfl⟩ (hP _ _)
    rw [Int32.lt_iff_toInt_lt, hx, hy] at c24
    have hi6 : 6 * i + 6 ≤ L := by omega
    have next : ∀ h, gSim h → J 1461 [some (.ref 1000300), some (.ref 0), some (.ref 99), some (.int (nI (6 * i)))] [] h (130, 0, 0, false) := by
      intro h9 hM9
      refine j_inc (nx := 1464) hJ dL_law_1461 rfl rfl (show nI (6 * i) + Int32.ofInt 6 = nI (6 * (i + 1)) from by rw [show Int32.ofInt 6 = nI 6 from rfl, gadd]; congr 1) rfl ?_
      refine j_go (tgt := 18) hJ dL_law_1464 (by decide) ?_
      exact ih (by omega) h9 hM9
    refine j_p (nx := 28) hJ dL_law_27 rfl rfl ?_
    refine j_p (nx := 29) hJ dL_law_28 rfl rfl ?_
    refine hs 29 30 (6 * i) _ _ _ _ _ dL_law_29 rfl rfl (by omega) ?_
    refine j_c (nx := 32) hJ dL_law_30 rfl gk_bipush_63 ?_
    refine j_p (nx := 33) hJ dL_law_32 rfl rfl ?_
    generalize (xs (6 * i) &&& 63) = w
    by_cases hw : w.toInt < 0 ∨ 39 < w.toInt
    · exact j_tbO (tgt := 1461) hJ dL_law_33 hw (by decide) (next h hM)
    obtain ⟨n, hwn⟩ : ∃ n : Nat, w.toInt = (n : Int) := ⟨w.toInt.toNat, by omega⟩
    have hn40 : n < 40 := by omega
    have go := fun (off : Int) (tgt : Nat) ho ht k => j_tbI (x := w) (off := off) (tgt := tgt) (ls := [some (.ref 1000300), some (.ref 0), some (.ref 99), some (.int (nI (6 * i)))]) (st := []) (h := h) (e := (130, 0, 0, false)) hJ dL_law_33 (by omega) (by omega) ho ht k
    rcases (show n = 0 ∨ n = 1 ∨ n = 2 ∨ n = 3 ∨ n = 4 ∨ n = 5 ∨ n = 6 ∨ n = 7 ∨ n = 8 ∨ n = 9 ∨ n = 10 ∨ n = 11 ∨ n = 12 ∨ n = 13 ∨ n = 14 ∨ n = 15 ∨ n = 16 ∨ n = 17 ∨ n = 18 ∨ n = 19 ∨ n = 20 ∨ n = 21 ∨ n = 22 ∨ n = 23 ∨ n = 24 ∨ n = 25 ∨ n = 26 ∨ n = 27 ∨ n = 28 ∨ n = 29 ∨ n = 30 ∨ n = 31 ∨ n = 32 ∨ n = 33 ∨ n = 34 ∨ n = 35 ∨ n = 36 ∨ n = 37 ∨ n = 38 ∨ n = 39 by omega) with rfl | rfl | rfl | rfl | rfl | rfl | rfl | rfl | rfl | rfl | rfl | rfl | rfl | rfl | rfl | rfl | rfl | rfl | rfl | rfl | rfl | rfl | rfl | rfl | rfl | rfl | rfl | rfl | rfl | rfl | rfl | rfl | rfl | rfl | rfl | rfl | rfl | rfl | rfl | rfl
    · exact go 175 208 (by rw [hwn]; rfl) (by decide) (lo_0 hJ hs hi6 next hM)
    · exact go 198 231 (by rw [hwn]; rfl) (by decide) (lo_1 hJ hs hi6 next hM)
    · exact go 211 244 (by rw [hwn]; rfl) (by decide) (lo_2 hJ hs hi6 next hM)
    · exact go 244 277 (by rw [hwn]; rfl) (by decide) (lo_3 hJ hs hi6 next hM)
    · exact go 257 290 (by rw [hwn]; rfl) (by decide) (lo_4 hJ hs hi6 next hM)
    · exact go 280 313 (by rw [hwn]; rfl) (by decide) (lo_5 hJ hs hi6 next hM)
    · exact go 313 346 (by rw [hwn]; rfl) (by decide) (lo_6 hJ hs hi6 next hM)
    · exact go 336 369 (by rw [hwn]; rfl) (by decide) (lo_7 hJ hs hi6 next hM)
    · exact go 369 402 (by rw [hwn]; rfl) (by decide) (lo_8 hJ hs hi6 next hM)
    · exact go 392 425 (by rw [hwn]; rfl) (by decide) (lo_9 hJ hs hi6 next hM)
    · exact go 425 458 (by rw [hwn]; rfl) (by decide) (lo_10 hJ hs hi6 next hM)
    · exact go 458 491 (by rw [hwn]; rfl) (by decide) (lo_11 hJ hs hi6 next hM)
    · exact go 501 534 (by rw [hwn]; rfl) (by decide) (lo_12 hJ hs hi6 next hM)
    · exact go 544 577 (by rw [hwn]; rfl) (by decide) (lo_13 hJ hs hi6 next hM)
    · exact go 577 610 (by rw [hwn]; rfl) (by decide) (lo_14 hJ hs hi6 next hM)
    · exact go 600 633 (by rw [hwn]; rfl) (by decide) (lo_15 hJ hs hi6 next hM)
    · exact go 633 666 (by rw [hwn]; rfl) (by decide) (lo_16 hJ hs hi6 next hM)
    · exact go 666 699 (by rw [hwn]; rfl) (by decide) (lo_17 hJ hs hi6 next hM)
    · exact go 699 732 (by rw [hwn]; rfl) (by decide) (lo_18 hJ hs hi6 next hM)
    · exact go 722 755 (by rw [hwn]; rfl) (by decide) (lo_19 hJ hs hi6 next hM)
    · exact go 755 788 (by rw [hwn]; rfl) (by decide) (lo_20 hJ hs hi6 next hM)
    · exact go 778 811 (by rw [hwn]; rfl) (by decide) (lo_21 hJ hs hi6 next hM)
    · exact go 791 824 (by rw [hwn]; rfl) (by decide) (lo_22 hJ hs hi6 next hM)
    · exact go 814 847 (by rw [hwn]; rfl) (by decide) (lo_23 hJ hs hi6 next hM)
    · exact go 827 860 (by rw [hwn]; rfl) (by decide) (lo_24 hJ hs hi6 next hM)
    · exact go 851 884 (by rw [hwn]; rfl) (by decide) (lo_25 hJ hs hi6 next hM)
    · exact go 884 917 (by rw [hwn]; rfl) (by decide) (lo_26 hJ hs hi6 next hM)
    · exact go 927 960 (by rw [hwn]; rfl) (by decide) (lo_27 hJ hs hi6 next hM)
    · exact go 970 1003 (by rw [hwn]; rfl) (by decide) (lo_28 hJ hs hi6 next hM)
    · exact go 1013 1046 (by rw [hwn]; rfl) (by decide) (lo_29 hJ hs hi6 next hM)
    · exact go 1036 1069 (by rw [hwn]; rfl) (by decide) (lo_30 hJ hs hi6 next hM)
    · exact go 1079 1112 (by rw [hwn]; rfl) (by decide) (lo_31 hJ hs hi6 next hM)
    · exact go 1133 1166 (by rw [hwn]; rfl) (by decide) (lo_32 hJ hs hi6 next hM)
    · exact go 1176 1209 (by rw [hwn]; rfl) (by decide) (lo_33 hJ hs hi6 next hM)
    · exact go 1199 1232 (by rw [hwn]; rfl) (by decide) (lo_34 hJ hs hi6 next hM)
    · exact go 1272 1305 (by rw [hwn]; rfl) (by decide) (lo_35 hJ hs hi6 next hM)
    · exact go 1306 1339 (by rw [hwn]; rfl) (by decide) (lo_36 hJ hs hi6 next hM)
    · exact go 1369 1402 (by rw [hwn]; rfl) (by decide) (lo_37 hJ hs hi6 next hM)
    · exact go 1402 1435 (by rw [hwn]; rfl) (by decide) (lo_38 hJ hs hi6 next hM)
    · exact go 1415 1448 (by rw [hwn]; rfl) (by decide) (lo_39 hJ hs hi6 next hM)
  refine j_new (nx := 3) hJ 129 1245 dL_law_0 rfl (show gNew RL 7 5 9 _ from wL_7) rfl rfl (by omega) ?_
  refine j_p (nx := 4) hJ dL_law_3 rfl rfl ?_
  refine j_mk (nx := 7) hJ 27 610 dL_law_4 rfl (r_mkClass (d := 54) (gup_same _ _ _)) mL_9 rfl (gle8 rfl) rfl rfl (fun h1 hp => ?_)
  obtain ⟨hK, ho⟩ := hp
  refine j_p (nx := 8) hJ dL_law_7 rfl rfl ?_
  refine j_newG (nx := 11) hJ 99 26 568 dL_law_8 rfl (show gNew RL 10 6 42 _ from wL_10) rfl rfl rfl (by omega) ?_
  refine j_p (nx := 12) hJ dL_law_11 rfl rfl ?_
  refine j_mk (nx := 15) hJ 0 0 dL_law_12 rfl (r_mkRef (d := 50) (gup_same _ _ _)) mL_12 rfl (gle8 rfl) rfl rfl (fun h2 hS => ?_)
  have hM : gSim h2 := ⟨gR0, gN0, ⟨hK.lo (fun a ha => (hS.fr a ha).trans (gup_ne _ _ (by omega))), fun _ _ => rfl⟩, hS.mv (fun _ _ => rfl), i_first⟩
  refine j_p (nx := 16) hJ dL_law_15 rfl rfl ?_
  refine j_c (nx := 17) hJ dL_law_16 rfl gk_iconst_0 ?_
  refine j_p (nx := 18) hJ dL_law_17 rfl rfl ?_
  exact loop 0 (Nat.zero_le _) h2 hM
