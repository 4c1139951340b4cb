/-! ===== writes, makings ===== -/
theorem gnf {base : Nat} {sp : Nat → Nat} {ty : FieldType} {v : Value} (h1 : narrow ty v = v) (h2 : fits ty v = true) : narrow ty (gmv base sp v) = gmv base sp v ∧ fits ty (gmv base sp v) = true := by
  cases v with
  | ref a => cases ty <;> first | exact ⟨rfl, rfl⟩ | cases h2
  | _ => exact ⟨h1, h2⟩
theorem gmap_noref {base : Nat} {sp : Nat → Nat} {fs : List Value} (h : ∀ v ∈ fs, ∀ a, v ≠ .ref a) : fs.map (gmv base sp) = fs := by
  induction fs with
  | nil => rfl
  | cons v r ih =>
    rw [List.map_cons, ih (fun w hw => h w (List.mem_cons_of_mem _ hw))]
    have h1 := h v List.mem_cons_self
    cases v with
    | ref a => exact absurd rfl (h1 a)
    | _ => rfl
section GRV
variable {base : Nat} {sp : Nat → Nat} {D : va_G} {cI cL : ClassId} {cQ : Nat → ClassId}
variable {p : Program} {l : Launch} {e : Env} {R : Room} {s : State} {m : MethodId} {args : Array Value} {below : List Frame} {meth : Method} {c : Code} {Q : State → Prop}
variable {own : String} {cc : ByteArray} {ret : Option FieldType} {ini : Bool} {call : CT} {P : RT} {nL : Nat}
theorem gcv_set (t j : Nat) (fs : List Value) (v : Value) : gcv base sp cI cL cQ (gob t (fs.set j v)) = .inr (t, (fs.map (gmv base sp)).set j (gmv base sp v)) := by
  show Sum.inr (t, (fs.set j v).map (gmv base sp)) = _
  rw [List.map_set]
theorem gs_15 (X : gCx base sp D cI cL cQ p s m args meth c own cc ini nL) : gRule own cc ret ini call (gJW base sp D cI cL cQ p l e R s m args below meth c nL Q) P 15 := by
  intro pc idx nx t j a fs v ls st h ge hd hn hF hFS ha hl hJ H locs cells slots arr ws hH hS hL hc hs
  subst hn
  obtain ⟨hx, hb, hml, hown, hts, hE, -⟩ := X
  obtain ⟨C, T, N, hcl, hj, hw⟩ := hF
  obtain ⟨C', T', N', ty, hcl', hfin, hpd, hnar, hfit⟩ := hFS
  cases hcl.symm.trans hcl'
  obtain ⟨hin, ty0, hty, hnm⟩ := gcl_all hcl
  obtain ⟨hn1, hf1⟩ := gnf (base := base) (sp := sp) hnar hfit
  obtain ⟨-, k, hk⟩ := hH.1 a _ ha
  have hap := va_apart (own := own) hts hin ty0 hty hnm hE.1 hcl
  obtain ⟨r, h1, cell, q1, q2, q3, q4⟩ := hH.2.1 k _ hk
  have hr : r = (C, T, N) := Option.some.inj (h1.symm.trans hcl)
  subst hr
  obtain ⟨hSl, hfc, kC, hkC, hkind⟩ := hE.1.1 t _ hcl
  obtain ⟨cf, kf, fi, f, hi, hsl⟩ := hSl j hj
  have hlay := hts _ (hin _ (u_in_lay hj))
  unfold u_lay at hlay
  rw [if_neg (by rw [hfin]; decide)] at hlay
  have hst := (u_facts hfc hkC (u_lays hts hin hj) hi).1
  have h6 := u_store hfc hkC hkind hlay hi hpd hn1 hf1
  refine W.putK hx hb (f := f) (v := gmv base sp v) ⟨hown, hts _ (gT_mem hw rfl), ⟨_, _, _, hi⟩, hst⟩ (by rw [q2]; exact h6) q1 q3 (by rw [hsl]; exact k2_hasslot (q4 j hj)) rfl rfl hd fun H' e1 e2 e3 => ?_
  rw [hsl] at e1 ⊢
  have hA := hH.2.2.1.2 k _ hk
  refine hJ H' _ cells slots arr _ (gHd.put (c1 := gob t (fs.set j v)) hH ha hk ?_ (hH.2.2.1.set hk) e2) (hS.put e2 e3 hA) hL hc hs
  rw [gcv_set]
  exact hH.2.1.set hH.2.2.1 hk ⟨_, hcl, t_OB.to (V := updV (vp_V (fs.map (gmv base sp))) j (gmv base sp v)) ⟨_, e1, q2, q3, t_set q4 hap hj _⟩ (fun i _ => vp_updV_set (by rw [List.length_map]; exact hl) _ i)⟩ e3
theorem gs_16 (X : gCx base sp D cI cL cQ p s m args meth c own cc ini nL) : gRule own cc ret ini call (gJW base sp D cI cL cQ p l e R s m args below meth c nL Q) P 16 := by
  intro pc idx nx t j a fs v ls st h ge hd hn hF hini hFS ha hl hJ H locs cells slots arr ws hH hS hL hc hs
  subst hn
  obtain ⟨hx, hb, hml, hown, hts, hE, -, hin2, -⟩ := X
  obtain ⟨C, T, N, hcl, hj, hw⟩ := hF
  obtain ⟨C', T', N', ty, hcl', hfin, hdecl, hpd, hnar, hfit⟩ := hFS
  cases hcl.symm.trans hcl'
  obtain ⟨hin, ty0, hty, hnm⟩ := gcl_all hcl
  obtain ⟨hn1, hf1⟩ := gnf (base := base) (sp := sp) hnar hfit
  obtain ⟨-, k, hk⟩ := hH.1 a _ ha
  have hap := va_apart (own := own) hts hin ty0 hty hnm hE.1 hcl
  obtain ⟨r, h1, cell, q1, q2, q3, q4⟩ := hH.2.1 k _ hk
  have hr : r = (C, T, N) := Option.some.inj (h1.symm.trans hcl)
  subst hr
  obtain ⟨hSl, hfc, kC, hkC, hkind⟩ := hE.1.1 t _ hcl
  obtain ⟨cf, kf, fi, f, hi, hsl⟩ := hSl j hj
  have hlay := hts _ (hin _ (u_in_lay hj))
  unfold u_lay at hlay
  rw [if_pos hfin] at hlay
  have hst := (u_facts hfc hkC (u_lays hts hin hj) hi).1
  have hcf : m.cls = cf := by
    obtain ⟨_, _, c', _, _, _, -, -, hf', -, -, -, hown2, -⟩ := Cond.laysFinal_spec hlay
    have e1 : c' = cf := by have := hi.symm.trans hf'; simp at this; exact this.1.symm
    rw [hdecl] at hown2
    rw [← e1]; exact Option.some.inj (hown.symm.trans hown2)
  have h6 := u_fits hfc hkC hkind (Or.inr hlay) hi hpd hn1 hf1
  refine W.putFinK hx hb (v := gmv base sp v) hown (hts _ (gT_mem hw rfl)) hi hst hcf (hin2 hini) (by rw [q2]; exact h6) q1 q3 (by rw [hsl]; exact k2_hasslot (q4 j hj)) rfl rfl hd fun H' e1 e2 e3 => ?_
  rw [hsl] at e1 ⊢
  have hA := hH.2.2.1.2 k _ hk
  refine hJ H' _ cells slots arr _ (gHd.put (c1 := gob t (fs.set j v)) hH ha hk ?_ (hH.2.2.1.set hk) e2) (hS.put e2 e3 hA) hL hc hs
  rw [gcv_set]
  exact hH.2.1.set hH.2.2.1 hk ⟨_, hcl, t_OB.to (V := updV (vp_V (fs.map (gmv base sp))) j (gmv base sp v)) ⟨_, e1, q2, q3, t_set q4 hap hj _⟩ (fun i _ => vp_updV_set (by rw [List.length_map]; exact hl) _ i)⟩ e3
theorem gs_17 (X : gCx base sp D cI cL cQ p s m args meth c own cc ini nL) : gRule own cc ret ini call (gJW base sp D cI cL cQ p l e R s m args below meth c nL Q) P 17 := by
  intro pc nx n a f i ls st h ge hd hn ha hv hJ H locs cells slots arr ws hH hS hL hc hs
  subst hn
  obtain ⟨hx, hb, hml, hown, hts, hE, -⟩ := X
  obtain ⟨-, k, hk⟩ := hH.1 a _ ha
  exact va_iald hx hb hE.1 hH.2.1 k 0 hk rfl hv hd (hJ H locs cells slots arr ws hH hS hL hc hs)
theorem gs_18 (X : gCx base sp D cI cL cQ p s m args meth c own cc ini nL) : gRule own cc ret ini call (gJW base sp D cI cL cQ p l e R s m args below meth c nL Q) P 18 := by
  intro pc nx n a f i x ls st h ge hd hn ha hv hJ H locs cells slots arr ws hH hS hL hc hs
  subst hn
  obtain ⟨hx, hb, hml, hown, hts, hE, -⟩ := X
  obtain ⟨-, k, hk⟩ := hH.1 a _ ha
  refine W.iast hx hb (hH.2.1 k _ hk) ((hE.1.2 0 _ rfl).1 n (fun j => .int (f j))) (fun q => by cases q) (by show ¬ (i < 0 ∨ (arrV _ _ _).slots.size ≤ _); rw [arrV_size]; exact hv) rfl rfl hd fun H1 e1 z oq => ?_
  have hA := hH.2.2.1.2 k _ hk
  refine hJ H1 _ cells slots arr _ (gHd.put (c1 := gia n (upd f i.toNatClampNeg x)) hH ha hk (hH.2.1.set hH.2.2.1 hk ?_ oq) (hH.2.2.1.set hk) z) (hS.put z oq hA) hL hc hs
  show H1[grho base sp a]? = some (vp_cell cI (n, .inl (upd f i.toNatClampNeg x)))
  rw [e1]
  show some ((arrV cI n (fun j => .int (f j))).setSlot _ _) = _
  rw [vp_cell_i, arrV_store]
  congr 2
  funext q
  by_cases hq : q = i.toNatClampNeg
  · simp [updV, upd, hq]
  · simp [updV, upd, hq]
theorem gs_19 (X : gCx base sp D cI cL cQ p s m args meth c own cc ini nL) : gRule own cc ret ini call (gJW base sp D cI cL cQ p l e R s m args below meth c nL Q) P 19 := by
  intro pc nx n a f i ls st h ge hd hn ha hv hJ H locs cells slots arr ws hH hS hL hc hs
  subst hn
  obtain ⟨hx, hb, hml, hown, hts, hE, -⟩ := X
  obtain ⟨-, k, hk⟩ := hH.1 a _ ha
  exact va_lald hx hb hE.1 hH.2.1 k 1 hk rfl hv hd (hJ H locs cells slots arr ws hH hS hL hc hs)
theorem gs_20 (X : gCx base sp D cI cL cQ p s m args meth c own cc ini nL) : gRule own cc ret ini call (gJW base sp D cI cL cQ p l e R s m args below meth c nL Q) P 20 := by
  intro pc nx n a f i x ls st h ge hd hn ha hv hJ H locs cells slots arr ws hH hS hL hc hs
  subst hn
  obtain ⟨hx, hb, hml, hown, hts, hE, -⟩ := X
  obtain ⟨-, k, hk⟩ := hH.1 a _ ha
  refine W.last hx hb (hH.2.1 k _ hk) ((hE.1.2 1 _ rfl).1 n (fun j => .long (f j))) (fun q => by cases q) (by show ¬ (i < 0 ∨ (arrV _ _ _).slots.size ≤ _); rw [arrV_size]; exact hv) rfl rfl hd fun H1 e1 z oq => ?_
  have hA := hH.2.2.1.2 k _ hk
  refine hJ H1 _ cells slots arr _ (gHd.put (c1 := gla n (vp_updL f i.toNatClampNeg x)) hH ha hk (hH.2.1.set hH.2.2.1 hk ?_ oq) (hH.2.2.1.set hk) z) (hS.put z oq hA) hL hc hs
  show H1[grho base sp a]? = some (vp_cell cL (n, .inr (.inl (vp_updL f i.toNatClampNeg x))))
  rw [e1]
  show some ((arrV cL n (fun j => .long (f j))).setSlot _ _) = _
  rw [vp_cell_l, arrV_store]
  congr 2
  funext q
  by_cases hq : q = i.toNatClampNeg
  · simp [updV, vp_updL, hq]
  · simp [updV, vp_updL, hq]
theorem gva_rf (r : Option Nat) : gmv base sp (va_rf r) = va_rf (r.map (grho base sp)) := by cases r <;> rfl
theorem gs_21 (X : gCx base sp D cI cL cQ p s m args meth c own cc ini nL) : gRule own cc ret ini call (gJW base sp D cI cL cQ p l e R s m args below meth c nL Q) P 21 := by
  intro pc nx t n a f i ls st h ge hd hn ha hv ht hJ H locs cells slots arr ws hH hS hL hc hs
  subst hn
  obtain ⟨hx, hb, hml, hown, hts, hE, -⟩ := X
  obtain ⟨-, k, hk⟩ := hH.1 a _ ha
  have hK := hJ H locs cells slots arr ws hH hS hL hc hs
  rw [List.map_cons, gva_rf] at hK
  rcases ht with rfl | rfl
  · exact va_aldq hx hb hE.1 hH.2.1 k 2 hk rfl hv hd hK
  · exact va_aldq hx hb hE.1 hH.2.1 k 3 hk rfl hv hd hK
theorem gs_22 (X : gCx base sp D cI cL cQ p s m args meth c own cc ini nL) : gRule own cc ret ini call (gJW base sp D cI cL cQ p l e R s m args below meth c nL Q) P 22 := by
  intro pc nx t n a v vs f i ls st h ge hd hn ha hv hin ht hJ H locs cells slots arr ws hH hS hL hc hs
  subst hn
  obtain ⟨hx, hb, hml, hown, hts, hE, -⟩ := X
  obtain ⟨-, k, hk⟩ := hH.1 a _ ha
  obtain ⟨-, kv, hkv⟩ := hH.1 v _ hv
  have hlt : i.toNatClampNeg < n := Nat.not_le.mp fun q => hin (Or.inr q)
  have h0 : ¬ i < 0 := fun q => hin (Or.inl q)
  obtain ⟨r, hr, cellV, g1, g2, g3, -⟩ := hH.2.1 kv _ hkv
  have hcls := (hE.1.1 t r hr).2
  have hty : ∃ t0 : Nat, (gtys cI cL cQ)[t0]? = some (cQ t, .object r.1) := by
    rcases ht with rfl | rfl
    · exact ⟨2, by cases hr; rfl⟩
    · exact ⟨3, by cases hr; rfl⟩
  obtain ⟨t0, ht0⟩ := hty
  obtain ⟨kA, comp, k1, k2, k3, -⟩ := (hE.1.2 t0 _ ht0).2
  have hcomp : comp = D.1 t := Option.some.inj (k3.symm.trans hcls.1)
  subst hcomp
  obtain ⟨kC, hkC, -⟩ := hcls.2
  refine W.aast hx hb (hH.2.1 k _ hk) (fun q h => by cases h) (fun h => by cases h) k1 k2 rfl hkC ⟨h0, by show _ < (arrV _ _ _).slots.size; rw [arrV_size]; exact hlt⟩ g1 (fun q h => by rw [g3] at h; cases h) (by rw [g2]; exact hkC) (by rw [g2]; exact va_assign hcls) rfl rfl hd fun H1 e1 z oq => ?_
  have hA := hH.2.2.1.2 k _ hk
  refine hJ H1 _ cells slots arr _ (gHd.put (c1 := gra t n (va_up f i.toNatClampNeg (some v))) hH ha hk (hH.2.1.set hH.2.2.1 hk ?_ oq) (hH.2.2.1.set hk) z) (hS.put z oq hA) hL hc hs
  show H1[grho base sp a]? = some (vp_cell (cQ t) (n, .inr (.inr (.inr (.inr (fun j => (va_up f i.toNatClampNeg (some v) j).map (grho base sp)))))))
  rw [e1]
  show some ((arrV (cQ t) n (fun j => va_rf ((f j).map (grho base sp)))).setSlot _ _) = _
  rw [vp_cell_q, arrV_store]
  congr 2
  funext q
  by_cases hq : q = i.toNatClampNeg
  · simp [updV, va_up, hq, va_rf]
  · simp [updV, va_up, hq]
theorem gs_23 (X : gCx base sp D cI cL cQ p s m args meth c own cc ini nL) : gRule own cc ret ini call (gJW base sp D cI cL cQ p l e R s m args below meth c nL Q) P 23 := by
  intro pc nx n a cl ls st h ge hd hn ha hl ht hJ H locs cells slots arr ws hH hS hL hc hs
  subst hn
  obtain ⟨hx, hb, hml, hown, hts, hE, -⟩ := X
  obtain ⟨-, k, hk⟩ := hH.1 a _ ha
  have hK := hJ H locs cells slots arr ws hH hS hL hc hs
  rcases cl with x | x | x | x
  · cases hl
  · cases hl; exact va_alen hx hb hE.1 hH.2.1 k 0 hk rfl rfl hd hK
  · cases hl; exact va_alen hx hb hE.1 hH.2.1 k 1 hk rfl rfl hd hK
  · obtain ⟨t, m2, f⟩ := x
    cases hl
    rcases ht t m2 f rfl with rfl | rfl
    · exact va_alen hx hb hE.1 hH.2.1 k 2 hk rfl rfl hd hK
    · exact va_alen hx hb hE.1 hH.2.1 k 3 hk rfl rfl hd hK
theorem gnewS {H H1 : Heap} {locs : List Loc} (hS : va_S (gA base) s.heap H locs) (z1 : H1.size = H.size + 1) (o1 : ∀ q, q < H.size → H1[q]? = H[q]?) : va_S (gA base) s.heap H1 locs :=
  ⟨Nat.le_trans hS.1 (by omega), fun x h1 h2 => (o1 x (Nat.lt_of_lt_of_le h1 hS.1)).trans (hS.2.1 x h1 h2), hS.2.2⟩
theorem gs_24 (X : gCx base sp D cI cL cQ p s m args meth c own cc ini nL) : gRule own cc ret ini call (gJW base sp D cI cL cQ p l e R s m args below meth c nL Q) P 24 := by
  intro pc idx nx t n bc bs an C T N ty fs ls st h hd hn hw1 hw2 hw3 hcl hty hfs hnr han hnn hJ H locs cells slots arr ws hH hS hL hc hs
  subst hn
  obtain ⟨hx, hb, hml, hown, hts, hE, hbase, -⟩ := X
  obtain ⟨hin, -⟩ := gcl_all hcl
  have hKn := hE.1.1 t _ hcl
  have hc' : cells + (bc + 1) ≤ R.cells := hc
  have hs' : slots + (bs + N) ≤ R.slots := hs
  refine W.newcK hx hb hown (hts _ (gT_mem hw1 rfl)) (hts _ (gT_mem hw2 rfl)) (hts _ (gT_mem hw3 rfl)) rfl hd (by omega) (by omega) hKn.2.1 rfl fun H1 kC hkC e1 z1 o1 => ?_
  have hkp : ∀ (k : Nat) (x : Nat × va_E), ws[k]? = some x → H1[x.1]? = H[x.1]? := fun k x hx => o1 x.1 ((hH.2.1 k x hx).lt)
  have hfm := gmap_noref (base := base) (sp := sp) hnr
  have hP1 : va_P D vwCl (ws ++ [(H.size, gcv base sp cI cL cQ (gob t fs))]) H1 := by
    refine (hH.2.1.kept hkp).app (fun k x hx => ?_)
    have hz : k < 1 := (List.getElem?_eq_some_iff.mp hx).1
    rw [show k = 0 by omega] at hx
    cases hx
    refine ⟨_, hcl, (u_born ty hts hin hKn hkC e1 hty).to (fun j hj => ?_)⟩
    show _ = vp_V (fs.map (gmv base sp)) j
    rw [hfm]
    exact hfs j hj
  have hN := gHd.new hH han hnn hP1 (hH.2.2.1.push hH.2.1 rfl (Nat.le_trans hbase hS.1)) z1
  have hK := hJ H1 locs (cells + 1) (slots + N) arr _ hN.1 (gnewS hS z1 o1) hL (by show cells + 1 + bc ≤ R.cells; omega) (by show slots + N + bs ≤ R.slots; omega)
  have e2 : gmv base sp (.ref an) = .ref H.size := congrArg Value.ref hN.2
  rw [List.map_cons, e2] at hK
  exact hK
theorem gs_25 (X : gCx base sp D cI cL cQ p s m args meth c own cc ini nL) (hA : Cond.arrayClass .int ∈ lw_tbl) : gRule own cc ret ini call (gJW base sp D cI cL cQ p l e R s m args below meth c nL Q) P 25 := by
  intro pc nx n m2 bc bs an i ls st h hd hn hi hm hm1 han hnn hJ H locs cells slots arr ws hH hS hL hc hs
  subst hn
  obtain ⟨hx, hb, hml, hown, hts, hE, hbase, -⟩ := X
  have hc' : cells + (bc + 1) ≤ R.cells := hc
  have hs' : slots + (bs + m2) ≤ R.slots := hs
  refine va_newaK (atype := .int) hx hb (hts _ (gT_mem hA rfl)) rfl hd rfl hi hm (by show m2 * 4 ≤ _; omega) (by omega) (by omega) rfl fun H1 cA e1 z1 o1 hAr hNm => ?_
  have hcA : cA = cI := Option.some.inj (hNm.symm.trans (hE.1.2 0 _ rfl).2)
  subst hcA
  have hkp : ∀ (k : Nat) (x : Nat × va_E), ws[k]? = some x → H1[x.1]? = H[x.1]? := fun k x hx => o1 x.1 ((hH.2.1 k x hx).lt)
  have hP1 : va_P D vwCl (ws ++ [(H.size, gcv base sp cA cL cQ (gia m2 (fun _ => 0)))]) H1 := by
    refine (hH.2.1.kept hkp).app (fun k x hx => ?_)
    have hz : k < 1 := (List.getElem?_eq_some_iff.mp hx).1
    rw [show k = 0 by omega] at hx
    cases hx
    exact e1
  have hN := gHd.new hH han hnn hP1 (hH.2.2.1.push hH.2.1 rfl (Nat.le_trans hbase hS.1)) z1
  have hK := hJ H1 locs (cells + 1) (slots + m2) arr _ hN.1 (gnewS hS z1 o1) hL (by show cells + 1 + bc ≤ R.cells; omega) (by show slots + m2 + bs ≤ R.slots; omega)
  have e2 : gmv base sp (.ref an) = .ref H.size := congrArg Value.ref hN.2
  rw [List.map_cons, e2] at hK
  exact hK
theorem gs_26 (X : gCx base sp D cI cL cQ p s m args meth c own cc ini nL) (hA : Cond.arrayClass .long ∈ lw_tbl) : gRule own cc ret ini call (gJW base sp D cI cL cQ p l e R s m args below meth c nL Q) P 26 := by
  intro pc nx n m2 bc bs an i ls st h hd hn hi hm hm1 han hnn hJ H locs cells slots arr ws hH hS hL hc hs
  subst hn
  obtain ⟨hx, hb, hml, hown, hts, hE, hbase, -⟩ := X
  have hc' : cells + (bc + 1) ≤ R.cells := hc
  have hs' : slots + (bs + m2) ≤ R.slots := hs
  refine va_newaK (atype := .long) hx hb (hts _ (gT_mem hA rfl)) rfl hd rfl hi hm (by show m2 * 8 ≤ _; omega) (by omega) (by omega) rfl fun H1 cA e1 z1 o1 hAr hNm => ?_
  have hcA : cA = cL := Option.some.inj (hNm.symm.trans (hE.1.2 1 _ rfl).2)
  subst hcA
  have hkp : ∀ (k : Nat) (x : Nat × va_E), ws[k]? = some x → H1[x.1]? = H[x.1]? := fun k x hx => o1 x.1 ((hH.2.1 k x hx).lt)
  have hP1 : va_P D vwCl (ws ++ [(H.size, gcv base sp cI cA cQ (gla m2 (fun _ => 0)))]) H1 := by
    refine (hH.2.1.kept hkp).app (fun k x hx => ?_)
    have hz : k < 1 := (List.getElem?_eq_some_iff.mp hx).1
    rw [show k = 0 by omega] at hx
    cases hx
    exact e1
  have hN := gHd.new hH han hnn hP1 (hH.2.2.1.push hH.2.1 rfl (Nat.le_trans hbase hS.1)) z1
  have hK := hJ H1 locs (cells + 1) (slots + m2) arr _ hN.1 (gnewS hS z1 o1) hL (by show cells + 1 + bc ≤ R.cells; omega) (by show slots + m2 + bs ≤ R.slots; omega)
  have e2 : gmv base sp (.ref an) = .ref H.size := congrArg Value.ref hN.2
  rw [List.map_cons, e2] at hK
  exact hK
theorem gs_27 (X : gCx base sp D cI cL cQ p s m args meth c own cc ini nL) : gRule own cc ret ini call (gJW base sp D cI cL cQ p l e R s m args below meth c nL Q) P 27 := by
  intro pc idx nx t n m2 bc bs an C T N i ls st h hd hn hw1 hcl ht hi hm hm1 han hnn hJ H locs cells slots arr ws hH hS hL hc hs
  subst hn
  obtain ⟨hx, hb, hml, hown, hts, hE, hbase, -⟩ := X
  have hc' : cells + (bc + 1) ≤ R.cells := hc
  have hs' : slots + (bs + m2) ≤ R.slots := hs
  have hAO : (Cond.arrayOver (.object C)).before args s = true ∧ ∃ t0 : Nat, (gtys cI cL cQ)[t0]? = some (cQ t, .object C) := by
    rcases ht with rfl | rfl
    · cases hcl; exact ⟨va_AO.use hE.2.1.1, 2, rfl⟩
    · cases hcl; exact ⟨va_AO.use hE.2.1.2, 3, rfl⟩
  obtain ⟨hao, t0, ht0⟩ := hAO
  subst hm
  refine W.anew hx hb hown (hts _ (gT_mem hw1 rfl)) hao rfl hd rfl hi (by omega) (by omega) (by omega) fun cA kA comp f1 f2 f3 f4 => ?_
  obtain ⟨kA', comp', g1, g2, g3, g4⟩ := (hE.1.2 t0 _ ht0).2
  have hcA : cA = cQ t := Option.some.inj (f1.symm.trans g4)
  subst hcA
  have o1 : ∀ q, q < H.size → (H.push { cls := cQ t, slots := Array.replicate i.toNatClampNeg .null, vm := .none })[q]? = H[q]? := fun q hq => by rw [Array.getElem?_push, if_neg (Nat.ne_of_lt hq)]
  have z1 : (H.push { cls := cQ t, slots := Array.replicate i.toNatClampNeg .null, vm := .none }).size = H.size + 1 := by simp
  have hkp : ∀ (k : Nat) (x : Nat × va_E), ws[k]? = some x → (H.push { cls := cQ t, slots := Array.replicate i.toNatClampNeg .null, vm := .none })[x.1]? = H[x.1]? := fun k x hx => o1 x.1 ((hH.2.1 k x hx).lt)
  have hP1 : va_P D vwCl (ws ++ [(H.size, gcv base sp cI cL cQ (gra t i.toNatClampNeg (fun _ => none)))]) (H.push { cls := cQ t, slots := Array.replicate i.toNatClampNeg .null, vm := .none }) := by
    refine (hH.2.1.kept hkp).app (fun k x hx => ?_)
    have hz : k < 1 := (List.getElem?_eq_some_iff.mp hx).1
    rw [show k = 0 by omega] at hx
    cases hx
    show (H.push _)[H.size]? = some (arrV (cQ t) i.toNatClampNeg (fun _ => .null))
    rw [← arrV_new]
    simp
  have hN := gHd.new hH han hnn hP1 (hH.2.2.1.push hH.2.1 rfl (Nat.le_trans hbase hS.1)) z1
  have hK := hJ _ locs (cells + 1) (slots + i.toNatClampNeg) arr _ hN.1 (gnewS hS z1 o1) hL (by show cells + 1 + bc ≤ R.cells; omega) (by show slots + i.toNatClampNeg + bs ≤ R.slots; omega)
  have e2 : gmv base sp (.ref an) = .ref H.size := congrArg Value.ref hN.2
  rw [List.map_cons, e2] at hK
  exact hK
end GRV
