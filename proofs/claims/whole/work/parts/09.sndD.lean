/-! ===== calls, returns, texts; every run of the small machine is one of the real ===== -/
def gPc (base : Nat) (sp : Nat → Nat) (D : va_G) (cI cL : ClassId) (cQ : Nat → ClassId) (vs : List Value) (h : GH) (ge : GE) : Array Value → State → Prop := fun a U =>
  a = (vs.map (gmv base sp)).toArray ∧ base ≤ U.heap.size ∧ (∃ ws, gHd base sp D cI cL cQ h ge U.heap ws) ∧ gEnv base sp D cI cL cQ U
def gQc (base : Nat) (sp : Nat → Nat) (D : va_G) (cI cL : ClassId) (cQ : Nat → ClassId) (P : RT) : Array Value → State → Outcome → State → Prop := fun _ st o t =>
  (∃ (r : Option Value) (h' : GH) (e' : GE), o = .returned (r.map (gmv base sp)) ∧ P r h' e' ∧ ∃ ws, gHd base sp D cI cL cQ h' e' t.heap ws) ∧ va_F (gA base) st t
def grm (d : Nat) (ge : GE) : Room := { frames := d, cells := ge.2.1, slots := ge.2.2.1, locals := 60 * d }
def gMet (base : Nat) (sp : Nat → Nat) (D : va_G) (cI cL : ClassId) (cQ : Nat → ClassId) (l : Launch) (d : Nat) (y : MethodName) (vs : List Value) (h : GH) (ge : GE) (P : RT) : Prop :=
  ∃ (cc : ByteArray) (maxL : Nat) (ret : Option FieldType), gMth y cc maxL ret ∧ Met l y (Cond.code y cc maxL ret :: gTs) (grm d ge) (gPc base sp D cI cL cQ vs h ge) (gQc base sp D cI cL cQ P) ge.2.1 ge.2.2.1 (gA base)
theorem gcat_map (base : Nat) (sp : Nat → Nat) (st : List Value) : ((st.map (gmv base sp)).map fun v => v.category).sum = gcat st := by
  unfold gcat
  rw [List.map_map]
  congr 1
  exact List.map_congr_left (fun v _ => gmv_cat base sp v)
theorem ggood_ws {y : MethodName} {cc : ByteArray} {maxL : Nat} {ret : Option FieldType} (hcode : Cond.code y cc maxL ret ∈ lw_tbl) : GoodIn gTs (Cond.code y cc maxL ret :: gTs) := by
  intro w hw
  rcases List.mem_cons.mp hw with rfl | hw
  · exact ⟨gT_mem hcode rfl, good_of_word rfl⟩
  · exact ⟨hw, good_of_word (List.mem_filter.mp hw).2⟩
theorem ggood_app {a b : List Cond} (h : ∀ w ∈ a, w ∈ lw_tbl ∧ goodWord w = true) (hb : GoodIn gTs b) : GoodIn gTs (a ++ b) := by
  intro w hw
  rcases List.mem_append.mp hw with hw | hw
  · exact ⟨gT_mem (h w hw).1 (h w hw).2, good_of_word (h w hw).2⟩
  · exact hb w hw
section GRW
variable {base : Nat} {sp : Nat → Nat} {D : va_G} {cI cL : ClassId} {cQ : Nat → ClassId}
variable {p : Program} {l : Launch} {e : Env} {R : Room} {s : State} {m : MethodId} {args : Array Value} {below : List Frame} {meth : Method} {c : Code} {Q : State → Prop}
variable {own : String} {cc : ByteArray} {ret : Option FieldType} {ini : Bool} {call : CT} {P : RT} {nL : Nat}
theorem gPc_blind (vs : List Value) (h : GH) (ge : GE) : FrameBlind (gPc base sp D cI cL cQ vs h ge) := fun _ _ _ _ q => ⟨q.1, q.2.1, q.2.2.1, q.2.2.2.same rfl rfl⟩
theorem gPc_pre {vs : List Value} {h : GH} {ge : GE} {H : Heap} {ws : va_W} {locs : List Loc} {mc ms : Nat} (hH : gHd base sp D cI cL cQ h ge H ws) (hS : va_S (gA base) s.heap H locs) (hE : gEnv base sp D cI cL cQ s) (hbase : base ≤ s.heap.size) 
    : ∀ U : State, U.heap = H → s.WarmedH U.vm → gPc base sp D cI cL cQ vs h (ge.1, mc, ms, ge.2.2.2) (vs.map (gmv base sp)).toArray U := by
  intro U hU hW
  subst hU
  exact ⟨rfl, Nat.le_trans hbase hS.1, ⟨ws, hH⟩, hE.move hW hS⟩
/-- behind a call -/
theorem gafter {pc nx mc ms : Nat} {ls : GL} {st st0 : List Value} {ge : GE} {H : Heap} {locs : List Loc} {cells slots : Nat} {arr : Array Slot} {a : Array Value}
    (hr : va_Run p l e R s m args below meth c H locs cells slots mc ms (F0 m pc arr (st0.map (gmv base sp))) (st.map (gmv base sp)) (gQc base sp D cI cL cQ (gaft (gJW base sp D cI cL cQ p l e R s m args below meth c nL Q) nx ls st ge mc ms) a) (gA base))
    (hn : pc + 3 = nx) (hS : va_S (gA base) s.heap H locs) (hL : gLr base sp nL ls arr) (hmc : mc ≤ ge.2.1) (hms : ms ≤ ge.2.2.1) (hc : cells + ge.2.1 ≤ R.cells) (hs : slots + ge.2.2.1 ≤ R.slots) :
    W p l e R s m args below meth c H locs cells slots Q (F0 m pc arr (st0.map (gmv base sp))) := by
  subst hn
  intro T hT Xs
  obtain ⟨v, s0, t, T', L, h0, X', hLf, e1, e2, ⟨⟨r, h', e', hv, hJ, ws', hH'⟩, hF1, hF2⟩, go⟩ := hr T hT Xs
  have hv' : v = r.map (gmv base sp) := Outcome.returned.inj hv
  subst hv'
  rw [h0] at hF1 hF2
  have hH2 : gHd base sp D cI cL cQ h' (e'.1, ge.2.1 - mc, ge.2.2.1 - ms, e'.2.2.2) T'.heap ws' := by
    rw [e1]
    exact hH'
  have hS2 : va_S (gA base) s.heap T'.heap (locs ++ L) := by
    refine ⟨Nat.le_trans hS.1 (by rw [e1]; exact hF1), fun q h1 h2 => ?_, fun q hq => ?_⟩
    · rw [e1, hF2 q (Nat.lt_of_lt_of_le h1 hS.1) h2]
      exact hS.2.1 q h1 h2
    · rcases List.mem_append.mp hq with h1 | h1
      · exact hS.2.2 q h1
      · exact hLf q h1
  obtain ⟨t2, a1, b1⟩ := hJ T'.heap (locs ++ L) (cells + mc) (slots + ms) arr ws' hH2 hS2 hL (by show cells + mc + (ge.2.1 - mc) ≤ _; omega) (by show slots + ms + (ge.2.2.1 - ms) ≤ _; omega) T' rfl X'
  refine ⟨t2, go t2 ?_, b1⟩
  have hst : (r.toList ++ st).map (gmv base sp) = (r.map (gmv base sp)).toList ++ st.map (gmv base sp) := by cases r <;> rfl
  rw [hst] at a1
  exact a1
theorem gs_28 {d : Nat} (X : gCx base sp D cI cL cQ p s m args meth c own cc ini nL) (hfr : d + 1 ≤ R.frames) (hlo : 60 * (d + 1) ≤ R.locals) (hcall : ∀ y vs h ge P, call y vs h ge P → gMet base sp D cI cL cQ l d y vs h ge P) : gRule own cc ret ini call (gJW base sp D cI cL cQ p l e R s m args below meth c nL Q) P 28 := by
  intro pc idx nx t a mc ms fs y As ls st st0 h ge hd hn hM ha ht hcat hst hmc hms hK H locs cells slots arr ws hH hS hL hc hs
  obtain ⟨hx, hb, hml, hown, hts, hE, hbase, -⟩ := X
  obtain ⟨cc', maxL, ret', ⟨hcode, hmx, -, -⟩, hMet⟩ := hcall _ _ _ _ _ hK
  obtain ⟨w1, w2, w3, w4, n1, n2, n3⟩ := hM
  obtain ⟨-, k, hk⟩ := hH.1 a _ ha
  subst hst
  have hgood : GoodIn gTs (wsV own idx y.cls y (Cond.code y cc' maxL ret' :: gTs)) := ggood_app (fun w hw => by
    simp only [List.mem_cons, List.not_mem_nil, or_false] at hw
    rcases hw with rfl | rfl | rfl | rfl
    · exact ⟨w1, rfl⟩
    · exact ⟨w2, rfl⟩
    · exact ⟨w3, rfl⟩
    · exact ⟨w4, rfl⟩) (ggood_ws hcode)
  have hrecv : ∃ cellB : Cell, H[grho base sp a]? = some cellB ∧ cellB.vm.isStatics = false ∧ s.vm.findClass y.cls = some cellB.cls := by
    cases hq : vwCl[t]? with
    | none => rw [hq] at ht; cases ht
    | some q =>
      rw [hq] at ht
      rw [← Option.some.inj ht]
      exact va_recv hE.1 hH.2.1 hq hk
  exact gafter (va_runV (Ts := gTs) (C := y.cls) (As := As.map (gmv base sp)) (b := grho base sp a) (rest := st.map (gmv base sp)) ⟨hx, hb, hml, hown, hts⟩ hMet (cwV As.length hts hgood rfl rfl rfl ⟨rfl, n1, n2, n3⟩ ⟨hfr, by show 8 + (maxL + 11) + 60 * d ≤ _; omega⟩) ⟨gPc_blind _ _ _, hrecv, gPc_pre (vs := .ref a :: As) hH hS hE hbase⟩ rfl (by rw [List.length_map]) hL.2.1 (by show (As.reverse ++ .ref a :: st).map (gmv base sp) = _; rw [List.map_append, List.map_reverse]; rfl) (lv_room (by rw [gcat_map]; exact hcat)) hd ⟨by show cells + mc ≤ _; omega, by show slots + ms ≤ _; omega⟩) hn hS hL hmc hms hc hs
theorem gstr_rho (i : Nat) : grho base sp (1000000 + i) = sp i := by
  unfold grho
  rw [if_neg (by omega), Nat.add_sub_cancel_left]
theorem gs_29 {d : Nat} (X : gCx base sp D cI cL cQ p s m args meth c own cc ini nL) (hfr : d + 1 ≤ R.frames) (hlo : 60 * (d + 1) ≤ R.locals) (hcall : ∀ y vs h ge P, call y vs h ge P → gMet base sp D cI cL cQ l d y vs h ge P) : gRule own cc ret ini call (gJW base sp D cI cL cQ p l e R s m args below meth c nL Q) P 29 := by
  intro pc idx nx i mc ms y As ls st st0 h ge hd hn hM hi hy hcat hst hmc hms hK H locs cells slots arr ws hH hS hL hc hs
  obtain ⟨hx, hb, hml, hown, hts, hE, hbase, -⟩ := X
  obtain ⟨cc', maxL, ret', ⟨hcode, hmx, -, -⟩, hMet⟩ := hcall _ _ _ _ _ hK
  obtain ⟨w1, w2, w3, w4, n1, n2, n3⟩ := hM
  subst hst
  have hgood : GoodIn gTs (wsV own idx y.cls y (Cond.code y cc' maxL ret' :: gTs)) := ggood_app (fun w hw => by
    simp only [List.mem_cons, List.not_mem_nil, or_false] at hw
    rcases hw with rfl | rfl | rfl | rfl
    · exact ⟨w1, rfl⟩
    · exact ⟨w2, rfl⟩
    · exact ⟨w3, rfl⟩
    · exact ⟨w4, rfl⟩) (ggood_ws hcode)
  have hrecv : ∃ cellB : Cell, H[grho base sp (1000000 + i)]? = some cellB ∧ cellB.vm.isStatics = false ∧ s.vm.findClass y.cls = some cellB.cls := by
    rw [gstr_rho, hy]
    exact vk_recv hE.2.2.2.2.1 hi hS
  exact gafter (va_runV (Ts := gTs) (C := y.cls) (As := As.map (gmv base sp)) (b := grho base sp (1000000 + i)) (rest := st.map (gmv base sp)) ⟨hx, hb, hml, hown, hts⟩ hMet (cwV As.length hts hgood rfl rfl rfl ⟨rfl, n1, n2, n3⟩ ⟨hfr, by show 8 + (maxL + 11) + 60 * d ≤ _; omega⟩) ⟨gPc_blind _ _ _, hrecv, gPc_pre (vs := .ref (1000000 + i) :: As) hH hS hE hbase⟩ rfl (by rw [List.length_map]) hL.2.1 (by show (As.reverse ++ .ref (1000000 + i) :: st).map (gmv base sp) = _; rw [List.map_append, List.map_reverse]; rfl) (lv_room (by rw [gcat_map]; exact hcat)) hd ⟨by show cells + mc ≤ _; omega, by show slots + ms ≤ _; omega⟩) hn hS hL hmc hms hc hs
theorem gs_30 {d : Nat} (X : gCx base sp D cI cL cQ p s m args meth c own cc ini nL) (hfr : d + 1 ≤ R.frames) (hlo : 60 * (d + 1) ≤ R.locals) (hcall : ∀ y vs h ge P, call y vs h ge P → gMet base sp D cI cL cQ l d y vs h ge P) : gRule own cc ret ini call (gJW base sp D cI cL cQ p l e R s m args below meth c nL Q) P 30 := by
  intro pc idx nx mc ms y As ls st st0 h ge hd hn hM hcat hst hmc hms hK H locs cells slots arr ws hH hS hL hc hs
  obtain ⟨hx, hb, hml, hown, hts, hE, hbase, -⟩ := X
  obtain ⟨cc', maxL, ret', ⟨hcode, hmx, -, -⟩, hMet⟩ := hcall _ _ _ _ _ hK
  obtain ⟨w1, w2, w3, n1, n2, n3⟩ := hM
  subst hst
  have hgood : GoodIn gTs (va_wsS own idx y (Cond.code y cc' maxL ret' :: gTs)) := ggood_app (fun w hw => by
    simp only [List.mem_cons, List.not_mem_nil, or_false] at hw
    rcases hw with rfl | rfl | rfl
    · exact ⟨w1, rfl⟩
    · exact ⟨w2, rfl⟩
    · exact ⟨w3, rfl⟩) (ggood_ws hcode)
  exact gafter (va_runS (Ts := gTs) (As := As.map (gmv base sp)) (rest := st.map (gmv base sp)) ⟨hx, hb, hml, hown, hts⟩ hMet (va_cwS As.length hts hgood rfl rfl rfl ⟨n1, n2, n3⟩ ⟨hfr, by show 8 + (maxL + 11) + 60 * d ≤ _; omega⟩) ⟨gPc_blind _ _ _, gPc_pre (vs := As) hH hS hE hbase⟩ rfl (by rw [List.length_map]) hL.2.1 (by show (As.reverse ++ st).map (gmv base sp) = _; rw [List.map_append, List.map_reverse]) (lv_room (by rw [gcat_map]; exact hcat)) hd ⟨by show cells + mc ≤ _; omega, by show slots + ms ≤ _; omega⟩) hn hS hL hmc hms hc hs
theorem gs_31 {d : Nat} (X : gCx base sp D cI cL cQ p s m args meth c own cc ini nL) (hfr : d + 1 ≤ R.frames) (hlo : 60 * (d + 1) ≤ R.locals) (hcall : ∀ y vs h ge P, call y vs h ge P → gMet base sp D cI cL cQ l d y vs h ge P) : gRule own cc ret ini call (gJW base sp D cI cL cQ p l e R s m args below meth c nL Q) P 31 := by
  intro pc idx nx mc ms y As ls st st0 h ge hd hn hM hcat hst hmc hms hK H locs cells slots arr ws hH hS hL hc hs
  obtain ⟨hx, hb, hml, hown, hts, hE, hbase, -⟩ := X
  obtain ⟨cc', maxL, ret', ⟨hcode, hmx, -, -⟩, hMet⟩ := hcall _ _ _ _ _ hK
  obtain ⟨w1, w2, w3, n1, n2, n3⟩ := hM
  subst hst
  exact gafter (va_runSN (Ts := gTs) (As := As.map (gmv base sp)) (rest := st.map (gmv base sp)) ⟨hx, hb, hml, hown, hts⟩ hMet ⟨va_cnB As.length hts (ggood_ws hcode) rfl rfl rfl (hE.2.2.1 _ w1) (hts _ (gT_mem w3 rfl)) ⟨n1, n2, n3⟩ ⟨hfr, by show 8 + (maxL + 11) + 60 * d ≤ _; omega⟩, hts _ (gT_mem w2 rfl), trivial⟩ ⟨gPc_blind _ _ _, gPc_pre (vs := As) hH hS hE hbase⟩ rfl (by rw [List.length_map]) hL.2.1 (by show (As.reverse ++ st).map (gmv base sp) = _; rw [List.map_append, List.map_reverse]) (lv_room (by rw [gcat_map]; exact hcat)) hd ⟨by show cells + mc ≤ _; omega, by show slots + ms ≤ _; omega⟩) hn hS hL hmc hms hc hs
theorem gs_32 {d : Nat} (X : gCx base sp D cI cL cQ p s m args meth c own cc ini nL) (hfr : d + 1 ≤ R.frames) (hlo : 60 * (d + 1) ≤ R.locals) (hcall : ∀ y vs h ge P, call y vs h ge P → gMet base sp D cI cL cQ l d y vs h ge P) : gRule own cc ret ini call (gJW base sp D cI cL cQ p l e R s m args below meth c nL Q) P 32 := by
  intro pc idx nx a mc ms y As ls st st0 h ge hd hn hM hcat hst hmc hms hK H locs cells slots arr ws hH hS hL hc hs
  obtain ⟨hx, hb, hml, hown, hts, hE, hbase, -⟩ := X
  obtain ⟨cc', maxL, ret', ⟨hcode, hmx, -, hrt⟩, hMet⟩ := hcall _ _ _ _ _ hK
  obtain ⟨w1, w2, w3, hi, hv, n1, n2, n3⟩ := hM
  have hr0 : ret' = none := Option.some.inj (hrt.symm.trans hv)
  subst hr0
  subst hst
  exact gafter (va_runI (Ts := gTs) (As := As.map (gmv base sp)) (b := grho base sp a) (rest := st.map (gmv base sp)) ⟨hx, hb, hml, hown, hts⟩ hMet (cwI As.length hts (ggood_ws hcode) rfl rfl rfl (hts _ (gT_mem w3 rfl)) (hts _ (gT_mem w1 rfl)) (hts _ (gT_mem w2 rfl)) hi ⟨n1, n2, n3⟩ ⟨hfr, by show 8 + (maxL + 11) + 60 * d ≤ _; omega⟩) ⟨gPc_blind _ _ _, gPc_pre (vs := .ref a :: As) hH hS hE hbase⟩ rfl (by rw [List.length_map]) hL.2.1 (by show (As.reverse ++ .ref a :: st).map (gmv base sp) = _; rw [List.map_append, List.map_reverse]; rfl) (lv_room (by rw [gcat_map]; exact hcat)) hd ⟨by show cells + mc ≤ _; omega, by show slots + ms ≤ _; omega⟩) hn hS hL hmc hms hc hs
theorem gs_33 {d : Nat} (X : gCx base sp D cI cL cQ p s m args meth c own cc ini nL) (hfr : d + 1 ≤ R.frames) (hlo : 60 * (d + 1) ≤ R.locals) (hcall : ∀ y vs h ge P, call y vs h ge P → gMet base sp D cI cL cQ l d y vs h ge P) : gRule own cc ret ini call (gJW base sp D cI cL cQ p l e R s m args below meth c nL Q) P 33 := by
  intro pc idx nx a mc ms y As ls st st0 h ge hd hn hM hcat hst hmc hms hK H locs cells slots arr ws hH hS hL hc hs
  obtain ⟨hx, hb, hml, hown, hts, hE, hbase, -⟩ := X
  obtain ⟨cc', maxL, ret', ⟨hcode, hmx, -, hrt⟩, hMet⟩ := hcall _ _ _ _ _ hK
  obtain ⟨w1, w2, w3, hi, hv, n1, n2, n3⟩ := hM
  have hr0 : ret' = none := Option.some.inj (hrt.symm.trans hv)
  subst hr0
  subst hst
  exact gafter (va_runIN (Ts := gTs) (As := As.map (gmv base sp)) (b := grho base sp a) (rest := st.map (gmv base sp)) ⟨hx, hb, hml, hown, hts⟩ hMet ⟨va_cnB As.length hts (ggood_ws hcode) rfl rfl rfl (hE.2.2.1 _ w1) (hts _ (gT_mem w3 rfl)) ⟨n1, n2, n3⟩ ⟨hfr, by show 8 + (maxL + 11) + 60 * d ≤ _; omega⟩, hi, hts _ (gT_mem w2 rfl)⟩ ⟨gPc_blind _ _ _, gPc_pre (vs := .ref a :: As) hH hS hE hbase⟩ rfl (by rw [List.length_map]) hL.2.1 (by show (As.reverse ++ .ref a :: st).map (gmv base sp) = _; rw [List.map_append, List.map_reverse]; rfl) (lv_room (by rw [gcat_map]; exact hcat)) hd ⟨by show cells + mc ≤ _; omega, by show slots + ms ≤ _; omega⟩) hn hS hL hmc hms hc hs
theorem gs_34 (X : gCx base sp D cI cL cQ p s m args meth c own cc ini nL) (hfr : 1 ≤ R.frames) (hlo : 60 ≤ R.locals) (o1 : Cond.instanceMethod objectInit ∈ lw_tbl) (o2 : Cond.code objectInit ⟨#[0xb1]⟩ 1 none ∈ lw_tbl) : gRule own cc ret ini call (gJW base sp D cI cL cQ p l e R s m args below meth c nL Q) P 34 := by
  intro pc idx nx a ls st h ge hd hn hw hcat hJ H locs cells slots arr ws hH hS hL hc hs
  subst hn
  obtain ⟨hx, hb, hml, hown, hts, hE, hbase, -⟩ := X
  have hlv := lv_room (m := m) (pc := pc) (ls := arr) (rest := (st.map (gmv base sp))) (st := st.map (gmv base sp)) (by rw [gcat_map]; exact hcat)
  exact W.objInit hx hb hown (hts _ (gT_mem hw rfl)) (hts _ (gT_mem o1 rfl)) (hts _ (gT_mem o2 rfl)) rfl (by rw [hml]; exact hL.2.1) rfl hd hfr (Nat.le_trans (Nat.add_le_add_right hlv 12) (by omega)) (hJ H locs cells slots arr ws hH hS hL hc hs)
theorem gs_35 (X : gCx base sp D cI cL cQ p s m args meth c own cc ini nL) (hfr : 1 ≤ R.frames) (hlo : 60 ≤ R.locals) (o1 : Cond.native arraycopyName ∈ lw_tbl) (o2 : Cond.static arraycopyName ∈ lw_tbl) (o3 : Cond.initialized "java/lang/System" ∈ lw_tbl) : gRule own cc ret ini call (gJW base sp D cI cL cQ p l e R s m args below meth c nL Q) P 35 := by
  intro pc idx nx a0 a n0 n1 f g sp1 dp n ls st h ge hd hn hw hcat h0 h1 b1 b2 b3 b4 b5 hJ H locs cells slots arr ws hH hS hL hc hs
  subst hn
  obtain ⟨hx, hb, hml, hown, hts, hE, hbase, -⟩ := X
  obtain ⟨-, k0, hk0⟩ := hH.1 a0 _ h0
  obtain ⟨-, k1, hk1⟩ := hH.1 a _ h1
  refine va_copyi hx hb (hml.trans hL.2.1.symm) hown (hts _ (gT_mem hw rfl)) (hts _ (gT_mem o1 rfl)) (hts _ (gT_mem o2 rfl)) (hts _ (gT_mem o3 rfl)) hE.1 hH.2.1 hH.2.2.1 hS k0 k1 0 0 hk0 hk1 rfl rfl rfl b1 b2 b3 b4 b5 (fun _ _ => rfl) hfr ?_ hd fun H1 locs1 hP1 hD1 hS1 => ?_
  · rw [gcat_map]
    have e9 : nativeFrameWords "java/lang/System" "arraycopy" 5 = 7 := by decide +kernel
    rw [e9]
    omega
  · exact hJ H1 locs1 cells slots arr _ (gHd.put0 (c1 := gia n1 (va_cpy f g sp1.toNatClampNeg dp.toNatClampNeg n.toNatClampNeg)) (n := ge.1) (bc := ge.2.1) (bs := ge.2.2.1) (fl := ge.2.2.2) hH h1 hk1 hP1 hD1) hS1 hL hc hs
theorem gs_39 (X : gCx base sp D cI cL cQ p s m args meth c own cc ini nL) : gRule own cc ret ini call (gJW base sp D cI cL cQ p l e R s m args below meth c nL Q) P 39 := by
  intro pc idx nx ls st h ge hd hn hw hJ H locs cells slots arr ws hH hS hL hc hs
  subst hn
  obtain ⟨hx, hb, hml, hown, hts, hE, hbase, -⟩ := X
  exact va_gets hx hb hE.2.2.2.2.2.1 hS hown (hts _ (gT_mem hw rfl)) (fun _ h9 => h9) hd (hJ H locs cells slots arr ws hH hS hL hc hs)
theorem gs_40 (X : gCx base sp D cI cL cQ p s m args meth c own cc ini nL) : gRule own cc ret ini call (gJW base sp D cI cL cQ p l e R s m args below meth c nL Q) P 40 := by
  intro pc idx nx ls st h ge hd hn hw hJ1 hJ2 H locs cells slots arr ws hH hS hL hc hs
  subst hn
  obtain ⟨hx, hb, hml, hown, hts, hE, hbase, -⟩ := X
  obtain ⟨v, hv, hZ⟩ := hE.2.2.2.2.2.2
  rcases hv with rfl | rfl
  · exact va_gets hx hb hZ hS hown (hts _ (gT_mem hw rfl)) (fun _ h9 => h9) hd (hJ1 H locs cells slots arr ws hH hS hL hc hs)
  · have hK := hJ2 H locs cells slots arr ws hH hS hL hc hs
    rw [List.map_cons, show gmv base sp (.ref 1000200) = .ref (sp 200) from congrArg Value.ref (gstr_rho 200)] at hK
    exact va_gets hx hb hZ hS hown (hts _ (gT_mem hw rfl)) (fun _ h9 => h9) hd hK
theorem gs_41 (X : gCx base sp D cI cL cQ p s m args meth c own cc ini nL) : gRule own cc ret ini call (gJW base sp D cI cL cQ p l e R s m args below meth c nL Q) P 41 := by
  intro pc idx nx i ls st h ge hd hn hw hi hJ H locs cells slots arr ws hH hS hL hc hs
  subst hn
  obtain ⟨hx, hb, hml, hown, hts, hE, hbase, -⟩ := X
  rw [List.map_cons, show gmv base sp (.ref (1000000 + i)) = .ref (sp i) from congrArg Value.ref (gstr_rho i)]
  exact vk_getf hx hb (hE.2.2.2.2.1.1 i hi).2.1 hS hown (hts _ (gT_mem hw rfl)) (fun _ h9 => h9) hd (hJ H locs cells slots arr ws hH hS hL hc hs)
theorem gbyt_rho (i : Nat) : grho base sp (1000100 + i) = sp (100 + i) := by
  unfold grho
  rw [if_neg (by omega), show 1000100 + i - 1000000 = 100 + i by omega]
theorem gs_42 (X : gCx base sp D cI cL cQ p s m args meth c own cc ini nL) : gRule own cc ret ini call (gJW base sp D cI cL cQ p l e R s m args below meth c nL Q) P 42 := by
  intro pc idx nx i ls st h ge hd hn hw hi hJ H locs cells slots arr ws hH hS hL hc hs
  subst hn
  obtain ⟨hx, hb, hml, hown, hts, hE, hbase, -⟩ := X
  have hK := hJ H locs cells slots arr ws hH hS hL hc hs
  rw [List.map_cons, show gmv base sp (.ref (1000100 + i)) = .ref (sp (100 + i)) from congrArg Value.ref (gbyt_rho i)] at hK
  rw [List.map_cons, show gmv base sp (.ref (1000000 + i)) = .ref (sp i) from congrArg Value.ref (gstr_rho i)]
  exact vk_getf hx hb (hE.2.2.2.2.1.1 i hi).2.2.1 hS hown (hts _ (gT_mem hw rfl)) (fun _ h9 => h9) hd hK
theorem gs_43 (X : gCx base sp D cI cL cQ p s m args meth c own cc ini nL) : gRule own cc ret ini call (gJW base sp D cI cL cQ p l e R s m args below meth c nL Q) P 43 := by
  intro pc nx i ls st h ge hd hn hi hJ H locs cells slots arr ws hH hS hL hc hs
  subst hn
  obtain ⟨hx, hb, hml, hown, hts, hE, hbase, -⟩ := X
  obtain ⟨cell, h1, h2, h3, h4, h5, h6, h7⟩ := ((hE.2.2.2.2.1.1 i hi).2.2.2).kept hS.2.1
  rw [List.map_cons, show gmv base sp (.ref (1000100 + i)) = .ref (sp (100 + i)) from congrArg Value.ref (gbyt_rho i)]
  exact W.alen hx hb h1 h2 h5 rfl rfl hd (hJ H locs cells slots arr ws hH hS hL hc hs)
theorem gs_44 (X : gCx base sp D cI cL cQ p s m args meth c own cc ini nL) : gRule own cc ret ini call (gJW base sp D cI cL cQ p l e R s m args below meth c nL Q) P 44 := by
  intro pc nx i j ls st h ge hd hn hi hj hJ H locs cells slots arr ws hH hS hL hc hs
  subst hn
  obtain ⟨hx, hb, hml, hown, hts, hE, hbase, -⟩ := X
  obtain ⟨cell, h1, h2, h3, h4, h5, h6, h7⟩ := ((hE.2.2.2.2.1.1 i hi).2.2.2).kept hS.2.1
  have hl : glen.getD i 0 < 100 := by
    rcases (show i = 0 ∨ i = 1 ∨ i = 2 ∨ i = 3 ∨ i = 4 by omega) with rfl | rfl | rfl | rfl | rfl <;> decide
  have hcl : (nI j).toNatClampNeg = j := nI_clamp (by omega)
  rw [List.map_cons, List.map_cons, show gmv base sp (.ref (1000100 + i)) = .ref (sp (100 + i)) from congrArg Value.ref (gbyt_rho i)]
  refine W.bald (v := .int ((gbyt.getD i []).getD j 0)) hx hb h1 h2 h3 ?_ (by rw [hcl]; exact h6 j hj) rfl rfl hd (hJ H locs cells slots arr ws hH hS hL hc hs)
  rw [hcl]
  rintro (q | q)
  · exact nI_pos (by omega) q
  · omega
end GRW
