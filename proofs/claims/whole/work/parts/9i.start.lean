/-! THE CLAIM OUT OF ONE WALK OF THE LAW'S BODY. Your part is whole_start (and what it stands on); all else here is the same for every law, but numbers. -/
def R_law : String := "TemplateEngineLaw"
def lw_P (b : Addr) (xs : List Int32) (args : Array Value) (s : State) : Prop := args = #[.ref b] ∧ s.IntsAt b xs ∧ xs.length ≤ 1536 ∧ (Jvm.Cond.and given_1 narrow_1).before args s = true
def lw_Q (_ : Array Value) (s : State) (o : Outcome) (t : State) : Prop := o = .returned (some (.int 1)) ∧ Framed s o t [] 601024 7293034
def lw_Z (below : List Frame) (a : Array Value) (s : State) : State → Prop := fun t => ∃ o, t.status = .running ∧ Ended t below o ∧ lw_Q a s o t
/-- the law's own end, with 1 on the stack, nothing written that was there before, its room as the claim has it -/
theorem lw_ret {p : Program} {l : Launch} {e : Env} {s : State} {m : MethodId} {below : List Frame} {meth : Method} {c : Code} {b : Nat} (hx : p.tables.exec = Jvm.exec) (hb : c.code = code) (hr : meth.sig.returnType = ret) (hlocks : meth.locks = false) {pc : Nat} {H : Heap} {ls : Array Slot} (hdg : decode code pc = .ok (.ireturn, 1)) : W p l e room_1 s m #[Value.ref b] below meth c H [] 601024 7293034 (lw_Z below #[Value.ref b] s) (F0 m pc ls [.int 1]) := by
  intro T hT X
  obtain ⟨fs, hret, hrun, hended, hW, hframe⟩ := X.leave (v := some (.int 1)) (hlocks := hlocks) (fun h => by rw [hr] at h; cases h)
  have hmeth' : T.vm.method? m = some meth := X.method'
  refine ⟨T.setFrames fs, ?_, .returned (some (.int 1)), hrun, hended, rfl, ⟨_, rfl⟩, hW, hframe⟩
  jvm_step X.here [X.here.top, hx, hb, hdg, hmeth', hr, ret, narrow_b1]
  (try refine ⟨rfl, ?_⟩); (try refine ⟨rfl, ?_⟩)
  first | (intro acts; rw [hret _ acts rfl rfl rfl]) | rw [hret _ _ rfl rfl rfl]
  exact Steps.refl _
/-- what holds at the law's entry: the machine, the code, the tables' words (any of lw_tbl by 'hts w (by decide +kernel)'), the script of L ints xs at the cell b, what the Statement gives of the start (any of its parts by flat_of_before) -/
def lw_At (p : Program) (s : State) (m : MethodId) (meth : Method) (c : Code) (b L : Nat) (xs : Nat → Int32) : Prop :=
  p.tables.exec = Jvm.exec ∧ c.code = code ∧ meth.sig.returnType = ret ∧ c.maxLocals = 7 ∧ s.vm.findClass R_law = some m.cls ∧ (∀ w ∈ lw_tbl, w.before #[Value.ref b] s = true) ∧ va_X b L xs s s.heap ∧ b < s.heap.size ∧ meth.locks = false ∧ meth.name = "law" ∧ (∀ x ∈ c.exceptionTable.toList, False) ∧ (Jvm.Cond.and given_1 narrow_1).before #[Value.ref b] s = true
/-- no cell of ours yet -/
def jh_0 : jh_H := ([], fun _ => (0, 0), fun _ _ => 0, fun _ _ => 0, fun _ _ => none, fun _ _ => 0, fun _ _ => 0, fun _ _ => none)
theorem jc_q_at {c : Nat} {q : vw_C} (h : jc_cl[c]? = some q) : c < 9 ∧ q = jc_q c := by
  refine ⟨(List.getElem?_eq_some_iff.mp h).1, ?_⟩
  unfold jc_q
  rw [List.getD_eq_getElem?_getD, h]
  rfl
theorem jg_t_is {g : jg_G} {k : Nat} {q : ClassId × FieldType} (h : (jg_t g)[k]? = some q) : k < 6 ∧ q = (jg_A g k, jc_at k) := by
  have h1 : k < (jg_t g).length := (List.getElem?_eq_some_iff.mp h).1
  have h2 : k < 6 := by
    unfold jg_t at h1
    rw [List.length_map, List.length_range] at h1
    exact h1
  exact ⟨h2, (Option.some.inj ((jg_t_at g h2).symm.trans h)).symm⟩
theorem jc_arP {args : Array Value} {s : State} {ty : FieldType} (h : (Cond.arrayClass ty).before args s = true) : ∃ cA : ClassId, ArrOfT s cA ty ∧ s.vm.findClass ("[" ++ ty.toString) = some cA := by
  obtain ⟨cA, kA, comp, h1, h2, h3⟩ := Cond.arrayClass_spec (args := args) (first := s) (o := none) (s := s) (idx := []) h
  exact ⟨cA, fun n z => ⟨fun k h => (by cases h), kA, h2, comp, h3⟩, h1⟩
theorem jc_arO {s : State} {C : String} (h : va_AO C s) : ∃ cA : ClassId, ArrOfT s cA (.object C) ∧ va_RA s cA (.object C) := by
  obtain ⟨comp, cA, kA, h1, -, h3, h4, h5⟩ := Cond.arrayOver_spec (args := #[]) (first := s) (o := none) (s := s) (idx := []) h
  exact ⟨cA, fun n z => ⟨fun k h => (by cases h), kA, h3, comp, h4⟩, kA, comp, h3, h4, h1, h5⟩
set_option maxHeartbeats 4000000 in
set_option maxRecDepth 100000 in
/-- the world that the law begins in -/
theorem lw_world {args : Array Value} {s : State} (l : Launch) (hts : ∀ w ∈ lw_tbl, w.before args s = true) (h1 : narrow_1_1.before args s = true) (h2 : narrow_1_2.before args s = true) (h3 : narrow_1_3.before args s = true) : ∃ g : jg_G, jg_l g = l ∧ jg_b g = s.heap.size ∧ jw_wd g s := by
  have hbig : ∀ w ∈ jw_big, w.before args s = true := fun w hw => hts w (List.mem_filter.mp hw).1
  have k0 : ∀ ci, ∃ q : ClassId × (Nat → Nat), ci < 9 → u_Kn s (jc_q ci).1 (jc_q ci).2.1 (jc_q ci).2.2 q.1 q.2 := by
    intro ci
    by_cases hc : ci < 9
    · have key : ∃ (cC : ClassId) (iS : Nat → Nat), u_Kn s (jc_q ci).1 (jc_q ci).2.1 (jc_q ci).2.2 cC iS := by
        rcases (show ci = 0 ∨ ci = 1 ∨ ci = 2 ∨ ci = 3 ∨ ci = 4 ∨ ci = 5 ∨ ci = 6 ∨ ci = 7 ∨ ci = 8 by omega) with rfl | rfl | rfl | rfl | rfl | rfl | rfl | rfl | rfl
        · exact u_known hbig jc_o0.2.2.1 (hbig _ a_0)
        · exact u_known hbig jc_o1.2.2.1 (hbig _ a_1)
        · exact u_known hbig jc_o2.2.2.1 (hbig _ a_2)
        · exact u_known hbig jc_o3.2.2.1 (hbig _ a_3)
        · exact u_known hbig jc_o4.2.2.1 (hbig _ a_4)
        · exact u_known hbig jc_o5.2.2.1 (hbig _ a_5)
        · exact u_known hbig jc_o6.2.2.1 (hbig _ a_6)
        · exact u_known hbig jc_o7.2.2.1 (hbig _ a_7)
        · exact u_known hbig jc_o8.2.2.1 (hbig _ a_8)
      obtain ⟨cC, iS, hk⟩ := key
      exact ⟨(cC, iS), fun _ => hk⟩
    · exact ⟨(0, fun _ => 0), fun h => absurd h hc⟩
  have t0 : ∀ t, ∃ cA : ClassId, t < 6 → ArrOfT s cA (jc_at t) ∧ va_RA s cA (jc_at t) := by
    intro t
    by_cases ht : t < 6
    · have key : ∃ cA : ClassId, ArrOfT s cA (jc_at t) ∧ va_RA s cA (jc_at t) := by
        rcases (show t = 0 ∨ t = 1 ∨ t = 2 ∨ t = 3 ∨ t = 4 ∨ t = 5 by omega) with rfl | rfl | rfl | rfl | rfl | rfl
        · exact jc_arP (hbig _ v_0)
        · exact jc_arP (hbig _ v_1)
        · exact jc_arP (hbig _ v_2)
        · exact jc_arP (hbig _ v_3)
        · exact jc_arO (q9w_all hts 4 _ (by decide) rfl)
        · exact jc_arO (q9w_all hts 5 _ (by decide) rfl)
      obtain ⟨cA, hk⟩ := key
      exact ⟨cA, fun _ => hk⟩
    · exact ⟨0, fun h => absurd h ht⟩
  obtain ⟨f, hf⟩ := Classical.axiomOfChoice k0
  obtain ⟨aC, hC⟩ := Classical.axiomOfChoice t0
  refine ⟨(l, (fun ci => (f ci).1, fun ci => (f ci).2), aC, s.heap.size, jk_ad args s), rfl, rfl, ⟨fun c q hq => ?_, fun k q hk => ?_⟩, Nat.le_refl _, q9c_all hts h1 h2 h3 l _ aC s.heap.size (fun a ha => Nat.not_le.mpr ha) rfl⟩
  · obtain ⟨c9, rfl⟩ := jc_q_at hq
    exact hf c c9
  · obtain ⟨k6, rfl⟩ := jg_t_is hk
    exact hC k k6
set_option maxHeartbeats 4000000 in
set_option maxRecDepth 100000 in
/-- THE LAW, from its entry -/
theorem whole_start {p : Program} {e : Env} {s : State} {m : MethodId} {below : List Frame} {meth : Method} {c : Code} (l : Launch) (hg : l.stackTraces = false) {b L : Nat} {xs : Nat → Int32} (hL : L ≤ 1536) (C0 : lw_At p s m meth c b L xs) : W p l e room_1 s m #[Value.ref b] below meth c s.heap [] 0 0 (lw_Z below #[Value.ref b] s) (entryFrame m ([Value.ref b] : List Value).toArray 7) := by
  obtain ⟨hx, hb, hr, hml, hown, hts, hX, hbl, hlocks, hname, htab, hgv⟩ := id C0
  have hn : narrow_1.before #[Value.ref b] s = true := aR hgv
  have h1 : narrow_1_1.before #[Value.ref b] s = true := aL hn
  have h23 : (Cond.and narrow_1_2 narrow_1_3).before #[Value.ref b] s = true := aR hn
  obtain ⟨g, hgl, hgb, hwd⟩ := lw_world l hts h1 (aL h23) (aR h23)
  subst hgl
  have hbig : ∀ w ∈ jw_big, w.before #[Value.ref b] s = true := fun w hw => hts w (List.mem_filter.mp hw).1
  have hsc : jy_scr (fun U => U = s) g b L xs := by
    intro U hU
    subst hU
    exact ⟨hX, hbl, by unfold jg_S; rw [hgb]; exact Nat.not_le.mpr hbl⟩
  have J := law_begin (N := fun U => U = s) (d := 1000) (h := jh_0) (kc := 350000) (ks := 2000000) (Q := fun o _ => o = .inl (some (.inl 1))) hg hsc (fun U hU => by subst hU; exact q9n_all h1 (aL h23) (aR h23)) hL (by decide) (fun _ => rfl) (by decide) (by decide)
  have hfit : lo_fit [.inr (.inr (some b))] [some (.inr (.inr (some b))), none, none, none, none, none, none] := by simp [lo_fit, jv_c]
  have hl := lv_entry ([Value.ref b]) (n := 7) (Nat.le_of_ble_eq_true rfl)
  rw [lg_entry_eq]
  generalize (lg_sl ([Value.ref b]) ++ List.replicate (7 - (lg_sl ([Value.ref b])).length) Slot.unset).toArray = arr at hl ⊢
  have hP : jh_P g jh_0 s.heap := ⟨fun k q h => by simp [jh_W, va_pl, jh_L, jh_0] at h, fun i j p q h => by simp [jh_W, va_pl, jh_L, jh_0] at h, fun k q h => by simp [jh_W, va_pl, jh_L, jh_0] at h⟩
  refine J p e s m #[Value.ref b] below meth c room_1 (lw_Z below #[Value.ref b] s) s.heap [] 0 0 arr rfl ⟨hx, hb, hml, hown, hbig, hr, hlocks, hname, hwd, Nat.le_of_ble_eq_true rfl, Nat.le_of_ble_eq_true rfl, hg, k_law⟩ htab ?_ hP va_S.rf ⟨hl.1, hl.2.1, fun i v q => hl.2.2 (i, jv v) (by have := lo_fit_ok [.inr (.inr (some b))] _ 0 hfit i v q; simpa [jv, va_rf] using this)⟩ (Nat.le_of_ble_eq_true rfl) (Nat.le_of_ble_eq_true rfl)
  refine ⟨fun v h' hq H locs cells slots pc arr' hP' hS hc hs hrt => ?_, fun E h' hq => ?_⟩
  · have hv : v = some (.inl 1) := Sum.inl.inj hq
    subst hv
    have hd : decode code pc = .ok (.ireturn, 1) := by
      rcases hrt with ⟨x, -, hd, -⟩ | ⟨x, hx9, -⟩ | ⟨x, hx9, -⟩ | ⟨hx9, -⟩
      · exact hd
      · cases hx9
      · cases hx9
      · cases hx9
    refine va_forget (fun q hq9 => ?_) (W.widen hc hs (lw_ret hx hb hr hlocks hd))
    have := hS.2.2 q hq9
    unfold jg_S at this
    rwa [hgb] at this
  · cases hq
set_option maxHeartbeats 4000000 in
theorem lw_walk (l : Launch) (hg : l.stackTraces = false) (b : Addr) (xs : List Int32) : MetFree l x (headSpec (Jvm.Cond.code x code maxLocals ret :: tables_1) room_1) (lw_P b xs) (fun _ _ _ _ _ => True) lw_Q := by
  refine MetFree.of_bodyS (code := code) (maxLocals := maxLocals) (ret := ret) (by decide) ?_ ?_
  · intro args s m h hn
    obtain ⟨meth, c, h1, h2, h3, h4, h5, h6, -, -⟩ := Cond.code_spec hn (atoms_spec (ws := Jvm.Cond.code x code maxLocals ret :: tables_1) h _ List.mem_cons_self)
    exact ⟨meth, c, h1, h2, h3, h4, h5, h6⟩
  · intro p e s m args below meth c s₁ B hml0 hP _
    obtain ⟨rfl, hx, hbd, hgv⟩ := hP
    obtain ⟨scr, harrAt, hlist, hof, hsmall⟩ := hx
    obtain ⟨hcb, hkn, -, -⟩ := State.arrayAt?_spec harrAt
    have hown : s.vm.findClass R_law = some m.cls := findClass_of_methodNamed B.named
    have hts0 : ∀ c ∈ (Jvm.Cond.code x code maxLocals ret :: tables_1), c.before #[Value.ref b] s = true := atoms_spec (ws := Jvm.Cond.code x code maxLocals ret :: tables_1) B.pre
    have hts : ∀ w ∈ lw_tbl, w.before #[Value.ref b] s = true := k2_hts_sels lw_privs (fun w hw => hts0 w (List.mem_cons_of_mem _ hw)) lw_privs_ok
    have hml : c.maxLocals = 7 := B.maxLocals_eq (hts0 _ List.mem_cons_self)
    have X₀ : Stand p l e room_1 s m #[Value.ref b] below meth c s₁ [] 0 0 := Stand.of_body B
    have hh0 : s₁.heap = s.heap := by rw [B.state]; rfl
    have hsz : scr.slots.size = xs.length := by rw [← Array.length_toList, hlist, List.length_map]
    have hval : ∀ j : Nat, j < xs.length → scr.slots[j]? = some (.int (xs.getD j 0)) := fun j hj => by
      rw [← Array.getElem?_toList, hlist]
      simp [hj]
    have hbl : b < s.heap.size := (Array.getElem?_eq_some_iff.mp hcb).1
    have hX : va_X b xs.length (fun j => xs.getD j 0) s s.heap := ⟨scr, hcb, hof, hkn, hsz, hval⟩
    have htab : ∀ x ∈ c.exceptionTable.toList, False := by
      obtain ⟨meth9, c9, h1, h2, -, -, -, -, h7, -⟩ := Cond.code_spec B.named (hts0 _ List.mem_cons_self)
      cases Option.some.inj (h1.symm.trans B.method)
      cases Option.some.inj (h2.symm.trans (Stand.of_body B).code)
      intro x hx
      rw [Array.isEmpty_iff.mp h7] at hx
      cases hx
    have K : W p l e room_1 s m #[Value.ref b] below meth c s₁.heap [] 0 0 (lw_Z below #[Value.ref b] s) (entryFrame m ([Value.ref b] : List Value).toArray 7) := by
      rw [hh0]
      exact whole_start l hg hbd ⟨B.exec, B.bytes, B.returns, hml, hown, hts, hX, hbl, B.notSynchronized, (name_of_methodNamed B.named B.method).1, htab, hgv⟩
    obtain ⟨t, a1, o, b1, b2, b3⟩ := K s₁ rfl X₀
    exact ⟨t, o, a1, b1, b2, b3⟩
theorem lw_pre_spec {args : Array Value} {s : State} (h : (Jvm.Cond.and given_1 narrow_1).before args s = true) (hr : rest_1_c.before args s = true) : ∃ (b : Addr) (xs : List Int32), lw_P b xs args s := by
  have hs := flat_of_before _ h
  have hq := flat_of_before _ hr
  have hc : (Cond.count 1).before args s = true := hs _ (by decide +kernel)
  have harr : (Cond.arrayOf (.arg 0) .int).before args s = true := hs _ (by decide +kernel)
  have hle : (Cond.le (.length (.arg 0)) (.int 1536)).before args s = true := hs _ (by decide +kernel)
  have hlen : (Cond.isInt (.length (.arg 0))).before args s = true := hq _ (by decide +kernel)
  have hall : (Cond.all (.arg 0) (.isInt (.elem (.arg 0) (.index 0)))).before args s = true := hq _ (by decide +kernel)
  obtain ⟨b, xs, hb, hx⟩ := State.ints_of_pre rfl harr hlen hall
  have hsm : xs.length < 2 ^ 31 := hx.choose_spec.2.2.2
  have hev : (Term.length (.arg 0)).eval args s none [] s = some (.int xs.length.toInt32) := hx.length_eval hb
  have hv := Cond.le_ints hev (show (Term.int 1536).eval args s none [] s = some (.int 1536) from rfl)
  have hd : xs.length.toInt32 ≤ 1536 := by
    simpa [Cond.before, Cond.holds, hv] using hle
  have hN : xs.length ≤ 1536 := (Int32.ofNat_le_ofNat hsm (by decide)).mp (show Int32.ofNat xs.length ≤ Int32.ofNat 1536 from hd)
  exact ⟨b, xs, Cond.one_arg hc (show args[0]? = some (.ref b) from hb), hx, hN, h⟩
theorem lw_comes (l : Launch) (hg : l.stackTraces = false) : Comes l x (Jvm.Cond.code x code maxLocals ret :: tables_1) room_1 (fun tb e args s => Calls_1 tb e args s ∧ rest_1 tb e args s ∧ Pre_1 tb e args s)
    (fun _ _ args s o t => lw_Q args s o t) := by
  intro p e ha hc hk s m args below hf hfit hheap happ hpre
  obtain ⟨b, xs, hP⟩ := lw_pre_spec hpre.2.2 hpre.2.1
  obtain ⟨k, o, h1, h2, h3, hQ⟩ := lw_walk l hg b xs p e ha hc hk s m args below hf ((Spec.applies_iff_loose hf).mp happ).1 hP trivial
  exact ⟨k, o, h1, h2, h3, hQ⟩
theorem lw_frame {s t : State} {o : Outcome} {args : Array Value} (h : Framed s o t [] 601024 7293034) :
    Framed s o t (fieldLocs frame_1_writes args s ++ arrayLocs frame_1_arrays args s ++ staticLocs frame_1_statics s) 601024 7293034 := h
theorem lw_limb (L : Cond) (hL : ∀ (args : Array Value) (s t : State), L.after args s (.returned (some (.int 1))) t = true) :
    ArmFor flags0 classFile x code maxLocals ret World_1 tables_1 room_1 Calls_1 rest_1 Pre_1
      (fun tb e a s o t => postC L tb e a s o t ∧ Framed s o t (fieldLocs frame_1_writes a s ++ arrayLocs frame_1_arrays a s ++ staticLocs frame_1_statics s) 601024 7293034) := by
  intro l hfl _ _ p e ha hc hk s m args below hf hfit hheap happ hpre
  obtain ⟨k, o, h1, h2, h3, rfl, hF⟩ := lw_comes l (by unfold Launch.stackTraces; rw [hfl]; decide) p e ha hc hk s m args below hf hfit hheap happ hpre
  exact ⟨k, _, h1, h2, h3, hL args s _, lw_frame hF⟩
theorem i_vc : Claimed_1_1 ∧ Claimed_1_2 := ⟨lw_limb limb_1_1 (fun args s t => by simp [limb_1_1, Cond.after, Cond.holds, Cond.value]), lw_limb limb_1_2 (fun args s t => Cond.after_iff.mpr (by
  first | (rw [show limb_1_2 = Cond.eq .result (.int 1) from rfl, Cond.eq_ints (x := 1) (y := 1) rfl rfl]; simp; done) | (simp [limb_1_2, Cond.value, Term.eval]; done)))⟩
