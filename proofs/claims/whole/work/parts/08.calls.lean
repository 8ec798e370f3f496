/-! CALLS. jw_C g d mc ms M As h Q: method M, called with As in heap h, ends with Q; d frames, mc cells, ms slots are enough. -/
def jw_Qc (g : jg_G) (Q : jw_O → jh_H → Prop) : Array Value → State → Outcome → State → Prop := fun _ st oc t => ∃ (v : Option jV) (h' : jh_H), oc = .returned (v.map jv) ∧ Q (.inl v) h' ∧ jh_P g h' t.heap ∧ va_F (jg_S g) st t
def jw_Xc (g : jg_G) (Q : jw_O → jh_H → Prop) : String → State → State → Prop := fun E st t => ∃ h', Q (.inr E) h' ∧ jh_P g h' t.heap ∧ va_F (jg_S g) st t
def jw_Pc (g : jg_G) (As : List jV) (h : jh_H) : Array Value → State → Prop := va_Pc (As.map jv) (fun U => jh_P g h U.heap ∧ jw_wd g U)
def jw_ws (M : jw_M) : List Cond := Cond.code M.1 M.2.1 M.2.2.1 M.2.2.2.1 :: jw_big
def jw_C (g : jg_G) (d mc ms : Nat) (M : jw_M) (As : List jV) (h : jh_H) (Q : jw_O → jh_H → Prop) : Prop :=
  vx_Met (jg_l g) M.1 (jw_ws M) { frames := d, cells := mc, slots := ms, locals := 40 * d } (jw_Pc g As h) (jw_Qc g Q) (jw_Xc g Q) mc ms (jg_S g)
def jw_T0 : Code → Prop := fun c => ∀ x ∈ c.exceptionTable.toList, False
theorem jw_blind {g : jg_G} {As : List jV} {h : jh_H} : FrameBlind (jw_Pc g As h) := by
  intro a U fr mk q
  exact ⟨q.1, q.2.1, jw_wd.same (u := U) (U := U.calling fr mk a) rfl rfl q.2.2⟩
theorem jw_good {w : Cond} (h : w ∈ jw_big) : w ∈ jw_big ∧ ((w.onTables && w.keeps) = true ∨ ∃ ty, w = .arrayClass ty) := ⟨h, good_of_word (List.mem_filter.mp h).2⟩
theorem jw_goodIn {M : jw_M} (hcode : Cond.code M.1 M.2.1 M.2.2.1 M.2.2.2.1 ∈ jw_big) : GoodIn jw_big (jw_ws M) := by
  intro w hw
  rcases List.mem_cons.mp hw with rfl | hw
  · exact jw_good hcode
  · exact jw_good hw
/-- the locals at a method's begin -/
def lo_fit : List jV → List (Option jV) → Prop
  | [], ls => ∀ x ∈ ls, x = none
  | v :: r, w :: ls => w = some v ∧ ((jv_c v = 1 ∧ lo_fit r ls) ∨ (jv_c v = 2 ∧ ∃ ls', ls = none :: ls' ∧ lo_fit r ls'))
  | _ :: _, [] => False
theorem lo_fit_ok : ∀ (vs : List jV) (ls : List (Option jV)) (n : Nat), lo_fit vs ls → ∀ i v, ls[i]? = some (some v) → (n + i, jv v) ∈ lv_args n (vs.map jv) := by
  intro vs
  induction vs with
  | nil => intro ls n hf i v hv; have := hf _ (List.mem_of_getElem? hv); cases this
  | cons w r ih =>
    intro ls n hf i v hv
    cases ls with
    | nil => exact absurd hf id
    | cons x ls =>
      obtain ⟨rfl, hf⟩ := hf
      rcases hf with ⟨hc, hf⟩ | ⟨hc, ls', rfl, hf⟩
      · cases i with
        | zero => simp at hv; subst hv; simp [lv_args]
        | succ i =>
          have h1 := ih ls (n + 1) hf i v (by simpa using hv)
          have e : n + (i + 1) = n + 1 + i := by omega
          rw [e]
          simp [lv_args, jv_cat, hc, h1]
      · cases i with
        | zero => simp at hv; subst hv; simp [lv_args]
        | succ i =>
          cases i with
          | zero => simp at hv
          | succ i =>
            have h1 := ih ls' (n + 2) hf i v (by simpa using hv)
            have e : n + (i + 1 + 1) = n + 2 + i := by omega
            rw [e]
            simp [lv_args, jv_cat, hc, h1]
theorem lo_fit_len : ∀ (vs : List jV) (ls : List (Option jV)), lo_fit vs ls → (lg_sl (vs.map jv)).length ≤ ls.length := by
  intro vs
  induction vs with
  | nil => intro ls _; simp [lg_sl]
  | cons w r ih =>
    intro ls hf
    cases ls with
    | nil => exact absurd hf id
    | cons x ls =>
      obtain ⟨rfl, hf⟩ := hf
      have e : lg_sl ((w :: r).map jv) = (if (jv w).category = 2 then [Slot.val (jv w), Slot.second] else [Slot.val (jv w)]) ++ lg_sl (r.map jv) := by simp [lg_sl]
      rw [e, List.length_append, jv_cat]
      rcases hf with ⟨hc, hf⟩ | ⟨hc, ls', rfl, hf⟩
      · have h1 := ih ls hf
        rw [hc, if_neg (by decide), List.length_cons, List.length_cons, List.length_nil]
        omega
      · have h1 := ih ls' hf
        rw [hc, if_pos rfl, List.length_cons, List.length_cons, List.length_cons, List.length_cons, List.length_nil]
        omega
section JWC
variable {g : jg_G} {d : Nat} {M : jw_M} {T : Code → Prop} {pc : Nat} {ls : List (Option jV)} {st : List jV} {h : jh_H} {kc ks : Nat} {Q : jw_O → jh_H → Prop}
theorem jw_intro {mc ms : Nat} {As : List jV} (hy : plainName M.1.cls = true) (htb : ∀ pc x, M.2.2.2.2 pc = some x → decode M.2.1 pc = .ok x) (hll : ls.length = M.2.2.1) (hfit : lo_fit As ls) (hg : (jg_l g).stackTraces = false) (k : jw_J g d M jw_T0 0 ls [] h mc ms Q) : jw_C g d mc ms M As h Q := by
  have hlen : (lg_sl (As.map jv)).length ≤ M.2.2.1 := by rw [← hll]; exact lo_fit_len As ls hfit
  refine vx_ofW (cc := M.2.1) (maxL := M.2.2.1) (ret := M.2.2.2.1) hy rfl ?_
  intro p e s m args below meth c s₁ B hml htab hv
  obtain ⟨rfl, hP, hwd⟩ := hv
  have hts := atoms_spec (ws := jw_ws M) B.pre
  have hl := lv_entry (As.map jv) (n := M.2.2.1) hlen
  rw [lg_entry_eq]
  generalize (lg_sl (As.map jv) ++ List.replicate (M.2.2.1 - (lg_sl (As.map jv)).length) Slot.unset).toArray = arr at hl ⊢
  refine k p e s m (As.map jv).toArray below meth c _ _ s.heap [] 0 0 arr ⟨B.exec, B.bytes, hml, findClass_of_methodNamed B.named, fun w hw => hts w (List.mem_cons_of_mem _ hw), B.returns, B.notSynchronized, (name_of_methodNamed B.named B.method).1, hwd, Nat.le_refl _, Nat.le_refl _, hg, htb⟩ htab ?_ hP va_S.rf ⟨hl.1, hl.2.1, fun i v q => hl.2.2 (i, jv v) (by have := lo_fit_ok As ls 0 hfit i v q; simpa using this)⟩ (by show 0 + mc ≤ mc; omega) (by show 0 + ms ≤ ms; omega)
  refine ⟨fun v h' hq H locs cells slots pc arr hP hS hc hs hrt => ?_, fun E h' hq => ⟨fun H locs cells slots pc arr rest q ce hP hS hc hs hce hcv hcl hcov => ?_, fun H locs cells slots pc arr rest hP hS harr hc hs hrest hts9 hcov hf hlo => ?_⟩⟩
  · have hend : ∀ t : State, t.heap = H → s.WarmedH t.vm → jw_Qc g Q (As.map jv).toArray s (.returned (v.map jv)) t := fun t ht hW => ⟨v, h', rfl, hq, by rw [ht]; exact hP, hS.F ht⟩
    refine vx_ret (W.widen hc hs ?_)
    rcases hrt with ⟨x, rfl, hd, ty, hret, hn⟩ | ⟨x, rfl, hd, hret⟩ | ⟨r, rfl, hd, ty, hret, hty⟩ | ⟨rfl, hd, hret⟩
    · exact W.zret B.exec B.bytes (B.returns.trans hret) hn hend hS.2.2 hd B.notSynchronized
    · exact W.lret B.exec B.bytes (B.returns.trans hret) hend hS.2.2 hd B.notSynchronized
    · exact W.aret B.exec B.bytes (B.returns.trans hret) hty (va_rf_or r) hend hS.2.2 hd B.notSynchronized
    · exact W.vret B.exec B.bytes (B.returns.trans hret) hend hS.2.2 hd B.notSynchronized
  · exact vx_out hcov B.notSynchronized hce hcv hcl (fun t ht hal => ⟨h', hq, by rw [ht]; exact hP, hS.F ht⟩) hS.2.2 hc hs
  · rcases hts9 with ⟨names, ik, is, ic, n, text, t1, t2, t3, t4, t5, t6, t7, t8, t9, t10, t11, t12, t13⟩ | ⟨names, ik, is, ic, n, text, ix, rx, t1, t2, t3, t4, t5, t6, t7, t8, t9, t10, t11, t12, t13, x0, x1, x2, x5⟩
    · have hbig : ∀ w ∈ jw_big, w.before (As.map jv).toArray s = true := fun w hw => hts w (List.mem_cons_of_mem _ hw)
      obtain ⟨sa, hstr⟩ := jc_con_str hwd.2.2 t7
      refine vx_throwS (is := is) (sa := sa) (text := text) (names := names) B.exec B.bytes hg (findClass_of_methodNamed B.named) t1 t2 (hbig _ t3) (hbig _ t4) hstr (fun w hw => (t5 w hw).elim (hbig w) (fun z => va_Nw.use (jw_nest_tab w z) (hwd.2.2.2.1 w z))) t6 (jc_con_U hwd.2.2) (jc_con_N hwd.2.2) hS harr t8 t9 t10 t11 t12 hcov (by omega) (by omega) hc hs B.notSynchronized (fun t hal hz hq9 => ⟨h', hq, hP.kept hq9, Nat.le_trans hS.1 hz, fun q q1 q2 => by rw [hq9 q (Nat.lt_of_lt_of_le q1 hS.1)]; exact hS.2.1 q q1 q2⟩) hS.2.2 hc hs
    · have hbig : ∀ w ∈ jw_big, w.before (As.map jv).toArray s = true := fun w hw => hts w (List.mem_cons_of_mem _ hw)
      obtain ⟨sa, hstr⟩ := jc_con_str hwd.2.2 t7
      refine vx_throwX (is := is) (sa := sa) (text := text) (names := names) B.exec B.bytes hg x0 x1 x2 x5 (findClass_of_methodNamed B.named) t1 t2 (hbig _ t3) (hbig _ t4) hstr (fun w hw => (t5 w hw).elim (hbig w) (fun z => va_Nw.use (jw_nest_tab w z) (hwd.2.2.2.1 w z))) t6 (jc_con_U hwd.2.2) (jc_con_N hwd.2.2) hS harr t8 t9 t10 t11 t12 hcov (by omega) (by omega) hc hs B.notSynchronized (fun t hal hz hq9 => ⟨h', hq, hP.kept hq9, Nat.le_trans hS.1 hz, fun q q1 q2 => by rw [hq9 q (Nat.lt_of_lt_of_le q1 hS.1)]; exact hS.2.1 q q1 q2⟩) hS.2.2 hc hs
/-- behind a call -/
theorem jw_after {p : Program} {e : Env} {s : State} {m : MethodId} {args : Array Value} {below : List Frame} {meth : Method} {c : Code} {R : Room} {Z : State → Prop} {H : Heap} {locs : List Loc} {cells slots mc ms : Nat} {arr : Array Slot} {st0 : List Value} {a : Array Value} {Q' : jw_O → jh_H → Prop}
    (hA : jw_At g M d R p s m args meth c) (hT : T c) (hE : jw_Ex g M R p e s m args below meth c Z Q) (hS : va_S (jg_S g) s.heap H locs) (hl : lo_has arr M.2.2.1 ls) (hc : cells + kc ≤ R.cells) (hs : slots + ks ≤ R.slots) (hmc : mc ≤ kc) (hms : ms ≤ ks)
    (hr : vx_Run p (jg_l g) e R s m args below meth c H locs cells slots mc ms (F0 m pc arr st0) (st.map jv) (jw_Qc g Q' a) (jw_Xc g Q') (jg_S g))
    (kr : ∀ v h', Q' (.inl v) h' → jw_J g d M T (pc + 3) ls (v.toList ++ st) h' (kc - mc) (ks - ms) Q) (kx : ∀ E h', Q' (.inr E) h' → Q (.inr E) h') (hcov : ∀ c, T c → ∀ x ∈ c.exceptionTable.toList, covers x pc = false) :
    W p (jg_l g) e R s m args below meth c H locs cells slots Z (F0 m pc arr st0) := by
  intro T0 hT0 X
  rcases hr T0 hT0 X with ⟨v, st₀, t, T', L, e0, X', hL, e1, e2, hq, go⟩ | ⟨q, st₀, t, T', L, E, ce, e0, X', hL, e1, e2, hq, hce, hcv, hcl, st9⟩
  · obtain ⟨v', h', e3, hq, hP', hF⟩ := hq
    injection e3 with e3
    subst e3
    obtain ⟨-, -, hS'⟩ := vx_keep e0 e1 hS (fun _ _ z => z) (fun _ z => z) hL hF
    obtain ⟨t2, s2, z2⟩ := kr v' h' hq p e s m args below meth c R Z T'.heap (locs ++ L) (cells + mc) (slots + ms) arr hA hT hE (by rw [e1]; exact hP') hS' hl (by omega) (by omega) T' rfl X'
    have e4 : (v'.toList ++ st).map jv = (v'.map jv).toList ++ st.map jv := by cases v' <;> rfl
    rw [e4] at s2
    exact ⟨t2, go t2 s2, z2⟩
  · obtain ⟨h', hq, hP', hF⟩ := hq
    obtain ⟨-, -, hS'⟩ := vx_keep e0 e1 hS (fun _ _ z => z) (fun _ z => z) hL hF
    obtain ⟨t2, s2, z2⟩ := (hE.2 E h' (kx E h' hq)).1 T'.heap (locs ++ L) (cells + mc) (slots + ms) pc arr (st.map jv) q ce (by rw [e1]; exact hP') hS' (by omega) (by omega) (by rw [e1]; exact hce) hcv hcl (hcov c hT) T' rfl X'
    exact ⟨t2, st9.trans s2, z2⟩
/-- what a call needs of the callee -/
def jl_m (M' : jw_M) (n : Nat) : Prop := Cond.code M'.1 M'.2.1 M'.2.2.1 M'.2.2.2.1 ∈ jw_big ∧ Cond.initialized M'.1.cls ∈ jw_big ∧ (M'.1.cls ≠ "java/lang/invoke/MethodHandle" ∧ M'.1.cls ≠ "java/lang/invoke/VarHandle" ∧ (parseMethodDescriptor M'.1.desc).map (fun d => d.parameters.length) = some n) ∧ M'.2.2.1 ≤ 21
def jl_k (own : String) (idx : Nat) (y : MethodName) : Prop := Cond.methodLink own idx y ∈ jw_big ∨ ∃ host, Cond.methodLinkNest own idx y host ∈ jw_nest
theorem jw_pre {p : Program} {s : State} {m : MethodId} {args : Array Value} {meth : Method} {c : Code} {R : Room} {H : Heap} {locs : List Loc} (hA : jw_At g M d R p s m args meth c) (hP : jh_P g h H) (hS : va_S (jg_S g) s.heap H locs) (As : List jV) : ∀ U : State, U.heap = H → s.WarmedH U.vm → jw_Pc g As h (As.map jv).toArray U := by
  obtain ⟨hx, hb, hml, hown, hts, hr, hlk, hnm, hwd, hdf, hdl, hst, hok⟩ := hA
  intro U hU hW
  exact ⟨rfl, by rw [hU]; exact hP, jw_wd.moved hW hwd (by rw [hU]; exact hS.1) (fun q q1 q2 => by rw [hU]; exact hS.2.1 q q1 q2)⟩
theorem jw_cb {M' : jw_M} {d' n idx mc ms : Nat} {R : Room} {s : State} {args : Array Value} (hts : ∀ w ∈ jw_big, w.before args s = true) (hm : jl_m M' n) (hl : Cond.methodLink M.1.cls idx M'.1 ∈ jw_big) (hd1 : d' + 1 ≤ d) (hdf : d ≤ R.frames) (hdl : 40 * d ≤ R.locals) : CallB R s args M.1.cls idx M'.1 M'.2.1 M'.2.2.1 M'.2.2.2.1 (jw_ws M') { frames := d', cells := mc, slots := ms, locals := 40 * d' } mc ms n :=
  callB_of n hts (jw_goodIn hm.1) rfl rfl rfl (hts _ hm.2.1) (hts _ hl) hm.2.2.1 ⟨by show d' + 1 ≤ _; omega, by show 8 + (M'.2.2.1 + 11) + 40 * d' ≤ _; have := hm.2.2.2; omega⟩
theorem jw_cn {M' : jw_M} {d' n idx mc ms : Nat} {host : String} {R : Room} {s : State} {args : Array Value} (hts : ∀ w ∈ jw_big, w.before args s = true) (hm : jl_m M' n) (hl : va_Nw (.methodLinkNest M.1.cls idx M'.1 host) s) (hd1 : d' + 1 ≤ d) (hdf : d ≤ R.frames) (hdl : 40 * d ≤ R.locals) : va_CN R s args M.1.cls idx M'.1 host M'.2.1 M'.2.2.1 M'.2.2.2.1 (jw_ws M') { frames := d', cells := mc, slots := ms, locals := 40 * d' } mc ms n :=
  va_cnB n hts (jw_goodIn hm.1) rfl rfl rfl hl (hts _ hm.2.1) hm.2.2.1 ⟨by show d' + 1 ≤ _; omega, by show 8 + (M'.2.2.1 + 11) + 40 * d' ≤ _; have := hm.2.2.2; omega⟩
theorem jw_callV {M' : jw_M} {d' n idx mc ms a ci : Nat} {As : List jV} {Q' : jw_O → jh_H → Prop} (hd : M.2.2.2.2 pc = some (.invokevirtual idx, 3)) (hm : jl_m M' n) (hk : jl_k M.1.cls idx M'.1) (hin : Cond.instanceMethod M'.1 ∈ jw_big) (hse : Cond.selects M'.1.cls M'.1 M'.1 ∈ jw_big) (hd1 : d' + 1 ≤ d) (hcq : jc_ok ci) (hcn : (jc_q ci).1 = M'.1.cls) (ho : jh_O h a ci) (hn : As.length = n) (hst0 : ((st.map jv).map fun v => v.category).sum ≤ 8) (hmc : mc ≤ kc) (hms : ms ≤ ks) (hcov : ∀ c, T c → ∀ x ∈ c.exceptionTable.toList, covers x pc = false)
    (hC : jw_C g d' mc ms M' (.inr (.inr (some a)) :: As) h Q') (kr : ∀ v h', Q' (.inl v) h' → jw_J g d M T (pc + 3) ls (v.toList ++ st) h' (kc - mc) (ks - ms) Q) (kx : ∀ E h', Q' (.inr E) h' → Q (.inr E) h') : jw_J g d M T pc ls (As.reverse ++ .inr (.inr (some a)) :: st) h kc ks Q := by
  intro p e s m args below meth c R Z H locs cells slots arr hA hT hE hP hS hl hc hs
  obtain ⟨hx, hb, hml, hown, hts, hr, hlk, hnm, hwd, hdf, hdl, hst, hok⟩ := id hA
  obtain ⟨q0, he⟩ := jh_at (g := g) ho.1
  rw [jh_E_O hcq.2.1 ho] at he
  have hrec := va_recv hwd.1 hP.1 hcq.1 he
  rw [hcn] at hrec
  have hpre := jw_pre hA hP hS (.inr (.inr (some a)) :: As)
  refine jw_after hA hT hE hS hl hc hs hmc hms ?_ kr kx hcov (a := (Value.ref a :: As.map jv).toArray)
  rcases hk with hk | ⟨host, hk⟩
  · exact vx_runV (nL := M.2.2.1) (cc := M.2.1) ⟨hx, hb, hml, hown, hts⟩ hC ⟨jw_cb hts hm hk hd1 hdf hdl, hts _ hin, hts _ hse⟩ ⟨jw_blind, hrec, hpre⟩ rfl ((List.length_map _).trans hn) hl.1 (by simp [jv, va_rf]) (lv_room hst0) (hok _ _ hd) ⟨by omega, by omega⟩
  · exact jn_V (nL := M.2.2.1) (cc := M.2.1) ⟨hx, hb, hml, hown, hts⟩ hC ⟨jw_cn hts hm (hwd.2.2.2.1 _ hk) hd1 hdf hdl, hts _ hin, hts _ hse⟩ ⟨jw_blind, hrec, hpre⟩ rfl ((List.length_map _).trans hn) hl.1 (by simp [jv, va_rf]) (lv_room hst0) (hok _ _ hd) ⟨by omega, by omega⟩
theorem jw_callS {M' : jw_M} {d' n idx mc ms : Nat} {As : List jV} {Q' : jw_O → jh_H → Prop} (hd : M.2.2.2.2 pc = some (.invokestatic idx, 3)) (hm : jl_m M' n) (hk : jl_k M.1.cls idx M'.1) (hin : Cond.static M'.1 ∈ jw_big) (hd1 : d' + 1 ≤ d) (hn : As.length = n) (hst0 : ((st.map jv).map fun v => v.category).sum ≤ 8) (hmc : mc ≤ kc) (hms : ms ≤ ks) (hcov : ∀ c, T c → ∀ x ∈ c.exceptionTable.toList, covers x pc = false)
    (hC : jw_C g d' mc ms M' As h Q') (kr : ∀ v h', Q' (.inl v) h' → jw_J g d M T (pc + 3) ls (v.toList ++ st) h' (kc - mc) (ks - ms) Q) (kx : ∀ E h', Q' (.inr E) h' → Q (.inr E) h') : jw_J g d M T pc ls (As.reverse ++ st) h kc ks Q := by
  intro p e s m args below meth c R Z H locs cells slots arr hA hT hE hP hS hl hc hs
  obtain ⟨hx, hb, hml, hown, hts, hr, hlk, hnm, hwd, hdf, hdl, hst, hok⟩ := id hA
  have hpre := jw_pre hA hP hS As
  refine jw_after hA hT hE hS hl hc hs hmc hms ?_ kr kx hcov (a := (As.map jv).toArray)
  rcases hk with hk | ⟨host, hk⟩
  · exact vx_runS (nL := M.2.2.1) (cc := M.2.1) ⟨hx, hb, hml, hown, hts⟩ hC ⟨jw_cb hts hm hk hd1 hdf hdl, hts _ hin⟩ ⟨jw_blind, hpre⟩ rfl ((List.length_map _).trans hn) hl.1 (by simp [jv, va_rf]) (lv_room hst0) (hok _ _ hd) ⟨by omega, by omega⟩
  · exact jn_S (nL := M.2.2.1) (cc := M.2.1) ⟨hx, hb, hml, hown, hts⟩ hC ⟨jw_cn hts hm (hwd.2.2.2.1 _ hk) hd1 hdf hdl, hts _ hin, trivial⟩ ⟨jw_blind, hpre⟩ rfl ((List.length_map _).trans hn) hl.1 (by simp [jv, va_rf]) (lv_room hst0) (hok _ _ hd) ⟨by omega, by omega⟩
theorem jw_callI {M' : jw_M} {d' n idx mc ms a : Nat} {As : List jV} {Q' : jw_O → jh_H → Prop} (hd : M.2.2.2.2 pc = some (.invokespecial idx, 3)) (hm : jl_m M' n) (hk : jl_k M.1.cls idx M'.1) (hin : Cond.instanceMethod M'.1 ∈ jw_big) (hname : M'.1.name = "<init>") (hret : M'.2.2.2.1 = none) (hd1 : d' + 1 ≤ d) (hn : As.length = n) (hst0 : ((st.map jv).map fun v => v.category).sum ≤ 8) (hmc : mc ≤ kc) (hms : ms ≤ ks) (hcov : ∀ c, T c → ∀ x ∈ c.exceptionTable.toList, covers x pc = false)
    (hC : jw_C g d' mc ms M' (.inr (.inr (some a)) :: As) h Q') (kr : ∀ v h', Q' (.inl v) h' → jw_J g d M T (pc + 3) ls (v.toList ++ st) h' (kc - mc) (ks - ms) Q) (kx : ∀ E h', Q' (.inr E) h' → Q (.inr E) h') : jw_J g d M T pc ls (As.reverse ++ .inr (.inr (some a)) :: st) h kc ks Q := by
  intro p e s m args below meth c R Z H locs cells slots arr hA hT hE hP hS hl hc hs
  obtain ⟨hx, hb, hml, hown, hts, hr, hlk, hnm, hwd, hdf, hdl, hst, hok⟩ := id hA
  have hpre := jw_pre hA hP hS (.inr (.inr (some a)) :: As)
  refine jw_after hA hT hE hS hl hc hs hmc hms ?_ kr kx hcov (a := (Value.ref a :: As.map jv).toArray)
  rcases hk with hk | ⟨host, hk⟩
  · have cb := jw_cb (mc := mc) (ms := ms) hts hm hk hd1 hdf hdl
    rw [hret] at cb
    exact jn_I (nL := M.2.2.1) (cc := M.2.1) ⟨hx, hb, hml, hown, hts⟩ hC ⟨cb, hname, hts _ hin⟩ ⟨jw_blind, hpre⟩ rfl ((List.length_map _).trans hn) hl.1 (by simp [jv, va_rf]) (lv_room hst0) (hok _ _ hd) ⟨by omega, by omega⟩
  · have cb := jw_cn (mc := mc) (ms := ms) hts hm (hwd.2.2.2.1 _ hk) hd1 hdf hdl
    rw [hret] at cb
    exact jn_IN (nL := M.2.2.1) (cc := M.2.1) ⟨hx, hb, hml, hown, hts⟩ hC ⟨cb, hname, hts _ hin⟩ ⟨jw_blind, hpre⟩ rfl ((List.length_map _).trans hn) hl.1 (by simp [jv, va_rf]) (lv_room hst0) (hok _ _ hd) ⟨by omega, by omega⟩
theorem jw_throw {E : String} (hts9 : jw_ts M pc E) (h10 : 10 ≤ d) (hrest : ((st.map jv).map fun v => v.category).sum ≤ 8) (h1 : 1 ≤ kc) (h2 : 6 ≤ ks) (hcov : ∀ c, T c → ∀ x ∈ c.exceptionTable.toList, covers x (pc + 9) = false) (hq : Q (.inr E) h) : jw_J g d M T pc ls st h kc ks Q := by
  intro p e s m args below meth c R Z H locs cells slots arr hA hT hE hP hS hl hc hs
  obtain ⟨hx, hb, hml, hown, hts, hr, hlk, hnm, hwd, hdf, hdl, hst, hok⟩ := id hA
  exact (hE.2 E h hq).2 H locs cells slots pc arr (st.map jv) hP hS (hl.1.trans hml.symm) (by omega) (by omega) hrest hts9 (hcov c hT) (by omega) (by omega)
theorem jw_C.mono {mc ms : Nat} {As : List jV} {Q' : jw_O → jh_H → Prop} (k : jw_C g d mc ms M As h Q') (hq : ∀ o h', Q' o h' → Q o h') : jw_C g d mc ms M As h Q := by
  refine MetFree.mono k (fun _ _ z => z) (fun _ _ _ _ _ z => z) (fun a st o t _ z => ?_)
  rcases z with ⟨⟨v, h', e, q, r⟩, z⟩ | ⟨q, e, E, ce, L, ⟨h', q2, r⟩, z⟩
  · exact Or.inl ⟨⟨v, h', e, hq _ _ q, r⟩, z⟩
  · exact Or.inr ⟨q, e, E, ce, L, ⟨h', hq _ _ q2, r⟩, z⟩
end JWC
