/-! MORE RULES: shifts, longs, arrays of booleans, constants of the pool -/
section JWT
variable {g : jg_G} {d : Nat} {M : jw_M} {T : Code → Prop} {pc : Nat} {ls : List (Option jV)} {st : List jV} {h : jh_H} {kc ks : Nat} {Q : jw_O → jh_H → Prop}
theorem jw_ishl {x y : Int32} (hd : M.2.2.2.2 pc = some (.ishl, 1)) (k : jw_J g d M T (pc + 1) ls (.inl (x <<< (y &&& 31)) :: st) h kc ks Q) : jw_J g d M T pc ls (.inl y :: .inl x :: st) h kc ks Q := by
  intro p e s m args below meth c R Z H locs cells slots arr hA hT hE hP hS hl hc hs
  obtain ⟨hx, hb, hml, hown, hts, hr, hlk, hnm, hwd, hdf, hdl, hst, hok⟩ := id hA
  exact lv_ishl hx hb (hok _ _ hd) (k p e s m args below meth c R Z H locs cells slots arr hA hT hE hP hS hl hc hs)
theorem jw_ishr {x y : Int32} (hd : M.2.2.2.2 pc = some (.ishr, 1)) (k : jw_J g d M T (pc + 1) ls (.inl (x >>> (y &&& 31)) :: st) h kc ks Q) : jw_J g d M T pc ls (.inl y :: .inl x :: st) h kc ks Q := by
  intro p e s m args below meth c R Z H locs cells slots arr hA hT hE hP hS hl hc hs
  obtain ⟨hx, hb, hml, hown, hts, hr, hlk, hnm, hwd, hdf, hdl, hst, hok⟩ := id hA
  exact lv_ishr hx hb (hok _ _ hd) (k p e s m args below meth c R Z H locs cells slots arr hA hT hE hP hS hl hc hs)
theorem jw_lshr {x : Int64} {y : Int32} (hd : M.2.2.2.2 pc = some (.lshr, 1)) (k : jw_J g d M T (pc + 1) ls (.inr (.inl (x >>> (y.toInt64 &&& 63))) :: st) h kc ks Q) : jw_J g d M T pc ls (.inl y :: .inr (.inl x) :: st) h kc ks Q := by
  intro p e s m args below meth c R Z H locs cells slots arr hA hT hE hP hS hl hc hs
  obtain ⟨hx, hb, hml, hown, hts, hr, hlk, hnm, hwd, hdf, hdl, hst, hok⟩ := id hA
  exact lv_lshr hx hb (hok _ _ hd) rfl (k p e s m args below meth c R Z H locs cells slots arr hA hT hE hP hS hl hc hs)
theorem jw_land {x y : Int64} (hd : M.2.2.2.2 pc = some (.land, 1)) (k : jw_J g d M T (pc + 1) ls (.inr (.inl (x &&& y)) :: st) h kc ks Q) : jw_J g d M T pc ls (.inr (.inl y) :: .inr (.inl x) :: st) h kc ks Q := by
  intro p e s m args below meth c R Z H locs cells slots arr hA hT hE hP hS hl hc hs
  obtain ⟨hx, hb, hml, hown, hts, hr, hlk, hnm, hwd, hdf, hdl, hst, hok⟩ := id hA
  exact lv_land hx hb (hok _ _ hd) (k p e s m args below meth c R Z H locs cells slots arr hA hT hE hP hS hl hc hs)
theorem jw_ldiv {x y : Int64} (hd : M.2.2.2.2 pc = some (.ldiv, 1)) (hne : ¬ y = 0) (k : jw_J g d M T (pc + 1) ls (.inr (.inl (x / y)) :: st) h kc ks Q) : jw_J g d M T pc ls (.inr (.inl y) :: .inr (.inl x) :: st) h kc ks Q := by
  intro p e s m args below meth c R Z H locs cells slots arr hA hT hE hP hS hl hc hs
  obtain ⟨hx, hb, hml, hown, hts, hr, hlk, hnm, hwd, hdf, hdl, hst, hok⟩ := id hA
  exact lv_ldiv hx hb (hok _ _ hd) hne (k p e s m args below meth c R Z H locs cells slots arr hA hT hE hP hS hl hc hs)
theorem jw_lrem {x y : Int64} (hd : M.2.2.2.2 pc = some (.lrem, 1)) (hne : ¬ y = 0) (k : jw_J g d M T (pc + 1) ls (.inr (.inl (x - x / y * y)) :: st) h kc ks Q) : jw_J g d M T pc ls (.inr (.inl y) :: .inr (.inl x) :: st) h kc ks Q := by
  intro p e s m args below meth c R Z H locs cells slots arr hA hT hE hP hS hl hc hs
  obtain ⟨hx, hb, hml, hown, hts, hr, hlk, hnm, hwd, hdf, hdl, hst, hok⟩ := id hA
  exact lv_lrem hx hb (hok _ _ hd) hne (k p e s m args below meth c R Z H locs cells slots arr hA hT hE hP hS hl hc hs)
theorem jw_lneg {x : Int64} (hd : M.2.2.2.2 pc = some (.lneg, 1)) (k : jw_J g d M T (pc + 1) ls (.inr (.inl (-x)) :: st) h kc ks Q) : jw_J g d M T pc ls (.inr (.inl x) :: st) h kc ks Q := by
  intro p e s m args below meth c R Z H locs cells slots arr hA hT hE hP hS hl hc hs
  obtain ⟨hx, hb, hml, hown, hts, hr, hlk, hnm, hwd, hdf, hdl, hst, hok⟩ := id hA
  exact lv_lneg hx hb (hok _ _ hd) (k p e s m args below meth c R Z H locs cells slots arr hA hT hE hP hS hl hc hs)
theorem jw_dup22 {v : jV} (hd : M.2.2.2.2 pc = some (.dup2, 1)) (hv : jv_c v = 2) (k : jw_J g d M T (pc + 1) ls (v :: v :: st) h kc ks Q) : jw_J g d M T pc ls (v :: st) h kc ks Q := by
  intro p e s m args below meth c R Z H locs cells slots arr hA hT hE hP hS hl hc hs
  obtain ⟨hx, hb, hml, hown, hts, hr, hlk, hnm, hwd, hdf, hdl, hst, hok⟩ := id hA
  exact lv_dup2_2 hx hb (hok _ _ hd) ((jv_cat v).trans hv) (k p e s m args below meth c R Z H locs cells slots arr hA hT hE hP hS hl hc hs)
theorem jw_ldc2 {idx : Nat} {v : Int64} (hd : M.2.2.2.2 pc = some (.ldc2_w idx, 3)) (hw : Cond.constantLong M.1.cls idx v ∈ jw_big) (k : jw_J g d M T (pc + 3) ls (.inr (.inl v) :: st) h kc ks Q) : jw_J g d M T pc ls st h kc ks Q := by
  intro p e s m args below meth c R Z H locs cells slots arr hA hT hE hP hS hl hc hs
  obtain ⟨hx, hb, hml, hown, hts, hr, hlk, hnm, hwd, hdf, hdl, hst, hok⟩ := id hA
  exact lv_ldc2 hx hb hown (hts _ hw) (hok _ _ hd) (k p e s m args below meth c R Z H locs cells slots arr hA hT hE hP hS hl hc hs)
theorem js_zald {a t n : Nat} {i : Int32} (j : Nat) (hd : M.2.2.2.2 pc = some (.baload, 1)) (ho : jh_A h a t n) (ht : t < jc_an) (hty : jc_at t = .boolean) (hi : i = nI j) (hj : j < n) (hn : n < 2 ^ 31) (kk : jw_J g d M T (pc + 1) ls (.inl (jh_I h a j) :: st) h kc ks Q) : jw_J g d M T pc ls (.inl i :: .inr (.inr (some a)) :: st) h kc ks Q := by
  intro p e s m args below meth c R Z H locs cells slots arr hA hT hE hP hS hl hc hs
  obtain ⟨hx, hb, hml, hown, hts, hr, hlk, hnm, hwd, hdf, hdl, hst, hok⟩ := id hA
  obtain ⟨q0, he⟩ := jh_A_at (g := g) ho
  have e1 : jh_ac h a t = .inl (jh_I h a) := by simp only [jh_ac, hty, jc_so]
  rw [e1] at he
  subst hi
  have e2 : (nI j).toNatClampNeg = j := nI_clamp (by omega)
  exact va_zald hx hb hwd.1 hP.1 q0 t he (by rw [jg_t_at g ht, hty]) (vp_in_nI hj hn) (hok _ _ hd) (by rw [e2]; exact kk p e s m args below meth c R Z H locs cells slots arr hA hT hE hP hS hl hc hs)
theorem js_zast {a t n : Nat} {i x : Int32} (j : Nat) (hd : M.2.2.2.2 pc = some (.bastore, 1)) (ho : jh_A h a t n) (ht : t < jc_an) (hty : jc_at t = .boolean) (hi : i = nI j) (hj : j < n) (hn : n < 2 ^ 31) (hx01 : x = 0 ∨ x = 1) (kk : jw_J g d M T (pc + 1) ls st (jh_sI h a j x) kc ks Q) : jw_J g d M T pc ls (.inl x :: .inl i :: .inr (.inr (some a)) :: st) h kc ks Q := by
  intro p e s m args below meth c R Z H locs cells slots arr hA hT hE hP hS hl hc hs
  obtain ⟨hx, hb, hml, hown, hts, hr, hlk, hnm, hwd, hdf, hdl, hst, hok⟩ := id hA
  obtain ⟨q0, he⟩ := jh_A_at (g := g) ho
  have hset := jh_A_set (h' := jh_sI h a j x) hP.2 ho he rfl rfl (fun b hb => jh_E_o rfl rfl rfl rfl (jh_u_row _ _ _ hb) rfl rfl)
  have e1 : jh_ac h a t = .inl (jh_I h a) := by simp only [jh_ac, hty, jc_so]
  have e3 : jh_ac (jh_sI h a j x) a t = .inl (va_up (jh_I h a) j x) := by
    simp only [jh_ac, hty, jc_so]; exact congrArg Sum.inl (jh_u_up _ _ _ _)
  rw [e1] at he
  rw [e3] at hset
  subst hi
  have e2 : (nI j).toNatClampNeg = j := nI_clamp (by omega)
  have e4 : vp_nar .boolean x = x := by rcases hx01 with rfl | rfl <;> rfl
  refine va_zast hx hb hwd.1 hP.1 hP.2 hS q0 t he (by rw [jg_t_at g ht, hty]) (vp_in_nI hj hn) (hok _ _ hd) (fun H1 locs1 p1 d1 s1 => ?_)
  rw [e2, e4, jh_upd, hset] at p1 d1
  exact kk p e s m args below meth c R Z H1 locs1 cells slots arr hA hT hE ⟨p1, d1⟩ s1 hl hc hs
/-- a call on an object: what comes back is told by the callee's own rule -/
theorem jv_sum (st : List jV) : ((st.map jv).map fun v => v.category).sum = (st.map jv_c).sum := by
  rw [List.map_map]
  exact congrArg List.sum (List.map_congr_left (fun x _ => jv_cat x))
theorem js_call {M' : jw_M} {d' n idx mc ms a ci : Nat} {As : List jV} (hd : M.2.2.2.2 pc = some (.invokevirtual idx, 3)) (hm : jl_m M' n) (hk : jl_k M.1.cls idx M'.1) (hin : Cond.instanceMethod M'.1 ∈ jw_big) (hse : Cond.selects M'.1.cls M'.1 M'.1 ∈ jw_big) (hcq : jc_ok ci) (hcn : (jc_q ci).1 = M'.1.cls) (ho : jh_O h a ci) (hn : As.length = n)
    (hC : jw_C g d' mc ms M' (.inr (.inr (some a)) :: As) h (fun o h' => match o with | .inl (some x) => jw_J g d M T (pc + 3) ls (x :: st) h' (kc - mc) (ks - ms) Q | .inl none => jw_J g d M T (pc + 3) ls st h' (kc - mc) (ks - ms) Q | .inr E => Q (.inr E) h'))
    (hd1 : d' + 1 ≤ d) (hst0 : (st.map jv_c).sum ≤ 8) (hmc : mc ≤ kc) (hms : ms ≤ ks) (hT : T = jw_T0) : jw_J g d M T pc ls (As.reverse ++ .inr (.inr (some a)) :: st) h kc ks Q :=
  jw_callV hd hm hk hin hse hd1 hcq hcn ho hn (by rw [jv_sum]; exact hst0) hmc hms (fun c hc x hx => by subst hT; exact absurd (hc x hx) id) hC (fun v _ z => by cases v <;> exact z) (fun _ _ z => z)
theorem js_callS {M' : jw_M} {d' n idx mc ms : Nat} {As : List jV} (hd : M.2.2.2.2 pc = some (.invokestatic idx, 3)) (hm : jl_m M' n) (hk : jl_k M.1.cls idx M'.1) (hin : Cond.static M'.1 ∈ jw_big) (hn : As.length = n)
    (hC : jw_C g d' mc ms M' As h (fun o h' => match o with | .inl (some x) => jw_J g d M T (pc + 3) ls (x :: st) h' (kc - mc) (ks - ms) Q | .inl none => jw_J g d M T (pc + 3) ls st h' (kc - mc) (ks - ms) Q | .inr E => Q (.inr E) h'))
    (hd1 : d' + 1 ≤ d) (hst0 : (st.map jv_c).sum ≤ 8) (hmc : mc ≤ kc) (hms : ms ≤ ks) (hT : T = jw_T0) : jw_J g d M T pc ls (As.reverse ++ st) h kc ks Q :=
  jw_callS hd hm hk hin hd1 hn (by rw [jv_sum]; exact hst0) hmc hms (fun c hc x hx => by subst hT; exact absurd (hc x hx) id) hC (fun v _ z => by cases v <;> exact z) (fun _ _ z => z)
theorem js_callI {M' : jw_M} {d' n idx mc ms a : Nat} {As : List jV} (hd : M.2.2.2.2 pc = some (.invokespecial idx, 3)) (hm : jl_m M' n) (hk : jl_k M.1.cls idx M'.1) (hin : Cond.instanceMethod M'.1 ∈ jw_big) (hnm : M'.1.name = "<init>") (hrt : M'.2.2.2.1 = none) (hn : As.length = n)
    (hC : jw_C g d' mc ms M' (.inr (.inr (some a)) :: As) h (fun o h' => match o with | .inl (some x) => jw_J g d M T (pc + 3) ls (x :: st) h' (kc - mc) (ks - ms) Q | .inl none => jw_J g d M T (pc + 3) ls st h' (kc - mc) (ks - ms) Q | .inr E => Q (.inr E) h'))
    (hd1 : d' + 1 ≤ d) (hst0 : (st.map jv_c).sum ≤ 8) (hmc : mc ≤ kc) (hms : ms ≤ ks) (hT : T = jw_T0) : jw_J g d M T pc ls (As.reverse ++ .inr (.inr (some a)) :: st) h kc ks Q :=
  jw_callI hd hm hk hin hnm hrt hd1 hn (by rw [jv_sum]; exact hst0) hmc hms (fun c hc x hx => by subst hT; exact absurd (hc x hx) id) hC (fun v _ z => by cases v <;> exact z) (fun _ _ z => z)
theorem js_drop {ls' : List (Option jV)} (j : Nat) (hs : ls.set j none = ls') (k : jw_J g d M T pc ls' st h kc ks Q) : jw_J g d M T pc ls st h kc ks Q := by
  refine jw_less (fun i v hv => ?_) k
  rw [← hs] at hv
  by_cases q : j = i
  · subst q
    rw [List.getElem?_set_self'] at hv
    cases hz : ls[j]? with
    | none => rw [hz] at hv; cases hv
    | some z => rw [hz] at hv; simp at hv
  · rwa [List.getElem?_set_ne q] at hv
end JWT
