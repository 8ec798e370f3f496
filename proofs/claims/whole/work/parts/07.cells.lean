section JWH
variable {g : jg_G} {d : Nat} {M : jw_M} {T : Code → Prop} {pc : Nat} {ls : List (Option jV)} {st : List jV} {h : jh_H} {kc ks : Nat} {Q : jw_O → jh_H → Prop}
/-- what the tables say of class ci -/
def jc_ok (ci : Nat) : Prop := jc_cl[ci]? = some (jc_q ci) ∧ ci < 100 ∧ (∀ w ∈ u_ws (jc_q ci).1 (jc_q ci).2.1 (jc_q ci).2.2, w ∈ jw_big) ∧ (∀ k, k < (jc_q ci).2.2 → parseFieldDescriptor ((jc_q ci).2.1 k).2.2.1 = some (jc_ty ci k)) ∧ (∀ a, a < (jc_q ci).2.2 → ∀ b, b < (jc_q ci).2.2 → a ≠ b → ((jc_q ci).2.1 a).2.1 ≠ ((jc_q ci).2.1 b).2.1)
/-- the pool's entry idx of class own is field k of class ci -/
def jl_f (own : String) (idx ci k : Nat) : Prop := jc_ok ci ∧ k < (jc_q ci).2.2 ∧ (Cond.fieldLink own idx ((jc_q ci).2.1 k).1 ((jc_q ci).2.1 k).2.1 ((jc_q ci).2.1 k).2.2.1 ∈ jw_big ∨ ∃ host, Cond.fieldLinkNest own idx ((jc_q ci).2.1 k).1 ((jc_q ci).2.1 k).2.1 ((jc_q ci).2.1 k).2.2.1 host ∈ jw_nest)
theorem jh_fv_at {a ci k n : Nat} (hk : k < n) : ((List.range n).map (jh_fv h a ci))[k]? = some (jh_fv h a ci k) := by simp [hk]
theorem jw_getv {idx ci k a : Nat} {v : jV} (hd : M.2.2.2.2 pc = some (.getfield idx, 3)) (hf : jl_f M.1.cls idx ci k) (ho : jh_O h a ci) (hv : jh_fv h a ci k = jv v) (kk : jw_J g d M T (pc + 3) ls (v :: st) h kc ks Q) : jw_J g d M T pc ls (.inr (.inr (some a)) :: st) h kc ks Q := by
  intro p e s m args below meth c R Z H locs cells slots arr hA hT hE hP hS hl hc hs
  obtain ⟨hx, hb, hml, hown, hts, hr, hlk, hnm, hwd, hdf, hdl, hst, hok⟩ := id hA
  obtain ⟨⟨hq, h100, hw, hty, hnn⟩, hk, hlink⟩ := hf
  obtain ⟨q0, he⟩ := jh_at (g := g) ho.1
  rw [jh_E_O h100 ho] at he
  have hcl : jc_cl[ci]? = some ((jc_q ci).1, (jc_q ci).2.1, (jc_q ci).2.2) := hq
  have hvk : ((List.range (jc_q ci).2.2).map (jh_fv h a ci))[k]? = some (jv v) := by rw [← hv]; exact jh_fv_at hk
  rcases hlink with hlink | ⟨host, hlink⟩
  · exact va_get hx hb hts hw hown hwd.1 hP.1 q0 he hcl k hk (hts _ hlink) (fun _ z => z) hvk (hok _ _ hd) (kk p e s m args below meth c R Z H locs cells slots arr hA hT hE hP hS hl hc hs)
  · exact va_getN hx hb hts hw hown hwd.1 hP.1 q0 he hcl k hk (jc_con_f hwd.2.2 hlink _) (fun _ z => z) hvk (hok _ _ hd) (kk p e s m args below meth c R Z H locs cells slots arr hA hT hE hP hS hl hc hs)
theorem jw_geti {idx ci k a : Nat} (hd : M.2.2.2.2 pc = some (.getfield idx, 3)) (hf : jl_f M.1.cls idx ci k) (ht : jc_so (jc_ty ci k) = 0) (ho : jh_O h a ci) (kk : jw_J g d M T (pc + 3) ls (.inl (jh_i h a (64 * ci + k)) :: st) h kc ks Q) : jw_J g d M T pc ls (.inr (.inr (some a)) :: st) h kc ks Q := jw_getv hd hf ho (by unfold jh_fv; rw [ht]; rfl) kk
theorem jw_getg {idx ci k a : Nat} (hd : M.2.2.2.2 pc = some (.getfield idx, 3)) (hf : jl_f M.1.cls idx ci k) (ht : jc_so (jc_ty ci k) = 1) (ho : jh_O h a ci) (kk : jw_J g d M T (pc + 3) ls (.inr (.inl (jh_g h a (64 * ci + k))) :: st) h kc ks Q) : jw_J g d M T pc ls (.inr (.inr (some a)) :: st) h kc ks Q := jw_getv hd hf ho (by unfold jh_fv; rw [ht]; rfl) kk
theorem jw_getr {idx ci k a : Nat} (hd : M.2.2.2.2 pc = some (.getfield idx, 3)) (hf : jl_f M.1.cls idx ci k) (ht : jc_so (jc_ty ci k) = 2) (ho : jh_O h a ci) (kk : jw_J g d M T (pc + 3) ls (.inr (.inr (jh_r h a (64 * ci + k))) :: st) h kc ks Q) : jw_J g d M T pc ls (.inr (.inr (some a)) :: st) h kc ks Q := jw_getv hd hf ho (by unfold jh_fv; rw [ht]; rfl) kk
/-- one field's new value, seen in the list of the fields -/
theorem jh_fv_set {h' : jh_H} {a ci k n : Nat} {v : Value} (e : ∀ j, j < n → jh_fv h' a ci j = if j = k then v else jh_fv h a ci j) : ((List.range n).map (jh_fv h a ci)).set k v = (List.range n).map (jh_fv h' a ci) := by
  apply List.ext_getElem
  · simp
  · intro j h1 h2
    have hj : j < n := by simpa using h2
    rw [List.getElem_set]
    simp only [List.getElem_map, List.getElem_range]
    rw [e j hj]
    by_cases q : k = j
    · subst q; simp
    · have q2 : ¬ j = k := fun z => q z.symm
      simp [q, q2]
/-- may a value be put: a final field only in the constructor of its own class -/
def jl_fin (M : jw_M) (ci k : Nat) : Prop := ((jc_q ci).2.1 k).2.2.2 = false ∨ (((jc_q ci).2.1 k).2.2.2 = true ∧ M.1.name = "<init>" ∧ ((jc_q ci).2.1 k).1 = M.1.cls)
theorem jw_putv {idx ci k a : Nat} {v : jV} {h' : jh_H} (hd : M.2.2.2.2 pc = some (.putfield idx, 3)) (hf : jl_f M.1.cls idx ci k) (hfin : jl_fin M ci k) (hnest : ((jc_q ci).2.1 k).2.2.2 = true → Cond.fieldLink M.1.cls idx ((jc_q ci).2.1 k).1 ((jc_q ci).2.1 k).2.1 ((jc_q ci).2.1 k).2.2.1 ∈ jw_big) (ho : jh_O h a ci) (hn : narrow (jc_ty ci k) (jv v) = jv v) (hfit : fits (jc_ty ci k) (jv v) = true)
    (hL : jh_L h' = jh_L h) (hK : jh_K h' = jh_K h) (hv : ∀ j, j < (jc_q ci).2.2 → jh_fv h' a ci j = if j = k then jv v else jh_fv h a ci j) (hot : ∀ b, b ≠ a → jh_E g h' b = jh_E g h b) (kk : jw_J g d M T (pc + 3) ls st h' kc ks Q) : jw_J g d M T pc ls (v :: .inr (.inr (some a)) :: st) h kc ks Q := by
  intro p e s m args below meth c R Z H locs cells slots arr hA hT hE hP hS hl hc hs
  obtain ⟨hx, hb, hml, hown, hts, hr, hlk, hnm, hwd, hdf, hdl, hst, hok⟩ := id hA
  obtain ⟨⟨hq, h100, hw, hty, hnn⟩, hk, hlink⟩ := hf
  obtain ⟨q0, he⟩ := jh_at (g := g) ho.1
  have he0 := he
  rw [jh_E_O h100 ho] at he
  have hcl : jc_cl[ci]? = some ((jc_q ci).1, (jc_q ci).2.1, (jc_q ci).2.2) := hq
  have ho' : jh_O h' a ci := ⟨by rw [hL]; exact ho.1, by rw [hK]; exact ho.2⟩
  have hset : (jh_W g h).set q0 (a, .inr (ci, ((List.range (jc_q ci).2.2).map (jh_fv h a ci)).set k (jv v))) = jh_W g h' := by
    rw [jh_fv_set hv, ← jh_E_O (g := g) h100 ho']
    exact jh_set hP.2 ho.1 he0 hL rfl hot
  have hlen : k < ((List.range (jc_q ci).2.2).map (jh_fv h a ci)).length := by simpa using hk
  have hgo : ∀ (H1 : Heap) (locs1 : List Loc), va_P (jg_D g) jc_cl ((jh_W g h).set q0 (a, .inr (ci, ((List.range (jc_q ci).2.2).map (jh_fv h a ci)).set k (jv v)))) H1 → va_D (jg_S g) ((jh_W g h).set q0 (a, .inr (ci, ((List.range (jc_q ci).2.2).map (jh_fv h a ci)).set k (jv v)))) → va_S (jg_S g) s.heap H1 locs1 → W p (jg_l g) e R s m args below meth c H1 locs1 cells slots Z (F0 m (pc + 3) arr (st.map jv)) := by
    intro H1 locs1 p1 d1 s1
    rw [hset] at p1 d1
    exact kk p e s m args below meth c R Z H1 locs1 cells slots arr hA hT hE ⟨p1, d1⟩ s1 hl hc hs
  rcases hfin with hfin | ⟨hfin, hi1, hi2⟩
  · rcases hlink with hlink | ⟨host, hlink⟩
    · exact va_put hx hb hts hw (jc_ty ci) hty hnn hown hwd.1 hP.1 hP.2 hS q0 he hcl k hk (hts _ hlink) (fun _ z => z) hfin (hty k hk) hn hfit hlen (hok _ _ hd) hgo
    · exact va_putN hx hb hts hw (jc_ty ci) hty hnn hown hwd.1 hP.1 hP.2 hS q0 he hcl k hk (jc_con_f hwd.2.2 hlink _) (fun _ z => z) hfin (hty k hk) hn hfit hlen (hok _ _ hd) hgo
  · exact va_putF hx hb hts hw (jc_ty ci) hty hnn hown hwd.1 hP.1 hP.2 hS q0 he hcl k hk (hts _ (hnest hfin)) (fun _ z => z) hfin (hnm.trans hi1) hi2 (hty k hk) hn hfit hlen (hok _ _ hd) hgo
/-- the word of a final field's entry, where it is one -/
def jl_w (M : jw_M) (idx ci k : Nat) : Prop := ((jc_q ci).2.1 k).2.2.2 = true → Cond.fieldLink M.1.cls idx ((jc_q ci).2.1 k).1 ((jc_q ci).2.1 k).2.1 ((jc_q ci).2.1 k).2.2.1 ∈ jw_big
theorem jh_key {ci k j : Nat} (h : ¬ j = k) : ¬ 64 * ci + j = 64 * ci + k := by omega
theorem jw_puti {idx ci k a : Nat} {x : Int32} (hd : M.2.2.2.2 pc = some (.putfield idx, 3)) (hf : jl_f M.1.cls idx ci k) (hfin : jl_fin M ci k) (hw : jl_w M idx ci k) (ht : jc_so (jc_ty ci k) = 0) (hn : narrow (jc_ty ci k) (.int x) = .int x) (hfit : fits (jc_ty ci k) (.int x) = true) (ho : jh_O h a ci) (kk : jw_J g d M T (pc + 3) ls st (jh_si h a (64 * ci + k) x) kc ks Q) : jw_J g d M T pc ls (.inl x :: .inr (.inr (some a)) :: st) h kc ks Q :=
  jw_putv (v := .inl x) (h' := jh_si h a (64 * ci + k) x) hd hf hfin hw ho hn hfit rfl rfl (fun j _ => by
    by_cases q : j = k
    · subst q; simp only [jh_fv, ht, if_pos]; exact congrArg Value.int (jh_u_s _ _ _ _)
    · simp only [jh_fv, if_neg q]
      show (match jc_so (jc_ty ci j) with | 0 => Value.int (jh_u (jh_i h) a (64 * ci + k) x a (64 * ci + j)) | 1 => .long (jh_g h a (64 * ci + j)) | _ => va_rf (jh_r h a (64 * ci + j))) = _
      rw [jh_u_k _ _ _ _ (jh_key q)]; rfl) (fun b hb => jh_E_o rfl (jh_u_row _ _ _ hb) rfl rfl rfl rfl rfl) kk
theorem jw_putg {idx ci k a : Nat} {x : Int64} (hd : M.2.2.2.2 pc = some (.putfield idx, 3)) (hf : jl_f M.1.cls idx ci k) (hfin : jl_fin M ci k) (hw : jl_w M idx ci k) (ht : jc_so (jc_ty ci k) = 1) (hn : narrow (jc_ty ci k) (.long x) = .long x) (hfit : fits (jc_ty ci k) (.long x) = true) (ho : jh_O h a ci) (kk : jw_J g d M T (pc + 3) ls st (jh_sg h a (64 * ci + k) x) kc ks Q) : jw_J g d M T pc ls (.inr (.inl x) :: .inr (.inr (some a)) :: st) h kc ks Q :=
  jw_putv (v := .inr (.inl x)) (h' := jh_sg h a (64 * ci + k) x) hd hf hfin hw ho hn hfit rfl rfl (fun j _ => by
    by_cases q : j = k
    · subst q; simp only [jh_fv, ht, if_pos]; exact congrArg Value.long (jh_u_s _ _ _ _)
    · simp only [jh_fv, if_neg q]
      show (match jc_so (jc_ty ci j) with | 0 => Value.int (jh_i h a (64 * ci + j)) | 1 => .long (jh_u (jh_g h) a (64 * ci + k) x a (64 * ci + j)) | _ => va_rf (jh_r h a (64 * ci + j))) = _
      rw [jh_u_k _ _ _ _ (jh_key q)]; rfl) (fun b hb => jh_E_o rfl rfl (jh_u_row _ _ _ hb) rfl rfl rfl rfl) kk
theorem jw_putr {idx ci k a : Nat} {r : Option Nat} (hd : M.2.2.2.2 pc = some (.putfield idx, 3)) (hf : jl_f M.1.cls idx ci k) (hfin : jl_fin M ci k) (hw : jl_w M idx ci k) (ht : jc_so (jc_ty ci k) = 2) (hn : ∀ r, narrow (jc_ty ci k) (va_rf r) = va_rf r) (hfit : ∀ r, fits (jc_ty ci k) (va_rf r) = true) (ho : jh_O h a ci) (kk : jw_J g d M T (pc + 3) ls st (jh_sr h a (64 * ci + k) r) kc ks Q) : jw_J g d M T pc ls (.inr (.inr r) :: .inr (.inr (some a)) :: st) h kc ks Q :=
  jw_putv (v := .inr (.inr r)) (h' := jh_sr h a (64 * ci + k) r) hd hf hfin hw ho (hn r) (hfit r) rfl rfl (fun j _ => by
    by_cases q : j = k
    · subst q; simp only [jh_fv, ht, if_pos]; exact congrArg va_rf (jh_u_s _ _ _ _)
    · simp only [jh_fv, if_neg q]
      show (match jc_so (jc_ty ci j) with | 0 => Value.int (jh_i h a (64 * ci + j)) | 1 => .long (jh_g h a (64 * ci + j)) | _ => va_rf (jh_u (jh_r h) a (64 * ci + k) r a (64 * ci + j))) = _
      rw [jh_u_k _ _ _ _ (jh_key q)]; rfl) (fun b hb => jh_E_o rfl rfl rfl (jh_u_row _ _ _ hb) rfl rfl rfl) kk

theorem jh_A_at {a t n : Nat} (ho : jh_A h a t n) : ∃ q0 : Nat, (jh_W g h)[q0]? = some (a, Sum.inl (jg_A g t, n, jh_ac h a t)) := by
  obtain ⟨q0, he⟩ := jh_at (g := g) ho.1
  rw [jh_E_A ho] at he
  exact ⟨q0, he⟩
theorem jw_alen {a t n : Nat} (hd : M.2.2.2.2 pc = some (.arraylength, 1)) (ht : t < jc_an) (ho : jh_A h a t n) (kk : jw_J g d M T (pc + 1) ls (.inl (nI n) :: st) h kc ks Q) : jw_J g d M T pc ls (.inr (.inr (some a)) :: st) h kc ks Q := by
  intro p e s m args below meth c R Z H locs cells slots arr hA hT hE hP hS hl hc hs
  obtain ⟨hx, hb, hml, hown, hts, hr, hlk, hnm, hwd, hdf, hdl, hst, hok⟩ := id hA
  obtain ⟨q0, he⟩ := jh_A_at (g := g) ho
  exact va_alen hx hb hwd.1 hP.1 q0 t he (jg_t_at g ht) rfl (hok _ _ hd) (kk p e s m args below meth c R Z H locs cells slots arr hA hT hE hP hS hl hc hs)
theorem jw_iald {a t n : Nat} {i : Int32} (j : Nat) (hd : M.2.2.2.2 pc = some (.iaload, 1)) (ht : t < jc_an) (hty : jc_at t = .int) (ho : jh_A h a t n) (hi : i = nI j) (hj : j < n) (hn : n < 2 ^ 31) (kk : jw_J g d M T (pc + 1) ls (.inl (jh_I h a j) :: st) h kc ks Q) : jw_J g d M T pc ls (.inl i :: .inr (.inr (some a)) :: st) h kc ks Q := by
  intro p e s m args below meth c R Z H locs cells slots arr hA hT hE hP hS hl hc hs
  obtain ⟨hx, hb, hml, hown, hts, hr, hlk, hnm, hwd, hdf, hdl, hst, hok⟩ := id hA
  obtain ⟨q0, he⟩ := jh_A_at (g := g) ho
  have e1 : jh_ac h a t = .inl (jh_I h a) := by simp only [jh_ac, hty, jc_so]
  rw [e1] at he
  subst hi
  have e2 : (nI j).toNatClampNeg = j := nI_clamp (by omega)
  exact va_iald hx hb hwd.1 hP.1 q0 t he (by rw [jg_t_at g ht, hty]) (vp_in_nI hj hn) (hok _ _ hd) (by rw [e2]; exact kk p e s m args below meth c R Z H locs cells slots arr hA hT hE hP hS hl hc hs)
theorem jw_cald {a t n : Nat} {i : Int32} (j : Nat) (hd : M.2.2.2.2 pc = some (.caload, 1)) (ht : t < jc_an) (hty : jc_at t = .char) (ho : jh_A h a t n) (hi : i = nI j) (hj : j < n) (hn : n < 2 ^ 31) (kk : jw_J g d M T (pc + 1) ls (.inl (jh_I h a j) :: st) h kc ks Q) : jw_J g d M T pc ls (.inl i :: .inr (.inr (some a)) :: st) h kc ks Q := by
  intro p e s m args below meth c R Z H locs cells slots arr hA hT hE hP hS hl hc hs
  obtain ⟨hx, hb, hml, hown, hts, hr, hlk, hnm, hwd, hdf, hdl, hst, hok⟩ := id hA
  obtain ⟨q0, he⟩ := jh_A_at (g := g) ho
  have e1 : jh_ac h a t = .inl (jh_I h a) := by simp only [jh_ac, hty, jc_so]
  rw [e1] at he
  subst hi
  have e2 : (nI j).toNatClampNeg = j := nI_clamp (by omega)
  exact va_cald hx hb hwd.1 hP.1 q0 t he (by rw [jg_t_at g ht, hty]) (vp_in_nI hj hn) (hok _ _ hd) (by rw [e2]; exact kk p e s m args below meth c R Z H locs cells slots arr hA hT hE hP hS hl hc hs)
theorem jw_lald {a t n : Nat} {i : Int32} (j : Nat) (hd : M.2.2.2.2 pc = some (.laload, 1)) (ht : t < jc_an) (hty : jc_at t = .long) (ho : jh_A h a t n) (hi : i = nI j) (hj : j < n) (hn : n < 2 ^ 31) (kk : jw_J g d M T (pc + 1) ls (.inr (.inl (jh_G h a j)) :: st) h kc ks Q) : jw_J g d M T pc ls (.inl i :: .inr (.inr (some a)) :: st) h kc ks Q := by
  intro p e s m args below meth c R Z H locs cells slots arr hA hT hE hP hS hl hc hs
  obtain ⟨hx, hb, hml, hown, hts, hr, hlk, hnm, hwd, hdf, hdl, hst, hok⟩ := id hA
  obtain ⟨q0, he⟩ := jh_A_at (g := g) ho
  have e1 : jh_ac h a t = .inr (.inl (jh_G h a)) := by simp only [jh_ac, hty, jc_so]
  rw [e1] at he
  subst hi
  have e2 : (nI j).toNatClampNeg = j := nI_clamp (by omega)
  exact va_lald hx hb hwd.1 hP.1 q0 t he (by rw [jg_t_at g ht, hty]) (vp_in_nI hj hn) (hok _ _ hd) (by rw [e2]; exact kk p e s m args below meth c R Z H locs cells slots arr hA hT hE hP hS hl hc hs)
theorem jw_aald {a t n : Nat} {i : Int32} {C : String} (j : Nat) (hd : M.2.2.2.2 pc = some (.aaload, 1)) (ht : t < jc_an) (hty : jc_at t = .object C) (ho : jh_A h a t n) (hi : i = nI j) (hj : j < n) (hn : n < 2 ^ 31) (kk : jw_J g d M T (pc + 1) ls (.inr (.inr (jh_R h a j)) :: st) h kc ks Q) : jw_J g d M T pc ls (.inl i :: .inr (.inr (some a)) :: st) h kc ks Q := by
  intro p e s m args below meth c R Z H locs cells slots arr hA hT hE hP hS hl hc hs
  obtain ⟨hx, hb, hml, hown, hts, hr, hlk, hnm, hwd, hdf, hdl, hst, hok⟩ := id hA
  obtain ⟨q0, he⟩ := jh_A_at (g := g) ho
  have e1 : jh_ac h a t = .inr (.inr (.inr (.inr (jh_R h a)))) := by simp only [jh_ac, hty, jc_so]
  rw [e1] at he
  subst hi
  have e2 : (nI j).toNatClampNeg = j := nI_clamp (by omega)
  exact va_aldq hx hb hwd.1 hP.1 q0 t he (by rw [jg_t_at g ht, hty]) (vp_in_nI hj hn) (hok _ _ hd) (by rw [e2]; exact kk p e s m args below meth c R Z H locs cells slots arr hA hT hE hP hS hl hc hs)
theorem jh_A_set {a t n q0 : Nat} {h' : jh_H} (hD : va_D (jg_S g) (jh_W g h)) (ho : jh_A h a t n) (he : (jh_W g h)[q0]? = some (a, .inl (jg_A g t, n, jh_ac h a t))) (hL : jh_L h' = jh_L h) (hK : jh_K h' = jh_K h) (hot : ∀ b, b ≠ a → jh_E g h' b = jh_E g h b) : (jh_W g h).set q0 (a, .inl (jg_A g t, n, jh_ac h' a t)) = jh_W g h' := by
  have ho' : jh_A h' a t n := ⟨by rw [hL]; exact ho.1, by rw [hK]; exact ho.2⟩
  rw [← jh_E_A (g := g) ho'] 
  rw [← jh_E_A (g := g) ho] at he
  exact jh_set hD ho.1 he hL rfl hot
theorem jh_u_up {α : Type} (f : Nat → Nat → α) (a k : Nat) (v : α) : jh_u f a k v a = va_up (f a) k v := by
  funext j; simp [jh_u, va_up]
theorem jh_upd (f : Nat → Int32) (k : Nat) (v : Int32) : upd f k v = va_up f k v := by
  funext j; simp [upd, va_up]
theorem jh_updL (f : Nat → Int64) (k : Nat) (v : Int64) : vp_updL f k v = va_up f k v := by
  funext j; simp [vp_updL, va_up]
theorem jw_iast {a t n : Nat} {i x : Int32} (j : Nat) (hd : M.2.2.2.2 pc = some (.iastore, 1)) (ht : t < jc_an) (hty : jc_at t = .int) (ho : jh_A h a t n) (hi : i = nI j) (hj : j < n) (hn : n < 2 ^ 31) (kk : jw_J g d M T (pc + 1) ls st (jh_sI h a j x) kc ks Q) : jw_J g d M T pc ls (.inl x :: .inl i :: .inr (.inr (some a)) :: st) h kc ks Q := by
  intro p e s m args below meth c R Z H locs cells slots arr hA hT hE hP hS hl hc hs
  obtain ⟨hx, hb, hml, hown, hts, hr, hlk, hnm, hwd, hdf, hdl, hst, hok⟩ := id hA
  obtain ⟨q0, he⟩ := jh_A_at (g := g) ho
  have hset := jh_A_set (h' := jh_sI h a j x) hP.2 ho he rfl rfl (fun b hb => jh_E_o rfl rfl rfl rfl (jh_u_row _ _ _ hb) rfl rfl)
  have e1 : jh_ac h a t = .inl (jh_I h a) := by simp only [jh_ac, hty, jc_so]
  have e3 : jh_ac (jh_sI h a j x) a t = .inl (va_up (jh_I h a) j x) := by
    simp only [jh_ac, hty, jc_so]; exact congrArg Sum.inl (jh_u_up _ _ _ _)
  rw [e1] at he
  rw [e3] at hset
  subst hi
  have e2 : (nI j).toNatClampNeg = j := nI_clamp (by omega)
  refine va_iast hx hb hwd.1 hP.1 hP.2 hS q0 t he (by rw [jg_t_at g ht, hty]) (vp_in_nI hj hn) (hok _ _ hd) (fun H1 locs1 p1 d1 s1 => ?_)
  rw [e2, jh_upd, hset] at p1 d1
  exact kk p e s m args below meth c R Z H1 locs1 cells slots arr hA hT hE ⟨p1, d1⟩ s1 hl hc hs
theorem jw_cast {a t n : Nat} {i x : Int32} (j : Nat) (hd : M.2.2.2.2 pc = some (.castore, 1)) (ht : t < jc_an) (hty : jc_at t = .char) (ho : jh_A h a t n) (hi : i = nI j) (hj : j < n) (hn : n < 2 ^ 31) (kk : jw_J g d M T (pc + 1) ls st (jh_sI h a j (vp_nar .char x)) kc ks Q) : jw_J g d M T pc ls (.inl x :: .inl i :: .inr (.inr (some a)) :: st) h kc ks Q := by
  intro p e s m args below meth c R Z H locs cells slots arr hA hT hE hP hS hl hc hs
  obtain ⟨hx, hb, hml, hown, hts, hr, hlk, hnm, hwd, hdf, hdl, hst, hok⟩ := id hA
  obtain ⟨q0, he⟩ := jh_A_at (g := g) ho
  have hset := jh_A_set (h' := jh_sI h a j (vp_nar .char x)) hP.2 ho he rfl rfl (fun b hb => jh_E_o rfl rfl rfl rfl (jh_u_row _ _ _ hb) rfl rfl)
  have e1 : jh_ac h a t = .inl (jh_I h a) := by simp only [jh_ac, hty, jc_so]
  have e3 : jh_ac (jh_sI h a j (vp_nar .char x)) a t = .inl (va_up (jh_I h a) j (vp_nar .char x)) := by
    simp only [jh_ac, hty, jc_so]; exact congrArg Sum.inl (jh_u_up _ _ _ _)
  rw [e1] at he
  rw [e3] at hset
  subst hi
  have e2 : (nI j).toNatClampNeg = j := nI_clamp (by omega)
  refine va_cast hx hb hwd.1 hP.1 hP.2 hS q0 t he (by rw [jg_t_at g ht, hty]) (vp_in_nI hj hn) (hok _ _ hd) (fun H1 locs1 p1 d1 s1 => ?_)
  rw [e2, jh_upd, hset] at p1 d1
  exact kk p e s m args below meth c R Z H1 locs1 cells slots arr hA hT hE ⟨p1, d1⟩ s1 hl hc hs
theorem jw_last {a t n : Nat} {i : Int32} {x : Int64} (j : Nat) (hd : M.2.2.2.2 pc = some (.lastore, 1)) (ht : t < jc_an) (hty : jc_at t = .long) (ho : jh_A h a t n) (hi : i = nI j) (hj : j < n) (hn : n < 2 ^ 31) (kk : jw_J g d M T (pc + 1) ls st (jh_sG h a j x) kc ks Q) : jw_J g d M T pc ls (.inr (.inl x) :: .inl i :: .inr (.inr (some a)) :: st) h kc ks Q := by
  intro p e s m args below meth c R Z H locs cells slots arr hA hT hE hP hS hl hc hs
  obtain ⟨hx, hb, hml, hown, hts, hr, hlk, hnm, hwd, hdf, hdl, hst, hok⟩ := id hA
  obtain ⟨q0, he⟩ := jh_A_at (g := g) ho
  have hset := jh_A_set (h' := jh_sG h a j x) hP.2 ho he rfl rfl (fun b hb => jh_E_o rfl rfl rfl rfl rfl (jh_u_row _ _ _ hb) rfl)
  have e1 : jh_ac h a t = .inr (.inl (jh_G h a)) := by simp only [jh_ac, hty, jc_so]
  have e3 : jh_ac (jh_sG h a j x) a t = .inr (.inl (va_up (jh_G h a) j x)) := by
    simp only [jh_ac, hty, jc_so]; exact congrArg (fun z => Sum.inr (Sum.inl z)) (jh_u_up _ _ _ _)
  rw [e1] at he
  rw [e3] at hset
  subst hi
  have e2 : (nI j).toNatClampNeg = j := nI_clamp (by omega)
  refine va_last hx hb hwd.1 hP.1 hP.2 hS q0 t he (by rw [jg_t_at g ht, hty]) (vp_in_nI hj hn) (hok _ _ hd) (fun H1 locs1 p1 d1 s1 => ?_)
  rw [e2, jh_updL, hset] at p1 d1
  exact kk p e s m args below meth c R Z H1 locs1 cells slots arr hA hT hE ⟨p1, d1⟩ s1 hl hc hs
theorem jw_aast {a t n v ci : Nat} {i : Int32} (j : Nat) (hd : M.2.2.2.2 pc = some (.aastore, 1)) (ht : t < jc_an) (hcq : jc_ok ci) (hty : jc_at t = .object (jc_q ci).1) (ho : jh_A h a t n) (hv : jh_O h v ci) (hi : i = nI j) (hj : j < n) (hn : n < 2 ^ 31) (kk : jw_J g d M T (pc + 1) ls st (jh_sR h a j (some v)) kc ks Q) : jw_J g d M T pc ls (.inr (.inr (some v)) :: .inl i :: .inr (.inr (some a)) :: st) h kc ks Q := by
  intro p e s m args below meth c R Z H locs cells slots arr hA hT hE hP hS hl hc hs
  obtain ⟨hx, hb, hml, hown, hts, hr, hlk, hnm, hwd, hdf, hdl, hst, hok⟩ := id hA
  obtain ⟨q0, he⟩ := jh_A_at (g := g) ho
  obtain ⟨qk, hk⟩ := jh_at (g := g) hv.1
  rw [jh_E_O hcq.2.1 hv] at hk
  have hset := jh_A_set (h' := jh_sR h a j (some v)) hP.2 ho he rfl rfl (fun b hb => jh_E_o rfl rfl rfl rfl rfl rfl (jh_u_row _ _ _ hb))
  have e1 : jh_ac h a t = .inr (.inr (.inr (.inr (jh_R h a)))) := by simp only [jh_ac, hty, jc_so]
  have e3 : jh_ac (jh_sR h a j (some v)) a t = .inr (.inr (.inr (.inr (va_up (jh_R h a) j (some v))))) := by
    simp only [jh_ac, hty, jc_so]; exact congrArg (fun z => Sum.inr (Sum.inr (Sum.inr (Sum.inr z)))) (jh_u_up _ _ _ _)
  rw [e1] at he
  rw [e3] at hset
  subst hi
  have e2 : (nI j).toNatClampNeg = j := nI_clamp (by omega)
  refine va_astq hx hb hwd.1 hP.1 hP.2 hS q0 t qk ci (r := jc_q ci) he (by rw [jg_t_at g ht, hty]) hk hcq.1 (vp_in_nI hj hn) (hok _ _ hd) (fun H1 locs1 p1 d1 s1 => ?_)
  rw [e2, hset] at p1 d1
  exact kk p e s m args below meth c R Z H1 locs1 cells slots arr hA hT hE ⟨p1, d1⟩ s1 hl hc hs
theorem jw_aastN {a t n : Nat} {i : Int32} {C : String} (j : Nat) (hd : M.2.2.2.2 pc = some (.aastore, 1)) (ht : t < jc_an) (hty : jc_at t = .object C) (ho : jh_A h a t n) (hi : i = nI j) (hj : j < n) (hn : n < 2 ^ 31) (kk : jw_J g d M T (pc + 1) ls st (jh_sR h a j none) kc ks Q) : jw_J g d M T pc ls (.inr (.inr none) :: .inl i :: .inr (.inr (some a)) :: st) h kc ks Q := by
  intro p e s m args below meth c R Z H locs cells slots arr hA hT hE hP hS hl hc hs
  obtain ⟨hx, hb, hml, hown, hts, hr, hlk, hnm, hwd, hdf, hdl, hst, hok⟩ := id hA
  obtain ⟨q0, he⟩ := jh_A_at (g := g) ho
  have hset := jh_A_set (h' := jh_sR h a j none) hP.2 ho he rfl rfl (fun b hb => jh_E_o rfl rfl rfl rfl rfl rfl (jh_u_row _ _ _ hb))
  have e1 : jh_ac h a t = .inr (.inr (.inr (.inr (jh_R h a)))) := by simp only [jh_ac, hty, jc_so]
  have e3 : jh_ac (jh_sR h a j none) a t = .inr (.inr (.inr (.inr (va_up (jh_R h a) j none)))) := by
    simp only [jh_ac, hty, jc_so]; exact congrArg (fun z => Sum.inr (Sum.inr (Sum.inr (Sum.inr z)))) (jh_u_up _ _ _ _)
  rw [e1] at he
  rw [e3] at hset
  subst hi
  have e2 : (nI j).toNatClampNeg = j := nI_clamp (by omega)
  refine va_astqN hx hb hwd.1 hP.1 hP.2 hS q0 t he (by rw [jg_t_at g ht, hty]) (vp_in_nI hj hn) (hok _ _ hd) (fun H1 locs1 p1 d1 s1 => ?_)
  rw [e2, hset] at p1 d1
  exact kk p e s m args below meth c R Z H1 locs1 cells slots arr hA hT hE ⟨p1, d1⟩ s1 hl hc hs
/-- a new cell -/
theorem jh_push {q kd n : Nat} {ee : va_E} (hq : q ∉ jh_L h) (he : jh_E g (jh_nw h q kd n) q = ee) : jh_W g h ++ [(q, ee)] = jh_W g (jh_nw h q kd n) := by
  rw [jh_W, va_pl_push hq, jh_W]
  show va_pl (jh_L h ++ [q]) _ = va_pl (jh_L h ++ [q]) _
  refine va_pl_congr (fun b => ?_)
  by_cases hb : b = q
  · subst hb; rw [va_up_self, he]
  · rw [va_up_ne _ _ hb]
    exact (jh_E_o (h := h) (h' := jh_nw h q kd n) (b := b) (va_up_ne _ _ hb) (jh_z_row _ _ hb) (jh_z_row _ _ hb) (jh_z_row _ _ hb) (jh_z_row _ _ hb) (jh_z_row _ _ hb) (jh_z_row _ _ hb)).symm
theorem jh_nin {q : Nat} {ee : va_E} {A : Nat → Prop} (hD : va_D A (jh_W g h ++ [(q, ee)])) : q ∉ jh_L h := by
  intro hq
  obtain ⟨k, hk⟩ := jh_at (g := g) hq
  have hk' := (List.getElem?_eq_some_iff.mp hk).1
  have h1 : (jh_W g h ++ [(q, ee)])[k]? = some (q, jh_E g h q) := by rw [List.getElem?_append_left hk']; exact hk
  have h2 : (jh_W g h ++ [(q, ee)])[(jh_W g h).length]? = some (q, ee) := by simp
  have := hD.1 _ _ _ _ h1 h2 rfl
  omega
theorem jw_new {idx ci : Nat} (hd : M.2.2.2.2 pc = some (.new idx, 3)) (hcq : jc_ok ci) (hcl : Cond.classLink M.1.cls idx (jc_q ci).1 ∈ jw_big) (hin : Cond.instantiable (jc_q ci).1 (jc_q ci).2.2 ∈ jw_big) (hini : Cond.initialized (jc_q ci).1 ∈ jw_big) (hdv : ∀ j, j < (jc_q ci).2.2 → defaultValue (jc_ty ci j) = (match jc_so (jc_ty ci j) with | 0 => Value.int 0 | 1 => .long 0 | _ => .null)) (h1 : 1 ≤ kc) (h2 : (jc_q ci).2.2 ≤ ks)
    (kk : ∀ q, q ∉ jh_L h → jw_J g d M T (pc + 3) ls (.inr (.inr (some q)) :: st) (jh_nw h q ci (jc_q ci).2.2) (kc - 1) (ks - (jc_q ci).2.2) Q) : jw_J g d M T pc ls st h kc ks Q := by
  intro p e s m args below meth c R Z H locs cells slots arr hA hT hE hP hS hl hc hs
  obtain ⟨hx, hb, hml, hown, hts, hr, hlk, hnm, hwd, hdf, hdl, hst, hok⟩ := id hA
  obtain ⟨hq, h100, hw, hty, hnn⟩ := hcq
  have hcl0 : jc_cl[ci]? = some ((jc_q ci).1, (jc_q ci).2.1, (jc_q ci).2.2) := hq
  refine va_new hx hb hts hw (jc_ty ci) hty hown (hts _ hcl) (hts _ hin) (hts _ hini) hwd.1 hP.1 hP.2 hS (fun q z => Nat.le_trans hwd.2.1 z) hcl0 (fs := (List.range (jc_q ci).2.2).map (fun j => match jc_so (jc_ty ci j) with | 0 => Value.int 0 | 1 => .long 0 | _ => .null)) (fun j hj => ?_) (by omega) (by omega) (hok _ _ hd) (fun q H1 p1 d1 s1 => ?_)
  · rw [hdv j hj, vp_V, List.getD_eq_getElem?_getD]; simp [hj]
  · have hn := jh_nin d1
    have he : jh_E g (jh_nw h q ci (jc_q ci).2.2) q = .inr (ci, (List.range (jc_q ci).2.2).map (fun j => match jc_so (jc_ty ci j) with | 0 => Value.int 0 | 1 => .long 0 | _ => .null)) := by
      have ho : jh_O (jh_nw h q ci (jc_q ci).2.2) q ci := ⟨by simp [jh_nw, jh_L], va_up_self _ _ _⟩
      rw [jh_E_O h100 ho]
      refine congrArg (fun z => Sum.inr (ci, z)) (List.map_congr_left (fun j _ => ?_))
      simp only [jh_fv]
      show (match jc_so (jc_ty ci j) with | 0 => Value.int (jh_z (jh_i h) q 0 q (64 * ci + j)) | 1 => .long (jh_z (jh_g h) q 0 q (64 * ci + j)) | _ => va_rf (jh_z (jh_r h) q none q (64 * ci + j))) = _
      rw [jh_z_s, jh_z_s, jh_z_s]; rfl
    rw [jh_push hn he] at p1 d1
    exact kk q hn p e s m args below meth c R Z H1 locs (cells + 1) (slots + (jc_q ci).2.2) arr hA hT hE ⟨p1, d1⟩ s1 hl (by omega) (by omega)
/-- the array's class is the one that the tables name -/
theorem jw_cA {t : Nat} {s : State} {cA : ClassId} {L : List (ClassId × FieldType)} (ht : t < jc_an) (hK : va_K (jg_D g) jc_cl (jg_t g) s) (hK2 : va_K (jg_D g) jc_cl (L ++ [(cA, jc_at t)]) s) : cA = jg_A g t := by
  have h1 := (hK.2 t _ (jg_t_at g ht)).2
  have h2 := (hK2.2 L.length (cA, jc_at t) (by simp)).2
  revert h1 h2
  cases jc_at t <;> intro h1 h2
  case object C =>
    obtain ⟨-, -, -, -, -, e1⟩ := h1
    obtain ⟨-, -, -, -, -, e2⟩ := h2
    exact Option.some.inj (e2.symm.trans e1)
  all_goals exact Option.some.inj (Eq.trans (Eq.symm h2) h1)
theorem jw_newa {t n : Nat} {i : Int32} {aty : ArrayType} (hd : M.2.2.2.2 pc = some (.newarray aty, 2)) (ht : t < jc_an) (hty : newarray.typeOf aty = jc_at t) (hso : (jc_so (jc_at t) = 0 ∧ defaultValue (jc_at t) = .int 0) ∨ (jc_at t = .long)) (harr : Cond.arrayClass (newarray.typeOf aty) ∈ jw_big) (hi : i = nI n) (hn : n * componentBytes (jc_at t) ≤ 536870912) (hn2 : n < 2 ^ 31) (h1 : 1 ≤ kc) (h2 : n ≤ ks)
    (kk : ∀ q, q ∉ jh_L h → jw_J g d M T (pc + 2) ls (.inr (.inr (some q)) :: st) (jh_nw h q (100 + t) n) (kc - 1) (ks - n) Q) : jw_J g d M T pc ls (.inl i :: st) h kc ks Q := by
  intro p e s m args below meth c R Z H locs cells slots arr hA hT hE hP hS hl hc hs
  obtain ⟨hx, hb, hml, hown, hts, hr, hlk, hnm, hwd, hdf, hdl, hst, hok⟩ := id hA
  subst hi
  have hneg : ¬ nI n < 0 := nI_pos hn2
  have hcl : (nI n).toNatClampNeg = n := nI_clamp hn2
  have hgo : ∀ (a0 : vp_A), a0 = (n, jh_ac (jh_nw h 0 (100 + t) n) 0 t) → True := fun _ _ => trivial
  rcases hso with ⟨hso, hdv⟩ | hso
  · refine va_newa hx hb (hts _ harr) hty hwd.1 hP.1 hP.2 hS (fun q z => Nat.le_trans hwd.2.1 z) (N' := n) (a0 := (n, .inl (fun _ => 0))) (fun cA => ?_) hneg hcl hn (by omega) (by omega) (hok _ _ hd) (fun q cA H1 k1 p1 d1 s1 => ?_)
    · rw [hdv]; rfl
    · have hn := jh_nin d1
      have ecA := jw_cA ht hwd.1 k1
      subst ecA
      have he : jh_E g (jh_nw h q (100 + t) n) q = .inl (jg_A g t, n, .inl (fun _ => 0)) := by
        have ho : jh_A (jh_nw h q (100 + t) n) q t n := ⟨by simp [jh_nw, jh_L], va_up_self _ _ _⟩
        rw [jh_E_A ho]
        have : jh_ac (jh_nw h q (100 + t) n) q t = .inl (fun _ => 0) := by
          simp only [jh_ac, hso]; exact congrArg Sum.inl (funext (fun j => jh_z_s _ _ _ _))
        rw [this]
      rw [jh_push hn he] at p1 d1
      exact kk q hn p e s m args below meth c R Z H1 locs (cells + 1) (slots + n) arr hA hT hE ⟨p1, d1⟩ s1 hl (by omega) (by omega)
  · refine va_newa hx hb (hts _ harr) hty hwd.1 hP.1 hP.2 hS (fun q z => Nat.le_trans hwd.2.1 z) (N' := n) (a0 := (n, .inr (.inl (fun _ => 0)))) (fun cA => ?_) hneg hcl hn (by omega) (by omega) (hok _ _ hd) (fun q cA H1 k1 p1 d1 s1 => ?_)
    · rw [hso]; rfl
    · have hn := jh_nin d1
      have ecA := jw_cA ht hwd.1 k1
      subst ecA
      have he : jh_E g (jh_nw h q (100 + t) n) q = .inl (jg_A g t, n, .inr (.inl (fun _ => 0))) := by
        have ho : jh_A (jh_nw h q (100 + t) n) q t n := ⟨by simp [jh_nw, jh_L], va_up_self _ _ _⟩
        rw [jh_E_A ho]
        have : jh_ac (jh_nw h q (100 + t) n) q t = .inr (.inl (fun _ => 0)) := by
          simp only [jh_ac, hso, jc_so]; exact congrArg (fun z => Sum.inr (Sum.inl z)) (funext (fun j => jh_z_s _ _ _ _))
        rw [this]
      rw [jh_push hn he] at p1 d1
      exact kk q hn p e s m args below meth c R Z H1 locs (cells + 1) (slots + n) arr hA hT hE ⟨p1, d1⟩ s1 hl (by omega) (by omega)
theorem jw_newq {t n idx : Nat} {i : Int32} {C : String} (hd : M.2.2.2.2 pc = some (.anewarray idx, 3)) (ht : t < jc_an) (hty : jc_at t = .object C) (hcl : Cond.classLink M.1.cls idx C ∈ jw_big) (hi : i = nI n) (hn : n * 4 ≤ 536870912) (h1 : 1 ≤ kc) (h2 : n ≤ ks)
    (kk : ∀ q, q ∉ jh_L h → jw_J g d M T (pc + 3) ls (.inr (.inr (some q)) :: st) (jh_nw h q (100 + t) n) (kc - 1) (ks - n) Q) : jw_J g d M T pc ls (.inl i :: st) h kc ks Q := by
  intro p e s m args below meth c R Z H locs cells slots arr hA hT hE hP hS hl hc hs
  obtain ⟨hx, hb, hml, hown, hts, hr, hlk, hnm, hwd, hdf, hdl, hst, hok⟩ := id hA
  subst hi
  have hn2 : n < 2 ^ 31 := by omega
  refine va_newq hx hb hown (hts _ hcl) (hwd.2.2.2.2 t C ht hty) hwd.1 hP.1 hP.2 hS (fun q z => Nat.le_trans hwd.2.1 z) (N' := n) (nI_pos hn2) (nI_clamp hn2) hn (by omega) (by omega) (hok _ _ hd) (fun q cA H1 k1 p1 d1 s1 => ?_)
  have hnn := jh_nin d1
  rw [← hty] at k1
  have ecA := jw_cA ht hwd.1 k1
  subst ecA
  have he : jh_E g (jh_nw h q (100 + t) n) q = .inl (jg_A g t, n, .inr (.inr (.inr (.inr (fun _ => none))))) := by
    have ho : jh_A (jh_nw h q (100 + t) n) q t n := ⟨by simp [jh_nw, jh_L], va_up_self _ _ _⟩
    rw [jh_E_A ho]
    have : jh_ac (jh_nw h q (100 + t) n) q t = .inr (.inr (.inr (.inr (fun _ => none)))) := by
      simp only [jh_ac, hty, jc_so]; exact congrArg (fun z => Sum.inr (Sum.inr (Sum.inr (Sum.inr z)))) (funext (fun j => jh_z_s _ _ _ _))
    rw [this]
  rw [jh_push hnn he] at p1 d1
  exact kk q hnn p e s m args below meth c R Z H1 locs (cells + 1) (slots + n) arr hA hT hE ⟨p1, d1⟩ s1 hl (by omega) (by omega)
end JWH
