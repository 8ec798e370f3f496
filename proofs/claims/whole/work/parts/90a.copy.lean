/-! System.arraycopy between rows of longs -/
theorem ac_nat : Cond.native arraycopyName ∈ jw_big := jt_i4 23 rfl rfl
theorem ac_sta : Cond.static arraycopyName ∈ jw_big := jt_i4 22 rfl rfl
theorem ac_ini : Cond.initialized "java/lang/System" ∈ jw_big := jt_i1 27 rfl rfl
def jh_cG (h : jh_H) (a : Nat) (F : Nat → Int64) : jh_H := (jh_L h, jh_K h, jh_i h, jh_g h, jh_r h, jh_I h, (fun b => if b = a then F else jh_G h b), jh_R h)
theorem fr.cG {S : Nat → Prop} {h h1 : jh_H} {a : Nat} {F : Nat → Int64} (f : fr S h h1) (ha : S a) : fr S h (jh_cG h1 a F) := by
  refine ⟨f.1, fun b hb hn => ?_⟩
  obtain ⟨e1, e2, e3, e4, e5, e6, e7, e8⟩ := f.2 b hb hn
  refine ⟨e1, e2, e3, e4, e5, e6, fun k => ?_, e8⟩
  have hne : b ≠ a := fun e => hn (by rw [e]; exact ha)
  show (if b = a then F else jh_G h1 b) k = _
  rw [if_neg hne]
  exact e7 k
section JCP
variable {g : jg_G} {d : Nat} {M : jw_M} {T : Code → Prop} {pc : Nat} {ls : List (Option jV)} {st : List jV} {h : jh_H} {kc ks : Nat} {Q : jw_O → jh_H → Prop}
theorem jw_copyl {a b n m k idx : Nat} (hd : M.2.2.2.2 pc = some (.invokestatic idx, 3)) (hk : Cond.methodLink M.1.cls idx arraycopyName ∈ jw_big) (hd1 : 1 ≤ d) (hst0 : (st.map jv_c).sum ≤ 8) (ho : jh_A h a 2 n) (hp : jh_A h b 2 m) (hkn : k ≤ n) (hkm : k ≤ m) (hk31 : k < 2 ^ 31) (kk : jw_J g d M T (pc + 3) ls st (jh_cG h b (va_cpy (jh_G h a) (jh_G h b) 0 0 k)) kc ks Q) : jw_J g d M T pc ls (.inl (nI k) :: .inl 0 :: .inr (.inr (some b)) :: .inl 0 :: .inr (.inr (some a)) :: st) h kc ks Q := by
  have hst0 : ((st.map jv).map fun v => v.category).sum ≤ 8 := by rw [jv_sum]; exact hst0
  intro p e s m args below meth c R Z H locs cells slots arr hA hT hE hP hS hl hc hs
  obtain ⟨hx, hb, hml, hown, hts, hr, hlk, hnm, hwd, hdf, hdl, hst, hok⟩ := id hA
  obtain ⟨q0, he⟩ := jh_A_at (g := g) ho
  obtain ⟨q1, he1⟩ := jh_A_at (g := g) hp
  have hset := jh_A_set (h' := jh_cG h b (va_cpy (jh_G h a) (jh_G h b) 0 0 k)) hP.2 hp he1 rfl rfl (fun x hx => jh_E_o rfl rfl rfl rfl rfl (show (if x = b then _ else jh_G h x) = _ from if_neg hx) rfl)
  have e1 : jh_ac h a 2 = .inr (.inl (jh_G h a)) := rfl
  have e2 : jh_ac h b 2 = .inr (.inl (jh_G h b)) := rfl
  have e3 : jh_ac (jh_cG h b (va_cpy (jh_G h a) (jh_G h b) 0 0 k)) b 2 = .inr (.inl (va_cpy (jh_G h a) (jh_G h b) 0 0 k)) := congrArg (fun z => Sum.inr (Sum.inl z)) (if_pos rfl)
  rw [e1] at he
  rw [e2] at he1
  rw [e3] at hset
  have e4 : (nI k).toNatClampNeg = k := nI_clamp hk31
  have e5 : (0 : Int32).toNatClampNeg = 0 := rfl
  refine va_copyl hx hb (by rw [hml]; exact hl.1.symm) hown (hts _ hk) (hts _ ac_nat) (hts _ ac_sta) (hts _ ac_ini) hwd.1 hP.1 hP.2 hS q0 q1 2 2 he he1 (jg_t_at g (by decide)) (jg_t_at g (by decide)) rfl (by decide) (by decide) (nI_pos hk31) (by rw [e4, e5]; omega) (by rw [e4, e5]; omega) (fun i _ => rfl) (by omega) (by show _ + (7 + 11) ≤ _; omega) (hok _ _ hd) (fun H1 locs1 p1 d1 s1 => ?_)
  rw [e4, e5, hset] at p1 d1
  exact kk p e s m args below meth c R Z H1 locs1 cells slots arr hA hT hE ⟨p1, d1⟩ s1 hl hc hs
end JCP
