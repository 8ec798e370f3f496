/-! CONSTANTS: what lies in the heap from the start, and nobody writes; links across the nest -/
def jc_con (g : jg_G) (U : State) (H : Heap) : Prop := ((∀ (n : Nat) (q : String × Nat × String), jc_strs[n]? = some q → vk_R q.1 q.2.1 q.2.2 (jg_c g n) U) ∧ vx_Zq Jvm.Bundle.tN "UNASSIGNED_STACK" Jvm.Bundle.steD (jg_S g) U H ∧ vx_Zq Jvm.Bundle.tN "SUPPRESSED_SENTINEL" Jvm.Bundle.listD (jg_S g) U H ∧ jc_kon g U H) ∧ (∀ w ∈ jw_nest, va_Nw w U) ∧ (∀ t C, t < jc_an → jc_at t = .object C → va_AO C U)
theorem jw_nest_el {P : Cond → Prop} (h1 : ∀ a i b n d ho, P (.fieldLinkNest a i b n d ho)) (h2 : ∀ a i x ho, P (.methodLinkNest a i x ho)) (h3 : ∀ a b, P (.castable a b)) (h4 : ∀ x, P (.declares x)) : ∀ w ∈ jw_nest, P w := by
  intro w hw
  rcases List.mem_append.mp hw with hw | hw
  · obtain ⟨q, -, rfl⟩ := List.mem_map.mp hw; exact h1 _ _ _ _ _ _
  rcases List.mem_append.mp hw with hw | hw
  · obtain ⟨q, -, rfl⟩ := List.mem_map.mp hw; exact h2 _ _ _ _
  rcases List.mem_append.mp hw with hw | hw
  · obtain ⟨q, -, rfl⟩ := List.mem_map.mp hw; exact h3 _ _
  · obtain ⟨q, -, rfl⟩ := List.mem_map.mp hw; exact h4 _
theorem jw_nest_moved {u U : State} (hW : u.WarmedH U.vm) (h : ∀ w ∈ jw_nest, va_Nw w u) : ∀ w ∈ jw_nest, va_Nw w U := fun w hw =>
  jw_nest_el (P := fun w => va_Nw w u → va_Nw w U) (fun _ _ _ _ _ _ z => va_Nw.warmF hW z) (fun _ _ _ _ z => va_Nw.warmM hW z) (fun _ _ z => va_Nw.warmC hW z) (fun _ z => va_Nw.warmD hW z) w hw (h w hw)
theorem jw_nest_tab : ∀ w ∈ jw_nest, w.onTables = true := jw_nest_el (fun _ _ _ _ _ _ => rfl) (fun _ _ _ _ => rfl) (fun _ _ => rfl) (fun _ => rfl)
theorem jw_nest_same {u U : State} (hv : U.vm = u.vm) (h : ∀ w ∈ jw_nest, va_Nw w u) : ∀ w ∈ jw_nest, va_Nw w U := fun w hw => va_Nw.same (jw_nest_tab w hw) hv.symm (h w hw)
theorem jc_con_moved {g : jg_G} {u U : State} {H : Heap} (hW : u.WarmedH U.vm) (h : jc_con g u H) : jc_con g U H := ⟨⟨fun n q hq => vk_R.warm hW (h.1.1 n q hq), vx_Zq.moved hW.alike h.1.2.1, vx_Zq.moved hW.alike h.1.2.2.1, jc_kon.moved hW.alike h.1.2.2.2⟩, jw_nest_moved hW h.2.1, fun t C h1 h2 => va_AO.moved hW.alike (h.2.2 t C h1 h2)⟩
theorem jc_con_same {g : jg_G} {u U : State} {H : Heap} (hv : U.vm = u.vm) (h : jc_con g u H) : jc_con g U H := by
  have ha : u.vm.Alike U.vm := by rw [hv]; exact Vm.Alike.refl _
  exact ⟨⟨fun n q hq => vk_R.same hv (h.1.1 n q hq), vx_Zq.moved ha h.1.2.1, vx_Zq.moved ha h.1.2.2.1, jc_kon.moved ha h.1.2.2.2⟩, jw_nest_same hv h.2.1, fun t C h1 h2 => va_AO.moved ha (h.2.2 t C h1 h2)⟩
theorem jc_con_kept {g : jg_G} {U : State} {H H1 : Heap} (h : jc_con g U H) (hq : ∀ q : Nat, q < H.size → ¬ jg_S g q → H1[q]? = H[q]?) : jc_con g U H1 := ⟨⟨h.1.1, vx_Zq.kept h.1.2.1 hq, vx_Zq.kept h.1.2.2.1 hq, jc_kon.kept h.1.2.2.2 hq⟩, h.2⟩
theorem jc_con_str {g : jg_G} {U : State} {H : Heap} (h : jc_con g U H) {n : Nat} {own text : String} {is : Nat} (hq : jc_strs[n]? = some (own, is, text)) : ∃ sa, vk_R own is text sa U := ⟨_, h.1.1 n _ hq⟩
theorem jc_con_U {g : jg_G} {U : State} {H : Heap} (h : jc_con g U H) : vx_Zq Jvm.Bundle.tN "UNASSIGNED_STACK" Jvm.Bundle.steD (jg_S g) U H := h.1.2.1
theorem jc_con_N {g : jg_G} {U : State} {H : Heap} (h : jc_con g U H) : vx_Zq Jvm.Bundle.tN "SUPPRESSED_SENTINEL" Jvm.Bundle.listD (jg_S g) U H := h.1.2.2.1
theorem jc_con_f {g : jg_G} {U : State} {H : Heap} (h : jc_con g U H) {a : String} {i : Nat} {b n d ho : String} (hw : Cond.fieldLinkNest a i b n d ho ∈ jw_nest) (A : Array Value) : (Cond.fieldLinkNest a i b n d ho).before A U = true := va_Nw.use rfl (h.2.1 _ hw)
theorem jc_con_K {g : jg_G} {U : State} {H : Heap} (h : jc_con g U H) : jc_kon g U H := h.1.2.2.2
