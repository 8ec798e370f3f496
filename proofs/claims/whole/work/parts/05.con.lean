/-! CONSTANTS: what lies in the heap from the start, and nobody writes -/
def jc_con (g : jg_G) (U : State) (H : Heap) : Prop := (∀ (n : Nat) (q : String × Nat × String), jc_strs[n]? = some q → vk_R q.1 q.2.1 q.2.2 (jg_c g n) U) ∧ vx_Zq Jvm.Bundle.tN "UNASSIGNED_STACK" Jvm.Bundle.steD (jg_S g) U H ∧ vx_Zq Jvm.Bundle.tN "SUPPRESSED_SENTINEL" Jvm.Bundle.listD (jg_S g) U H
theorem jc_con_moved {g : jg_G} {u U : State} {H : Heap} (hW : u.WarmedH U.vm) (h : jc_con g u H) : jc_con g U H := ⟨fun n q hq => vk_R.warm hW (h.1 n q hq), vx_Zq.moved hW.alike h.2.1, vx_Zq.moved hW.alike h.2.2⟩
theorem jc_con_same {g : jg_G} {u U : State} {H : Heap} (hv : U.vm = u.vm) (h : jc_con g u H) : jc_con g U H := ⟨fun n q hq => vk_R.same hv (h.1 n q hq), vx_Zq.moved (by rw [hv]; exact Vm.Alike.refl _) h.2.1, vx_Zq.moved (by rw [hv]; exact Vm.Alike.refl _) h.2.2⟩
theorem jc_con_kept {g : jg_G} {U : State} {H H1 : Heap} (h : jc_con g U H) (hq : ∀ q : Nat, q < H.size → ¬ jg_S g q → H1[q]? = H[q]?) : jc_con g U H1 := ⟨h.1, vx_Zq.kept h.2.1 hq, vx_Zq.kept h.2.2 hq⟩
theorem jc_con_str {g : jg_G} {U : State} {H : Heap} (h : jc_con g U H) {n : Nat} {own text : String} {is : Nat} (hq : jc_strs[n]? = some (own, is, text)) : ∃ sa, vk_R own is text sa U := ⟨_, h.1 n _ hq⟩
theorem jc_con_U {g : jg_G} {U : State} {H : Heap} (h : jc_con g U H) : vx_Zq Jvm.Bundle.tN "UNASSIGNED_STACK" Jvm.Bundle.steD (jg_S g) U H := h.2.1
theorem jc_con_N {g : jg_G} {U : State} {H : Heap} (h : jc_con g U H) : vx_Zq Jvm.Bundle.tN "SUPPRESSED_SENTINEL" Jvm.Bundle.listD (jg_S g) U H := h.2.2
