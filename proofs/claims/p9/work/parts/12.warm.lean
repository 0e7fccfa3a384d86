theorem W.mono {p : Program} {l : Launch} {e : Env} {R : Room} {s : State} {m : MethodId} {args : Array Value} {below : List Frame} {meth : Method} {c : Code} {H : Heap} {locs : List Loc} {cells slots : Nat} {Q Q' : State → Prop} {g : JFrame} (h : W p l e R s m args below meth c H locs cells slots Q g) (hq : ∀ t, Q t → Q' t) : W p l e R s m args below meth c H locs cells slots Q' g := by
  intro T hT X
  obtain ⟨t, a, b⟩ := h T hT X
  exact ⟨t, a, hq t b⟩
theorem xnw_warm {s U : State} (hW : s.WarmedH U.vm) (h : ∀ w ∈ xnw, va_Nw w s) : ∀ w ∈ xnw, va_Nw w U := by
  intro w hw
  have hs := h w hw
  simp only [xnw, List.mem_cons, List.not_mem_nil, or_false] at hw
  rcases hw with rfl | rfl | rfl | rfl | rfl | rfl | rfl <;> exact va_Nw.warmM hW hs
theorem xao_warm {s U : State} (hW : s.WarmedH U.vm) (h : va_Nw (.arrayOver (.array .int)) s) : va_Nw (.arrayOver (.array .int)) U := by
  have h1 : (Cond.arrayOver (.array .int)).before #[] (s.setVm U.vm) = true := by
    rw [Cond.arrayOver_setVmC hW.alike]
    exact h
  exact h1
def xcd (w : Cond) : Bool := match w with
  | .castable _ _ => true
  | .declares _ => true
  | _ => false
theorem xthr_kind : xthr.all xcd = true := by decide +kernel
theorem xthr_warm {s U : State} (hW : s.WarmedH U.vm) (h : ∀ w ∈ xthr, va_Nw w s) : ∀ w ∈ xthr, va_Nw w U := by
  intro w hw
  have hk := List.all_eq_true.mp xthr_kind w hw
  have hs := h w hw
  cases w <;> first | exact va_Nw.warmC hW hs | exact va_Nw.warmD hW hs | cases hk
theorem xthr2_kind : xthr2.all xcd = true := by decide +kernel
theorem xthr2_warm {s U : State} (hW : s.WarmedH U.vm) (h : ∀ w ∈ xthr2, va_Nw w s) : ∀ w ∈ xthr2, va_Nw w U := by
  intro w hw
  have hk := List.all_eq_true.mp xthr2_kind w hw
  have hs := h w hw
  cases w <;> first | exact va_Nw.warmC hW hs | exact va_Nw.warmD hW hs | cases hk
theorem xkeep {b : Nat} {s U : State} (hq : ∀ q, q < b → U.heap[q]? = s.heap[q]?) : ∀ a : Nat, a < s.heap.size → ¬ (fun q => b ≤ q) a → U.heap[a]? = s.heap[a]? := fun a _ h => hq a (by
  have : ¬ b ≤ a := h
  omega)
theorem xFx_warm {b : Nat} {sa : Nat → Nat} {s U : State} (h : xFx b sa s) (hW : s.WarmedH U.vm) (hq : ∀ q, q < b → U.heap[q]? = s.heap[q]?) : xFx b sa U := by
  obtain ⟨h1, h2, h3, h4, h5, h6, h7, h8, h9, h10, h11, h12, h13, h14⟩ := h
  refine ⟨xnw_warm hW h1, xao_warm hW h2, fun k hk => ?_, vk_R.warm hW h4, vk_R.warm hW h5, (va_Z.moved hW.alike h6).kept (xkeep hq), (va_Z.moved hW.alike h7).kept (xkeep hq), (vx_Zq.moved hW.alike h8).kept (xkeep hq), (vx_Zq.moved hW.alike h9).kept (xkeep hq), vk_R.warm hW h10, xthr_warm hW h11, vk_R.warm hW h12, vk_R.warm hW h13, xthr2_warm hW h14⟩
  obtain ⟨g1, g2, g3, g4⟩ := h3 k hk
  exact ⟨(va_O.moved hW.alike g1).kept (xkeep hq), (va_OF.moved hW.alike g2).kept (xkeep hq), (va_OF.moved hW.alike g3).kept (xkeep hq), (va_T.moved hW.alike g4).kept (xkeep hq)⟩
