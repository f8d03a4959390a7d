/-! what a throw wants of the state, in one bundle -/
def yExW : List Cond := [.castable "java/lang/IllegalArgumentException" "java/lang/IllegalArgumentException", .castable "java/lang/IllegalStateException" "java/lang/IllegalStateException", .castable "java/util/NoSuchElementException" "java/util/NoSuchElementException", .declares ⟨"java/lang/RuntimeException", "<init>", "(Ljava/lang/String;)V"⟩, .declares ⟨"java/lang/Exception", "<init>", "(Ljava/lang/String;)V"⟩, .declares ⟨"java/lang/Throwable", "<init>", "(Ljava/lang/String;)V"⟩]
def yExS : List (Nat × String) := [(33, "no literal"), (43, "the tape is full"), (62, "the yard is full"), (71, "no level above this one"), (73, "no level is open"), (78, "too many assumptions"), (87, "no model"), (94, "no such assumption"), (97, "not 1 .. 64"), (111, "no such variable"), (113, "nothing to look at")]
def yEx (A : Nat → Prop) (U : State) (H : Heap) : Prop := vx_Zq Bundle.tN "UNASSIGNED_STACK" Bundle.steD A U H ∧ vx_Zq Bundle.tN "SUPPRESSED_SENTINEL" Bundle.listD A U H ∧ (∀ w ∈ yExW, va_Nw w U) ∧ (∀ q ∈ yExS, ∃ sa, vk_R RX0 q.1 q.2 sa U) ∧ yStat A U H
theorem yEx.warm {A : Nat → Prop} {s U : State} {H : Heap} (hW : s.WarmedH U.vm) (h : yEx A s H) : yEx A U H := by
  refine ⟨vx_Zq.moved hW.alike h.1, vx_Zq.moved hW.alike h.2.1, fun w hw => ?_, fun q hq => ?_, yStat.moved hW.alike h.2.2.2.2⟩
  · have z := h.2.2.1 w hw
    simp only [yExW, List.mem_cons, List.not_mem_nil, or_false] at hw
    rcases hw with rfl | rfl | rfl | rfl | rfl | rfl
    · exact va_Nw.warmC hW z
    · exact va_Nw.warmC hW z
    · exact va_Nw.warmC hW z
    · exact va_Nw.warmD hW z
    · exact va_Nw.warmD hW z
    · exact va_Nw.warmD hW z
  · obtain ⟨sa, z⟩ := h.2.2.2.1 q hq
    exact ⟨sa, vk_R.warm hW z⟩
theorem yEx.same {A : Nat → Prop} {u U : State} {H : Heap} (hv : u.vm = U.vm) (h : yEx A u H) : yEx A U H := by
  have hA : u.vm.Alike U.vm := by rw [hv]; exact Vm.Alike.refl U.vm
  refine ⟨vx_Zq.moved hA h.1, vx_Zq.moved hA h.2.1, fun w hw => ?_, fun q hq => ?_, yStat.moved hA h.2.2.2.2⟩
  · have z := h.2.2.1 w hw
    simp only [yExW, List.mem_cons, List.not_mem_nil, or_false] at hw
    rcases hw with rfl | rfl | rfl | rfl | rfl | rfl <;> exact va_Nw.same rfl hv z
  · obtain ⟨sa, z⟩ := h.2.2.2.1 q hq
    exact ⟨sa, vk_R.same hv.symm z⟩
theorem yEx.kept {A : Nat → Prop} {U : State} {H H1 : Heap} (h : yEx A U H) (hq : ∀ a : Nat, a < H.size → ¬ A a → H1[a]? = H[a]?) : yEx A U H1 := ⟨vx_Zq.kept h.1 hq, vx_Zq.kept h.2.1 hq, h.2.2.1, h.2.2.2.1, h.2.2.2.2.kept hq⟩
theorem yEx.narrow {A B : Nat → Prop} {U : State} {H : Heap} (h : yEx A U H) (hAB : ∀ q, B q → A q) : yEx B U H := ⟨vx_Zq.narrow h.1 hAB, vx_Zq.narrow h.2.1 hAB, h.2.2.1, h.2.2.2.1, h.2.2.2.2.narrow hAB⟩

