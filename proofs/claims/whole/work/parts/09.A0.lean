/-! CONSTRUCTORS 00: links of the nest, arrays of references: the words that do not stand among the good ones -/
def va_AOA (ty : FieldType) (U : State) : Prop := (Cond.arrayOver (.array ty)).before #[] U = true
theorem va_AOA.of {ty : FieldType} {A : Array Value} {U : State} (h : (Cond.arrayOver (.array ty)).before A U = true) : va_AOA ty U := h
theorem va_AOA.use {ty : FieldType} {A : Array Value} {U : State} (h : va_AOA ty U) : (Cond.arrayOver (.array ty)).before A U = true := h
theorem va_AOA.moved {ty : FieldType} {u U : State} (hvm : u.vm.Alike U.vm) (h : va_AOA ty u) : va_AOA ty U := Jvm.Stand.arrayOver_alikeB hvm h
def nws : List Cond := [.methodLinkNest "WaxCloth" 9 yX10_init "WaxCloth", .methodLinkNest "WaxCloth$Reader" 9 yX2_init "WaxCloth", .methodLinkNest "WaxCloth" 27 yX2_init "WaxCloth", .methodLinkNest "WaxCloth" 34 yX4_init "WaxCloth", .methodLinkNest "WaxCloth" 49 yX8_init "WaxCloth", .methodLinkNest "WaxCloth" 52 yX5_init "WaxCloth", .methodLinkNest "WaxCloth" 59 yX0_init "WaxCloth", .methodLinkNest "WaxCloth" 66 yX1_init "WaxCloth", .methodLinkNest "WaxCloth" 73 yX7_init "WaxCloth"]
theorem nws_form : ∀ w ∈ nws, ∃ a i x h, w = .methodLinkNest a i x h := by
  intro w hw
  unfold nws at hw
  simp only [List.mem_cons, List.not_mem_nil, or_false] at hw
  rcases hw with rfl | rfl | rfl | rfl | rfl | rfl | rfl | rfl | rfl <;> exact ⟨_, _, _, _, rfl⟩
def kNs (U : State) : Prop := (∀ w ∈ nws, va_Nw w U) ∧ va_AO "WaxCloth$Cloth" U ∧ va_AO "WaxCloth$Sheet" U ∧ va_AOA .int U
theorem kNs.warm {s U : State} (hW : s.WarmedH U.vm) (h : kNs s) : kNs U := by
  refine ⟨fun w hw => ?_, h.2.1.moved hW.alike, h.2.2.1.moved hW.alike, h.2.2.2.moved hW.alike⟩
  obtain ⟨a, i, x, y, rfl⟩ := nws_form w hw
  exact va_Nw.warmM hW (h.1 _ hw)
theorem kNs.call {U : State} {g : JFrame} {mk : MethodId} {a : Array Value} (h : kNs U) : kNs (U.calling g mk a) := by
  refine ⟨fun w hw => ?_, h.2.1.moved (Vm.Alike.refl U.vm), h.2.2.1.moved (Vm.Alike.refl U.vm), h.2.2.2.moved (Vm.Alike.refl U.vm)⟩
  obtain ⟨b, i, x, y, rfl⟩ := nws_form w hw
  exact va_Nw.same rfl rfl (h.1 _ hw)
