/-! THE START 2: the picture whole; the invariant -/
set_option maxRecDepth 20000
theorem gw_start (Y : kX) (h0 h1 : Nat) (q q' : Nat → Nat) (z : Nat) : gw (X0 Y h0 h1 q q' z) σ00 = W_X11 Y h0 q ++ W_X12 Y h1 q' := by
  unfold gw
  rw [show List.range NC = [0, 1, 2, 3, 4, 5, 6, 7, 8, 9, 10, 11, 12, 13, 14, 15, 16, 17, 18, 19, 20, 21, 22, 23, 24, 25, 26, 27, 28, 29, 30, 31, 32, 33, 34, 35, 36, 37, 38, 39, 40, 41, 42, 43, 44, 45, 46, 47, 48, 49, 50, 51, 52, 53, 54, 55, 56, 57, 58, 59, 60, 61, 62, 63, 64, 65, 66, 67, 68, 69, 70, 71, 72, 73, 74, 75, 76, 77, 78, 79, 80, 81, 82, 83, 84, 85, 86, 87, 88, 89, 90, 91, 92, 93, 94, 95, 96, 97] from rfl]
  simp only [List.map_cons, List.map_nil]
  rw [ge_0, ge_1, ge_2, ge_3, ge_4, ge_5, ge_6, ge_7, ge_8, ge_9, ge_10, ge_11, ge_12, ge_13, ge_14, ge_15, ge_16, ge_17, ge_18, ge_19, ge_20, ge_21, ge_22, ge_23, ge_24, ge_25, ge_26, ge_27, ge_28, ge_29, ge_30, ge_31, ge_32, ge_33, ge_34, ge_35, ge_36, ge_37, ge_38, ge_39, ge_40, ge_41, ge_42, ge_43, ge_44, ge_45, ge_46, ge_47, ge_48, ge_49, ge_50, ge_51, ge_52, ge_53, ge_54, ge_55, ge_56, ge_57, ge_58, ge_59, ge_60, ge_61, ge_62, ge_63, ge_64, ge_65, ge_66, ge_67, ge_68, ge_69, ge_70, ge_71, ge_72, ge_73, ge_74, ge_75, ge_76, ge_77, ge_78, ge_79, ge_80, ge_81, ge_82, ge_83, ge_84, ge_85, ge_86, ge_87, ge_88, ge_89, ge_90, ge_91, ge_92, ge_93, ge_94, ge_95, ge_96, ge_97]
  rfl
theorem inv_start : Inv σ00 := by
  have z0 : ∀ c, (c ≠ 56 ∧ c ≠ 58 ∧ c ≠ 60 ∧ c ≠ 62 ∧ c ≠ 92) → ∀ k, σ00.1 c k = 0 := fun c h k => by rw [σ00_0 h]
  refine ⟨⟨(0, 0, 0, fun _ => 0, fun _ => 0, fun _ => 0), fun _ => 0, fun _ => (0, 0, 0, 0), 0, ?_, ?_⟩, fun k hk => Or.inl ⟨z0 _ (by omega) _, z0 _ (by decide) _⟩, ⟨0, by decide, z0 _ (by decide) _, z0 _ (by decide) _, fun j hj => absurd hj (by omega)⟩, ⟨fun j _ => z0 _ (by decide) _, z0 _ (by decide) _⟩, fun s hs => Or.inl ⟨?_, ?_⟩⟩
  · refine ⟨⟨by decide, by decide, by decide, by decide, by decide, fun i hi => absurd hi (by show ¬ i < 0; omega), fun _ => by show 0 ≤ 3; omega, fun _ => by show 0 < 256; omega⟩, ⟨z0 _ (by decide) _, z0 _ (by decide) _, z0 _ (by decide) _, fun i hi => absurd hi (by show ¬ i < 0; omega), fun i hi => absurd hi (by show ¬ i < 3 * 0; omega), fun i hi => absurd hi (by show ¬ i < 0; omega)⟩, fun i hi => absurd hi (by show ¬ i < 0; omega), fun i hi => absurd hi (by show ¬ i < 0; omega), ⟨z0 _ (by decide) _, z0 _ (by decide) _, z0 _ (by decide) _, fun i hi => absurd hi (by show ¬ i < 0; omega), fun i hi => absurd hi (by show ¬ i < 3 * 0; omega), fun i hi => absurd hi (by show ¬ i < 0; omega)⟩, fun i hi => absurd hi (by show ¬ i < 0; omega), fun i hi => absurd hi (by show ¬ i < 0; omega), z0 _ (by decide) _, z0 _ (by decide) _, by decide⟩
  · exact ⟨0, 0, by decide, by decide, by decide, z0 _ (by decide) _, z0 _ (by decide) _, z0 _ (by decide) _, fun _ _ => (0, 0, 0, 0), fun j hj => absurd hj (by omega)⟩
  · have : s = 0 ∨ s = 1 ∨ s = 2 ∨ s = 3 := by omega
    rcases this with rfl | rfl | rfl | rfl <;> rfl
  · have : s = 0 ∨ s = 1 ∨ s = 2 ∨ s = 3 := by omega
    rw [σ00_92]
    rcases this with rfl | rfl | rfl | rfl <;> rfl
