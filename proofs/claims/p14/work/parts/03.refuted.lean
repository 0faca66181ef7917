set_option maxRecDepth 100000 in
/-- THE STATEMENT IS FALSE AS IT IS WRITTEN: it allows a start from which the law does not return -/
theorem bd_refuted : ¬ Claimed_1_1 := by
  intro h
  obtain ⟨n, o, _, hr, he, _⟩ := h launch0 rfl lists_1 trivial start1.p0 start1.e0 (launch0.admits_env _ _ _) fairChoices_fair.cas fairChoices_fair.clock bd_s ⟨0, 0⟩ start1.args0 Lib.HandBits.below0 rfl bd_fits bd_heap
    ((Spec.applies_iff rfl).mpr ⟨rfl, rfl, rfl, by decide +kernel, by decide +kernel, by decide +kernel, launch0.hasRoom_least _ room_1 (by decide +kernel) (by decide +kernel) (by decide +kernel) (by decide +kernel) (by decide +kernel) (by decide +kernel), atoms_intro bd_words⟩)
    ⟨trivial, bd_rest, bd_pre⟩
  exact bd_not_ended (bd_never _ _ 120 bd_s bd_walk n hr) he
theorem bd_refuted_both : ¬ (Claimed_1_1 ∧ Claimed_1_2) := fun h => bd_refuted h.1
