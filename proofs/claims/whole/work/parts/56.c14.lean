theorem rnC_in {T : Int → Int} {L lo hi bar a : Int} (hT : TL T L) (hl : 0 ≤ lo) : ((rnC T L lo hi bar a).1 = -2 ∧ (rnC T L lo hi bar a).2 = a) ∨ (lo ≤ (rnC T L lo hi bar a).1 ∧ (rnC T L lo hi bar a).1 ≤ hi ∧ (rnC T L lo hi bar a).1 ≠ bar ∧ a < (rnC T L lo hi bar a).2 ∧ (rnC T L lo hi bar a).2 ≤ L) := by
  have h := nmR_in (lo := lo) (hi := hi) (a := a) hT hl
  unfold rnC
  by_cases q : (nmR T L lo hi a).1 < 0 ∨ (nmR T L lo hi a).1 = bar
  · rw [if_pos q]; exact Or.inl ⟨rfl, rfl⟩
  · rw [if_neg q]; exact Or.inr (by omega)
