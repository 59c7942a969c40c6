theorem law_len : ∀ j, j < 15 → st_len.getD j 0 = (q_wl.getD j []).length ∧ (q_wl.getD j []).length < 1000 := by decide +kernel
theorem law_byt : ∀ j, j < 15 → ∀ i, i < st_len.getD j 0 → (st_byt.getD j []).getD i 0 &&& 255 = nI ((q_wl.getD j []).getD i 0) := by decide +kernel
theorem law_ok : law_pure := by
  intro E b L xs hL hs
  obtain ⟨s1, s2, s3, s4, s5, s6, s7⟩ := hs
  have hSt : sStr E := by
    intro j hj
    obtain ⟨a, v, f, g, e1, e2, e3, e4, e5, e6, e7, e8⟩ := s5 j hj
    obtain ⟨l1, l2⟩ := law_len j hj
    refine ⟨a, e1, s2, s3, e3, l2, f, v, g, e2, e4, e5, e6, by rw [← l1]; exact e7, fun i hi => ?_⟩
    rw [e8 i (by rw [l1]; exact hi)]
    exact law_byt j hj i (by rw [l1]; exact hi)
  obtain ⟨f, r, h', e, q1, q2, q3⟩ := law_go ⟨s1, s4⟩ hSt ⟨s6, s7, hL⟩
  subst q1
  exact ⟨f, h', e, q2, q3⟩
