/-! where results go -/
theorem ob_id {α : Type} (o : Option α) : o.bind (fun z => some z) = o := by cases o <;> rfl
theorem rF0 {u : XS} {v : MS} (h : r0 u v) : rF (some u) (some v) := ⟨u, v, rfl, rfl, Or.inl h⟩
theorem rF1 {u : XS} {v : MS} (h : r1 u v) : rF (some u) (some v) := ⟨u, v, rfl, rfl, Or.inr h⟩
theorem l_and2 (w : Int64) : (w &&& 68719476735) &&& 68719476735 = w &&& 68719476735 := by rw [Int64.and_assoc]; rfl
theorem m_set_and (v : MS) (a : Int32) (w : Int64) : m_set v a (w &&& 68719476735) = m_set v a w := by unfold m_set; rw [l_and2]
theorem m_setAc_and (v : MS) (a : Int32) (w : Int64) : m_setAc v a (w &&& 68719476735) = m_setAc v a w := by unfold m_setAc; rw [l_and2]
theorem m_keep_and (v : MS) (a b c : Int32) (w : Int64) : m_keep v a b c (w &&& 68719476735) = m_keep v a b c w := by
  unfold m_keep m_keep_12
  simp only [m_set_and, m_setAc_and]
theorem m_place_and (v : MS) (a b c : Int32) (w : Int64) : m_place v a b c (w &&& 68719476735) = m_place v a b c w := by
  unfold m_place
  simp only [m_set_and, m_setAc_and]
theorem xf_acz {u : XS} (h : ¬ X_trap u = 0) (a : Int32) (w : Int64) : x_setAccumulatorButZero u a w = some u := by
  unfold x_setAccumulatorButZero
  rw [xf_ac h]
  split <;> rfl
theorem acz_cases {u : XS} {v : MS} (h : r0 u v) {n : Nat} (hn : n < 16) {w : Int64} (hw : rW w) : ∃ u' v', r0 u' v' ∧ x_setAccumulatorButZero u (nI n) w = some u' ∧ (if nI n ≤ 0 then some v else m_setAc v (nI n) w) = some v' := by
  unfold x_setAccumulatorButZero
  rw [ob_id]
  by_cases hz : n = 0
  · subst hz
    exact ⟨u, v, h, by rw [if_pos (show nI 0 = 0 from rfl)], by rw [if_pos (show nI 0 ≤ 0 by decide)]⟩
  · obtain ⟨e1, e2⟩ := ac_cases h hn hw
    exact ⟨_, _, h.put hw n, by rw [if_neg (by rw [eq_c (by omega) 0 0 rfl (by decide)]; exact hz)]; exact e1, by rw [if_neg (by rw [le_c (by omega) 0 0 rfl (by decide)]; omega)]; exact e2⟩
theorem xf_putMoved {u : XS} (h : ¬ X_trap u = 0) (a b c : Int32) (w : Int64) : x_putMoved u a b c w = some u := by
  unfold x_putMoved
  rw [xf_write h, xf_ac h, Option.bind_some, Option.bind_some, xf_acz h]
  repeat' split
  all_goals first | rfl | trivial
theorem mf_place {v : MS} (h : ¬ M_wrong v ≤ 0) (a b c : Int32) (w : Int64) : m_place v a b c w = some v := by
  have h0 : ¬ M_wrong v = 0 := fun e => h (by rw [e]; decide)
  unfold m_place
  simp only [mf_set h, mf_ac h0, Option.bind_some]
  repeat' split
  all_goals first | rfl | trivial
theorem xf_putResult {u : XS} (h : ¬ X_trap u = 0) (a b c : Int32) (w : Int64) : x_putResult u a b c w = some u := by
  unfold x_putResult x_putResult_12
  simp only [xf_write h, xf_ac h, Option.bind_some]
  repeat' split
  all_goals first | rfl | trivial
theorem mf_keep {v : MS} (h : ¬ M_wrong v ≤ 0) (a b c : Int32) (w : Int64) : m_keep v a b c w = some v := by
  have h0 : ¬ M_wrong v = 0 := fun e => h (by rw [e]; decide)
  unfold m_keep m_keep_12
  simp only [mf_set h, mf_ac h0, Option.bind_some]
  repeat' split
  all_goals first | rfl | trivial
theorem putMoved_R {u : XS} {v : MS} (h : r0 u v) {m n : Nat} (hm : m < 4) (hn : n < 16) {e : Int32} (he : rA e) {w : Int64} (hw : rW w) : rF (x_putMoved u (nI m) (nI n) e w) (m_place v (nI m) (nI n) e w) := by
  unfold x_putMoved m_place
  simp only [ob_id]
  have a2 : ∀ z : MS, (if nI 2 = (3 : Int32) then (if nI n ≤ 0 then some z else m_setAc z (nI n) w) else some z) = some z := fun z => if_neg (by decide)
  have a3 : ∀ z : MS, (if nI 3 = (3 : Int32) then (if nI n ≤ 0 then some z else m_setAc z (nI n) w) else some z) = (if nI n ≤ 0 then some z else m_setAc z (nI n) w) := fun z => if_pos (by decide)
  rcases (show m = 0 ∨ m = 1 ∨ m = 2 ∨ m = 3 by omega) with rfl | rfl | rfl | rfl
  · rw [if_neg (show ¬ nI 0 = 2 by decide), if_neg (show ¬ nI 0 = 3 by decide), if_neg (show ¬ (2 : Int32) ≤ nI 0 by decide)]
    obtain ⟨e1, e2⟩ := ac_cases h hn hw
    rw [e1, e2]; exact rF0 (h.put hw n)
  · rw [if_neg (show ¬ nI 1 = 2 by decide), if_neg (show ¬ nI 1 = 3 by decide), if_neg (show ¬ (2 : Int32) ≤ nI 1 by decide)]
    obtain ⟨e1, e2⟩ := ac_cases h hn hw
    rw [e1, e2]; exact rF0 (h.put hw n)
  · rw [if_pos (show nI 2 = 2 from rfl), if_pos (show (2 : Int32) ≤ nI 2 by decide)]
    simp only [a2, ob_id]
    rcases write_cases h he hw with ⟨k, hk, e1, e2⟩ | ⟨e1, e2⟩
    · rw [e1, e2]; exact rF0 (h.put hw k)
    · rw [e1, e2]; exact rF1 (h.trap (Or.inr (Or.inl rfl)) (by decide))
  · rw [if_neg (show ¬ nI 3 = 2 by decide), if_pos (show nI 3 = 3 from rfl), if_pos (show (2 : Int32) ≤ nI 3 by decide)]
    simp only [a3]
    rcases write_cases h he hw with ⟨k, hk, e1, e2⟩ | ⟨e1, e2⟩
    · rw [e1, e2, Option.bind_some, Option.bind_some]
      obtain ⟨u', v', h', e3, e4⟩ := acz_cases (h.put hw k) hn hw
      rw [e3, e4]; exact rF0 h'
    · have h1 := h.trap (c := 1) (Or.inr (Or.inl rfl)) (by decide)
      rw [e1, e2, Option.bind_some, Option.bind_some, xf_acz h1.2, mf_ac h1.wrong]
      split <;> exact rF1 h1
theorem putResult_R {u : XS} {v : MS} (h : r0 u v) {m n : Nat} (hm : m < 4) (hn : n < 16) {e : Int32} (he : rA e) {w : Int64} (hw : rW w) : rF (x_putResult u (nI m) (nI n) e w) (m_keep v (nI m) (nI n) e w) := by
  unfold x_putResult m_keep x_putResult_12 m_keep_12
  simp only [ob_id]
  rcases (show m = 0 ∨ m = 1 ∨ m = 2 ∨ m = 3 by omega) with rfl | rfl | rfl | rfl
  · rw [if_pos (show nI 0 < 2 by decide), if_pos (show nI 0 ≤ 1 by decide), if_neg (show ¬ nI 0 = 2 by decide), if_neg (show ¬ nI 0 = 2 by decide)]
    obtain ⟨e1, e2⟩ := ac_cases h hn hw
    rw [e1, e2]; exact rF0 (h.put hw n)
  · rw [if_pos (show nI 1 < 2 by decide), if_pos (show nI 1 ≤ 1 by decide), if_neg (show ¬ nI 1 = 2 by decide), if_neg (show ¬ nI 1 = 2 by decide)]
    obtain ⟨e1, e2⟩ := ac_cases h hn hw
    rw [e1, e2]; exact rF0 (h.put hw n)
  · rw [if_neg (show ¬ nI 2 < 2 by decide), if_neg (show ¬ nI 2 ≤ 1 by decide)]
    have b1 : ∀ z : XS, (if nI 2 = (2 : Int32) then some z else x_setAccumulator z (nI n) w) = some z := fun z => if_pos rfl
    have b2 : ∀ z : MS, (if nI 2 = (2 : Int32) then some z else m_setAc z (nI n) w) = some z := fun z => if_pos rfl
    simp only [b1, b2, ob_id]
    rcases write_cases h he hw with ⟨k, hk, e1, e2⟩ | ⟨e1, e2⟩
    · rw [e1, e2]; exact rF0 (h.put hw k)
    · rw [e1, e2]; exact rF1 (h.trap (Or.inr (Or.inl rfl)) (by decide))
  · rw [if_neg (show ¬ nI 3 < 2 by decide), if_neg (show ¬ nI 3 ≤ 1 by decide)]
    have b1 : ∀ z : XS, (if nI 3 = (2 : Int32) then some z else x_setAccumulator z (nI n) w) = x_setAccumulator z (nI n) w := fun z => if_neg (by decide)
    have b2 : ∀ z : MS, (if nI 3 = (2 : Int32) then some z else m_setAc z (nI n) w) = m_setAc z (nI n) w := fun z => if_neg (by decide)
    simp only [b1, b2]
    rcases write_cases h he hw with ⟨k, hk, e1, e2⟩ | ⟨e1, e2⟩
    · rw [e1, e2, Option.bind_some, Option.bind_some]
      obtain ⟨e3, e4⟩ := ac_cases (h.put hw k) hn hw
      rw [e3, e4]; exact rF0 ((h.put hw k).put hw n)
    · have h1 := h.trap (c := 1) (Or.inr (Or.inl rfl)) (by decide)
      rw [e1, e2, Option.bind_some, Option.bind_some, xf_ac h1.2, mf_ac h1.wrong]
      exact rF1 h1
/-- a source: E itself, or the word at E; or trap 1 in both -/
theorem source_cases {u : XS} {v : MS} (h : r0 u v) (m : Int32) {e : Int32} (he : rA e) : (∃ w, rW w ∧ x_source u m e = some (w, u) ∧ m_source v m e = some (w, v)) ∨ (x_source u m e = some (0, X_s_trap u 1) ∧ m_source v m e = some (0, M_s_wrong v 1)) := by
  unfold x_source m_source
  by_cases hm : m = 1
  · rw [if_pos hm, if_pos hm]
    obtain ⟨k, hk, rfl⟩ := he
    exact Or.inl ⟨lN k, ⟨k, by omega, rfl⟩, by rw [nI_l (by omega)], by rw [nI_l (by omega)]⟩
  · rw [if_neg hm, if_neg hm]
    rcases read_cases h he with ⟨w, hw, e1, e2⟩ | ⟨e1, e2⟩
    · exact Or.inl ⟨w, hw, by rw [e1]; rfl, by rw [e2]; rfl⟩
    · exact Or.inr ⟨by rw [e1]; rfl, by rw [e2]; rfl⟩
theorem r0.t1 {u : XS} {v : MS} (h : r0 u v) : r1 (X_s_trap u 1) (M_s_wrong v 1) := h.trap (Or.inr (Or.inl rfl)) (by decide)
theorem r0.t2 {u : XS} {v : MS} (h : r0 u v) : r1 (X_s_trap u 2) (M_s_wrong v 2) := h.trap (Or.inr (Or.inr (Or.inl rfl))) (by decide)
/-- numbers made to fit: the lowest 36 bits, OVERFLOW if they tell another number -/
theorem fit_I (x : Int64) : ∃ n, n < 2 ^ 36 ∧ x &&& 68719476735 = lN n ∧ (n : Int) = x.toInt % 2 ^ 36 := by
  obtain ⟨k, hk, rfl⟩ := wb_of x
  refine ⟨k % 2 ^ 36, Nat.mod_lt _ (by decide), wb_mask (k := 36) hk (by decide), ?_⟩
  rw [lN_toI hk]
  split <;> omega
theorem fitted_N {u : XS} (x : Int64) : x_fitted u x = if -2 ^ 35 ≤ x.toInt ∧ x.toInt < 2 ^ 35 then some (x &&& 68719476735, u) else (x_setOverflow u).bind (fun z => some (x &&& 68719476735, z)) := by
  obtain ⟨n, hn, e, hI⟩ := fit_I x
  unfold x_fitted
  rw [nmv_eq, e]
  have h1 : lg_cmp (x_signed (lN n)) x = 0 ↔ (-2 ^ 35 ≤ x.toInt ∧ x.toInt < 2 ^ 35) := by
    rw [l_cmp_eq, ← Int64.toInt_inj, x_signed_I hn]
    unfold sg
    split <;> omega
  by_cases hc : -2 ^ 35 ≤ x.toInt ∧ x.toInt < 2 ^ 35
  · rw [if_pos (h1.mpr hc), if_pos hc]
  · rw [if_neg (fun z => hc (h1.mp z)), if_neg hc]
theorem sg_lo (n : Nat) (hn : n < 2 ^ 36) : -2 ^ 35 ≤ sg n ∧ sg n < 2 ^ 35 := by unfold sg; split <;> omega
