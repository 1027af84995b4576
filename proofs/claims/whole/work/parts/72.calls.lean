/-! the calls -/
theorem run_loop {n : Nat} (hn : n ≤ 100) : ∀ (j k md : Nat) (u : XS) (v : MS), md + j = n → j + 1 ≤ k → rC u v → ∃ r u' v', x_run_15 (nI n) k u (nI md) = some (r, u') ∧ m_run_15 (nI n) k v (nI md) = some (r, v') ∧ rC u' v' := by
  intro j
  induction j with
  | zero =>
    intro k md u v h1 h2 h
    obtain ⟨k, rfl⟩ : ∃ q, k = q + 1 := ⟨k - 1, by omega⟩
    rw [x_run_15, m_run_15, if_pos (show nI n ≤ nI md by rw [nI_leI (by omega) (by omega)]; omega), if_pos (show nI n ≤ nI md by rw [nI_leI (by omega) (by omega)]; omega)]
    exact ⟨_, _, _, rfl, rfl, h⟩
  | succ j IH =>
    intro k md u v h1 h2 h
    obtain ⟨k, rfl⟩ : ∃ q, k = q + 1 := ⟨k - 1, by omega⟩
    have nn : ¬ nI n ≤ nI md := by rw [nI_leI (by omega) (by omega)]; omega
    have es : M_stopped v = X_stopped u := h.1.2.2.2.2.2.2.2.2.2.1
    rw [x_run_15, m_run_15, if_neg nn, if_neg nn, es]
    by_cases c : X_stopped u = 0
    · rw [if_pos c, if_pos c]
      obtain ⟨u', v', f1, f2, h'⟩ := step_R h c
      rw [f1, f2, Option.bind_some, Option.bind_some, show nI md + Int32.ofInt 1 = nI (md + 1) from nI_1 md]
      exact IH k (md + 1) u' v' (by omega) (by omega) h'
    · rw [if_neg c, if_neg c]
      exact ⟨_, _, _, rfl, rfl, h⟩
theorem run_R {u : XS} {v : MS} (h : rC u v) (a : Int32) : ∃ r u' v', x_run u a = some (r, u') ∧ m_run v a = some (r, v') ∧ rC u' v' := by
  unfold x_run m_run
  by_cases c1 : a < 1
  · rw [if_pos c1, if_pos c1]; exact ⟨_, _, _, rfl, rfl, h⟩
  · rw [if_neg c1, if_neg c1]
    by_cases c2 : a ≤ 100
    · rw [if_pos c2, if_pos c2]
      have h0 : ¬ a < 0 := fun z => c1 (Int32.lt_trans z (by decide))
      obtain ⟨n, hn, rfl⟩ := nI_of h0
      rw [le_c hn 100 100 rfl (by decide)] at c2
      exact run_loop c2 n 101 0 u v (by omega) (by omega) h
    · rw [if_neg c2, if_neg c2]; exact ⟨_, _, _, rfl, rfl, h⟩
theorem place_c (a : Int32) : (x_isPlace a = 0 ∧ (a < 0 ∨ ¬ a ≤ 1023)) ∨ (∃ n, n < 1024 ∧ a = nI n) := by
  by_cases c : a < 0
  · left; unfold x_isPlace; rw [if_pos c]; exact ⟨rfl, Or.inl c⟩
  · obtain ⟨n, hn, rfl⟩ := nI_of c
    by_cases d : n < 1024
    · right; exact ⟨n, d, rfl⟩
    · left; rw [isPlace_N hn, if_neg d]
      exact ⟨rfl, Or.inr (by rw [le_c hn 1023 1023 rfl (by decide)]; omega)⟩
theorem rC.words {u : XS} {v : MS} (h : rC u v) : M_store v = X_words u := h.1.2.2.1
theorem rC.w {u : XS} {v : MS} (h : rC u v) (n : Nat) : rW (X_words u n) := h.1.1.1 n
theorem deposit_R {u : XS} {v : MS} (h : rC u v) (a : Int32) (w : Int64) : ∃ r u' v', x_deposit u a w = some (r, u') ∧ m_deposit v a w = some (r, v') ∧ rC u' v' := by
  unfold x_deposit m_deposit
  rcases place_c a with ⟨e1, e2⟩ | ⟨n, hn, rfl⟩
  · rw [if_pos e1]
    have : (if a < 0 then some ((0 : Int32), v) else if a ≤ 1023 then (if a < 0 ∨ 1024 ≤ a.toNatClampNeg then none else some ((1 : Int32), M_s_store v (vp_updL (M_store v) a.toNatClampNeg (w &&& 68719476735)))) else some (0, v)) = some (0, v) := by
      rcases e2 with e2 | e2
      · rw [if_pos e2]
      · rw [if_neg e2]; split <;> rfl
    rw [this]; exact ⟨_, _, _, rfl, rfl, h⟩
  · rw [isPlace_N (by omega), if_pos hn, if_neg (show ¬ (1 : Int32) = 0 by decide), if_neg (in_idx hn), if_neg (neg_c (show n < 2 ^ 31 by omega)), if_pos (show nI n ≤ 1023 by rw [le_c (by omega) 1023 1023 rfl (by decide)]; omega), if_neg (in_idx hn), nI_clamp (by omega), h.words]
    refine ⟨_, _, _, rfl, rfl, ?_⟩
    have hp := h.put (w := w &&& 68719476735) (and_W w) n
    exact hp
theorem examine_R {u : XS} {v : MS} (h : rC u v) (a : Int32) : ∃ r, x_examine u a = some (r, u) ∧ m_examine v a = some (r, v) := by
  unfold x_examine m_examine
  rcases place_c a with ⟨e1, e2⟩ | ⟨n, hn, rfl⟩
  · rw [if_pos e1]
    refine ⟨_, rfl, ?_⟩
    rcases e2 with e2 | e2
    · rw [if_pos e2]
    · rw [if_neg e2]; split <;> rfl
  · rw [isPlace_N (by omega), if_pos hn, if_neg (show ¬ (1 : Int32) = 0 by decide), if_neg (in_idx hn), if_neg (neg_c (show n < 2 ^ 31 by omega)), if_pos (show nI n ≤ 1023 by rw [le_c (by omega) 1023 1023 rfl (by decide)]; omega), if_neg (in_idx hn), h.words]
    exact ⟨_, rfl, rfl⟩
theorem number_R {u : XS} {v : MS} (h : rC u v) (a : Int32) : ∃ r, x_number u a = some (r, u) ∧ m_number v a = some (r, v) := by
  unfold x_number m_number
  rcases place_c a with ⟨e1, e2⟩ | ⟨n, hn, rfl⟩
  · rw [if_pos e1]
    refine ⟨_, rfl, ?_⟩
    rcases e2 with e2 | e2
    · rw [if_pos e2]
    · rw [if_neg e2]; split <;> rfl
  · rw [isPlace_N (by omega), if_pos hn, if_neg (show ¬ (1 : Int32) = 0 by decide), if_neg (in_idx hn), if_neg (neg_c (show n < 2 ^ 31 by omega)), if_pos (show nI n ≤ 1023 by rw [le_c (by omega) 1023 1023 rfl (by decide)]; omega), if_neg (in_idx hn), h.words]
    obtain ⟨k, hk, ek⟩ := h.w (nI n).toNatClampNeg
    rw [ek, num_eq hk]
    exact ⟨_, rfl, rfl⟩
theorem ext_c (a : Int32) : (x_isExtent a = 0 ∧ (a < 0 ∨ 1024 < a)) ∨ (¬ x_isExtent a = 0 ∧ ¬ a < 0 ∧ ¬ 1024 < a ∧ a ≤ 1024 ∧ rE a) := by
  unfold x_isExtent
  by_cases c : a < 0
  · left; rw [if_pos c]; exact ⟨rfl, Or.inl c⟩
  · rw [if_neg c]
    by_cases d : 1024 < a
    · left; rw [if_pos d]; exact ⟨rfl, Or.inr d⟩
    · right; rw [if_neg d]
      obtain ⟨n, hn, rfl⟩ := nI_of c
      rw [gt_c hn 1024 1024 rfl (by decide)] at d
      refine ⟨by decide, c, by rw [gt_c hn 1024 1024 rfl (by decide)]; exact d, by rw [le_c hn 1024 1024 rfl (by decide)]; omega, n, by omega, rfl⟩
theorem segment_R {u : XS} {v : MS} (h : rC u v) (a b c : Int32) : ∃ r u' v', x_segment u a b c = some (r, u') ∧ m_segment v a b c = some (r, v') ∧ rC u' v' := by
  unfold x_segment m_segment
  by_cases c1 : a < 0
  · rw [if_pos c1, if_pos c1]; exact ⟨_, _, _, rfl, rfl, h⟩
  rw [if_neg c1, if_neg c1]
  by_cases c2 : (1 : Int32) < a
  · rw [if_pos c2, if_pos c2]; exact ⟨_, _, _, rfl, rfl, h⟩
  rw [if_neg c2, if_neg c2]
  rcases ext_c b with ⟨b1, b2⟩ | ⟨b1, b2, b3, b4, b5⟩
  · rw [if_pos b1]
    refine ⟨_, _, v, rfl, ?_, h⟩
    rcases b2 with b2 | b2
    · rw [if_pos b2]
    · rw [if_pos b2]; split <;> rfl
  rw [if_neg b1, if_neg b2, if_neg b3]
  rcases ext_c c with ⟨d1, d2⟩ | ⟨d1, d2, d3, d4, d5⟩
  · rw [if_pos d1]
    refine ⟨_, _, v, rfl, ?_, h⟩
    rcases d2 with d2 | d2
    · rw [if_pos d2]
    · rw [if_neg (show ¬ c ≤ 1024 from Int32.not_le.mpr d2)]; split <;> rfl
  rw [if_neg d1, if_neg d2, if_pos d4]
  obtain ⟨n, hn, rfl⟩ := nI_of c1
  rw [gt_c hn 1 1 rfl (by decide)] at c2
  obtain ⟨⟨⟨i1, i2, i3, i4, i5, i6, i7⟩, t1, g1, g2, g3, g4, g5, g6⟩, r⟩ := h
  rcases (show n = 0 ∨ n = 1 by omega) with rfl | rfl
  · have i0 : ¬ (nI 0 < 0 ∨ 2 ≤ (nI 0).toNatClampNeg) := by decide
    rw [if_pos (show nI 0 = 0 from rfl), if_neg i0, if_neg i0]
    refine ⟨_, _, _, rfl, rfl, ⟨⟨⟨i1, b5, d5, i4, i5, i6, i7⟩, t1, g1, rfl, g3, rfl, g5, g6⟩, r⟩⟩
  · have i0 : ¬ (nI 1 < 0 ∨ 2 ≤ (nI 1).toNatClampNeg) := by decide
    rw [if_neg (show ¬ nI 1 = 0 by decide), if_neg i0, if_neg i0]
    refine ⟨_, _, _, rfl, rfl, ⟨⟨⟨i1, i2, i3, b5, d5, i6, i7⟩, t1, g1, g2, rfl, g4, rfl, g6⟩, r⟩⟩
theorem start_R {u : XS} {v : MS} (h : rC u v) (a b : Int32) (hb : b = 0 ∨ b = 1) : ∃ u' v', x_start u a b = some u' ∧ m_start v a b = some v' ∧ rC u' v' := by
  unfold x_start m_start
  rw [if_neg (fun z => z hb), if_neg (fun z => z hb)]
  refine ⟨_, _, rfl, rfl, ?_⟩
  obtain ⟨⟨⟨i1, i2, i3, i4, i5, i6, i7⟩, t1, g1, g2, g3, g4, g5, g6, g7, g8, g9⟩, r1, r2, r3, r4⟩ := h
  obtain ⟨k, hk, ek⟩ := wb_of32 a
  have hA : rA (a &&& 262143) := ⟨k % 262144, Nat.mod_lt _ (by decide), by rw [ek, n_and18]⟩
  exact ⟨⟨⟨i1, i2, i3, i4, i5, hb, Or.inl rfl⟩, t1, g1, g2, g3, g4, g5, rfl, rfl, rfl, g9⟩, r1, rfl, hA, r4⟩
theorem look_R {u : XS} {v : MS} (h : rC u v) (a : Int32) : x_look u a = m_look v a := by
  have e1 : M_pc v = X_pc u := h.2.2.1
  obtain ⟨⟨-, -, -, -, -, -, -, g6, g7, g8, g9, g10, g11, -⟩, -⟩ := h
  have a6 : M_user v = X_user u := g6
  have a7 : M_overflow v = X_overflow u := g7
  have a8 : M_stopped v = X_stopped u := g8
  have a9 : M_steps v = X_steps u := g9
  have a10 : M_traps v = X_traps u := g10
  have a11 : M_latest v = X_latestTrap u := g11
  unfold x_look m_look
  rw [e1, a6, a7, a8, a9, a10, a11]
  by_cases c3 : (3 : Int32) ≤ a
  · rw [if_pos c3]
    have n0 : ¬ a = 0 := fun z => by rw [z] at c3; exact absurd c3 (by decide)
    have n1 : ¬ a = 1 := fun z => by rw [z] at c3; exact absurd c3 (by decide)
    have n2 : ¬ a = 2 := fun z => by rw [z] at c3; exact absurd c3 (by decide)
    rw [if_neg n0, if_neg n1, if_neg n2]
  · rw [if_neg c3]
    have n3 : ¬ a = 3 := fun z => c3 (by rw [z]; decide)
    have n4 : ¬ a = 4 := fun z => c3 (by rw [z]; decide)
    have n5 : ¬ a = 5 := fun z => c3 (by rw [z]; decide)
    have n6 : ¬ a = 6 := fun z => c3 (by rw [z]; decide)
    rw [if_neg n3, if_neg n4, if_neg n5, if_neg n6]
theorem start_0 : rC X0 M0 := ⟨⟨⟨fun n => ⟨0, by decide, rfl⟩, ⟨0, by decide, rfl⟩, ⟨0, by decide, rfl⟩, ⟨0, by decide, rfl⟩, ⟨0, by decide, rfl⟩, Or.inl rfl, Or.inl rfl⟩, Or.inl rfl, rfl, rfl, rfl, rfl, rfl, rfl, rfl, rfl, rfl, rfl, rfl, rfl⟩, rfl, rfl, ⟨0, by decide, rfl⟩, rfl, 0, by decide, rfl⟩
