/-! exchange, block, jumps, halves -/
theorem exch_R {u : XS} {v : MS} (h : r0 u v) {n : Nat} (hn : n < 16) {e : Int32} (he : rA e) : rF (x_exchangeOrJump u (nI 168) (nI n) e) (m_flow v (nI 168) (nI n) e) := by
  have hi := x_ac hn
  rw [nI_clamp (by omega)] at hi
  have ef : m_flow v (nI 168) (nI n) e = (m_get v e).bind (fun z122 => (m_set z122.2 e (M_store v n)).bind (fun z131 => m_setAc z131 (nI n) z122.1)) := by
    unfold m_flow; rw [if_neg (x_ac hn), nmv_eq, nI_clamp (by omega)]; simp only [ob_id]; rfl
  have ex : x_exchangeOrJump u (nI 168) (nI n) e = (x_read u e).bind (fun z2 => (x_write z2.2 e (X_words z2.2 n)).bind (fun z14 => x_setAccumulator z14 (nI n) z2.1)) := by
    have : x_exchangeOrJump u (nI 168) (nI n) e = (x_exchange u (nI n) e).bind (fun z39 => some z39) := rfl
    rw [this, ob_id]
    unfold x_exchange
    simp only [ob_id]
    congr 1
    funext z
    rw [if_neg (x_ac hn), nI_clamp (by omega)]
  rw [ef, ex, h.words]
  rcases read_cases h he with ⟨w, hw, e1, e2⟩ | ⟨e1, e2⟩
  · rw [e1, e2, Option.bind_some, Option.bind_some]
    exact rF.bind (write_R (Or.inl h) (fun _ => ⟨rfl, he, rfl, h.w n⟩)) (fun u2 v2 hr => acW_R hr hn hw)
  · rw [e1, e2, Option.bind_some, Option.bind_some]
    refine rF.bind (write_R (Or.inr h.t1) (fun z => absurd z.2.1 h.t1.2)) (fun u2 v2 hr => ?_)
    exact acW_R hr hn ⟨0, by decide, rfl⟩
theorem half_jump {u : XS} {v : MS} (h : r0 u v) {op n : Nat} (ho : op = 170 ∨ op = 171) (hn : n < 16) {e : Int32} (he : rA e) : rF (x_exchangeOrJump u (nI op) (nI n) e) (m_flow v (nI op) (nI n) e) := by
  have hi := x_ac hn
  rw [nI_clamp (by omega)] at hi
  obtain ⟨k, hk, ek⟩ := h.w n
  obtain ⟨f1, f2, h'⟩ := moveH h hn hk ek (c := 1) (d := 1) rfl
  have hl := hv_lt k 1
  have ew : X_words (X_s_words u (vp_updL (X_words u) n (lN (hv k 1)))) n = lN (hv k 1) := upd_at _ _ _
  have em : M_store (M_s_store v (vp_updL (X_words u) n (lN (hv k 1)))) n = lN (hv k 1) := upd_at _ _ _
  have sI := x_signed_I hl
  have wI : (lN (hv k 1)).toInt = (hv k 1 : Int) := lN_pos (by omega)
  have c1 : lg_cmp (x_signed (lN (hv k 1))) 0 < 0 ↔ ¬ (hv k 1 : Int) < 34359738368 := by rw [l_cmp_lt, sI, k0_I]; unfold sg; split <;> omega
  have c2 : 0 ≤ lg_cmp (x_signed (lN (hv k 1))) 0 ↔ (hv k 1 : Int) < 34359738368 := by rw [l_cmp_ge, sI, k0_I]; unfold sg; split <;> omega
  have c3 : lg_cmp (lN (hv k 1)) 34359738368 < 0 ↔ (hv k 1 : Int) < 34359738368 := by rw [l_cmp_lt, wI, top_I]
  have ef : m_flow v (nI op) (nI n) e = if (hv k 1 : Int) < 34359738368 then m_flow_199 (nI op) (nI n) e (M_s_store v (vp_updL (X_words u) n (lN (hv k 1)))) 0 else m_flow_199 (nI op) (nI n) e (M_s_store v (vp_updL (X_words u) n (lN (hv k 1)))) 1 := by
    have : m_flow v (nI op) (nI n) e = (m_setAc v (nI n) (m_joined (m_left (M_store v n) + 1) (m_right (M_store v n) + 1))).bind (fun z177 => if lg_cmp (M_store z177 n) 34359738368 < 0 then m_flow_199 (nI op) (nI n) e z177 0 else m_flow_199 (nI op) (nI n) e z177 1) := by
      unfold m_flow
      rw [if_neg (x_ac hn), nmv_eq, nI_clamp (by omega)]
      rcases ho with rfl | rfl
      · simp only [if_neg hi]; rfl
      · simp only [if_neg hi]; rfl
    rw [this, h.words, ek, m_hv hk (m_left1 hk) (m_right1 hk), f2, Option.bind_some, em]
    by_cases c : (hv k 1 : Int) < 34359738368
    · rw [if_pos (c3.mpr c), if_pos c]
    · rw [if_neg (mt c3.mp c), if_neg c]
  rw [ef]
  unfold m_flow_199 m_flow_211 m_flow_219
  simp only [ob_id]
  rcases ho with rfl | rfl
  · have ex : x_exchangeOrJump u (nI 170) (nI n) e = (x_moveHalves u (nI n) 1).bind (fun z53 => if nI n < 0 ∨ 1024 ≤ (nI n).toNatClampNeg then none else if lg_cmp (x_signed (X_words z53 (nI n).toNatClampNeg)) 0 < 0 then x_exchangeOrJump_76 (nI 170) (nI n) e z53 0 else x_exchangeOrJump_76 (nI 170) (nI n) e z53 1) := rfl
    rw [ex, f1, Option.bind_some, if_neg (x_ac hn), nI_clamp (by omega), ew]
    unfold x_exchangeOrJump_76
    rw [ob_id, ob_id]
    by_cases c : (hv k 1 : Int) < 34359738368
    · rw [if_neg (fun z => (c1.mp z) c), if_pos c, if_neg (show ¬ nI 170 = 171 by decide)]
      exact jump_R (Or.inl h') (fun _ => rfl) he
    · rw [if_pos (c1.mpr c), if_neg c, if_neg (show ¬ nI 170 = 171 by decide)]
      exact jump_R (Or.inl h') (fun _ => rfl) he
  · have ex : x_exchangeOrJump u (nI 171) (nI n) e = (x_moveHalves u (nI n) 1).bind (fun z84 => if nI n < 0 ∨ 1024 ≤ (nI n).toNatClampNeg then none else if 0 ≤ lg_cmp (x_signed (X_words z84 (nI n).toNatClampNeg)) 0 then x_exchangeOrJump_107 (nI 171) (nI n) e z84 0 else x_exchangeOrJump_107 (nI 171) (nI n) e z84 1) := rfl
    rw [ex, f1, Option.bind_some, if_neg (x_ac hn), nI_clamp (by omega), ew]
    unfold x_exchangeOrJump_107
    rw [ob_id, ob_id]
    by_cases c : (hv k 1 : Int) < 34359738368
    · rw [if_pos (c2.mpr c), if_pos c, if_pos (show nI 171 = 171 from rfl)]
      exact jump_R (Or.inl h') (fun _ => rfl) he
    · rw [if_neg (mt c2.mp c), if_neg c, if_pos (show nI 171 = 171 from rfl)]
      exact jump_R (Or.inl h') (fun _ => rfl) he
theorem r0.stop {u : XS} {v : MS} (h : r0 u v) (b : Int32) : r0 (X_s_stopped u b) (M_s_stopped v b) := ⟨h.1.stopped b, h.2⟩
theorem r0.usr {u : XS} {v : MS} (h : r0 u v) {b : Int32} (hb : rB b) : r0 (X_s_user u b) (M_s_user v b) := ⟨h.1.user hb, h.2⟩
/-- JRST -/
theorem jrst_R {u : XS} {v : MS} (h : r0 u v) (hst : X_stopped u = 0) {n : Nat} (hn : n < 16) {e : Int32} (he : rA e) : rF (x_exchangeOrJump u (nI 172) (nI n) e) (m_flow v (nI 172) (nI n) e) := by
  have ef : m_flow v (nI 172) (nI n) e = m_jump v (nI n) e := by unfold m_flow; rw [if_neg (x_ac hn), nmv_eq]; simp only [ob_id]; rfl
  have ex : x_exchangeOrJump u (nI 172) (nI n) e = x_jumpByAccumulator u (nI n) e := by
    have : x_exchangeOrJump u (nI 172) (nI n) e = (x_jumpByAccumulator u (nI n) e).bind (fun z115 => some z115) := rfl
    rw [this, ob_id]
  rw [ef, ex]
  unfold x_jumpByAccumulator m_jump x_jumpByAccumulator_55 m_jump_17
  simp only [ob_id]
  have g1 := m_go_0 h.wrong he
  have hj := h.jump he
  have ub : rB (X_user u) := h.1.1.2.2.2.2.2.1
  have eu : M_user v = X_user u := h.user
  -- where the reference sets user and stopped anew
  have j46 : ∀ (t : Int32), (t = 0 ∨ t = 1) → m_jump_46 (nI n) e (M_s_pc v e) t = if n = 4 then some (M_s_stopped (M_s_user (M_s_pc v e) t) 1) else some (M_s_stopped (M_s_user (M_s_pc v e) t) 0) := by
    intro t ht
    unfold m_jump_46 m_jump_60
    rw [if_neg (fun z => z ht)]
    by_cases h4 : n = 4
    · rw [if_pos h4, if_pos (by rw [h4]; rfl), if_neg (fun z => z (Or.inr rfl))]
    · rw [if_neg h4, if_neg (by rw [eq_c (by omega) 4 4 rfl (by decide)]; exact h4), if_neg (fun z => z (Or.inl rfl))]
  have same : r0 (X_s_pc u e) (M_s_stopped (M_s_user (M_s_pc v e) (X_user u)) 0) := by
    have := (hj.usr ub).stop 0
    have e1 : X_s_stopped (X_s_user (X_s_pc u e) (X_user u)) 0 = X_s_pc u e := by
      show _ = _
      have : X_s_stopped (X_s_user (X_s_pc u e) (X_user u)) (X_stopped u) = X_s_pc u e := rfl
      rw [hst] at this; exact this
    rw [e1] at this
    exact this
  have j23 : m_jump_23 (nI n) e v = if X_user u = 0 then (if n = 1 then m_jump_46 (nI n) e (M_s_pc v e) 1 else m_jump_46 (nI n) e (M_s_pc v e) 0) else m_jump_46 (nI n) e (M_s_pc v e) 1 := by
    unfold m_jump_23 m_jump_41
    rw [g1, Option.bind_some]
    have e2 : M_user (M_s_pc v e) = X_user u := eu
    rw [e2]
    by_cases h1 : n = 1
    · rw [if_pos h1, if_pos (show nI n = 1 by rw [h1]; rfl)]
    · rw [if_neg h1, if_neg (show ¬ nI n = 1 by rw [eq_c (by omega) 1 1 rfl (by decide)]; exact h1)]
  by_cases hn0 : n = 0
  · subst hn0
    rw [if_pos (show nI 0 = 0 from rfl), if_pos (show nI 0 ≤ 1 by decide), j23]
    by_cases hu : X_user u = 0
    · rw [if_pos hu, if_neg (show ¬ 0 = 1 by decide), j46 0 (Or.inl rfl), if_neg (show ¬ 0 = 4 by decide)]
      rw [hu] at same; exact rF0 same
    · rw [if_neg hu, j46 1 (Or.inr rfl), if_neg (show ¬ 0 = 4 by decide)]
      rw [ub.resolve_left hu] at same; exact rF0 same
  · rw [if_neg (show ¬ nI n = 0 by rw [eq_c (by omega) 0 0 rfl (by decide)]; exact hn0)]
    by_cases hn1 : n = 1
    · subst hn1
      rw [if_pos (show nI 1 = 1 from rfl), if_pos (show nI 1 ≤ 1 by decide), j23, if_pos (show 1 = 1 from rfl), j46 1 (Or.inr rfl), if_neg (show ¬ 1 = 4 by decide)]
      have : r0 (X_s_user (X_s_pc u e) 1) (M_s_stopped (M_s_user (M_s_pc v e) 1) 0) := by
        have hq := (hj.usr (b := 1) (Or.inr rfl)).stop 0
        have e1 : X_s_stopped (X_s_user (X_s_pc u e) 1) 0 = X_s_user (X_s_pc u e) 1 := by
          have : X_s_stopped (X_s_user (X_s_pc u e) 1) (X_stopped u) = X_s_user (X_s_pc u e) 1 := rfl
          rw [hst] at this; exact this
        rw [e1] at hq; exact hq
      split <;> exact rF0 this
    · rw [if_neg (show ¬ nI n = 1 by rw [eq_c (by omega) 1 1 rfl (by decide)]; exact hn1), if_neg (show ¬ nI n ≤ 1 by rw [le_c (by omega) 1 1 rfl (by decide)]; omega), eu]
      have tr : rF (x_raise u 2) (m_fail v 2) := by rw [x_raise_0 h.2.1, fail_0 h.wrong]; exact rF1 h.t2
      by_cases hn4 : n = 4
      · subst hn4
        rw [if_pos (show nI 4 = 4 from rfl), if_pos (show nI 4 = 4 from rfl)]
        by_cases hu : X_user u = 0
        · rw [if_pos hu, if_pos hu, j23, if_pos hu, if_neg (show ¬ 4 = 1 by decide), j46 0 (Or.inl rfl), if_pos (show 4 = 4 from rfl)]
          have hq := (hj.usr (b := 0) (Or.inl rfl)).stop 1
          have e1 : X_s_stopped (X_s_user (X_s_pc u e) 0) 1 = X_s_stopped (X_s_pc u e) 1 := by
            have : X_s_stopped (X_s_user (X_s_pc u e) (X_user u)) 1 = X_s_stopped (X_s_pc u e) 1 := rfl
            rw [hu] at this; exact this
          rw [e1] at hq
          exact rF0 hq
        · rw [if_neg hu, if_neg hu]; exact tr
      · have n4 : ¬ nI n = 4 := by rw [eq_c (by omega) 4 4 rfl (by decide)]; exact hn4
        rw [if_neg n4, if_neg n4]; exact tr
-- BLOCK
theorem block_loop (a b a' b' : Int32) {frm to e : Nat} (hf : frm < 262144) (ht : to < 262144) (he : e < 262144) : ∀ (r k k' i : Nat) (u : XS) (v : MS), 1 ≤ i → i ≤ 262145 → e - (to + i - 1) ≤ r → r + 1 ≤ k → r + 1 ≤ k' → rR u v → rF (x_block_36 a b k u (nI frm) (nI to) (nI (e - to + 1)) (nI i)) (m_block_18 a' b' (nI e) k' v (nI ((frm + i - 1) % 262144)) (nI (to + i - 1))) := by
  intro r
  induction r with
  | zero =>
    intro k k' i u v h1 hi2 h2 hk hk' hr
    obtain ⟨k, rfl⟩ : ∃ q, k = q + 1 := ⟨k - 1, by omega⟩
    obtain ⟨k', rfl⟩ : ∃ q, k' = q + 1 := ⟨k' - 1, by omega⟩
    rw [x_block_36, m_block_18, if_pos (by rw [nI_leI (by omega) (by omega)]; omega), if_pos (by rw [nI_leI (by omega) (by omega)]; omega)]
    exact ⟨u, v, rfl, rfl, hr⟩
  | succ r IH =>
    intro k k' i u v h1 hi2 h2 hk hk' hr
    obtain ⟨k, rfl⟩ : ∃ q, k = q + 1 := ⟨k - 1, by omega⟩
    obtain ⟨k', rfl⟩ : ∃ q, k' = q + 1 := ⟨k' - 1, by omega⟩
    rw [x_block_36, m_block_18]
    by_cases hd : e ≤ to + i - 1
    · rw [if_pos (by rw [nI_leI (by omega) (by omega)]; omega), if_pos (by rw [nI_leI (by omega) (by omega)]; omega)]
      exact ⟨u, v, rfl, rfl, hr⟩
    · have n1 : ¬ nI (e - to + 1) ≤ nI i := by rw [nI_leI (by omega) (by omega)]; omega
      have n2 : ¬ nI e ≤ nI (to + i - 1) := by rw [nI_leI (by omega) (by omega)]; omega
      rw [if_neg n1, if_neg n2]
      rcases hr with h | h
      · rw [if_pos h.2.1, if_pos h.wrong, nI_1, n_and18, nmv_eq, nI_add, nI_add, x_wrapped_A, x_wrapped_A]
        have e1 : ((frm + i - 1) % 262144 + 1) % 262144 = (frm + i) % 262144 := by omega
        have e2 : nI (to + i - 1) + Int32.ofInt 1 = nI (to + i) := by
          have : nI (to + i - 1) + Int32.ofInt 1 = nI (to + i - 1 + 1) := nI_1 _
          rw [this]; congr 1; omega
        have e3 : (to + i) % 262144 = to + i := Nat.mod_eq_of_lt (by omega)
        have e4 : nI i + Int32.ofInt 1 = nI (i + 1) := nI_1 i
        rw [e1, e2, e3, e4]
        have go : ∀ u2 v2, rR u2 v2 → rF (x_block_36 a b k u2 (nI frm) (nI to) (nI (e - to + 1)) (nI (i + 1))) (m_block_18 a' b' (nI e) k' v2 (nI ((frm + i) % 262144)) (nI (to + i))) := fun u2 v2 hr2 => by
          have := IH k k' (i + 1) u2 v2 (by omega) (by omega) (by omega) (by omega) (by omega) hr2
          exact this
        rcases read_cases h (a := nI ((frm + i) % 262144)) (rA_lt (Nat.mod_lt _ (by decide))) with ⟨w, hw, f1, f2⟩ | ⟨f1, f2⟩
        · rw [f1, f2, Option.bind_some, Option.bind_some]
          exact rF.bind (write_R (Or.inl h) (fun _ => ⟨rfl, rA_lt (by omega), rfl, hw⟩)) go
        · rw [f1, f2, Option.bind_some, Option.bind_some]
          exact rF.bind (write_R (Or.inr h.t1) (fun z => absurd z.2.1 h.t1.2)) go
      · rw [if_neg h.2, if_neg h.wrong]; exact rF1 h
theorem block_R {u : XS} {v : MS} (h : r0 u v) {n : Nat} (hn : n < 16) {e : Int32} (he : rA e) : rF (x_exchangeOrJump u (nI 169) (nI n) e) (m_flow v (nI 169) (nI n) e) := by
  obtain ⟨ke, hke, rfl⟩ := he
  obtain ⟨k, hk, ek⟩ := h.w n
  have hi := x_ac hn
  rw [nI_clamp (by omega)] at hi
  have ef : m_flow v (nI 169) (nI n) (nI ke) = m_block v (m_left (M_store v n)) (m_right (M_store v n)) (nI ke) := by unfold m_flow; rw [if_neg (x_ac hn), nmv_eq, nI_clamp (by omega)]; simp only [ob_id]; rfl
  have ex : x_exchangeOrJump u (nI 169) (nI n) (nI ke) = x_block u (nI n) (nI ke) := by
    have : x_exchangeOrJump u (nI 169) (nI n) (nI ke) = (x_block u (nI n) (nI ke)).bind (fun z46 => some z46) := rfl
    rw [this, ob_id]
  rw [ef, ex, h.words, ek, m_left_N hk, m_right_N hk]
  unfold x_block m_block
  rw [if_neg (x_ac hn), nI_clamp (by omega), ek, nmv_eq, if_neg hi, nmv_eq, nmv_eq, x_left_N hk, x_right_N]
  have hf : k / 262144 < 262144 := by omega
  have ht : k % 262144 < 262144 := Nat.mod_lt _ (by decide)
  generalize k / 262144 = frm at hf ⊢
  generalize k % 262144 = to at ht ⊢
  have ec : j_max (nI ke - nI to) 0 + 1 = nI (ke - to + 1) := by
    unfold j_max
    by_cases c : to ≤ ke
    · rw [pk_sub c, if_neg (neg_c (by omega)), nI_1]
    · rw [if_pos (pk_sneg (by omega) (by omega)), show ke - to = 0 by omega]; rfl
  rw [ec]
  rw [x_block_36, if_neg (by rw [le_c (by omega) 0 0 rfl (by decide)]; omega), if_pos h.2.1]
  have z1 : nI frm + 0 = nI frm := Int32.add_zero _
  have z2 : nI to + 0 = nI to := Int32.add_zero _
  rw [z1, z2, x_wrapped_A, x_wrapped_A, Nat.mod_eq_of_lt hf, Nat.mod_eq_of_lt ht]
  have go : ∀ u2 v2, rR u2 v2 → rF (x_block_36 (nI n) (nI ke) 299999 u2 (nI frm) (nI to) (nI (ke - to + 1)) ((0 : Int32) + Int32.ofInt 1)) (m_block_18 (nI frm) (nI to) (nI ke) 300000 v2 (nI frm) (nI to)) := fun u2 v2 hr2 => by
    have := block_loop (nI n) (nI ke) (nI frm) (nI to) hf ht hke 262144 299999 300000 1 u2 v2 (by omega) (by omega) (by omega) (by omega) (by omega) hr2
    rw [show frm + 1 - 1 = frm by omega, show to + 1 - 1 = to by omega, Nat.mod_eq_of_lt hf] at this
    exact this
  rcases read_cases h (a := nI frm) (rA_lt hf) with ⟨w, hw, f1, f2⟩ | ⟨f1, f2⟩
  · rw [f1, f2, Option.bind_some, Option.bind_some]
    exact rF.bind (write_R (Or.inl h) (fun _ => ⟨rfl, rA_lt ht, rfl, hw⟩)) go
  · rw [f1, f2, Option.bind_some, Option.bind_some]
    exact rF.bind (write_R (Or.inr h.t1) (fun z => absurd z.2.1 h.t1.2)) go
