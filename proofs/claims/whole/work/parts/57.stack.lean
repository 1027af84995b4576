/-! halves that grow, stacks, exchange, jumps -/
def hv (k d : Nat) : Nat := (k / 262144 + d) % 262144 * 262144 + (k % 262144 + d) % 262144
theorem hv_lt (k d : Nat) : hv k d < 2 ^ 36 := by unfold hv; omega
theorem x_hv {k : Nat} (hk : k < 2 ^ 36) {c : Int32} {d : Nat} (hc : c = nI d) : x_joined (x_wrapped (x_left (lN k) + c)) (x_wrapped (x_right (lN k) + c)) = lN (hv k d) := by
  subst hc
  rw [x_left_N hk, x_right_N, nI_add, nI_add, x_wrapped_A, x_wrapped_A]
  exact x_joined_N (Nat.mod_lt _ (by decide)) (Nat.mod_lt _ (by decide))
theorem m_hv {k : Nat} (hk : k < 2 ^ 36) {x y : Int32} {d : Nat} (hx : x = nI (k / 262144 + d)) (hy : y = nI (k % 262144 + d)) : m_joined x y = lN (hv k d) := by
  rw [hx, hy, m_joined_N]
  rfl
theorem upd_at (f : Nat → Int64) (n : Nat) (w : Int64) : vp_updL f n w n = w := by unfold vp_updL; rw [if_pos rfl]
theorem moveH {u : XS} {v : MS} (h : r0 u v) {n k : Nat} (hn : n < 16) (hk : k < 2 ^ 36) (ek : X_words u n = lN k) {c : Int32} {d : Nat} (hc : c = nI d) : x_moveHalves u (nI n) c = some (X_s_words u (vp_updL (X_words u) n (lN (hv k d)))) ∧ m_setAc v (nI n) (lN (hv k d)) = some (M_s_store v (vp_updL (X_words u) n (lN (hv k d)))) ∧ r0 (X_s_words u (vp_updL (X_words u) n (lN (hv k d)))) (M_s_store v (vp_updL (X_words u) n (lN (hv k d)))) := by
  obtain ⟨e1, e2⟩ := ac_cases h hn (w := lN (hv k d)) ⟨_, hv_lt k d, rfl⟩
  refine ⟨?_, e2, h.put ⟨_, hv_lt k d, rfl⟩ n⟩
  unfold x_moveHalves
  rw [if_neg (x_ac hn), nI_clamp (by omega), ek, nmv_eq, x_hv hk hc, ob_id, e1]
theorem xf_moveH {u : XS} (h : ¬ X_trap u = 0) {n : Nat} (hn : n < 16) (c : Int32) : x_moveHalves u (nI n) c = some u := by
  unfold x_moveHalves
  rw [if_neg (x_ac hn), nmv_eq, xf_ac h]
  rfl
theorem m_left1 {k : Nat} (hk : k < 2 ^ 36) : m_left (lN k) + 1 = nI (k / 262144 + 1) := by rw [m_left_N hk, nI_1]
theorem m_right1 {k : Nat} (hk : k < 2 ^ 36) : m_right (lN k) + 1 = nI (k % 262144 + 1) := by rw [m_right_N hk, nI_1]
theorem nI_m1 (a : Nat) : nI a - 1 = nI (a + 4294967295) := by
  rw [Int32.sub_eq_add_neg]
  exact nI_add a 4294967295
/-- the PC WORD -/
theorem flags_eq {u : XS} {v : MS} (h : r0 u v) : m_flags v = x_pcWord u ∧ rW (x_pcWord u) := by
  obtain ⟨p, hp, ep⟩ := h.2.2.2.1
  have eo := h.1.2.2.2.2.2.2.2.2.1
  have eu := h.user
  have b1 := h.1.1.2.2.2.2.2.1
  have b2 := h.1.1.2.2.2.2.2.2
  unfold m_flags m_flags_13 m_flags_27 x_pcWord x_flags x_flags_13
  rw [eo, eu, h.2.2.1, ep]
  have fin : ∀ a : Nat, a < 262144 → m_joined (nI a) (nI p) = x_joined (nI a) (nI p) ∧ rW (x_joined (nI a) (nI p)) := fun a ha => by
    rw [m_joined_N, x_joined_N ha hp, Nat.mod_eq_of_lt ha, Nat.mod_eq_of_lt hp]
    exact ⟨rfl, _, by omega, rfl⟩
  rcases b1 with c1 | c1 <;> rcases b2 with c2 | c2 <;> rw [c1, c2]
  · exact fin 0 (by decide)
  · exact fin 131072 (by decide)
  · exact fin 4096 (by decide)
  · exact fin 135168 (by decide)
theorem write_R {u : XS} {v : MS} (h : rR u v) {a a' : Int32} {w w' : Int64} (hh : r0 u v → a = a' ∧ rA a ∧ w = w' ∧ rW w) : rF (x_write u a w) (m_set v a' w') := by
  rcases h with h | h
  · obtain ⟨rfl, h1, rfl, h2⟩ := hh h
    rcases write_cases h h1 h2 with ⟨n, hn, e1, e2⟩ | ⟨e1, e2⟩
    · rw [e1, e2]; exact rF0 (h.put h2 n)
    · rw [e1, e2]; exact rF1 h.t1
  · rw [xf_write h.2, mf_set h.pos]; exact rF1 h
theorem setpc_R {u : XS} {v : MS} (h : rR u v) {p : Int32} (hp : rA p) : rF (some (X_s_pc u p)) (m_go v p) := by
  rcases h with h | h
  · rw [m_go_0 h.wrong hp]; exact rF0 (h.jump hp)
  · rw [mf_go h.wrong]; exact rF1 ⟨h.1.pcX _, h.2⟩
/-- a stack that grows -/
theorem grow_R {u : XS} {v : MS} (h : r0 u v) (a0 : Int32) {n : Nat} (hn : n < 16) (e : Int32) : ∃ u' v' k', r0 u' v' ∧ x_growStack u (nI n) = some u' ∧ X_words u' n = lN k' ∧ k' < 2 ^ 36 ∧ m_push v a0 (nI n) e = (if a0 = 176 then (m_set v' (nI (k' % 262144)) (m_flags v')).bind (fun z => m_go z e) else (m_get v' e).bind (fun z => m_set z.2 (nI (k' % 262144)) z.1)) := by
  obtain ⟨k, hk, ek⟩ := h.w n
  obtain ⟨f1, f2, h'⟩ := moveH h hn hk ek (c := 1) (d := 1) rfl
  have hl := hv_lt k 1
  have ew : X_words (X_s_words u (vp_updL (X_words u) n (lN (hv k 1)))) n = lN (hv k 1) := upd_at _ _ _
  have em : M_store (M_s_store v (vp_updL (X_words u) n (lN (hv k 1)))) n = lN (hv k 1) := upd_at _ _ _
  have p48 : ∀ (z : MS) (t : Int32) (v2 : MS), m_over z t = some v2 → M_store v2 n = lN (hv k 1) → m_push_48 a0 (nI n) e z t = (if a0 = 176 then (m_set v2 (nI (hv k 1 % 262144)) (m_flags v2)).bind (fun z => m_go z e) else (m_get v2 e).bind (fun z => m_set z.2 (nI (hv k 1 % 262144)) z.1)) := by
    intro z t v2 g1 g2
    unfold m_push_48
    rw [g1, Option.bind_some, if_neg (x_ac hn), nI_clamp (by omega), g2, nmv_eq, m_right_N hl]
    simp only [ob_id]
  unfold x_growStack m_push
  rw [if_neg (x_ac hn), nI_clamp (by omega), h.words, ek, m_hv hk (m_left1 hk) (m_right1 hk), f1, f2, Option.bind_some, Option.bind_some, em, ew, x_left_N hl, m_left_N hl, if_neg (by have := x_ac hn; rw [nI_clamp (by omega)] at this; exact this)]
  have hi := x_ac hn
  rw [nI_clamp (by omega)] at hi
  by_cases hz : nI (hv k 1 / 262144) = 0
  · refine ⟨_, _, hv k 1, h'.ovf, ?_, ew, hl, ?_⟩
    · rw [if_pos hz, x_ov h'.2.1]; rfl
    · rw [if_neg hi, if_neg hi, if_pos hz]
      exact p48 _ 1 _ (m_over_1 h'.wrong) em
  · refine ⟨_, _, hv k 1, h', ?_, ew, hl, ?_⟩
    · rw [if_neg hz]
    · rw [if_neg hi, if_neg hi, if_neg hz]
      exact p48 _ 0 _ (m_over_0 _) em
/-- a stack that shrinks -/
theorem shrink_R {u : XS} {v : MS} (h : rR u v) (a0 : Int32) {n : Nat} (hn : n < 16) (e : Int32) : rF (x_shrinkStack u (nI n)) (m_pop_41 a0 (nI n) e v) := by
  have hi := x_ac hn
  rw [nI_clamp (by omega)] at hi
  unfold x_shrinkStack m_pop_41 m_pop_98
  simp only [ob_id]
  rcases h with h | h
  · obtain ⟨k, hk, ek⟩ := h.w n
    obtain ⟨f1, f2, h'⟩ := moveH h hn hk ek (c := -1) (d := 4294967295) rfl
    have hl := hv_lt k 4294967295
    have ew : X_words (X_s_words u (vp_updL (X_words u) n (lN (hv k 4294967295)))) n = lN (hv k 4294967295) := upd_at _ _ _
    have em : M_store (M_s_store v (vp_updL (X_words u) n (lN (hv k 4294967295)))) n = lN (hv k 4294967295) := upd_at _ _ _
    rw [if_pos h.wrong, nI_clamp (by omega), if_neg hi, if_neg hi, h.words, ek, m_hv hk (by rw [m_left_N hk, nI_m1]) (by rw [m_right_N hk, nI_m1]), f1, f2, Option.bind_some, Option.bind_some, if_neg hi, if_neg hi, em, ew, x_left_N hl, m_left_N hl]
    by_cases hz : nI (hv k 4294967295 / 262144) = 262143
    · rw [if_pos hz, if_pos hz, x_ov h'.2.1, m_over_1 h'.wrong]; exact rF0 h'.ovf
    · rw [if_neg hz, if_neg hz, m_over_0]; exact rF0 h'
  · rw [if_neg h.wrong, xf_moveH h.2 hn, Option.bind_some, nI_clamp (by omega), if_neg hi, xf_ov h.2]
    split <;> exact rF1 h
theorem rA_lt {n : Nat} (h : n < 262144) : rA (nI n) := ⟨n, h, rfl⟩
/-- 260 .. 265 -/
theorem stack_R {u : XS} {v : MS} (h : r0 u v) {op n : Nat} (h1 : 176 ≤ op) (h2 : op < 182) (hn : n < 16) {e : Int32} (he : rA e) : rF (x_stack u (nI op) (nI n) e) (m_flow v (nI op) (nI n) e) := by
  have hi := x_ac hn
  rw [nI_clamp (by omega)] at hi
  obtain ⟨ke, hke, rfl⟩ := he
  have hE : rA (nI ke) := ⟨ke, hke, rfl⟩
  rcases (show op = 176 ∨ op = 177 ∨ op = 178 ∨ op = 179 ∨ op = 180 ∨ op = 181 by omega) with rfl | rfl | rfl | rfl | rfl | rfl
  · have ef : m_flow v (nI 176) (nI n) (nI ke) = m_push v (nI 176) (nI n) (nI ke) := by unfold m_flow; rw [if_neg (x_ac hn), nmv_eq]; simp only [ob_id]; rfl
    have ex : x_stack u (nI 176) (nI n) (nI ke) = (x_growStack u (nI n)).bind (fun z42 => if nI n < 0 ∨ 1024 ≤ (nI n).toNatClampNeg then none else (x_write z42 (x_right (X_words z42 (nI n).toNatClampNeg)) (x_pcWord z42)).bind (fun z59 => some (X_s_pc z59 (nI ke)))) := rfl
    obtain ⟨u', v', k', h', g1, g2, g3, g4⟩ := grow_R h (nI 176) hn (nI ke)
    rw [ef, ex, g1, g4, Option.bind_some, if_neg (x_ac hn), nI_clamp (by omega), g2, x_right_N, if_pos (show nI 176 = 176 from rfl)]
    obtain ⟨fe, fw⟩ := flags_eq h'
    exact rF.bind (write_R (Or.inl h') (fun _ => ⟨rfl, rA_lt (Nat.mod_lt _ (by decide)), fe.symm, fw⟩)) (fun u2 v2 hr => setpc_R hr hE)
  · have ef : m_flow v (nI 177) (nI n) (nI ke) = m_push v (nI 177) (nI n) (nI ke) := by unfold m_flow; rw [if_neg (x_ac hn), nmv_eq]; simp only [ob_id]; rfl
    have ex : x_stack u (nI 177) (nI n) (nI ke) = (x_growStack u (nI n)).bind (fun z70 => if nI n < 0 ∨ 1024 ≤ (nI n).toNatClampNeg then none else (x_read z70 (nI ke)).bind (fun z85 => (x_write z85.2 (x_right (X_words z70 (nI n).toNatClampNeg)) z85.1).bind (fun z88 => some z88))) := rfl
    obtain ⟨u', v', k', h', g1, g2, g3, g4⟩ := grow_R h (nI 177) hn (nI ke)
    rw [ef, ex, g1, g4, Option.bind_some, if_neg (x_ac hn), nI_clamp (by omega), g2, x_right_N, if_neg (show ¬ nI 177 = 176 by decide)]
    rcases read_cases h' hE with ⟨w, hw, e1, e2⟩ | ⟨e1, e2⟩
    · rw [e1, e2, Option.bind_some, Option.bind_some, ob_id]
      exact write_R (Or.inl h') (fun _ => ⟨rfl, rA_lt (Nat.mod_lt _ (by decide)), rfl, hw⟩)
    · rw [e1, e2, Option.bind_some, Option.bind_some, ob_id]
      exact write_R (Or.inr h'.t1) (fun z => absurd z.2.1 h'.t1.2)
  · have ef : m_flow v (nI 178) (nI n) (nI ke) = m_pop v (nI 178) (nI n) (nI ke) := by unfold m_flow; rw [if_neg (x_ac hn), nmv_eq]; simp only [ob_id]; rfl
    have ex : x_stack u (nI 178) (nI n) (nI ke) = (if nI n < 0 ∨ 1024 ≤ (nI n).toNatClampNeg then none else (x_read u (x_right (X_words u (nI n).toNatClampNeg))).bind (fun z104 => (x_write z104.2 (nI ke) z104.1).bind (fun z107 => (x_shrinkStack z107 (nI n)).bind (fun z112 => some z112)))) := rfl
    obtain ⟨k, hk, ek⟩ := h.w n
    rw [ef, ex, if_neg (x_ac hn), nI_clamp (by omega), ek, x_right_N]
    unfold m_pop
    rw [nI_clamp (by omega), if_neg hi, h.words, ek, m_right_N hk]
    simp only [ob_id]
    rcases read_cases h (a := nI (k % 262144)) (rA_lt (Nat.mod_lt _ (by decide))) with ⟨w, hw, e1, e2⟩ | ⟨e1, e2⟩
    · rw [e1, e2, Option.bind_some, Option.bind_some, if_pos (show nI 178 = 178 from rfl)]
      exact rF.bind (write_R (Or.inl h) (fun _ => ⟨rfl, hE, rfl, hw⟩)) (fun u2 v2 hr => shrink_R hr _ hn _)
    · rw [e1, e2, Option.bind_some, Option.bind_some, if_pos (show nI 178 = 178 from rfl)]
      exact rF.bind (write_R (Or.inr h.t1) (fun z => absurd z.2.1 h.t1.2)) (fun u2 v2 hr => shrink_R hr _ hn _)
  · have ef : m_flow v (nI 179) (nI n) (nI ke) = m_pop v (nI 179) (nI n) (nI ke) := by unfold m_flow; rw [if_neg (x_ac hn), nmv_eq]; simp only [ob_id]; rfl
    have ex : x_stack u (nI 179) (nI n) (nI ke) = (if nI n < 0 ∨ 1024 ≤ (nI n).toNatClampNeg then none else (x_read u (x_right (X_words u (nI n).toNatClampNeg))).bind (fun z127 => (x_shrinkStack (X_s_pc z127.2 (x_right z127.1)) (nI n)).bind (fun z138 => some z138))) := rfl
    obtain ⟨k, hk, ek⟩ := h.w n
    rw [ef, ex, if_neg (x_ac hn), nI_clamp (by omega), ek, x_right_N]
    unfold m_pop
    rw [nI_clamp (by omega), if_neg hi, h.words, ek, m_right_N hk]
    simp only [ob_id]
    rcases read_cases h (a := nI (k % 262144)) (rA_lt (Nat.mod_lt _ (by decide))) with ⟨w, ⟨j, hj, rfl⟩, e1, e2⟩ | ⟨e1, e2⟩
    · rw [e1, e2, Option.bind_some, Option.bind_some, if_neg (show ¬ nI 179 = 178 by decide)]
      have hp : rA (x_right (lN j)) := x_right_W ⟨j, hj, rfl⟩
      show rF (x_shrinkStack (X_s_pc u (x_right (lN j))) (nI n)) ((m_go v (m_right (lN j))).bind _)
      rw [m_right_N hj, ← x_right_N, m_go_0 h.wrong hp, Option.bind_some]
      exact shrink_R (Or.inl (h.jump hp)) _ hn _
    · have h1 := h.t1
      rw [e1, e2, Option.bind_some, Option.bind_some, if_neg (show ¬ nI 179 = 178 by decide)]
      show rF (x_shrinkStack (X_s_pc (X_s_trap u 1) (x_right 0)) (nI n)) ((m_go (M_s_wrong v 1) (m_right 0)).bind _)
      rw [mf_go h1.wrong, Option.bind_some]
      exact shrink_R (Or.inr ⟨h1.1.pcX (x_right 0), h1.2⟩) _ hn _
  · have ef : m_flow v (nI 180) (nI n) (nI ke) = (m_set v (nI ke) (m_flags v)).bind (fun z253 => (m_go z253 (nI ke + 1)).bind (fun z260 => some z260)) := by unfold m_flow; rw [if_neg (x_ac hn), nmv_eq]; rfl
    have ex : x_stack u (nI 180) (nI n) (nI ke) = (x_write u (nI ke) (x_pcWord u)).bind (fun z148 => some (X_s_pc z148 (x_wrapped (nI ke + 1)))) := rfl
    obtain ⟨fe, fw⟩ := flags_eq h
    rw [ef, ex]
    simp only [ob_id]
    refine rF.bind (write_R (Or.inl h) (fun _ => ⟨rfl, hE, fe.symm, fw⟩)) (fun u2 v2 hr => ?_)
    have em : m_go v2 (nI ke + 1) = m_go v2 (nI ((ke + 1) % 262144)) := by unfold m_go; rw [nI_1, n_and18, n_and18, Nat.mod_mod]
    rw [em, nI_1, x_wrapped_A]
    exact setpc_R hr (rA_lt (Nat.mod_lt _ (by decide)))
  · have ef : m_flow v (nI 181) (nI n) (nI ke) = (m_setAc v (nI n) (m_flags v)).bind (fun z270 => (m_go z270 (nI ke)).bind (fun z275 => some z275)) := by unfold m_flow; rw [if_neg (x_ac hn), nmv_eq]; rfl
    have ex : x_stack u (nI 181) (nI n) (nI ke) = (x_setAccumulator u (nI n) (x_pcWord u)).bind (fun z168 => some (X_s_pc z168 (nI ke))) := rfl
    obtain ⟨fe, fw⟩ := flags_eq h
    rw [ef, ex, fe]
    simp only [ob_id]
    exact rF.bind (acW_R (Or.inl h) hn fw) (fun u2 v2 hr => setpc_R hr hE)
