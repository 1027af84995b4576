/-! a step, a run, the calls -/
/-- between calls: as r0, whatever stands in the two counters of the step that was -/
def rC (u : XS) (v : MS) : Prop := r0 (X_s_taken (X_s_trap u 0) 0) (M_s_taken (M_s_wrong v 0) 0)
def rG (a : Option XS) (b : Option MS) : Prop := ∃ u v, a = some u ∧ b = some v ∧ rC u v
theorem r0.toC {u : XS} {v : MS} (h : r0 u v) : rC u v := ⟨(h.1.trap (c := 0) (Or.inl rfl)).taken 0 0, rfl, h.2.2.1, h.2.2.2.1, rfl, 0, by decide, rfl⟩
theorem trap_word {u : XS} {v : MS} (h : r1 u v) {p : Nat} (hp : p < 262144) : ∃ w, rW w ∧ x_joined (x_flags u ||| X_trap u) (nI p) = w ∧ m_joined (((if M_overflow v = 0 then (0 : Int32) else 131072) + (if M_user v = 0 then (0 : Int32) else 4096)) + M_wrong v) (nI p) = w := by
  have hq := h.1
  have b1 : rB (X_user u) := hq.1.2.2.2.2.2.1
  have b2 : rB (X_overflow u) := hq.1.2.2.2.2.2.2
  have eo : M_overflow v = X_overflow u := hq.2.2.2.2.2.2.2.2.1
  have eu : M_user v = X_user u := hq.2.2.2.2.2.2.2.1
  have ew : M_wrong v = X_trap u := hq.2.2.2.2.2.2.2.2.2.2.2.2.2
  have fin : ∀ a : Nat, a < 262144 → ∃ w, rW w ∧ x_joined (nI a) (nI p) = w ∧ m_joined (nI a) (nI p) = w := fun a ha => by
    rw [m_joined_N, x_joined_N ha hp, Nat.mod_eq_of_lt ha, Nat.mod_eq_of_lt hp]
    exact ⟨_, ⟨_, by omega, rfl⟩, rfl, rfl⟩
  rw [eo, eu, ew]
  unfold x_flags x_flags_13
  rcases hq.2.1 with t | t | t | t
  · exact absurd t h.2
  all_goals
    rcases b1 with c1 | c1 <;> rcases b2 with c2 | c2 <;> rw [c1, c2, t]
  · exact fin 1 (by decide)
  · exact fin 131073 (by decide)
  · exact fin 4097 (by decide)
  · exact fin 135169 (by decide)
  · exact fin 2 (by decide)
  · exact fin 131074 (by decide)
  · exact fin 4098 (by decide)
  · exact fin 135170 (by decide)
  · exact fin 4 (by decide)
  · exact fin 131076 (by decide)
  · exact fin 4100 (by decide)
  · exact fin 135172 (by decide)
theorem rQ.traps {u : XS} {v : MS} (h : rQ u v) (s : Int32) : rQ (X_s_traps u s) (M_s_traps v s) := by
  obtain ⟨i, q1, q2, q3, q4, q5, q6, q7, q8, q9, q10, q11, q12⟩ := h
  exact ⟨i, q1, q2, q3, q4, q5, q6, q7, q8, q9, q10, rfl, q12⟩
theorem rQ.latest {u : XS} {v : MS} (h : rQ u v) (s : Int32) : rQ (X_s_latestTrap u s) (M_s_latest v s) := by
  obtain ⟨i, q1, q2, q3, q4, q5, q6, q7, q8, q9, q10, q11, q12, q13⟩ := h
  exact ⟨i, q1, q2, q3, q4, q5, q6, q7, q8, q9, q10, q11, rfl, q13⟩
/-- how a step ends -/
theorem end_R {u : XS} {v : MS} (h : rR u v) {p : Nat} (hp : p < 262144) : rG (x_step_122 u (nI p)) (m_makeStep_117 v (nI p)) := by
  rcases h with h | h
  · refine ⟨u, v, ?_, ?_, h.toC⟩
    · unfold x_step_122; rw [if_pos h.2.1]
    · unfold m_makeStep_117; rw [if_pos (by rw [h.wrong]; decide)]
  · obtain ⟨w, hw, e1, e2⟩ := trap_word h hp
    have hs : M_store v = X_words u := h.1.2.2.1
    have ew : M_wrong v = X_trap u := h.1.2.2.2.2.2.2.2.2.2.2.2.2.2
    have et : M_traps v = X_traps u := h.1.2.2.2.2.2.2.2.2.2.2.2.1
    have c32 : (32 : Int32).toNatClampNeg = 32 := rfl
    have i32 : ¬ ((32 : Int32) < 0 ∨ 1024 ≤ (32 : Int32).toNatClampNeg) := by decide
    have em : m_makeStep_117 v (nI p) = some (M_s_latest (M_s_traps (M_s_pc (M_s_user (M_s_store v (vp_updL (M_store v) 32 w)) 0) 33) (M_traps v + 1)) (M_wrong v)) := by
      unfold m_makeStep_117 m_makeStep_143 m_makeStep_157
      rw [if_neg h.pos, if_neg i32, if_neg i32]
      have k : ∀ a b : Int32, (a = if M_overflow v = 0 then (0 : Int32) else 131072) → (b = if M_user v = 0 then (0 : Int32) else 4096) → m_joined ((a + b) + M_wrong v) (nI p) = w := fun a b ha hb => by rw [ha, hb]; exact e2
      by_cases c1 : M_overflow v = 0
      · rw [if_pos c1]
        by_cases c2 : M_user v = 0
        · rw [if_pos c2, k 0 0 (by rw [if_pos c1]) (by rw [if_pos c2])]; rfl
        · rw [if_neg c2, k 0 4096 (by rw [if_pos c1]) (by rw [if_neg c2])]; rfl
      · rw [if_neg c1]
        by_cases c2 : M_user v = 0
        · rw [if_pos c2, k 131072 0 (by rw [if_neg c1]) (by rw [if_pos c2])]; rfl
        · rw [if_neg c2, k 131072 4096 (by rw [if_neg c1]) (by rw [if_neg c2])]; rfl
    have ex : x_step_122 u (nI p) = some (X_s_latestTrap (X_s_traps (X_s_pc (X_s_user (X_s_words u (vp_updL (X_words u) 32 w)) 0) 33) (X_traps u + 1)) (X_trap u)) := by
      unfold x_step_122 x_enterTrap
      rw [if_neg h.2, e1, ob_id]
      rfl
    refine ⟨_, _, ex, em, ?_⟩
    rw [hs, et, ew]
    have q1 := h.1.words (upd_W h.1.1.1 hw 32)
    have q2 := q1.user (b := 0) (Or.inl rfl)
    have q3 := q2.pc 33 33
    have q4 := q3.traps (X_traps u + 1)
    have q5 := q4.latest (X_trap u)
    have q6 := (q5.trap (c := 0) (Or.inl rfl)).taken 0 0
    exact ⟨q6, rfl, rfl, ⟨33, by decide, rfl⟩, rfl, 0, by decide, rfl⟩
theorem take_taken {u u' : XS} {a : Int32} {w : Int64} {t : Nat} (ht : t ≤ 8) (et : X_taken u = nI t) (h : x_take u a = some (w, u')) : ∃ t', t ≤ t' ∧ t' ≤ 8 ∧ X_taken u' = nI t' := by
  have rs : ∀ (z z' : XS) (c : Int32), x_raise z c = some z' → X_taken z' = X_taken z := fun z z' c hz => by
    unfold x_raise at hz
    split at hz
    · rw [← Option.some.inj hz]; rfl
    · rw [← Option.some.inj hz]
  unfold x_take at h
  split at h
  · obtain ⟨z, h1, h2⟩ := bd_ob h
    have e := congrArg Prod.snd (Option.some.inj h2)
    have e' : z = u' := e
    exact ⟨t, Nat.le_refl t, ht, by rw [← e', rs _ _ _ h1, et]⟩
  · rename_i h8
    have h7 : t < 8 := by
      rcases Nat.lt_or_ge t 8 with c | c
      · exact c
      · exact absurd (by rw [et, show t = 8 by omega]; rfl) h8
    rw [et, nI_1] at h
    obtain ⟨z, h1, h2⟩ := bd_ob h
    have e : z.2 = u' := congrArg Prod.snd (Option.some.inj h2)
    refine ⟨t + 1, by omega, by omega, ?_⟩
    rw [← e]
    unfold x_read at h1
    rw [nmv_eq] at h1
    split at h1
    · obtain ⟨y, h3, h4⟩ := bd_ob h1
      have e4 : y = z.2 := congrArg Prod.snd (Option.some.inj h4)
      rw [← e4, rs _ _ _ h3]; rfl
    · obtain ⟨-, h3⟩ := ck_if h1
      have e4 : X_s_taken u (nI (t + 1)) = z.2 := congrArg Prod.snd (Option.some.inj h3)
      rw [← e4]; rfl
theorem eff_taken (a0 : Int64) : ∀ (k : Nat) (u u' : XS) (w : Int64) (e i e' : Int32) (t : Nat), t ≤ 8 → X_taken u = nI t → x_effective_12 a0 k u w e i = some (e', u') → ∃ t', t ≤ t' ∧ t' ≤ 8 ∧ X_taken u' = nI t' := by
  intro k
  induction k with
  | zero => intro u u' w e i e' t ht et h; rw [x_effective_12] at h; cases h
  | succ k IH =>
    intro u u' w e i e' t ht et h
    have stop : ∀ {x : Int32}, some (x, u) = some (e', u') → ∃ t', t ≤ t' ∧ t' ≤ 8 ∧ X_taken u' = nI t' := fun hh => by
      have : u = u' := congrArg Prod.snd (Option.some.inj hh)
      exact ⟨t, Nat.le_refl t, ht, by rw [← this]; exact et⟩
    rw [x_effective_12] at h
    split at h
    · exact stop h
    · split at h
      · split at h
        · exact stop h
        · obtain ⟨z, h1, h2⟩ := bd_ob h
          obtain ⟨y, h3, h4⟩ := bd_ob h2
          obtain ⟨t1, a1, a2, a3⟩ := take_taken (w := z.1) (u' := z.2) ht et h1
          obtain ⟨ey, hy⟩ := indexed_any z.2 z.1
          have hz : y.2 = z.2 := by
            rw [hy] at h3
            exact (congrArg Prod.snd (Option.some.inj h3)).symm
          obtain ⟨t2, b1, b2, b3⟩ := IH y.2 u' z.1 y.1 _ e' t1 a2 (by rw [hz]; exact a3) h4
          exact ⟨t2, by omega, b2, b3⟩
      · exact stop h
theorem effective_taken {u u' : XS} {w : Int64} {e : Int32} {t : Nat} (ht : t ≤ 8) (et : X_taken u = nI t) (h : x_effective u w = some (e, u')) : ∃ t', t ≤ t' ∧ t' ≤ 8 ∧ X_taken u' = nI t' := by
  unfold x_effective at h
  obtain ⟨z, h1, h2⟩ := bd_ob h
  obtain ⟨ez, hz⟩ := indexed_any u w
  have : z.2 = u := by rw [hz] at h1; exact (congrArg Prod.snd (Option.some.inj h1)).symm
  exact eff_taken _ _ _ _ _ _ _ _ t ht (by rw [this]; exact et) h2
theorem op_N {k : Nat} (hk : k < 2 ^ 36) : x_operation (lN k) = nI (k / 2 ^ 27) ∧ (lN k >>> ((27 : Int32).toInt64 &&& 63)).toInt32 = nI (k / 2 ^ 27) ∧ (lg_cmp (lN k >>> ((27 : Int32).toInt64 &&& 63)) 174 = 0 ↔ k / 2 ^ 27 = 174) ∧ x_accumulator (lN k) = nI (k / 2 ^ 23 % 16) ∧ ((lN k >>> ((23 : Int32).toInt64 &&& 63)) &&& 15).toInt32 = nI (k / 2 ^ 23 % 16) := by
  have e27 : lN k >>> ((27 : Int32).toInt64 &&& 63) = lN (k / 2 ^ 27) := l_shrN (by omega) 27 27 (by decide)
  refine ⟨?_, by rw [e27, lN_i], ?_, ?_, ?_⟩
  · unfold x_operation
    rw [l_ushrN (by omega) 27 27 (by decide), lN_i, n_and511]
    exact congrArg nI (by omega)
  · rw [e27, l_cmp_eq]
    exact pk_lEQ (a := k / 2 ^ 27) (b := 174) (by omega) (by decide)
  · unfold x_accumulator
    rw [l_ushrN (by omega) 23 23 (by decide), lN_i, n_and15]
  · rw [l_shrN (by omega) 23 23 (by decide)]
    have := wb_mask (n := k / 2 ^ 23) (k := 4) (by omega) (by decide)
    have t : lN (k / 2 ^ 23) &&& 15 = lN (k / 2 ^ 23 % 2 ^ 4) := this
    rw [t, lN_i]
theorem s101_R {u : XS} {v : MS} (h : rR u v) (hst : r0 u v → X_stopped u = 0) {p : Nat} (hp : p < 262144) {k : Nat} (hk : k < 2 ^ 36) {e e' : Int32} (he : r0 u v → e = e' ∧ rA e) : rG (x_step_101 u (nI p) (lN k) e) (m_makeStep_90 v (nI p) (lN k) e') := by
  obtain ⟨o1, o2, -, o4, o5⟩ := op_N hk
  unfold x_step_101 m_makeStep_90
  rcases h with h | h
  · obtain ⟨rfl, he2⟩ := he h
    rw [if_pos h.2.1, if_pos h.wrong, o1, o2, o4, o5]
    obtain ⟨u', v', f1, f2, hr⟩ := obey_R h (hst h) (op := k / 2 ^ 27) (n := k / 2 ^ 23 % 16) (by omega) (Nat.mod_lt _ (by decide)) he2
    rw [f1, f2, Option.bind_some, Option.bind_some]
    exact end_R hr hp
  · rw [if_neg h.2, if_neg h.wrong]
    exact end_R (Or.inr h) hp
theorem s101_any {u : XS} {v : MS} (h : r1 u v) {p : Nat} (hp : p < 262144) (w w' : Int64) (e e' : Int32) : rG (x_step_101 u (nI p) w e) (m_makeStep_90 v (nI p) w' e') := by
  unfold x_step_101 m_makeStep_90
  rw [if_neg h.2, if_neg h.wrong]
  exact end_R (Or.inr h) hp
theorem xs_stop (k : Nat) {u : XS} (h : ¬ X_trap u = 0) (p : Int32) (w : Int64) (e i : Int32) : x_step_57 (k + 1) u p w e i = x_step_101 u p w e := by
  rw [x_step_57, if_neg h]
  split <;> rfl
theorem ms_stop (k : Nat) {v : MS} (h : ¬ M_wrong v = 0) (p : Int32) (w : Int64) (e : Int32) : m_makeStep_51 (k + 1) v p w e = m_makeStep_90 v p w e := by
  rw [m_makeStep_51, if_neg h]
theorem xct_loop {p : Nat} (hp : p < 262144) : ∀ (j k k' i t n : Nat) (u : XS) (v : MS) (e : Int32), t + j = 9 → t ≤ 8 → i ≤ t → j + 1 ≤ k → j + 1 ≤ k' → r0 u v → X_taken u = nI t → X_stopped u = 0 → n < 2 ^ 36 → rA e → rG (x_step_57 k u (nI p) (lN n) e (nI i)) (m_makeStep_51 k' v (nI p) (lN n) e) := by
  intro j
  induction j using Nat.strongRecOn with
  | ind j IH =>
    intro k k' i t n u v e h1 h2 h3 hk hk' h et hst hn he
    obtain ⟨k, rfl⟩ : ∃ q, k = q + 1 := ⟨k - 1, by omega⟩
    obtain ⟨k', rfl⟩ : ∃ q, k' = q + 1 := ⟨k' - 1, by omega⟩
    obtain ⟨o1, -, o3, -⟩ := op_N hn
    rw [x_step_57, m_makeStep_51, if_neg (show ¬ (8 : Int32) < nI i by rw [gt_c (by omega) 8 8 rfl (by decide)]; omega), if_pos h.2.1, if_pos h.wrong, o1]
    by_cases c : n / 2 ^ 27 = 174
    · rw [if_pos (show nI (n / 2 ^ 27) = 174 by rw [c]; rfl), if_pos (o3.mpr c)]
      obtain ⟨k, rfl⟩ : ∃ q, k = q + 1 := ⟨k - 1, by omega⟩
      obtain ⟨k', rfl⟩ : ∃ q, k' = q + 1 := ⟨k' - 1, by omega⟩
      rcases take_cases h h2 et he with ⟨w, vc, ⟨n', hn', rfl⟩, ht8, e1, e2, e3, h'⟩ | ⟨u', v', vc, e1, e2, e3, h', -⟩
      · rw [e1, Option.bind_some, e2, Option.bind_some, e3, Option.bind_some]
        have hi1 : nI i + Int32.ofInt 1 = nI (i + 1) := nI_1 i
        rw [hi1]
        show rG ((x_effective (X_s_taken u (nI (t + 1))) (lN n')).bind _) ((m_effective (M_s_taken v (nI (t + 1))) (lN n')).bind _)
        rcases effective_R h' (w := lN n') ⟨n', hn', rfl⟩ with ⟨ea, u', v', f1, f2, h2', hea, hst'⟩ | ⟨ea, ea', u', v', f1, f2, h2'⟩
        · obtain ⟨t', b1, b2, b3⟩ := effective_taken (t := t + 1) (by omega) rfl f1
          rw [f1, f2, Option.bind_some, Option.bind_some]
          exact IH (9 - t') (by omega) (k + 1) (k' + 1) (i + 1) t' n' u' v' ea (by omega) b2 (by omega) (by omega) (by omega) h2' b3 (hst'.trans hst) hn' hea
        · rw [f1, f2, Option.bind_some, Option.bind_some]
          show rG (x_step_57 (k + 1) u' (nI p) (lN n') ea (nI (i + 1))) (m_makeStep_51 (k' + 1) v' (nI p) (lN n') ea')
          rw [xs_stop _ h2'.2, ms_stop _ h2'.wrong]
          exact s101_any h2' hp _ _ _ _
      · rw [e1, Option.bind_some, e2, Option.bind_some, e3, Option.bind_some]
        obtain ⟨ea, g1⟩ := xf_eff h'.2 0
        obtain ⟨ea', g2⟩ := mf_eff h'.wrong 0
        show rG ((x_effective u' 0).bind _) ((m_effective v' 0).bind _)
        rw [g1, g2, Option.bind_some, Option.bind_some]
        show rG (x_step_57 (k + 1) u' (nI p) 0 ea _) (m_makeStep_51 (k' + 1) v' (nI p) 0 ea')
        rw [xs_stop _ h'.2, ms_stop _ h'.wrong]
        exact s101_any h' hp _ _ _ _
    · rw [if_neg (show ¬ nI (n / 2 ^ 27) = 174 by rw [eq_c (by omega) 174 174 rfl (by decide)]; exact c), if_neg (fun z => c (o3.mp z))]
      exact s101_R (Or.inl h) (fun _ => hst) hp hn (fun _ => ⟨rfl, he⟩)
theorem rQ.steps {u : XS} {v : MS} (h : rQ u v) (s : Int32) : rQ (X_s_steps u s) (M_s_steps v s) := by
  obtain ⟨i, q1, q2, q3, q4, q5, q6, q7, q8, q9, q10, q11⟩ := h
  exact ⟨i, q1, q2, q3, q4, q5, q6, q7, q8, q9, rfl, q11⟩
/-- a step -/
theorem step_R {u : XS} {v : MS} (h : rC u v) (hst : X_stopped u = 0) : rG (x_step u) (m_makeStep v) := by
  obtain ⟨p, hp, ep⟩ := h.2.2.2.1
  have ep' : X_pc u = nI p := ep
  have em : M_pc v = nI p := (h.2.2.1).trans ep
  have es : M_steps v = X_steps u := h.1.2.2.2.2.2.2.2.2.2.2.1
  have h0 : r0 (X_s_taken (X_s_trap (X_s_steps u (X_steps u + 1)) 0) 0) (M_s_steps (M_s_taken (M_s_wrong v 0) 0) (X_steps u + 1)) := ⟨h.1.steps _, h.2.1, h.2.2.1, h.2.2.2.1, h.2.2.2.2⟩
  unfold x_step m_makeStep
  rw [nmv_eq, nmv_eq, ep', em]
  have em2 : M_steps (M_s_taken (M_s_wrong v 0) 0) + 1 = X_steps u + 1 := by rw [← es]; rfl
  have ex3 : X_pc (X_s_taken (X_s_trap (X_s_steps u (X_steps u + 1)) 0) 0) = nI p := ep'
  have em3 : M_pc (M_s_steps (M_s_taken (M_s_wrong v 0) 0) (X_steps u + 1)) = nI p := em
  rw [em2, ex3, em3]
  generalize hU : X_s_taken (X_s_trap (X_s_steps u (X_steps u + 1)) 0) 0 = U at h0 ⊢
  generalize hV : M_s_steps (M_s_taken (M_s_wrong v 0) 0) (X_steps u + 1) = V at h0 ⊢
  have hstU : X_stopped U = 0 := by rw [← hU]; exact hst
  rcases read_cases h0 (a := nI p) ⟨p, hp, rfl⟩ with ⟨w, ⟨k, hk, rfl⟩, e1, e2⟩ | ⟨e1, e2⟩
  · rw [e1, e2, Option.bind_some, Option.bind_some]
    obtain ⟨q, hq, g1, g2⟩ := pc_next h0
    have hg : m_go V (M_pc V + 1) = some (M_s_pc V q) := by unfold m_go; rw [if_pos h0.wrong, g2]
    show rG ((x_effective (X_s_pc U (x_wrapped (X_pc U + 1))) (lN k)).bind _) ((m_go V (M_pc V + 1)).bind _)
    rw [g1, hg, Option.bind_some]
    have h1 := h0.jump hq
    rcases effective_R h1 (w := lN k) ⟨k, hk, rfl⟩ with ⟨ea, u', v', f1, f2, h2, hea, hst'⟩ | ⟨ea, ea', u', v', f1, f2, h2⟩
    · obtain ⟨t, ht, et⟩ := h2.2.2.2.2.2
      show rG ((x_effective (X_s_pc U q) (lN k)).bind _) ((m_effective (M_s_pc V q) (lN k)).bind _)
      rw [f1, f2, Option.bind_some, Option.bind_some]
      exact xct_loop hp (9 - t) 11 11 0 t k u' v' ea (by omega) ht (by omega) (by omega) (by omega) h2 et (hst'.trans hstU) hk hea
    · show rG ((x_effective (X_s_pc U q) (lN k)).bind _) ((m_effective (M_s_pc V q) (lN k)).bind _)
      rw [f1, f2, Option.bind_some, Option.bind_some]
      show rG (x_step_57 11 u' (nI p) (lN k) ea 0) (m_makeStep_51 11 v' (nI p) (lN k) ea')
      rw [xs_stop _ h2.2, ms_stop _ h2.wrong]
      exact s101_any h2 hp _ _ _ _
  · have t1 := h0.t1
    rw [e1, e2, Option.bind_some, Option.bind_some]
    show rG ((x_effective (X_s_pc (X_s_trap U 1) (x_wrapped (X_pc (X_s_trap U 1) + 1))) 0).bind _) ((m_go (M_s_wrong V 1) (M_pc (M_s_wrong V 1) + 1)).bind _)
    rw [mf_go t1.wrong, Option.bind_some]
    have t2 : r1 (X_s_pc (X_s_trap U 1) (x_wrapped (X_pc (X_s_trap U 1) + 1))) (M_s_wrong V 1) := ⟨t1.1.pcX _, t1.2⟩
    obtain ⟨ea, g1⟩ := xf_eff t2.2 0
    obtain ⟨ea', g2⟩ := mf_eff t2.wrong 0
    show rG _ ((m_effective (M_s_wrong V 1) 0).bind _)
    rw [g1, g2, Option.bind_some, Option.bind_some]
    show rG (x_step_57 11 _ (nI p) 0 ea 0) (m_makeStep_51 11 (M_s_wrong V 1) (nI p) 0 ea')
    rw [xs_stop _ t2.2, ms_stop _ t2.wrong]
    exact s101_any t2 hp _ _ _ _
