/-! conditions, skips, jumps -/
theorem l_cmp_3 (x y : Int64) : lg_cmp x y = 1 ∨ lg_cmp x y = 0 ∨ lg_cmp x y = -1 := by
  rw [l_cmp_c]
  split
  · exact Or.inl rfl
  · split
    · exact Or.inr (Or.inl rfl)
    · exact Or.inr (Or.inr rfl)
theorem holds_eq {c : Nat} (hc : c < 8) (x : Int64) : m_holds (nI c) x = x_holds (nI c) x := by
  unfold x_holds m_holds m_holds0 m_holds0_11 m_holds0_22
  have h : c = 0 ∨ c = 1 ∨ c = 2 ∨ c = 3 ∨ c = 4 ∨ c = 5 ∨ c = 6 ∨ c = 7 := by omega
  rcases l_cmp_3 x 0 with e | e | e <;> rw [e] <;> rcases h with rfl | rfl | rfl | rfl | rfl | rfl | rfl | rfl <;> decide
theorem pc_next {u : XS} {v : MS} (h : r0 u v) : ∃ p, rA p ∧ x_wrapped (X_pc u + 1) = p ∧ (M_pc v + 1) &&& 262143 = p := by
  obtain ⟨k, hk, e⟩ := h.2.2.2.1
  refine ⟨nI ((k + 1) % 262144), ⟨_, Nat.mod_lt _ (by decide), rfl⟩, ?_, ?_⟩
  · rw [e, nI_1, x_wrapped_A]
  · rw [h.2.2.1, e, nI_1, n_and18]
theorem skip_R {u : XS} {v : MS} (h : rR u v) {b b' : Int32} (hb : r0 u v → b = b') : rF (x_skipIf u b) (m_skipIf v b') := by
  unfold x_skipIf m_skipIf
  rw [ob_id]
  rcases h with h | h
  · have e := hb h
    subst e
    by_cases hz : b = 0
    · rw [if_pos hz, if_pos hz]; exact rF0 h
    · rw [if_neg hz, if_neg hz]
      obtain ⟨p, hp, e1, e2⟩ := pc_next h
      unfold m_go
      rw [if_pos h.wrong, e1, e2]
      exact rF0 (h.jump hp)
  · rw [mf_go h.wrong]
    have e : (if b' = 0 then some v else some v) = some v := by split <;> rfl
    rw [e]
    split
    · exact rF1 h
    · exact rF1 ⟨h.1.pcX _, h.2⟩
theorem jump_R {u : XS} {v : MS} (h : rR u v) {b b' : Int32} (hb : r0 u v → b = b') {e : Int32} (he : rA e) : rF (x_jumpIf u b e) (m_goIf v b' e) := by
  unfold x_jumpIf m_goIf
  rw [ob_id]
  rcases h with h | h
  · have e := hb h
    subst e
    rw [m_go_0 h.wrong he]
    split
    · exact rF0 h
    · exact rF0 (h.jump he)
  · rw [mf_go h.wrong]
    have e : (if b' = 0 then some v else some v) = some v := by split <;> rfl
    rw [e]
    split
    · exact rF1 h
    · exact rF1 ⟨h.1.pcX _, h.2⟩
theorem acz_R {u : XS} {v : MS} (h : rR u v) {n : Nat} (hn : n < 16) {w y : Int64} (hw : r0 u v → rW w ∧ y &&& 68719476735 = w) : rF (x_setAccumulatorButZero u (nI n) w) (if nI n ≤ 0 then some v else m_setAc v (nI n) y) := by
  rcases h with h | h
  · obtain ⟨h1, h2⟩ := hw h
    obtain ⟨u', v', h', e1, e2⟩ := acz_cases h hn h1
    rw [← h2, m_setAc_and] at e2
    rw [e1, e2]; exact rF0 h'
  · rw [xf_acz h.2, mf_ac h.wrong]
    split <;> exact rF1 h
/-- the reference's count, seen as one -/
theorem m122 (a b c : Int32) (v : MS) (v4 : Int32) (by' : Int64) (hby : -1 ≤ by'.toInt ∧ by'.toInt ≤ 1) (v8 : Int32) {k : Nat} (hk : k < 2 ^ 36) : m_compare_122 a b c v v4 by' v8 (lN k) = m_compare_187 a b c v v4 by' v8 (if -2 ^ 35 ≤ (x_signed (lN k) + by').toInt ∧ (x_signed (lN k) + by').toInt < 2 ^ 35 then 0 else 1) (x_signed ((x_signed (lN k) + by') &&& 68719476735)) := by
  unfold m_compare_122 m_compare_148 m_compare_153
  rw [num_eq hk, nmv_eq]
  have s1 := sg_lo k hk
  have i1 := x_signed_I hk
  have xI : (x_signed (lN k) + by').toInt = sg k + by'.toInt := by rw [Int64.toInt_add, i1, bm (by omega) (by omega)]
  obtain ⟨n, hn, en, hI⟩ := fit_I (x_signed (lN k) + by')
  have sI := x_signed_I hn
  rw [en]
  rw [xI] at hI ⊢
  have t1 := @l_cmp_eq (x_signed (lN k) + by') 34359738368
  have t2 := @l_cmp_ge (x_signed (lN k) + by') (-34359738368)
  rw [← Int64.toInt_inj, xI, top_I] at t1
  rw [xI, lmin_I] at t2
  have mx : (34359738367 : Int64).toInt = 34359738367 := by decide
  by_cases c1 : sg k + by'.toInt = 34359738368
  · have ev : x_signed (lN n) = -34359738368 := Int64.toInt_inj.mp (by rw [sI, lmin_I]; unfold sg; split <;> omega)
    rw [if_pos (t1.mpr c1), if_pos (t1.mpr c1), if_neg (by omega), ev]
  · have d1 := mt t1.mp c1
    rw [if_neg d1, if_neg d1]
    by_cases c2 : -34359738368 ≤ sg k + by'.toInt
    · have ev : x_signed (lN n) = x_signed (lN k) + by' := Int64.toInt_inj.mp (by rw [sI, xI]; unfold sg; unfold sg at hI c1 c2 s1; split <;> split at hI <;> split at c2 <;> omega)
      rw [if_pos (t2.mpr c2), if_pos (t2.mpr c2), if_pos (by omega), ev]
    · have d2 := mt t2.mp c2
      have ev : x_signed (lN n) = 34359738367 := Int64.toInt_inj.mp (by rw [sI, mx]; unfold sg; split <;> omega)
      rw [if_neg d2, if_neg d2, ev, if_neg (show ¬ (-2 ^ 35 ≤ sg k + by'.toInt ∧ sg k + by'.toInt < 2 ^ 35) by omega), if_neg d1]
theorem k0_I : (0 : Int64).toInt = 0 := by decide
theorem k1_I : (1 : Int64).toInt = 1 := by decide
theorem km_I : (-1 : Int64).toInt = -1 := by decide
theorem i2l_1 : (1 : Int32).toInt64 = 1 := by decide
theorem i2l_m : (-1 : Int32).toInt64 = -1 := by decide
theorem x_signed_back {w : Int64} (h : rW w) : x_signed w &&& 68719476735 = w := by
  obtain ⟨n, hn, rfl⟩ := h
  have i1 := x_signed_I hn
  obtain ⟨k, hk, e, hI⟩ := fit_I (x_signed (lN n))
  rw [e]
  refine congrArg lN ?_
  rw [i1] at hI
  unfold sg at hI
  split at hI <;> omega
theorem signed_and_W {w : Int64} (h : rW w) (y : Int64) (hy : y = x_signed w) : y &&& 68719476735 = w := by rw [hy]; exact x_signed_back h
theorem rF_over {u : XS} {v : MS} (h : r0 u v) (x : Int64) {f : Int64 × XS → Option XS} {g : MS → Option MS} (k : ∀ u' v', r0 u' v' → X_words u' = X_words u → rF (f (x &&& 68719476735, u')) (g v')) : rF ((x_fitted u x).bind f) ((m_over v (if -2 ^ 35 ≤ x.toInt ∧ x.toInt < 2 ^ 35 then 0 else 1)).bind g) := by
  obtain ⟨u', v', h', f1, f2, f3⟩ := ov_R h x (b10 _) (b10_iff _)
  rw [f1, f2, Option.bind_some, Option.bind_some]
  exact k u' v' h' f3
theorem xf_skipOn {u : XS} {v : MS} (h : r1 u v) (c b : Int32) (w : Int64) : ∃ u', x_skipOnWord u c b w = some u' ∧ r1 u' v := by
  unfold x_skipOnWord x_skipIf
  rw [xf_acz h.2, Option.bind_some, ob_id]
  split
  · exact ⟨_, rfl, h⟩
  · exact ⟨_, rfl, h.1.pcX _, h.2⟩
theorem mf_187 {v : MS} (h : ¬ M_wrong v ≤ 0) (a b c v4 : Int32) (x : Int64) (v8 v11 : Int32) (y : Int64) : m_compare_187 a b c v v4 x v8 v11 y = some v := by
  have h0 : ¬ M_wrong v = 0 := fun e => h (by rw [e]; decide)
  unfold m_compare_187 m_compare_241 m_compare_252 m_compare_214 m_skipIf m_goIf
  simp only [mf_over h0, Option.bind_some, mf_go h0, mf_ac h0, mf_set h]
  repeat' split
  all_goals rfl
theorem mf_122 {v : MS} (h : ¬ M_wrong v ≤ 0) (a b c v4 : Int32) (x : Int64) (v8 : Int32) (y : Int64) : m_compare_122 a b c v v4 x v8 y = some v := by
  unfold m_compare_122 m_compare_148 m_compare_153
  simp only [nmv_eq, mf_187 h]
  repeat' split
  all_goals rfl
set_option maxHeartbeats 2000000 in
theorem compare_R {u : XS} {v : MS} (h : r0 u v) {op n : Nat} (ho : op < 512) (hn : n < 16) {e : Int32} (he : rA e) : rF (x_compare u (nI op) (nI n) e) (m_compare v (nI op) (nI n) e) := by
  have hi := x_ac hn
  have h8 : op % 8 < 8 := Nat.mod_lt _ (by decide)
  have hk8 : op / 8 % 8 < 8 := Nat.mod_lt _ (by decide)
  unfold x_compare m_compare
  rw [nmv_eq, nmv_eq, n_and7, op_rem (by omega) 8 8 rfl (by decide) (by decide), if_neg hi, nI_clamp (by omega), nmv_eq, op_sh (by omega) 3 3 (by decide), n_and7, op_div (by omega) 8 8 rfl (by decide) (by decide), op_rem (by omega) 8 8 rfl (by decide) (by decide), nmv_eq]
  have e23 : op / 2 ^ 3 = op / 8 := rfl
  rw [e23]
  obtain ⟨q, hq, eq⟩ := h.w n
  rw [eq]
  have b39 : ∀ (v' : MS) (t : Int64), M_store v' n = lN q → m_compare_39 (nI op) (nI n) e v' (nI (op % 8)) t = m_skipIf v' (x_holds (nI (op % 8)) (x_signed (lN q) - t)) := by
    intro v' t hv
    unfold m_compare_39
    rw [if_neg hi, nI_clamp (by omega), hv, num_eq hq, ob_id, holds_eq h8]
  have b87e : ∀ (k : Nat) (t : Int64), k % 2 = 0 → k < 8 → m_compare_87 (nI op) (nI n) e v (nI (op % 8)) (nI k) t = m_compare_122 (nI op) (nI n) e v (nI (op % 8)) t 1 (lN q) := by
    intro k t hk hk2
    unfold m_compare_87 m_compare_101
    rw [op_rem (by omega) 2 2 rfl (by decide) (by decide), hk, if_pos (show nI 0 = 0 from rfl), if_neg (show ¬ (1 : Int32) = 0 by decide), if_neg hi, nI_clamp (by omega), h.words, eq]
  have b87o : ∀ (k : Nat) (t : Int64), k % 2 = 1 → k < 8 → m_compare_87 (nI op) (nI n) e v (nI (op % 8)) (nI k) t = (m_get v e).bind (fun z119 => m_compare_122 (nI op) (nI n) e z119.2 (nI (op % 8)) t 0 z119.1) := by
    intro k t hk hk2
    unfold m_compare_87 m_compare_101
    rw [op_rem (by omega) 2 2 rfl (by decide) (by decide), hk, if_neg (show ¬ nI 1 = 0 by decide), if_pos (show (0 : Int32) = 0 from rfl)]
  have b241 : ∀ (v' : MS) (y : Int64), m_compare_241 (nI op) (nI n) e v' (nI (op % 8)) y = (if nI n ≤ 0 then some v' else m_setAc v' (nI n) y).bind (fun z => m_skipIf z (x_holds (nI (op % 8)) y)) := by
    intro v' y
    unfold m_compare_241 m_compare_252
    rw [← holds_eq h8]
    simp only [ob_id]
    split <;> rfl
  have b214 : ∀ (v' : MS) (y : Int64), m_compare_214 (nI op) (nI n) e v' (nI (op % 8)) y = m_goIf v' (x_holds (nI (op % 8)) y) e := by
    intro v' y
    unfold m_compare_214
    rw [ob_id, holds_eq h8]
  -- C(AC) counted
  have cJ : ∀ by' : Int32, (by' = 1 ∨ by' = -1) → rF (x_countAndJump u (nI (op % 8)) (nI n) e by') (m_compare_122 (nI op) (nI n) e v (nI (op % 8)) by'.toInt64 1 (lN q)) := by
    intro by' hb
    have hby : -1 ≤ by'.toInt64.toInt ∧ by'.toInt64.toInt ≤ 1 ∧ ¬ lg_cmp by'.toInt64 0 = 0 := by rcases hb with rfl | rfl <;> decide
    unfold x_countAndJump
    rw [if_neg hi, nI_clamp (by omega), eq, m122 _ _ _ _ _ _ ⟨hby.1, hby.2.1⟩ _ hq]
    unfold m_compare_187
    refine rF_over h _ (fun u' v' h' hw => ?_)
    show rF ((x_setAccumulator u' (nI n) ((x_signed (lN q) + by'.toInt64) &&& 68719476735)).bind _) _
    rw [if_neg (show ¬ (1 : Int32) = 0 by decide), if_neg hby.2.2, ← m_setAc_and, x_signed_back (and_W _)]
    refine rF.bind (acW_R (Or.inl h') hn (and_W _)) (fun u2 v2 hr => ?_)
    rw [ob_id, b214]
    exact jump_R hr (fun _ => rfl) he
  -- (E) counted
  have cS : ∀ by' : Int32, (by' = 1 ∨ by' = -1) → rF (x_countAndSkip u (nI (op % 8)) (nI n) e by') ((m_get v e).bind (fun z119 => m_compare_122 (nI op) (nI n) e z119.2 (nI (op % 8)) by'.toInt64 0 z119.1)) := by
    intro by' hb
    have hby : -1 ≤ by'.toInt64.toInt ∧ by'.toInt64.toInt ≤ 1 ∧ ¬ lg_cmp by'.toInt64 0 = 0 := by rcases hb with rfl | rfl <;> decide
    unfold x_countAndSkip
    rcases read_cases h he with ⟨w, ⟨k, hk, rfl⟩, e1, e2⟩ | ⟨e1, e2⟩
    · rw [e1, e2, Option.bind_some, Option.bind_some]
      show rF ((x_fitted u (x_signed (lN k) + by'.toInt64)).bind _) (m_compare_122 (nI op) (nI n) e v (nI (op % 8)) by'.toInt64 0 (lN k))
      rw [m122 _ _ _ _ _ _ ⟨hby.1, hby.2.1⟩ _ hk]
      unfold m_compare_187
      refine rF_over h _ (fun u' v' h' hw => ?_)
      show rF ((x_write u' e ((x_signed (lN k) + by'.toInt64) &&& 68719476735)).bind _) _
      rw [if_pos (show (0 : Int32) = 0 from rfl), if_neg hby.2.2, ← m_set_and, x_signed_back (and_W _)]
      have hfin : ∀ u2 v2, rR u2 v2 → rF ((x_skipOnWord u2 (nI (op % 8)) (nI n) ((x_signed (lN k) + by'.toInt64) &&& 68719476735)).bind fun z30 => some z30) (m_compare_241 (nI op) (nI n) e v2 (nI (op % 8)) (x_signed ((x_signed (lN k) + by'.toInt64) &&& 68719476735))) := by
        intro u2 v2 hr
        rw [ob_id, b241]
        unfold x_skipOnWord
        refine rF.bind (acz_R hr hn (fun _ => ⟨and_W _, x_signed_back (and_W _)⟩)) (fun u3 v3 hr3 => ?_)
        rw [ob_id]
        exact skip_R hr3 (fun _ => rfl)
      rcases write_cases h' he (and_W (x_signed (lN k) + by'.toInt64)) with ⟨j, hj, f1, f2⟩ | ⟨f1, f2⟩
      · rw [f1, f2, Option.bind_some, Option.bind_some]
        exact hfin _ _ (Or.inl (h'.put (and_W _) j))
      · rw [f1, f2, Option.bind_some, Option.bind_some]
        exact hfin _ _ (Or.inr h'.t1)
    · have h1 := h.t1
      rw [e1, e2, Option.bind_some, Option.bind_some, mf_122 h1.pos]
      show rF ((x_fitted (X_s_trap u 1) _).bind _) _
      rw [xf_fitted h1.2, Option.bind_some]
      show rF ((x_write (X_s_trap u 1) e _).bind _) _
      rw [xf_write h1.2, Option.bind_some, ob_id]
      obtain ⟨u', f1, f2⟩ := xf_skipOn h1 (nI (op % 8)) (nI n) ((x_signed 0 + by'.toInt64) &&& 68719476735)
      exact ⟨u', _, f1, rfl, Or.inr f2⟩
  rcases (show op / 8 % 8 = 0 ∨ op / 8 % 8 = 1 ∨ op / 8 % 8 = 2 ∨ op / 8 % 8 = 3 ∨ op / 8 % 8 = 4 ∨ op / 8 % 8 = 5 ∨ op / 8 % 8 = 6 ∨ op / 8 % 8 = 7 by omega) with d | d | d | d | d | d | d | d <;> rw [d]
  · rw [if_pos (show nI 0 = 0 from rfl), if_neg (show ¬ (2 : Int32) ≤ nI 0 by decide), if_pos (show nI 0 = 0 from rfl), ob_id, b39 v _ (by rw [h.words, eq])]
    exact skip_R (Or.inl h) (fun _ => rfl)
  · rw [if_neg (show ¬ nI 1 = 0 by decide), if_pos (show nI 1 = 1 from rfl), if_neg (show ¬ (2 : Int32) ≤ nI 1 by decide), if_neg (show ¬ nI 1 = 0 by decide)]
    rcases read_cases h he with ⟨w, ⟨k, hk, rfl⟩, e1, e2⟩ | ⟨e1, e2⟩
    · rw [e1, e2, Option.bind_some, Option.bind_some]
      show rF ((x_skipIf u (x_holds (nI (op % 8)) (x_signed (lN q) - x_signed (lN k)))).bind _) (m_compare_39 (nI op) (nI n) e v (nI (op % 8)) (m_num (lN k)))
      rw [ob_id, b39 v _ (by rw [h.words, eq]), num_eq hk]
      exact skip_R (Or.inl h) (fun _ => rfl)
    · have h1 := h.t1
      rw [e1, e2, Option.bind_some, Option.bind_some, ob_id]
      show rF _ (m_compare_39 (nI op) (nI n) e (M_s_wrong v 1) (nI (op % 8)) (m_num 0))
      rw [b39 (M_s_wrong v 1) _ (show M_store v n = lN q by rw [h.words, eq])]
      exact skip_R (Or.inr h1) (fun z => absurd z.2.1 h1.2)
  · rw [if_neg (show ¬ nI 2 = 0 by decide), if_neg (show ¬ nI 2 = 1 by decide), if_pos (show nI 2 = 2 from rfl), if_pos (show (2 : Int32) ≤ nI 2 by decide), if_neg (show ¬ (4 : Int32) ≤ nI 2 by decide), b87e 2 0 rfl (by decide), m122 _ _ _ _ _ _ (by rw [k0_I]; decide) _ hq, ob_id]
    have e0 : x_signed (lN q) + 0 = x_signed (lN q) := Int64.add_zero _
    have s1 := sg_lo q hq
    have i1 := x_signed_I hq
    rw [e0, if_pos (by rw [i1]; exact s1), x_signed_back ⟨q, hq, rfl⟩]
    unfold m_compare_187
    rw [m_over_0, Option.bind_some, if_neg (show ¬ (1 : Int32) = 0 by decide), if_pos (show lg_cmp 0 0 = 0 by decide), b214]
    exact jump_R (Or.inl h) (fun _ => rfl) he
  · rw [if_neg (show ¬ nI 3 = 0 by decide), if_neg (show ¬ nI 3 = 1 by decide), if_neg (show ¬ nI 3 = 2 by decide), if_pos (show nI 3 = 3 from rfl), if_pos (show (2 : Int32) ≤ nI 3 by decide), if_neg (show ¬ (4 : Int32) ≤ nI 3 by decide), b87o 3 0 rfl (by decide)]
    rcases read_cases h he with ⟨w, ⟨k, hk, rfl⟩, e1, e2⟩ | ⟨e1, e2⟩
    · rw [e1, e2, Option.bind_some, Option.bind_some, ob_id]
      show rF (x_skipOnWord u (nI (op % 8)) (nI n) (lN k)) (m_compare_122 (nI op) (nI n) e v (nI (op % 8)) 0 0 (lN k))
      have e0 : x_signed (lN k) + 0 = x_signed (lN k) := Int64.add_zero _
      have s1 := sg_lo k hk
      have i1 := x_signed_I hk
      rw [m122 _ _ _ _ _ _ (by rw [k0_I]; decide) _ hk, e0, if_pos (by rw [i1]; exact s1), x_signed_back ⟨k, hk, rfl⟩]
      unfold m_compare_187
      rw [m_over_0, Option.bind_some, if_pos (show (0 : Int32) = 0 from rfl), if_pos (show lg_cmp 0 0 = 0 by decide), b241]
      unfold x_skipOnWord
      refine rF.bind (acz_R (Or.inl h) hn (fun _ => ⟨⟨k, hk, rfl⟩, x_signed_back ⟨k, hk, rfl⟩⟩)) (fun u3 v3 hr3 => ?_)
      rw [ob_id]
      exact skip_R hr3 (fun _ => rfl)
    · have h1 := h.t1
      rw [e1, e2, Option.bind_some, Option.bind_some, mf_122 h1.pos, ob_id]
      obtain ⟨u', f1, f2⟩ := xf_skipOn h1 (nI (op % 8)) (nI n) 0
      exact ⟨u', _, f1, rfl, Or.inr f2⟩
  · rw [if_neg (show ¬ nI 4 = 0 by decide), if_neg (show ¬ nI 4 = 1 by decide), if_neg (show ¬ nI 4 = 2 by decide), if_neg (show ¬ nI 4 = 3 by decide), if_pos (show nI 4 = 4 from rfl), if_pos (show (2 : Int32) ≤ nI 4 by decide), if_pos (show (4 : Int32) ≤ nI 4 by decide), if_neg (show ¬ (6 : Int32) ≤ nI 4 by decide), b87e 4 1 rfl (by decide), ob_id]
    exact cJ 1 (Or.inl rfl)
  · rw [if_neg (show ¬ nI 5 = 0 by decide), if_neg (show ¬ nI 5 = 1 by decide), if_neg (show ¬ nI 5 = 2 by decide), if_neg (show ¬ nI 5 = 3 by decide), if_neg (show ¬ nI 5 = 4 by decide), if_pos (show nI 5 = 5 from rfl), if_pos (show (2 : Int32) ≤ nI 5 by decide), if_pos (show (4 : Int32) ≤ nI 5 by decide), if_neg (show ¬ (6 : Int32) ≤ nI 5 by decide), b87o 5 1 rfl (by decide), ob_id]
    exact cS 1 (Or.inl rfl)
  · rw [if_neg (show ¬ nI 6 = 0 by decide), if_neg (show ¬ nI 6 = 1 by decide), if_neg (show ¬ nI 6 = 2 by decide), if_neg (show ¬ nI 6 = 3 by decide), if_neg (show ¬ nI 6 = 4 by decide), if_neg (show ¬ nI 6 = 5 by decide), if_pos (show nI 6 = 6 from rfl), if_pos (show (2 : Int32) ≤ nI 6 by decide), if_pos (show (4 : Int32) ≤ nI 6 by decide), if_pos (show (6 : Int32) ≤ nI 6 by decide), b87e 6 (-1) rfl (by decide), ob_id]
    exact cJ (-1) (Or.inr rfl)
  · rw [if_neg (show ¬ nI 7 = 0 by decide), if_neg (show ¬ nI 7 = 1 by decide), if_neg (show ¬ nI 7 = 2 by decide), if_neg (show ¬ nI 7 = 3 by decide), if_neg (show ¬ nI 7 = 4 by decide), if_neg (show ¬ nI 7 = 5 by decide), if_neg (show ¬ nI 7 = 6 by decide), if_pos (show (2 : Int32) ≤ nI 7 by decide), if_pos (show (4 : Int32) ≤ nI 7 by decide), if_pos (show (6 : Int32) ≤ nI 7 by decide), b87o 7 (-1) rfl (by decide), ob_id]
    exact cS (-1) (Or.inr rfl)
