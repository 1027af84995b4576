/-! E, and what is taken for I and XCT -/
theorem m_get_ac {u : XS} {v : MS} (h : r0 u v) {k : Nat} (hk : k < 16) : m_get v (nI k) = some (X_words u k, v) := by
  have hw : m_where v (nI k) = some (nI k, v) := by
    unfold m_where
    by_cases hu : M_user v = 0
    · rw [if_pos hu]; exact where63_ok h.wrong _ (by omega)
    · rw [if_neg hu, if_pos (by rw [le_c (by omega) 15 15 rfl (by decide)]; omega)]; exact where63_ok h.wrong _ (by omega)
  unfold m_get
  rw [hw, Option.bind_some]
  show (if 0 ≤ nI k then (if nI k < 0 ∨ 1024 ≤ (nI k).toNatClampNeg then none else some (M_store v (nI k).toNatClampNeg, v)) else some ((0 : Int64), v)) = _
  rw [if_pos (nneg (by omega)), if_neg (in_idx (by omega)), nI_clamp (by omega), h.words]
theorem x_ac {n : Nat} (hn : n < 16) : ¬ (nI n < 0 ∨ 1024 ≤ (nI n).toNatClampNeg) := in_idx (by omega)
theorem x_right_W {w : Int64} (h : rW w) : rA (x_right w) := by
  obtain ⟨n, hn, rfl⟩ := h
  exact ⟨n % 262144, Nat.mod_lt _ (by decide), x_right_N n⟩
theorem x_wrapped_A (n : Nat) : x_wrapped (nI n) = nI (n % 262144) := by unfold x_wrapped; exact n_and18 n
/-- one round of E: the word's X and Y -/
theorem indexed_N (u : XS) (hW : ∀ n, rW (X_words u n)) {n : Nat} (hn : n < 2 ^ 36) : ∃ e, e < 262144 ∧ x_indexed u (lN n) = some (nI e, u) ∧ e = (if n / 262144 % 16 = 0 then n % 262144 else (n % 262144 + (X_words u (n / 262144 % 16)).toBitVec.toNat % 262144) % 262144) := by
  have e1 : ((((lN n).toUInt64 >>> ((18 : Int32).toInt64.toUInt64 &&& Int64.toUInt64 63)).toInt64).toInt32) &&& (15 : Int32) = nI (n / 262144 % 16) := by
    rw [l_ushrN (by omega) 18 18 (by decide), lN_i, n_and15]
  refine ⟨_, ?_, ?_, rfl⟩
  · split
    · exact Nat.mod_lt _ (by decide)
    · exact Nat.mod_lt _ (by decide)
  · unfold x_indexed
    rw [e1, nmv_eq, x_right_N, nmv_eq]
    by_cases hz : n / 262144 % 16 = 0
    · rw [if_pos (by rw [hz]; rfl), if_pos hz]
    · have hx : n / 262144 % 16 < 16 := Nat.mod_lt _ (by decide)
      obtain ⟨k, hk, ek⟩ := hW (n / 262144 % 16)
      rw [if_neg (by rw [eq_c (by omega) 0 0 rfl (by decide)]; exact hz), if_neg (x_ac hx), nI_clamp (by omega), if_neg hz, ek, x_right_N, nI_add, x_wrapped_A, wb_tn (by omega)]
theorem isInd_N {n : Nat} (hn : n < 2 ^ 36) : x_isIndirect (lN n) = if n / 4194304 % 2 = 0 then 0 else 1 := by
  unfold x_isIndirect
  rw [l_ushrN (by omega) 22 22 (by decide), wb_a1 (by have := Nat.div_le_self n (2 ^ 22); omega)]
  simp only [l_cmp_eq]
  have e : (lN (n / 2 ^ 22 % 2) = 0) ↔ n / 4194304 % 2 = 0 := by
    have h := pk_lEQ (a := n / 2 ^ 22 % 2) (b := 0) (by omega) (by decide)
    exact h
  by_cases h : n / 4194304 % 2 = 0
  · rw [if_pos (e.mpr h), if_pos h]
  · rw [if_neg (fun z => h (e.mp z)), if_neg h]
/-- taking a word: it is there, one more is taken; or a trap in both -/
theorem take_cases {u : XS} {v : MS} (h : r0 u v) {t : Nat} (ht : t ≤ 8) (et : X_taken u = nI t) {a : Int32} (ha : rA a) :
    (∃ w vc, rW w ∧ t < 8 ∧ x_take u a = some (w, X_s_taken u (nI (t + 1))) ∧ m_count v = some vc ∧ m_get vc a = some (w, M_s_taken v (nI (t + 1))) ∧ r0 (X_s_taken u (nI (t + 1))) (M_s_taken v (nI (t + 1)))) ∨
    (∃ u' v' vc, x_take u a = some (0, u') ∧ m_count v = some vc ∧ m_get vc a = some (0, v') ∧ r1 u' v' ∧ X_words u' = X_words u) := by
  have em : M_taken v = nI t := h.2.2.2.2.1.trans et
  by_cases h8 : t = 8
  · subst h8
    refine Or.inr ⟨X_s_trap u 4, M_s_wrong (M_s_taken v (nI 9)) 4, M_s_wrong (M_s_taken v (nI 9)) 4, ?_, ?_, ?_, ?_, rfl⟩
    · unfold x_take
      rw [if_pos (show X_taken u = 8 from et), x_raise_0 h.2.1]
      rfl
    · unfold m_count
      have e1 : M_taken v + 1 = nI 9 := by rw [em]; rfl
      rw [e1]
      have e2 : M_taken (M_s_taken v (nI 9)) = nI 9 := rfl
      rw [e2, if_neg (by decide), fail_0 (show M_wrong (M_s_taken v (nI 9)) = 0 from h.wrong)]
      rfl
    · exact mf_get (v := M_s_wrong (M_s_taken v (nI 9)) 4) (show ¬ (4 : Int32) ≤ 0 by decide) a
    · exact ⟨((h.1.takenM (nI 9)).trap (c := 4) (Or.inr (Or.inr (Or.inr rfl)))), show ¬ (4 : Int32) = 0 by decide⟩
  · have h' : r0 (X_s_taken u (nI (t + 1))) (M_s_taken v (nI (t + 1))) := ⟨h.1.taken _ _, h.2.1, h.2.2.1, h.2.2.2.1, rfl, t + 1, by omega, rfl⟩
    have ex : x_take u a = (x_read (X_s_taken u (nI (t + 1))) a).bind (fun z28 => some (z28.1, z28.2)) := by
      unfold x_take
      rw [if_neg (by rw [et, eq_c (by omega) 8 8 rfl (by decide)]; exact h8), et, nI_1]
    have ec : m_count v = some (M_s_taken v (nI (t + 1))) := by
      unfold m_count
      have e1 : M_taken v + 1 = nI (t + 1) := by rw [em, nI_1]
      rw [e1]
      have e2 : M_taken (M_s_taken v (nI (t + 1))) = nI (t + 1) := rfl
      rw [e2, if_pos (by rw [le_c (by omega) 8 8 rfl (by decide)]; omega)]
    rcases read_cases h' ha with ⟨w, hw, e1, e2⟩ | ⟨e1, e2⟩
    · exact Or.inl ⟨w, _, hw, by omega, by rw [ex, e1]; rfl, ec, e2, h'⟩
    · exact Or.inr ⟨X_s_trap (X_s_taken u (nI (t + 1))) 1, M_s_wrong (M_s_taken v (nI (t + 1))) 1, _, by rw [ex, e1]; rfl, ec, e2, h'.trap (Or.inr (Or.inl rfl)) (by decide), rfl⟩
def rV (st : Int32) (a : Option (Int32 × XS)) (b : Option (Int32 × MS)) : Prop := (∃ e u v, a = some (e, u) ∧ b = some (e, v) ∧ r0 u v ∧ rA e ∧ X_stopped u = st) ∨ (∃ e e' u v, a = some (e, u) ∧ b = some (e', v) ∧ r1 u v)
theorem xe_stop (a0 : Int64) (k : Nat) {u : XS} (h : ¬ X_trap u = 0) (w : Int64) (e i : Int32) : x_effective_12 a0 (k + 1) u w e i = some (e, u) := by
  rw [x_effective_12, if_neg h]
  split <;> rfl
theorem me_stop (a0 : Int64) (k : Nat) {v : MS} (h : ¬ M_wrong v = 0) (w : Int64) (e i : Int32) : m_effective_8 a0 (k + 1) v w e i = some (e, v) := by
  rw [m_effective_8, if_neg h]
  split <;> rfl
theorem indexed_any (u : XS) (w : Int64) : ∃ e, x_indexed u w = some (e, u) := by
  obtain ⟨n, hn, rfl⟩ := wb_of w
  have e1 : ((((lN n).toUInt64 >>> ((18 : Int32).toInt64.toUInt64 &&& Int64.toUInt64 63)).toInt64).toInt32) &&& (15 : Int32) = nI (n / 2 ^ 18 % 16) := by
    have h := g_ushr (a := n) (k := 18) (p := 2 ^ 18) (y := ((18 : Int32).toInt64.toUInt64 &&& Int64.toUInt64 63)) (by decide) (by decide) rfl hn
    rw [h, lN_i, n_and15]
  unfold x_indexed
  rw [e1, nmv_eq, nmv_eq]
  split
  · exact ⟨_, rfl⟩
  · rw [if_neg (x_ac (Nat.mod_lt _ (by decide)))]
    exact ⟨_, rfl⟩
set_option maxHeartbeats 1000000 in
theorem eff_loop (a0 a1 : Int64) (st : Int32) : ∀ (j k k' i t n : Nat) (u : XS) (v : MS) (e : Nat) (v5 : Int32), t + j = 9 → t ≤ 8 → i ≤ t → j + 1 ≤ k → j + 2 ≤ k' → r0 u v → X_taken u = nI t → n < 2 ^ 36 → e < 262144 → x_indexed u (lN n) = some (nI e, u) → X_stopped u = st →
    rV st (x_effective_12 a0 k u (lN n) (nI e) (nI i)) (m_effective_8 a1 k' v (lN n) v5 1) := by
  intro j
  induction j with
  | zero => intro k k' i t n u v e v5 h1 h2; omega
  | succ j IH =>
    intro k k' i t n u v e v5 h1 h2 h3 hk hk' h et hn he hx hst
    obtain ⟨k, rfl⟩ : ∃ q, k = q + 1 := ⟨k - 1, by omega⟩
    obtain ⟨k', rfl⟩ : ∃ q, k' = q + 1 := ⟨k' - 1, by omega⟩
    rw [x_effective_12, if_neg (by rw [gt_c (by omega) 8 8 rfl (by decide)]; omega), if_pos h.2.1, isInd_N hn]
    have n1 : ¬ (1 : Int32) = 0 := by decide
    rw [m_effective_8, if_neg n1, if_pos h.wrong]
    -- the reference's E of this round
    have em : nmv (((lN n >>> ((18 : Int32).toInt64 &&& 63)) &&& (15 : Int64)).toInt32) (fun x29 => if x29 ≤ 0 then m_effective_49 (fun w0 w1 w2 w3 => m_effective_8 a1 k' w0 w1 w2 w3) a1 v (lN n) (0 : Int32) else (m_get v x29).bind (fun z39 => m_effective_49 (fun w0 w1 w2 w3 => m_effective_8 a1 k' w0 w1 w2 w3) a1 z39.2 (lN n) (m_right z39.1))) = if n / 4194304 % 2 = 0 then m_effective_8 a1 k' v (lN n) (nI e) 0 else (m_count v).bind (fun z86 => (m_get z86 (nI e)).bind (fun z92 => m_effective_8 a1 k' z92.2 z92.1 (nI e) 1)) := by
      have e0 : ((lN n >>> ((18 : Int32).toInt64 &&& 63)) &&& (15 : Int64)).toInt32 = nI (n / 262144 % 16) := by
        have hd := Nat.div_le_self n (2 ^ 18)
        have hq := wb_mask (n := n / 2 ^ 18) (k := 4) (by omega) (by decide)
        rw [l_shrN (by omega) 18 18 (by decide)]
        have hq2 : lN (n / 2 ^ 18) &&& (15 : Int64) = lN (n / 2 ^ 18 % 2 ^ 4) := hq
        rw [hq2, lN_i]
      have e9 : ∀ t0 : Int32, ((m_right (lN n)) + t0) &&& (262143 : Int32) = nI e → m_effective_49 (fun w0 w1 w2 w3 => m_effective_8 a1 k' w0 w1 w2 w3) a1 v (lN n) t0 = if n / 4194304 % 2 = 0 then m_effective_8 a1 k' v (lN n) (nI e) 0 else (m_count v).bind (fun z86 => (m_get z86 (nI e)).bind (fun z92 => m_effective_8 a1 k' z92.2 z92.1 (nI e) 1)) := by
        intro t0 ht0
        unfold m_effective_49
        have hb : m_bit (lN n) (22 : Int32) = nI (n / 4194304 % 2) := m_bit_N (k := 22) (by omega) (by decide)
        rw [ht0, nmv_eq, hb]
        unfold m_effective_78 m_effective_96
        have h2 : n / 4194304 % 2 < 2 := Nat.mod_lt _ (by decide)
        by_cases hi : n / 4194304 % 2 = 0
        · rw [if_pos hi, if_neg (by rw [hi]; decide), if_pos (show (0 : Int32) = 0 from rfl)]
        · have hi1 : n / 4194304 % 2 = 1 := by omega
          rw [if_neg hi, if_pos (by rw [hi1]; rfl), if_neg n1]
      obtain ⟨e', he', hx', eq'⟩ := indexed_N u h.1.1.1 hn
      have ee : e = e' := by
        rw [hx] at hx'
        have := congrArg Prod.fst (Option.some.inj hx')
        exact (nI_eq (by omega) (by omega)).mp this
      rw [e0, nmv_eq]
      by_cases hz : n / 262144 % 16 = 0
      · rw [if_pos (by rw [hz]; decide)]
        exact e9 0 (by rw [m_right_N hn, Int32.add_zero, n_and18, ee, eq', if_pos hz, Nat.mod_mod])
      · have hlt : n / 262144 % 16 < 16 := Nat.mod_lt _ (by decide)
        rw [if_neg (by rw [le_c (by omega) 0 0 rfl (by decide)]; omega), m_get_ac h hlt, Option.bind_some]
        obtain ⟨q, hq, eqq⟩ := h.w (n / 262144 % 16)
        refine e9 _ ?_
        show ((m_right (lN n)) + m_right (X_words u (n / 262144 % 16))) &&& (262143 : Int32) = nI e
        rw [eqq, m_right_N hn, m_right_N hq, nI_add, n_and18, ee, eq', if_neg hz, eqq, wb_tn (by omega)]
    rw [em]
    by_cases hi : n / 4194304 % 2 = 0
    · rw [if_pos hi, if_pos (show (0 : Int32) = 0 from rfl), if_pos hi]
      obtain ⟨k', rfl⟩ : ∃ q, k' = q + 1 := ⟨k' - 1, by omega⟩
      rw [m_effective_8, if_pos rfl]
      exact Or.inl ⟨_, _, _, rfl, rfl, h, ⟨e, he, rfl⟩, hst⟩
    · rw [if_neg hi, if_neg n1, if_neg hi]
      obtain ⟨k, rfl⟩ : ∃ q, k = q + 1 := ⟨k - 1, by omega⟩
      obtain ⟨k', rfl⟩ : ∃ q, k' = q + 1 := ⟨k' - 1, by omega⟩
      rcases take_cases h h2 et (a := nI e) ⟨e, he, rfl⟩ with ⟨w, vc, ⟨n', hn', rfl⟩, ht8, e1, e2, e3, h'⟩ | ⟨u', v', vc, e1, e2, e3, h', -⟩
      · rw [e1, Option.bind_some, e2, Option.bind_some, e3, Option.bind_some]
        obtain ⟨e'', he'', hx'', -⟩ := indexed_N (X_s_taken u (nI (t + 1))) h'.1.1.1 hn'
        show rV st ((x_indexed (X_s_taken u (nI (t + 1))) (lN n')).bind _) _
        rw [hx'', Option.bind_some]
        have hi1 : nI i + Int32.ofInt 1 = nI (i + 1) := nI_1 i
        rw [hi1]
        exact IH (k + 1) (k' + 1) (i + 1) (t + 1) n' _ _ e'' _ (by omega) (by omega) (by omega) (by omega) (by omega) h' rfl hn' he'' hx'' hst
      · rw [e1, Option.bind_some, e2, Option.bind_some, e3, Option.bind_some]
        obtain ⟨e'', hx''⟩ := indexed_any u' 0
        show rV st ((x_indexed u' 0).bind _) _
        rw [hx'', Option.bind_some, xe_stop _ _ h'.2, me_stop _ _ h'.wrong]
        exact Or.inr ⟨_, _, _, _, rfl, rfl, h'⟩
theorem effective_R {u : XS} {v : MS} (h : r0 u v) {w : Int64} (hw : rW w) : rV (X_stopped u) (x_effective u w) (m_effective v w) := by
  obtain ⟨n, hn, rfl⟩ := hw
  obtain ⟨t, ht, et⟩ := h.2.2.2.2.2
  obtain ⟨e, he, hx, -⟩ := indexed_N u h.1.1.1 hn
  unfold x_effective m_effective
  rw [hx, Option.bind_some]
  exact eff_loop _ _ _ (9 - t) 11 11 0 t n u v e _ (by omega) ht (by omega) (by omega) (by omega) h et hn he hx rfl
