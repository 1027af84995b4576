/-! the relation between the class's state and the reference's -/
def rW (w : Int64) : Prop := ∃ n, n < 2 ^ 36 ∧ w = lN n
def rA (a : Int32) : Prop := ∃ n, n < 262144 ∧ a = nI n
def rE (a : Int32) : Prop := ∃ n, n ≤ 1024 ∧ a = nI n
def rB (a : Int32) : Prop := a = 0 ∨ a = 1
def rT (a : Int32) : Prop := a = 0 ∨ a = 1 ∨ a = 2 ∨ a = 4
def rInv (u : XS) : Prop := (∀ n, rW (X_words u n)) ∧ rE (X_lowBase u) ∧ rE (X_lowBound u) ∧ rE (X_highBase u) ∧ rE (X_highBound u) ∧ rB (X_user u) ∧ rB (X_overflow u)
def rQ (u : XS) (v : MS) : Prop := rInv u ∧ rT (X_trap u) ∧ M_store v = X_words u ∧ M_base v 0 = X_lowBase u ∧ M_base v 1 = X_highBase u ∧ M_bound v 0 = X_lowBound u ∧ M_bound v 1 = X_highBound u ∧ M_user v = X_user u ∧ M_overflow v = X_overflow u ∧ M_stopped v = X_stopped u ∧ M_steps v = X_steps u ∧ M_traps v = X_traps u ∧ M_latest v = X_latestTrap u ∧ M_wrong v = X_trap u
/-- no trap yet: all agrees -/
def r0 (u : XS) (v : MS) : Prop := rQ u v ∧ X_trap u = 0 ∧ M_pc v = X_pc u ∧ rA (X_pc u) ∧ M_taken v = X_taken u ∧ ∃ t, t ≤ 8 ∧ X_taken u = nI t
/-- a trap stands: PC and what was taken count no more -/
def r1 (u : XS) (v : MS) : Prop := rQ u v ∧ ¬ X_trap u = 0
def rR (u : XS) (v : MS) : Prop := r0 u v ∨ r1 u v
def rF (a : Option XS) (b : Option MS) : Prop := ∃ u v, a = some u ∧ b = some v ∧ rR u v
theorem r0.words {u : XS} {v : MS} (h : r0 u v) : M_store v = X_words u := h.1.2.2.1
theorem r0.wrong {u : XS} {v : MS} (h : r0 u v) : M_wrong v = 0 := h.1.2.2.2.2.2.2.2.2.2.2.2.2.2.trans h.2.1
theorem r1.wrong {u : XS} {v : MS} (h : r1 u v) : ¬ M_wrong v = 0 := by rw [h.1.2.2.2.2.2.2.2.2.2.2.2.2.2]; exact h.2
theorem r0.user {u : XS} {v : MS} (h : r0 u v) : M_user v = X_user u := h.1.2.2.2.2.2.2.2.1
theorem r0.w {u : XS} {v : MS} (h : r0 u v) (n : Nat) : rW (X_words u n) := h.1.1.1 n
theorem r1.pos {u : XS} {v : MS} (h : r1 u v) : ¬ M_wrong v ≤ 0 := by
  have e := h.1.2.2.2.2.2.2.2.2.2.2.2.2.2
  rw [e]
  rcases h.1.2.1 with t | t | t | t
  · exact absurd t h.2
  · rw [t]; decide
  · rw [t]; decide
  · rw [t]; decide
theorem rQ.words {u : XS} {v : MS} (h : rQ u v) {f : Nat → Int64} (hf : ∀ n, rW (f n)) : rQ (X_s_words u f) (M_s_store v f) := ⟨⟨hf, h.1.2⟩, h.2.1, rfl, h.2.2.2⟩
theorem rQ.over {u : XS} {v : MS} (h : rQ u v) : rQ (X_s_overflow u 1) (M_s_overflow v 1) := by
  obtain ⟨⟨i1, i2, i3, i4, i5, i6, i7⟩, q1, q2, q3, q4, q5, q6, q7, q8, q9⟩ := h
  exact ⟨⟨i1, i2, i3, i4, i5, i6, Or.inr rfl⟩, q1, q2, q3, q4, q5, q6, q7, rfl, q9⟩
theorem rQ.pc {u : XS} {v : MS} (h : rQ u v) (p q : Int32) : rQ (X_s_pc u p) (M_s_pc v q) := h
theorem rQ.pcX {u : XS} {v : MS} (h : rQ u v) (p : Int32) : rQ (X_s_pc u p) v := h
theorem rQ.pcM {u : XS} {v : MS} (h : rQ u v) (p : Int32) : rQ u (M_s_pc v p) := h
theorem rQ.taken {u : XS} {v : MS} (h : rQ u v) (p q : Int32) : rQ (X_s_taken u p) (M_s_taken v q) := h
theorem rQ.takenM {u : XS} {v : MS} (h : rQ u v) (q : Int32) : rQ u (M_s_taken v q) := h
theorem rQ.trap {u : XS} {v : MS} (h : rQ u v) {c : Int32} (hc : rT c) : rQ (X_s_trap u c) (M_s_wrong v c) := by
  obtain ⟨i, q1, q2, q3, q4, q5, q6, q7, q8, q9, q10, q11, q12, q13⟩ := h
  exact ⟨i, hc, q2, q3, q4, q5, q6, q7, q8, q9, q10, q11, q12, rfl⟩
theorem rQ.user {u : XS} {v : MS} (h : rQ u v) {b : Int32} (hb : rB b) : rQ (X_s_user u b) (M_s_user v b) := by
  obtain ⟨⟨i1, i2, i3, i4, i5, i6, i7⟩, q1, q2, q3, q4, q5, q6, q7, q8⟩ := h
  exact ⟨⟨i1, i2, i3, i4, i5, hb, i7⟩, q1, q2, q3, q4, q5, q6, rfl, q8⟩
theorem rQ.stopped {u : XS} {v : MS} (h : rQ u v) (b : Int32) : rQ (X_s_stopped u b) (M_s_stopped v b) := by
  obtain ⟨i, q1, q2, q3, q4, q5, q6, q7, q8, q9, q10⟩ := h
  exact ⟨i, q1, q2, q3, q4, q5, q6, q7, q8, rfl, q10⟩
theorem r0.trap {u : XS} {v : MS} (h : r0 u v) {c : Int32} (hc : rT c) (h0 : ¬ c = 0) : r1 (X_s_trap u c) (M_s_wrong v c) := ⟨h.1.trap hc, h0⟩
theorem upd_W {f : Nat → Int64} (h : ∀ n, rW (f n)) {w : Int64} (hw : rW w) (k : Nat) : ∀ n, rW (vp_updL f k w n) := fun n => by
  unfold vp_updL
  split
  · exact hw
  · exact h n
theorem r0.put {u : XS} {v : MS} (h : r0 u v) {w : Int64} (hw : rW w) (k : Nat) : r0 (X_s_words u (vp_updL (X_words u) k w)) (M_s_store v (vp_updL (X_words u) k w)) := ⟨h.1.words (upd_W h.1.1.1 hw k), h.2.1, h.2.2.1, h.2.2.2⟩
theorem r0.ovf {u : XS} {v : MS} (h : r0 u v) : r0 (X_s_overflow u 1) (M_s_overflow v 1) := ⟨h.1.over, h.2⟩
theorem r0.jump {u : XS} {v : MS} (h : r0 u v) {p : Int32} (hp : rA p) : r0 (X_s_pc u p) (M_s_pc v p) := ⟨h.1.pc p p, h.2.1, rfl, hp, h.2.2.2.2⟩
-- comparisons with numbers
theorem le_c {k : Nat} (hk : k < 2 ^ 31) (c : Int32) (n : Nat) (hc : c = nI n) (hn : n < 2 ^ 31) : nI k ≤ c ↔ k ≤ n := by subst hc; exact nI_leI hk hn
theorem lt_c {k : Nat} (hk : k < 2 ^ 31) (c : Int32) (n : Nat) (hc : c = nI n) (hn : n < 2 ^ 31) : nI k < c ↔ k < n := by subst hc; exact nI_ltI hk hn
theorem ge_c {k : Nat} (hk : k < 2 ^ 31) (c : Int32) (n : Nat) (hc : c = nI n) (hn : n < 2 ^ 31) : c ≤ nI k ↔ n ≤ k := by subst hc; exact nI_leI hn hk
theorem gt_c {k : Nat} (hk : k < 2 ^ 31) (c : Int32) (n : Nat) (hc : c = nI n) (hn : n < 2 ^ 31) : c < nI k ↔ n < k := by subst hc; exact nI_ltI hn hk
theorem eq_c {k : Nat} (hk : k < 2 ^ 31) (c : Int32) (n : Nat) (hc : c = nI n) (hn : n < 2 ^ 31) : nI k = c ↔ k = n := by subst hc; exact nI_eq hk hn
theorem neg_c {k : Nat} (hk : k < 2 ^ 31) : ¬ nI k < 0 := nI_pos hk
theorem isPlace_N {k : Nat} (hk : k < 2 ^ 31) : x_isPlace (nI k) = if k < 1024 then 1 else 0 := by
  unfold x_isPlace
  rw [if_neg (neg_c hk)]
  by_cases h : k < 1024
  · rw [if_neg (by rw [ge_c hk 1024 1024 rfl (by decide)]; omega), if_pos h]
  · rw [if_pos (by rw [ge_c hk 1024 1024 rfl (by decide)]; omega), if_neg h]
theorem where75_0 {v : MS} (h : M_wrong v = 0) (a b : Int32) : m_where_75 a v b = some (b, v) := by unfold m_where_75; rw [if_pos (by rw [h]; decide)]
theorem fail_0 {v : MS} (h : M_wrong v = 0) (c : Int32) : m_fail v c = some (M_s_wrong v c) := by unfold m_fail m_fail_16; rw [if_pos h]
theorem fail_1 {v : MS} (h : ¬ M_wrong v = 0) (c : Int32) : m_fail v c = some v := by unfold m_fail m_fail_16; rw [if_neg h]; rfl
theorem where63_ok {v : MS} (h : M_wrong v = 0) (a : Int32) {n : Nat} (hn : n < 1024) : m_where_63 a v (nI n) = some (nI n, v) := by
  unfold m_where_63
  rw [if_pos (by rw [le_c (by omega) 1023 1023 rfl (by decide)]; omega), where75_0 h]
theorem where63_no {v : MS} (h : M_wrong v = 0) (a : Int32) {n : Nat} (hn : ¬ n < 1024) (hk : n < 2 ^ 31) : m_where_63 a v (nI n) = some (-1, M_s_wrong v 1) := by
  unfold m_where_63
  rw [if_neg (by rw [le_c hk 1023 1023 rfl (by decide)]; omega), fail_0 h]
  show m_where_75 a (M_s_wrong v 1) (nI n) = _
  unfold m_where_75
  rw [if_neg (by show ¬ (1 : Int32) ≤ 0; decide)]
theorem x_raise_0 {u : XS} (h : X_trap u = 0) (c : Int32) : x_raise u c = some (X_s_trap u c) := by unfold x_raise; rw [if_pos h]
theorem x_raise_1 {u : XS} (h : ¬ X_trap u = 0) (c : Int32) : x_raise u c = some u := by unfold x_raise; rw [if_neg h]
theorem nar1 (b : Int32) : (¬ b = 0) → (b = 0 ∨ b = 1) → b = 1 := fun h1 h2 => h2.resolve_left h1
theorem nmv_eq {α β : Type} (a : α) (f : α → β) : nmv a f = f a := rfl
theorem w27_0 (v : MS) (k : Nat) : m_where_27 (nI k) v 0 = if M_bound v 0 ≤ nI k then m_where_63 (nI k) v 1024 else m_where_63 (nI k) v (nI k + M_base v 0) := by
  have hi : ¬ ((0 : Int32) < 0 ∨ 2 ≤ (0 : Int32).toNatClampNeg) := by decide
  have z0 : nI k - (131072 : Int32) * 0 = nI k := by rw [Int32.mul_zero, Int32.sub_zero]
  unfold m_where_27 m_where_62
  rw [nmv_eq, z0, if_neg hi, if_neg hi]
  rfl
theorem w27_1 (v : MS) {k : Nat} (hk : 131072 ≤ k) : m_where_27 (nI k) v 1 = if M_bound v 1 ≤ nI (k - 131072) then m_where_63 (nI k) v 1024 else m_where_63 (nI k) v (nI (k - 131072) + M_base v 1) := by
  have hi : ¬ ((1 : Int32) < 0 ∨ 2 ≤ (1 : Int32).toNatClampNeg) := by decide
  have z0 : nI k - (131072 : Int32) * 1 = nI (k - 131072) := by rw [Int32.mul_one]; exact pk_sub (a := k) (b := 131072) hk
  unfold m_where_27 m_where_62
  rw [nmv_eq, z0, if_neg hi, if_neg hi]
  rfl
set_option maxHeartbeats 1000000 in
theorem place_cases {u : XS} {v : MS} (h : r0 u v) {a : Int32} (ha : rA a) : (∃ n, n < 1024 ∧ x_placeOf u a = nI n ∧ m_where v a = some (nI n, v)) ∨ (x_isPlace (x_placeOf u a) = 0 ∧ m_where v a = some (-1, M_s_wrong v 1)) := by
  obtain ⟨k, hk, rfl⟩ := ha
  have hw := h.wrong
  obtain ⟨⟨⟨-, ⟨lb, hlb, elb⟩, ⟨lo, hlo, elo⟩, ⟨hb, hhb, ehb⟩, ⟨hi, hhi, ehi⟩, -, -⟩, -, -, b0, b1, d0, d1, eu, -⟩, -⟩ := h
  unfold m_where
  rw [eu]
  by_cases hu : X_user u = 0
  · have e1 : x_placeOf u (nI k) = nI k := by unfold x_placeOf; rw [if_pos hu]
    rw [if_pos hu, e1]
    by_cases hn : k < 1024
    · exact Or.inl ⟨k, hn, rfl, where63_ok hw _ hn⟩
    · exact Or.inr ⟨by rw [isPlace_N (by omega), if_neg hn], where63_no hw _ hn (by omega)⟩
  · rw [if_neg hu]
    by_cases h16 : k < 16
    · have e1 : x_placeOf u (nI k) = nI k := by unfold x_placeOf; rw [if_neg hu, if_neg (by rw [ge_c (by omega) 16 16 rfl (by decide)]; omega)]
      rw [if_pos (by rw [le_c (by omega) 15 15 rfl (by decide)]; omega), e1]
      exact Or.inl ⟨k, by omega, rfl, where63_ok hw _ (by omega)⟩
    · rw [if_neg (by rw [le_c (by omega) 15 15 rfl (by decide)]; omega)]
      have ed : nI k / (131072 : Int32) = nI (k / 131072) := pk_div (a := k) (d := 131072) (by omega) (by decide) (by decide)
      rw [ed]
      by_cases hl : k < 131072
      · rw [if_pos (by rw [le_c (by omega) 0 0 rfl (by decide)]; omega)]
        rw [w27_0, d0, b0, elb, elo]
        by_cases hlo2 : k < lo
        · have e1 : x_placeOf u (nI k) = nI (k + lb) := by
            unfold x_placeOf
            rw [if_neg hu, if_pos (by rw [ge_c (by omega) 16 16 rfl (by decide)]; omega), elo, if_neg (by rw [nI_leI (by omega) (by omega)]; omega), elb, nI_add]
          rw [if_neg (by rw [nI_leI (by omega) (by omega)]; omega), nI_add, e1]
          by_cases hn : k + lb < 1024
          · exact Or.inl ⟨_, hn, rfl, where63_ok hw _ hn⟩
          · exact Or.inr ⟨by rw [isPlace_N (by omega), if_neg hn], where63_no hw _ hn (by omega)⟩
        · have e1 : x_placeOf u (nI k) = -1 := by
            unfold x_placeOf
            rw [if_neg hu, if_pos (by rw [ge_c (by omega) 16 16 rfl (by decide)]; omega), elo, if_pos (by rw [nI_leI (by omega) (by omega)]; omega), nmv_eq]
            exact if_pos (pk_sneg (a := k) (b := 131072) (by decide) hl)
          rw [if_pos (by rw [nI_leI (by omega) (by omega)]; omega), e1]
          exact Or.inr ⟨by decide, where63_no (n := 1024) hw _ (by decide) (by decide)⟩
      · rw [if_neg (by rw [le_c (by omega) 0 0 rfl (by decide)]; omega)]
        have z1 : nI k - (131072 : Int32) = nI (k - 131072) := pk_sub (a := k) (b := 131072) (by omega)
        rw [w27_1 v (by omega), d1, b1, ehb, ehi]
        have pre : x_placeOf u (nI k) = if nI hi ≤ nI (k - 131072) then (-1 : Int32) else nI (k - 131072) + nI hb := by
          unfold x_placeOf
          rw [if_neg hu, if_pos (by rw [ge_c (by omega) 16 16 rfl (by decide)]; omega), elo, if_pos (by rw [nI_leI (by omega) (by omega)]; omega), nmv_eq, z1, if_neg (neg_c (by omega)), ehi, ehb]
        rw [pre]
        by_cases hh : k - 131072 < hi
        · rw [if_neg (by rw [nI_leI (by omega) (by omega)]; omega), if_neg (by rw [nI_leI (by omega) (by omega)]; omega), nI_add]
          by_cases hn : k - 131072 + hb < 1024
          · exact Or.inl ⟨_, hn, rfl, where63_ok hw _ hn⟩
          · exact Or.inr ⟨by rw [isPlace_N (by omega), if_neg hn], where63_no hw _ hn (by omega)⟩
        · rw [if_pos (by rw [nI_leI (by omega) (by omega)]; omega), if_pos (by rw [nI_leI (by omega) (by omega)]; omega)]
          exact Or.inr ⟨by decide, where63_no (n := 1024) hw _ (by decide) (by decide)⟩
theorem in_idx {n : Nat} (hn : n < 1024) : ¬ (nI n < 0 ∨ 1024 ≤ (nI n).toNatClampNeg) := nI_in hn (by decide)
theorem nneg {n : Nat} (hn : n < 2 ^ 31) : 0 ≤ nI n := nI_pos' hn
/-- a read: the word, nothing changed; or trap 1 in both -/
theorem read_cases {u : XS} {v : MS} (h : r0 u v) {a : Int32} (ha : rA a) : (∃ w, rW w ∧ x_read u a = some (w, u) ∧ m_get v a = some (w, v)) ∨ (x_read u a = some (0, X_s_trap u 1) ∧ m_get v a = some (0, M_s_wrong v 1)) := by
  rcases place_cases h ha with ⟨n, hn, e1, e2⟩ | ⟨e1, e2⟩
  · refine Or.inl ⟨X_words u n, h.w n, ?_, ?_⟩
    · unfold x_read
      rw [nmv_eq, e1, isPlace_N (by omega), if_pos hn, if_neg (by decide), if_neg (in_idx hn), nI_clamp (by omega)]
    · unfold m_get
      rw [e2]
      show (if 0 ≤ nI n then (if nI n < 0 ∨ 1024 ≤ (nI n).toNatClampNeg then none else some (M_store v (nI n).toNatClampNeg, v)) else some ((0 : Int64), v)) = _
      rw [if_pos (nneg (by omega)), if_neg (in_idx hn), nI_clamp (by omega), h.words]
  · refine Or.inr ⟨?_, ?_⟩
    · unfold x_read
      rw [nmv_eq, if_pos e1, x_raise_0 h.2.1]
      rfl
    · unfold m_get
      rw [e2, Option.bind_some]
      exact if_neg (show ¬ (0 : Int32) ≤ -1 by decide)
/-- a write: both stores change alike; or trap 1 in both -/
theorem write_cases {u : XS} {v : MS} (h : r0 u v) {a : Int32} (ha : rA a) {w : Int64} (hw : rW w) : (∃ n, n < 1024 ∧ x_write u a w = some (X_s_words u (vp_updL (X_words u) n w)) ∧ m_set v a w = some (M_s_store v (vp_updL (X_words u) n w))) ∨ (x_write u a w = some (X_s_trap u 1) ∧ m_set v a w = some (M_s_wrong v 1)) := by
  obtain ⟨k, hk, rfl⟩ := hw
  rcases place_cases h ha with ⟨n, hn, e1, e2⟩ | ⟨e1, e2⟩
  · refine Or.inl ⟨n, hn, ?_, ?_⟩
    · unfold x_write
      rw [nmv_eq, e1, isPlace_N (by omega), if_pos hn, if_neg (by decide), if_pos h.2.1, if_neg (in_idx hn), nI_clamp (by omega)]
    · unfold m_set
      rw [e2]
      show (if nI n < 0 then some v else (if nI n < 0 ∨ 1024 ≤ (nI n).toNatClampNeg then none else some (M_s_store v (vp_updL (M_store v) (nI n).toNatClampNeg (lN k &&& 68719476735))))) = _
      rw [if_neg (neg_c (by omega)), if_neg (in_idx hn), nI_clamp (by omega), h.words, l_and36N hk]
  · refine Or.inr ⟨?_, ?_⟩
    · unfold x_write
      rw [nmv_eq, if_pos e1, x_raise_0 h.2.1]
      rfl
    · unfold m_set
      rw [e2, Option.bind_some]
      exact if_pos (show (-1 : Int32) < 0 by decide)
/-- AC: both stores change alike -/
theorem ac_cases {u : XS} {v : MS} (h : r0 u v) {n : Nat} (hn : n < 16) {w : Int64} (hw : rW w) : x_setAccumulator u (nI n) w = some (X_s_words u (vp_updL (X_words u) n w)) ∧ m_setAc v (nI n) w = some (M_s_store v (vp_updL (X_words u) n w)) := by
  obtain ⟨k, hk, rfl⟩ := hw
  refine ⟨?_, ?_⟩
  · unfold x_setAccumulator
    rw [if_pos h.2.1, if_neg (in_idx (by omega)), nI_clamp (by omega)]
  · unfold m_setAc
    rw [if_pos h.wrong, if_neg (in_idx (by omega)), nI_clamp (by omega), h.words, l_and36N hk]
-- when a trap stands, nothing changes any more
theorem xf_read {u : XS} (h : ¬ X_trap u = 0) (a : Int32) : ∃ w, x_read u a = some (w, u) := by
  unfold x_read
  rw [nmv_eq]
  by_cases hp : x_isPlace (x_placeOf u a) = 0
  · rw [if_pos hp, x_raise_1 h]; exact ⟨_, rfl⟩
  · rw [if_neg hp]
    have : ¬ (x_placeOf u a < 0 ∨ 1024 ≤ (x_placeOf u a).toNatClampNeg) := by
      intro hc
      apply hp
      unfold x_isPlace
      rcases hc with hc | hc
      · rw [if_pos hc]
      · by_cases h0 : x_placeOf u a < 0
        · rw [if_pos h0]
        · obtain ⟨j, hj, e⟩ := nI_of h0
          rw [if_neg h0, e, if_pos]
          rw [e, nI_clamp hj] at hc
          rw [ge_c hj 1024 1024 rfl (by decide)]; exact hc
    rw [if_neg this]; exact ⟨_, rfl⟩
theorem xf_write {u : XS} (h : ¬ X_trap u = 0) (a : Int32) (w : Int64) : x_write u a w = some u := by
  unfold x_write
  rw [nmv_eq, x_raise_1 h, if_neg h]
  split <;> rfl
theorem xf_ac {u : XS} (h : ¬ X_trap u = 0) (a : Int32) (w : Int64) : x_setAccumulator u a w = some u := by unfold x_setAccumulator; rw [if_neg h]
theorem xf_ov {u : XS} (h : ¬ X_trap u = 0) : x_setOverflow u = some u := by unfold x_setOverflow; rw [if_neg h]
theorem x_ov {u : XS} (h : X_trap u = 0) : x_setOverflow u = some (X_s_overflow u 1) := by unfold x_setOverflow; rw [if_pos h]
theorem mf_where {v : MS} (h : ¬ M_wrong v ≤ 0) (a : Int32) : m_where v a = some (-1, v) := by
  have h0 : ¬ M_wrong v = 0 := fun e => h (by rw [e]; decide)
  have h75 : ∀ b c, m_where_75 b v c = some (-1, v) := fun b c => by unfold m_where_75; rw [if_neg h]
  have h63 : ∀ b c, m_where_63 b v c = some (-1, v) := fun b c => by
    unfold m_where_63
    rw [h75, fail_1 h0]
    split
    · rfl
    · exact h75 b c
  have i0 : ¬ ((0 : Int32) < 0 ∨ 2 ≤ (0 : Int32).toNatClampNeg) := by decide
  have i1 : ¬ ((1 : Int32) < 0 ∨ 2 ≤ (1 : Int32).toNatClampNeg) := by decide
  unfold m_where m_where_27 m_where_62
  rw [nmv_eq, nmv_eq, if_neg i0, if_neg i1, if_neg i0, if_neg i1]
  simp only [h63]
  repeat' split
  all_goals rfl
theorem mf_get {v : MS} (h : ¬ M_wrong v ≤ 0) (a : Int32) : m_get v a = some (0, v) := by
  unfold m_get
  rw [mf_where h, Option.bind_some]
  exact if_neg (show ¬ (0 : Int32) ≤ -1 by decide)
theorem mf_set {v : MS} (h : ¬ M_wrong v ≤ 0) (a : Int32) (w : Int64) : m_set v a w = some v := by
  unfold m_set
  rw [mf_where h, Option.bind_some]
  exact if_pos (show (-1 : Int32) < 0 by decide)
theorem mf_ac {v : MS} (h : ¬ M_wrong v = 0) (a : Int32) (w : Int64) : m_setAc v a w = some v := by unfold m_setAc; rw [if_neg h]
theorem mf_over {v : MS} (h : ¬ M_wrong v = 0) (b : Int32) : m_over v b = some v := by unfold m_over; rw [if_neg h]; split <;> rfl
theorem mf_go {v : MS} (h : ¬ M_wrong v = 0) (b : Int32) : m_go v b = some v := by unfold m_go; rw [if_neg h]
theorem m_over_1 {v : MS} (h : M_wrong v = 0) : m_over v 1 = some (M_s_overflow v 1) := by unfold m_over; rw [if_neg (by decide), if_pos h]
theorem m_over_0 (v : MS) : m_over v 0 = some v := by unfold m_over; rw [if_pos rfl]
theorem m_go_0 {v : MS} (h : M_wrong v = 0) {b : Int32} (hb : rA b) : m_go v b = some (M_s_pc v b) := by
  obtain ⟨n, hn, rfl⟩ := hb
  unfold m_go
  rw [if_pos h, n_and18, Nat.mod_eq_of_lt hn]
