/-! words bit by bit -/
def lb (w : Int64) (i : Nat) : Bool := w.toBitVec.getLsbD i
theorem lb_ext {x y : Int64} (h : ∀ i, i < 64 → lb x i = lb y i) : x = y := Int64.toBitVec_inj.mp (BitVec.eq_of_getLsbD_eq h)
theorem lb_and (x y : Int64) (i : Nat) : lb (x &&& y) i = (lb x i && lb y i) := by unfold lb; rw [Int64.toBitVec_and, BitVec.getLsbD_and]
theorem lb_or (x y : Int64) (i : Nat) : lb (x ||| y) i = (lb x i || lb y i) := by unfold lb; rw [Int64.toBitVec_or, BitVec.getLsbD_or]
theorem lb_xor (x y : Int64) (i : Nat) : lb (x ^^^ y) i = (lb x i ^^ lb y i) := by unfold lb; rw [Int64.toBitVec_xor, BitVec.getLsbD_xor]
theorem lb_m1 {i : Nat} (h : i < 64) : lb (-1) i = true := by
  have : (-1 : Int64).toBitVec = BitVec.allOnes 64 := by decide
  unfold lb; rw [this, BitVec.getLsbD_allOnes]; exact decide_eq_true h
theorem lb_not (x : Int64) {i : Nat} (h : i < 64) : lb (x ^^^ (-1)) i = !lb x i := by rw [lb_xor, lb_m1 h, Bool.xor_true]
theorem lb_N (n i : Nat) : lb (lN n) i = (decide (i < 64) && n.testBit i) := by
  unfold lb; rw [wb_tb, BitVec.getLsbD_ofNat]
theorem lb_0 (i : Nat) : lb 0 i = false := by
  have : (0 : Int64) = lN 0 := rfl
  rw [this, lb_N, Nat.zero_testBit, Bool.and_false]
theorem lb_1 (i : Nat) : lb 1 i = decide (i = 0) := by
  have e : (1 : Int64) = lN 1 := rfl
  rw [e, lb_N]
  by_cases h : i = 0
  · subst h; decide
  · have : Nat.testBit 1 i = false := by
      have := Nat.testBit_lt_two_pow (x := 1) (i := i) (Nat.one_lt_two_pow h)
      exact this
    rw [this, Bool.and_false, decide_eq_false h]
theorem lb_all (i : Nat) : lb 68719476735 i = decide (i < 36) := by
  have e : (68719476735 : Int64) = lN (2 ^ 36 - 1) := rfl
  rw [e, lb_N, Nat.testBit_two_pow_sub_one]
  by_cases h : i < 36
  · rw [decide_eq_true h, decide_eq_true (show i < 64 by omega)]; rfl
  · rw [decide_eq_false h, Bool.and_false]
theorem lb_W {w : Int64} (h : rW w) {i : Nat} (hi : 36 ≤ i) : lb w i = false := by
  obtain ⟨n, hn, rfl⟩ := h
  rw [lb_N, Nat.testBit_lt_two_pow (Nat.lt_of_lt_of_le hn (Nat.pow_le_pow_right (by decide) hi)), Bool.and_false]
theorem W_lb {w : Int64} (h : ∀ i, 36 ≤ i → i < 64 → lb w i = false) : rW w := by
  have : w = w &&& 68719476735 := lb_ext fun i hi => by
    rw [lb_and, lb_all]
    by_cases c : i < 36
    · rw [decide_eq_true c, Bool.and_true]
    · rw [h i (by omega) hi, Bool.false_and]
  rw [this]; exact and_W _
theorem lb_shl (w : Int64) {k : Nat} (hk : k < 64) {i : Nat} (hi : i < 64) : lb (w <<< ((nI k).toInt64 &&& 63)) i = (decide (k ≤ i) && lb w (i - k)) := by
  unfold lb
  rw [wb_c k hk, Int64.toBitVec_shiftLeft, wb_tb, wb_sm k hk, BitVec.shiftLeft_eq', BitVec.getLsbD_shiftLeft, BitVec.toNat_ofNat, Nat.mod_eq_of_lt (show k < 2 ^ 64 by omega)]
  rw [decide_eq_true hi, Bool.true_and]
  by_cases h : k ≤ i
  · rw [decide_eq_false (by omega), decide_eq_true h]; rfl
  · rw [decide_eq_true (by omega), decide_eq_false h]; rfl
theorem lb_sshr (w : Int64) {k : Nat} (hk : k < 64) {i : Nat} (hi : i < 64) : lb (w >>> ((nI k).toInt64 &&& 63)) i = if k + i < 64 then lb w (k + i) else lb w 63 := by
  have e : (w >>> ((nI k).toInt64 &&& 63)).toBitVec = w.toBitVec.sshiftRight k := by
    rw [wb_c k hk]
    have : (w >>> lN k).toBitVec = w.toBitVec.sshiftRight ((lN k).toBitVec.smod 64).toNat := rfl
    rw [this, wb_tb, wb_sm k hk, BitVec.toNat_ofNat, Nat.mod_eq_of_lt (show k < 2 ^ 64 by omega)]
  unfold lb
  rw [e, BitVec.getLsbD_sshiftRight, decide_eq_false (by omega)]
  show (true && _) = _
  rw [Bool.true_and]
  rfl
theorem lb_ushr (w : Int64) {k : Nat} (hk : k < 64) (i : Nat) : lb ((w.toUInt64 >>> ((nI k).toInt64.toUInt64 &&& Int64.toUInt64 63)).toInt64) i = lb w (k + i) := by
  rw [wb_cu k hk]
  have e : ((w.toUInt64 >>> UInt64.ofNat k).toInt64).toBitVec = w.toBitVec >>> k := by
    have : ((w.toUInt64 >>> UInt64.ofNat k).toInt64).toBitVec = w.toBitVec >>> ((UInt64.ofNat k).toBitVec % 64).toNat := rfl
    rw [this]
    congr 1
    show (BitVec.ofNat 64 k % 64#64).toNat = k
    rw [BitVec.toNat_umod, BitVec.toNat_ofNat]
    show k % 2 ^ 64 % 64 = k
    omega
  unfold lb
  rw [e, BitVec.getLsbD_ushiftRight]
theorem m_bit_lb (w : Int64) {k : Nat} (hk : k < 64) : m_bit w (nI k) = if lb w k then 1 else 0 := by
  unfold m_bit
  have e : (w >>> ((nI k).toInt64 &&& 63)) &&& 1 = if lb w k then 1 else 0 := lb_ext fun i hi => by
    rw [lb_and, lb_sshr w hk hi, lb_1]
    by_cases h : i = 0
    · subst h
      rw [if_pos (by omega), Nat.add_zero, decide_eq_true rfl, Bool.and_true]
      cases lb w k <;> decide
    · rw [decide_eq_false h, Bool.and_false]
      cases lb w k
      · exact (lb_0 i).symm
      · show false = lb 1 i
        rw [lb_1, decide_eq_false h]
  rw [e]
  cases lb w k <;> rfl
theorem lb_signed {w : Int64} (h : rW w) {i : Nat} (hi : i < 64) : lb (x_signed w) i = if i < 36 then lb w i else lb w 35 := by
  unfold x_signed
  have a1 : lb ((w <<< ((28 : Int32).toInt64 &&& 63)) >>> ((28 : Int32).toInt64 &&& 63)) i = if 28 + i < 64 then lb (w <<< ((28 : Int32).toInt64 &&& 63)) (28 + i) else lb (w <<< ((28 : Int32).toInt64 &&& 63)) 63 := lb_sshr _ (k := 28) (by decide) hi
  have a2 : ∀ j, j < 64 → lb (w <<< ((28 : Int32).toInt64 &&& 63)) j = (decide (28 ≤ j) && lb w (j - 28)) := fun j hj => lb_shl w (k := 28) (by decide) hj
  rw [a1]
  by_cases c : i < 36
  · rw [if_pos (by omega), if_pos c, a2 _ (by omega), decide_eq_true (by omega), Bool.true_and]
    congr 1; omega
  · rw [if_neg (by omega), if_neg c, a2 63 (by decide)]
    rfl
/-- one bit put in -/
theorem lb_put (w : Int64) (b : Bool) {k : Nat} (hk : k < 36) {i : Nat} (hi : i < 64) : lb (w ||| (((if b then (1 : Int32) else 0).toInt64) <<< ((nI k).toInt64 &&& 63))) i = (lb w i || (decide (i = k) && b)) := by
  rw [lb_or, lb_shl _ (by omega) hi]
  congr 1
  have e : (if b then (1 : Int32) else 0).toInt64 = if b then 1 else 0 := by cases b <;> rfl
  rw [e]
  cases b
  · show (decide (k ≤ i) && lb 0 (i - k)) = _
    rw [lb_0, Bool.and_false, Bool.and_false]
  · show (decide (k ≤ i) && lb 1 (i - k)) = _
    rw [lb_1, Bool.and_true]
    by_cases c : i = k
    · subst c; rw [Nat.sub_self]; simp
    · rw [decide_eq_false c]
      by_cases d : k ≤ i
      · rw [decide_eq_false (show ¬ i - k = 0 by omega), Bool.and_false]
      · rw [decide_eq_false d, Bool.false_and]
-- LOGIC
def lgf (f : Nat) (a s : Bool) : Bool := f.testBit (3 - (2 * a.toNat + s.toNat))
theorem logic_bit : ∀ f, f < 16 → ∀ a s : Bool, ((nI f >>> (((3 : Int32) - ((2 : Int32) * (if a then 1 else 0) + (if s then 1 else 0))) &&& 31)) &&& (1 : Int32)) = if lgf f a s then 1 else 0 := by decide
theorem logic_loop (a0 a1 a2 : Int32) {f : Nat} (hf : f < 16) (s x : Int64) (v : MS) : ∀ (j k c : Nat) (w : Int64), k + j = 36 → j + 1 ≤ c → (∀ i, i < 64 → lb w i = (decide (i < k) && lgf f (lb x i) (lb s i))) → ∃ w', (∀ i, i < 64 → lb w' i = (decide (i < 36) && lgf f (lb x i) (lb s i))) ∧ m_logic_32 a0 a1 a2 c v (nI f) s x w (nI k) = m_keep v (a0 - a0 / 4 * 4) a1 a2 w' := by
  intro j
  induction j with
  | zero =>
    intro k c w h1 h2 h3
    obtain ⟨c, rfl⟩ : ∃ q, c = q + 1 := ⟨c - 1, by omega⟩
    have : k = 36 := by omega
    subst this
    refine ⟨w, h3, ?_⟩
    rw [m_logic_32, if_pos (show (36 : Int32) ≤ nI 36 by decide), ob_id]
  | succ j IH =>
    intro k c w h1 h2 h3
    obtain ⟨c, rfl⟩ : ∃ q, c = q + 1 := ⟨c - 1, by omega⟩
    rw [m_logic_32, if_neg (by rw [ge_c (by omega) 36 36 rfl (by decide)]; omega), m_bit_lb x (by omega), m_bit_lb s (by omega), nmv_eq, nmv_eq, logic_bit f hf, show nI k + Int32.ofInt 1 = nI (k + 1) from nI_1 k]
    refine IH (k + 1) c _ (by omega) (by omega) (fun i hi => ?_)
    rw [lb_put w _ (by omega) hi, h3 i hi]
    by_cases c1 : i = k
    · subst c1
      rw [decide_eq_false (Nat.lt_irrefl i), decide_eq_true (Nat.lt_succ_self i), decide_eq_true rfl]; rfl
    · rw [decide_eq_false c1, Bool.false_and, Bool.or_false]
      by_cases c2 : i < k
      · rw [decide_eq_true c2, decide_eq_true (by omega)]
      · rw [decide_eq_false c2, decide_eq_false (by omega)]
theorem lgf_all : ∀ f, f < 16 → ∀ a s : Bool, lgf f a s = (((f.testBit 3) && (!a && !s)) || ((f.testBit 2) && (!a && s)) || ((f.testBit 1) && (a && !s)) || ((f.testBit 0) && (a && s))) := by decide
theorem f_bits : ∀ f, f < 16 → ((nI f &&& 8 = 0) ↔ f.testBit 3 = false) ∧ ((nI f &&& 4 = 0) ↔ f.testBit 2 = false) ∧ ((nI f &&& 2 = 0) ↔ f.testBit 1 = false) ∧ ((nI f &&& 1 = 0) ↔ f.testBit 0 = false) := by decide
/-- the class's four ways, as one word -/
theorem x_logic_59_eq (a0 a1 a2 : Int32) (u : XS) (m : Int32) {f : Nat} (hf : f < 16) (x s r0' : Int64) : ∃ r, (∀ i, i < 64 → lb r i = (lb r0' i || ((f.testBit 2) && (!lb x i && lb s i)) || ((f.testBit 1) && (lb x i && !lb s i)) || ((f.testBit 0) && (lb x i && lb s i)))) ∧ x_logic_59 a0 a1 a2 u m (nI f) x s r0' = x_putResult u m a1 a2 (r &&& 68719476735) := by
  obtain ⟨-, b4, b2, b1⟩ := f_bits f hf
  have s118 : ∀ r, x_logic_118 a0 a1 a2 u m r = x_putResult u m a1 a2 (r &&& 68719476735) := fun r => by unfold x_logic_118; rw [ob_id]
  have s101 : ∀ r : Int64, ∃ q, (∀ i, i < 64 → lb q i = (lb r i || ((f.testBit 0) && (lb x i && lb s i)))) ∧ x_logic_101 a0 a1 a2 u m (nI f) x s r = x_putResult u m a1 a2 (q &&& 68719476735) := fun r => by
    unfold x_logic_101
    cases hb : f.testBit 0
    · rw [if_pos (b1.mpr hb), s118]; exact ⟨r, fun i hi => by simp, rfl⟩
    · rw [if_neg (fun z => by rw [b1.mp z] at hb; cases hb), nmv_eq, s118]; exact ⟨_, fun i hi => by rw [lb_or, lb_and]; simp, rfl⟩
  have s80 : ∀ r : Int64, ∃ q, (∀ i, i < 64 → lb q i = (lb r i || ((f.testBit 1) && (lb x i && !lb s i)) || ((f.testBit 0) && (lb x i && lb s i)))) ∧ x_logic_80 a0 a1 a2 u m (nI f) x s r = x_putResult u m a1 a2 (q &&& 68719476735) := fun r => by
    unfold x_logic_80
    cases hb : f.testBit 1
    · rw [if_pos (b2.mpr hb)]
      obtain ⟨q, h1, h2⟩ := s101 r
      exact ⟨q, fun i hi => by rw [h1 i hi]; simp, h2⟩
    · rw [if_neg (fun z => by rw [b2.mp z] at hb; cases hb), nmv_eq]
      obtain ⟨q, h1, h2⟩ := s101 (r ||| (x &&& (s ^^^ (-1))))
      exact ⟨q, fun i hi => by rw [h1 i hi, lb_or, lb_and, lb_not _ hi]; simp, h2⟩
  unfold x_logic_59
  cases hb : f.testBit 2
  · rw [if_pos (b4.mpr hb)]
    obtain ⟨q, h1, h2⟩ := s80 r0'
    exact ⟨q, fun i hi => by rw [h1 i hi]; simp, h2⟩
  · rw [if_neg (fun z => by rw [b4.mp z] at hb; cases hb), nmv_eq]
    obtain ⟨q, h1, h2⟩ := s80 (r0' ||| ((x ^^^ (-1)) &&& s))
    exact ⟨q, fun i hi => by rw [h1 i hi, lb_or, lb_and, lb_not _ hi]; simp, h2⟩
theorem mf_logic32 {v : MS} (h : ¬ M_wrong v ≤ 0) (a0 a1 a2 : Int32) {f : Nat} (hf : f < 16) (s x : Int64) : m_logic_32 a0 a1 a2 37 v (nI f) s x 0 0 = some v := by
  obtain ⟨w', -, e⟩ := logic_loop a0 a1 a2 hf s x v 36 0 37 0 (by omega) (by omega) (fun i hi => by rw [lb_0]; rfl)
  have e0 : (0 : Int32) = nI 0 := rfl
  rw [e0, e, mf_keep h]
theorem logic_R {u : XS} {v : MS} (h : r0 u v) {op n : Nat} (ho : op < 512) (hn : n < 16) {e : Int32} (he : rA e) : rF (x_logic u (nI op) (nI n) e) (m_logic v (nI op) (nI n) e) := by
  have h4 : op % 4 < 4 := Nat.mod_lt _ (by decide)
  have hf : op / 4 % 16 < 16 := Nat.mod_lt _ (by decide)
  have hi := x_ac hn
  rw [nI_clamp (by omega)] at hi
  unfold x_logic m_logic
  rw [nmv_eq, nmv_eq, nmv_eq, op_and3, op_sh (by omega) 2 2 (by decide), n_and15, op_rem (n := op) (by omega) 4 4 rfl (by decide) (by decide), op_div (by omega) 4 4 rfl (by decide) (by decide), op_rem (by omega) 16 16 rfl (by decide) (by decide), nI_clamp (by omega), if_neg hi, nmv_eq]
  have e24 : op / 2 ^ 2 % 16 = op / 4 % 16 := rfl
  rw [e24]
  generalize hF : op / 4 % 16 = f at hf ⊢
  have fin : ∀ (u' : XS) (s : Int64), ∃ r, (∀ i, i < 64 → lb r i = lgf f (lb (X_words u n) i) (lb s i)) ∧ (if nI f &&& 8 = 0 then x_logic_59 (nI op) (nI n) e u' (nI (op % 4)) (nI f) (X_words u n) s 0 else x_logic_59 (nI op) (nI n) e u' (nI (op % 4)) (nI f) (X_words u n) s (0 ||| ((X_words u n ^^^ (-1)) &&& (s ^^^ (-1))))) = x_putResult u' (nI (op % 4)) (nI n) e (r &&& 68719476735) := by
    intro u' s
    obtain ⟨b8, -⟩ := f_bits f hf
    cases hb : f.testBit 3
    · rw [if_pos (b8.mpr hb)]
      obtain ⟨r, h1, h2⟩ := x_logic_59_eq (nI op) (nI n) e u' (nI (op % 4)) hf (X_words u n) s 0
      exact ⟨r, fun i hi => by rw [h1 i hi, lgf_all f hf, lb_0, hb]; simp, h2⟩
    · rw [if_neg (fun z => by rw [b8.mp z] at hb; cases hb)]
      obtain ⟨r, h1, h2⟩ := x_logic_59_eq (nI op) (nI n) e u' (nI (op % 4)) hf (X_words u n) s (0 ||| ((X_words u n ^^^ (-1)) &&& (s ^^^ (-1))))
      exact ⟨r, fun i hi => by rw [h1 i hi, lgf_all f hf, lb_or, lb_0, lb_and, lb_not _ hi, lb_not _ hi, hb]; simp, h2⟩
  rcases source_cases h (nI (op % 4)) he with ⟨w, hw, e1, e2⟩ | ⟨e1, e2⟩
  · rw [e1, e2, Option.bind_some, Option.bind_some, if_neg hi, nmv_eq, nmv_eq]
    obtain ⟨r, r1', r2⟩ := fin u w
    show rF (if nI f &&& 8 = 0 then x_logic_59 (nI op) (nI n) e u (nI (op % 4)) (nI f) (X_words u n) w 0 else x_logic_59 (nI op) (nI n) e u (nI (op % 4)) (nI f) (X_words u n) w (0 ||| ((X_words u n ^^^ (-1)) &&& (w ^^^ (-1))))) (m_logic_32 (nI op) (nI n) e 37 v (nI f) w (M_store v n) 0 0)
    rw [r2, h.words]
    obtain ⟨w', q1, q2⟩ := logic_loop (nI op) (nI n) e hf w (X_words u n) v 36 0 37 0 (by omega) (by omega) (fun i hi => by rw [lb_0]; rfl)
    have e0 : (0 : Int32) = nI 0 := rfl
    rw [e0, q2, op_rem (n := op) (by omega) 4 4 rfl (by decide) (by decide)]
    have ew : w' = r &&& 68719476735 := lb_ext fun i hi => by rw [q1 i hi, lb_and, lb_all, r1' i hi, Bool.and_comm]
    rw [ew]
    exact putResult_R h h4 hn he (and_W _)
  · have h1 := h.t1
    rw [e1, e2, Option.bind_some, Option.bind_some, if_neg hi, nmv_eq, nmv_eq]
    obtain ⟨r, r1', r2⟩ := fin (X_s_trap u 1) 0
    show rF (if nI f &&& 8 = 0 then x_logic_59 (nI op) (nI n) e (X_s_trap u 1) (nI (op % 4)) (nI f) (X_words u n) 0 0 else x_logic_59 (nI op) (nI n) e (X_s_trap u 1) (nI (op % 4)) (nI f) (X_words u n) 0 (0 ||| ((X_words u n ^^^ (-1)) &&& ((0 : Int64) ^^^ (-1))))) (m_logic_32 (nI op) (nI n) e 37 (M_s_wrong v 1) (nI f) 0 (M_store v n) 0 0)
    rw [r2, xf_putResult h1.2, mf_logic32 h1.pos _ _ _ hf]
    exact rF1 h1
