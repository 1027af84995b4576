/-! bytes -/
theorem nI_or {a m : Nat} (ha : a < 64) (hm : m < 4096) : nI (a * 4096) ||| nI m = nI (a * 4096 + m) := by
  apply Int32.toBitVec_inj.mp
  rw [Int32.toBitVec_or]
  show BitVec.ofNat 32 (a * 4096) ||| BitVec.ofNat 32 m = BitVec.ofNat 32 (a * 4096 + m)
  apply BitVec.eq_of_toNat_eq
  rw [BitVec.toNat_or, BitVec.toNat_ofNat, BitVec.toNat_ofNat, BitVec.toNat_ofNat, Nat.mod_eq_of_lt (by omega), Nat.mod_eq_of_lt (by omega), Nat.mod_eq_of_lt (by omega)]
  have : a * 4096 = a <<< 12 := by rw [Nat.shiftLeft_eq]
  rw [this, Nat.shiftLeft_add_eq_or_of_lt (by omega)]
def adv (k : Nat) : Nat := if k / 2 ^ 24 % 64 ≤ k / 2 ^ 30 then (k / 2 ^ 30 - k / 2 ^ 24 % 64) * 1073741824 + k / 262144 % 4096 * 262144 + k % 262144 else (36 - k / 2 ^ 24 % 64) * 1073741824 + k / 262144 % 4096 * 262144 + (k % 262144 + 1) % 262144
theorem adv_lt {k : Nat} (hk : k < 2 ^ 36) : adv k < 2 ^ 36 := by unfold adv; split <;> omega
theorem x_pos_N {k : Nat} (hk : k < 2 ^ 36) : x_position (lN k) = nI (k / 2 ^ 30) := by
  unfold x_position
  rw [l_ushrN (by omega) 30 30 (by decide), lN_i, n_and63]
  exact congrArg nI (by omega)
theorem x_size_N {k : Nat} (hk : k < 2 ^ 36) : x_size (lN k) = nI (k / 2 ^ 24 % 64) := by
  unfold x_size
  rw [l_ushrN (by omega) 24 24 (by decide), lN_i, n_and63]
theorem x_adv50 (e : Int32) (u : XS) {k p y : Nat} (hk : k < 2 ^ 36) (hp : p < 64) (hy : y < 262144) : x_advancePointer_50 e u (lN k) (nI p) (nI y) = x_write u e (lN (p * 1073741824 + k / 262144 % 4096 * 262144 + y)) := by
  unfold x_advancePointer_50
  have e12 : nI p <<< ((12 : Int32) &&& 31) = nI (p * 2 ^ 12) := pk_shlN (n := p) _ 12 (by decide) (by omega)
  have hm : k / 262144 % 4096 < 4096 := Nat.mod_lt _ (by decide)
  rw [x_left_N hk, n_and4095, nmv_eq, ob_id, e12]
  have e2 : nI (p * 2 ^ 12) ||| nI (k / 262144 % 4096) = nI (p * 4096 + k / 262144 % 4096) := nI_or hp hm
  rw [e2, x_joined_N (by omega) hy]
  exact congrArg (fun t => x_write u e (lN t)) (by omega)
/-- a pointer goes on: what is written -/
theorem x_adv_eq {u : XS} {e : Int32} {k : Nat} (hk : k < 2 ^ 36) (hr : x_read u e = some (lN k, u)) : x_advancePointer u e = x_write u e (lN (adv k)) := by
  unfold x_advancePointer
  have hP : k / 2 ^ 30 < 64 := by omega
  have hS : k / 2 ^ 24 % 64 < 64 := Nat.mod_lt _ (by decide)
  rw [hr, Option.bind_some]
  show nmv (x_position (lN k) - x_size (lN k)) (fun x15 => nmv (x_right (lN k)) (fun x21 => if 0 ≤ x15 then x_advancePointer_50 e u (lN k) x15 x21 else nmv (x_wrapped (x21 + 1)) (fun x35 => nmv (j_max (36 - x_size (lN k)) 0) (fun x48 => x_advancePointer_50 e u (lN k) x48 x35)))) = _
  rw [nmv_eq, nmv_eq, x_pos_N hk, x_size_N hk, x_right_N]
  unfold adv
  by_cases c : k / 2 ^ 24 % 64 ≤ k / 2 ^ 30
  · rw [pk_sub c, if_pos (nneg (by omega)), if_pos c, x_adv50 e u hk (by omega) (by omega)]
  · have hn : ¬ 0 ≤ nI (k / 2 ^ 30) - nI (k / 2 ^ 24 % 64) := by
      have := pk_sneg (a := k / 2 ^ 30) (b := k / 2 ^ 24 % 64) (by omega) (by omega)
      exact Int32.not_le.mpr this
    rw [if_neg hn, if_neg c, nmv_eq, nmv_eq, nI_1, x_wrapped_A]
    have ej : j_max (36 - nI (k / 2 ^ 24 % 64)) 0 = nI (36 - k / 2 ^ 24 % 64) := by
      unfold j_max
      by_cases d : k / 2 ^ 24 % 64 ≤ 36
      · rw [show (36 : Int32) - nI (k / 2 ^ 24 % 64) = nI (36 - k / 2 ^ 24 % 64) from pk_sub (a := 36) d, if_neg (neg_c (by omega))]
      · rw [if_pos (show (36 : Int32) - nI (k / 2 ^ 24 % 64) < 0 from pk_sneg (a := 36) (b := k / 2 ^ 24 % 64) (by omega) (by omega)), show 36 - k / 2 ^ 24 % 64 = 0 by omega]; rfl
    rw [ej, x_adv50 e u hk (by omega) (by omega)]
theorem m_adv_eq (a0 a1 e : Int32) (v : MS) {k : Nat} (hk : k < 2 ^ 36) : m_bytes_25 a0 a1 e v (lN k) = (m_set v e (lN (adv k))).bind (fun z => m_bytes_133 a0 a1 e z (lN (adv k))) := by
  have hP : k / 2 ^ 30 < 64 := by omega
  have hS : k / 2 ^ 24 % 64 < 64 := Nat.mod_lt _ (by decide)
  have e30 : (lN k >>> ((30 : Int32).toInt64 &&& 63)).toInt32 = nI (k / 2 ^ 30) := by rw [l_shrN (by omega) 30 30 (by decide), lN_i]
  have e24 : ((lN k >>> ((24 : Int32).toInt64 &&& 63)) &&& 63).toInt32 = nI (k / 2 ^ 24 % 64) := by
    rw [l_shrN (by omega) 24 24 (by decide)]
    have := wb_mask (n := k / 2 ^ 24) (k := 6) (by omega) (by decide)
    have t : lN (k / 2 ^ 24) &&& 63 = lN (k / 2 ^ 24 % 2 ^ 6) := this
    rw [t, lN_i]
  have e18 : (lN k >>> ((18 : Int32).toInt64 &&& 63)) &&& 4095 = lN (k / 262144 % 4096) := by
    rw [l_shrN (by omega) 18 18 (by decide)]
    have := wb_mask (n := k / 2 ^ 18) (k := 12) (by omega) (by decide)
    exact this
  have e0 : lN k &&& 262143 = lN (k % 262144) := wb_mask (n := k) (k := 18) (by omega) (by decide)
  have x109 : ∀ (p y : Nat), p < 64 → m_bytes_109 a0 a1 e v (nI p) (lN (k / 262144 % 4096)) (lN y) = (m_set v e (lN (p * 1073741824 + k / 262144 % 4096 * 262144 + y))).bind (fun z => m_bytes_133 a0 a1 e z (lN (p * 1073741824 + k / 262144 % 4096 * 262144 + y))) := by
    intro p y hp
    unfold m_bytes_109
    have s1 : (nI p).toInt64 <<< ((30 : Int32).toInt64 &&& 63) = lN (p * 1073741824) := by rw [nI_l (by omega)]; exact wb_shl p (k := 30) (by decide)
    have s2 : lN (k / 262144 % 4096) <<< ((18 : Int32).toInt64 &&& 63) = lN (k / 262144 % 4096 * 262144) := wb_shl _ (k := 18) (by decide)
    rw [s1, s2, lN_add, lN_add, nmv_eq]
  unfold m_bytes_25
  rw [e30, nmv_eq, e24, nmv_eq, e18, nmv_eq, e0, nmv_eq]
  unfold adv m_bytes_107
  by_cases c : k / 2 ^ 24 % 64 ≤ k / 2 ^ 30
  · rw [if_neg (show ¬ nI (k / 2 ^ 30) < nI (k / 2 ^ 24 % 64) by rw [nI_ltI (by omega) (by omega)]; omega), if_pos c, nmv_eq, pk_sub c, x109 _ _ (by omega)]
  · have er : (lN (k % 262144) + 1) - (lN (k % 262144) + 1) / 262144 * 262144 = lN ((k % 262144 + 1) % 262144) := by
      rw [lN_1]
      exact pk_lRem (a := k % 262144 + 1) (b := 262144) (by omega) (by decide) (by decide)
    rw [if_pos (show nI (k / 2 ^ 30) < nI (k / 2 ^ 24 % 64) by rw [nI_ltI (by omega) (by omega)]; omega), if_neg c, er, nmv_eq]
    by_cases d : k / 2 ^ 24 % 64 ≤ 36
    · rw [if_pos (show nI (k / 2 ^ 24 % 64) ≤ 36 by rw [le_c (by omega) 36 36 rfl (by decide)]; exact d), show (36 : Int32) - nI (k / 2 ^ 24 % 64) = nI (36 - k / 2 ^ 24 % 64) from pk_sub (a := 36) d, x109 _ _ (by omega)]
    · rw [if_neg (show ¬ nI (k / 2 ^ 24 % 64) ≤ 36 by rw [le_c (by omega) 36 36 rfl (by decide)]; exact d), show (0 : Int32) = nI 0 from rfl, x109 0 _ (by decide), show 36 - k / 2 ^ 24 % 64 = 0 by omega]
theorem read_again {u : XS} {e : Int32} {n : Nat} (hn : n < 1024) (hp : x_placeOf u e = nI n) (f : Nat → Int64) : x_read (X_s_words u f) e = some (f n, X_s_words u f) := by
  have hp' : x_placeOf (X_s_words u f) e = nI n := hp
  unfold x_read
  rw [nmv_eq, hp', isPlace_N (by omega), if_pos hn, if_neg (by decide), if_neg (in_idx hn), nI_clamp (by omega)]
  rfl
theorem xf_eff {u : XS} (h : ¬ X_trap u = 0) (w : Int64) : ∃ e, x_effective u w = some (e, u) := by
  unfold x_effective
  obtain ⟨e, he⟩ := indexed_any u w
  rw [he, Option.bind_some]
  exact ⟨_, xe_stop _ _ h _ _ _⟩
theorem mf_eff {v : MS} (h : ¬ M_wrong v = 0) (w : Int64) : ∃ e, m_effective v w = some (e, v) := by
  unfold m_effective
  exact ⟨_, me_stop _ _ h _ _ _⟩
/-- the reference's byte, bit by bit -/
theorem byte_loop (a0 : Int32) {n : Nat} (hn : n < 16) (a2 : Int32) (v : MS) (at' : Int32) {P S : Nat} (hP : P < 64) (hS : S < 64) (w0 : Int64) (hw0 : rW w0) : ∀ (r j c : Nat) (w b : Int64), j + r = (if S < 36 then S else 36) → r + 1 ≤ c → (∀ i, i < 64 → lb b i = (decide (i < j) && lb w0 (P + i))) → (∀ i, i < 64 → lb w i = if decide (P ≤ i) && (decide (i < P + j) && decide (i < 36)) then lb (M_store v n) (i - P) else lb w0 i) → ∃ w' b', (∀ i, i < 64 → lb b' i = (decide (i < (if S < 36 then S else 36)) && lb w0 (P + i))) ∧ (∀ i, i < 64 → lb w' i = if decide (P ≤ i) && (decide (i < P + (if S < 36 then S else 36)) && decide (i < 36)) then lb (M_store v n) (i - P) else lb w0 i) ∧ m_bytes_186 a0 (nI n) a2 c v at' (nI P) (nI S) w b (nI j) = m_bytes_274 a0 (nI n) a2 v at' w' b' := by
  intro r
  induction r with
  | zero =>
    intro j c w b h1 h2 h3 h4
    obtain ⟨c, rfl⟩ : ∃ q, c = q + 1 := ⟨c - 1, by omega⟩
    have hj : j = (if S < 36 then S else 36) := by omega
    refine ⟨w, b, by rw [← hj]; exact h3, by rw [← hj]; exact h4, ?_⟩
    rw [m_bytes_186]
    by_cases d : S ≤ j
    · rw [if_pos (show nI S ≤ nI j by rw [nI_leI (by omega) (by split at hj <;> omega)]; exact d)]
    · have : j = 36 := by split at hj <;> omega
      subst this
      rw [if_neg (show ¬ nI S ≤ nI 36 by rw [nI_leI (by omega) (by omega)]; exact d), if_pos (show (36 : Int32) ≤ nI 36 by decide)]
  | succ r IH =>
    intro j c w b h1 h2 h3 h4
    obtain ⟨c, rfl⟩ : ∃ q, c = q + 1 := ⟨c - 1, by omega⟩
    have hj : j < S ∧ j < 36 := by split at h1 <;> omega
    have hi := x_ac hn
    rw [nI_clamp (by omega)] at hi
    rw [m_bytes_186, if_neg (show ¬ nI S ≤ nI j by rw [nI_leI (by omega) (by omega)]; omega), if_neg (show ¬ (36 : Int32) ≤ nI j by rw [ge_c (by omega) 36 36 rfl (by decide)]; omega), nI_add]
    unfold m_bytes_268
    rw [show nI j + Int32.ofInt 1 = nI (j + 1) from nI_1 j]
    by_cases d : 36 ≤ P + j
    · rw [if_pos (show (36 : Int32) ≤ nI (P + j) by rw [ge_c (by omega) 36 36 rfl (by decide)]; exact d)]
      refine IH (j + 1) c w b (by omega) (by omega) (fun i hi2 => ?_) (fun i hi2 => ?_)
      · rw [h3 i hi2]
        by_cases e : i = j
        · subst e; rw [lb_W hw0 (show 36 ≤ P + i by omega), Bool.and_false, Bool.and_false]
        · congr 1
          by_cases e2 : i < j
          · rw [decide_eq_true e2, decide_eq_true (by omega)]
          · rw [decide_eq_false e2, decide_eq_false (by omega)]
      · rw [h4 i hi2]
        have : (decide (P ≤ i) && (decide (i < P + j) && decide (i < 36))) = (decide (P ≤ i) && (decide (i < P + (j + 1)) && decide (i < 36))) := by
          congr 1
          by_cases e : i < 36
          · rw [decide_eq_true (show i < P + j by omega), decide_eq_true (show i < P + (j + 1) by omega)]
          · rw [decide_eq_false e, Bool.and_false, Bool.and_false]
        rw [this]
    · rw [if_neg (show ¬ (36 : Int32) ≤ nI (P + j) by rw [ge_c (by omega) 36 36 rfl (by decide)]; exact d), nmv_eq, nI_clamp (by omega), if_neg hi]
      simp only [nmv_eq]
      rw [m_bit_lb w (by omega), m_bit_lb (M_store v n) (by omega)]
      have wj : lb w (P + j) = lb w0 (P + j) := by
        rw [h4 _ (by omega), decide_eq_false (show ¬ P + j < P + j by omega), Bool.false_and, Bool.and_false]
        rfl
      have sh : ∀ i, i < 64 → lb ((1 : Int64) <<< ((nI (P + j)).toInt64 &&& 63)) i = decide (i = P + j) := fun i hi2 => by
        rw [lb_shl 1 (by omega) hi2, lb_1]
        by_cases e : i = P + j
        · subst e; rw [Nat.sub_self]; simp
        · rw [decide_eq_false e]
          by_cases e2 : P + j ≤ i
          · rw [decide_eq_false (show ¬ i - (P + j) = 0 by omega), Bool.and_false]
          · rw [decide_eq_false e2, Bool.false_and]
      refine IH (j + 1) c _ _ (by omega) (by omega) (fun i hi2 => ?_) (fun i hi2 => ?_)
      · rw [lb_put b _ (by omega) hi2, h3 i hi2, wj]
        by_cases e : i = j
        · subst e; rw [decide_eq_false (Nat.lt_irrefl i), decide_eq_true (Nat.lt_succ_self i), decide_eq_true rfl]; rfl
        · rw [decide_eq_false e, Bool.false_and, Bool.or_false]
          congr 1
          by_cases e2 : i < j
          · rw [decide_eq_true e2, decide_eq_true (by omega)]
          · rw [decide_eq_false e2, decide_eq_false (by omega)]
      · rw [lb_put _ _ (by omega) hi2, lb_and, lb_not _ hi2, sh i hi2, h4 i hi2]
        by_cases e : i = P + j
        · subst e
          rw [decide_eq_true rfl, decide_eq_true (show P ≤ P + j by omega), decide_eq_true (show P + j < P + (j + 1) by omega), decide_eq_true (show P + j < 36 by omega), show P + j - P = j by omega]
          simp
        · rw [decide_eq_false e]
          have : (decide (P ≤ i) && (decide (i < P + j) && decide (i < 36))) = (decide (P ≤ i) && (decide (i < P + (j + 1)) && decide (i < 36))) := by
            by_cases e3 : P ≤ i
            · congr 2
              by_cases e2 : i < P + j
              · rw [decide_eq_true e2, decide_eq_true (by omega)]
              · rw [decide_eq_false e2, decide_eq_false (by omega)]
            · rw [decide_eq_false e3, Bool.false_and, Bool.false_and]
          rw [this]
          simp
theorem mask_lb {S : Nat} (hS : S < 64) {k : Nat} (hk : k < 2 ^ 36) (hs : k / 2 ^ 24 % 64 = S) {i : Nat} (hi : i < 64) : lb (x_byteMask (lN k)) i = decide (i < (if S < 36 then S else 36)) := by
  unfold x_byteMask
  rw [x_size_N hk, hs]
  have ej : j_min (nI S) 36 = nI (if S < 36 then S else 36) := by
    unfold j_min
    by_cases c : 36 < S
    · rw [if_pos (show (36 : Int32) < nI S by rw [gt_c (by omega) 36 36 rfl (by decide)]; exact c), if_neg (by omega)]; rfl
    · rw [if_neg (show ¬ (36 : Int32) < nI S by rw [gt_c (by omega) 36 36 rfl (by decide)]; exact c)]
      by_cases d : S < 36
      · rw [if_pos d]
      · rw [if_neg d, show S = 36 by omega]
  have ht : (if S < 36 then S else 36) < 64 := by split <;> omega
  rw [ej]
  generalize (if S < 36 then S else 36) = T at ht ⊢
  have e1 : (1 : Int64) <<< ((nI T).toInt64 &&& 63) = lN (1 * 2 ^ T) := wb_shl 1 ht
  have p := Nat.two_pow_pos T
  rw [e1, Nat.one_mul, show lN (2 ^ T) - 1 = lN (2 ^ T - 1) from lN_sub (a := 2 ^ T) (b := 1) p, lb_N, Nat.testBit_two_pow_sub_one, decide_eq_true hi, Bool.true_and]
theorem b274 (a0 a1 a2 : Int32) (v : MS) (at' : Int32) (w b : Int64) : m_bytes_274 a0 a1 a2 v at' w b = if 94 ≤ a0 then m_set v at' w else m_setAc v a1 b := by unfold m_bytes_274; simp only [ob_id]
/-- 135, 137 and what comes behind 134, 136: the pointer is at hand -/
theorem bytes_133 {u : XS} {v : MS} (h : r0 u v) {op n : Nat} (h1 : 92 ≤ op) (h2 : op < 96) (hn : n < 16) (e : Int32) {k : Nat} (hk : k < 2 ^ 36) : rF ((x_effective u (lN k)).bind (fun z52 => if nI op = 92 then x_bytes_69 (nI op) (nI n) e z52.2 (lN k) z52.1 else if nI op = 93 then x_bytes_69 (nI op) (nI n) e z52.2 (lN k) z52.1 else (x_depositByte z52.2 (nI n) (lN k) z52.1).bind (fun z87 => some z87))) (m_bytes_133 (nI op) (nI n) e v (lN k)) := by
  have hP : k / 2 ^ 30 < 64 := by omega
  have hS : k / 2 ^ 24 % 64 < 64 := Nat.mod_lt _ (by decide)
  have hi := x_ac hn
  rw [nI_clamp (by omega)] at hi
  have e30 : ((lN k >>> ((30 : Int32).toInt64 &&& 63)) &&& 63).toInt32 = nI (k / 2 ^ 30) := by
    rw [l_shrN (by omega) 30 30 (by decide)]
    have := wb_mask (n := k / 2 ^ 30) (k := 6) (by omega) (by decide)
    have t : lN (k / 2 ^ 30) &&& 63 = lN (k / 2 ^ 30 % 2 ^ 6) := this
    rw [t, lN_i]
    exact congrArg nI (by omega)
  have e24 : ((lN k >>> ((24 : Int32).toInt64 &&& 63)) &&& 63).toInt32 = nI (k / 2 ^ 24 % 64) := by
    rw [l_shrN (by omega) 24 24 (by decide)]
    have := wb_mask (n := k / 2 ^ 24) (k := 6) (by omega) (by decide)
    have t : lN (k / 2 ^ 24) &&& 63 = lN (k / 2 ^ 24 % 2 ^ 6) := this
    rw [t, lN_i]
  unfold m_bytes_133
  rw [if_neg (by rw [eq_c (by omega) 91 91 rfl (by decide)]; omega)]
  have xb : ∀ (z : XS) (a : Int32), (if nI op = 92 then x_bytes_69 (nI op) (nI n) e z (lN k) a else if nI op = 93 then x_bytes_69 (nI op) (nI n) e z (lN k) a else (x_depositByte z (nI n) (lN k) a).bind (fun z87 => some z87)) = if (94 : Int32) ≤ nI op then x_depositByte z (nI n) (lN k) a else x_loadByte z (nI n) (lN k) a := by
    intro z a
    unfold x_bytes_69
    simp only [ob_id]
    rcases (show op = 92 ∨ op = 93 ∨ op = 94 ∨ op = 95 by omega) with rfl | rfl | rfl | rfl <;> rfl
  simp only [xb, nmv_eq]
  rw [e30, e24]
  -- the rest, from any state, for the word that both have read
  have rest : ∀ (v' : MS) (at' : Int32) (w : Int64), rW w → ∃ w' b', (∀ i, i < 64 → lb b' i = (decide (i < (if k / 2 ^ 24 % 64 < 36 then k / 2 ^ 24 % 64 else 36)) && lb w (k / 2 ^ 30 + i))) ∧ (∀ i, i < 64 → lb w' i = if decide (k / 2 ^ 30 ≤ i) && (decide (i < k / 2 ^ 30 + (if k / 2 ^ 24 % 64 < 36 then k / 2 ^ 24 % 64 else 36)) && decide (i < 36)) then lb (M_store v' n) (i - k / 2 ^ 30) else lb w i) ∧ m_bytes_186 (nI op) (nI n) e 37 v' at' (nI (k / 2 ^ 30)) (nI (k / 2 ^ 24 % 64)) w 0 0 = if (94 : Int32) ≤ nI op then m_set v' at' w' else m_setAc v' (nI n) b' := by
    intro v' at' w hw
    obtain ⟨w', b', q1, q2, q3⟩ := byte_loop (nI op) hn e v' at' hP hS w hw (if k / 2 ^ 24 % 64 < 36 then k / 2 ^ 24 % 64 else 36) 0 37 w 0 (by omega) (by split <;> omega) (fun i hi2 => by rw [lb_0, decide_eq_false (Nat.not_lt_zero i), Bool.false_and]) (fun i hi2 => by
      by_cases c : k / 2 ^ 30 ≤ i
      · rw [decide_eq_false (show ¬ i < k / 2 ^ 30 + 0 by omega), Bool.false_and, Bool.and_false]; rfl
      · rw [decide_eq_false c, Bool.false_and]; rfl)
    refine ⟨w', b', q1, q2, ?_⟩
    have e0 : (0 : Int32) = nI 0 := rfl
    rw [e0, q3, b274]
  have hwx : ∀ w, rW w → ∀ i, i < 64 → lb ((((w.toUInt64 >>> ((x_position (lN k)).toInt64.toUInt64 &&& Int64.toUInt64 63)).toInt64)) &&& x_byteMask (lN k)) i = (decide (i < (if k / 2 ^ 24 % 64 < 36 then k / 2 ^ 24 % 64 else 36)) && lb w (k / 2 ^ 30 + i)) := fun w hw i hi2 => by
    rw [lb_and, x_pos_N hk, lb_ushr w hP, mask_lb hS hk rfl hi2, Bool.and_comm]
  rcases effective_R h (w := lN k) ⟨k, hk, rfl⟩ with ⟨ea, u', v', f1, f2, h', hea, -⟩ | ⟨ea, ea', u', v', f1, f2, h'⟩
  · rw [f1, f2, Option.bind_some, Option.bind_some]
    show rF (if (94 : Int32) ≤ nI op then x_depositByte u' (nI n) (lN k) ea else x_loadByte u' (nI n) (lN k) ea) ((m_get v' ea).bind (fun z175 => m_bytes_186 (nI op) (nI n) e 37 z175.2 ea (nI (k / 2 ^ 30)) (nI (k / 2 ^ 24 % 64)) z175.1 0 0))
    unfold x_depositByte x_loadByte
    simp only [ob_id, nmv_eq]
    rcases read_cases h' hea with ⟨w, hw, g1, g2⟩ | ⟨g1, g2⟩
    · rw [g1, g2, Option.bind_some, Option.bind_some, Option.bind_some]
      obtain ⟨w', b', q1, q2, q3⟩ := rest v' ea w hw
      show rF _ (m_bytes_186 (nI op) (nI n) e 37 v' ea (nI (k / 2 ^ 30)) (nI (k / 2 ^ 24 % 64)) w 0 0)
      rw [q3]
      by_cases c : (94 : Int32) ≤ nI op
      · rw [if_pos c, if_pos c, if_neg (x_ac hn), nI_clamp (by omega)]
        have ev : (w &&& (((x_byteMask (lN k) <<< ((x_position (lN k)).toInt64 &&& 63)) &&& 68719476735) ^^^ (-1))) ||| ((X_words u' n <<< ((x_position (lN k)).toInt64 &&& 63)) &&& ((x_byteMask (lN k) <<< ((x_position (lN k)).toInt64 &&& 63)) &&& 68719476735)) = w' := lb_ext fun i hi2 => by
          rw [q2 i hi2, lb_or, lb_and, lb_and, lb_not _ hi2, lb_and, lb_all, x_pos_N hk, lb_shl _ hP hi2, lb_shl _ hP hi2, h'.words]
          by_cases d : k / 2 ^ 30 ≤ i
          · rw [mask_lb hS hk rfl (show i - k / 2 ^ 30 < 64 by omega), decide_eq_true d]
            by_cases d2 : i < 36
            · rw [decide_eq_true d2]
              by_cases d3 : i < k / 2 ^ 30 + (if k / 2 ^ 24 % 64 < 36 then k / 2 ^ 24 % 64 else 36)
              · rw [decide_eq_true d3, decide_eq_true (show i - k / 2 ^ 30 < (if k / 2 ^ 24 % 64 < 36 then k / 2 ^ 24 % 64 else 36) by omega)]; simp
              · rw [decide_eq_false d3, decide_eq_false (show ¬ i - k / 2 ^ 30 < (if k / 2 ^ 24 % 64 < 36 then k / 2 ^ 24 % 64 else 36) by omega)]; simp
            · rw [decide_eq_false d2]; simp
          · rw [decide_eq_false d]; simp
        show rF (x_write u' ea _) _
        rw [ev]
        have hw' : rW w' := W_lb fun i h1' h2' => by
          rw [q2 i h2', decide_eq_false (show ¬ i < 36 by omega), Bool.and_false, Bool.and_false]
          exact lb_W hw h1'
        exact write_R (Or.inl h') (fun _ => ⟨rfl, hea, rfl, hw'⟩)
      · rw [if_neg c, if_neg c]
        have ev : (((w.toUInt64 >>> ((x_position (lN k)).toInt64.toUInt64 &&& Int64.toUInt64 63)).toInt64)) &&& x_byteMask (lN k) = b' := lb_ext fun i hi2 => by rw [hwx w hw i hi2, q1 i hi2]
        show rF (x_setAccumulator u' (nI n) _) _
        rw [ev]
        have hb' : rW b' := W_lb fun i h1' h2' => by
          rw [q1 i h2', decide_eq_false (by split <;> omega), Bool.false_and]
        exact acW_R (Or.inl h') hn hb'
    · have t1 := h'.t1
      rw [g1, g2, Option.bind_some, Option.bind_some, Option.bind_some]
      obtain ⟨w', b', -, -, q3⟩ := rest (M_s_wrong v' 1) ea 0 ⟨0, by decide, rfl⟩
      show rF _ (m_bytes_186 (nI op) (nI n) e 37 (M_s_wrong v' 1) ea (nI (k / 2 ^ 30)) (nI (k / 2 ^ 24 % 64)) 0 0 0)
      rw [q3, mf_set t1.pos, mf_ac t1.wrong, if_neg (x_ac hn), xf_write t1.2, xf_ac t1.2]
      split <;> exact rF1 t1
  · rw [f1, f2, Option.bind_some, Option.bind_some]
    show rF (if (94 : Int32) ≤ nI op then x_depositByte u' (nI n) (lN k) ea else x_loadByte u' (nI n) (lN k) ea) ((m_get v' ea').bind (fun z175 => m_bytes_186 (nI op) (nI n) e 37 z175.2 ea' (nI (k / 2 ^ 30)) (nI (k / 2 ^ 24 % 64)) z175.1 0 0))
    unfold x_depositByte x_loadByte
    simp only [ob_id, nmv_eq]
    obtain ⟨w, g1⟩ := xf_read h'.2 ea
    rw [g1, mf_get h'.pos, Option.bind_some, Option.bind_some, Option.bind_some]
    obtain ⟨w', b', -, -, q3⟩ := rest v' ea' 0 ⟨0, by decide, rfl⟩
    show rF _ (m_bytes_186 (nI op) (nI n) e 37 v' ea' (nI (k / 2 ^ 30)) (nI (k / 2 ^ 24 % 64)) 0 0 0)
    rw [q3, mf_set h'.pos, mf_ac h'.wrong, if_neg (x_ac hn), xf_write h'.2, xf_ac h'.2]
    split <;> exact rF1 h'
theorem x35_91 (a1 e : Int32) (u : XS) : x_bytes_35 (nI 91) a1 e u = some u := rfl
/-- 133 .. 137 -/
theorem bytes_R {u : XS} {v : MS} (h : r0 u v) {op n : Nat} (h1 : 91 ≤ op) (h2 : op < 96) (hn : n < 16) {e : Int32} (he : rA e) : rF (x_bytes u (nI op) (nI n) e) (m_bytes v (nI op) (nI n) e) := by
  have x35 : ∀ (u' : XS), 92 ≤ op → x_bytes_35 (nI op) (nI n) e u' = (x_read u' e).bind (fun z44 => (x_effective z44.2 z44.1).bind (fun z52 => if nI op = 92 then x_bytes_69 (nI op) (nI n) e z52.2 z44.1 z52.1 else if nI op = 93 then x_bytes_69 (nI op) (nI n) e z52.2 z44.1 z52.1 else (x_depositByte z52.2 (nI n) z44.1 z52.1).bind (fun z87 => some z87))) := fun u' h92 => by
    unfold x_bytes_35
    rw [if_neg (by rw [eq_c (by omega) 91 91 rfl (by decide)]; omega)]
  -- when a trap stands
  have xf35 : ∀ (u' : XS), ¬ X_trap u' = 0 → x_bytes_35 (nI op) (nI n) e u' = some u' := fun u' ht => by
    by_cases c : op = 91
    · subst c; rfl
    · rw [x35 u' (by omega)]
      obtain ⟨w, g1⟩ := xf_read ht e
      rw [g1, Option.bind_some]
      obtain ⟨ea, g2⟩ := xf_eff ht w
      show (x_effective u' w).bind _ = _
      rw [g2, Option.bind_some]
      obtain ⟨w2, g3⟩ := xf_read ht ea
      unfold x_bytes_69 x_loadByte x_depositByte
      simp only [g3, Option.bind_some, nmv_eq, xf_ac ht, xf_write ht, if_neg (x_ac hn)]
      repeat' split
      all_goals rfl
  have mf133 : ∀ (v' : MS) (k : Nat), ¬ M_wrong v' ≤ 0 → m_bytes_133 (nI op) (nI n) e v' (lN k) = some v' := fun v' k ht => by
    have h0 : ¬ M_wrong v' = 0 := fun z => ht (by rw [z]; decide)
    unfold m_bytes_133
    split
    · rfl
    · obtain ⟨ea, g⟩ := mf_eff h0 (lN k)
      rw [g, Option.bind_some, nmv_eq, nmv_eq]
      have gg : m_get v' ea = some (0, v') := mf_get ht ea
      show (m_get v' ea).bind _ = _
      rw [gg, Option.bind_some]
      obtain ⟨P, hP, eP⟩ : ∃ P, P < 64 ∧ ((lN k >>> ((30 : Int32).toInt64 &&& 63)) &&& 63).toInt32 = nI P := by
        obtain ⟨m, hm, em⟩ := wb_of (lN k >>> ((30 : Int32).toInt64 &&& 63))
        have t := wb_mask (n := m) (k := 6) hm (by decide)
        have t' : lN m &&& 63 = lN (m % 2 ^ 6) := t
        exact ⟨m % 2 ^ 6, Nat.mod_lt _ (by decide), by rw [em, t', lN_i]⟩
      obtain ⟨S, hS, eS⟩ : ∃ S, S < 64 ∧ ((lN k >>> ((24 : Int32).toInt64 &&& 63)) &&& 63).toInt32 = nI S := by
        obtain ⟨m, hm, em⟩ := wb_of (lN k >>> ((24 : Int32).toInt64 &&& 63))
        have t := wb_mask (n := m) (k := 6) hm (by decide)
        have t' : lN m &&& 63 = lN (m % 2 ^ 6) := t
        exact ⟨m % 2 ^ 6, Nat.mod_lt _ (by decide), by rw [em, t', lN_i]⟩
      rw [eP, eS]
      obtain ⟨w', b', -, -, q3⟩ := byte_loop (nI op) hn e v' ea hP hS 0 ⟨0, by decide, rfl⟩ (if S < 36 then S else 36) 0 37 0 0 (by omega) (by split <;> omega) (fun i hi2 => by rw [lb_0, decide_eq_false (Nat.not_lt_zero i), Bool.false_and]) (fun i hi2 => by
        by_cases c : P ≤ i
        · rw [decide_eq_false (show ¬ i < P + 0 by omega), Bool.false_and, Bool.and_false]; rfl
        · rw [decide_eq_false c, Bool.false_and]; rfl)
      show m_bytes_186 (nI op) (nI n) e 37 v' ea (nI P) (nI S) 0 0 (nI 0) = some v'
      rw [q3, b274, mf_set ht, mf_ac h0]
      split <;> rfl
  -- from here: the class re-reads the pointer that it wrote
  have adv' : op = 91 ∨ op = 92 ∨ op = 94 → rF ((x_advancePointer u e).bind (fun z32 => x_bytes_35 (nI op) (nI n) e z32)) ((m_get v e).bind (fun z2 => m_bytes_25 (nI op) (nI n) e z2.2 z2.1)) := by
    intro ho
    rcases place_cases h he with ⟨p, hp, ep, -⟩ | ⟨ep, em⟩
    · obtain ⟨k, hk, ek⟩ := h.w p
      have hr : x_read u e = some (lN k, u) := by
        unfold x_read
        rw [nmv_eq, ep, isPlace_N (by omega), if_pos hp, if_neg (by decide), if_neg (in_idx hp), nI_clamp (by omega), ek]
      have hg : m_get v e = some (lN k, v) := by
        rcases read_cases h he with ⟨w, hw, e1, e2⟩ | ⟨e1, e2⟩
        · rw [hr] at e1
          have tw : lN k = w := congrArg Prod.fst (Option.some.inj e1)
          rw [e2, ← tw]
        · rw [hr] at e1
          have := congrArg (fun z : Int64 × XS => X_trap z.2) (Option.some.inj e1)
          have t : X_trap u = 1 := this
          rw [h.2.1] at t; exact absurd t (by decide)
      rw [x_adv_eq hk hr, hg, Option.bind_some, m_adv_eq _ _ _ _ hk]
      have ha := adv_lt hk
      have hW : rW (lN (adv k)) := ⟨_, ha, rfl⟩
      have exw : x_write u e (lN (adv k)) = some (X_s_words u (vp_updL (X_words u) p (lN (adv k)))) := by
        unfold x_write
        rw [nmv_eq, ep, isPlace_N (by omega), if_pos hp, if_neg (by decide), if_pos h.2.1, if_neg (in_idx hp), nI_clamp (by omega)]
      rcases write_cases h he hW with ⟨p2, hp2, e1, e2⟩ | ⟨e1, e2⟩
      · have hpp : vp_updL (X_words u) p2 (lN (adv k)) = vp_updL (X_words u) p (lN (adv k)) := by
          rw [exw] at e1
          exact (congrArg X_words (Option.some.inj e1)).symm
        rw [hpp] at e2
        rw [exw, e2, Option.bind_some, Option.bind_some]
        have h' := h.put hW p
        by_cases c : op = 91
        · subst c
          exact rF0 h'
        · rw [x35 _ (by omega), read_again hp ep, Option.bind_some]
          have ew : vp_updL (X_words u) p (lN (adv k)) p = lN (adv k) := upd_at _ _ _
          rw [ew]
          exact bytes_133 h' (by omega) h2 hn e ha
      · rw [exw] at e1
        have := congrArg X_trap (Option.some.inj e1)
        have t : X_trap u = 1 := this
        rw [h.2.1] at t; exact absurd t (by decide)
    · have t1 := h.t1
      have hr : x_read u e = some (0, X_s_trap u 1) := by
        unfold x_read
        rw [nmv_eq, if_pos ep, x_raise_0 h.2.1]; rfl
      have hg : m_get v e = some (0, M_s_wrong v 1) := by
        unfold m_get
        rw [em, Option.bind_some]
        exact if_neg (show ¬ (0 : Int32) ≤ -1 by decide)
      have exa : x_advancePointer u e = some (X_s_trap u 1) := by
        unfold x_advancePointer x_advancePointer_50
        rw [hr, Option.bind_some]
        simp only [nmv_eq, xf_write t1.2, Option.bind_some]
        split <;> rfl
      rw [exa, hg, Option.bind_some, Option.bind_some, xf35 _ t1.2]
      have e0 : m_bytes_25 (nI op) (nI n) e (M_s_wrong v 1) 0 = (m_set (M_s_wrong v 1) e (lN (adv 0))).bind (fun z => m_bytes_133 (nI op) (nI n) e z (lN (adv 0))) := m_adv_eq (nI op) (nI n) e (M_s_wrong v 1) (k := 0) (by decide)
      show rF _ (m_bytes_25 (nI op) (nI n) e (M_s_wrong v 1) 0)
      rw [e0, mf_set t1.pos, Option.bind_some, mf133 _ _ t1.pos]
      exact rF1 t1
  have noadv : op = 93 ∨ op = 95 → rF (x_bytes_35 (nI op) (nI n) e u) ((m_get v e).bind (fun z2 => m_bytes_133 (nI op) (nI n) e z2.2 z2.1)) := by
    intro ho
    rw [x35 u (by omega)]
    rcases read_cases h he with ⟨w, ⟨k, hk, rfl⟩, e1, e2⟩ | ⟨e1, e2⟩
    · rw [e1, e2, Option.bind_some, Option.bind_some]
      exact bytes_133 h (by omega) h2 hn e hk
    · have t1 := h.t1
      have := xf35 (X_s_trap u 1) t1.2
      rw [x35 _ (by omega)] at this
      rw [e1, e2, Option.bind_some, Option.bind_some]
      have em : m_bytes_133 (nI op) (nI n) e (M_s_wrong v 1) 0 = some (M_s_wrong v 1) := mf133 _ 0 t1.pos
      show rF _ (m_bytes_133 (nI op) (nI n) e (M_s_wrong v 1) 0)
      rw [em]
      obtain ⟨ea, g2⟩ := xf_eff t1.2 0
      show rF ((x_effective (X_s_trap u 1) 0).bind _) _
      rw [g2, Option.bind_some]
      obtain ⟨w2, g3⟩ := xf_read t1.2 ea
      unfold x_bytes_69 x_loadByte x_depositByte
      simp only [g3, Option.bind_some, nmv_eq, xf_ac t1.2, xf_write t1.2, if_neg (x_ac hn)]
      repeat' split
      all_goals exact rF1 t1
  rcases (show op = 91 ∨ op = 92 ∨ op = 93 ∨ op = 94 ∨ op = 95 by omega) with rfl | rfl | rfl | rfl | rfl
  · exact adv' (Or.inl rfl)
  · exact adv' (Or.inr (Or.inl rfl))
  · exact noadv (Or.inl rfl)
  · exact adv' (Or.inr (Or.inr rfl))
  · exact noadv (Or.inr rfl)
