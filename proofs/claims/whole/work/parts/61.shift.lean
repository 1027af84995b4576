/-! shifts -/
theorem sub_neg {i b : Nat} (h : i < b) (hb : b < 2 ^ 30) : nI i - nI b = -(nI (b - i)) := Int32.toInt_inj.mp (by rw [pk_sub_toInt (by omega) hb, sb_negT (by omega)]; omega)
theorem sub_negN (i c : Nat) : nI i - -(nI c) = nI (i + c) := by rw [Int32.sub_neg, nI_add]
theorem b2i_def (b : Bool) : b2i b = if b then 1 else 0 := rfl
theorem sh_loop (a0 a1 a2 : Int32) (v : MS) (N : Int32) (x : Int64) (s : Int32) (g : Nat → Bool) (hstep : ∀ (c : Nat) (w : Int64) (i : Nat), i < 36 → m_shift_44 a0 a1 a2 (c + 1) v N x w s (nI i) = m_shift_44 a0 a1 a2 c v N x (w ||| (((b2i (g i)).toInt64) <<< ((nI i).toInt64 &&& 63))) s (nI (i + 1))) : ∃ w', (∀ q, q < 64 → lb w' q = (decide (q < 36) && g q)) ∧ m_shift_44 a0 a1 a2 37 v N x 0 s 0 = m_shift_44 a0 a1 a2 1 v N x w' s (nI 36) := by
  have key : ∀ (j i : Nat) (w : Int64), i + j = 36 → (∀ q, q < 64 → lb w q = (decide (q < i) && g q)) → ∃ w', (∀ q, q < 64 → lb w' q = (decide (q < 36) && g q)) ∧ m_shift_44 a0 a1 a2 (j + 1) v N x w s (nI i) = m_shift_44 a0 a1 a2 1 v N x w' s (nI 36) := by
    intro j
    induction j with
    | zero => intro i w h1 h2; have : i = 36 := by omega
              subst this; exact ⟨w, h2, rfl⟩
    | succ j IH =>
      intro i w h1 h2
      rw [hstep _ _ _ (by omega)]
      refine IH (i + 1) _ (by omega) (fun q hq => ?_)
      have := lb_put w (g i) (k := i) (by omega) hq
      rw [b2i_def, this, h2 q hq]
      by_cases d : q = i
      · subst d
        rw [decide_eq_false (Nat.lt_irrefl q), decide_eq_true (Nat.lt_succ_self q), decide_eq_true rfl]; rfl
      · rw [decide_eq_false d, Bool.false_and, Bool.or_false]
        by_cases d2 : q < i
        · rw [decide_eq_true d2, decide_eq_true (by omega)]
        · rw [decide_eq_false d2, decide_eq_false (by omega)]
  exact key 36 0 0 (by omega) (fun q hq => by rw [lb_0]; rfl)
theorem step161 (a1 a2 : Int32) (c : Nat) (v : MS) (N : Int32) (x w : Int64) (s : Int32) {i : Nat} (hi : i < 36) {t : Nat} (ht : t < 36) (hidx : (((nI i - N) - (nI i - N) / (36 : Int32) * (36 : Int32)) + (36 : Int32)) - (((nI i - N) - (nI i - N) / (36 : Int32) * (36 : Int32)) + (36 : Int32)) / (36 : Int32) * (36 : Int32) = nI t) : m_shift_44 161 a1 a2 (c + 1) v N x w s (nI i) = m_shift_44 161 a1 a2 c v N x (w ||| (((b2i (lb x t)).toInt64) <<< ((nI i).toInt64 &&& 63))) s (nI (i + 1)) := by
  rw [m_shift_44, if_neg (by rw [ge_c (by omega) 36 36 rfl (by decide)]; omega), nmv_eq, if_pos (show (161 : Int32) = 161 from rfl), hidx, m_bit_lb x (by omega), nmv_eq]
  unfold m_shift_161
  rw [nmv_eq, show nI i + Int32.ofInt 1 = nI (i + 1) from nI_1 i]
  rfl
theorem idx_pos : ∀ f, f < 300 → ((nI f - nI f / (36 : Int32) * (36 : Int32)) + (36 : Int32)) - ((nI f - nI f / (36 : Int32) * (36 : Int32)) + (36 : Int32)) / (36 : Int32) * (36 : Int32) = nI (f % 36) := by decide +kernel
theorem idx_neg : ∀ f, f < 300 → ((-(nI f) - -(nI f) / (36 : Int32) * (36 : Int32)) + (36 : Int32)) - ((-(nI f) - -(nI f) / (36 : Int32) * (36 : Int32)) + (36 : Int32)) / (36 : Int32) * (36 : Int32) = nI ((360 - f) % 36) := by decide +kernel
theorem fm_pos : ∀ b, b < 256 → j_floorMod (nI b) 36 = nI (b % 36) := by decide +kernel
theorem fm_neg : ∀ c, c < 257 → j_floorMod (-(nI c)) 36 = nI ((360 - c) % 36) := by decide +kernel
/-- the tail of the reference's shift -/
theorem sh_exit (op : Int32) (hop : op = 161 ∨ op = 162) (a1 a2 : Int32) (v : MS) (N : Int32) (x w : Int64) (s : Int32) : m_shift_44 op a1 a2 1 v N x w s (nI 36) = m_setAc v a1 w := by
  have n160 : ¬ op = 160 := by rcases hop with rfl | rfl <;> decide
  rw [m_shift_44, if_pos (show (36 : Int32) ≤ nI 36 by decide), if_neg n160]
  unfold m_shift_202 m_shift_203
  rw [m_shift_209, if_neg n160]
  unfold m_shift_261
  rw [m_over_0, Option.bind_some, ob_id]
  split
  · rfl
  · split <;> rfl
/-- by how much: a number from 0 to 255, or from -256 to -1 -/
def sN (neg : Bool) (b : Nat) : Int32 := if neg then -(nI b) else nI b
theorem rot_R {u : XS} {v : MS} (h : r0 u v) {n : Nat} (hn : n < 16) (a2 : Int32) (neg : Bool) {b : Nat} (hb : b < 257) (hb2 : neg = false → b < 256) (s : Int32) : rF (x_setAccumulator u (nI n) (x_rotated (X_words u n) (sN neg b))) (m_shift_44 161 (nI n) a2 37 v (sN neg b) (X_words u n) 0 s 0) := by
  have hW := h.w n
  generalize hx : X_words u n = x at hW ⊢
  -- left turns
  obtain ⟨L, hL, eL, eI⟩ : ∃ L, L < 36 ∧ j_floorMod (sN neg b) 36 = nI L ∧ ∀ i, i < 36 → (((nI i - sN neg b) - (nI i - sN neg b) / (36 : Int32) * (36 : Int32)) + (36 : Int32)) - (((nI i - sN neg b) - (nI i - sN neg b) / (36 : Int32) * (36 : Int32)) + (36 : Int32)) / (36 : Int32) * (36 : Int32) = nI ((i + 36 - L) % 36) := by
    cases neg
    · refine ⟨b % 36, Nat.mod_lt _ (by decide), fm_pos b (hb2 rfl), fun i hi => ?_⟩
      have hbb := hb2 rfl
      show (((nI i - nI b) - (nI i - nI b) / (36 : Int32) * (36 : Int32)) + (36 : Int32)) - (((nI i - nI b) - (nI i - nI b) / (36 : Int32) * (36 : Int32)) + (36 : Int32)) / (36 : Int32) * (36 : Int32) = _
      by_cases c : b ≤ i
      · rw [pk_sub c, idx_pos _ (by omega)]; congr 1; omega
      · rw [sub_neg (by omega) (by omega), idx_neg _ (by omega)]; congr 1; omega
    · refine ⟨(360 - b) % 36, Nat.mod_lt _ (by decide), fm_neg b hb, fun i hi => ?_⟩
      show (((nI i - -(nI b)) - (nI i - -(nI b)) / (36 : Int32) * (36 : Int32)) + (36 : Int32)) - (((nI i - -(nI b)) - (nI i - -(nI b)) / (36 : Int32) * (36 : Int32)) + (36 : Int32)) / (36 : Int32) * (36 : Int32) = _
      rw [sub_negN, idx_pos _ (by omega)]; congr 1; omega
  obtain ⟨w', q1, q2⟩ := sh_loop 161 (nI n) a2 v (sN neg b) x s (fun i => lb x ((i + 36 - L) % 36)) (fun c w i hi => step161 _ _ _ _ _ _ _ _ hi (Nat.mod_lt _ (by decide)) (eI i hi))
  rw [q2, sh_exit 161 (Or.inl rfl)]
  have ew : x_rotated x (sN neg b) = w' := lb_ext fun i hi => by
    unfold x_rotated
    rw [eL, nmv_eq, q1 i hi]
    have e36 : (36 : Int32) - nI L = nI (36 - L) := pk_sub (a := 36) (b := L) (by omega)
    rw [e36, lb_and, lb_all, lb_or, lb_shl x (by omega) hi, lb_ushr x (by omega)]
    by_cases d : i < 36
    · rw [decide_eq_true d, Bool.and_true, Bool.true_and]
      by_cases c : L ≤ i
      · rw [decide_eq_true c, Bool.true_and, lb_W hW (show 36 ≤ 36 - L + i by omega), Bool.or_false, show (i + 36 - L) % 36 = i - L by omega]
      · rw [decide_eq_false c, Bool.false_and, Bool.false_or, show (i + 36 - L) % 36 = 36 - L + i by omega]
    · rw [decide_eq_false d, Bool.and_false, Bool.false_and]
  rw [ew]
  refine acW_R (Or.inl h) hn (W_lb fun i h1 h2 => ?_)
  rw [q1 i h2, decide_eq_false (by omega), Bool.false_and]
theorem step162 (a1 a2 : Int32) (c : Nat) (v : MS) (neg : Bool) {b : Nat} (hb : b < 257) (x : Int64) (hx : rW x) (w : Int64) (s : Int32) {i : Nat} (hi : i < 36) : m_shift_44 162 a1 a2 (c + 1) v (sN neg b) x w s (nI i) = m_shift_44 162 a1 a2 c v (sN neg b) x (w ||| (((b2i (if neg then lb x (i + b) else (decide (b ≤ i) && lb x (i - b)))).toInt64) <<< ((nI i).toInt64 &&& 63))) s (nI (i + 1)) := by
  rw [m_shift_44, if_neg (by rw [ge_c (by omega) 36 36 rfl (by decide)]; omega), nmv_eq, if_neg (show ¬ (162 : Int32) = 161 by decide), if_pos (show (162 : Int32) = 162 from rfl)]
  unfold m_shift_108 m_shift_119 m_shift_161
  simp only [nmv_eq]
  rw [show nI i + Int32.ofInt 1 = nI (i + 1) from nI_1 i]
  cases neg
  · rw [show nI i - sN false b = nI i - nI b from rfl]
    by_cases c : b ≤ i
    · rw [pk_sub c, if_neg (neg_c (by omega)), if_pos (by rw [le_c (by omega) 35 35 rfl (by decide)]; omega), m_bit_lb x (by omega), decide_eq_true c]
      rfl
    · rw [if_pos (pk_sneg (by omega) (by omega)), decide_eq_false c]
      rfl
  · rw [show nI i - sN true b = nI i - -(nI b) from rfl, sub_negN, if_neg (neg_c (by omega))]
    by_cases c : i + b ≤ 35
    · rw [if_pos (by rw [le_c (by omega) 35 35 rfl (by decide)]; exact c), m_bit_lb x (by omega)]
      rfl
    · rw [if_neg (by rw [le_c (by omega) 35 35 rfl (by decide)]; exact c), lb_W hx (by omega)]
      rfl
theorem neg36 : ∀ b, b < 257 → ((-(nI b) ≤ (-36 : Int32)) ↔ 36 ≤ b) ∧ ((-(nI b)) < (36 : Int32)) ∧ ((0 ≤ -(nI b)) ↔ b = 0) ∧ -(-(nI b)) = nI b := by decide +kernel
theorem pos36 : ∀ b, b < 256 → ¬ (nI b ≤ (-36 : Int32)) := by decide +kernel
theorem lb_bits {x : Int64} (hx : rW x) (neg : Bool) {b : Nat} (hb : b < 257) (hb2 : neg = false → b < 256) {i : Nat} (hi : i < 64) : lb (x_shiftedAsBits x (sN neg b)) i = (decide (i < 36) && (if neg then lb x (i + b) else (decide (b ≤ i) && lb x (i - b)))) := by
  unfold x_shiftedAsBits
  cases neg
  · have h2 := hb2 rfl
    show lb (if nI b ≤ -36 then 0 else if nI b < 36 then (if 0 ≤ nI b then (x <<< ((nI b).toInt64 &&& 63)) &&& 68719476735 else _) else 0) i = (decide (i < 36) && (decide (b ≤ i) && lb x (i - b)))
    rw [if_neg (pos36 b h2)]
    by_cases c : b < 36
    · rw [if_pos (by rw [lt_c (by omega) 36 36 rfl (by decide)]; exact c), if_pos (nneg (by omega)), lb_and, lb_all, lb_shl x (by omega) hi, Bool.and_comm]
    · rw [if_neg (by rw [lt_c (by omega) 36 36 rfl (by decide)]; exact c), lb_0]
      by_cases d : i < 36
      · rw [decide_eq_false (show ¬ b ≤ i by omega)]; simp
      · rw [decide_eq_false d]; rfl
  · obtain ⟨n1, n2, n3, n4⟩ := neg36 b hb
    show lb (if -(nI b) ≤ -36 then 0 else if -(nI b) < 36 then (if 0 ≤ -(nI b) then (x <<< ((-(nI b)).toInt64 &&& 63)) &&& 68719476735 else ((x.toUInt64 >>> ((-(-(nI b))).toInt64.toUInt64 &&& Int64.toUInt64 63)).toInt64)) else 0) i = (decide (i < 36) && lb x (i + b))
    by_cases c : 36 ≤ b
    · rw [if_pos (n1.mpr c), lb_0, lb_W hx (show 36 ≤ i + b by omega), Bool.and_false]
    · rw [if_neg (mt n1.mp c), if_pos n2]
      by_cases z : b = 0
      · subst z
        rw [if_pos (n3.mpr rfl), lb_and, lb_all]
        have := lb_shl x (k := 0) (by decide) hi
        rw [show (-(nI 0)) = nI 0 from rfl, this, Bool.and_comm]
        simp
      · rw [if_neg (mt n3.mp z), n4, lb_ushr x (by omega), Nat.add_comm b i]
        by_cases d : i < 36
        · rw [decide_eq_true d, Bool.true_and]
        · rw [decide_eq_false d, Bool.false_and, lb_W hx (by omega)]
theorem lsh_R {u : XS} {v : MS} (h : r0 u v) {n : Nat} (hn : n < 16) (a2 : Int32) (neg : Bool) {b : Nat} (hb : b < 257) (hb2 : neg = false → b < 256) (s : Int32) : rF (x_setAccumulator u (nI n) (x_shiftedAsBits (X_words u n) (sN neg b))) (m_shift_44 162 (nI n) a2 37 v (sN neg b) (X_words u n) 0 s 0) := by
  have hW := h.w n
  obtain ⟨w', q1, q2⟩ := sh_loop 162 (nI n) a2 v (sN neg b) (X_words u n) s (fun i => if neg then lb (X_words u n) (i + b) else (decide (b ≤ i) && lb (X_words u n) (i - b))) (fun c w i hi => step162 _ _ _ _ neg hb _ hW _ _ hi)
  rw [q2, sh_exit 162 (Or.inr rfl)]
  have ew : x_shiftedAsBits (X_words u n) (sN neg b) = w' := lb_ext fun i hi => by rw [lb_bits hW neg hb hb2 hi, q1 i hi]
  rw [ew]
  refine acW_R (Or.inl h) hn (W_lb fun i h1 h2 => ?_)
  rw [q1 i h2, decide_eq_false (by omega), Bool.false_and]
-- ASH
def g160 (neg : Bool) (b : Nat) (x : Int64) (i : Nat) : Bool := if neg then (if i = 35 ∨ 34 < i + b then lb x 35 else lb x (i + b)) else (if i = 35 then lb x 35 else (decide (b ≤ i) && lb x (i - b)))
theorem step160 (a1 a2 : Int32) (c : Nat) (v : MS) (neg : Bool) {b : Nat} (hb : b < 257) (x : Int64) (w : Int64) {i : Nat} (hi : i < 36) : m_shift_44 160 a1 a2 (c + 1) v (sN neg b) x w (b2i (lb x 35)) (nI i) = m_shift_44 160 a1 a2 c v (sN neg b) x (w ||| (((b2i (g160 neg b x i)).toInt64) <<< ((nI i).toInt64 &&& 63))) (b2i (lb x 35)) (nI (i + 1)) := by
  rw [m_shift_44, if_neg (by rw [ge_c (by omega) 36 36 rfl (by decide)]; omega), nmv_eq, if_neg (show ¬ (160 : Int32) = 161 by decide), if_neg (show ¬ (160 : Int32) = 162 by decide)]
  unfold m_shift_138 m_shift_159 m_shift_161 g160
  simp only [nmv_eq]
  rw [show nI i + Int32.ofInt 1 = nI (i + 1) from nI_1 i]
  by_cases c35 : i = 35
  · subst c35
    rw [if_pos (show nI 35 = 35 from rfl)]
    cases neg
    · rfl
    · rw [if_pos rfl, if_pos (Or.inl rfl)]
  · rw [if_neg (by rw [eq_c (by omega) 35 35 rfl (by decide)]; exact c35)]
    cases neg
    · rw [show nI i - sN false b = nI i - nI b from rfl, if_neg (show ¬ (false = true) by decide), if_neg c35]
      by_cases c : b ≤ i
      · rw [pk_sub c, if_pos (by rw [le_c (by omega) 34 34 rfl (by decide)]; omega), if_pos (nneg (by omega)), m_bit_lb x (by omega), decide_eq_true c]
        rfl
      · have hneg : nI i - nI b < 0 := pk_sneg (by omega) (by omega)
        have hI : (nI i - nI b).toInt < 0 := by rw [pk_sub_toInt (by omega) (by omega)]; omega
        rw [if_pos (by rw [Int32.le_iff_toInt_le, show (34 : Int32).toInt = 34 from by decide]; omega), if_neg (by rw [Int32.le_iff_toInt_le, show (0 : Int32).toInt = 0 from by decide]; omega), decide_eq_false c]
        rfl
    · rw [show nI i - sN true b = nI i - -(nI b) from rfl, sub_negN, if_pos (show true = true from rfl)]
      by_cases c : i + b ≤ 34
      · rw [if_pos (by rw [le_c (by omega) 34 34 rfl (by decide)]; exact c), if_pos (nneg (by omega)), m_bit_lb x (by omega), if_neg (show ¬ (i = 35 ∨ 34 < i + b) by omega)]
        rfl
      · rw [if_neg (by rw [le_c (by omega) 34 34 rfl (by decide)]; exact c), if_pos (show i = 35 ∨ 34 < i + b by omega)]
def lostb (x : Int64) (b : Nat) : Nat → Bool
  | 0 => false
  | j + 1 => lostb x b j || (decide (34 < j + b) && (lb x j ^^ lb x 35))
theorem lostb_low (x : Int64) (b : Nat) : ∀ j, j + b ≤ 35 → lostb x b j = false
  | 0, _ => rfl
  | j + 1, h => by
    show (lostb x b j || (decide (34 < j + b) && _)) = false
    rw [lostb_low x b j (by omega), decide_eq_false (by omega)]; rfl
theorem lost_loop (a1 a2 : Int32) (v : MS) {b : Nat} (hb : b < 256) (x w : Int64) : ∀ (j c : Nat) (A : Bool), j ≤ 34 → j + 2 ≤ c → m_shift_209 160 a1 a2 c v (nI b) x w (b2i (lb x 35)) (b2i A) (nI j) = m_shift_261 160 a1 a2 v w (b2i (A || lostb x b (j + 1))) := by
  intro j
  induction j with
  | zero =>
    intro c A h1 h2
    obtain ⟨c, rfl⟩ : ∃ q, c = q + 2 := ⟨c - 2, by omega⟩
    rw [m_shift_209]
    by_cases d : 0 + b ≤ 34
    · rw [if_pos (show nI 0 ≤ 34 - nI b by rw [show (34 : Int32) - nI b = nI (34 - b) from pk_sub (a := 34) (b := b) (by omega)]; rw [nI_leI (by omega) (by omega)]; omega), lostb_low x b 1 (by omega), Bool.or_false]
    · have n1 : ¬ nI 0 ≤ 34 - nI b := by
        intro z
        by_cases e34 : b = 34
        · omega
        · have : nI 34 - nI b = -(nI (b - 34)) := sub_neg (by omega) (by omega)
          have e : (34 : Int32) - nI b = -(nI (b - 34)) := this
          rw [e, Int32.le_iff_toInt_le, sb_negT (by omega), nI_toInt (by omega)] at z
          omega
      rw [if_neg n1, if_neg (show ¬ nI 0 < 0 by decide), if_pos (show (160 : Int32) = 160 from rfl), m_bit_lb x (by decide)]
      unfold m_shift_248 m_shift_253
      have st : ∀ t, m_shift_209 160 a1 a2 (c + 1) v (nI b) x w (b2i (lb x 35)) t (nI 0 + Int32.ofInt (-1)) = m_shift_261 160 a1 a2 v w t := fun t => by
        rw [m_shift_209, if_pos (show (nI 0 + Int32.ofInt (-1)) < 0 by decide)]
        split <;> rfl
      simp only [st]
      show _ = m_shift_261 160 a1 a2 v w (b2i (A || (false || (decide (34 < 0 + b) && (lb x 0 ^^ lb x 35)))))
      rw [decide_eq_true (by omega)]
      cases A <;> cases lb x 0 <;> cases lb x 35 <;> rfl
  | succ j IH =>
    intro c A h1 h2
    obtain ⟨c, rfl⟩ : ∃ q, c = q + 1 := ⟨c - 1, by omega⟩
    rw [m_shift_209]
    by_cases d : j + 1 + b ≤ 34
    · rw [if_pos (show nI (j + 1) ≤ 34 - nI b by rw [show (34 : Int32) - nI b = nI (34 - b) from pk_sub (a := 34) (b := b) (by omega)]; rw [nI_leI (by omega) (by omega)]; omega), lostb_low x b (j + 1 + 1) (by omega), Bool.or_false]
    · have n1 : ¬ nI (j + 1) ≤ 34 - nI b := by
        intro z
        by_cases e34 : b ≤ 34
        · rw [show (34 : Int32) - nI b = nI (34 - b) from pk_sub (a := 34) (b := b) e34, nI_leI (by omega) (by omega)] at z
          omega
        · have e : (34 : Int32) - nI b = -(nI (b - 34)) := sub_neg (i := 34) (by omega) (by omega)
          rw [e, Int32.le_iff_toInt_le, sb_negT (by omega), nI_toInt (by omega)] at z
          omega
      rw [if_neg n1, if_neg (neg_c (by omega)), if_pos (show (160 : Int32) = 160 from rfl), m_bit_lb x (by omega)]
      unfold m_shift_248 m_shift_253
      have st : ∀ B, m_shift_209 160 a1 a2 c v (nI b) x w (b2i (lb x 35)) (b2i B) (nI (j + 1) + Int32.ofInt (-1)) = m_shift_261 160 a1 a2 v w (b2i (B || lostb x b (j + 1))) := fun B => by
        rw [show nI (j + 1) + Int32.ofInt (-1) = nI j from pk_m1 j]
        exact IH c B (by omega) (by omega)
      have s1 := st true
      have s0 := st false
      have e1 : b2i true = 1 := rfl
      have e0 : b2i false = 0 := rfl
      rw [e1] at s1
      rw [e0] at s0
      simp only [s1, s0]
      show _ = m_shift_261 160 a1 a2 v w (b2i (A || (lostb x b (j + 1) || (decide (34 < j + 1 + b) && (lb x (j + 1) ^^ lb x 35)))))
      rw [decide_eq_true (by omega)]
      generalize lostb x b (j + 1) = t
      cases A <;> cases lb x (j + 1) <;> cases lb x 35 <;> cases t <;> rfl
theorem lostb_iff (x : Int64) (b : Nat) : ∀ j, lostb x b j = false ↔ ∀ q, q < j → 34 < q + b → lb x q = lb x 35
  | 0 => ⟨fun _ q h => absurd h (Nat.not_lt_zero q), fun _ => rfl⟩
  | j + 1 => by
    show (lostb x b j || (decide (34 < j + b) && (lb x j ^^ lb x 35))) = false ↔ _
    rw [Bool.or_eq_false_iff, lostb_iff x b j]
    constructor
    · rintro ⟨h1, h2⟩ q hq hb
      by_cases d : q = j
      · subst d
        rw [decide_eq_true hb, Bool.true_and] at h2
        revert h2; cases lb x q <;> cases lb x 35 <;> simp
      · exact h1 q (by omega) hb
    · intro h
      refine ⟨fun q hq hb => h q (by omega) hb, ?_⟩
      by_cases d : 34 < j + b
      · rw [h j (by omega) d]; simp
      · rw [decide_eq_false d]; rfl
theorem lb_sign (i : Nat) : lb 34359738368 i = decide (i = 35) := by
  have e : (34359738368 : Int64) = lN (2 ^ 35) := rfl
  rw [e, lb_N, Nat.testBit_two_pow]
  by_cases d : i = 35
  · subst d; decide
  · rw [decide_eq_false d, decide_eq_false (show ¬ 35 = i from fun z => d z.symm), Bool.and_false]
theorem nsign : (-34359738369 : Int64) = 34359738368 ^^^ (-1) := by decide
theorem ash_val {x : Int64} (hx : rW x) {b : Nat} (hb : b < 256) {i : Nat} (hi : i < 64) : lb ((x &&& 34359738368) ||| (x_shiftedAsBits x (nI b) &&& (-34359738369))) i = (decide (i < 36) && g160 false b x i) := by
  have e := lb_bits hx false (b := b) (by omega) (fun _ => hb) hi
  have e' : lb (x_shiftedAsBits x (nI b)) i = (decide (i < 36) && (decide (b ≤ i) && lb x (i - b))) := e
  rw [lb_or, lb_and, lb_and, nsign, lb_not _ hi, lb_sign, e']
  show _ = (decide (i < 36) && (if i = 35 then lb x 35 else (decide (b ≤ i) && lb x (i - b))))
  by_cases d : i = 35
  · subst d
    rw [if_pos rfl, decide_eq_true rfl]; simp
  · rw [if_neg d, decide_eq_false d]; simp
theorem x_all_eq {x y : Int64} : x = y ↔ ∀ i, i < 64 → lb x i = lb y i := ⟨fun h i _ => by rw [h], lb_ext⟩
theorem ash_fits {x : Int64} (hx : rW x) {b : Nat} (h0 : 0 < b) (hb : b < 36) : x_signed x >>> (((35 : Int32) - nI b).toInt64 &&& 63) = x_signed x >>> ((36 : Int32).toInt64 &&& 63) ↔ lostb x b 35 = false := by
  have e35 : (35 : Int32) - nI b = nI (35 - b) := pk_sub (a := 35) (b := b) (by omega)
  rw [e35, x_all_eq, lostb_iff]
  have l36 : ∀ i, i < 64 → lb (x_signed x >>> ((36 : Int32).toInt64 &&& 63)) i = lb x 35 := fun i hi => by
    have := lb_sshr (x_signed x) (k := 36) (by decide) hi
    have t : lb (x_signed x >>> ((36 : Int32).toInt64 &&& 63)) i = if 36 + i < 64 then lb (x_signed x) (36 + i) else lb (x_signed x) 63 := this
    rw [t]
    split
    · rw [lb_signed hx (by omega), if_neg (by omega)]
    · rw [lb_signed hx (by omega), if_neg (by omega)]
  constructor
  · intro h q hq hb2
    have := h (q - (35 - b)) (by omega)
    rw [l36 _ (by omega), lb_sshr _ (by omega) (by omega), if_pos (by omega), show 35 - b + (q - (35 - b)) = q by omega, lb_signed hx (by omega), if_pos (by omega)] at this
    exact this
  · intro h i hi
    rw [l36 i hi, lb_sshr _ (by omega) hi]
    split
    · rw [lb_signed hx (by omega)]
      split
      · by_cases d : 35 - b + i = 35
        · rw [d]
        · exact h _ (by omega) (by omega)
      · rfl
    · rw [lb_signed hx (by omega), if_neg (by omega)]
theorem ash_zero {x : Int64} (hx : rW x) {b : Nat} (hb : 36 ≤ b) : x_signed x = 0 ↔ (lb x 35 || lostb x b 35) = false := by
  rw [x_all_eq, Bool.or_eq_false_iff, lostb_iff]
  constructor
  · intro h
    have hz : ∀ q, q < 36 → lb x q = false := fun q hq => by
      have := h q (by omega)
      rw [lb_signed hx (by omega), if_pos hq, lb_0] at this
      exact this
    exact ⟨hz 35 (by decide), fun q hq _ => by rw [hz q (by omega), hz 35 (by decide)]⟩
  · rintro ⟨h1, h2⟩ i hi
    rw [lb_signed hx hi, lb_0]
    split
    · by_cases d : i = 35
      · rw [d]; exact h1
      · rw [h2 i (by omega) (by omega)]; exact h1
    · exact h1
theorem ash_neg_val {x : Int64} (hx : rW x) {c : Nat} (hc : c < 257) {i : Nat} (hi : i < 64) : lb ((x_signed x >>> ((nI (if c < 36 then c else 36)).toInt64 &&& 63)) &&& 68719476735) i = (decide (i < 36) && g160 true c x i) := by
  rw [lb_and, lb_all, Bool.and_comm]
  congr 1
  have hk : (if c < 36 then c else 36) < 64 := by split <;> omega
  rw [lb_sshr _ hk hi]
  show _ = if i = 35 ∨ 34 < i + c then lb x 35 else lb x (i + c)
  by_cases h1 : c < 36
  · rw [if_pos h1]
    by_cases h2 : i = 35 ∨ 34 < i + c
    · rw [if_pos h2]
      split
      · rw [lb_signed hx (by omega)]
        split
        · rw [show c + i = 35 by omega]
        · rfl
      · rw [lb_signed hx (by omega), if_neg (by omega)]
    · rw [if_neg h2, if_pos (by omega), lb_signed hx (by omega), if_pos (by omega), Nat.add_comm]
  · rw [if_neg h1, if_pos (show i = 35 ∨ 34 < i + c by omega)]
    split
    · rw [lb_signed hx (by omega), if_neg (by omega)]
    · rw [lb_signed hx (by omega), if_neg (by omega)]
theorem negmin : ∀ c, c < 257 → ¬ (0 < -(nI c)) ∧ j_min (-(-(nI c))) 36 = nI (if c < 36 then c else 36) ∧ (-(nI c) ≤ (35 : Int32)) := by decide +kernel
set_option maxHeartbeats 2000000 in
theorem ash_R {u : XS} {v : MS} (h : r0 u v) {n : Nat} (hn : n < 16) (a2 : Int32) (neg : Bool) {b : Nat} (hb : b < 257) (hb2 : neg = false → b < 256) : rF ((x_shiftedAsNumber u (X_words u n) (sN neg b)).bind fun z => x_setAccumulator z.2 (nI n) z.1) (m_shift_44 160 (nI n) a2 37 v (sN neg b) (X_words u n) 0 (b2i (lb (X_words u n) 35)) 0) := by
  have hW := h.w n
  generalize hx : X_words u n = x at hW ⊢
  obtain ⟨w', q1, q2⟩ := sh_loop 160 (nI n) a2 v (sN neg b) x (b2i (lb x 35)) (g160 neg b x) (fun c w i hi => step160 _ _ _ _ neg hb _ _ hi)
  have hw' : rW w' := W_lb fun i h1 h2 => by rw [q1 i h2, decide_eq_false (by omega), Bool.false_and]
  rw [q2, m_shift_44, if_pos (show (36 : Int32) ≤ nI 36 by decide), if_pos (show (160 : Int32) = 160 from rfl)]
  unfold m_shift_202 m_shift_203
  unfold x_shiftedAsNumber
  rw [nmv_eq]
  have s261 : ∀ t, m_shift_261 160 (nI n) a2 v w' t = (m_over v t).bind (fun z => m_setAc z (nI n) w') := fun t => by unfold m_shift_261; simp only [ob_id]
  cases neg
  · have h2 := hb2 rfl
    rw [show sN false b = nI b from rfl]
    show rF _ (if nI b ≤ 35 then m_shift_209 160 (nI n) a2 37 v (nI b) x w' (b2i (lb x 35)) (b2i false) (nI 34) else if b2i (lb x 35) = 1 then m_shift_209 160 (nI n) a2 37 v (nI b) x w' (b2i (lb x 35)) (b2i true) (nI 34) else m_shift_209 160 (nI n) a2 37 v (nI b) x w' (b2i (lb x 35)) (b2i false) (nI 34))
    rw [lost_loop _ _ _ h2 _ _ 34 37 false (by omega) (by omega), lost_loop _ _ _ h2 _ _ 34 37 true (by omega) (by omega), s261, s261]
    have ev : (x &&& 34359738368) ||| (x_shiftedAsBits x (nI b) &&& (-34359738369)) = w' := lb_ext fun i hi => by rw [ash_val hW h2 hi, q1 i hi]
    have y67 : ∀ t, x_shiftedAsNumber_67 x (nI b) u t = if t = 0 then (x_setOverflow u).bind (fun z => some (w', z)) else some (w', u) := fun t => by
      unfold x_shiftedAsNumber_67 x_shiftedAsNumber_78
      rw [ev]
    -- both: OVERFLOW or not, then AC
    have fin : ∀ (ov : Bool), rF ((if (if ov then (0 : Int32) else 1) = 0 then (x_setOverflow u).bind (fun z => some (w', z)) else some (w', u)).bind fun z => x_setAccumulator z.2 (nI n) z.1) ((m_over v (b2i ov)).bind (fun z => m_setAc z (nI n) w')) := by
      intro ov
      cases ov
      · show rF (x_setAccumulator u (nI n) w') ((m_over v 0).bind _)
        rw [m_over_0, Option.bind_some]
        exact acW_R (Or.inl h) hn hw'
      · show rF (((x_setOverflow u).bind (fun z => some (w', z))).bind _) ((m_over v 1).bind _)
        rw [x_ov h.2.1, m_over_1 h.wrong, Option.bind_some, Option.bind_some, Option.bind_some]
        exact acW_R (Or.inl h.ovf) hn hw'
    by_cases b0 : b = 0
    · subst b0
      rw [if_neg (show ¬ 0 < nI 0 by decide), if_pos (show nI 0 ≤ 35 by decide), lostb_low x 0 (34 + 1) (by omega)]
      have e0 : (x_signed x >>> ((j_min (-(nI 0)) 36).toInt64 &&& 63)) &&& 68719476735 = w' := lb_ext fun i hi => by
        have t := ash_neg_val hW (c := 0) (by decide) hi
        have t' : lb ((x_signed x >>> ((j_min (-(nI 0)) 36).toInt64 &&& 63)) &&& 68719476735) i = (decide (i < 36) && g160 true 0 x i) := t
        rw [t', q1 i hi]
        by_cases d3 : i < 36
        · refine congrArg (fun t => decide (i < 36) && t) ?_
          show (if i = 35 ∨ 34 < i + 0 then lb x 35 else lb x (i + 0)) = (if i = 35 then lb x 35 else (decide (0 ≤ i) && lb x (i - 0)))
          by_cases d : i = 35
          · rw [if_pos (Or.inl d), if_pos d]
          · rw [if_neg (show ¬ (i = 35 ∨ 34 < i + 0) by omega), if_neg d, decide_eq_true (Nat.zero_le i)]; rfl
        · rw [decide_eq_false d3, Bool.false_and, Bool.false_and]
      rw [e0]
      exact fin false
    · rw [if_pos (by rw [gt_c (by omega) 0 0 rfl (by decide)]; omega)]
      by_cases b36 : 36 ≤ b
      · have p1 : (36 : Int32) ≤ nI b := by rw [ge_c (by omega) 36 36 rfl (by decide)]; exact b36
        have p2 : ¬ nI b ≤ 35 := by rw [le_c (by omega) 35 35 rfl (by decide)]; omega
        rw [if_pos p1, if_neg p2, y67, y67]
        have key := ash_zero hW b36
        have hm : (if b2i (lb x 35) = 1 then (m_over v (b2i (true || lostb x b (34 + 1)))).bind (fun z => m_setAc z (nI n) w') else (m_over v (b2i (false || lostb x b (34 + 1)))).bind (fun z => m_setAc z (nI n) w')) = (m_over v (b2i (lb x 35 || lostb x b 35))).bind (fun z => m_setAc z (nI n) w') := by
          cases lb x 35 <;> rfl
        rw [hm]
        have hxs : (if lg_cmp (x_signed x) 0 = 0 then (if (1 : Int32) = 0 then (x_setOverflow u).bind (fun z => some (w', z)) else some (w', u)) else (if (0 : Int32) = 0 then (x_setOverflow u).bind (fun z => some (w', z)) else some (w', u))) = (if (if (lb x 35 || lostb x b 35) then (0 : Int32) else 1) = 0 then (x_setOverflow u).bind (fun z => some (w', z)) else some (w', u)) := by
          cases hl : (lb x 35 || lostb x b 35)
          · rw [if_pos (l_cmp_eq.mpr (key.mpr hl))]; rfl
          · rw [if_neg (fun z => by rw [key.mp (l_cmp_eq.mp z)] at hl; cases hl)]; rfl
        rw [hxs]
        exact fin _
      · have p1 : ¬ (36 : Int32) ≤ nI b := by rw [ge_c (by omega) 36 36 rfl (by decide)]; exact b36
        have p2 : nI b ≤ 35 := by rw [le_c (by omega) 35 35 rfl (by decide)]; omega
        rw [if_neg p1, if_pos p2, y67, y67]
        have key := ash_fits hW (b := b) (by omega) (by omega)
        have hxs : (if lg_cmp (x_signed x >>> (((35 : Int32) - nI b).toInt64 &&& 63)) (x_signed x >>> ((36 : Int32).toInt64 &&& 63)) = 0 then (if (1 : Int32) = 0 then (x_setOverflow u).bind (fun z => some (w', z)) else some (w', u)) else (if (0 : Int32) = 0 then (x_setOverflow u).bind (fun z => some (w', z)) else some (w', u))) = (if (if lostb x b 35 then (0 : Int32) else 1) = 0 then (x_setOverflow u).bind (fun z => some (w', z)) else some (w', u)) := by
          cases hl : lostb x b 35
          · rw [if_pos (l_cmp_eq.mpr (key.mpr hl))]; rfl
          · rw [if_neg (fun z => by rw [key.mp (l_cmp_eq.mp z)] at hl; cases hl)]; rfl
        rw [hxs, Bool.false_or]
        exact fin _
  · obtain ⟨n1, n2, n3⟩ := negmin b hb
    rw [show sN true b = -(nI b) from rfl, if_neg n1, if_pos n3, n2, Option.bind_some]
    have ev : (x_signed x >>> ((nI (if b < 36 then b else 36)).toInt64 &&& 63)) &&& 68719476735 = w' := lb_ext fun i hi => by rw [ash_neg_val hW hb hi, q1 i hi]
    rw [ev]
    have e34 : (34 : Int32) - -(nI b) = nI (34 + b) := sub_negN 34 b
    rw [m_shift_209, e34, if_pos (show (34 : Int32) ≤ nI (34 + b) by rw [ge_c (by omega) 34 34 rfl (by decide)]; omega), s261, m_over_0, Option.bind_some]
    exact acW_R (Or.inl h) hn hw'
/-- ASH, ROT, LSH -/
theorem shift_R {u : XS} {v : MS} (h : r0 u v) {op n : Nat} (h1 : 160 ≤ op) (h2 : op < 163) (hn : n < 16) {e : Int32} (he : rA e) : rF (x_shift u (nI op) (nI n) e) (m_flow v (nI op) (nI n) e) := by
  obtain ⟨k, hk, rfl⟩ := he
  have hi := x_ac hn
  rw [nI_clamp (by omega)] at hi
  have ef : m_flow v (nI op) (nI n) (nI k) = m_shift v (nI op) (nI n) (nI k) := by
    unfold m_flow
    rw [if_neg (x_ac hn), nmv_eq]
    rcases (show op = 160 ∨ op = 161 ∨ op = 162 by omega) with rfl | rfl | rfl <;> (simp only [ob_id]; rfl)
  obtain ⟨neg, b, hb, hb2, ex, em⟩ : ∃ (neg : Bool) (b : Nat), b < 257 ∧ (neg = false → b < 256) ∧ x_shift u (nI op) (nI n) (nI k) = x_shift_19 (nI op) (nI n) (nI k) u (sN neg b) 0 ∧ m_shift v (nI op) (nI n) (nI k) = m_shift_18 (nI op) (nI n) (nI k) v (sN neg b) 0 := by
    obtain ⟨hb, -⟩ := other_eq (k := 3) (st := 0) (by decide) hk
    have hc : (nI k &&& 131072 = 0) ↔ nI k ≤ 131071 := by
      have t : (if nI k &&& 131072 = 0 then (0 : Int32) else 262143) = (if nI k ≤ 131071 then (0 : Int32) else 262143) := hb
      by_cases c : nI k ≤ 131071
      · rw [if_pos c] at t
        exact ⟨fun _ => c, fun _ => by
          by_cases d : nI k &&& 131072 = 0
          · exact d
          · rw [if_neg d] at t; exact absurd t (by decide)⟩
      · rw [if_neg c] at t
        exact ⟨fun z => by rw [if_pos z] at t; exact absurd t (by decide), fun z => absurd z c⟩
    unfold x_shift m_shift
    rw [n_and255, op_rem (by omega) 256 256 rfl (by decide) (by decide)]
    have z0 : ∀ q : Int32, q - 0 = q := Int32.sub_zero
    have w1 : ∀ t0 t1 : Int32, x_shift_19 (nI op) (nI n) (nI k) u t0 t1 = x_shift_19 (nI op) (nI n) (nI k) u (t0 - t1) 0 := fun t0 t1 => by unfold x_shift_19; rw [z0]
    have w2 : ∀ t0 t1 : Int32, m_shift_18 (nI op) (nI n) (nI k) v t0 t1 = m_shift_18 (nI op) (nI n) (nI k) v (t0 - t1) 0 := fun t0 t1 => by unfold m_shift_18; rw [z0]
    have hm : k % 256 < 256 := Nat.mod_lt _ (by decide)
    by_cases c : nI k ≤ 131071
    · exact ⟨false, k % 256, by omega, fun _ => hm, by rw [if_pos (hc.mpr c)]; rfl, by rw [if_pos c]; rfl⟩
    · have es : nI (k % 256) - 256 = sN true (256 - k % 256) := sub_neg (i := k % 256) (b := 256) hm (by decide)
      exact ⟨true, 256 - k % 256, by omega, (fun z => absurd z (by decide)), by rw [if_neg (fun z => c (hc.mp z)), w1, es], by rw [if_neg c, w2, es]⟩
  rw [ef, ex, em]
  unfold x_shift_19 m_shift_18
  have mb : m_bit (X_words u n) 35 = b2i (lb (X_words u n) 35) := m_bit_lb (k := 35) (X_words u n) (by decide)
  rw [Int32.sub_zero, nmv_eq, nmv_eq, if_neg (x_ac hn), if_neg (x_ac hn), nI_clamp (by omega), h.words, nmv_eq, nmv_eq, mb]
  simp only [ob_id, if_neg hi]
  rcases (show op = 160 ∨ op = 161 ∨ op = 162 by omega) with rfl | rfl | rfl
  · exact ash_R h hn (nI k) neg hb hb2
  · exact rot_R h hn (nI k) neg hb hb2 _
  · exact lsh_R h hn (nI k) neg hb hb2 _
