/-! tests of bits, halves -/
def nz (z : Nat) (b : Bool) : Bool := if z = 0 then b else if z = 1 then false else if z = 2 then !b else true
def anyb (mask own : Int64) : Nat → Bool
  | 0 => false
  | i + 1 => anyb mask own i || (lb mask i && lb own i)
def b2i (b : Bool) : Int32 := if b then 1 else 0
set_option maxHeartbeats 4000000 in
theorem test_step (a0 a1 a2 : Int32) (c : Nat) (v : MS) (mask own : Int64) (k : Int32) {z : Nat} (hz : z < 4) (A : Bool) (w : Int64) {i : Nat} (hi : i < 36) : m_test_82 a0 a1 a2 (c + 1) v mask own k (nI z) (b2i A) w (nI i) = m_test_82 a0 a1 a2 c v mask own k (nI z) (b2i (A || (lb mask i && lb own i))) (if lb mask i then (if nz z (lb own i) then w ||| ((1 : Int64) <<< ((nI i).toInt64 &&& 63)) else w &&& (((1 : Int64) <<< ((nI i).toInt64 &&& 63)) ^^^ (-1))) else w) (nI (i + 1)) := by
  rw [m_test_82, if_neg (by rw [ge_c (by omega) 36 36 rfl (by decide)]; omega), m_bit_lb mask (by omega), m_bit_lb own (by omega)]
  unfold m_test_116 m_test_121 m_test_182 m_test_210 m_test_212
  rw [m_bit_lb own (by omega), show nI i + Int32.ofInt 1 = nI (i + 1) from nI_1 i]
  generalize lb mask i = bm'
  generalize lb own i = bo
  have hz4 : z = 0 ∨ z = 1 ∨ z = 2 ∨ z = 3 := by omega
  cases bm'
  · cases A <;> rfl
  · rcases hz4 with rfl | rfl | rfl | rfl <;> cases A <;> cases bo <;> rfl
theorem test_loop (a0 a1 a2 : Int32) (v : MS) (mask own : Int64) (k : Int32) {z : Nat} (hz : z < 4) : ∀ (j i c : Nat) (w : Int64), i + j = 36 → j + 1 ≤ c → (∀ q, q < 64 → lb w q = if decide (q < i) && lb mask q then nz z (lb own q) else lb own q) → ∃ w', (∀ q, q < 64 → lb w' q = if decide (q < 36) && lb mask q then nz z (lb own q) else lb own q) ∧ m_test_82 a0 a1 a2 c v mask own k (nI z) (b2i (anyb mask own i)) w (nI i) = (m_skipIf v (if k = 2 then 1 else if k = 1 then (if anyb mask own 36 then (if k = 3 then 1 else 0) else 1) else if k = 3 then b2i (anyb mask own 36) else 0)).bind (fun q => m_setAc q a1 w') := by
  intro j
  induction j with
  | zero =>
    intro i c w h1 h2 h3
    obtain ⟨c, rfl⟩ : ∃ q, c = q + 1 := ⟨c - 1, by omega⟩
    have : i = 36 := by omega
    subst this
    refine ⟨w, h3, ?_⟩
    rw [m_test_82, if_pos (show (36 : Int32) ≤ nI 36 by decide)]
    unfold m_test_247 m_test_236 m_test_251 m_test_252 m_test_247 m_test_252
    simp only [ob_id]
    by_cases c2 : k = 2
    · rw [if_pos c2, if_pos c2]
    · rw [if_neg c2, if_neg c2]
      by_cases c1 : k = 1
      · rw [if_pos c1, if_pos c1]
        have c3 : ¬ k = 3 := by rw [c1]; decide
        simp only [if_neg c3]
        cases anyb mask own 36 <;> rfl
      · rw [if_neg c1, if_neg c1]
        by_cases c3 : k = 3
        · rw [if_pos c3, if_pos c3]
          cases anyb mask own 36 <;> rfl
        · rw [if_neg c3, if_neg c3]
  | succ j IH =>
    intro i c w h1 h2 h3
    obtain ⟨c, rfl⟩ : ∃ q, c = q + 1 := ⟨c - 1, by omega⟩
    rw [test_step _ _ _ _ _ _ _ _ hz _ _ (by omega)]
    refine IH (i + 1) c _ (by omega) (by omega) (fun q hq => ?_)
    have sh : lb ((1 : Int64) <<< ((nI i).toInt64 &&& 63)) q = decide (q = i) := by
      rw [lb_shl 1 (by omega) hq, lb_1]
      by_cases d : q = i
      · subst d; rw [Nat.sub_self]; simp
      · rw [decide_eq_false d]
        by_cases d2 : i ≤ q
        · rw [decide_eq_false (show ¬ q - i = 0 by omega), Bool.and_false]
        · rw [decide_eq_false d2, Bool.false_and]
    have old := h3 q hq
    by_cases d : q = i
    · subst d
      rw [decide_eq_false (Nat.lt_irrefl q), Bool.false_and] at old
      rw [decide_eq_true (Nat.lt_succ_self q), Bool.true_and]
      rw [decide_eq_true rfl] at sh
      cases hm : lb mask q
      · exact old
      · show lb (if nz z (lb own q) then _ else _) q = nz z (lb own q)
        cases hn : nz z (lb own q)
        · show lb (w &&& _) q = false
          rw [lb_and, lb_not _ hq, sh]; simp
        · show lb (w ||| _) q = true
          rw [lb_or, sh]; simp
    · rw [decide_eq_false d] at sh
      have e1 : decide (q < i + 1) = decide (q < i) := by
        by_cases d2 : q < i
        · rw [decide_eq_true d2, decide_eq_true (by omega)]
        · rw [decide_eq_false d2, decide_eq_false (by omega)]
      rw [e1, ← old]
      cases hm : lb mask i
      · rfl
      · show lb (if nz z (lb own i) then _ else _) q = lb w q
        cases hn : nz z (lb own i)
        · show lb (w &&& _) q = _
          rw [lb_and, lb_not _ hq, sh]; simp
        · show lb (w ||| _) q = _
          rw [lb_or, sh]; simp
theorem anyb_f (mask own : Int64) : ∀ i, anyb mask own i = false ↔ ∀ q, q < i → (lb mask q && lb own q) = false
  | 0 => ⟨fun _ q h => absurd h (Nat.not_lt_zero q), fun _ => rfl⟩
  | i + 1 => by
    show (anyb mask own i || (lb mask i && lb own i)) = false ↔ _
    rw [Bool.or_eq_false_iff, anyb_f mask own i]
    constructor
    · rintro ⟨h1, h2⟩ q hq
      by_cases d : q = i
      · subst d; exact h2
      · exact h1 q (by omega)
    · intro h
      exact ⟨fun q hq => h q (by omega), h i (by omega)⟩
theorem anyb_0 {mask own : Int64} (ho : rW own) : own &&& mask = 0 ↔ anyb mask own 36 = false := by
  rw [anyb_f]
  constructor
  · intro h q hq
    have := congrArg (fun x => lb x q) h
    simp only [lb_and, lb_0] at this
    rw [Bool.and_comm]; exact this
  · intro h
    refine lb_ext fun q hq => ?_
    rw [lb_and, lb_0]
    by_cases d : q < 36
    · rw [Bool.and_comm]; exact h q d
    · rw [lb_W ho (by omega), Bool.false_and]
theorem mc_lb {z : Nat} (hz : z < 4) {own mask : Int64} (hm : rW mask) {q : Nat} (hq : q < 64) : lb (x_maskedChange (nI z) own mask) q = if decide (q < 36) && lb mask q then nz z (lb own q) else lb own q := by
  have e : (decide (q < 36) && lb mask q) = lb mask q := by
    by_cases d : q < 36
    · rw [decide_eq_true d, Bool.true_and]
    · rw [decide_eq_false d, Bool.false_and, lb_W hm (by omega)]
  rw [e]
  rcases (show z = 0 ∨ z = 1 ∨ z = 2 ∨ z = 3 by omega) with rfl | rfl | rfl | rfl
  · show lb own q = _
    cases lb mask q <;> rfl
  · show lb (own &&& (mask ^^^ (-1))) q = _
    rw [lb_and, lb_not _ hq]
    cases lb mask q <;> cases lb own q <;> rfl
  · show lb (own ^^^ mask) q = _
    rw [lb_xor]
    cases lb mask q <;> cases lb own q <;> rfl
  · show lb (own ||| mask) q = _
    rw [lb_or]
    cases lb mask q <;> cases lb own q <;> rfl
theorem mc_W {z : Nat} (hz : z < 4) {own mask : Int64} (ho : rW own) (hm : rW mask) : rW (x_maskedChange (nI z) own mask) := W_lb fun q h1 h2 => by
  rw [mc_lb hz hm h2, decide_eq_false (by omega), Bool.false_and]
  exact lb_W ho h1
theorem test_47_R {u : XS} {v : MS} (h : rR u v) {op n : Nat} (ho : op < 512) (hn : n < 16) (e : Int32) {mask : Int64} (hm : rW mask) : rF (x_test_32 (nI op) (nI n) e u mask) (m_test_47 (nI op) (nI n) e v mask) := by
  have hi := x_ac hn
  rw [nI_clamp (by omega)] at hi
  have hq : rQ u v := by rcases h with h | h <;> exact h.1
  have how : rW (X_words u n) := hq.1.1 n
  unfold x_test_32 m_test_47
  rw [nI_clamp (by omega), if_neg hi, if_neg hi, nmv_eq, nmv_eq, op_sh (by omega) 1 1 (by decide), n_and3, op_sh (by omega) 4 4 (by decide), n_and3, op_div (by omega) 2 2 rfl (by decide) (by decide), op_rem (by omega) 4 4 rfl (by decide) (by decide), nmv_eq, op_div (by omega) 16 16 rfl (by decide) (by decide), op_rem (by omega) 4 4 rfl (by decide) (by decide), nmv_eq]
  have hs : M_store v = X_words u := hq.2.2.1
  rw [hs]
  have e1 : op / 2 ^ 1 % 4 = op / 2 % 4 := rfl
  have e2 : op / 2 ^ 4 % 4 = op / 16 % 4 := rfl
  rw [e1, e2]
  have hz : op / 16 % 4 < 4 := Nat.mod_lt _ (by decide)
  have hk : op / 2 % 4 < 4 := Nat.mod_lt _ (by decide)
  generalize op / 16 % 4 = z at hz ⊢
  generalize op / 2 % 4 = k at hk ⊢
  generalize hOwn : X_words u n = own at how ⊢
  obtain ⟨w', q1, q2⟩ := test_loop (nI op) (nI n) e v mask own (nI k) hz 36 0 37 own (by omega) (by omega) (fun q hq => by rw [decide_eq_false (Nat.not_lt_zero q), Bool.false_and]; rfl)
  have e0 : m_test_82 (nI op) (nI n) e 37 v mask own (nI k) (nI z) 0 own 0 = m_test_82 (nI op) (nI n) e 37 v mask own (nI k) (nI z) (b2i (anyb mask own 0)) own (nI 0) := rfl
  rw [e0, q2]
  have ew : w' = x_maskedChange (nI z) own mask := lb_ext fun q hq => by rw [q1 q hq, mc_lb hz hm hq]
  rw [ew]
  simp only [ob_id]
  have es : x_testSkips (nI k) (own &&& mask) = (if nI k = 2 then 1 else if nI k = 1 then (if anyb mask own 36 then (if nI k = 3 then 1 else 0) else 1) else if nI k = 3 then b2i (anyb mask own 36) else 0) := by
    have h0 := anyb_0 (mask := mask) how
    unfold x_testSkips
    have hc : lg_cmp (own &&& mask) 0 = 0 ↔ anyb mask own 36 = false := by rw [l_cmp_eq]; exact h0
    cases hA : anyb mask own 36
    · have := hc.mpr hA
      rcases (show k = 0 ∨ k = 1 ∨ k = 2 ∨ k = 3 by omega) with rfl | rfl | rfl | rfl <;> simp only [this] <;> rfl
    · have : ¬ lg_cmp (own &&& mask) 0 = 0 := fun z => by rw [hc.mp z] at hA; cases hA
      rcases (show k = 0 ∨ k = 1 ∨ k = 2 ∨ k = 3 by omega) with rfl | rfl | rfl | rfl
      · rfl
      · rw [if_pos (show nI 1 = 1 from rfl), if_neg this]; rfl
      · rfl
      · rw [if_neg (show ¬ nI 3 = 1 by decide), if_neg (show ¬ nI 3 = 2 by decide), if_pos (show nI 3 = 3 from rfl), if_neg this]; rfl
  rw [← es]
  exact rF.bind (skip_R h (fun _ => rfl)) (fun u2 v2 hr => acW_R hr hn (mc_W hz how hm))
theorem test_R {u : XS} {v : MS} (h : r0 u v) {op n : Nat} (ho : op < 512) (hn : n < 16) {e : Int32} (he : rA e) : rF (x_test u (nI op) (nI n) e) (m_test v (nI op) (nI n) e) := by
  have b8 : ∀ op, op < 512 → ((nI op &&& 8 = 0) ↔ ¬ (nI (op / 8 % 2) = 1)) := by decide +kernel
  have b1 : ∀ op, op < 512 → ((nI op &&& 1 = 0) ↔ ¬ (nI (op % 2) = 1)) := by decide +kernel
  have t17 : ∀ (u' : XS) (v' : MS) (s : Int64), rR u' v' → rW s → rF (x_test_17 (nI op) (nI n) e u' s) (m_test_20 (nI op) (nI n) e v' s) := by
    intro u' v' s hr hs
    unfold x_test_17 m_test_20
    rw [op_rem (by omega) 2 2 rfl (by decide) (by decide)]
    by_cases c : nI (op % 2) = 1
    · rw [if_neg (fun z => (b1 op ho).mp z c), if_pos c, nmv_eq]
      obtain ⟨k, hk, rfl⟩ := hs
      rw [swap_M hk]
      exact test_47_R hr ho hn e (swap_W ⟨k, hk, rfl⟩)
    · rw [if_pos ((b1 op ho).mpr c), if_neg c]
      exact test_47_R hr ho hn e hs
  unfold x_test m_test
  rw [op_div (by omega) 8 8 rfl (by decide) (by decide), op_rem (by omega) 2 2 rfl (by decide) (by decide)]
  by_cases c : nI (op / 8 % 2) = 1
  · rw [if_neg (fun z => (b8 op ho).mp z c), if_pos c]
    rcases read_cases h he with ⟨w, hw, e1, e2⟩ | ⟨e1, e2⟩
    · rw [e1, e2, Option.bind_some, Option.bind_some]; exact t17 u v w (Or.inl h) hw
    · rw [e1, e2, Option.bind_some, Option.bind_some]; exact t17 _ _ 0 (Or.inr h.t1) ⟨0, by decide, rfl⟩
  · rw [if_pos ((b8 op ho).mpr c), if_neg c]
    obtain ⟨k, hk, rfl⟩ := he
    rw [nI_l (by omega)]
    exact t17 u v _ (Or.inl h) ⟨k, by omega, rfl⟩
-- HALVES
def hX (d c k : Int32) (s w : Int64) : Int64 := if d = 0 then x_joined (if d = c then x_left s else x_right s) (x_otherHalf k (if d = c then x_left s else x_right s) (x_right w)) else x_joined (x_otherHalf k (if d = c then x_left s else x_right s) (x_left w)) (if d = c then x_left s else x_right s)
theorem x62 (a0 a1 a2 : Int32) (u : XS) (m d c : Int32) (s w : Int64) : x_halves_62 a0 a1 a2 u m d c s w = x_putMoved u m a1 a2 (hX d c ((a0 >>> ((3 : Int32) &&& 31)) &&& (3 : Int32)) s w) := by
  unfold x_halves_62 x_halves_84 x_halves_111 x_halves_143 hX
  simp only [nmv_eq, ob_id]
  by_cases h1 : d = c
  · rw [if_pos h1, if_pos h1]
    by_cases h2 : d = 0
    · simp only [if_pos h2]
    · simp only [if_neg h2]
  · rw [if_neg h1, if_neg h1]
    by_cases h2 : d = 0
    · simp only [if_pos h2]
    · simp only [if_neg h2]
def hM (d c k : Int32) (s w : Int64) : Int64 := if d = 0 then m_joined (if d = c then m_left s else m_right s) (if k = 0 then m_right w else if k = 1 then 0 else if k = 2 then 262143 else if (if d = c then m_left s else m_right s) ≤ 131071 then 0 else 262143) else m_joined (if k = 0 then m_left w else if k = 1 then 0 else if k = 2 then 262143 else if (if d = c then m_left s else m_right s) ≤ 131071 then 0 else 262143) (if d = c then m_left s else m_right s)
theorem m94 (a0 a1 a2 : Int32) (v : MS) (m k d : Int32) (c : Int32) (s w : Int64) : m_halves_94 a0 a1 a2 v m k d (if d = c then m_left s else m_right s) w = m_place v m a1 a2 (hM d c k s w) := by
  unfold m_halves_94 m_halves_114 m_halves_160 m_halves_189 hM
  simp only [ob_id]
  generalize (if d = c then m_left s else m_right s) = g
  by_cases h2 : d = 0
  · simp only [if_pos h2]
    repeat' split
    all_goals rfl
  · simp only [if_neg h2]
    repeat' split
    all_goals rfl
theorem other_eq {k g st : Nat} (hk : k < 4) (hg : g < 262144) : x_otherHalf (nI k) (nI g) (nI st) = (if nI k = 0 then nI st else if nI k = 1 then 0 else if nI k = 2 then 262143 else if nI g ≤ 131071 then 0 else 262143) ∧ (st < 262144 → ∃ j, j < 262144 ∧ x_otherHalf (nI k) (nI g) (nI st) = nI j) := by
  have hb : (nI g &&& 131072 = 0) ↔ nI g ≤ 131071 := by
    have e : nI g &&& 131072 = if g < 131072 then 0 else 131072 := by
      have h1 : nI g &&& (131072 : Int32) = nI (g &&& 131072) := by
        apply Int32.toBitVec_inj.mp
        rw [Int32.toBitVec_and]
        show BitVec.ofNat 32 g &&& BitVec.ofNat 32 131072 = BitVec.ofNat 32 (g &&& 131072)
        apply BitVec.eq_of_toNat_eq
        rw [BitVec.toNat_and, BitVec.toNat_ofNat, BitVec.toNat_ofNat, BitVec.toNat_ofNat, Nat.mod_eq_of_lt (show g < 2 ^ 32 by omega), Nat.mod_eq_of_lt (show 131072 < 2 ^ 32 by decide), Nat.mod_eq_of_lt (Nat.lt_of_le_of_lt Nat.and_le_right (by decide))]
      rw [h1]
      have h2 : g &&& 131072 = if g < 131072 then 0 else 131072 := by
        have hp : (131072 : Nat) = 2 ^ 17 := rfl
        have tb : g.testBit 17 = decide (¬ g < 131072) := by
          by_cases c : g < 2 ^ 17
          · rw [Nat.testBit_lt_two_pow c]; exact (decide_eq_false (by omega)).symm
          · rw [Nat.testBit_eq_decide_div_mod_eq]
            rw [decide_eq_true (show g / 2 ^ 17 % 2 = 1 by omega), decide_eq_true (by omega)]
        apply Nat.eq_of_testBit_eq
        intro i
        rw [hp, Nat.testBit_and, Nat.testBit_two_pow]
        by_cases ci : 17 = i
        · subst ci
          rw [decide_eq_true rfl, Bool.and_true, tb]
          by_cases c : g < 131072
          · rw [if_pos c, decide_eq_false (fun z => z c)]; rfl
          · rw [if_neg c, decide_eq_true c]; rfl
        · rw [decide_eq_false ci, Bool.and_false]
          by_cases c : g < 2 ^ 17
          · rw [if_pos c, Nat.zero_testBit]
          · rw [if_neg c, Nat.testBit_two_pow, decide_eq_false ci]
      rw [h2]
      split <;> rfl
    rw [e, le_c (by omega) 131071 131071 rfl (by decide)]
    split
    · exact ⟨fun _ => by omega, fun _ => rfl⟩
    · exact ⟨fun z => absurd z (by decide), fun z => by omega⟩
  unfold x_otherHalf
  rcases (show k = 0 ∨ k = 1 ∨ k = 2 ∨ k = 3 by omega) with rfl | rfl | rfl | rfl
  · exact ⟨rfl, fun h => ⟨st, h, rfl⟩⟩
  · exact ⟨rfl, fun h => ⟨0, by decide, rfl⟩⟩
  · exact ⟨rfl, fun h => ⟨262143, by decide, rfl⟩⟩
  · rw [if_neg (show ¬ nI 3 = 0 by decide), if_neg (show ¬ nI 3 = 1 by decide), if_neg (show ¬ nI 3 = 2 by decide), if_neg (show ¬ nI 3 = 0 by decide), if_neg (show ¬ nI 3 = 1 by decide), if_neg (show ¬ nI 3 = 2 by decide)]
    by_cases c : nI g ≤ 131071
    · rw [if_pos (hb.mpr c), if_pos c]; exact ⟨rfl, fun h => ⟨0, by decide, rfl⟩⟩
    · rw [if_neg (fun z => c (hb.mp z)), if_neg c]; exact ⟨rfl, fun h => ⟨262143, by decide, rfl⟩⟩
theorem hXM {k : Nat} (hk : k < 4) (d c : Int32) {s w : Int64} (hs : rW s) (hw : rW w) : hM d c (nI k) s w = hX d c (nI k) s w ∧ rW (hX d c (nI k) s w) := by
  obtain ⟨a, ha, rfl⟩ := hs
  obtain ⟨b, hb, rfl⟩ := hw
  have eg : ∃ g, g < 262144 ∧ (if d = c then m_left (lN a) else m_right (lN a)) = nI g ∧ (if d = c then x_left (lN a) else x_right (lN a)) = nI g := by
    by_cases h1 : d = c
    · rw [if_pos h1, if_pos h1]; exact ⟨a / 262144, by omega, m_left_N ha, x_left_N ha⟩
    · rw [if_neg h1, if_neg h1]; exact ⟨a % 262144, by omega, m_right_N ha, x_right_N a⟩
  obtain ⟨g, hg, e1, e2⟩ := eg
  unfold hX hM
  rw [e1, e2]
  by_cases h2 : d = 0
  · rw [if_pos h2, if_pos h2, m_right_N hb, x_right_N]
    obtain ⟨o1, o2⟩ := other_eq (st := b % 262144) hk hg
    obtain ⟨j, hj, ej⟩ := o2 (by omega)
    rw [← o1, ej, m_joined_N, x_joined_N hg hj, Nat.mod_eq_of_lt hg, Nat.mod_eq_of_lt hj]
    exact ⟨rfl, _, by omega, rfl⟩
  · rw [if_neg h2, if_neg h2, m_left_N hb, x_left_N hb]
    obtain ⟨o1, o2⟩ := other_eq (st := b / 262144) hk hg
    obtain ⟨j, hj, ej⟩ := o2 (by omega)
    rw [← o1, ej, m_joined_N, x_joined_N hj hg, Nat.mod_eq_of_lt hg, Nat.mod_eq_of_lt hj]
    exact ⟨rfl, _, by omega, rfl⟩
theorem halves_R {u : XS} {v : MS} (h : r0 u v) {op n : Nat} (ho : op < 512) (hn : n < 16) {e : Int32} (he : rA e) : rF (x_halves u (nI op) (nI n) e) (m_halves v (nI op) (nI n) e) := by
  have hi := x_ac hn
  rw [nI_clamp (by omega)] at hi
  have h4 : op % 4 < 4 := Nat.mod_lt _ (by decide)
  have hk : op / 8 % 4 < 4 := Nat.mod_lt _ (by decide)
  have bd : ∀ op, op < 512 → (if nI op &&& 32 = 0 then (0 : Int32) else 1) = nI (op / 32 % 2) := by decide +kernel
  have bc : ∀ op, op < 512 → (if nI op &&& 4 = 0 then (0 : Int32) else 1) = nI (op / 4 % 2) := by decide +kernel
  have xs : x_halves u (nI op) (nI n) e = x_halves_30 (nI op) (nI n) e u (nI (op % 4)) (nI (op / 32 % 2)) (nI (op / 4 % 2)) := by
    unfold x_halves x_halves_17
    rw [nmv_eq, n_and3, ← bd op ho, ← bc op ho]
    repeat' split
    all_goals rfl
  have ms : m_halves v (nI op) (nI n) e = if nI (op % 4) = 2 then (if nI n < 0 ∨ 1024 ≤ (nI n).toNatClampNeg then none else m_halves_50 (nI op) (nI n) e v (nI (op % 4)) (nI (op / 4 % 2)) (nI (op / 8 % 4)) (nI (op / 32 % 2)) (M_store v (nI n).toNatClampNeg)) else (m_source v (nI (op % 4)) e).bind (fun z47 => m_halves_50 (nI op) (nI n) e z47.2 (nI (op % 4)) (nI (op / 4 % 2)) (nI (op / 8 % 4)) (nI (op / 32 % 2)) z47.1) := by
    unfold m_halves
    rw [op_rem (n := op) (by omega) 4 4 rfl (by decide) (by decide), nmv_eq, op_div (by omega) 4 4 rfl (by decide) (by decide), op_rem (by omega) 2 2 rfl (by decide) (by decide), nmv_eq, op_div (by omega) 8 8 rfl (by decide) (by decide), op_rem (by omega) 4 4 rfl (by decide) (by decide), nmv_eq, op_div (by omega) 32 32 rfl (by decide) (by decide), op_rem (by omega) 2 2 rfl (by decide) (by decide), nmv_eq]
  have m72 : ∀ (v' : MS) (s : Int64), m_halves_50 (nI op) (nI n) e v' (nI (op % 4)) (nI (op / 4 % 2)) (nI (op / 8 % 4)) (nI (op / 32 % 2)) s = if (2 : Int32) ≤ nI (op % 4) then (m_get v' e).bind (fun z91 => m_place z91.2 (nI (op % 4)) (nI n) e (hM (nI (op / 32 % 2)) (nI (op / 4 % 2)) (nI (op / 8 % 4)) s z91.1)) else m_place v' (nI (op % 4)) (nI n) e (hM (nI (op / 32 % 2)) (nI (op / 4 % 2)) (nI (op / 8 % 4)) s (M_store v' n)) := by
    intro v' s
    unfold m_halves_50 m_halves_72
    simp only [← m94 (nI op), nI_clamp (show n < 2 ^ 31 by omega), if_neg hi]
    split <;> rfl
  rw [xs, ms]
  unfold x_halves_30
  simp only [x62]
  rw [op_sh (by omega) 3 3 (by decide), n_and3]
  have e8 : op / 2 ^ 3 % 4 = op / 8 % 4 := rfl
  rw [e8]
  rcases msrc_cases h (nI (op % 4)) hn he (fun z w => m_halves_50 (nI op) (nI n) e z (nI (op % 4)) (nI (op / 4 % 2)) (nI (op / 8 % 4)) (nI (op / 32 % 2)) w) with ⟨w, hw, e1, e2⟩ | ⟨e1, e2⟩
  · rw [e1, Option.bind_some, e2, m72]
    by_cases c : (2 : Int32) ≤ nI (op % 4)
    · have c' : ¬ nI (op % 4) < 2 := by rw [lt_c (by omega) 2 2 rfl (by decide)]; rw [ge_c (by omega) 2 2 rfl (by decide)] at c; omega
      rw [if_pos c, if_neg c']
      rcases read_cases h he with ⟨w2, hw2, f1, f2⟩ | ⟨f1, f2⟩
      · show rF ((x_read u e).bind _) _
        rw [f1, f2, Option.bind_some, Option.bind_some]
        obtain ⟨g1, g2⟩ := hXM hk (nI (op / 32 % 2)) (nI (op / 4 % 2)) hw hw2
        show rF (x_putMoved u _ _ _ _) (m_place v _ _ _ (hM _ _ _ w w2))
        rw [g1]
        exact putMoved_R h h4 hn he g2
      · show rF ((x_read u e).bind _) _
        rw [f1, f2, Option.bind_some, Option.bind_some, mf_place h.t1.pos]
        show rF (x_putMoved (X_s_trap u 1) _ _ _ _) _
        rw [xf_putMoved h.t1.2]; exact rF1 h.t1
    · have c' : nI (op % 4) < 2 := by rw [lt_c (by omega) 2 2 rfl (by decide)]; rw [ge_c (by omega) 2 2 rfl (by decide)] at c; omega
      rw [if_neg c, if_pos c', if_neg (x_ac hn), nI_clamp (by omega), h.words]
      obtain ⟨g1, g2⟩ := hXM hk (nI (op / 32 % 2)) (nI (op / 4 % 2)) hw (h.w n)
      rw [g1]
      exact putMoved_R h h4 hn he g2
  · have h1 := h.t1
    rw [e1, Option.bind_some, e2, m72]
    have em : (if (2 : Int32) ≤ nI (op % 4) then (m_get (M_s_wrong v 1) e).bind (fun z91 => m_place z91.2 (nI (op % 4)) (nI n) e (hM (nI (op / 32 % 2)) (nI (op / 4 % 2)) (nI (op / 8 % 4)) 0 z91.1)) else m_place (M_s_wrong v 1) (nI (op % 4)) (nI n) e (hM (nI (op / 32 % 2)) (nI (op / 4 % 2)) (nI (op / 8 % 4)) 0 (M_store (M_s_wrong v 1) n))) = some (M_s_wrong v 1) := by
      rw [mf_get h1.pos, Option.bind_some, mf_place h1.pos, mf_place h1.pos]
      split <;> rfl
    rw [em, if_neg (x_ac hn)]
    obtain ⟨w2, f1⟩ := xf_read h1.2 e
    show rF (if nI (op % 4) < 2 then x_putMoved (X_s_trap u 1) _ _ _ _ else (x_read (X_s_trap u 1) e).bind _) _
    rw [f1, Option.bind_some, xf_putMoved h1.2]
    show rF (if nI (op % 4) < 2 then some (X_s_trap u 1) else x_putMoved (X_s_trap u 1) _ _ _ _) _
    rw [xf_putMoved h1.2]
    split <;> exact rF1 h1
