/-! products and quotients -/
theorem rF.bind {a : Option XS} {b : Option MS} {f : XS → Option XS} {g : MS → Option MS} (h : rF a b) (k : ∀ u v, rR u v → rF (f u) (g v)) : rF (a.bind f) (b.bind g) := by
  obtain ⟨u, v, rfl, rfl, hr⟩ := h
  exact k u v hr
theorem ac_R {u : XS} {v : MS} (h : rR u v) {n : Nat} (hn : n < 16) (x : Int64) : rF (x_setAccumulator u (nI n) (x &&& 68719476735)) (m_setAc v (nI n) x) := by
  rcases h with h | h
  · obtain ⟨e1, e2⟩ := ac_cases h hn (and_W x)
    rw [m_setAc_and] at e2
    rw [e1, e2]; exact rF0 (h.put (and_W x) n)
  · rw [xf_ac h.2, mf_ac h.wrong]; exact rF1 h
theorem acW_R {u : XS} {v : MS} (h : rR u v) {n : Nat} (hn : n < 16) {w : Int64} (hw : rW w) : rF (x_setAccumulator u (nI n) w) (m_setAc v (nI n) w) := by
  have := ac_R h hn w
  rw [and_self_W hw] at this
  exact this
theorem div_R {u : XS} {v : MS} (h : r0 u v) {op n : Nat} (ho : op < 512) (hs : op / 4 = 38) (hn : n < 16) {e : Int32} (he : rA e) : rF (x_divide u (nI op) (nI n) e) (m_sum v (nI op) (nI n) e) := by
  have a4 : nI op &&& 4 = 0 := by
    have hop : op = 152 ∨ op = 153 ∨ op = 154 ∨ op = 155 := by omega
    rcases hop with rfl | rfl | rfl | rfl <;> decide
  have h4 : op % 4 < 4 := Nat.mod_lt _ (by decide)
  unfold x_divide m_sum
  rw [if_pos a4, nmv_eq, nmv_eq, op_and3, op_rem (by omega) 4 4 rfl (by decide) (by decide), if_neg (x_ac hn), nI_clamp (by omega), nmv_eq]
  have hi := x_ac hn
  rw [nI_clamp (by omega)] at hi
  have k38 : nI op / 4 = 38 := by rw [op_div (by omega) 4 4 rfl (by decide) (by decide), hs]; rfl
  have x65 : ∀ z : XS, x_divide_65 (nI op) (nI n) e z = x_setOverflow z := fun z => by unfold x_divide_65; rw [ob_id]
  have m65 : ∀ (z : MS) (s x : Int64), m_sum_65 (nI op) (nI n) e z (nI (op % 4)) s x = m_over z 1 := fun z s x => by
    unfold m_sum_65 m_sum_70
    have : (fun z75 : MS => if (1 : Int32) = 0 then (if s = 0 then none else (m_keep z75 (nI (op % 4)) (nI n) e (x / s)).bind fun z93 => if nI (op % 4) = 2 then some z93 else if s = 0 then none else (m_setAc z93 (nI n + 1 - (nI n + 1) / 16 * 16) (x - x / s * s)).bind fun z114 => some z114) else some z75) = fun z75 => some z75 := by funext z; exact if_neg (by decide)
    rw [this, ob_id]
  rcases source_cases h (nI (op % 4)) he with ⟨w, ⟨k, hk, rfl⟩, e1, e2⟩ | ⟨e1, e2⟩
  · rw [e1, e2, Option.bind_some, Option.bind_some, nmv_eq, nmv_eq, if_neg hi, nmv_eq, nmv_eq, k38, if_pos rfl]
    obtain ⟨q, hq, eq⟩ := h.w n
    rw [h.words, eq, num_eq hq]
    show rF _ (if lg_cmp (m_num (lN k)) 0 = 0 then _ else _)
    rw [num_eq hk]
    show rF (if lg_cmp (x_signed (lN k)) 0 = 0 then x_divide_65 (nI op) (nI n) e u else _) _
    rw [x65, m65]
    have bad : rF (x_setOverflow u) (m_over v 1) := by rw [x_ov h.2.1, m_over_1 h.wrong]; exact rF0 h.ovf
    have good : ¬ x_signed (lN k) = 0 → rF (x_divide_70 (nI op) (nI n) e u (nI (op % 4)) (x_signed (lN q)) (x_signed (lN k))) (m_sum_69 (nI op) (nI n) e v (nI (op % 4)) (x_signed (lN k)) (x_signed (lN q))) := by
      intro hz
      unfold x_divide_70 m_sum_69 m_sum_70
      rw [m_over_0, Option.bind_some, if_pos rfl, if_neg hz, if_neg hz]
      refine rF.bind ?_ (fun u' v' hr => ?_)
      · rw [← m_keep_and]
        exact putResult_R h h4 hn he (and_W _)
      · by_cases hm : nI (op % 4) = 2
        · rw [if_pos hm, if_pos hm]; exact ⟨u', v', rfl, rfl, hr⟩
        · rw [if_neg hm, if_neg hm, if_neg hz, if_neg hz, ob_id, ob_id, nI_1, n_and15, op_rem (by omega) 16 16 rfl (by decide) (by decide)]
          exact ac_R hr (Nat.mod_lt _ (by decide)) _
    by_cases z0 : lg_cmp (x_signed (lN k)) 0 = 0
    · rw [if_pos z0, if_pos z0]; exact bad
    · have hz : ¬ x_signed (lN k) = 0 := fun z => z0 (l_cmp_eq.mpr z)
      rw [if_neg z0, if_neg z0]
      by_cases c1 : lg_cmp (x_signed (lN k)) (-1) = 0
      · by_cases c2 : lg_cmp (x_signed (lN q)) (-34359738368) = 0
        · simp only [if_pos c1, if_pos c2, x65, m65]; exact bad
        · simp only [if_pos c1, if_neg c2]; exact good hz
      · by_cases c2 : lg_cmp (x_signed (lN q)) (-34359738368) = 0
        · simp only [if_neg c1, if_pos c2]; exact good hz
        · simp only [if_neg c1, if_neg c2]; exact good hz
  · have h1 := h.t1
    rw [e1, e2, Option.bind_some, Option.bind_some, nmv_eq, nmv_eq, if_neg hi, nmv_eq, nmv_eq, k38, if_pos rfl]
    show rF (if lg_cmp (x_signed 0) 0 = 0 then x_divide_65 (nI op) (nI n) e (X_s_trap u 1) else _) (if lg_cmp (m_num 0) 0 = 0 then _ else _)
    rw [if_pos (by decide), if_pos (by decide), x65, m65, xf_ov h1.2, mf_over h1.wrong]
    exact rF1 h1
-- products
theorem l_mask18_I (x : Int64) : (x &&& 262143).toInt = x.toInt % 262144 := by
  obtain ⟨k, hk, rfl⟩ := wb_of x
  have h := wb_mask (n := k) (k := 18) hk (by decide)
  have h2 : lN k &&& 262143 = lN (k % 2 ^ 18) := h
  rw [h2, lN_pos (by omega), lN_toI hk]
  split <;> omega
theorem l_sh18_I (x : Int64) : (x >>> ((18 : Int32).toInt64 &&& 63)).toInt = x.toInt / 262144 := l_sshr x 18 18 (by decide)
theorem mul_split (X S : Int) : X * S = 262144 * (X * (S / 262144)) + X * (S % 262144) := by
  have h : S = 262144 * (S / 262144) + S % 262144 := (Int.mul_ediv_add_emod S 262144).symm
  calc X * S = X * (262144 * (S / 262144) + S % 262144) := by rw [← h]
    _ = X * (262144 * (S / 262144)) + X * (S % 262144) := Int.mul_add _ _ _
    _ = 262144 * (X * (S / 262144)) + X * (S % 262144) := by rw [Int.mul_left_comm]
theorem mul_bd {X Y : Int} {a b : Nat} (hX : X.natAbs ≤ a) (hY : Y.natAbs ≤ b) : -((a * b : Nat) : Int) ≤ X * Y ∧ X * Y ≤ ((a * b : Nat) : Int) := by
  have h : (X * Y).natAbs ≤ a * b := by rw [Int.natAbs_mul]; exact Nat.mul_le_mul hX hY
  omega
/-- the class's look at a product -/
theorem fits_I {x s : Int64} (hx : x.toInt.natAbs ≤ 2 ^ 35) (hs : s.toInt.natAbs ≤ 2 ^ 35) : x_productFits x s = 0 ↔ ¬ (-2 ^ 35 ≤ x.toInt * s.toInt ∧ x.toInt * s.toInt < 2 ^ 35) := by
  have e := mul_split x.toInt s.toInt
  have b1 := mul_bd (X := x.toInt) (Y := s.toInt / 262144) (a := 2 ^ 35) (b := 2 ^ 18) hx (by omega)
  have b2 := mul_bd (X := x.toInt) (Y := s.toInt % 262144) (a := 2 ^ 35) (b := 2 ^ 18) hx (by omega)
  have u1 : (x * (s >>> ((18 : Int32).toInt64 &&& 63))).toInt = x.toInt * (s.toInt / 262144) := by rw [Int64.toInt_mul, l_sh18_I, bm (by omega) (by omega)]
  have u2 : ((x * (s &&& 262143)) >>> ((18 : Int32).toInt64 &&& 63)).toInt = (x.toInt * (s.toInt % 262144)) / 262144 := by rw [l_sh18_I, Int64.toInt_mul, l_mask18_I, bm (by omega) (by omega)]
  have u3 : (x * (s >>> ((18 : Int32).toInt64 &&& 63)) + (x * (s &&& 262143)) >>> ((18 : Int32).toInt64 &&& 63)).toInt = (x.toInt * s.toInt) / 262144 := by
    rw [Int64.toInt_add, u1, u2, bm (by omega) (by omega), e]
    omega
  unfold x_productFits
  rw [nmv_eq]
  have c1 : (-131072 : Int64).toInt = -131072 := by decide
  have c2 : (131072 : Int64).toInt = 131072 := by decide
  have l1 := @l_cmp_lt (x * (s >>> ((18 : Int32).toInt64 &&& 63)) + (x * (s &&& 262143)) >>> ((18 : Int32).toInt64 &&& 63)) (-131072)
  have l2 := @l_cmp_ge (x * (s >>> ((18 : Int32).toInt64 &&& 63)) + (x * (s &&& 262143)) >>> ((18 : Int32).toInt64 &&& 63)) 131072
  rw [u3, c1] at l1
  rw [u3, c2] at l2
  generalize x.toInt * s.toInt = P at *
  split
  · rename_i h; have := l1.mp h; exact ⟨fun _ => by omega, fun _ => rfl⟩
  · rename_i h; have := mt l1.mpr h
    split
    · rename_i h; have := l2.mp h; exact ⟨fun _ => by omega, fun _ => rfl⟩
    · rename_i h; have := mt l2.mpr h; exact ⟨fun z => absurd z (by decide), fun z => by omega⟩
/-- the reference's product, seen as one -/
theorem mm_15 (a b c : Int32) (x s : Int64) (v : MS) (y : Int64) (hx : x.toInt.natAbs ≤ 2 ^ 35) (hy : 0 ≤ y.toInt ∧ y.toInt ≤ 2 ^ 35) : ∃ (t : Int32) (w : Int64), m_multiply_15 a b c x s v y = (m_over v t).bind (fun z => m_keep z a b c (if 0 ≤ lg_cmp s 0 then w else 68719476736 - w)) ∧ (t = 0 ∨ t = 1) ∧ (t = 0 ↔ if 0 ≤ lg_cmp s 0 then (-2 ^ 35 ≤ x.toInt * y.toInt ∧ x.toInt * y.toInt < 2 ^ 35) else (-2 ^ 35 ≤ -(x.toInt * y.toInt) ∧ -(x.toInt * y.toInt) < 2 ^ 35)) ∧ w.toInt = (x.toInt * y.toInt) % 2 ^ 36 := by
  have e := mul_split x.toInt y.toInt
  have b1 := mul_bd (X := x.toInt) (Y := y.toInt / 262144) (a := 2 ^ 35) (b := 2 ^ 18) hx (by omega)
  have b2 := mul_bd (X := x.toInt) (Y := y.toInt % 262144) (a := 2 ^ 35) (b := 2 ^ 18) hx (by omega)
  have u1 : (x * (y >>> ((18 : Int32).toInt64 &&& 63))).toInt = x.toInt * (y.toInt / 262144) := by rw [Int64.toInt_mul, l_sh18_I, bm (by omega) (by omega)]
  have u0 : (x * (y &&& 262143)).toInt = x.toInt * (y.toInt % 262144) := by rw [Int64.toInt_mul, l_mask18_I, bm (by omega) (by omega)]
  have u3 : (x * (y >>> ((18 : Int32).toInt64 &&& 63)) + (x * (y &&& 262143)) >>> ((18 : Int32).toInt64 &&& 63)).toInt = (x.toInt * y.toInt) / 262144 := by
    rw [Int64.toInt_add, u1, l_sh18_I, u0, bm (by omega) (by omega), e]
    omega
  have u4 : ((x * (y &&& 262143)) &&& 262143).toInt = (x.toInt * y.toInt) % 262144 := by
    rw [l_mask18_I, u0, e]
    omega
  unfold m_multiply_15
  rw [nmv_eq, nmv_eq, nmv_eq, nmv_eq, nmv_eq, nmv_eq]
  generalize hC : x * (y >>> ((18 : Int32).toInt64 &&& 63)) + (x * (y &&& 262143)) >>> ((18 : Int32).toInt64 &&& 63) = C at u3 ⊢
  generalize hR : (x * (y &&& 262143)) &&& 262143 = R at u4 ⊢
  generalize x.toInt * y.toInt = P at u3 u4 b1 b2 e ⊢
  have hP : -(2 : Int) ^ 54 ≤ P ∧ P ≤ 2 ^ 54 ∨ True := Or.inr trivial
  have k1 : (-262144 : Int64).toInt = -262144 := by decide
  have k2 : (262143 : Int64).toInt = 262143 := by decide
  have k3 : (262144 : Int64).toInt = 262144 := by decide
  have k0 : (0 : Int64).toInt = 0 := by decide
  have w1 : ((C &&& 262143) * 262144 + R).toInt = P % 2 ^ 36 := by
    have m1 : ((C &&& 262143) * 262144).toInt = (P / 262144) % 262144 * 262144 := by rw [Int64.toInt_mul, l_mask18_I, u3, k3, bm (by omega) (by omega)]
    rw [Int64.toInt_add, m1, u4, bm (by omega) (by omega)]
    omega
  have q191 : ∀ (t : Int32) (w : Int64), m_multiply_191 a b c x s v w t = (m_over v t).bind (fun z => m_keep z a b c (if 0 ≤ lg_cmp s 0 then w else 68719476736 - w)) := fun t w => by
    unfold m_multiply_191 m_multiply_216
    congr 1
    funext z
    rw [ob_id, ob_id]
    split <;> rfl
  have q177 : ∀ w : Int64, m_multiply_177 a b c x s v w = (m_over v 1).bind (fun z => m_keep z a b c (if 0 ≤ lg_cmp s 0 then w else 68719476736 - w)) := fun w => by
    unfold m_multiply_177 m_multiply_178
    rw [if_pos rfl, q191]
  have q178 : ∀ w : Int64, m_multiply_178 a b c x s v w 1 = (m_over v 0).bind (fun z => m_keep z a b c (if 0 ≤ lg_cmp s 0 then w else 68719476736 - w)) := fun w => by
    unfold m_multiply_178
    rw [if_neg (by decide), q191]
  have out : ¬ (-262144 ≤ P / 262144 ∧ P / 262144 ≤ 262143) → m_multiply_86 a b c x s v C R = (m_over v 1).bind (fun z => m_keep z a b c (if 0 ≤ lg_cmp s 0 then ((C &&& 262143) * 262144 + R) else 68719476736 - ((C &&& 262143) * 262144 + R))) := by
    intro _
    unfold m_multiply_86 m_multiply_87 m_multiply_107
    rw [if_pos rfl, nmv_eq, if_pos rfl, q177]
  have l1 := @l_cmp_lt C (-262144)
  have l2 := @l_cmp_gt C 262143
  rw [u3, k1] at l1
  rw [u3, k2] at l2
  by_cases c1 : P / 262144 < -262144
  · rw [if_pos (l1.mpr c1), out (by omega)]
    refine ⟨1, _, rfl, Or.inr rfl, ?_, w1⟩
    split
    · exact ⟨fun z => absurd z (by decide), fun z => by omega⟩
    · exact ⟨fun z => absurd z (by decide), fun z => by omega⟩
  · rw [if_neg (mt l1.mp c1)]
    by_cases c2 : 262143 < P / 262144
    · rw [if_pos (l2.mpr c2), out (by omega)]
      refine ⟨1, _, rfl, Or.inr rfl, ?_, w1⟩
      split
      · exact ⟨fun z => absurd z (by decide), fun z => by omega⟩
      · exact ⟨fun z => absurd z (by decide), fun z => by omega⟩
    · rw [if_neg (mt l2.mp c2)]
      have vI : (C * 262144 + R).toInt = P := by
        have m1 : (C * 262144).toInt = P / 262144 * 262144 := by rw [Int64.toInt_mul, u3, k3, bm (by omega) (by omega)]
        rw [Int64.toInt_add, m1, u4, bm (by omega) (by omega)]
        omega
      have vN : (-(C * 262144 + R)).toInt = -P := by rw [Int64.toInt_neg, vI, bm (by omega) (by omega)]
      unfold m_multiply_87 m_multiply_107 m_multiply_144 m_multiply_166
      rw [if_neg (by decide), nmv_eq, if_neg (by decide), q177, q178]
      have t1 := @l_cmp_lt (C * 262144 + R) (-34359738368)
      have t2 := @l_cmp_ge (C * 262144 + R) 34359738368
      have t3 := @l_cmp_lt (-(C * 262144 + R)) (-34359738368)
      have t4 := @l_cmp_ge (-(C * 262144 + R)) 34359738368
      rw [vI, lmin_I] at t1
      rw [vI, top_I] at t2
      rw [vN, lmin_I] at t3
      rw [vN, top_I] at t4
      by_cases hs : 0 ≤ lg_cmp s 0
      · simp only [if_pos hs]
        by_cases g1 : P < -34359738368
        · rw [if_pos (t1.mpr g1)]
          exact ⟨1, _, rfl, Or.inr rfl, ⟨fun z => absurd z (by decide), fun z => by omega⟩, w1⟩
        · rw [if_neg (mt t1.mp g1)]
          by_cases g2 : 34359738368 ≤ P
          · rw [if_pos (t2.mpr g2)]
            exact ⟨1, _, rfl, Or.inr rfl, ⟨fun z => absurd z (by decide), fun z => by omega⟩, w1⟩
          · rw [if_neg (mt t2.mp g2)]
            exact ⟨0, _, rfl, Or.inl rfl, ⟨fun _ => by omega, fun _ => rfl⟩, w1⟩
      · simp only [if_neg hs]
        by_cases g1 : -P < -34359738368
        · rw [if_pos (t3.mpr g1)]
          exact ⟨1, _, rfl, Or.inr rfl, ⟨fun z => absurd z (by decide), fun z => by omega⟩, w1⟩
        · rw [if_neg (mt t3.mp g1)]
          by_cases g2 : 34359738368 ≤ -P
          · rw [if_pos (t4.mpr g2)]
            exact ⟨1, _, rfl, Or.inr rfl, ⟨fun z => absurd z (by decide), fun z => by omega⟩, w1⟩
          · rw [if_neg (mt t4.mp g2)]
            exact ⟨0, _, rfl, Or.inl rfl, ⟨fun _ => by omega, fun _ => rfl⟩, w1⟩
theorem mm_all (a b c : Int32) (x s : Int64) (v : MS) (hx : x.toInt.natAbs ≤ 2 ^ 35) (hs : s.toInt.natAbs ≤ 2 ^ 35) : ∃ (t : Int32) (w : Int64), m_multiply v a b c x s = (m_over v t).bind (fun z => m_keep z a b c w) ∧ (t = 0 ∨ t = 1) ∧ (t = 0 ↔ (-2 ^ 35 ≤ x.toInt * s.toInt ∧ x.toInt * s.toInt < 2 ^ 35)) ∧ w &&& 68719476735 = (x * s) &&& 68719476735 := by
  unfold m_multiply
  have l1 := @l_cmp_ge s 0
  rw [show (0 : Int64).toInt = 0 from by decide] at l1
  have pm : (x * s).toInt % 2 ^ 36 = (x.toInt * s.toInt) % 2 ^ 36 := by
    rw [Int64.toInt_mul, Int.bmod_def]
    generalize x.toInt * s.toInt = P
    split <;> omega
  by_cases h : 0 ≤ lg_cmp s 0
  · have h0 := l1.mp h
    obtain ⟨t, w, e1, e2, e3, e4⟩ := mm_15 a b c x s v s hx (by omega)
    rw [if_pos h] at e3
    simp only [if_pos h] at e1
    rw [if_pos h, e1]
    refine ⟨t, w, rfl, e2, e3, and_eq ?_⟩
    rw [e4, pm]; omega
  · have h0 := mt l1.mpr h
    have nI : (-s).toInt = -s.toInt := by rw [Int64.toInt_neg, bm (by omega) (by omega)]
    obtain ⟨t, w, e1, e2, e3, e4⟩ := mm_15 a b c x s v (-s) hx (by rw [nI]; omega)
    rw [if_neg h] at e3
    simp only [if_neg h] at e1
    rw [if_neg h, e1]
    rw [nI, Int.mul_neg] at e3 e4
    refine ⟨t, _, rfl, e2, by rw [e3]; generalize x.toInt * s.toInt = P; omega, and_eq ?_⟩
    rw [pm, Int64.toInt_sub, all1_I, e4]
    generalize x.toInt * s.toInt = P
    rw [bm (by omega) (by omega)]
    omega
/-- IMUL -/
theorem mul_R {u : XS} {v : MS} (h : r0 u v) {op n : Nat} (ho : op < 512) (hs : op / 4 = 36) (hn : n < 16) {e : Int32} (he : rA e) : rF (x_multiply u (nI op) (nI n) e) (m_sum v (nI op) (nI n) e) := by
  have a4 : nI op &&& 4 = 0 := by
    have hop : op = 144 ∨ op = 145 ∨ op = 146 ∨ op = 147 := by omega
    rcases hop with rfl | rfl | rfl | rfl <;> decide
  have h4 : op % 4 < 4 := Nat.mod_lt _ (by decide)
  unfold x_multiply m_sum
  rw [if_pos a4, nmv_eq, nmv_eq, op_and3, op_rem (by omega) 4 4 rfl (by decide) (by decide), if_neg (x_ac hn), nI_clamp (by omega), nmv_eq]
  have hi := x_ac hn
  rw [nI_clamp (by omega)] at hi
  have k36 : nI op / 4 = 36 := by rw [op_div (by omega) 4 4 rfl (by decide) (by decide), hs]; rfl
  have x54 : ∀ (z : XS) (p q : Int64), x_multiply_54 (nI op) (nI n) e z (nI (op % 4)) p q = x_putResult z (nI (op % 4)) (nI n) e ((p * q) &&& 68719476735) := fun z p q => by unfold x_multiply_54; rw [ob_id]
  have n38 : ¬ (36 : Int32) = 38 := by decide
  rcases source_cases h (nI (op % 4)) he with ⟨w, ⟨k, hk, rfl⟩, e1, e2⟩ | ⟨e1, e2⟩
  · rw [e1, e2, Option.bind_some, Option.bind_some, nmv_eq, nmv_eq, if_neg hi, nmv_eq, nmv_eq, k36, if_neg n38, if_pos rfl, ob_id]
    obtain ⟨q, hq, eq⟩ := h.w n
    rw [h.words, eq, num_eq hq]
    show rF (if x_productFits (x_signed (lN q)) (x_signed (lN k)) = 0 then (x_setOverflow u).bind (fun z51 => x_multiply_54 (nI op) (nI n) e z51 (nI (op % 4)) (x_signed (lN q)) (x_signed (lN k))) else x_multiply_54 (nI op) (nI n) e u (nI (op % 4)) (x_signed (lN q)) (x_signed (lN k))) (m_multiply v (nI (op % 4)) (nI n) e (x_signed (lN q)) (m_num (lN k)))
    rw [num_eq hk]
    have s1 := sg_lo q hq
    have s2 := sg_lo k hk
    have i1 := x_signed_I hq
    have i2 := x_signed_I hk
    have b1 : (x_signed (lN q)).toInt.natAbs ≤ 2 ^ 35 := by rw [i1]; omega
    have b2 : (x_signed (lN k)).toInt.natAbs ≤ 2 ^ 35 := by rw [i2]; omega
    have hf := fits_I b1 b2
    obtain ⟨t, w, f1, f2, f3, f4⟩ := mm_all (nI (op % 4)) (nI n) e (x_signed (lN q)) (x_signed (lN k)) v b1 b2
    rw [f1]
    by_cases hc : (-2 ^ 35 ≤ (x_signed (lN q)).toInt * (x_signed (lN k)).toInt ∧ (x_signed (lN q)).toInt * (x_signed (lN k)).toInt < 2 ^ 35)
    · rw [if_neg (fun z => (hf.mp z) hc), f3.mpr hc, m_over_0, Option.bind_some, x54, ← m_keep_and, f4]
      exact putResult_R h h4 hn he (and_W _)
    · have ht : t = 1 := f2.resolve_left (fun z => hc (f3.mp z))
      rw [if_pos (hf.mpr hc), ht, m_over_1 h.wrong, x_ov h.2.1, Option.bind_some, Option.bind_some, x54, ← m_keep_and, f4]
      exact putResult_R h.ovf h4 hn he (and_W _)
  · have h1 := h.t1
    rw [e1, e2, Option.bind_some, Option.bind_some, nmv_eq, nmv_eq, if_neg hi, nmv_eq, nmv_eq, k36, if_neg n38, if_pos rfl, ob_id]
    have hm : ∀ x s : Int64, x.toInt.natAbs ≤ 2 ^ 35 → s.toInt.natAbs ≤ 2 ^ 35 → m_multiply (M_s_wrong v 1) (nI (op % 4)) (nI n) e x s = some (M_s_wrong v 1) := fun x s p1 p2 => by
      obtain ⟨t, w, f1, -⟩ := mm_all (nI (op % 4)) (nI n) e x s (M_s_wrong v 1) p1 p2
      rw [f1, mf_over h1.wrong, Option.bind_some, mf_keep h1.pos]
    obtain ⟨q, hq, eq⟩ := h.w n
    have s1 := sg_lo q hq
    have i1 := x_signed_I hq
    show rF _ (m_multiply (M_s_wrong v 1) (nI (op % 4)) (nI n) e (m_num (M_store v n)) (m_num 0))
    rw [h.words, eq, num_eq hq, hm _ _ (by rw [i1]; omega) (by decide)]
    simp only [x54, xf_ov h1.2, Option.bind_some, xf_putResult h1.2]
    split <;> exact rF1 h1
