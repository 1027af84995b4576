/-! moves and sums -/
theorem and_eq {x y : Int64} (h : x.toInt % 2 ^ 36 = y.toInt % 2 ^ 36) : x &&& 68719476735 = y &&& 68719476735 := by
  obtain ⟨n, hn, e, hI⟩ := fit_I x
  obtain ⟨k, hk, e', hI'⟩ := fit_I y
  rw [e, e']
  congr 1
  omega
theorem and_W (x : Int64) : rW (x &&& 68719476735) := l_and36 x
theorem bm {z : Int} (h1 : -2 ^ 63 ≤ z) (h2 : z < 2 ^ 63) : z.bmod (2 ^ 64) = z := by rw [Int.bmod_def]; omega
theorem op_and3 (n : Nat) : nI n &&& 3 = nI (n % 4) := n_and3 n
theorem op_sh {n : Nat} (hn : n < 2 ^ 31) (s : Int32) (k : Nat) (hs : ((s &&& 31).toBitVec.smod 32).toNat = k) : nI n >>> (s &&& 31) = nI (n / 2 ^ k) := pk_shrN hn _ k hs
theorem op_div {n : Nat} (hn : n < 2 ^ 31) (c : Int32) (d : Nat) (hc : c = nI d) (h0 : 0 < d) (hd : d < 2 ^ 31) : nI n / c = nI (n / d) := by subst hc; exact pk_div hn h0 hd
theorem op_rem {n : Nat} (hn : n < 2 ^ 31) (c : Int32) (d : Nat) (hc : c = nI d) (h0 : 0 < d) (hd : d < 2 ^ 31) : nI n - nI n / c * c = nI (n % d) := by subst hc; exact pk_rem hn h0 hd
/-- OVERFLOW in both, or in neither -/
theorem ov_R {u : XS} {v : MS} (h : r0 u v) (x : Int64) {b : Int32} (hb : b = 0 ∨ b = 1) (hf : b = 0 ↔ (-2 ^ 35 ≤ x.toInt ∧ x.toInt < 2 ^ 35)) : ∃ u' v', r0 u' v' ∧ x_fitted u x = some (x &&& 68719476735, u') ∧ m_over v b = some v' ∧ X_words u' = X_words u := by
  rw [fitted_N]
  rcases hb with rfl | rfl
  · exact ⟨u, v, h, by rw [if_pos (hf.mp rfl)], m_over_0 v, rfl⟩
  · have : ¬ (-2 ^ 35 ≤ x.toInt ∧ x.toInt < 2 ^ 35) := fun z => absurd (hf.mpr z) (by decide)
    exact ⟨_, _, h.ovf, by rw [if_neg this, x_ov h.2.1]; rfl, m_over_1 h.wrong, rfl⟩
theorem xf_fitted {u : XS} (h : ¬ X_trap u = 0) (x : Int64) : x_fitted u x = some (x &&& 68719476735, u) := by
  rw [fitted_N, xf_ov h]
  split <;> rfl
theorem xf_changed {u : XS} (h : ¬ X_trap u = 0) (k : Int32) (w : Int64) : ∃ r, x_changedToMove u k w = some (r, u) := by
  unfold x_changedToMove
  simp only [xf_fitted h, Option.bind_some]
  repeat' split
  all_goals exact ⟨_, rfl⟩
theorem mf_move27 {v : MS} (h : ¬ M_wrong v ≤ 0) (a b c d : Int32) (w : Int64) : m_move_27 a b c v d w = some v := by
  have h0 : ¬ M_wrong v = 0 := fun e => h (by rw [e]; decide)
  unfold m_move_27 m_move_57 m_move_61 m_move_62 m_move_84 m_move_85 m_move_126
  simp only [nmv_eq, mf_over h0, Option.bind_some, mf_place h]
  repeat' split
  all_goals rfl
theorem msrc_cases {u : XS} {v : MS} (h : r0 u v) (m : Int32) {n : Nat} (hn : n < 16) {e : Int32} (he : rA e) (K : MS → Int64 → Option MS) :
    (∃ w, rW w ∧ x_movedSource u m (nI n) e = some (w, u) ∧ (if m = 2 then (if nI n < 0 ∨ 1024 ≤ (nI n).toNatClampNeg then none else K v (M_store v (nI n).toNatClampNeg)) else (m_source v m e).bind (fun z => K z.2 z.1)) = K v w) ∨
    (x_movedSource u m (nI n) e = some (0, X_s_trap u 1) ∧ (if m = 2 then (if nI n < 0 ∨ 1024 ≤ (nI n).toNatClampNeg then none else K v (M_store v (nI n).toNatClampNeg)) else (m_source v m e).bind (fun z => K z.2 z.1)) = K (M_s_wrong v 1) 0) := by
  unfold x_movedSource
  by_cases hm : m = 2
  · rw [if_pos hm, if_pos hm, if_neg (x_ac hn), if_neg (x_ac hn), nI_clamp (by omega), h.words]
    exact Or.inl ⟨_, h.w n, rfl, rfl⟩
  · rw [if_neg hm, if_neg hm]
    rcases source_cases h m he with ⟨w, hw, e1, e2⟩ | ⟨e1, e2⟩
    · exact Or.inl ⟨w, hw, by rw [e1]; rfl, by rw [e2]; rfl⟩
    · exact Or.inr ⟨by rw [e1]; rfl, by rw [e2]; rfl⟩
theorem swap_N {n : Nat} (hn : n < 2 ^ 36) : x_swapped (lN n) = lN (n % 262144 * 262144 + n / 262144) := by
  unfold x_swapped
  rw [x_right_N, x_left_N hn]
  exact x_joined_N (Nat.mod_lt _ (by decide)) (by omega)
theorem swap_M {n : Nat} (hn : n < 2 ^ 36) : m_joined (m_right (lN n)) (m_left (lN n)) = x_swapped (lN n) := by
  rw [swap_N hn, m_right_N hn, m_left_N hn, m_joined_N]
  exact congrArg lN (by omega)
theorem top_I : (34359738368 : Int64).toInt = 34359738368 := by decide
theorem all1_I : (68719476736 : Int64).toInt = 68719476736 := by decide
theorem and_self_W {w : Int64} (h : rW w) : w &&& 68719476735 = w := by obtain ⟨n, hn, rfl⟩ := h; exact l_and36N hn
theorem swap_W {w : Int64} (h : rW w) : rW (x_swapped w) := by
  obtain ⟨n, hn, rfl⟩ := h
  exact ⟨_, by omega, swap_N hn⟩
theorem j_abs_I {x : Int64} (h : -2 ^ 36 ≤ x.toInt ∧ x.toInt < 2 ^ 36) : (j_abs x).toInt = if 0 ≤ x.toInt then x.toInt else -x.toInt := by
  unfold j_abs
  simp only [l_cmp_ge, show (0 : Int64).toInt = 0 from by decide]
  split
  · rfl
  · rw [Int64.toInt_neg, bm (by omega) (by omega)]
theorem mm85 (a b c : Int32) (v : MS) (m : Int32) (w : Int64) (k g t : Int32) : m_move_85 a b c v m w k g t = (m_over v t).bind (fun z => m_place z m b c (if k = 1 then m_joined (m_right w) (m_left w) else if g = 0 then w else 68719476736 - w)) := by
  unfold m_move_85 m_move_126
  congr 1
  funext z
  rw [ob_id, ob_id, ob_id]
  split
  · rfl
  · split <;> rfl
theorem mm62 (a b c : Int32) (v : MS) (m : Int32) (w : Int64) (k g : Int32) : m_move_62 a b c v m w k g = m_move_85 a b c v m w k g (if k ≤ 1 then 0 else if w = 34359738368 then 1 else 0) := by
  unfold m_move_62 m_move_84
  by_cases h1 : k ≤ 1
  · rw [if_pos h1, if_pos h1]
  · rw [if_neg h1, if_neg h1]
    by_cases h2 : w = 34359738368
    · rw [if_pos (l_cmp_eq.mpr h2), if_pos h2]
    · rw [if_neg (fun z => h2 (l_cmp_eq.mp z)), if_neg h2]
/-- the reference's move, by its kind -/
theorem mm27 (v : MS) {op : Nat} (ho : op < 512) (b c m : Int32) (w : Int64) : m_move_27 (nI op) b c v m w = m_move_85 (nI op) b c v m w (nI (op / 4 % 4)) (if op / 4 % 4 = 2 then 1 else if op / 4 % 4 = 3 then (if w.toInt < 34359738368 then 0 else 1) else 0) (if nI (op / 4 % 4) ≤ 1 then 0 else if w = 34359738368 then 1 else 0) := by
  unfold m_move_27
  rw [op_div (by omega) 4 4 rfl (by decide) (by decide), op_rem (by omega) 4 4 rfl (by decide) (by decide), nmv_eq]
  unfold m_move_57 m_move_61
  rw [mm62, mm62]
  have hc : lg_cmp w 34359738368 < 0 ↔ w.toInt < 34359738368 := by rw [l_cmp_lt, top_I]
  have h4 : op / 4 % 4 < 4 := Nat.mod_lt _ (by decide)
  by_cases h2 : op / 4 % 4 = 2
  · rw [h2, if_pos (show nI 2 = 2 from rfl), if_pos rfl]
  · rw [if_neg (by rw [eq_c (by omega) 2 2 rfl (by decide)]; exact h2), if_neg h2]
    by_cases h3 : op / 4 % 4 = 3
    · rw [h3, if_pos (show nI 3 = 3 from rfl), if_pos rfl]
      by_cases h5 : w.toInt < 34359738368
      · rw [if_pos (hc.mpr h5), if_pos h5]
      · rw [if_neg (fun z => h5 (hc.mp z)), if_neg h5]
    · rw [if_neg (by rw [eq_c (by omega) 3 3 rfl (by decide)]; exact h3), if_neg h3]
theorem b01 (c : Prop) [Decidable c] : (if c then (1 : Int32) else 0) = 0 ∨ (if c then (1 : Int32) else 0) = 1 := by
  split
  · exact Or.inr rfl
  · exact Or.inl rfl
theorem move_fin {u : XS} {v : MS} (h : r0 u v) {m n : Nat} (hm : m < 4) (hn : n < 16) {e : Int32} (he : rA e) {x y : Int64} {b : Int32} (hb : b = 0 ∨ b = 1) (hf : b = 0 ↔ (-2 ^ 35 ≤ x.toInt ∧ x.toInt < 2 ^ 35)) (hv : x &&& 68719476735 = y &&& 68719476735) : rF ((x_fitted u x).bind fun z28 => x_putMoved z28.2 (nI m) (nI n) e z28.1) ((m_over v b).bind fun z => m_place z (nI m) (nI n) e y) := by
  obtain ⟨u', v', h', f1, f2, -⟩ := ov_R h x hb hf
  rw [f1, f2, Option.bind_some, Option.bind_some, ← m_place_and, ← hv]
  exact putMoved_R h' hm hn he (and_W _)
set_option maxHeartbeats 1000000 in
theorem move_R {u : XS} {v : MS} (h : r0 u v) {op n : Nat} (ho : op < 512) (hn : n < 16) {e : Int32} (he : rA e) : rF (x_move u (nI op) (nI n) e) (m_move v (nI op) (nI n) e) := by
  unfold x_move m_move
  rw [nmv_eq, nmv_eq, op_and3, op_rem (by omega) 4 4 rfl (by decide) (by decide), op_sh (by omega) 2 2 (by decide), op_and3]
  have h4 : op % 4 < 4 := Nat.mod_lt _ (by decide)
  have hq : op / 4 % 4 < 4 := Nat.mod_lt _ (by decide)
  rcases msrc_cases h (nI (op % 4)) hn he (fun z w => m_move_27 (nI op) (nI n) e z (nI (op % 4)) w) with ⟨w, ⟨k, hk, rfl⟩, e1, e2⟩ | ⟨e1, e2⟩
  · rw [e1, Option.bind_some, e2, mm27 v ho, mm85]
    show rF ((x_changedToMove u (nI (op / 4 % 4)) (lN k)).bind fun z28 => (x_putMoved z28.2 (nI (op % 4)) (nI n) e z28.1).bind fun z31 => some z31) _
    have ex : (fun z28 : Int64 × XS => (x_putMoved z28.2 (nI (op % 4)) (nI n) e z28.1).bind fun z31 => some z31) = (fun z28 => x_putMoved z28.2 (nI (op % 4)) (nI n) e z28.1) := by funext z; rw [ob_id]
    rw [ex]
    unfold x_changedToMove
    have idz : ∀ o : Option (Int64 × XS), (o.bind fun z => some (z.1, z.2)) = o := fun o => by cases o <;> rfl
    rw [idz, idz]
    have eI : (lN k).toInt = (k : Int) := lN_pos (by omega)
    have hs := x_signed_I hk
    have hlo := sg_lo k hk
    have ht : lN k = 34359738368 ↔ (k : Int) = 34359738368 := by rw [← Int64.toInt_inj, eI, top_I]
    rcases (show op / 4 % 4 = 0 ∨ op / 4 % 4 = 1 ∨ op / 4 % 4 = 2 ∨ op / 4 % 4 = 3 by omega) with q | q | q | q
    · rw [q, if_pos (show nI 0 = 0 from rfl), if_pos (show nI 0 ≤ 1 by decide), m_over_0, Option.bind_some, Option.bind_some, if_neg (show ¬ nI 0 = 1 by decide)]
      exact putMoved_R h h4 hn he ⟨k, hk, rfl⟩
    · rw [q, if_neg (show ¬ nI 1 = 0 by decide), if_pos (show nI 1 = 1 from rfl), if_pos (show nI 1 ≤ 1 by decide), m_over_0, Option.bind_some, Option.bind_some, if_pos (show nI 1 = 1 from rfl), swap_M hk]
      exact putMoved_R h h4 hn he (swap_W ⟨k, hk, rfl⟩)
    · have hx : (-(x_signed (lN k))).toInt = -(sg k) := by rw [Int64.toInt_neg, hs, bm (by omega) (by omega)]
      have hv : (-(x_signed (lN k))) &&& 68719476735 = (68719476736 - lN k) &&& 68719476735 := and_eq (by
        rw [hx, Int64.toInt_sub, all1_I, eI, bm (by omega) (by omega)]
        unfold sg; split <;> omega)
      rw [q, if_neg (show ¬ nI 2 = 0 by decide), if_neg (show ¬ nI 2 = 1 by decide), if_pos (show nI 2 = 2 from rfl), if_neg (show ¬ nI 2 ≤ 1 by decide), if_pos (show 2 = 2 from rfl), if_neg (show ¬ nI 2 = 1 by decide), if_neg (show ¬ (1 : Int32) = 0 by decide)]
      refine move_fin h h4 hn he (b01 _) ?_ hv
      rw [hx]
      by_cases hk2 : (k : Int) = 34359738368
      · rw [if_pos (ht.mpr hk2)]
        exact ⟨fun z => absurd z (by decide), fun z => by unfold sg at z; split at z <;> omega⟩
      · rw [if_neg (fun z => hk2 (ht.mp z))]
        exact ⟨fun _ => by unfold sg; split <;> omega, fun _ => rfl⟩
    · have hx : (j_abs (x_signed (lN k))).toInt = if 0 ≤ sg k then sg k else -(sg k) := by rw [j_abs_I (by rw [hs]; omega), hs]
      rw [q, if_neg (show ¬ nI 3 = 0 by decide), if_neg (show ¬ nI 3 = 1 by decide), if_neg (show ¬ nI 3 = 2 by decide), if_neg (show ¬ nI 3 ≤ 1 by decide), if_neg (show ¬ 3 = 2 by decide), if_pos (show 3 = 3 from rfl), if_neg (show ¬ nI 3 = 1 by decide), eI]
      refine move_fin h h4 hn he (b01 _) ?_ ?_
      · rw [hx]
        by_cases hk2 : (k : Int) = 34359738368
        · rw [if_pos (ht.mpr hk2)]
          exact ⟨fun z => absurd z (by decide), fun z => by unfold sg at z; split at z <;> (split at z <;> omega)⟩
        · rw [if_neg (fun z => hk2 (ht.mp z))]
          exact ⟨fun _ => by unfold sg; split <;> (split <;> omega), fun _ => rfl⟩
      · by_cases hk2 : (k : Int) < 34359738368
        · rw [if_pos hk2, if_pos (show (0 : Int32) = 0 from rfl)]
          refine and_eq ?_
          rw [hx, eI]; unfold sg; split <;> (split <;> omega)
        · rw [if_neg hk2, if_neg (show ¬ (1 : Int32) = 0 by decide)]
          refine and_eq ?_
          rw [hx, Int64.toInt_sub, all1_I, eI, bm (by omega) (by omega)]
          unfold sg; split <;> (split <;> omega)
  · have h1 := h.t1
    rw [e1, Option.bind_some, e2]
    obtain ⟨r, e3⟩ := xf_changed h1.2 (nI (op / 2 ^ 2 % 4)) 0
    show rF ((x_changedToMove (X_s_trap u 1) _ 0).bind _) _
    rw [e3, Option.bind_some, xf_putMoved h1.2, mf_move27 h1.pos]
    exact rF1 h1
theorem lmin_I : (-34359738368 : Int64).toInt = -34359738368 := by decide
theorem m_sum158 (a b c : Int32) (v : MS) (m : Int32) (x : Int64) : m_sum_158 a b c v m x = (m_over v (if -2 ^ 35 ≤ x.toInt ∧ x.toInt < 2 ^ 35 then 0 else 1)).bind (fun z => m_keep z m b c x) := by
  unfold m_sum_158 m_sum_179 m_sum_184
  have e : (fun z184 : MS => (m_keep z184 m b c x).bind fun z194 => some z194) = (fun z => m_keep z m b c x) := by funext z; rw [ob_id]
  rw [e]
  have h1 : lg_cmp x (-34359738368) < 0 ↔ x.toInt < -34359738368 := by rw [l_cmp_lt, lmin_I]
  have h2 : lg_cmp x 34359738368 < 0 ↔ x.toInt < 34359738368 := by rw [l_cmp_lt, top_I]
  by_cases c1 : x.toInt < -34359738368
  · rw [if_pos (h1.mpr c1), if_neg (by omega)]
  · rw [if_neg (fun z => c1 (h1.mp z))]
    by_cases c2 : x.toInt < 34359738368
    · rw [if_pos (h2.mpr c2), if_pos (by omega)]
    · rw [if_neg (fun z => c2 (h2.mp z)), if_neg (by omega)]
theorem b10 (c : Prop) [Decidable c] : (if c then (0 : Int32) else 1) = 0 ∨ (if c then (0 : Int32) else 1) = 1 := by
  split
  · exact Or.inl rfl
  · exact Or.inr rfl
theorem b10_iff (c : Prop) [Decidable c] : (if c then (0 : Int32) else 1) = 0 ↔ c := by
  split
  · exact ⟨fun _ => by assumption, fun _ => rfl⟩
  · exact ⟨fun z => absurd z (by decide), fun z => by contradiction⟩
theorem sum_fin {u : XS} {v : MS} (h : r0 u v) {m n : Nat} (hm : m < 4) (hn : n < 16) {e : Int32} (he : rA e) (x : Int64) {b : Int32} (hb : b = 0 ∨ b = 1) (hf : b = 0 ↔ (-2 ^ 35 ≤ x.toInt ∧ x.toInt < 2 ^ 35)) : rF ((x_fitted u x).bind fun z => x_putResult z.2 (nI m) (nI n) e z.1) ((m_over v b).bind fun z => m_keep z (nI m) (nI n) e x) := by
  obtain ⟨u', v', h', f1, f2, -⟩ := ov_R h x hb hf
  rw [f1, f2, Option.bind_some, Option.bind_some, ← m_keep_and]
  exact putResult_R h' hm hn he (and_W _)
theorem x_sum65 (a b c : Int32) (u : XS) (m n e : Int32) (x : Int64) : x_sum_65 a b c u m n e x = (x_fitted u x).bind fun z => x_putResult z.2 m n e z.1 := by
  unfold x_sum_65
  congr 1
  funext z
  rw [ob_id]
theorem xf_sum65 {u : XS} (h : ¬ X_trap u = 0) (a b c : Int32) (m n e : Int32) (x : Int64) : x_sum_65 a b c u m n e x = some u := by
  rw [x_sum65, xf_fitted h, Option.bind_some, xf_putResult h]
theorem mf_sum158 {v : MS} (h : ¬ M_wrong v ≤ 0) (a b c m : Int32) (x : Int64) : m_sum_158 a b c v m x = some v := by
  have h0 : ¬ M_wrong v = 0 := fun e => h (by rw [e]; decide)
  rw [m_sum158, mf_over h0, Option.bind_some, mf_keep h]
/-- ADD, SUB -/
theorem sum_R {u : XS} {v : MS} (h : r0 u v) {op n : Nat} (ho : op < 512) (hs : op / 8 = 23) (hn : n < 16) {e : Int32} (he : rA e) : rF (x_sum u (nI op) (nI n) e) (m_sum v (nI op) (nI n) e) := by
  unfold x_sum m_sum
  rw [nmv_eq, nmv_eq, op_and3, op_rem (by omega) 4 4 rfl (by decide) (by decide), if_neg (x_ac hn), nI_clamp (by omega), nmv_eq]
  have h4 : op % 4 < 4 := Nat.mod_lt _ (by decide)
  have a4 : (nI op &&& 4 = 0) ↔ op / 4 = 46 := by
    have hop : op = 184 ∨ op = 185 ∨ op = 186 ∨ op = 187 ∨ op = 188 ∨ op = 189 ∨ op = 190 ∨ op = 191 := by omega
    rcases hop with rfl | rfl | rfl | rfl | rfl | rfl | rfl | rfl <;> decide
  have tail : ∀ (v' : MS) (s : Int64), (nmv (m_num s) fun x15 => if nI n < 0 ∨ 1024 ≤ n then none else nmv (m_num (M_store v' n)) fun x26 => nmv (nI op / 4) fun x31 => if x31 = 38 then (if lg_cmp x15 0 = 0 then m_sum_65 (nI op) (nI n) e v' (nI (op % 4)) x15 x26 else if lg_cmp x15 (-1) = 0 then (if lg_cmp x26 (-34359738368) = 0 then m_sum_65 (nI op) (nI n) e v' (nI (op % 4)) x15 x26 else m_sum_69 (nI op) (nI n) e v' (nI (op % 4)) x15 x26) else m_sum_69 (nI op) (nI n) e v' (nI (op % 4)) x15 x26) else if x31 = 36 then (m_multiply v' (nI (op % 4)) (nI n) e x26 x15).bind fun z134 => some z134 else if x31 = 46 then m_sum_158 (nI op) (nI n) e v' (nI (op % 4)) (x26 + x15) else m_sum_158 (nI op) (nI n) e v' (nI (op % 4)) (x26 - x15)) = if op / 4 = 46 then m_sum_158 (nI op) (nI n) e v' (nI (op % 4)) (m_num (M_store v' n) + m_num s) else m_sum_158 (nI op) (nI n) e v' (nI (op % 4)) (m_num (M_store v' n) - m_num s) := by
    intro v' s
    have hi := x_ac hn
    rw [nI_clamp (by omega)] at hi
    rw [nmv_eq, if_neg hi, nmv_eq, nmv_eq, op_div (by omega) 4 4 rfl (by decide) (by decide), if_neg (by rw [eq_c (by omega) 38 38 rfl (by decide)]; omega), if_neg (by rw [eq_c (by omega) 36 36 rfl (by decide)]; omega)]
    by_cases hq : op / 4 = 46
    · rw [if_pos hq, if_pos (by rw [hq]; rfl)]
    · rw [if_neg hq, if_neg (by rw [eq_c (by omega) 46 46 rfl (by decide)]; exact hq)]
  rcases source_cases h (nI (op % 4)) he with ⟨w, ⟨k, hk, rfl⟩, e1, e2⟩ | ⟨e1, e2⟩
  · rw [e1, e2, Option.bind_some, Option.bind_some, nmv_eq]
    refine Eq.mp (congrArg (rF _) (tail v (lN k)).symm) ?_
    obtain ⟨q, hq, eq⟩ := h.w n
    rw [h.words, eq, num_eq hq, num_eq hk]
    unfold x_sum_39
    rw [if_neg (show ¬ (1 : Int32) = 0 by decide), if_pos (show (0 : Int32) = 0 from rfl), x_sum65, x_sum65, m_sum158, m_sum158]
    by_cases hq4 : op / 4 = 46
    · rw [if_pos (a4.mpr hq4), if_pos hq4]
      exact sum_fin h h4 hn he _ (b10 _) (b10_iff _)
    · rw [if_neg (fun z => hq4 (a4.mp z)), if_neg hq4]
      exact sum_fin h h4 hn he _ (b10 _) (b10_iff _)
  · have h1 := h.t1
    rw [e1, e2, Option.bind_some, Option.bind_some, nmv_eq]
    refine Eq.mp (congrArg (rF _) (tail (M_s_wrong v 1) 0).symm) ?_
    unfold x_sum_39
    have b1 : (if nI op &&& 4 = 0 then (if (1 : Int32) = 0 then x_sum_65 (nI op) (nI n) e (0, X_s_trap u 1).2 (nI (op % 4)) (nI n) e (x_signed (X_words u n) - x_signed (0, X_s_trap u 1).1) else x_sum_65 (nI op) (nI n) e (0, X_s_trap u 1).2 (nI (op % 4)) (nI n) e (x_signed (X_words u n) + x_signed (0, X_s_trap u 1).1)) else (if (0 : Int32) = 0 then x_sum_65 (nI op) (nI n) e (0, X_s_trap u 1).2 (nI (op % 4)) (nI n) e (x_signed (X_words u n) - x_signed (0, X_s_trap u 1).1) else x_sum_65 (nI op) (nI n) e (0, X_s_trap u 1).2 (nI (op % 4)) (nI n) e (x_signed (X_words u n) + x_signed (0, X_s_trap u 1).1))) = some (X_s_trap u 1) := by
      rw [xf_sum65 h1.2, xf_sum65 h1.2]
      repeat' split
      all_goals rfl
    rw [b1, mf_sum158 h1.pos, mf_sum158 h1.pos]
    split <;> exact rF1 h1
