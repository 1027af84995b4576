/-! an instruction, a step, a run -/
theorem raise_R {u : XS} {v : MS} (h : r0 u v) : rF (x_raise u 2) (m_fail v 2) := by rw [x_raise_0 h.2.1, fail_0 h.wrong]; exact rF1 h.t2
set_option maxHeartbeats 4000000 in
set_option maxRecDepth 100000 in
theorem xc_eq (u : XS) {op : Nat} (ho : op < 512) (n e : Int32) (q : Nat) (hq : op / 8 = q) : x_carryOut u (nI op) n e = (if q = 11 then x_bytes u (nI op) n e else if q = 16 ∨ q = 17 then x_move u (nI op) n e else if q = 18 then x_multiply u (nI op) n e else if q = 19 then x_divide u (nI op) n e else if q = 20 then x_shift u (nI op) n e else if q = 21 then x_exchangeOrJump u (nI op) n e else if q = 22 then x_stack u (nI op) n e else if q = 23 then x_sum u (nI op) n e else if q / 8 = 3 then x_compare u (nI op) n e else if q / 8 = 4 then x_logic u (nI op) n e else if q / 8 = 5 then x_halves u (nI op) n e else if q / 8 = 6 then x_test u (nI op) n e else x_raise u 2) := by
  unfold x_carryOut
  rw [op_sh (by omega) 3 3 (by decide), op_sh (by omega) 6 6 (by decide)]
  have e3 : op / 2 ^ 3 = q := hq
  have e6 : op / 2 ^ 6 = q / 8 := by omega
  rw [e3, e6]
  simp only [ob_id]
  have h64 : q < 64 := by omega
  clear hq e3 e6
  rcases (show q = 0 ∨ q = 1 ∨ q = 2 ∨ q = 3 ∨ q = 4 ∨ q = 5 ∨ q = 6 ∨ q = 7 ∨ q = 8 ∨ q = 9 ∨ q = 10 ∨ q = 11 ∨ q = 12 ∨ q = 13 ∨ q = 14 ∨ q = 15 ∨ q = 16 ∨ q = 17 ∨ q = 18 ∨ q = 19 ∨ q = 20 ∨ q = 21 ∨ q = 22 ∨ q = 23 ∨ q = 24 ∨ q = 25 ∨ q = 26 ∨ q = 27 ∨ q = 28 ∨ q = 29 ∨ q = 30 ∨ q = 31 ∨ q = 32 ∨ q = 33 ∨ q = 34 ∨ q = 35 ∨ q = 36 ∨ q = 37 ∨ q = 38 ∨ q = 39 ∨ q = 40 ∨ q = 41 ∨ q = 42 ∨ q = 43 ∨ q = 44 ∨ q = 45 ∨ q = 46 ∨ q = 47 ∨ q = 48 ∨ q = 49 ∨ q = 50 ∨ q = 51 ∨ q = 52 ∨ q = 53 ∨ q = 54 ∨ q = 55 ∨ q = 56 ∨ q = 57 ∨ q = 58 ∨ q = 59 ∨ q = 60 ∨ q = 61 ∨ q = 62 ∨ q = 63 by omega) with rfl | rfl | rfl | rfl | rfl | rfl | rfl | rfl | rfl | rfl | rfl | rfl | rfl | rfl | rfl | rfl | rfl | rfl | rfl | rfl | rfl | rfl | rfl | rfl | rfl | rfl | rfl | rfl | rfl | rfl | rfl | rfl | rfl | rfl | rfl | rfl | rfl | rfl | rfl | rfl | rfl | rfl | rfl | rfl | rfl | rfl | rfl | rfl | rfl | rfl | rfl | rfl | rfl | rfl | rfl | rfl | rfl | rfl | rfl | rfl | rfl | rfl | rfl | rfl <;> rfl
theorem mo_fam (v : MS) {op : Nat} (ho : op < 512) (n e : Int32) {f : Nat} (hf : op / 64 = f) : (f = 3 → m_obey v (nI op) n e = m_compare v (nI op) n e) ∧ (f = 4 → m_obey v (nI op) n e = m_logic v (nI op) n e) ∧ (f = 5 → m_obey v (nI op) n e = m_halves v (nI op) n e) ∧ (f = 6 → m_obey v (nI op) n e = m_test v (nI op) n e) := by
  unfold m_obey
  rw [op_div (by omega) 64 64 rfl (by decide) (by decide), hf, nmv_eq]
  simp only [ob_id]
  refine ⟨fun z => ?_, fun z => ?_, fun z => ?_, fun z => ?_⟩ <;> subst z <;> rfl
theorem mo_rest (v : MS) {op : Nat} (ho : op < 512) (n e : Int32) (hf : op / 64 < 3 ∨ op / 64 = 7) : m_obey v (nI op) n e = (if 91 ≤ op ∧ op ≤ 95 then m_bytes v (nI op) n e else if 128 ≤ op ∧ op ≤ 143 then m_move v (nI op) n e else if (144 ≤ op ∧ op ≤ 147) ∨ (152 ≤ op ∧ op ≤ 155) ∨ (184 ≤ op ∧ op ≤ 191) then m_sum v (nI op) n e else if 160 ≤ op ∧ op ≤ 183 then m_flow v (nI op) n e else m_fail v 2) := by
  unfold m_obey m_obey_93 m_obey_116 m_obey_130 m_obey_144 m_obey_158 m_obey_168 m_obey_192
  rw [op_div (by omega) 64 64 rfl (by decide) (by decide), nmv_eq]
  have hk : op < 2 ^ 31 := by omega
  have hk6 : op / 64 < 2 ^ 31 := by omega
  simp only [ob_id, eq_c hk6 3 3 rfl (by decide), eq_c hk6 4 4 rfl (by decide), eq_c hk6 5 5 rfl (by decide), eq_c hk6 6 6 rfl (by decide), le_c hk 90 90 rfl (by decide), ge_c hk 96 96 rfl (by decide), le_c hk 127 127 rfl (by decide), ge_c hk 144 144 rfl (by decide), le_c hk 143 143 rfl (by decide), lt_c hk 148 148 rfl (by decide), le_c hk 151 151 rfl (by decide), lt_c hk 156 156 rfl (by decide), le_c hk 183 183 rfl (by decide), ge_c hk 192 192 rfl (by decide), le_c hk 159 159 rfl (by decide), ge_c hk 184 184 rfl (by decide)]
  rw [if_neg (by omega), if_neg (by omega), if_neg (by omega), if_neg (by omega)]
  by_cases c1 : 91 ≤ op ∧ op ≤ 95
  · rw [if_pos c1, if_neg (by omega), if_neg (by omega)]
  · rw [if_neg c1]
    by_cases c2 : 128 ≤ op ∧ op ≤ 143
    · rw [if_pos c2]
      simp only [if_neg (show ¬ op ≤ 90 by omega), if_pos (show 96 ≤ op by omega), if_neg (show ¬ op ≤ 127 by omega), if_neg (show ¬ 144 ≤ op by omega)]
    · rw [if_neg c2]
      by_cases c3 : (144 ≤ op ∧ op ≤ 147) ∨ (152 ≤ op ∧ op ≤ 155) ∨ (184 ≤ op ∧ op ≤ 191)
      · rw [if_pos c3]
        rcases c3 with c3 | c3 | c3 <;> simp (disch := omega) only [if_pos, if_neg]
      · rw [if_neg c3]
        by_cases c4 : 160 ≤ op ∧ op ≤ 183
        · rw [if_pos c4]
          simp (disch := omega) only [if_pos, if_neg]
        · rw [if_neg c4]
          rcases (show op ≤ 90 ∨ (96 ≤ op ∧ op ≤ 127) ∨ (148 ≤ op ∧ op ≤ 151) ∨ (156 ≤ op ∧ op ≤ 159) ∨ 448 ≤ op by omega) with c5 | c5 | c5 | c5 | c5 <;> simp (disch := omega) only [if_pos, if_neg]
theorem flow_no (v : MS) {op n : Nat} (ho : (163 ≤ op ∧ op ≤ 167) ∨ (173 ≤ op ∧ op ≤ 175) ∨ (182 ≤ op ∧ op ≤ 183)) (hn : n < 16) (e : Int32) : m_flow v (nI op) (nI n) e = m_fail v 2 := by
  unfold m_flow
  rw [if_neg (x_ac hn), nmv_eq]
  simp only [ob_id]
  rcases (show op = 163 ∨ op = 164 ∨ op = 165 ∨ op = 166 ∨ op = 167 ∨ op = 173 ∨ op = 174 ∨ op = 175 ∨ op = 182 ∨ op = 183 by omega) with rfl | rfl | rfl | rfl | rfl | rfl | rfl | rfl | rfl | rfl <;> rfl
theorem obey_R {u : XS} {v : MS} (h : r0 u v) (hst : X_stopped u = 0) {op n : Nat} (ho : op < 512) (hn : n < 16) {e : Int32} (he : rA e) : rF (x_carryOut u (nI op) (nI n) e) (m_obey v (nI op) (nI n) e) := by
  rw [xc_eq u ho _ _ (op / 8) rfl]
  obtain ⟨m3, m4, m5, m6⟩ := mo_fam v ho (nI n) e (f := op / 64) rfl
  have e8 : op / 8 / 8 = op / 64 := by omega
  rw [e8]
  by_cases f3 : op / 64 = 3
  · rw [m3 f3, if_neg (by omega), if_neg (by omega), if_neg (by omega), if_neg (by omega), if_neg (by omega), if_neg (by omega), if_neg (by omega), if_neg (by omega), if_pos f3]; exact compare_R h ho hn he
  by_cases f4 : op / 64 = 4
  · rw [m4 f4, if_neg (by omega), if_neg (by omega), if_neg (by omega), if_neg (by omega), if_neg (by omega), if_neg (by omega), if_neg (by omega), if_neg (by omega), if_neg f3, if_pos f4]; exact logic_R h ho hn he
  by_cases f5 : op / 64 = 5
  · rw [m5 f5, if_neg (by omega), if_neg (by omega), if_neg (by omega), if_neg (by omega), if_neg (by omega), if_neg (by omega), if_neg (by omega), if_neg (by omega), if_neg f3, if_neg f4, if_pos f5]; exact halves_R h ho hn he
  by_cases f6 : op / 64 = 6
  · rw [m6 f6, if_neg (by omega), if_neg (by omega), if_neg (by omega), if_neg (by omega), if_neg (by omega), if_neg (by omega), if_neg (by omega), if_neg (by omega), if_neg f3, if_neg f4, if_neg f5, if_pos f6]; exact test_R h ho hn he
  rw [mo_rest v ho (nI n) e (by omega), if_neg f3, if_neg f4, if_neg f5, if_neg f6]
  by_cases q11 : op / 8 = 11
  · rw [if_pos q11]
    by_cases c : 91 ≤ op ∧ op ≤ 95
    · rw [if_pos c]; exact bytes_R h c.1 (by omega) hn he
    · have ex : x_bytes u (nI op) (nI n) e = x_raise u 2 := by
        unfold x_bytes
        rw [if_neg (show ¬ (91 : Int32) ≤ nI op by rw [ge_c (by omega) 91 91 rfl (by decide)]; omega), ob_id]
      rw [if_neg c, if_neg (by omega), if_neg (by omega), if_neg (by omega), ex]; exact raise_R h
  rw [if_neg q11, if_neg (show ¬ (91 ≤ op ∧ op ≤ 95) by omega)]
  by_cases q16 : op / 8 = 16 ∨ op / 8 = 17
  · rw [if_pos q16, if_pos (show 128 ≤ op ∧ op ≤ 143 by omega)]; exact move_R h ho hn he
  rw [if_neg q16, if_neg (show ¬ (128 ≤ op ∧ op ≤ 143) by omega)]
  by_cases q18 : op / 8 = 18
  · rw [if_pos q18]
    by_cases c : op ≤ 147
    · rw [if_pos (show (144 ≤ op ∧ op ≤ 147) ∨ (152 ≤ op ∧ op ≤ 155) ∨ (184 ≤ op ∧ op ≤ 191) by omega)]; exact mul_R h ho (by omega) hn he
    · have ex : x_multiply u (nI op) (nI n) e = x_raise u 2 := by
        unfold x_multiply
        have : ¬ nI op &&& 4 = 0 := by rcases (show op = 148 ∨ op = 149 ∨ op = 150 ∨ op = 151 by omega) with rfl | rfl | rfl | rfl <;> decide
        rw [if_neg this, ob_id]
      rw [if_neg (show ¬ ((144 ≤ op ∧ op ≤ 147) ∨ (152 ≤ op ∧ op ≤ 155) ∨ (184 ≤ op ∧ op ≤ 191)) by omega), if_neg (show ¬ (160 ≤ op ∧ op ≤ 183) by omega), ex]; exact raise_R h
  rw [if_neg q18]
  by_cases q19 : op / 8 = 19
  · rw [if_pos q19]
    by_cases c : op ≤ 155
    · rw [if_pos (show (144 ≤ op ∧ op ≤ 147) ∨ (152 ≤ op ∧ op ≤ 155) ∨ (184 ≤ op ∧ op ≤ 191) by omega)]; exact div_R h ho (by omega) hn he
    · have ex : x_divide u (nI op) (nI n) e = x_raise u 2 := by
        unfold x_divide
        have : ¬ nI op &&& 4 = 0 := by rcases (show op = 156 ∨ op = 157 ∨ op = 158 ∨ op = 159 by omega) with rfl | rfl | rfl | rfl <;> decide
        rw [if_neg this, ob_id]
      rw [if_neg (show ¬ ((144 ≤ op ∧ op ≤ 147) ∨ (152 ≤ op ∧ op ≤ 155) ∨ (184 ≤ op ∧ op ≤ 191)) by omega), if_neg (show ¬ (160 ≤ op ∧ op ≤ 183) by omega), ex]; exact raise_R h
  rw [if_neg q19]
  by_cases q20 : op / 8 = 20
  · rw [if_pos q20, if_neg (show ¬ ((144 ≤ op ∧ op ≤ 147) ∨ (152 ≤ op ∧ op ≤ 155) ∨ (184 ≤ op ∧ op ≤ 191)) by omega), if_pos (show 160 ≤ op ∧ op ≤ 183 by omega)]
    by_cases c : op < 163
    · exact shift_R h (by omega) c hn he
    · have ex : x_shift u (nI op) (nI n) e = x_raise u 2 := by
        have k : ∀ t0 t1, x_shift_19 (nI op) (nI n) e u t0 t1 = x_raise u 2 := fun t0 t1 => by
          unfold x_shift_19
          simp only [ob_id, nmv_eq]
          rcases (show op = 163 ∨ op = 164 ∨ op = 165 ∨ op = 166 ∨ op = 167 by omega) with rfl | rfl | rfl | rfl | rfl <;> rfl
        unfold x_shift
        rw [k, k]
        split <;> rfl
      rw [ex, flow_no v (by omega) hn]; exact raise_R h
  rw [if_neg q20]
  by_cases q21 : op / 8 = 21
  · rw [if_pos q21, if_neg (show ¬ ((144 ≤ op ∧ op ≤ 147) ∨ (152 ≤ op ∧ op ≤ 155) ∨ (184 ≤ op ∧ op ≤ 191)) by omega), if_pos (show 160 ≤ op ∧ op ≤ 183 by omega)]
    by_cases c168 : op = 168
    · subst c168; exact exch_R h hn he
    by_cases c169 : op = 169
    · subst c169; exact block_R h hn he
    by_cases c170 : op = 170 ∨ op = 171
    · exact half_jump h c170 hn he
    by_cases c172 : op = 172
    · subst c172; exact jrst_R h hst hn he
    have ex : x_exchangeOrJump u (nI op) (nI n) e = x_raise u 2 := by
      unfold x_exchangeOrJump
      simp only [ob_id]
      rcases (show op = 173 ∨ op = 174 ∨ op = 175 by omega) with rfl | rfl | rfl <;> rfl
    rw [ex, flow_no v (by omega) hn]; exact raise_R h
  rw [if_neg q21]
  by_cases q22 : op / 8 = 22
  · rw [if_pos q22, if_neg (show ¬ ((144 ≤ op ∧ op ≤ 147) ∨ (152 ≤ op ∧ op ≤ 155) ∨ (184 ≤ op ∧ op ≤ 191)) by omega), if_pos (show 160 ≤ op ∧ op ≤ 183 by omega)]
    by_cases c : op < 182
    · exact stack_R h (by omega) c hn he
    · have ex : x_stack u (nI op) (nI n) e = x_raise u 2 := by
        unfold x_stack
        simp only [ob_id]
        rcases (show op = 182 ∨ op = 183 by omega) with rfl | rfl <;> rfl
      rw [ex, flow_no v (by omega) hn]; exact raise_R h
  rw [if_neg q22]
  by_cases q23 : op / 8 = 23
  · rw [if_pos q23, if_pos (show (144 ≤ op ∧ op ≤ 147) ∨ (152 ≤ op ∧ op ≤ 155) ∨ (184 ≤ op ∧ op ≤ 191) by omega)]; exact sum_R h ho q23 hn he
  rw [if_neg q23, if_neg (show ¬ ((144 ≤ op ∧ op ≤ 147) ∨ (152 ≤ op ∧ op ≤ 155) ∨ (184 ≤ op ∧ op ≤ 191)) by omega), if_neg (show ¬ (160 ≤ op ∧ op ≤ 183) by omega)]
  exact raise_R h
