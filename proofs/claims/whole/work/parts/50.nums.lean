theorem wb_tb (n : Nat) : (lN n).toBitVec = BitVec.ofNat 64 n := rfl
theorem wb_inj {a b : Int64} (h : a.toBitVec = b.toBitVec) : a = b := Int64.toBitVec_inj.mp h
theorem wb_tn {n : Nat} (h : n < 2 ^ 64) : (lN n).toBitVec.toNat = n := by rw [wb_tb, BitVec.toNat_ofNat, Nat.mod_eq_of_lt h]
theorem wb_of (x : Int64) : ∃ n, n < 2 ^ 64 ∧ x = lN n := ⟨x.toBitVec.toNat, x.toBitVec.isLt, wb_inj (by rw [wb_tb]; simp)⟩
theorem wb_of32 (x : Int32) : ∃ n, n < 2 ^ 32 ∧ x = nI n := ⟨x.toBitVec.toNat, x.toBitVec.isLt, Int32.toBitVec_inj.mp (by show _ = BitVec.ofNat 32 _; simp)⟩
theorem wb_c : ∀ k, k < 64 → ((nI k).toInt64 &&& 63) = lN k := by decide +kernel
theorem wb_cu : ∀ k, k < 64 → ((nI k).toInt64.toUInt64 &&& Int64.toUInt64 63) = UInt64.ofNat k := by decide +kernel
theorem wb_sm : ∀ k, k < 64 → (BitVec.ofNat 64 k).smod 64 = BitVec.ofNat 64 k := by decide +kernel
theorem wb_pw {a b : Nat} (h : a ≤ b) : 2 ^ b = 2 ^ a * 2 ^ (b - a) := by rw [← Nat.pow_add]; congr 1; omega
theorem wb_lt2 {a b : Nat} (h : a < b) : 2 ^ a < 2 ^ b := Nat.pow_lt_pow_right (by decide) h
theorem wb_mod (n : Nat) : lN n = lN (n % 2 ^ 64) := wb_inj (by rw [wb_tb, wb_tb]; apply BitVec.eq_of_toNat_eq; rw [BitVec.toNat_ofNat, BitVec.toNat_ofNat, Nat.mod_mod])
theorem wb_shr {n k : Nat} (hn : n < 2 ^ 64) (hk : k < 64) : ((lN n).toUInt64 >>> ((nI k).toInt64.toUInt64 &&& Int64.toUInt64 63)).toInt64 = lN (n / 2 ^ k) := by
  rw [wb_cu k hk]
  apply wb_inj
  apply BitVec.eq_of_toNat_eq
  show ((lN n).toUInt64 >>> UInt64.ofNat k).toNat = (BitVec.ofNat 64 _).toNat
  have h1 : (UInt64.ofNat k).toNat = k := by
    show (BitVec.ofNat 64 k).toNat = k
    rw [BitVec.toNat_ofNat, Nat.mod_eq_of_lt (by omega)]
  have h2 : (lN n).toUInt64.toNat = n := wb_tn hn
  rw [UInt64.toNat_shiftRight, h1, h2, Nat.mod_eq_of_lt hk, Nat.shiftRight_eq_div_pow, BitVec.toNat_ofNat, Nat.mod_eq_of_lt (Nat.lt_of_le_of_lt (Nat.div_le_self _ _) hn)]
theorem wb_shl (n : Nat) {k : Nat} (hk : k < 64) : lN n <<< ((nI k).toInt64 &&& 63) = lN (n * 2 ^ k) := by
  rw [wb_c k hk]
  apply wb_inj
  rw [Int64.toBitVec_shiftLeft, wb_tb, wb_tb, wb_tb, wb_sm k hk]
  apply BitVec.eq_of_toNat_eq
  rw [BitVec.shiftLeft_eq', BitVec.toNat_shiftLeft, BitVec.toNat_ofNat, BitVec.toNat_ofNat, BitVec.toNat_ofNat, Nat.mod_eq_of_lt (show k < 2 ^ 64 by omega), Nat.shiftLeft_eq, Nat.mul_mod, Nat.mod_mod, ← Nat.mul_mod]
theorem wb_and {a b : Nat} (ha : a < 2 ^ 64) (hb : b < 2 ^ 64) : lN a &&& lN b = lN (a &&& b) := by
  apply wb_inj
  rw [Int64.toBitVec_and, wb_tb, wb_tb, wb_tb]
  apply BitVec.eq_of_toNat_eq
  rw [BitVec.toNat_and, BitVec.toNat_ofNat, BitVec.toNat_ofNat, BitVec.toNat_ofNat, Nat.mod_eq_of_lt ha, Nat.mod_eq_of_lt hb, Nat.mod_eq_of_lt (Nat.and_lt_two_pow _ hb)]
theorem wb_or {a b : Nat} (ha : a < 2 ^ 64) (hb : b < 2 ^ 64) : lN a ||| lN b = lN (a ||| b) := by
  apply wb_inj
  rw [Int64.toBitVec_or, wb_tb, wb_tb, wb_tb]
  apply BitVec.eq_of_toNat_eq
  rw [BitVec.toNat_or, BitVec.toNat_ofNat, BitVec.toNat_ofNat, BitVec.toNat_ofNat, Nat.mod_eq_of_lt ha, Nat.mod_eq_of_lt hb, Nat.mod_eq_of_lt (Nat.or_lt_two_pow ha hb)]
theorem wb_mask {n k : Nat} (hn : n < 2 ^ 64) (hk : k < 64) : lN n &&& lN (2 ^ k - 1) = lN (n % 2 ^ k) := by
  rw [wb_and hn (by have := wb_lt2 hk; omega), Nat.and_two_pow_sub_one_eq_mod]
theorem wb_a1 {n : Nat} (hn : n < 2 ^ 64) : lN n &&& 1 = lN (n % 2) := wb_mask (k := 1) hn (by decide)
theorem wb_bit {n k : Nat} (hn : n < 2 ^ 64) (hk : k < 64) : ((lN n).toUInt64 >>> ((nI k).toInt64.toUInt64 &&& Int64.toUInt64 63)).toInt64 &&& 1 = lN (n / 2 ^ k % 2) := by
  rw [wb_shr hn hk, wb_a1 (Nat.lt_of_le_of_lt (Nat.div_le_self _ _) hn)]
theorem wb_xor {q k : Nat} (hk : k < 63) (h : 2 ^ k ≤ q) (h2 : q < 2 ^ (k + 1)) : lN q ^^^ lN (2 ^ k) = lN (q - 2 ^ k) := by
  obtain ⟨r, rfl⟩ : ∃ r, q = 2 ^ k + r := ⟨q - 2 ^ k, by omega⟩
  have hr : r < 2 ^ k := by rw [Nat.pow_succ] at h2; omega
  have hx : (2 ^ k + r) ^^^ 2 ^ k = r := by
    apply Nat.eq_of_testBit_eq
    intro i
    rw [Nat.testBit_xor, Nat.testBit_two_pow]
    rcases Nat.lt_trichotomy i k with h | h | h
    · rw [Nat.testBit_two_pow_add_gt h]
      simp [show ¬ k = i by omega]
    · subst h
      rw [Nat.testBit_two_pow_add_eq]
      simp
    · have a1 : 2 ^ (k + 1) ≤ 2 ^ i := Nat.pow_le_pow_right (by decide) h
      rw [Nat.testBit_lt_two_pow (show 2 ^ k + r < 2 ^ i by omega), Nat.testBit_lt_two_pow (show r < 2 ^ i by omega)]
      simp [show ¬ k = i by omega]
  have b1 := wb_lt2 (show k + 1 < 64 by omega)
  have b2 := wb_lt2 (show k < 64 by omega)
  apply wb_inj
  rw [Int64.toBitVec_xor, wb_tb, wb_tb, wb_tb]
  apply BitVec.eq_of_toNat_eq
  rw [BitVec.toNat_xor, BitVec.toNat_ofNat, BitVec.toNat_ofNat, BitVec.toNat_ofNat, Nat.mod_eq_of_lt (by omega : 2 ^ k + r < 2 ^ 64), Nat.mod_eq_of_lt b2, hx, Nat.add_sub_cancel_left, Nat.mod_eq_of_lt (by omega)]
/-! ===== lN: masks, 'or' of parts that don't overlap is a sum ===== -/
theorem u_tn {n : Nat} (h : n < 2 ^ 64) : (UInt64.ofNat n).toNat = n := Nat.mod_eq_of_lt h
theorem g_and {a b c : Nat} (ha : a < 2 ^ 64) (hb : b < 2 ^ 64) (hc : a &&& b = c) : lN a &&& lN b = lN c := by
  subst hc
  have h : UInt64.ofNat a &&& UInt64.ofNat b = UInt64.ofNat (a &&& b) := UInt64.toNat_inj.mp (by rw [UInt64.toNat_and, u_tn ha, u_tn hb, u_tn (Nat.and_lt_two_pow a hb)])
  have h2 := congrArg UInt64.toInt64 h
  exact h2
theorem g_and1 {a : Nat} (ha : a < 2 ^ 64) : lN a &&& 1 = lN (a % 2) := g_and (b := 1) ha (by decide) (Nat.and_two_pow_sub_one_eq_mod a 1)
theorem g_mask {a s p : Nat} (hp : 2 ^ s = p) (hs : s < 64) (ha : a < 2 ^ 64) : lN a &&& lN (p - 1) = lN (a % p) := by
  subst hp
  have := Nat.pow_lt_pow_right (show 1 < 2 by decide) hs
  exact g_and ha (by omega) (Nat.and_two_pow_sub_one_eq_mod a s)
theorem g_or {k p a b : Nat} (hp : 2 ^ k = p) (ha : a < p) (h : b * p + a < 2 ^ 64) : lN (b * p) ||| lN a = lN (b * p + a) := by
  subst hp
  have h1 : b * 2 ^ k ||| a = b * 2 ^ k + a := by rw [← Nat.shiftLeft_eq, Nat.shiftLeft_add_eq_or_of_lt ha]
  have h3 : UInt64.ofNat (b * 2 ^ k) ||| UInt64.ofNat a = UInt64.ofNat (b * 2 ^ k + a) := UInt64.toNat_inj.mp (by rw [UInt64.toNat_or, u_tn (by omega), u_tn (by omega), u_tn h, h1])
  have h2 := congrArg UInt64.toInt64 h3
  exact h2
theorem g_or' {k p a b : Nat} (hp : 2 ^ k = p) (ha : a < p) (h : a + b * p < 2 ^ 64) : lN a ||| lN (b * p) = lN (a + b * p) := by
  rw [Int64.or_comm, g_or hp ha (by omega), Nat.add_comm]
theorem g_ushr {a k p : Nat} {y : UInt64} (hy : y = UInt64.ofNat k) (hk : k < 64) (hp : 2 ^ k = p) (ha : a < 2 ^ 64) : ((lN a).toUInt64 >>> y).toInt64 = lN (a / p) := by
  subst hy hp
  have h : UInt64.ofNat a >>> UInt64.ofNat k = UInt64.ofNat (a / 2 ^ k) := UInt64.toNat_inj.mp (by rw [UInt64.toNat_shiftRight, u_tn ha, u_tn (by omega), u_tn (Nat.lt_of_le_of_lt (Nat.div_le_self _ _) ha), Nat.mod_eq_of_lt hk, Nat.shiftRight_eq_div_pow])
  have h2 := congrArg UInt64.toInt64 h
  exact h2
theorem g_shl {a k p : Nat} {y : Int64} (hy : y.toBitVec.smod 64 = BitVec.ofNat 64 k) (hk : k < 64) (hp : 2 ^ k = p) (ha : a < 2 ^ 64) : lN a <<< y = lN (a * p) := by
  subst hp
  apply Int64.toBitVec_inj.mp
  rw [Int64.toBitVec_shiftLeft, hy]
  apply BitVec.eq_of_toNat_eq
  have hb : (lN a).toBitVec.toNat = a := Nat.mod_eq_of_lt ha
  have hk' : (BitVec.ofNat 64 k).toNat = k := Nat.mod_eq_of_lt (by omega)
  have h : ((lN a).toBitVec <<< BitVec.ofNat 64 k).toNat = (a * 2 ^ k) % 2 ^ 64 := by simp only [BitVec.shiftLeft_eq', BitVec.toNat_shiftLeft, hb, hk', Nat.shiftLeft_eq]
  exact h
/-! ===== lN to 2^62 under >> and >>> ===== -/
theorem pf_lI {a : Nat} (h : a < 2 ^ 63) : (lN a).toInt = (a : Int) := lg_ofNat_toInt h
theorem pf_shr {a d : Nat} {D : Int64} (hD : (D.toBitVec.smod 64).toNat = d) (h : a < 2 ^ 62) : lN a >>> D = lN (a / 2 ^ d) := by
  have hd : a / 2 ^ d ≤ a := Nat.div_le_self _ _
  apply Int64.toInt_inj.mp
  have e : (lN a >>> D).toInt = (lN a).toInt >>> d := by
    rw [← hD]
    exact BitVec.toInt_sshiftRight ..
  rw [e, Int.shiftRight_eq_div_pow, pf_lI (by omega), pf_lI (by omega)]
  rfl
theorem pf_ushr {a d : Nat} {D : UInt64} (hD : D.toNat % 64 = d) (h : a < 2 ^ 62) : ((lN a).toUInt64 >>> D).toInt64 = lN (a / 2 ^ d) := by
  have hd : a / 2 ^ d ≤ a := Nat.div_le_self _ _
  have e : (lN a).toUInt64 >>> D = UInt64.ofNat (a / 2 ^ d) := UInt64.toNat_inj.mp (by
    rw [UInt64.toNat_shiftRight, hD, Nat.shiftRight_eq_div_pow, UInt64.toNat_ofNat']
    show (UInt64.ofNat a).toNat / 2 ^ d = _
    rw [UInt64.toNat_ofNat', Nat.mod_eq_of_lt (by omega), Nat.mod_eq_of_lt (by omega)])
  rw [e]
  rfl
theorem pf_andw (x : Int64) : ∃ m, m < 2 ^ 32 ∧ x &&& 4294967295 = lN m := ⟨x.toBitVec.toNat % 2 ^ 32, Nat.mod_lt _ (by decide), Int64.toBitVec_inj.mp (BitVec.eq_of_toNat_eq (by
  show (x.toBitVec &&& 4294967295#64).toNat = (BitVec.ofNat 64 (x.toBitVec.toNat % 2 ^ 32)).toNat
  rw [BitVec.toNat_and, show (4294967295#64).toNat = 2 ^ 32 - 1 from by decide, Nat.and_two_pow_sub_one_eq_mod, BitVec.toNat_ofNat]
  omega))⟩
-- my own rows on numbers
theorem n_and (n : Nat) {m : Int32} (k : Nat) (hm : m.toBitVec.toNat = 2 ^ k - 1) (hk : k ≤ 32) : nI n &&& m = nI (n % 2 ^ k) := by
  rw [pk_and (nI n) k hm]
  have h : (nI n).toBitVec.toNat = n % 2 ^ 32 := by show (BitVec.ofNat 32 n).toNat = _; rw [BitVec.toNat_ofNat]
  rw [h]
  congr 1
  exact Nat.mod_mod_of_dvd n (Nat.pow_dvd_pow 2 hk)
theorem n_and18 (n : Nat) : nI n &&& 262143 = nI (n % 262144) := n_and n 18 (by decide) (by decide)
theorem n_and15 (n : Nat) : nI n &&& 15 = nI (n % 16) := n_and n 4 (by decide) (by decide)
theorem n_and511 (n : Nat) : nI n &&& 511 = nI (n % 512) := n_and n 9 (by decide) (by decide)
theorem n_and3 (n : Nat) : nI n &&& 3 = nI (n % 4) := n_and n 2 (by decide) (by decide)
theorem n_and7 (n : Nat) : nI n &&& 7 = nI (n % 8) := n_and n 3 (by decide) (by decide)
theorem n_and63 (n : Nat) : nI n &&& 63 = nI (n % 64) := n_and n 6 (by decide) (by decide)
theorem n_and255 (n : Nat) : nI n &&& 255 = nI (n % 256) := n_and n 8 (by decide) (by decide)
theorem n_and4095 (n : Nat) : nI n &&& 4095 = nI (n % 4096) := n_and n 12 (by decide) (by decide)
theorem l_and (n : Nat) (hn : n < 2 ^ 64) (k p : Nat) (hp : 2 ^ k = p) (hk : k < 64) : lN n &&& lN (p - 1) = lN (n % p) := g_mask hp hk hn
theorem l_and36 (x : Int64) : ∃ n, n < 2 ^ 36 ∧ x &&& 68719476735 = lN n := by
  obtain ⟨n, hn, rfl⟩ := wb_of x
  exact ⟨n % 2 ^ 36, Nat.mod_lt _ (by decide), wb_mask (k := 36) hn (by decide)⟩
theorem l_and36N {n : Nat} (hn : n < 2 ^ 36) : lN n &&& 68719476735 = lN n := by
  have h := wb_mask (n := n) (k := 36) (by omega) (by decide)
  rw [Nat.mod_eq_of_lt hn] at h
  exact h
/-- a long's shift to the right with its sign -/
theorem l_sshr (a : Int64) (s : Int32) (d : Nat) (hs : ((s.toInt64 &&& 63).toBitVec.smod 64).toNat = d) : (a >>> (s.toInt64 &&& 63)).toInt = a.toInt / 2 ^ d := by
  have e : (a >>> (s.toInt64 &&& 63)).toInt = a.toInt >>> d := by
    rw [← hs]
    exact BitVec.toInt_sshiftRight ..
  rw [e, Int.shiftRight_eq_div_pow]
  rfl
theorem l_shrN {n : Nat} (hn : n < 2 ^ 62) (s : Int32) (d : Nat) (hs : ((s.toInt64 &&& 63).toBitVec.smod 64).toNat = d) : lN n >>> (s.toInt64 &&& 63) = lN (n / 2 ^ d) := pf_shr hs hn
theorem l_ushrN {n : Nat} (hn : n < 2 ^ 62) (s : Int32) (d : Nat) (hs : (s.toInt64.toUInt64 &&& Int64.toUInt64 63).toNat % 64 = d) : ((lN n).toUInt64 >>> (s.toInt64.toUInt64 &&& Int64.toUInt64 63)).toInt64 = lN (n / 2 ^ d) := pf_ushr hs hn
def sg (n : Nat) : Int := if n < 2 ^ 35 then (n : Int) else (n : Int) - 2 ^ 36
theorem lN_toI {n : Nat} (h : n < 2 ^ 64) : (lN n).toInt = if n < 2 ^ 63 then (n : Int) else (n : Int) - 2 ^ 64 := by
  have h1 : (lN n).toInt = if 2 * (lN n).toBitVec.toNat < 2 ^ 64 then ((lN n).toBitVec.toNat : Int) else ((lN n).toBitVec.toNat : Int) - (2 ^ 64 : Nat) := BitVec.toInt_eq_toNat_cond _
  rw [h1, wb_tn h]
  split <;> split <;> omega
theorem lN_pos {n : Nat} (h : n < 2 ^ 63) : (lN n).toInt = (n : Int) := pf_lI h
theorem x_signed_I {n : Nat} (hn : n < 2 ^ 36) : (x_signed (lN n)).toInt = sg n := by
  unfold x_signed
  have h1 : lN n <<< ((28 : Int32).toInt64 &&& 63) = lN (n * 2 ^ 28) := wb_shl n (k := 28) (by decide)
  rw [h1, l_sshr _ 28 28 (by decide), lN_toI (by omega)]
  unfold sg
  split <;> split <;> omega
theorem l_cmp_c (x y : Int64) : lg_cmp x y = if y.toInt < x.toInt then 1 else if x.toInt = y.toInt then 0 else -1 := by
  unfold lg_cmp
  simp only [gt_iff_lt, Int64.lt_iff_toInt_lt, Int64.toInt_inj]
theorem l_cmp_lt {x y : Int64} : lg_cmp x y < 0 ↔ x.toInt < y.toInt := by
  rw [l_cmp_c]
  split
  · exact ⟨fun h => absurd h (by decide), fun h => by omega⟩
  · split
    · exact ⟨fun h => absurd h (by decide), fun h => by omega⟩
    · exact ⟨fun _ => by omega, fun _ => by decide⟩
theorem l_cmp_eq {x y : Int64} : lg_cmp x y = 0 ↔ x = y := by
  rw [l_cmp_c, ← Int64.toInt_inj]
  split
  · exact ⟨fun h => absurd h (by decide), fun h => by omega⟩
  · split
    · rename_i h; exact ⟨fun _ => h, fun _ => rfl⟩
    · rename_i h; exact ⟨fun h => absurd h (by decide), fun e => absurd e h⟩
theorem l_cmp_gt {x y : Int64} : 0 < lg_cmp x y ↔ y.toInt < x.toInt := by
  rw [l_cmp_c]
  split
  · exact ⟨fun _ => by omega, fun _ => by decide⟩
  · split
    · exact ⟨fun h => absurd h (by decide), fun h => by omega⟩
    · exact ⟨fun h => absurd h (by decide), fun h => by omega⟩
theorem l_cmp_ge {x y : Int64} : 0 ≤ lg_cmp x y ↔ y.toInt ≤ x.toInt := by
  have h := @l_cmp_lt x y
  rw [← Int32.not_lt, h]; omega
theorem l_cmp_le {x y : Int64} : lg_cmp x y ≤ 0 ↔ x.toInt ≤ y.toInt := by
  have h := @l_cmp_gt x y
  rw [← Int32.not_lt, h]; omega
theorem m_num_I {n : Nat} (hn : n < 2 ^ 36) : (m_num (lN n)).toInt = sg n := by
  unfold m_num
  have e1 : (lN n).toInt = (n : Int) := lN_pos (by omega)
  have e2 : (34359738368 : Int64).toInt = 34359738368 := by decide
  simp only [l_cmp_lt, e1, e2]
  unfold sg
  by_cases h : (n : Int) < 34359738368
  · rw [if_pos h, if_pos (by omega)]; exact e1
  · rw [if_neg h, if_neg (by omega)]
    have e3 : (68719476735 : Int64).toInt = 68719476735 := by decide
    have e4 : (1 : Int64).toInt = 1 := by decide
    rw [Int64.toInt_sub, Int64.toInt_sub, e1, e3, e4]
    rw [Int.bmod_def, Int.bmod_def]
    omega
theorem num_eq {n : Nat} (hn : n < 2 ^ 36) : m_num (lN n) = x_signed (lN n) := Int64.toInt_inj.mp (by rw [m_num_I hn, x_signed_I hn])
theorem x_right_N (n : Nat) : x_right (lN n) = nI (n % 262144) := by unfold x_right; rw [lN_i, n_and18]
theorem x_left_N {n : Nat} (hn : n < 2 ^ 36) : x_left (lN n) = nI (n / 262144) := by
  unfold x_left
  rw [l_ushrN (by omega) 18 18 (by decide), lN_i, n_and18]
  congr 1
  omega
theorem m_right_N {n : Nat} (hn : n < 2 ^ 36) : m_right (lN n) = nI (n % 262144) := by
  unfold m_right
  have h := pk_lRem (a := n) (b := 262144) (by omega) (by decide) (by decide)
  have e : (262144 : Int64) = lN 262144 := rfl
  rw [e, h, lN_i]
theorem m_left_N {n : Nat} (hn : n < 2 ^ 36) : m_left (lN n) = nI (n / 262144) := by
  unfold m_left
  have h := pk_lDiv (a := n) (b := 262144) (by omega) (by decide) (by decide)
  have e : (262144 : Int64) = lN 262144 := rfl
  rw [e, h, lN_i]
theorem x_joined_N {a b : Nat} (ha : a < 262144) (hb : b < 262144) : x_joined (nI a) (nI b) = lN (a * 262144 + b) := by
  unfold x_joined
  rw [nI_l (by omega), nI_l (by omega)]
  have h1 : lN a <<< ((18 : Int32).toInt64 &&& 63) = lN (a * 2 ^ 18) := wb_shl a (k := 18) (by decide)
  rw [h1]
  exact g_or (k := 18) (p := 2 ^ 18) rfl (by omega) (by omega)
theorem m_joined_N (a b : Nat) : m_joined (nI a) (nI b) = lN (a % 262144 * 262144 + b % 262144) := by
  unfold m_joined
  rw [n_and18, n_and18, nI_l (by omega), nI_l (by omega)]
  have e : (262144 : Int64) = lN 262144 := rfl
  rw [e, lN_mul, lN_add, Nat.mul_comm]
theorem m_bit_N {n k : Nat} (hn : n < 2 ^ 62) (hk : k < 64) : m_bit (lN n) (nI k) = nI (n / 2 ^ k % 2) := by
  unfold m_bit
  have h1 : lN n >>> ((nI k).toInt64 &&& 63) = lN (n / 2 ^ k) := by
    rw [wb_c k hk]
    exact pf_shr (by rw [wb_tb, wb_sm k hk, BitVec.toNat_ofNat, Nat.mod_eq_of_lt (by omega)]) hn
  have h2 : n / 2 ^ k ≤ n := Nat.div_le_self _ _
  rw [h1, wb_a1 (by omega), lN_i]
