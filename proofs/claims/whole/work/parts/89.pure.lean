/-! the law's own loop: every answer is the reference's -/
set_option maxHeartbeats 1000000 in
theorem law_loop (xs : Nat → Int32) {L : Nat} (hL : L ≤ 2048) : ∀ (r q k : Nat) (u : XS) (v : MS), q + r = 513 → r + 1 ≤ k → rC u v → lw_run xs L k u v (nI (4 * q)) = some 1 := by
  intro r
  have hdr : ∀ q, q ≤ 513 → (((Int32.ofNat L) - (4 : Int32)) < nI (4 * q) ↔ L < 4 * q + 4) := by
    intro q hq
    have e1 : (Int32.ofNat L - 4).toInt = (L : Int) - 4 := pk_sub_toInt (a := L) (b := 4) (by omega) (by decide)
    have e2 : (nI (4 * q)).toInt = ((4 * q : Nat) : Int) := nI_toInt (by omega)
    rw [Int32.lt_iff_toInt_lt, e1, e2]
    omega
  induction r with
  | zero =>
    intro q k u v h1 h2 h
    obtain ⟨k, rfl⟩ : ∃ t, k = t + 1 := ⟨k - 1, by omega⟩
    rw [lw_run, if_pos ((hdr q (by omega)).mpr (by omega))]
  | succ r IH =>
    intro q k u v h1 h2 h
    obtain ⟨k, rfl⟩ : ∃ t, k = t + 1 := ⟨k - 1, by omega⟩
    rw [lw_run]
    by_cases c : L < 4 * q + 4
    · rw [if_pos ((hdr q (by omega)).mpr c)]
    · rw [if_neg (fun z => c ((hdr q (by omega)).mp z))]
      have i0 : ¬ (nI (4 * q) < 0 ∨ L ≤ (nI (4 * q)).toNatClampNeg) := nI_in (by omega) (by omega)
      have i1 : ¬ (nI (4 * q) + 1 < 0 ∨ L ≤ (nI (4 * q) + 1).toNatClampNeg) := by
        have : nI (4 * q) + 1 = nI (4 * q + 1) := nI_add (4 * q) 1
        rw [this]; exact nI_in (by omega) (by omega)
      have i2 : ¬ (nI (4 * q) + 2 < 0 ∨ L ≤ (nI (4 * q) + 2).toNatClampNeg) := by
        have : nI (4 * q) + 2 = nI (4 * q + 2) := nI_add (4 * q) 2
        rw [this]; exact nI_in (by omega) (by omega)
      have i3 : ¬ (nI (4 * q) + 3 < 0 ∨ L ≤ (nI (4 * q) + 3).toNatClampNeg) := by
        have : nI (4 * q) + 3 = nI (4 * q + 3) := nI_add (4 * q) 3
        rw [this]; exact nI_in (by omega) (by omega)
      have nx : nI (4 * q) + Int32.ofInt 4 = nI (4 * (q + 1)) := by
        have : nI (4 * q) + Int32.ofInt 4 = nI (4 * q + 4) := nI_add (4 * q) 4
        rw [this]; exact congrArg nI (by omega)
      have go : ∀ u' v', rC u' v' → lw_run xs L k u' v' (nI (4 * q) + Int32.ofInt 4) = some 1 := fun u' v' h' => by
        rw [nx]; exact IH (q + 1) k u' v' (by omega) (by omega) h'
      rw [if_neg i0]
      by_cases m0 : (xs (nI (4 * q)).toNatClampNeg &&& 7) = 0
      · rw [if_pos m0, if_neg i1, if_neg i2, if_neg i3]
        obtain ⟨t, u', v', f1, f2, h'⟩ := deposit_R h (xs (nI (4 * q) + 1).toNatClampNeg) (((xs (nI (4 * q) + 2).toNatClampNeg).toInt64 <<< ((32 : Int32).toInt64 &&& 63)) ||| ((xs (nI (4 * q) + 3).toNatClampNeg).toInt64 &&& 4294967295))
        rw [f1, Option.bind_some, if_neg i1, if_neg i2, if_neg i3, f2, Option.bind_some, if_pos rfl]
        exact go u' v' h'
      rw [if_neg m0]
      by_cases m1 : (xs (nI (4 * q)).toNatClampNeg &&& 7) = 1
      · rw [if_pos m1, if_neg i1]
        obtain ⟨t, f1, f2⟩ := examine_R h (xs (nI (4 * q) + 1).toNatClampNeg)
        rw [f1, Option.bind_some, if_neg i1, f2, Option.bind_some, if_pos (l_cmp_eq.mpr rfl)]
        exact go u v h
      rw [if_neg m1]
      by_cases m2 : (xs (nI (4 * q)).toNatClampNeg &&& 7) = 2
      · rw [if_pos m2, if_neg i1]
        obtain ⟨t, f1, f2⟩ := number_R h (xs (nI (4 * q) + 1).toNatClampNeg)
        rw [f1, Option.bind_some, if_neg i1, f2, Option.bind_some, if_pos (l_cmp_eq.mpr rfl)]
        exact go u v h
      rw [if_neg m2]
      by_cases m3 : (xs (nI (4 * q)).toNatClampNeg &&& 7) = 3
      · rw [if_pos m3, if_neg i1, if_neg i2, if_neg i3]
        obtain ⟨t, u', v', f1, f2, h'⟩ := segment_R h (xs (nI (4 * q) + 1).toNatClampNeg) (xs (nI (4 * q) + 2).toNatClampNeg) (xs (nI (4 * q) + 3).toNatClampNeg)
        rw [f1, Option.bind_some, if_neg i1, if_neg i2, if_neg i3, f2, Option.bind_some, if_pos rfl]
        exact go u' v' h'
      rw [if_neg m3]
      by_cases m4 : (xs (nI (4 * q)).toNatClampNeg &&& 7) = 4
      · rw [if_pos m4, if_neg i1, if_neg i2]
        by_cases z : xs (nI (4 * q) + 2).toNatClampNeg = 0
        · obtain ⟨u', v', f1, f2, h'⟩ := start_R h (xs (nI (4 * q) + 1).toNatClampNeg) 0 (Or.inl rfl)
          rw [if_pos z, f1, Option.bind_some, if_neg i1, if_neg i2, if_pos z, f2, Option.bind_some]
          exact go u' v' h'
        · obtain ⟨u', v', f1, f2, h'⟩ := start_R h (xs (nI (4 * q) + 1).toNatClampNeg) 1 (Or.inr rfl)
          rw [if_neg z, f1, Option.bind_some, if_neg i1, if_neg i2, if_neg z, f2, Option.bind_some]
          exact go u' v' h'
      rw [if_neg m4]
      by_cases m5 : (xs (nI (4 * q)).toNatClampNeg &&& 7) = 5
      · rw [if_pos m5, if_neg i1]
        obtain ⟨t, u', v', f1, f2, h'⟩ := run_R h (xs (nI (4 * q) + 1).toNatClampNeg)
        rw [f1, Option.bind_some, if_neg i1, f2, Option.bind_some, if_pos rfl]
        exact go u' v' h'
      rw [if_neg m5]
      by_cases m6 : (xs (nI (4 * q)).toNatClampNeg &&& 7) = 6
      · rw [if_pos m6, if_neg i1, if_neg i1, if_pos (look_R h _)]
        exact go u v h
      rw [if_neg m6]
      exact go u v h
theorem law_pure (xs : Nat → Int32) {L : Nat} (hL : L ≤ 2048) : lw_run xs L 514 X0 M0 0 = some 1 := law_loop xs hL 513 0 514 X0 M0 (by omega) (by omega) start_0
