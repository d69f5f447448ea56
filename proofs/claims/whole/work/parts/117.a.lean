/-! ===== the reference's count ===== -/
theorem lg_zero {x : Nat} (hx : x < 2 ^ 64) : lg_cmp (lN x) 0 = 0 ↔ x = 0 := by
  unfold lg_cmp
  constructor
  · intro h
    by_cases h1 : lN x > 0
    · rw [if_pos h1] at h; cases h
    · rw [if_neg h1] at h
      by_cases h2 : lN x = 0
      · have h3 := congrArg (fun z : Int64 => z.toBitVec.toNat) h2
        simpa [wb_tn hx] using h3
      · rw [if_neg h2] at h; cases h
  · rintro rfl
    decide
theorem ones_loop : ∀ (n k acc : Nat) (x : Nat), x < 2 ^ 64 → pc x = k → k < n → L_Model_ones_4 n (nI acc) (lN x) = some (nI (acc + k), 0) := by
  intro n
  induction n with
  | zero => intro k acc x _ _ h; omega
  | succ n ih =>
    intro k acc x hx hk hn
    rw [L_Model_ones_4]
    by_cases h0 : x = 0
    · subst h0
      rw [if_pos ((lg_zero hx).mpr rfl)]
      rw [pc_0] at hk
      subst hk
      rfl
    · rw [if_neg (fun h => h0 ((lg_zero hx).mp h))]
      obtain ⟨p1, p2⟩ := pc_low 64 x hx (by decide) (by omega)
      have e1 : lN x &&& (lN x - (1 : Int64)) = lN (x &&& (x - 1)) := by
        rw [show (1 : Int64) = lN 1 from rfl, sub_lN (by omega), wb_and hx (by omega)]
      rw [e1, show nI acc + (1 : Int32) = nI (acc + 1) from nI_1 acc, ih (k - 1) (acc + 1) _ (by omega) (by omega) (by omega)]
      have : acc + 1 + (k - 1) = acc + k := by omega
      rw [this]
theorem onesL {x : Nat} (hx : x < 2 ^ 64) : f_Model_ones (lN x) = some (nI (pc x)) := by
  have h := ones_loop 300 (pc x) 0 x hx rfl (by have := pc_le x; omega)
  rw [Nat.zero_add] at h
  unfold f_Model_ones
  rw [show (0 : Int32) = nI 0 from rfl, h]
  rfl
theorem onesI {x : Nat} (hx : x < 2 ^ 31) : f_Model_ones (nI x).toInt64 = some (nI (pc x)) := by
  rw [nI_l hx]
  exact onesL (by omega)
