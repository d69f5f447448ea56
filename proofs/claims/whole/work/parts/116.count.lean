/-! ===== Long.bitCount: by bytes ===== -/
theorem land_byte (a c : Nat) {b d : Nat} (hb : b < 256) (hd : d < 256) : (256 * a + b) &&& (256 * c + d) = 256 * (a &&& c) + (b &&& d) := by
  have hbd : b &&& d < 2 ^ 8 := Nat.lt_of_le_of_lt Nat.and_le_left hb
  refine Nat.eq_of_testBit_eq fun i => ?_
  rw [Nat.testBit_and, show 256 = 2 ^ 8 from rfl, Nat.testBit_two_pow_mul_add _ hb, Nat.testBit_two_pow_mul_add _ hd, Nat.testBit_two_pow_mul_add _ hbd]
  by_cases h : i < 8
  · rw [if_pos h, if_pos h, if_pos h, Nat.testBit_and]
  · rw [if_neg h, if_neg h, if_neg h, Nat.testBit_and]
/-- the masks of so many bytes -/
def mB (v : Nat) : Nat → Nat
  | 0 => 0
  | k + 1 => 256 * mB v k + v
def s1 (k x : Nat) : Nat := x - ((x / 2) &&& mB 85 k)
def s2 (k x : Nat) : Nat := (x &&& mB 51 k) + ((x / 4) &&& mB 51 k)
def s3 (k x : Nat) : Nat := (x + x / 16) &&& mB 15 k
def tB : Nat → Nat → Nat
  | 0, _ => 0
  | k + 1, x => 256 * tB k (x / 256) + pc (x % 256)
theorem by1 : ∀ r : Fin 256, ∀ e : Fin 2, (128 * e.val + r.val / 2) &&& 85 = (r.val / 2) &&& 85 := by decide +kernel
theorem by2 : ∀ r : Fin 256, ∀ e : Fin 4, (64 * e.val + r.val / 4) &&& 51 = (r.val / 4) &&& 51 := by decide +kernel
theorem by3 : ∀ r : Fin 256, ((s2 1 (s1 1 r.val)) + (s2 1 (s1 1 r.val)) / 16) % 16 = pc r.val ∧ s2 1 (s1 1 r.val) ≤ 68 ∧ s2 1 (s1 1 r.val) % 16 ≤ 4 := by decide +kernel
theorem s1_byte (k q : Nat) {r : Nat} (hr : r < 256) : s1 (k + 1) (256 * q + r) = 256 * s1 k q + s1 1 r ∧ s1 1 r < 256 := by
  unfold s1
  have e1 : (256 * q + r) / 2 = 256 * (q / 2) + (128 * (q % 2) + r / 2) := by omega
  have e2 := by1 ⟨r, hr⟩ ⟨q % 2, Nat.mod_lt _ (by decide)⟩
  dsimp only at e2
  rw [e1, show mB 85 (k + 1) = 256 * mB 85 k + 85 from rfl, land_byte _ _ (by omega) (by decide), e2, show mB 85 1 = 85 from rfl]
  have h1 : (q / 2) &&& mB 85 k ≤ q / 2 := Nat.and_le_left
  have h2 : (r / 2) &&& 85 ≤ r / 2 := Nat.and_le_left
  omega
theorem s2_byte (k q : Nat) {r : Nat} (hr : r < 256) : s2 (k + 1) (256 * q + r) = 256 * s2 k q + s2 1 r := by
  unfold s2
  have e1 : (256 * q + r) / 4 = 256 * (q / 4) + (64 * (q % 4) + r / 4) := by omega
  have e2 := by2 ⟨r, hr⟩ ⟨q % 4, Nat.mod_lt _ (by decide)⟩
  dsimp only at e2
  rw [e1, show mB 51 (k + 1) = 256 * mB 51 k + 51 from rfl, land_byte _ _ hr (by decide), land_byte _ _ (by omega) (by decide), e2, show mB 51 1 = 51 from rfl]
  omega
theorem s3_byte (k q : Nat) {r : Nat} (hr : r ≤ 68) (hq : q % 16 ≤ 4) : s3 (k + 1) (256 * q + r) = 256 * s3 k q + (r + r / 16) % 16 := by
  unfold s3
  have e1 : 256 * q + r + (256 * q + r) / 16 = 256 * (q + q / 16) + (r + 16 * (q % 16) + r / 16) := by omega
  rw [e1, show mB 15 (k + 1) = 256 * mB 15 k + 15 from rfl, land_byte _ _ (by omega) (by decide)]
  have e2 : (r + 16 * (q % 16) + r / 16) &&& 15 = (r + 16 * (q % 16) + r / 16) % 16 := Nat.and_two_pow_sub_one_eq_mod _ 4
  rw [e2]
  omega
theorem s12_low (k x : Nat) : s2 (k + 1) (s1 (k + 1) x) % 16 ≤ 4 := by
  have hr : x % 256 < 256 := Nat.mod_lt _ (by decide)
  obtain ⟨a1, a2⟩ := s1_byte k (x / 256) hr
  rw [show 256 * (x / 256) + x % 256 = x by omega] at a1
  rw [a1, s2_byte k _ a2]
  have := (by3 ⟨x % 256, hr⟩).2.2
  dsimp only at this
  omega
theorem s123 : ∀ (k x : Nat), s3 k (s2 k (s1 k x)) = tB k x := by
  intro k
  induction k with
  | zero => intro x; simp [s3, mB, tB]
  | succ k ih =>
    intro x
    have hr : x % 256 < 256 := Nat.mod_lt _ (by decide)
    obtain ⟨a1, a2⟩ := s1_byte k (x / 256) hr
    rw [show 256 * (x / 256) + x % 256 = x by omega] at a1
    obtain ⟨b1, b2, b3⟩ := by3 ⟨x % 256, hr⟩
    dsimp only at b1 b2 b3
    rw [a1, s2_byte k _ a2]
    have hq : s2 k (s1 k (x / 256)) % 16 ≤ 4 := by
      cases k with
      | zero => simp [s2, mB]
      | succ k => exact s12_low k _
    rw [s3_byte k _ b2 hq, ih, b1]
    rfl
theorem pc8 {r : Nat} (h : r < 256) : pc r ≤ 8 := by
  rw [show pc r = fb_ct (fun i => r.testBit i) 8 from ct_big (k := 8) (m := 64) (by omega) (by decide)]
  exact fb_ct_le _ _
theorem tB_8 {x : Nat} (hx : x < 2 ^ 64) : ∃ t0 t1 t2 t3 t4 t5 t6 t7 : Nat, tB 8 x = t0 + 256 * t1 + 65536 * t2 + 16777216 * t3 + 4294967296 * t4 + 1099511627776 * t5 + 281474976710656 * t6 + 72057594037927936 * t7 ∧ pc x = t0 + t1 + t2 + t3 + t4 + t5 + t6 + t7 ∧ t0 ≤ 8 ∧ t1 ≤ 8 ∧ t2 ≤ 8 ∧ t3 ≤ 8 ∧ t4 ≤ 8 ∧ t5 ≤ 8 ∧ t6 ≤ 8 ∧ t7 ≤ 8 := by
  have hm : ∀ y : Nat, y % 256 < 256 := fun y => Nat.mod_lt _ (by decide)
  have step : ∀ y : Nat, y < 2 ^ 64 → pc y = pc (y / 256) + pc (y % 256) := by
    intro y hy
    have := pc_byte (q := y / 256) (hm y) (by omega)
    rwa [show 256 * (y / 256) + y % 256 = y by omega] at this
  have l1 : x / 256 < 2 ^ 64 := by omega
  have l2 : x / 256 / 256 < 2 ^ 64 := by omega
  have l3 : x / 256 / 256 / 256 < 2 ^ 64 := by omega
  have l4 : x / 256 / 256 / 256 / 256 < 2 ^ 64 := by omega
  have l5 : x / 256 / 256 / 256 / 256 / 256 < 2 ^ 64 := by omega
  have l6 : x / 256 / 256 / 256 / 256 / 256 / 256 < 2 ^ 64 := by omega
  have l7 : x / 256 / 256 / 256 / 256 / 256 / 256 / 256 < 256 := by omega
  refine ⟨pc (x % 256), pc (x / 256 % 256), pc (x / 256 / 256 % 256), pc (x / 256 / 256 / 256 % 256), pc (x / 256 / 256 / 256 / 256 % 256), pc (x / 256 / 256 / 256 / 256 / 256 % 256), pc (x / 256 / 256 / 256 / 256 / 256 / 256 % 256), pc (x / 256 / 256 / 256 / 256 / 256 / 256 / 256 % 256), ?_, ?_, pc8 (hm _), pc8 (hm _), pc8 (hm _), pc8 (hm _), pc8 (hm _), pc8 (hm _), pc8 (hm _), pc8 (hm _)⟩
  · simp only [tB]
    omega
  · rw [step x hx, step _ l1, step _ l2, step _ l3, step _ l4, step _ l5, step _ l6, show x / 256 / 256 / 256 / 256 / 256 / 256 / 256 % 256 = x / 256 / 256 / 256 / 256 / 256 / 256 / 256 by omega]
    omega
theorem swar_end {T t0 t1 t2 t3 t4 t5 t6 t7 : Nat} (hT : T = t0 + 256 * t1 + 65536 * t2 + 16777216 * t3 + 4294967296 * t4 + 1099511627776 * t5 + 281474976710656 * t6 + 72057594037927936 * t7) (h : t0 ≤ 8 ∧ t1 ≤ 8 ∧ t2 ≤ 8 ∧ t3 ≤ 8 ∧ t4 ≤ 8 ∧ t5 ≤ 8 ∧ t6 ≤ 8 ∧ t7 ≤ 8) :
    ∃ Y Z V : Nat, T + T / 256 = Y ∧ Y + Y / 65536 = Z ∧ Z + Z / 4294967296 = V ∧ V < 2 ^ 63 ∧ V % 128 = t0 + t1 + t2 + t3 + t4 + t5 + t6 + t7 ∧ T < 2 ^ 62 ∧ Y < 2 ^ 62 ∧ Z < 2 ^ 62 := by
  obtain ⟨h0, h1, h2, h3, h4, h5, h6, h7⟩ := h
  obtain ⟨R6, hR6⟩ : ∃ R, R = t6 + 256 * t7 := ⟨_, rfl⟩
  obtain ⟨R5, hR5⟩ : ∃ R, R = t5 + 256 * R6 := ⟨_, rfl⟩
  obtain ⟨R4, hR4⟩ : ∃ R, R = t4 + 256 * R5 := ⟨_, rfl⟩
  obtain ⟨R3, hR3⟩ : ∃ R, R = t3 + 256 * R4 := ⟨_, rfl⟩
  obtain ⟨R2, hR2⟩ : ∃ R, R = t2 + 256 * R3 := ⟨_, rfl⟩
  obtain ⟨R1, hR1⟩ : ∃ R, R = t1 + 256 * R2 := ⟨_, rfl⟩
  have hT0 : T = t0 + 256 * R1 := by omega
  clear hT
  have b6 : R6 ≤ 2056 := by omega
  have b5 : R5 ≤ 526344 := by omega
  have b4 : R4 ≤ 134744072 := by omega
  have b3 : R3 ≤ 34494482440 := by omega
  have b2 : R2 ≤ 8830587504648 := by omega
  have b1 : R1 ≤ 2260630401189896 := by omega
  have e1 : T / 256 = R1 := by clear hR1 hR2 hR3 hR4 hR5 hR6; omega
  have e2 : (T + R1) / 65536 = R2 + R3 := by clear hR4 hR5 hR6; omega
  have e3 : (T + R1 + (R2 + R3)) / 4294967296 = R4 + R5 + R6 + t7 := by
    have q1 : T = t0 + 256 * t1 + 65536 * t2 + 16777216 * t3 + 4294967296 * R4 := by clear hR5 hR6 e1 e2; omega
    have q2 : R1 = t1 + 256 * t2 + 65536 * t3 + 16777216 * t4 + 4294967296 * R5 := by clear hR6 e1 e2 q1; omega
    have q3 : R2 = t2 + 256 * t3 + 65536 * t4 + 16777216 * t5 + 4294967296 * R6 := by clear e1 e2 q1 q2; omega
    have q4 : R3 = t3 + 256 * t4 + 65536 * t5 + 16777216 * t6 + 4294967296 * t7 := by clear e1 e2 q1 q2 q3; omega
    have q5 : T + R1 + (R2 + R3) = (t0 + t1 + t2 + t3) + 256 * (t1 + t2 + t3 + t4) + 65536 * (t2 + t3 + t4 + t5) + 16777216 * (t3 + t4 + t5 + t6) + 4294967296 * (R4 + R5 + R6 + t7) := by
      rw [q1, q2, q3, q4]
      clear q1 q2 q3 q4 e1 e2 hR1 hR2 hR3 hR4 hR5 hR6 hT0 b1 b2 b3 b4 b5 b6
      omega
    generalize T + R1 + (R2 + R3) = W at q5 ⊢
    generalize R4 + R5 + R6 + t7 = U at q5 ⊢
    clear q1 q2 q3 q4 e1 e2 hR1 hR2 hR3 hR4 hR5 hR6 hT0 b1 b2 b3 b4 b5 b6
    omega
  refine ⟨T + T / 256, T + T / 256 + (T + T / 256) / 65536, T + T / 256 + (T + T / 256) / 65536 + (T + T / 256 + (T + T / 256) / 65536) / 4294967296, rfl, rfl, rfl, ?_⟩
  rw [e1, e2, e3]
  clear e1 e2 e3
  refine ⟨by omega, ?_, by omega, by omega, by omega⟩
  have : T + R1 + (R2 + R3) + (R4 + R5 + R6 + t7) = (t0 + t1 + t2 + t3 + t4 + t5 + t6 + t7) + 256 * (R1 + R2 + R3 + R4 + R5 + R6 + t7) := by omega
  omega
theorem sub_lN {a b : Nat} (h : b ≤ a) : lN a - lN b = lN (a - b) := lN_sub h
theorem bcL {x : Nat} (hx : x < 2 ^ 64) : f_Long_bitCount (lN x) = some (nI (pc x)) := by
  have c1 : (6148914691236517205 : Int64) = lN (mB 85 8) := by decide +kernel
  have c2 : (3689348814741910323 : Int64) = lN (mB 51 8) := by decide +kernel
  have c3 : (1085102592571150095 : Int64) = lN (mB 15 8) := by decide +kernel
  have k1 : (1 : Int32) = nI 1 := rfl
  have k2 : (2 : Int32) = nI 2 := rfl
  have k4 : (4 : Int32) = nI 4 := rfl
  have k8 : (8 : Int32) = nI 8 := rfl
  have k16 : (16 : Int32) = nI 16 := rfl
  have k32 : (32 : Int32) = nI 32 := rfl
  have b1 : mB 85 8 < 2 ^ 64 := by decide +kernel
  have b2 : mB 51 8 < 2 ^ 63 := by decide +kernel
  have b3 : mB 15 8 < 2 ^ 60 := by decide +kernel
  unfold f_Long_bitCount
  rw [c1, c2, c3]
  have e1 : lN x - (((lN x).toUInt64 >>> ((1 : Int32).toInt64.toUInt64 &&& Int64.toUInt64 63)).toInt64 &&& lN (mB 85 8)) = lN (s1 8 x) := by
    rw [k1, wb_shr hx (by decide), wb_and (Nat.lt_of_le_of_lt (Nat.div_le_self _ _) hx) b1, sub_lN (Nat.le_trans Nat.and_le_left (Nat.div_le_self _ _))]
    rfl
  rw [e1]
  have h1 : s1 8 x < 2 ^ 64 := Nat.lt_of_le_of_lt (Nat.sub_le _ _) hx
  generalize hs1 : s1 8 x = x1 at h1 ⊢
  have e2 : (lN x1 &&& lN (mB 51 8)) + (((lN x1).toUInt64 >>> ((2 : Int32).toInt64.toUInt64 &&& Int64.toUInt64 63)).toInt64 &&& lN (mB 51 8)) = lN (s2 8 x1) := by
    rw [k2, wb_shr h1 (by decide), wb_and h1 (by omega), wb_and (Nat.lt_of_le_of_lt (Nat.div_le_self _ _) h1) (by omega), lN_add]
    rfl
  rw [e2]
  have h2 : s2 8 x1 < 2 ^ 64 := by
    unfold s2
    have g1 : x1 &&& mB 51 8 ≤ mB 51 8 := Nat.and_le_right
    have g2 : x1 / 4 &&& mB 51 8 ≤ mB 51 8 := Nat.and_le_right
    omega
  have hn2 : s2 8 x1 + s2 8 x1 / 16 < 2 ^ 64 := by
    unfold s2
    have g1 : x1 &&& mB 51 8 ≤ mB 51 8 := Nat.and_le_right
    have g2 : x1 / 4 &&& mB 51 8 ≤ mB 51 8 := Nat.and_le_right
    have b4 : mB 51 8 < 3689348814741910324 := by decide +kernel
    omega
  generalize hs2 : s2 8 x1 = x2 at h2 hn2 ⊢
  have e3 : (lN x2 + ((lN x2).toUInt64 >>> ((4 : Int32).toInt64.toUInt64 &&& Int64.toUInt64 63)).toInt64) &&& lN (mB 15 8) = lN (s3 8 x2) := by
    rw [k4, wb_shr h2 (by decide), lN_add, wb_and hn2 (by omega)]
    rfl
  rw [e3]
  have hT : s3 8 x2 = tB 8 x := by rw [← hs2, ← hs1]; exact s123 8 x
  rw [hT]
  obtain ⟨t0, t1, t2, t3, t4, t5, t6, t7, hTB, hpc, hb⟩ := tB_8 hx
  obtain ⟨Y, Z, V, hY, hZ, hV, hV2, hm, hT62, hY62, hZ62⟩ := swar_end hTB hb
  clear hTB hb
  have hT64 : tB 8 x < 2 ^ 64 := Nat.lt_trans hT62 (by decide)
  clear hT62
  generalize tB 8 x = T at hY hT64 ⊢
  have e4 : lN T + ((lN T).toUInt64 >>> ((8 : Int32).toInt64.toUInt64 &&& Int64.toUInt64 63)).toInt64 = lN Y := by
    rw [k8, wb_shr hT64 (by decide), lN_add, ← hY]
  rw [e4]
  have hY64 : Y < 2 ^ 64 := Nat.lt_trans hY62 (by decide)
  have e5 : lN Y + ((lN Y).toUInt64 >>> ((16 : Int32).toInt64.toUInt64 &&& Int64.toUInt64 63)).toInt64 = lN Z := by
    rw [k16, wb_shr hY64 (by decide), lN_add, ← hZ]
  rw [e5]
  have hZ64 : Z < 2 ^ 64 := Nat.lt_trans hZ62 (by decide)
  have e6 : lN Z + ((lN Z).toUInt64 >>> ((32 : Int32).toInt64.toUInt64 &&& Int64.toUInt64 63)).toInt64 = lN V := by
    rw [k32, wb_shr hZ64 (by decide), lN_add, ← hV]
  rw [e6, lN_i]
  have e7 : nI V &&& (127 : Int32) = nI (V % 128) := by
    rw [show nI V = nI (V % 2 ^ 32) from Int32.toBitVec_inj.mp (by apply BitVec.eq_of_toNat_eq; show V % 2 ^ 32 = V % 2 ^ 32 % 2 ^ 32; omega), pk_andN (Nat.mod_lt _ (by decide)) 7 rfl]
    congr 1
    omega
  rw [e7, hm, ← hpc]
/-! ===== the reference's count ===== -/
theorem lg_zero {x : Nat} (hx : x < 2 ^ 64) : lg_cmp (lN x) 0 = 0 ↔ x = 0 := by
  unfold lg_cmp
  constructor
  · intro h
    by_cases h1 : lN x > 0
    · rw [if_pos h1] at h; cases h
    · rw [if_neg h1] at h
      by_cases h2 : lN x = 0
      · have h3 := congrArg (fun z : Int64 => z.toBitVec.toNat) h2
        simpa [wb_tn hx] using h3
      · rw [if_neg h2] at h; cases h
  · rintro rfl
    decide
theorem ones_loop : ∀ (n k acc : Nat) (x : Nat), x < 2 ^ 64 → pc x = k → k < n → L_Model_ones_4 n (nI acc) (lN x) = some (nI (acc + k), 0) := by
  intro n
  induction n with
  | zero => intro k acc x _ _ h; omega
  | succ n ih =>
    intro k acc x hx hk hn
    rw [L_Model_ones_4]
    by_cases h0 : x = 0
    · subst h0
      rw [if_pos ((lg_zero hx).mpr rfl)]
      rw [pc_0] at hk
      subst hk
      rfl
    · rw [if_neg (fun h => h0 ((lg_zero hx).mp h))]
      obtain ⟨p1, p2⟩ := pc_low 64 x hx (by decide) (by omega)
      have e1 : lN x &&& (lN x - (1 : Int64)) = lN (x &&& (x - 1)) := by
        rw [show (1 : Int64) = lN 1 from rfl, sub_lN (by omega), wb_and hx (by omega)]
      rw [e1, show nI acc + (1 : Int32) = nI (acc + 1) from nI_1 acc, ih (k - 1) (acc + 1) _ (by omega) (by omega) (by omega)]
      have : acc + 1 + (k - 1) = acc + k := by omega
      rw [this]
theorem onesL {x : Nat} (hx : x < 2 ^ 64) : f_Model_ones (lN x) = some (nI (pc x)) := by
  have h := ones_loop 300 (pc x) 0 x hx rfl (by have := pc_le x; omega)
  rw [Nat.zero_add] at h
  unfold f_Model_ones
  rw [show (0 : Int32) = nI 0 from rfl, h]
  rfl
theorem onesI {x : Nat} (hx : x < 2 ^ 31) : f_Model_ones (nI x).toInt64 = some (nI (pc x)) := by
  rw [nI_l hx]
  exact onesL (by omega)
