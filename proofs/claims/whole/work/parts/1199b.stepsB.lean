theorem all_e : ∀ k : Fin 9, ((1 : Int32) <<< (nI k.val &&& 31)) - (1 : Int32) = nI (2 ^ k.val - 1) := by decide +kernel
theorem allN {k : Nat} (h : k ≤ 8) : ((1 : Int32) <<< (nI k &&& 31)) - (1 : Int32) = nI (2 ^ k - 1) := all_e ⟨k, by omega⟩
/-- a set of bits among the lowest k, told on both sides -/
theorem num_e {k : Nat} (hk : k ≤ 8) (x : Int32) : (∃ a, a < 2 ^ k ∧ x = nI a ∧ f_Main_isPartOf x (nI (2 ^ k - 1)) = some 1 ∧ f_Main_isWithin x 0 (nI (2 ^ k - 1)) = some 1) ∨ (f_Main_isPartOf x (nI (2 ^ k - 1)) = some 0 ∧ f_Main_isWithin x 0 (nI (2 ^ k - 1)) = some 0) := by
  have hp := pow_256 hk
  have hp1 : 1 ≤ 2 ^ k := Nat.one_le_two_pow
  have hm : (nI (2 ^ k - 1)).toBitVec.toNat = 2 ^ k - 1 := pk_tn (by omega)
  have hand := pk_and x k hm
  have hlt : x.toBitVec.toNat % 2 ^ k < 2 ^ k := Nat.mod_lt _ (by omega)
  unfold f_Main_isPartOf
  by_cases h : x &&& nI (2 ^ k - 1) = x
  · left
    rw [hand] at h
    refine ⟨_, hlt, h.symm, ?_, ?_⟩
    · rw [if_pos ((xor_m1 _ x).mpr (by rw [hand]; exact h))]
    · generalize x.toBitVec.toNat % 2 ^ k = a at h hlt
      subst h
      unfold f_Main_isWithin
      rw [if_neg (nI_pos (by omega)), if_neg (nI_nlt (by omega) (by omega))]
  · right
    rw [if_neg (fun e => h ((xor_m1 _ x).mp e))]
    refine ⟨rfl, ?_⟩
    rcases within_c x 0 (nI (2 ^ k - 1)) with ⟨w, h1, h2⟩ | ⟨w, -⟩
    · exfalso
      obtain ⟨j, j1, j2, rfl⟩ := betw (a := 0) (b := 2 ^ k - 1) h1 h2 (by decide) (by omega)
      apply h
      rw [pk_andN (by omega) k hm, Nat.mod_eq_of_lt (by omega)]
    · exact w
/-- which draws are won by those of a set among the first k -/
def un (S : Nat → Bool) (tk : Nat → Nat) (r : Nat) (D : List Nat) : Nat → Nat → Bool
  | 0, _ => false
  | k + 1, x => un S tk r D k x || (S k && pw (tk k) r (nth D) x)
theorem un_cong {S S' : Nat → Bool} {tk : Nat → Nat} {r : Nat} {D : List Nat} : ∀ {k : Nat}, (∀ i, i < k → S i = S' i) → un S tk r D k = un S' tk r D k
  | 0, _ => rfl
  | k + 1, h => by
    funext x
    show (un S tk r D k x || (S k && pw (tk k) r (nth D) x)) = (un S' tk r D k x || (S' k && pw (tk k) r (nth D) x))
    rw [un_cong (fun i hi => h i (by omega)), h k (by omega)]
def inS (T : Int32) : Nat → Bool := fun i => !decide (((T >>> (nI i &&& 31)) &&& (1 : Int32)) = 0)
theorem joinHeld_e {c r : Nat} {tk : Nat → Nat} {D : List Nat} {whh whl oh ol : Nat → Int64} (T : Int32) (hc : c ≤ 6) (hD : D.length ≤ 70) (hw : ∀ i, i < c → whl i = tl tk r D i ∧ whh i = th tk r D i) :
    f_Wheel_joinHeld (nI c) whh whl oh ol T = some (vp_updL oh 0 (lN (wh (un (inS T) tk r D c) D.length)), vp_updL ol 0 (lN (wl (un (inS T) tk r D c) D.length))) := by
  unfold f_Wheel_joinHeld
  rw [show (0 : Int32) = nI 0 from rfl, clear_e (by decide) (by decide), bk2_s]
  have key := loopC (fun n i (s : (Nat → Int64) × (Nat → Int64)) => L_Wheel_joinHeld_10 T (nI c) whh whl n i s.1 s.2) c (fun k => (vp_updL oh 0 (lN (wh (un (inS T) tk r D k) D.length)), vp_updL ol 0 (lN (wl (un (inS T) tk r D k) D.length)))) ?_ c 0 300 (by omega) (by omega)
  · dsimp only at key
    rw [show un (inS T) tk r D 0 = fun _ => false from rfl, (w_none D.length).1, (w_none D.length).2] at key
    rw [show (0 : Int64) = lN 0 from rfl, key, show 300 - c = (299 - c) + 1 by omega, L_Wheel_joinHeld_10, if_pos (nI_le (Nat.le_refl _) (by omega))]
    rfl
  · intro n k hk
    dsimp only
    rw [L_Wheel_joinHeld_10, if_neg (nI_ge hk (by omega)), nI_1]
    by_cases hS : ((T >>> (nI k &&& 31)) &&& (1 : Int32)) = 0
    · rw [if_pos hS]
      have e : un (inS T) tk r D (k + 1) = un (inS T) tk r D k := by
        funext x
        show (un (inS T) tk r D k x || (inS T k && pw (tk k) r (nth D) x)) = _
        rw [show inS T k = false by unfold inS; rw [decide_eq_true hS]; rfl, Bool.false_and, Bool.or_false]
      rw [e]
    · rw [if_neg hS]
      have e : un (inS T) tk r D (k + 1) = fun x => un (inS T) tk r D k x || pw (tk k) r (nth D) x := by
        funext x
        show (un (inS T) tk r D k x || (inS T k && pw (tk k) r (nth D) x)) = _
        rw [show inS T k = true by unfold inS; rw [decide_eq_false hS]; rfl, Bool.true_and]
      rw [show (0 : Int32) = nI 0 from rfl, join_e (p := un (inS T) tk r D k) (q := pw (tk k) r (nth D)) (by decide) (by decide) (show k < 6 by omega) (by decide) (by decide) hD (if_pos rfl) (if_pos rfl) (hw k hk).1 (hw k hk).2, bk2_s, updL_same, updL_same, e]
theorem countWon_e {c r : Nat} {tk : Nat → Nat} {D : List Nat} {whh whl oh ol : Nat → Int64} (T : Int32) (hc : c ≤ 6) (hD : D.length ≤ 70) (hw : ∀ i, i < c → whl i = tl tk r D i ∧ whh i = th tk r D i) :
    f_Wheel_countWon (nI c) whh whl oh ol T = some (nI (fb_ct (un (inS T) tk r D c) D.length), vp_updL oh 0 (lN (wh (un (inS T) tk r D c) D.length)), vp_updL ol 0 (lN (wl (un (inS T) tk r D c) D.length))) := by
  unfold f_Wheel_countWon
  rw [joinHeld_e T hc hD hw, bk2_s, show (0 : Int32) = nI 0 from rfl, count_e (p := un (inS T) tk r D c) (by decide) (by decide) hD (if_pos rfl) (if_pos rfl)]
  rfl
theorem inS_all : ∀ c : Fin 7, ∀ i : Fin 6, i.val < c.val → inS (nI (2 ^ c.val - 1)) i.val = true := by decide +kernel
/-- the reference: all but one -/
def butS (b : Int32) : Nat → Bool := fun i => !decide (nI i = b)
theorem flagsBut_e {c r : Nat} {tk : Nat → Nat} {D : List Nat} {cells f : Nat → Int32} (b : Int32) (hc : c ≤ 6) (hr : r ≤ 8) (hD : D.length ≤ 70) (htk : ∀ i, i < c → f i = nI (tk i) ∧ tk i < 256) (hcl : ∀ k, k < D.length → cells k = nI (nth D k)) :
    f_Model_flagsBut (nI D.length) (nI r) (nI c) cells f b = some (lN (wh (un (butS b) tk r D c) D.length), lN (wl (un (butS b) tk r D c) D.length)) := by
  unfold f_Model_flagsBut
  have key := loopC (fun n i (s : Int64 × Int64) => L_Model_flagsBut_12 b (nI D.length) (nI r) (nI c) cells f n i s.1 s.2) c (fun k => (lN (wh (un (butS b) tk r D k) D.length), lN (wl (un (butS b) tk r D k) D.length))) ?_ c 0 300 (by omega) (by omega)
  · dsimp only at key
    rw [show un (butS b) tk r D 0 = fun _ => false from rfl, (w_none D.length).1, (w_none D.length).2] at key
    rw [show (0 : Int32) = nI 0 from rfl, show (0 : Int64) = lN 0 from rfl, key, show 300 - c = (299 - c) + 1 by omega, L_Model_flagsBut_12, if_pos (nI_le (Nat.le_refl _) (by omega))]
    rfl
  · intro n k hk
    dsimp only
    rw [L_Model_flagsBut_12, if_neg (nI_ge hk (by omega)), nI_1]
    by_cases hS : nI k = b
    · rw [if_pos hS]
      have e : un (butS b) tk r D (k + 1) = un (butS b) tk r D k := by
        funext x
        show (un (butS b) tk r D k x || (butS b k && pw (tk k) r (nth D) x)) = _
        rw [show butS b k = false by unfold butS; rw [decide_eq_true hS]; rfl, Bool.false_and, Bool.or_false]
      rw [e]
    · rw [if_neg hS]
      have e : un (butS b) tk r D (k + 1) = fun x => un (butS b) tk r D k x || pw (tk k) r (nth D) x := by
        funext x
        show (un (butS b) tk r D k x || (butS b k && pw (tk k) r (nth D) x)) = _
        rw [show butS b k = true by unfold butS; rw [decide_eq_false hS]; rfl, Bool.true_and]
      rw [gdN (by omega) (by decide), nI_clamp (by omega), (htk k hk).1, lowOf_e (htk k hk).2 hr hD hcl, bk1_s, gdN (by omega) (by decide), highOf_e (htk k hk).2 hr hD hcl, bk1_s, wl_or (un (butS b) tk r D k), wh_or (un (butS b) tk r D k) _ hD, e]
theorem flagged_e (p : Nat → Bool) {dc : Nat} (h : dc ≤ 70) : f_Model_flagged (lN (wh p dc)) (lN (wl p dc)) = some (nI (fb_ct p dc)) := by
  unfold f_Model_flagged
  rw [onesL (wl_lt _ _), bk1_s, onesL (wh_lt _ h), bk1_s, nI_add, w_count p h]
theorem bitL {x k : Nat} (hx : x < 2 ^ 64) (hk : k < 64) : (((lN x).toUInt64 >>> ((nI k).toInt64.toUInt64 &&& Int64.toUInt64 63)).toInt64 &&& (1 : Int64)) = lN (if x.testBit k then 1 else 0) := by
  rw [wb_bit hx hk]
  congr 1
  rw [Nat.testBit_eq_decide_div_mod_eq]
  have := Nat.mod_two_eq_zero_or_one (x / 2 ^ k)
  rcases this with h | h <;> simp [h]
theorem sar_and1 {x k : Nat} (hx : x < 2 ^ 64) (hk : k < 64) : ((lN x >>> ((nI k).toInt64 &&& 63)) &&& (1 : Int64)) = lN (if x.testBit k then 1 else 0) := by
  rw [wb_c k hk]
  apply wb_inj
  rw [Int64.toBitVec_and, Int64.toBitVec_shiftRight, wb_tb, wb_tb, wb_tb, wb_sm k hk]
  apply BitVec.eq_of_getLsbD_eq
  intro i hi
  rw [BitVec.getLsbD_and]
  have e1 : (1 : Int64).toBitVec = 1#64 := rfl
  rw [e1]
  sorry
