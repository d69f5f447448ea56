def gsee (g : Nat → Nat → Nat) (j k m : Nat) : Nat → Nat → Nat := fun x y => if x = 0 ∧ y = 6 then g 0 6 + 1 else if x = 3 ∧ y = g 0 6 then j else if x = 4 ∧ y = g 0 6 then k else if x = 5 ∧ y = g 0 6 then m else g x y
theorem all_e : ∀ k : Fin 9, ((1 : Int32) <<< (nI k.val &&& 31)) - (1 : Int32) = nI (2 ^ k.val - 1) := by decide +kernel
theorem allN {k : Nat} (h : k ≤ 8) : ((1 : Int32) <<< (nI k &&& 31)) - (1 : Int32) = nI (2 ^ k - 1) := all_e ⟨k, by omega⟩
/-- a set of bits among the lowest k, told on both sides -/
theorem num_e {k : Nat} (hk : k ≤ 8) (x : Int32) : (∃ a, a < 2 ^ k ∧ x = nI a ∧ f_Main_isPartOf x (nI (2 ^ k - 1)) = some 1 ∧ f_Main_isWithin x 0 (nI (2 ^ k - 1)) = some 1) ∨ (f_Main_isPartOf x (nI (2 ^ k - 1)) = some 0 ∧ f_Main_isWithin x 0 (nI (2 ^ k - 1)) = some 0) := by
  have hp := pow_256 hk
  have hp1 : 1 ≤ 2 ^ k := Nat.one_le_two_pow
  have hm : (nI (2 ^ k - 1)).toBitVec.toNat = 2 ^ k - 1 := pk_tn (by omega)
  have hand := pk_and x k hm
  have hlt : x.toBitVec.toNat % 2 ^ k < 2 ^ k := Nat.mod_lt _ (by omega)
  unfold f_Main_isPartOf
  by_cases h : x &&& nI (2 ^ k - 1) = x
  · left
    rw [hand] at h
    refine ⟨_, hlt, h.symm, ?_, ?_⟩
    · rw [if_pos ((xor_m1 _ x).mpr (by rw [hand]; exact h))]
    · generalize x.toBitVec.toNat % 2 ^ k = a at h hlt
      subst h
      unfold f_Main_isWithin
      rw [if_neg (nI_pos (by omega)), if_neg (nI_nlt (by omega) (by omega))]
  · right
    rw [if_neg (fun e => h ((xor_m1 _ x).mp e))]
    refine ⟨rfl, ?_⟩
    rcases within_c x 0 (nI (2 ^ k - 1)) with ⟨w, h1, h2⟩ | ⟨w, -⟩
    · exfalso
      obtain ⟨j, j1, j2, rfl⟩ := betw (a := 0) (b := 2 ^ k - 1) h1 h2 (by decide) (by omega)
      apply h
      rw [pk_andN (by omega) k hm, Nat.mod_eq_of_lt (by omega)]
    · exact w
/-- which draws are won by those of a set among the first k -/
def un (S : Nat → Bool) (tk : Nat → Nat) (r : Nat) (D : List Nat) : Nat → Nat → Bool
  | 0, _ => false
  | k + 1, x => un S tk r D k x || (S k && pw (tk k) r (nth D) x)
theorem un_cong {S S' : Nat → Bool} {tk : Nat → Nat} {r : Nat} {D : List Nat} : ∀ {k : Nat}, (∀ i, i < k → S i = S' i) → un S tk r D k = un S' tk r D k
  | 0, _ => rfl
  | k + 1, h => by
    funext x
    show (un S tk r D k x || (S k && pw (tk k) r (nth D) x)) = (un S' tk r D k x || (S' k && pw (tk k) r (nth D) x))
    rw [un_cong (fun i hi => h i (by omega)), h k (by omega)]
def inS (T : Int32) : Nat → Bool := fun i => !decide (((T >>> (nI i &&& 31)) &&& (1 : Int32)) = 0)
theorem joinHeld_e {c r : Nat} {tk : Nat → Nat} {D : List Nat} {whh whl oh ol : Nat → Int64} (T : Int32) (hc : c ≤ 6) (hD : D.length ≤ 70) (hw : ∀ i, i < c → whl i = tl tk r D i ∧ whh i = th tk r D i) :
    f_Wheel_joinHeld (nI c) whh whl oh ol T = some (vp_updL oh 0 (lN (wh (un (inS T) tk r D c) D.length)), vp_updL ol 0 (lN (wl (un (inS T) tk r D c) D.length))) := by
  unfold f_Wheel_joinHeld
  rw [show (0 : Int32) = nI 0 from rfl, clear_e (by decide) (by decide), bk2_s]
  have key := loopC (fun n i (s : (Nat → Int64) × (Nat → Int64)) => L_Wheel_joinHeld_10 T (nI c) whh whl n i s.1 s.2) c (fun k => (vp_updL oh 0 (lN (wh (un (inS T) tk r D k) D.length)), vp_updL ol 0 (lN (wl (un (inS T) tk r D k) D.length)))) ?_ c 0 300 (by omega) (by omega)
  · dsimp only at key
    rw [show un (inS T) tk r D 0 = fun _ => false from rfl, (w_none D.length).1, (w_none D.length).2] at key
    rw [show (0 : Int64) = lN 0 from rfl, key, show 300 - c = (299 - c) + 1 by omega, L_Wheel_joinHeld_10, if_pos (nI_le (Nat.le_refl _) (by omega))]
    rfl
  · intro n k hk
    dsimp only
    rw [L_Wheel_joinHeld_10, if_neg (nI_ge hk (by omega)), nI_1]
    by_cases hS : ((T >>> (nI k &&& 31)) &&& (1 : Int32)) = 0
    · rw [if_pos hS]
      have e : un (inS T) tk r D (k + 1) = un (inS T) tk r D k := by
        funext x
        show (un (inS T) tk r D k x || (inS T k && pw (tk k) r (nth D) x)) = _
        rw [show inS T k = false by unfold inS; rw [decide_eq_true hS]; rfl, Bool.false_and, Bool.or_false]
      rw [e]
    · rw [if_neg hS]
      have e : un (inS T) tk r D (k + 1) = fun x => un (inS T) tk r D k x || pw (tk k) r (nth D) x := by
        funext x
        show (un (inS T) tk r D k x || (inS T k && pw (tk k) r (nth D) x)) = _
        rw [show inS T k = true by unfold inS; rw [decide_eq_false hS]; rfl, Bool.true_and]
      rw [show (0 : Int32) = nI 0 from rfl, join_e (p := un (inS T) tk r D k) (q := pw (tk k) r (nth D)) (by decide) (by decide) (show k < 6 by omega) (by decide) (by decide) hD (if_pos rfl) (if_pos rfl) (hw k hk).1 (hw k hk).2, bk2_s, updL_same, updL_same, e]
theorem countWon_e {c r : Nat} {tk : Nat → Nat} {D : List Nat} {whh whl oh ol : Nat → Int64} (T : Int32) (hc : c ≤ 6) (hD : D.length ≤ 70) (hw : ∀ i, i < c → whl i = tl tk r D i ∧ whh i = th tk r D i) :
    f_Wheel_countWon (nI c) whh whl oh ol T = some (nI (fb_ct (un (inS T) tk r D c) D.length), vp_updL oh 0 (lN (wh (un (inS T) tk r D c) D.length)), vp_updL ol 0 (lN (wl (un (inS T) tk r D c) D.length))) := by
  unfold f_Wheel_countWon
  rw [joinHeld_e T hc hD hw, bk2_s, show (0 : Int32) = nI 0 from rfl, count_e (p := un (inS T) tk r D c) (by decide) (by decide) hD (if_pos rfl) (if_pos rfl)]
  rfl
theorem inS_all : ∀ c : Fin 7, ∀ i : Fin 6, i.val < c.val → inS (nI (2 ^ c.val - 1)) i.val = true := by decide +kernel
/-- the reference: all but one -/
def butS (b : Int32) : Nat → Bool := fun i => !decide (nI i = b)
theorem flagsBut_e {c r : Nat} {tk : Nat → Nat} {D : List Nat} {cells f : Nat → Int32} (b : Int32) (hc : c ≤ 6) (hr : r ≤ 8) (hD : D.length ≤ 70) (htk : ∀ i, i < c → f i = nI (tk i) ∧ tk i < 256) (hcl : ∀ k, k < D.length → cells k = nI (nth D k)) :
    f_Model_flagsBut (nI D.length) (nI r) (nI c) cells f b = some (lN (wh (un (butS b) tk r D c) D.length), lN (wl (un (butS b) tk r D c) D.length)) := by
  unfold f_Model_flagsBut
  have key := loopC (fun n i (s : Int64 × Int64) => L_Model_flagsBut_12 b (nI D.length) (nI r) (nI c) cells f n i s.1 s.2) c (fun k => (lN (wh (un (butS b) tk r D k) D.length), lN (wl (un (butS b) tk r D k) D.length))) ?_ c 0 300 (by omega) (by omega)
  · dsimp only at key
    rw [show un (butS b) tk r D 0 = fun _ => false from rfl, (w_none D.length).1, (w_none D.length).2] at key
    rw [show (0 : Int32) = nI 0 from rfl, show (0 : Int64) = lN 0 from rfl, key, show 300 - c = (299 - c) + 1 by omega, L_Model_flagsBut_12, if_pos (nI_le (Nat.le_refl _) (by omega))]
    rfl
  · intro n k hk
    dsimp only
    rw [L_Model_flagsBut_12, if_neg (nI_ge hk (by omega)), nI_1]
    by_cases hS : nI k = b
    · rw [if_pos hS]
      have e : un (butS b) tk r D (k + 1) = un (butS b) tk r D k := by
        funext x
        show (un (butS b) tk r D k x || (butS b k && pw (tk k) r (nth D) x)) = _
        rw [show butS b k = false by unfold butS; rw [decide_eq_true hS]; rfl, Bool.false_and, Bool.or_false]
      rw [e]
    · rw [if_neg hS]
      have e : un (butS b) tk r D (k + 1) = fun x => un (butS b) tk r D k x || pw (tk k) r (nth D) x := by
        funext x
        show (un (butS b) tk r D k x || (butS b k && pw (tk k) r (nth D) x)) = _
        rw [show butS b k = true by unfold butS; rw [decide_eq_false hS]; rfl, Bool.true_and]
      rw [gdN (by omega) (by decide), nI_clamp (by omega), (htk k hk).1, lowOf_e (htk k hk).2 hr hD hcl, bk1_s, gdN (by omega) (by decide), highOf_e (htk k hk).2 hr hD hcl, bk1_s, wl_or (un (butS b) tk r D k), wh_or (un (butS b) tk r D k) _ hD, e]
theorem flagged_e (p : Nat → Bool) {dc : Nat} (h : dc ≤ 70) : f_Model_flagged (lN (wh p dc)) (lN (wl p dc)) = some (nI (fb_ct p dc)) := by
  unfold f_Model_flagged
  rw [onesL (wl_lt _ _), bk1_s, onesL (wh_lt _ h), bk1_s, nI_add, w_count p h]
theorem bitL {x k : Nat} (hx : x < 2 ^ 64) (hk : k < 64) : (((lN x).toUInt64 >>> ((nI k).toInt64.toUInt64 &&& Int64.toUInt64 63)).toInt64 &&& (1 : Int64)) = lN (if x.testBit k then 1 else 0) := by
  rw [wb_bit hx hk]
  congr 1
  rw [Nat.testBit_eq_decide_div_mod_eq]
  have := Nat.mod_two_eq_zero_or_one (x / 2 ^ k)
  rcases this with h | h <;> simp [h]
theorem sar_and1 {x k : Nat} (hx : x < 2 ^ 64) (hk : k < 64) : ((lN x >>> ((nI k).toInt64 &&& 63)) &&& (1 : Int64)) = lN (if x.testBit k then 1 else 0) := by
  rw [wb_c k hk]
  apply wb_inj
  rw [Int64.toBitVec_and, Int64.toBitVec_shiftRight, wb_tb, wb_tb, wb_tb, wb_sm k hk]
  apply BitVec.eq_of_getLsbD_eq
  intro i hi
  rw [BitVec.getLsbD_and]
  have e1 : (1 : Int64).toBitVec = 1#64 := rfl
  rw [e1]
  show (((BitVec.ofNat 64 x).sshiftRight (BitVec.ofNat 64 k).toNat).getLsbD i && (1#64).getLsbD i) = _
  rw [BitVec.getLsbD_sshiftRight]
  have ek : (BitVec.ofNat 64 k).toNat = k := by rw [BitVec.toNat_ofNat]; omega
  rw [ek]
  cases i with
  | zero =>
    rw [if_pos (by omega)]
    have e2 : (BitVec.ofNat 64 x).getLsbD (k + 0) = x.testBit k := by rw [BitVec.getLsbD_ofNat]; simp [hk]
    rw [e2]
    cases x.testBit k <;> decide
  | succ i =>
    have e3 : (1#64).getLsbD (i + 1) = false := by
      rw [BitVec.getLsbD_one]
      simp
    rw [e3, Bool.and_false]
    cases x.testBit k
    · simp
    · simp only [if_true]
      exact e3.symm
theorem has_e2 {p : Nat → Bool} {N i k dc : Nat} {h g : Nat → Int64} (hi : i < N) (hN : N < 2 ^ 31) (hk : k < dc) (hdc : dc ≤ 70) (hg : g i = lN (wl p dc)) (hh : h i = lN (wh p dc)) : f_DrawSets_has N h g (nI i) (nI k) = some (if p k then 1 else 0) := by
  unfold f_DrawSets_has
  rcases Nat.lt_or_ge k 64 with q | q
  · rw [if_neg (show ¬ (64 : Int32) ≤ nI k from nI_ge (a := k) (b := 64) q (by decide)), lowAt_e hi hN, bk1_s, hg, bitL (wl_lt _ _) q]
    unfold wl
    rw [mk_tb, decide_eq_true (show k < min dc 64 by omega), Bool.true_and]
    cases p k
    · rfl
    · rfl
  · rw [if_pos (show (64 : Int32) ≤ nI k from nI_le (a := 64) (b := k) q (by omega)), highAt_e hi hN, bk1_s, hh, show nI k - (64 : Int32) = nI (k - 64) from pk_sub (b := 64) q, bitL (wh_lt _ hdc) (by omega)]
    unfold wh
    rw [mk_tb, decide_eq_true (show k - 64 < dc - 64 by omega), Bool.true_and, show 64 + (k - 64) = k by omega]
    cases p k
    · rfl
    · rfl
/-- the first place without a property -/
def miss (p : Nat → Bool) : Nat → Nat → Option Nat
  | 0, _ => none
  | j + 1, k => if p k then miss p j (k + 1) else some k
theorem first_e {p : Nat → Bool} {D : List Nat} {cells : Nat → Int32} {h g : Nat → Int64} (hD : D.length ≤ 70) (hg : g 0 = lN (wl p D.length)) (hh : h 0 = lN (wh p D.length)) (hcl : ∀ k, k < D.length → cells k = nI (nth D k)) :
    ∀ (j k n : Nat), k + j = D.length → j < n → L_Wheel_firstMissed_10 h g (nI D.length) cells n (nI k) = some (match miss p j k with | none => .ok (nI D.length) | some i => .error (nI (nth D i), h, g)) := by
  intro j
  induction j with
  | zero =>
    intro k n hk hn
    obtain ⟨n, rfl⟩ : ∃ n', n = n' + 1 := ⟨n - 1, by omega⟩
    have : k = D.length := by omega
    subst this
    rw [L_Wheel_firstMissed_10, show f_Sets_size (nI D.length) = some (nI D.length) from rfl, bk1_s, if_pos (nI_le (Nat.le_refl _) (by omega))]
    rfl
  | succ j ih =>
    intro k n hk hn
    obtain ⟨n, rfl⟩ : ∃ n', n = n' + 1 := ⟨n - 1, by omega⟩
    rw [L_Wheel_firstMissed_10, show f_Sets_size (nI D.length) = some (nI D.length) from rfl, bk1_s, if_neg (nI_ge (by omega) (by omega)), show (0 : Int32) = nI 0 from rfl, has_e2 (p := p) (i := 0) (by decide) (by decide) (show k < D.length by omega) hD hg hh, bk1_s]
    by_cases hp : p k = true
    · rw [if_pos hp, if_neg (by decide), nI_1, ih (k + 1) n (by omega) (by omega)]
      rw [show miss p (j + 1) k = miss p j (k + 1) from if_pos hp]
    · rw [if_neg hp, if_pos (show (0 : Int32) = nI 0 from rfl), Sets_at_e (by omega), bk1_s, hcl k (by omega), show miss p (j + 1) k = some k from if_neg hp]
theorem least_e {p : Nat → Bool} {D : List Nat} {cells : Nat → Int32} (hD : D.length ≤ 70) (hcl : ∀ k, k < D.length → cells k = nI (nth D k)) :
    ∀ (j k n : Nat), k + j = D.length → j < n → L_Model_leastMissed_2 (nI D.length) (lN (wh p D.length)) (lN (wl p D.length)) cells n (nI k) = some (match miss p j k with | none => .ok (nI D.length) | some i => .error (nI (nth D i))) := by
  intro j
  induction j with
  | zero =>
    intro k n hk hn
    obtain ⟨n, rfl⟩ : ∃ n', n = n' + 1 := ⟨n - 1, by omega⟩
    have : k = D.length := by omega
    subst this
    rw [L_Model_leastMissed_2, if_pos (nI_le (Nat.le_refl _) (by omega))]
    rfl
  | succ j ih =>
    intro k n hk hn
    obtain ⟨n, rfl⟩ : ∃ n', n = n' + 1 := ⟨n - 1, by omega⟩
    rw [L_Model_leastMissed_2, if_neg (nI_ge (by omega) (by omega))]
    have hb : ∀ b : Bool, lg_cmp (lN (if b = true then 1 else 0)) 0 = (0 : Int32) ↔ b = false := by decide
    rcases Nat.lt_or_ge k 64 with q | q
    · rw [if_neg (show ¬ (64 : Int32) ≤ nI k from nI_ge (a := k) (b := 64) q (by decide)), sar_and1 (wl_lt _ _) q]
      rw [show (wl p D.length).testBit k = p k by unfold wl; rw [mk_tb, decide_eq_true (show k < min D.length 64 by omega), Bool.true_and]]
      by_cases hp : p k = true
      · rw [if_neg (fun h => by rw [(hb (p k)).mp h] at hp; cases hp), nI_1, ih (k + 1) n (by omega) (by omega), show miss p (j + 1) k = miss p j (k + 1) from if_pos hp]
      · rw [if_pos ((hb (p k)).mpr (by simpa using hp)), gdN (by omega) (by decide), nI_clamp (by omega), hcl k (by omega), show miss p (j + 1) k = some k from if_neg hp]
    · rw [if_pos (show (64 : Int32) ≤ nI k from nI_le (a := 64) (b := k) q (by omega)), show nI k - (64 : Int32) = nI (k - 64) from pk_sub (b := 64) q, sar_and1 (wh_lt _ hD) (by omega)]
      rw [show (wh p D.length).testBit (k - 64) = p k by unfold wh; rw [mk_tb, decide_eq_true (show k - 64 < D.length - 64 by omega), Bool.true_and, show 64 + (k - 64) = k by omega]]
      by_cases hp : p k = true
      · rw [if_neg (fun h => by rw [(hb (p k)).mp h] at hp; cases hp), nI_1, ih (k + 1) n (by omega) (by omega), show miss p (j + 1) k = miss p j (k + 1) from if_pos hp]
      · rw [if_pos ((hb (p k)).mpr (by simpa using hp)), gdN (by omega) (by decide), nI_clamp (by omega), hcl k (by omega), show miss p (j + 1) k = some k from if_neg hp]

theorem un_all {c : Nat} (hc : c ≤ 6) (tk : Nat → Nat) (r : Nat) (D : List Nat) : un (inS (nI (2 ^ c - 1))) tk r D c = un (butS (-6)) tk r D c := by
  refine un_cong fun i hi => ?_
  rw [inS_all ⟨c, by omega⟩ ⟨i, by omega⟩ hi]
  unfold butS
  rw [decide_eq_false (show ¬ nI i = (-6 : Int32) from fun h => ?_)]
  · rfl
  · have h2 := congrArg Int32.toInt h
    rw [nI_toInt (by omega)] at h2
    have e : (-6 : Int32).toInt = -6 := rfl
    omega

set_option maxHeartbeats 4000000 in
theorem st_won : St_won Inv := by
  intro v_x_pad_size v_x_pad_signs_cells v_x_play_n v_x_play_t v_x_play_d v_x_play_r v_x_play_fond v_x_play_ticketCount v_x_play_sightCount v_x_play_tickets_cells v_x_play_prizes_cells v_x_play_sightTickets_cells v_x_play_sightNumbers_cells v_x_play_sightKinds_cells v_x_wheel_held v_x_wheel_draws_size v_x_wheel_draws_members_cells v_x_wheel_possible_size v_x_wheel_possible_members_cells v_x_wheel_wonByPossible_low v_x_wheel_wonByPossible_high v_x_wheel_wonByHeld_low v_x_wheel_wonByHeld_high v_x_wheel_work_low v_x_wheel_work_high v_x_wheel_search_allDraws v_x_wheel_search_single v_x_wheel_search_reached_low v_x_wheel_search_reached_high v_x_wheel_search_chosen_cells v_x_wheel_search_mostOne_size v_x_wheel_search_mostOne_won v_x_wheel_search_mostOne_found v_x_wheel_search_mostOne_sought v_x_wheel_search_mostOne_tickets_cells v_x_wheel_search_mostTwo_size v_x_wheel_search_mostTwo_won v_x_wheel_search_mostTwo_found v_x_wheel_search_mostTwo_sought v_x_wheel_search_mostTwo_tickets_cells v_x_wheel_search_mostThree_size v_x_wheel_search_mostThree_won v_x_wheel_search_mostThree_found v_x_wheel_search_mostThree_sought v_x_wheel_search_mostThree_tickets_cells v_x_wheel_search_fewest_size v_x_wheel_search_fewest_won v_x_wheel_search_fewest_found v_x_wheel_search_fewest_sought v_x_wheel_search_fewest_tickets_cells v_x_imageZero_kept v_x_imageZero_play_n v_x_imageZero_play_t v_x_imageZero_play_d v_x_imageZero_play_r v_x_imageZero_play_fond v_x_imageZero_play_ticketCount v_x_imageZero_play_sightCount v_x_imageZero_play_tickets_cells v_x_imageZero_play_prizes_cells v_x_imageZero_play_sightTickets_cells v_x_imageZero_play_sightNumbers_cells v_x_imageZero_play_sightKinds_cells v_x_imageOne_kept v_x_imageOne_play_n v_x_imageOne_play_t v_x_imageOne_play_d v_x_imageOne_play_r v_x_imageOne_play_fond v_x_imageOne_play_ticketCount v_x_imageOne_play_sightCount v_x_imageOne_play_tickets_cells v_x_imageOne_play_prizes_cells v_x_imageOne_play_sightTickets_cells v_x_imageOne_play_sightNumbers_cells v_x_imageOne_play_sightKinds_cells v_m_numbers v_m_onTicket v_m_drawn v_m_due v_m_ticketMany v_m_fond v_m_sights v_m_drawMany v_m_setMany v_m_padMany v_m_low v_m_high v_m_couldMany v_m_keptAt v_m_isWriting v_m_tickets v_m_prizes v_m_sightTicket v_m_sightRight v_m_sightHow v_m_draws v_m_sets v_m_winsLow v_m_winsHigh v_m_pad v_m_could v_m_row v_m_best v_m_kept v_m_isKept p0 hI
  have hI0 := hI
  obtain ⟨g, g0, g1, pad, pn, k0, k1, hG, hG0, hG1, hk0, hk1, hpn, hpad, xpn, xpad, xpl, xk0, xi0, xk1, xi1, xw, xc1, xc2, xc3, xcf, mpl, md, mpn, mpad, mk0, mk1, mi0, mi1⟩ := hI
  have xpl0 := xpl
  have mpl0 := mpl
  have xw0 := xw
  have md0 := md
  obtain ⟨a1, a2, a3, a4, a5, a6, a7, a8, a9, a10⟩ := xpl
  obtain ⟨b1, b2, b3, b4, b5, b6, b7, b8, b9, b10⟩ := mpl
  obtain ⟨w1, w2, w3, w4, w5, w6, w7, w8, w9, w10, w11⟩ := xw
  obtain ⟨d1, d2, d3, d4, d5⟩ := md
  have hGV := hG
  obtain ⟨e1, e2, e3, e4, e5, e6, e7, e8, e9, e10, e11, e12, e13, e14, e15, e16⟩ := hGV
  subst xpn
  subst mpn
  subst xk0
  subst xk1
  subst a1
  subst a2
  subst a3
  subst a4
  subst a5
  subst a6
  subst a7
  subst b1
  subst b2
  subst b3
  subst b4
  subst b5
  subst b6
  subst b7
  subst w1
  subst w2
  subst w4
  subst w8
  subst w9
  subst d1
  subst d2
  have hD : (Dr g).length ≤ 70 := sets_70 (by omega) (pow_256 e2)
  have htk : ∀ i, i < g 0 5 → v_m_tickets i = nI (g 1 i) ∧ g 1 i < 256 := fun i hi => ⟨b8 i hi, e14 i hi⟩
  unfold f_Main_won f_Model_won
  rw [show (0 : Int64) = (0 : Int32).toInt64 from rfl, show (2 : Int64) = (2 : Int32).toInt64 from rfl, in_e]
  have hall : f_Wheel_allTickets (nI (g 0 5)) = some (nI (2 ^ g 0 5 - 1)) := congrArg some (allN (by omega))
  rcases within_c p0 0 2 with ⟨w, h1, h2⟩ | ⟨w, h1⟩
  · rw [w, bk1_s, if_neg (show ¬ (1 : Int32) = 0 by decide), flagsBut_e (-6) e12 (by omega) hD htk d3, bk2_s]
    by_cases c0 : p0 = 0
    · rw [if_pos c0, if_pos c0, hall, bk1_s, countWon_e _ e12 hD w7, bk3_s, flagged_e _ hD, bk1_s, un_all e12]
      exact ⟨_, _, _, _, _, rfl, rfl, hI0⟩
    rw [if_neg c0, if_neg c0]
    by_cases c1 : p0 = 1
    · rw [if_pos c1, if_pos c1, show f_Sets_size (nI (Dr g).length) = some (nI (Dr g).length) from rfl, bk1_s]
      exact ⟨_, _, _, _, _, rfl, rfl, hI0⟩
    rw [if_neg c1, if_neg c1]
    have c2 : p0 = 2 := by
      obtain ⟨j, j1, j2, rfl⟩ := betw (a := 0) (b := 2) h1 h2 (by decide) (by decide)
      have : j = 2 := by
        rcases Nat.lt_or_ge j 2 with q | q
        · rcases Nat.lt_or_ge j 1 with q2 | q2
          · have : j = 0 := by omega
            subst this; exact absurd rfl c0
          · have : j = 1 := by omega
            subst this; exact absurd rfl c1
        · omega
      subst this; rfl
    rw [if_pos c2]
    unfold f_Wheel_firstMissed f_Model_leastMissed
    rw [hall, bk1_s, joinHeld_e _ e12 hD w7, bk2_s, un_all e12, show (0 : Int32) = nI 0 from rfl, first_e (p := un (butS (-6)) (g 1) (g 0 3) (Dr g) (g 0 5)) hD (if_pos rfl) (if_pos rfl) w3 (Dr g).length 0 300 (by omega) (by omega), least_e (p := un (butS (-6)) (g 1) (g 0 3) (Dr g) (g 0 5)) hD d3 (Dr g).length 0 300 (by omega) (by omega)]
    cases miss (un (butS (-6)) (g 1) (g 0 3) (Dr g) (g 0 5)) (Dr g).length 0 with
    | none => exact ⟨_, _, _, _, _, rfl, rfl, hI0⟩
    | some i => exact ⟨_, _, _, _, _, rfl, rfl, hI0⟩
  · rw [w, bk1_s, if_pos rfl]
    have c0 : ¬ p0 = 0 := by rintro rfl; revert h1; decide
    have c1 : ¬ p0 = 1 := by rintro rfl; revert h1; decide
    have c2 : ¬ p0 = 2 := by rintro rfl; revert h1; decide
    rw [if_neg c0, if_neg c1, if_neg c2]
    exact ⟨_, _, _, _, _, rfl, rfl, hI0⟩

set_option maxHeartbeats 4000000 in
theorem st_right : St_right Inv := by
  intro v_x_pad_size v_x_pad_signs_cells v_x_play_n v_x_play_t v_x_play_d v_x_play_r v_x_play_fond v_x_play_ticketCount v_x_play_sightCount v_x_play_tickets_cells v_x_play_prizes_cells v_x_play_sightTickets_cells v_x_play_sightNumbers_cells v_x_play_sightKinds_cells v_x_wheel_held v_x_wheel_draws_size v_x_wheel_draws_members_cells v_x_wheel_possible_size v_x_wheel_possible_members_cells v_x_wheel_wonByPossible_low v_x_wheel_wonByPossible_high v_x_wheel_wonByHeld_low v_x_wheel_wonByHeld_high v_x_wheel_work_low v_x_wheel_work_high v_x_wheel_search_allDraws v_x_wheel_search_single v_x_wheel_search_reached_low v_x_wheel_search_reached_high v_x_wheel_search_chosen_cells v_x_wheel_search_mostOne_size v_x_wheel_search_mostOne_won v_x_wheel_search_mostOne_found v_x_wheel_search_mostOne_sought v_x_wheel_search_mostOne_tickets_cells v_x_wheel_search_mostTwo_size v_x_wheel_search_mostTwo_won v_x_wheel_search_mostTwo_found v_x_wheel_search_mostTwo_sought v_x_wheel_search_mostTwo_tickets_cells v_x_wheel_search_mostThree_size v_x_wheel_search_mostThree_won v_x_wheel_search_mostThree_found v_x_wheel_search_mostThree_sought v_x_wheel_search_mostThree_tickets_cells v_x_wheel_search_fewest_size v_x_wheel_search_fewest_won v_x_wheel_search_fewest_found v_x_wheel_search_fewest_sought v_x_wheel_search_fewest_tickets_cells v_x_imageZero_kept v_x_imageZero_play_n v_x_imageZero_play_t v_x_imageZero_play_d v_x_imageZero_play_r v_x_imageZero_play_fond v_x_imageZero_play_ticketCount v_x_imageZero_play_sightCount v_x_imageZero_play_tickets_cells v_x_imageZero_play_prizes_cells v_x_imageZero_play_sightTickets_cells v_x_imageZero_play_sightNumbers_cells v_x_imageZero_play_sightKinds_cells v_x_imageOne_kept v_x_imageOne_play_n v_x_imageOne_play_t v_x_imageOne_play_d v_x_imageOne_play_r v_x_imageOne_play_fond v_x_imageOne_play_ticketCount v_x_imageOne_play_sightCount v_x_imageOne_play_tickets_cells v_x_imageOne_play_prizes_cells v_x_imageOne_play_sightTickets_cells v_x_imageOne_play_sightNumbers_cells v_x_imageOne_play_sightKinds_cells v_m_numbers v_m_onTicket v_m_drawn v_m_due v_m_ticketMany v_m_fond v_m_sights v_m_drawMany v_m_setMany v_m_padMany v_m_low v_m_high v_m_couldMany v_m_keptAt v_m_isWriting v_m_tickets v_m_prizes v_m_sightTicket v_m_sightRight v_m_sightHow v_m_draws v_m_sets v_m_winsLow v_m_winsHigh v_m_pad v_m_could v_m_row v_m_best v_m_kept v_m_isKept p0 p1 hI
  have hI0 := hI
  obtain ⟨g, g0, g1, pad, pn, k0, k1, hG, hG0, hG1, hk0, hk1, hpn, hpad, xpn, xpad, xpl, xk0, xi0, xk1, xi1, xw, xc1, xc2, xc3, xcf, mpl, md, mpn, mpad, mk0, mk1, mi0, mi1⟩ := hI
  have xpl0 := xpl
  have mpl0 := mpl
  have xw0 := xw
  have md0 := md
  obtain ⟨a1, a2, a3, a4, a5, a6, a7, a8, a9, a10⟩ := xpl
  obtain ⟨b1, b2, b3, b4, b5, b6, b7, b8, b9, b10⟩ := mpl
  obtain ⟨w1, w2, w3, w4, w5, w6, w7, w8, w9, w10, w11⟩ := xw
  obtain ⟨d1, d2, d3, d4, d5⟩ := md
  have hGV := hG
  obtain ⟨e1, e2, e3, e4, e5, e6, e7, e8, e9, e10, e11, e12, e13, e14, e15, e16⟩ := hGV
  subst xpn
  subst mpn
  subst xk0
  subst xk1
  subst a1
  subst a2
  subst a3
  subst a4
  subst a5
  subst a6
  subst a7
  subst b1
  subst b2
  subst b3
  subst b4
  subst b5
  subst b6
  subst b7
  subst w1
  subst w2
  subst w4
  subst w8
  subst w9
  subst d1
  subst d2
  unfold f_Main_right f_Model_right
  rcases has_e (g 0 5) p0 e12 with ⟨j, hj, rfl, z1, z2⟩ | ⟨z1, z2⟩
  · rw [z1, z2, bk1_s, bk1_s, if_neg (by decide), if_neg (by decide)]
    unfold f_Play_isDraw f_Model_isDraw f_Play_isOfNumbers
    rw [show f_Play_allNumbers (nI (g 0 0)) = some (nI (2 ^ g 0 0 - 1)) from congrArg some (allN e2), bk1_s, allN e2, show (0 : Int64) = (0 : Int32).toInt64 from rfl, in_e]
    rcases num_e e2 p1 with ⟨a, ha, rfl, y1, y2⟩ | ⟨y1, y2⟩
    · have ha2 : a < 256 := Nat.lt_of_lt_of_le ha (pow_256 e2)
      rw [y1, y2, bk1_s, show bz (1 : Int32) (some (1 : Int32)) = some 1 from rfl, bk1_s, bk1_s, if_neg (by decide), if_neg (by decide), bcI ha2, bk1_s, onesI (by omega), bk1_s]
      by_cases hd : nI (pc a) = nI (g 0 2)
      · rw [if_pos hd, bk1_s, bk1_s, if_neg (by decide), if_neg (by decide)]
        unfold f_Play_countRight
        rw [Row_at_e (by omega) (by decide), bk1_s, gdN (by omega) (by decide), nI_clamp (by omega), a8 j hj, b8 j hj, andN, bcI (and_lt (e14 j hj)), bk1_s, bk1_s, onesI (Nat.lt_trans (and_lt (e14 j hj)) (by decide)), bk1_s]
        exact ⟨_, rfl, rfl, hI0⟩
      · rw [if_neg hd]
        exact ⟨_, rfl, rfl, hI0⟩
    · rw [y1, y2]
      exact ⟨_, rfl, rfl, hI0⟩
  · rw [z1, z2]
    exact ⟨_, rfl, rfl, hI0⟩

set_option maxHeartbeats 4000000 in
theorem st_seen : St_seen Inv := by
  intro v_x_pad_size v_x_pad_signs_cells v_x_play_n v_x_play_t v_x_play_d v_x_play_r v_x_play_fond v_x_play_ticketCount v_x_play_sightCount v_x_play_tickets_cells v_x_play_prizes_cells v_x_play_sightTickets_cells v_x_play_sightNumbers_cells v_x_play_sightKinds_cells v_x_wheel_held v_x_wheel_draws_size v_x_wheel_draws_members_cells v_x_wheel_possible_size v_x_wheel_possible_members_cells v_x_wheel_wonByPossible_low v_x_wheel_wonByPossible_high v_x_wheel_wonByHeld_low v_x_wheel_wonByHeld_high v_x_wheel_work_low v_x_wheel_work_high v_x_wheel_search_allDraws v_x_wheel_search_single v_x_wheel_search_reached_low v_x_wheel_search_reached_high v_x_wheel_search_chosen_cells v_x_wheel_search_mostOne_size v_x_wheel_search_mostOne_won v_x_wheel_search_mostOne_found v_x_wheel_search_mostOne_sought v_x_wheel_search_mostOne_tickets_cells v_x_wheel_search_mostTwo_size v_x_wheel_search_mostTwo_won v_x_wheel_search_mostTwo_found v_x_wheel_search_mostTwo_sought v_x_wheel_search_mostTwo_tickets_cells v_x_wheel_search_mostThree_size v_x_wheel_search_mostThree_won v_x_wheel_search_mostThree_found v_x_wheel_search_mostThree_sought v_x_wheel_search_mostThree_tickets_cells v_x_wheel_search_fewest_size v_x_wheel_search_fewest_won v_x_wheel_search_fewest_found v_x_wheel_search_fewest_sought v_x_wheel_search_fewest_tickets_cells v_x_imageZero_kept v_x_imageZero_play_n v_x_imageZero_play_t v_x_imageZero_play_d v_x_imageZero_play_r v_x_imageZero_play_fond v_x_imageZero_play_ticketCount v_x_imageZero_play_sightCount v_x_imageZero_play_tickets_cells v_x_imageZero_play_prizes_cells v_x_imageZero_play_sightTickets_cells v_x_imageZero_play_sightNumbers_cells v_x_imageZero_play_sightKinds_cells v_x_imageOne_kept v_x_imageOne_play_n v_x_imageOne_play_t v_x_imageOne_play_d v_x_imageOne_play_r v_x_imageOne_play_fond v_x_imageOne_play_ticketCount v_x_imageOne_play_sightCount v_x_imageOne_play_tickets_cells v_x_imageOne_play_prizes_cells v_x_imageOne_play_sightTickets_cells v_x_imageOne_play_sightNumbers_cells v_x_imageOne_play_sightKinds_cells v_m_numbers v_m_onTicket v_m_drawn v_m_due v_m_ticketMany v_m_fond v_m_sights v_m_drawMany v_m_setMany v_m_padMany v_m_low v_m_high v_m_couldMany v_m_keptAt v_m_isWriting v_m_tickets v_m_prizes v_m_sightTicket v_m_sightRight v_m_sightHow v_m_draws v_m_sets v_m_winsLow v_m_winsHigh v_m_pad v_m_could v_m_row v_m_best v_m_kept v_m_isKept p0 p1 p2 hI
  have hI0 := hI
  obtain ⟨g, g0, g1, pad, pn, k0, k1, hG, hG0, hG1, hk0, hk1, hpn, hpad, xpn, xpad, xpl, xk0, xi0, xk1, xi1, xw, xc1, xc2, xc3, xcf, mpl, md, mpn, mpad, mk0, mk1, mi0, mi1⟩ := hI
  have xpl0 := xpl
  have mpl0 := mpl
  have xw0 := xw
  have md0 := md
  obtain ⟨a1, a2, a3, a4, a5, a6, a7, a8, a9, a10⟩ := xpl
  obtain ⟨b1, b2, b3, b4, b5, b6, b7, b8, b9, b10⟩ := mpl
  obtain ⟨w1, w2, w3, w4, w5, w6, w7, w8, w9, w10, w11⟩ := xw
  obtain ⟨d1, d2, d3, d4, d5⟩ := md
  have hGV := hG
  obtain ⟨e1, e2, e3, e4, e5, e6, e7, e8, e9, e10, e11, e12, e13, e14, e15, e16⟩ := hGV
  subst xpn
  subst mpn
  subst xk0
  subst xk1
  subst a1
  subst a2
  subst a3
  subst a4
  subst a5
  subst a6
  subst a7
  subst b1
  subst b2
  subst b3
  subst b4
  subst b5
  subst b6
  subst b7
  subst w1
  subst w2
  subst w4
  subst w8
  subst w9
  subst d1
  subst d2
  unfold f_Main_seen f_Model_seen
  rw [show (0 : Int64) = (0 : Int32).toInt64 from rfl, show (8 : Int64) = (8 : Int32).toInt64 from rfl, show (2 : Int64) = (2 : Int32).toInt64 from rfl, in_e, in_e]
  rcases has_e (g 0 5) p0 e12 with ⟨j, hj, rfl, z1, z2⟩ | ⟨z1, z2⟩
  · rw [z1, z2, bk1_s, bk1_s, if_neg (show ¬ (1 : Int32) = 0 by decide), if_neg (show ¬ (1 : Int32) = 0 by decide)]
    rcases within_c p1 0 8 with ⟨w, h1, h2⟩ | ⟨w, -⟩
    · obtain ⟨kv, kv1, kv2, rfl⟩ := betw (a := 0) (b := 8) h1 h2 (by decide) (by decide)
      rw [w, bk1_s, bk1_s, if_neg (show ¬ (1 : Int32) = 0 by decide), if_neg (show ¬ (1 : Int32) = 0 by decide)]
      rcases within_c p2 0 2 with ⟨w', h3, h4⟩ | ⟨w', -⟩
      · obtain ⟨m, m1, m2, rfl⟩ := betw (a := 0) (b := 2) h3 h4 (by decide) (by decide)
        rw [w', bk1_s, bk1_s, if_neg (show ¬ (1 : Int32) = 0 by decide), if_neg (show ¬ (1 : Int32) = 0 by decide)]
        by_cases h : g 0 6 < 6
        · rw [if_pos (show nI (g 0 6) < (6 : Int32) from nI_lt (b := 6) h (by decide)), if_neg (show ¬ nI (g 0 6) = (6 : Int32) from fun e => Nat.ne_of_lt h ((nI_eq (b := 6) (by omega) (by decide)).mp e)), gdN h (by decide), gdN h (by decide), gdN h (by decide), nI_clamp (by omega)]
          unfold f_Play_addSight
          rw [Row_put_e h (by decide), bk1_s, Row_put_e h (by decide), bk1_s, Row_put_e h (by decide), bk1_s, bk4_s, nI_1]
          refine ⟨nI (g 0 6 + 1), _, _, _, _, _, _, _, _, rfl, rfl, ⟨gsee g j kv m, g0, g1, pad, pn, k0, k1, ⟨e1, e2, e3, e4, e5, e6, e7, e8, e9, e10, e11, e12, h, e14, e15, ?_⟩, hG0, hG1, hk0, hk1, hpn, hpad, rfl, xpad, ⟨rfl, rfl, rfl, rfl, rfl, rfl, rfl, a8, a9, ?_⟩, rfl, xi0, rfl, xi1, WX_c rfl rfl rfl rfl rfl rfl rfl xw0, CK_c rfl rfl rfl rfl rfl xc1, CK_c rfl rfl rfl rfl rfl xc2, CK_c rfl rfl rfl rfl rfl xc3, CF_c rfl rfl rfl rfl rfl xcf, ⟨rfl, rfl, rfl, rfl, rfl, rfl, rfl, b8, b9, ?_⟩, MD_c rfl rfl rfl rfl md0, rfl, mpad, mk0, mk1, mi0, mi1⟩⟩
          · intro i hi
            by_cases e : i = g 0 6
            · subst e
              simp only [gsee, if_true, and_self]
              exact ⟨hj, kv2, m2⟩
            · have hi' : i < g 0 6 := Nat.lt_of_le_of_ne (Nat.le_of_lt_succ hi) e
              simp only [gsee, e, and_false, if_false]
              exact e16 i hi'
          · intro i hi
            by_cases e : i = g 0 6
            · subst e
              simp [gsee, upd]
            · have hi' : i < g 0 6 := Nat.lt_of_le_of_ne (Nat.le_of_lt_succ hi) e
              simp only [gsee, e, and_false, if_false, upd]
              exact a10 i hi'
          · intro i hi
            by_cases e : i = g 0 6
            · subst e
              simp [gsee, upd]
            · have hi' : i < g 0 6 := Nat.lt_of_le_of_ne (Nat.le_of_lt_succ hi) e
              simp only [gsee, e, and_false, if_false, upd]
              exact b10 i hi'
        · have e : g 0 6 = 6 := by omega
          rw [e, if_neg (show ¬ nI 6 < (6 : Int32) by decide), if_pos (show nI 6 = (6 : Int32) from rfl)]
          rw [e] at hI0
          exact ⟨-4, _, _, _, _, _, _, _, _, rfl, rfl, hI0⟩
      · rw [w']
        exact ⟨-2, _, _, _, _, _, _, _, _, rfl, rfl, hI0⟩
    · rw [w]
      exact ⟨-2, _, _, _, _, _, _, _, _, rfl, rfl, hI0⟩
  · rw [z1, z2]
    exact ⟨-1, _, _, _, _, _, _, _, _, rfl, rfl, hI0⟩
