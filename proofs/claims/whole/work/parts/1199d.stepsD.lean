theorem inS_bit : ∀ a : Fin 64, ∀ k : Fin 6, (((nI a.val >>> (nI k.val &&& 31)) &&& (1 : Int32)) = (1 : Int32) ↔ a.val.testBit k.val = true) ∧ inS (nI a.val) k.val = a.val.testBit k.val := by decide +kernel
theorem inS_b {a k : Nat} (ha : a < 64) (hk : k < 6) : inS (nI a) k = a.testBit k := (inS_bit ⟨a, ha⟩ ⟨k, hk⟩).2
theorem any_e {c r x a : Nat} {tk : Nat → Nat} {D : List Nat} {f : Nat → Int32} (ha : a < 64) (hc : c ≤ 6) (hr : r ≤ 8) (htk : ∀ i, i < c → f i = nI (tk i) ∧ tk i < 256) :
    f_Model_anyWins (nI r) (nI c) f (nI a) (nI (nth D x)) = some (if un (inS (nI a)) tk r D c x = true then 1 else 0) := by
  unfold f_Model_anyWins
  have key := loopC (fun n i (s : Int32) => L_Model_anyWins_5 (nI a) (nI (nth D x)) (nI r) (nI c) f n s i) c (fun k => if un (inS (nI a)) tk r D k x = true then 1 else 0) ?_ c 0 300 (by omega) (by omega)
  · rw [show (if un (inS (nI a)) tk r D 0 x = true then (1 : Int32) else 0) = 0 from rfl] at key
    rw [show (0 : Int32) = nI 0 from rfl] at key ⊢
    rw [key, show 300 - c = (299 - c) + 1 by omega, L_Model_anyWins_5, if_pos (nI_le (Nat.le_refl _) (by omega)), bk2_s]
    cases un (inS (nI a)) tk r D c x
    · rfl
    · rfl
  · intro n k hk
    rw [L_Model_anyWins_5, if_neg (nI_ge hk (by omega)), nI_1]
    obtain ⟨hb, hs⟩ := inS_bit ⟨a, ha⟩ ⟨k, by omega⟩
    simp only at hb hs
    show _ = L_Model_anyWins_5 (nI a) (nI (nth D x)) (nI r) (nI c) f n (if (un (inS (nI a)) tk r D k x || (inS (nI a) k && pw (tk k) r (nth D) x)) = true then 1 else 0) (nI (k + 1))
    cases hu : un (inS (nI a)) tk r D k x
    · rw [if_neg (show ¬ false = true by decide), if_pos rfl, Bool.false_or, hs]
      cases ht : a.testBit k
      · rw [if_neg (fun e => by rw [hb.mp e] at ht; cases ht), Bool.false_and]
        rfl
      · rw [if_pos (hb.mpr ht), gdN (by omega) (by decide), nI_clamp (by omega), (htk k hk).1, wins_e (htk k hk).2 hr, bk1_s, Bool.true_and]
        unfold pw
        by_cases hp : r ≤ pc (tk k &&& nth D x)
        · rw [if_pos hp, if_neg (show ¬ (1 : Int32) = 0 by decide), decide_eq_true hp]
          rfl
        · rw [if_neg hp, if_pos rfl, decide_eq_false hp]
          rfl
    · rw [if_pos rfl, if_neg (show ¬ (1 : Int32) = 0 by decide), Bool.true_or, if_pos rfl]
theorem un_or {A B C : Nat → Bool} {tk : Nat → Nat} {r : Nat} {D : List Nat} (x : Nat) : ∀ {k : Nat}, (∀ i, i < k → C i = (A i || B i)) → un C tk r D k x = (un A tk r D k x || un B tk r D k x)
  | 0, _ => rfl
  | k + 1, h => by
    show (un C tk r D k x || (C k && pw (tk k) r (nth D) x)) = ((un A tk r D k x || (A k && pw (tk k) r (nth D) x)) || (un B tk r D k x || (B k && pw (tk k) r (nth D) x)))
    rw [un_or x (fun i hi => h i (by omega)), h k (by omega)]
    cases un A tk r D k x <;> cases un B tk r D k x <;> cases A k <;> cases B k <;> cases pw (tk k) r (nth D) x <;> rfl
theorem ct_diff (p q : Nat → Bool) : ∀ n, fb_ct (fun x => p x || q x) n = fb_ct (fun x => p x && !q x) n + fb_ct q n
  | 0 => rfl
  | n + 1 => by
    rw [fb_ct_succ, fb_ct_succ, fb_ct_succ, ct_diff p q n]
    cases p n <;> cases q n <;> simp <;> omega
theorem alone_e {c r a b : Nat} {tk : Nat → Nat} {D : List Nat} {cells f : Nat → Int32} (ha : a < 64) (hb : b < 64) (hc : c ≤ 6) (hr : r ≤ 8) (hD : D.length ≤ 70) (htk : ∀ i, i < c → f i = nI (tk i) ∧ tk i < 256) (hcl : ∀ k, k < D.length → cells k = nI (nth D k)) :
    L_Model_alone_40 (nI a) (nI b) (nI D.length) (nI r) (nI c) cells f 300 (0 : Int32) (0 : Int32) = some (nI (fb_ct (fun x => un (inS (nI a)) tk r D c x && !un (inS (nI b)) tk r D c x) D.length), nI D.length) := by
  have key := loopC (fun n i (s : Int32) => L_Model_alone_40 (nI a) (nI b) (nI D.length) (nI r) (nI c) cells f n s i) D.length (fun k => nI (fb_ct (fun x => un (inS (nI a)) tk r D c x && !un (inS (nI b)) tk r D c x) k)) ?_ D.length 0 300 (by omega) (by omega)
  · rw [show nI (fb_ct (fun x => un (inS (nI a)) tk r D c x && !un (inS (nI b)) tk r D c x) 0) = nI 0 from rfl] at key
    rw [show (0 : Int32) = nI 0 from rfl, key, show 300 - D.length = (299 - D.length) + 1 by omega, L_Model_alone_40, if_pos (nI_le (Nat.le_refl _) (by omega))]
  · intro n k hk
    rw [L_Model_alone_40, if_neg (nI_ge hk (by omega)), nI_1, gdN (by omega) (by decide), nI_clamp (by omega), hcl k hk, any_e ha hc hr htk, bk1_s, fb_ct_succ, gdN (by omega) (by decide), any_e hb hc hr htk, bk1_s]
    cases un (inS (nI a)) tk r D c k
    · rw [if_neg (show ¬ false = true by decide), if_pos rfl, Int32.add_zero]
      rfl
    · cases un (inS (nI b)) tk r D c k
      · rw [if_pos rfl, if_neg (show ¬ (1 : Int32) = 0 by decide), if_neg (show ¬ false = true by decide), if_pos rfl, nI_1]
        rfl
      · rw [if_pos rfl, if_neg (show ¬ (1 : Int32) = 0 by decide), if_neg (show ¬ (1 : Int32) = 0 by decide), Int32.add_zero]
        rfl

set_option maxHeartbeats 4000000 in
theorem st_alone : St_alone Inv := by
  intro v_x_pad_size v_x_pad_signs_cells v_x_play_n v_x_play_t v_x_play_d v_x_play_r v_x_play_fond v_x_play_ticketCount v_x_play_sightCount v_x_play_tickets_cells v_x_play_prizes_cells v_x_play_sightTickets_cells v_x_play_sightNumbers_cells v_x_play_sightKinds_cells v_x_wheel_held v_x_wheel_draws_size v_x_wheel_draws_members_cells v_x_wheel_possible_size v_x_wheel_possible_members_cells v_x_wheel_wonByPossible_low v_x_wheel_wonByPossible_high v_x_wheel_wonByHeld_low v_x_wheel_wonByHeld_high v_x_wheel_work_low v_x_wheel_work_high v_x_wheel_search_allDraws v_x_wheel_search_single v_x_wheel_search_reached_low v_x_wheel_search_reached_high v_x_wheel_search_chosen_cells v_x_wheel_search_mostOne_size v_x_wheel_search_mostOne_won v_x_wheel_search_mostOne_found v_x_wheel_search_mostOne_sought v_x_wheel_search_mostOne_tickets_cells v_x_wheel_search_mostTwo_size v_x_wheel_search_mostTwo_won v_x_wheel_search_mostTwo_found v_x_wheel_search_mostTwo_sought v_x_wheel_search_mostTwo_tickets_cells v_x_wheel_search_mostThree_size v_x_wheel_search_mostThree_won v_x_wheel_search_mostThree_found v_x_wheel_search_mostThree_sought v_x_wheel_search_mostThree_tickets_cells v_x_wheel_search_fewest_size v_x_wheel_search_fewest_won v_x_wheel_search_fewest_found v_x_wheel_search_fewest_sought v_x_wheel_search_fewest_tickets_cells v_x_imageZero_kept v_x_imageZero_play_n v_x_imageZero_play_t v_x_imageZero_play_d v_x_imageZero_play_r v_x_imageZero_play_fond v_x_imageZero_play_ticketCount v_x_imageZero_play_sightCount v_x_imageZero_play_tickets_cells v_x_imageZero_play_prizes_cells v_x_imageZero_play_sightTickets_cells v_x_imageZero_play_sightNumbers_cells v_x_imageZero_play_sightKinds_cells v_x_imageOne_kept v_x_imageOne_play_n v_x_imageOne_play_t v_x_imageOne_play_d v_x_imageOne_play_r v_x_imageOne_play_fond v_x_imageOne_play_ticketCount v_x_imageOne_play_sightCount v_x_imageOne_play_tickets_cells v_x_imageOne_play_prizes_cells v_x_imageOne_play_sightTickets_cells v_x_imageOne_play_sightNumbers_cells v_x_imageOne_play_sightKinds_cells v_m_numbers v_m_onTicket v_m_drawn v_m_due v_m_ticketMany v_m_fond v_m_sights v_m_drawMany v_m_setMany v_m_padMany v_m_low v_m_high v_m_couldMany v_m_keptAt v_m_isWriting v_m_tickets v_m_prizes v_m_sightTicket v_m_sightRight v_m_sightHow v_m_draws v_m_sets v_m_winsLow v_m_winsHigh v_m_pad v_m_could v_m_row v_m_best v_m_kept v_m_isKept p0 p1 hI
  have hI0 := hI
  obtain ⟨g, g0, g1, pad, pn, k0, k1, hG, hG0, hG1, hk0, hk1, hpn, hpad, xpn, xpad, xpl, xk0, xi0, xk1, xi1, xw, xc1, xc2, xc3, xcf, mpl, md, mpn, mpad, mk0, mk1, mi0, mi1⟩ := hI
  have xpl0 := xpl
  have mpl0 := mpl
  have xw0 := xw
  have md0 := md
  obtain ⟨a1, a2, a3, a4, a5, a6, a7, a8, a9, a10⟩ := xpl
  obtain ⟨b1, b2, b3, b4, b5, b6, b7, b8, b9, b10⟩ := mpl
  obtain ⟨w1, w2, w3, w4, w5, w6, w7, w8, w9, w10, w11⟩ := xw
  obtain ⟨d1, d2, d3, d4, d5⟩ := md
  have hGV := hG
  obtain ⟨e1, e2, e3, e4, e5, e6, e7, e8, e9, e10, e11, e12, e13, e14, e15, e16⟩ := hGV
  subst xpn
  subst mpn
  subst xk0
  subst xk1
  subst a1
  subst a2
  subst a3
  subst a4
  subst a5
  subst a6
  subst a7
  subst b1
  subst b2
  subst b3
  subst b4
  subst b5
  subst b6
  subst b7
  subst w1
  subst w2
  subst w4
  subst w8
  subst w9
  subst d1
  subst d2
  have hD : (Dr g).length ≤ 70 := Dr_70 hG
  have htk : ∀ i, i < g 0 5 → v_m_tickets i = nI (g 1 i) ∧ g 1 i < 256 := fun i hi => ⟨b8 i hi, e14 i hi⟩
  have h64 : 2 ^ g 0 5 ≤ 64 := Nat.pow_le_pow_right (n := 2) (by decide) e12
  unfold f_Main_alone f_Model_alone
  have hall : f_Wheel_allTickets (nI (g 0 5)) = some (nI (2 ^ g 0 5 - 1)) := congrArg some (allN (by omega))
  rw [hall, bk1_s, allN (show g 0 5 ≤ 8 by omega), show (0 : Int64) = (0 : Int32).toInt64 from rfl, in_e, in_e]
  rcases num_e (show g 0 5 ≤ 8 by omega) p0 with ⟨a, ha, rfl, y1, y2⟩ | ⟨y1, y2⟩
  · rw [y1, y2, bk1_s, bk1_s, if_neg (show ¬ (1 : Int32) = 0 by decide), if_neg (show ¬ (1 : Int32) = 0 by decide)]
    rcases num_e (show g 0 5 ≤ 8 by omega) p1 with ⟨b, hb, rfl, z1, z2⟩ | ⟨z1, z2⟩
    · rw [z1, z2, bk1_s, bk1_s, if_neg (show ¬ (1 : Int32) = 0 by decide), if_neg (show ¬ (1 : Int32) = 0 by decide), countWon_e _ e12 hD w7, bk3_s, countWon_e _ e12 hD w7, bk3_s, alone_e (by omega) (by omega) e12 (by omega) hD htk d3, bk2_s, orN]
      have hab : a ||| b < 64 := Nat.or_lt_two_pow (n := 6) (by omega) (by omega)
      have e : un (inS (nI (a ||| b))) (g 1) (g 0 3) (Dr g) (g 0 5) = fun x => un (inS (nI a)) (g 1) (g 0 3) (Dr g) (g 0 5) x || un (inS (nI b)) (g 1) (g 0 3) (Dr g) (g 0 5) x :=
        funext fun x => un_or x fun i hi => by rw [inS_b hab (by omega), inS_b (by omega) (by omega), inS_b (by omega) (by omega), Nat.testBit_or]
      rw [e, ct_diff, pk_sub (Nat.le_add_left _ _), Nat.add_sub_cancel]
      exact ⟨_, _, _, rfl, rfl, hI0⟩
    · rw [z1, z2]
      exact ⟨_, _, _, rfl, rfl, hI0⟩
  · rw [y1, y2]
    exact ⟨_, _, _, rfl, rfl, hI0⟩

theorem un_pre {tk : Nat → Nat} {r : Nat} {D : List Nat} {x : Nat} : ∀ (j k : Nat), un (fun _ => true) tk r D k x = true → un (fun _ => true) tk r D (k + j) x = true
  | 0, _, h => h
  | j + 1, k, h => by
    show (un (fun _ => true) tk r D (k + j) x || _) = true
    rw [un_pre j k h, Bool.true_or]
theorem isWonL_e {c r x : Nat} {tk : Nat → Nat} {D : List Nat} {f : Nat → Int32} (hc : c ≤ 6) (hr : r ≤ 8) (htk : ∀ i, i < c → f i = nI (tk i) ∧ tk i < 256) : ∀ (j k n : Nat), k + j = c → j < n → un (fun _ => true) tk r D k x = false → L_Play_isWon_2 (nI (nth D x)) (nI r) (nI c) f n (nI k) = some (if un (fun _ => true) tk r D c x = true then .error 1 else .ok (nI c)) := by
  intro j
  induction j with
  | zero =>
    intro k n hk hn hu
    obtain ⟨n, rfl⟩ : ∃ n', n = n' + 1 := ⟨n - 1, by omega⟩
    have : k = c := by omega
    subst this
    rw [L_Play_isWon_2, if_pos (nI_le (Nat.le_refl _) (by omega)), hu]
    rfl
  | succ j ih =>
    intro k n hk hn hu
    obtain ⟨n, rfl⟩ : ∃ n', n = n' + 1 := ⟨n - 1, by omega⟩
    have hb := (htk k (by omega)).2
    have hp := pc_31 (b := nth D x) hb
    rw [L_Play_isWon_2, if_neg (nI_ge (by omega) (by omega))]
    unfold f_Play_countRight
    rw [Row_at_e (by omega) (by decide), bk1_s, (htk k (by omega)).1, andN, bcI (and_lt hb), bk1_s, bk1_s, nI_1]
    have hs : un (fun _ => true) tk r D (k + 1) x = (un (fun _ => true) tk r D k x || (true && pw (tk k) r (nth D) x)) := rfl
    rw [hu, Bool.false_or, Bool.true_and] at hs
    unfold pw at hs
    by_cases h : r ≤ pc (tk k &&& nth D x)
    · rw [decide_eq_true h] at hs
      rw [if_neg (nI_nlt h hp)]
      have := un_pre (j := j) (k + 1) hs
      rw [show k + 1 + j = c by omega] at this
      rw [this]
      rfl
    · rw [decide_eq_false h] at hs
      rw [if_pos (nI_lt (by omega) (by omega)), ih (k + 1) n (by omega) (by omega) hs]
theorem isWon_e {c r x : Nat} {tk : Nat → Nat} {D : List Nat} {f : Nat → Int32} (hc : c ≤ 6) (hr : r ≤ 8) (htk : ∀ i, i < c → f i = nI (tk i) ∧ tk i < 256) : f_Play_isWon (nI r) (nI c) f (nI (nth D x)) = some (if un (fun _ => true) tk r D c x = true then 1 else 0) := by
  unfold f_Play_isWon
  rw [show (0 : Int32) = nI 0 from rfl, isWonL_e hc hr htk c 0 300 (by omega) (by omega) rfl]
  cases un (fun _ => true) tk r D c x
  · rfl
  · rfl
theorem un_63 {c : Nat} (hc : c ≤ 6) (tk : Nat → Nat) (r : Nat) (D : List Nat) : un (inS (nI 63)) tk r D c = un (fun _ => true) tk r D c :=
  un_cong fun i hi => by
    rw [inS_b (by decide) (by omega)]
    have : ∀ i : Fin 6, Nat.testBit 63 i.val = true := by decide
    exact this ⟨i, by omega⟩
/-- the pence by one draw -/
def pen (g : Nat → Nat → Nat) (x : Nat) : Nat → Nat
  | 0 => 0
  | k + 1 => pen g x k + g 2 (pc (g 1 k &&& x))
theorem pc_9 {a b : Nat} (h : a < 256) : pc (a &&& b) < 9 := Nat.lt_succ_of_le (pc8 (and_lt h))
theorem pen_le {g : Nat → Nat → Nat} (hg : GV g) (x : Nat) : ∀ k, k ≤ g 0 5 → pen g x k ≤ 999 * k
  | 0, _ => Nat.le_refl _
  | k + 1, h => by
    have h1 := pen_le hg x k (by omega)
    have h2 := hg.2.2.2.2.2.2.2.2.2.2.2.2.2.2.1 _ (pc_9 (b := x) (hg.2.2.2.2.2.2.2.2.2.2.2.2.2.1 k (by omega)))
    show pen g x k + g 2 (pc (g 1 k &&& x)) ≤ _
    omega
theorem pen_e {g : Nat → Nat → Nat} {f P : Nat → Int32} {x : Nat} (hg : GV g) (hf : ∀ i, i < g 0 5 → f i = nI (g 1 i)) (hP : ∀ i, i < 9 → P i = nI (g 2 i)) : f_Play_countPence (nI (g 0 5)) P f (nI x) = some (nI (pen g x (g 0 5))) := by
  have e12 : g 0 5 ≤ 6 := hg.2.2.2.2.2.2.2.2.2.2.2.1
  have e14 := hg.2.2.2.2.2.2.2.2.2.2.2.2.2.1
  unfold f_Play_countPence
  have key := loopC (fun n i (s : Int32) => L_Play_countPence_4 (nI x) (nI (g 0 5)) P f n s i) (g 0 5) (fun k => nI (pen g x k)) ?_ (g 0 5) 0 300 (by omega) (by omega)
  · rw [show nI (pen g x 0) = nI 0 from rfl] at key
    rw [show (0 : Int32) = nI 0 from rfl, key, show 300 - g 0 5 = (299 - g 0 5) + 1 by omega, L_Play_countPence_4, if_pos (nI_le (Nat.le_refl _) (by omega)), bk2_s]
  · intro n k hk
    rw [L_Play_countPence_4, if_neg (nI_ge hk (by omega)), nI_1]
    unfold f_Play_countRight
    rw [Row_at_e (by omega) (by decide), bk1_s, hf k hk, andN, bcI (and_lt (e14 k hk)), bk1_s, bk1_s, Row_at_e (pc_9 (e14 k hk)) (by decide), bk1_s, hP _ (pc_9 (e14 k hk)), nI_add]
    rfl
theorem mpen_e {g : Nat → Nat → Nat} {f P : Nat → Int32} {x : Nat} (hg : GV g) (hf : ∀ i, i < g 0 5 → f i = nI (g 1 i)) (hP : ∀ i, i < 9 → P i = nI (g 2 i)) : f_Model_penceBy (nI (g 0 5)) P f (nI x) = some (nI (pen g x (g 0 5))) := by
  have e12 : g 0 5 ≤ 6 := hg.2.2.2.2.2.2.2.2.2.2.2.1
  have e14 := hg.2.2.2.2.2.2.2.2.2.2.2.2.2.1
  unfold f_Model_penceBy
  have key := loopC (fun n i (s : Int32) => L_Model_penceBy_4 (nI x) (nI (g 0 5)) P f n s i) (g 0 5) (fun k => nI (pen g x k)) ?_ (g 0 5) 0 300 (by omega) (by omega)
  · rw [show nI (pen g x 0) = nI 0 from rfl] at key
    rw [show (0 : Int32) = nI 0 from rfl, key, show 300 - g 0 5 = (299 - g 0 5) + 1 by omega, L_Model_penceBy_4, if_pos (nI_le (Nat.le_refl _) (by omega)), bk2_s]
  · intro n k hk
    rw [L_Model_penceBy_4, if_neg (nI_ge hk (by omega)), nI_1, gdN (by omega) (by decide), nI_clamp (by omega), hf k hk, andN, onesI (Nat.lt_trans (and_lt (e14 k hk)) (by decide)), bk1_s, gdN (pc_9 (e14 k hk)) (by decide), nI_clamp (pc_31 (e14 k hk)), hP _ (pc_9 (e14 k hk)), nI_add]
    rfl
theorem lotI {l : Nat} (h : l < 65537) : (((75 : Int32) * nI l) + (74 : Int32)) - (((75 : Int32) * nI l) + (74 : Int32)) / (65537 : Int32) * (65537 : Int32) = nI ((75 * l + 74) % 65537) := by
  rw [show (75 : Int32) = nI 75 from rfl, show (74 : Int32) = nI 74 from rfl, show (65537 : Int32) = nI 65537 from rfl, pk_mul, nI_add, pk_rem (by omega) (by decide) (by decide)]
theorem lotL {l : Nat} (h : l < 65537) : ((((75 : Int64) * (nI l).toInt64) + (74 : Int64)) - (((75 : Int64) * (nI l).toInt64) + (74 : Int64)) / (65537 : Int64) * (65537 : Int64)).toInt32 = nI ((75 * l + 74) % 65537) := by
  rw [nI_l (by omega), show (75 : Int64) = lN 75 from rfl, show (74 : Int64) = lN 74 from rfl, show (65537 : Int64) = lN 65537 from rfl, lN_mul, lN_add, pk_lRem (by omega) (by decide) (by decide), lN_i]
theorem dzN {α : Type} {b : Nat} {k : Option α} (h : 0 < b) (hb : b < 2 ^ 31) : dz (nI b) k = k := if_neg (nI_ne0 h hb)
theorem year_e {g : Nat → Nat → Nat} {f P f2 P2 dc dm : Nat → Int32} {m : Nat} (hg : GV g) (hD0 : 0 < (Dr g).length) (hf : ∀ i, i < g 0 5 → f i = nI (g 1 i)) (hP : ∀ i, i < 9 → P i = nI (g 2 i)) (hf2 : ∀ i, i < g 0 5 → f2 i = nI (g 1 i)) (hP2 : ∀ i, i < 9 → P2 i = nI (g 2 i)) (hd : ∀ i, i < (Dr g).length → dc i = nI (nth (Dr g) i)) (hd2 : ∀ i, i < (Dr g).length → dm i = nI (nth (Dr g) i)) (hm : m ≤ 99) :
    ∀ (j k n l : Nat) (w q : Int32), k + j = m → j < n → l < 65537 → ∃ y, L_Main_year_57 (nI m) (nI (Dr g).length) (nI (g 0 3)) (nI (g 0 5)) P f dc n (nI l) w q (nI k) = some y ∧ L_Model_year_49 (nI m) (nI (Dr g).length) (nI (g 0 3)) (nI (g 0 5)) dm P2 f2 n (nI l) w q (nI k) = some y := by
  have hD := Dr_70 hg
  have hg0 := hg
  obtain ⟨e1, e2, e3, e4, e5, e6, e7, e8, e9, e10, e11, e12, e13, e14, e15, e16⟩ := hg0
  have htk : ∀ i, i < g 0 5 → f i = nI (g 1 i) ∧ g 1 i < 256 := fun i hi => ⟨hf i hi, e14 i hi⟩
  have htk2 : ∀ i, i < g 0 5 → f2 i = nI (g 1 i) ∧ g 1 i < 256 := fun i hi => ⟨hf2 i hi, e14 i hi⟩
  intro j
  induction j with
  | zero =>
    intro k n l w q hk hn hl
    obtain ⟨n, rfl⟩ : ∃ n', n = n' + 1 := ⟨n - 1, by omega⟩
    have : k = m := by omega
    subst this
    rw [L_Main_year_57, L_Model_year_49, if_pos (nI_le (Nat.le_refl _) (by omega)), if_pos (nI_le (Nat.le_refl _) (by omega))]
    exact ⟨_, rfl, rfl⟩
  | succ j ih =>
    intro k n l w q hk hn hl
    obtain ⟨n, rfl⟩ : ∃ n', n = n' + 1 := ⟨n - 1, by omega⟩
    rw [L_Main_year_57, L_Model_year_49, if_neg (nI_ge (by omega) (by omega)), if_neg (nI_ge (by omega) (by omega)), lotI hl, lotL hl]
    have hL : (75 * l + 74) % 65537 < 65537 := Nat.mod_lt _ (by decide)
    generalize (75 * l + 74) % 65537 = L at hL
    have hi : L % (Dr g).length < (Dr g).length := Nat.mod_lt _ hD0
    rw [pk_rem (a := L) (d := (Dr g).length) (by omega) hD0 (by omega)]
    generalize L % (Dr g).length = i at hi
    rw [show dz (65537 : Int32) = fun k => k from rfl, show dzL (65537 : Int64) = fun k => k from rfl]
    rw [if_pos (show (1 : Int32) ≤ nI (Dr g).length from nI_le (a := 1) hD0 (by omega)), dzN hD0 (by omega), dzN hD0 (by omega), Sets_at_e (by omega), bk1_s, gdN (by omega) (by decide), nI_clamp (by omega), hd i hi, hd2 i hi, isWon_e e12 (by omega) htk, show (63 : Int32) = nI 63 from rfl, any_e (by decide) e12 (by omega) htk2, un_63 e12, bk1_s, bk1_s, pen_e hg hf hP, mpen_e hg hf2 hP2, bk1_s, bk1_s, bk1_s, bk1_s, nI_1]
    cases un (fun _ => true) (g 1) (g 0 3) (Dr g) (g 0 5) i
    · exact ih (k + 1) n _ _ _ (by omega) (by omega) hL
    · exact ih (k + 1) n _ _ _ (by omega) (by omega) hL

theorem pc_b {q : Nat} (b : Bool) (hq : q < 2 ^ 60) : pc (2 * q + b.toNat) = b.toNat + pc q := by
  have hb : b.toNat < 2 := by cases b <;> decide
  rw [pc_two (by omega)]
  cases b
  · rw [show (2 * q + false.toNat) % 2 = 0 by simp, show (2 * q + false.toNat) / 2 = q by simp]; rfl
  · rw [show (2 * q + true.toNat) % 2 = 1 by show (2 * q + 1) % 2 = 1; omega, show (2 * q + true.toNat) / 2 = q by show (2 * q + 1) / 2 = q; omega]; rfl
theorem and_b (q s : Nat) (b c : Bool) : (2 * q + b.toNat) &&& (2 * s + c.toNat) = 2 * (q &&& s) + (b && c).toNat := by
  apply Nat.eq_of_testBit_eq
  intro i
  rw [Nat.testBit_and]
  cases i with
  | zero => cases b <;> cases c <;> simp [Nat.testBit_zero, Bool.toNat] <;> omega
  | succ i =>
    rw [Nat.testBit_succ, Nat.testBit_succ, Nat.testBit_succ]
    have e : ∀ (z : Nat) (d : Bool), (2 * z + d.toNat) / 2 = z := by intro z d; cases d <;> simp [Bool.toNat] <;> omega
    rw [e, e, e, Nat.testBit_and]
theorem pc_lt2 {q n : Nat} (h : q < 2 ^ n) (hn : n ≤ 64) : pc q ≤ n := by
  rw [show pc q = fb_ct (fun i => q.testBit i) n from ct_big (k := n) (m := 64) h hn]
  exact fb_ct_le _ _
theorem ex_set : ∀ (n fo t : Nat), n ≤ 60 → fo < 2 ^ n → pc fo ≤ t → t ≤ n → ∃ x, x < 2 ^ n ∧ pc x = t ∧ fo &&& x = fo
  | 0, fo, t, _, h, _, h3 => by
    have e1 : t = 0 := by omega
    have e2 : fo = 0 := by omega
    subst e1
    subst e2
    exact ⟨0, by decide, by decide +kernel, rfl⟩
  | n + 1, fo, t, hn, h, h2, h3 => by
    obtain ⟨q, b, rfl⟩ : ∃ q b, fo = 2 * q + Bool.toNat b := ⟨fo / 2, decide (fo % 2 = 1), by
      by_cases e : fo % 2 = 1
      · rw [decide_eq_true e]; simp [Bool.toNat]; omega
      · rw [decide_eq_false e]; simp [Bool.toNat]; omega⟩
    have hq : q < 2 ^ n := by rw [Nat.pow_succ] at h; omega
    have h60 : 2 ^ n ≤ 2 ^ 60 := Nat.pow_le_pow_right (by decide) (by omega)
    rw [pc_b b (by omega)] at h2
    have mk2 : ∀ (c : Bool) (x : Nat), x < 2 ^ n → pc x + c.toNat = t → q &&& x = q → (b && c) = b → ∃ x, x < 2 ^ (n + 1) ∧ pc x = t ∧ (2 * q + b.toNat) &&& x = 2 * q + b.toNat := by
      intro c x hx hp ha hb
      refine ⟨2 * x + c.toNat, ?_, ?_, ?_⟩
      · rw [Nat.pow_succ]; cases c <;> simp [Bool.toNat] <;> omega
      · rw [pc_b c (by omega)]; omega
      · rw [and_b, ha, hb]
    cases b with
    | true =>
      have h2' : 1 + pc q ≤ t := h2
      obtain ⟨x, hx, hp, ha⟩ := ex_set n q (t - 1) (by omega) hq (by omega) (by omega)
      exact mk2 true x hx (by show pc x + 1 = t; omega) ha rfl
    | false =>
      have h2' : 0 + pc q ≤ t := h2
      by_cases ht : t = n + 1
      · have hle : pc q ≤ n := pc_lt2 hq (by omega)
        obtain ⟨x, hx, hp, ha⟩ := ex_set n q (t - 1) (by omega) hq (by omega) (by omega)
        exact mk2 true x hx (by show pc x + 1 = t; omega) ha rfl
      · obtain ⟨x, hx, hp, ha⟩ := ex_set n q t (by omega) hq (by omega) (by omega)
        exact mk2 false x hx (by show pc x + 0 = t; omega) ha rfl
theorem sets_ne {n t fo : Nat} (hn : n ≤ 60) (hf : fo < 2 ^ n) (h2 : pc fo ≤ t) (h3 : t ≤ n) : 0 < (sets t fo (2 ^ n)).length := by
  obtain ⟨x, hx, hp, ha⟩ := ex_set n fo t hn hf h2 h3
  apply List.length_pos_of_mem (a := x)
  unfold sets
  rw [List.mem_filter]
  refine ⟨List.mem_range.mpr hx, ?_⟩
  unfold hs
  rw [decide_eq_true hp, decide_eq_true ha]
  rfl
theorem Dr_ne {g : Nat → Nat → Nat} (hg : GV g) : 0 < (Dr g).length := sets_ne (Nat.le_trans hg.2.1 (by decide)) (Nat.two_pow_pos _) (by rw [pc_0]; exact Nat.zero_le _) (Nat.le_of_lt hg.2.2.2.2.2.1)
theorem Po_ne {g : Nat → Nat → Nat} (hg : GV g) : 0 < (Po g).length := sets_ne (Nat.le_trans hg.2.1 (by decide)) hg.2.2.2.2.2.2.2.2.2.1 hg.2.2.2.2.2.2.2.2.2.2.1 (Nat.le_of_lt hg.2.2.2.1)

set_option maxHeartbeats 4000000 in
theorem st_year : St_year Inv := by
  intro v_x_pad_size v_x_pad_signs_cells v_x_play_n v_x_play_t v_x_play_d v_x_play_r v_x_play_fond v_x_play_ticketCount v_x_play_sightCount v_x_play_tickets_cells v_x_play_prizes_cells v_x_play_sightTickets_cells v_x_play_sightNumbers_cells v_x_play_sightKinds_cells v_x_wheel_held v_x_wheel_draws_size v_x_wheel_draws_members_cells v_x_wheel_possible_size v_x_wheel_possible_members_cells v_x_wheel_wonByPossible_low v_x_wheel_wonByPossible_high v_x_wheel_wonByHeld_low v_x_wheel_wonByHeld_high v_x_wheel_work_low v_x_wheel_work_high v_x_wheel_search_allDraws v_x_wheel_search_single v_x_wheel_search_reached_low v_x_wheel_search_reached_high v_x_wheel_search_chosen_cells v_x_wheel_search_mostOne_size v_x_wheel_search_mostOne_won v_x_wheel_search_mostOne_found v_x_wheel_search_mostOne_sought v_x_wheel_search_mostOne_tickets_cells v_x_wheel_search_mostTwo_size v_x_wheel_search_mostTwo_won v_x_wheel_search_mostTwo_found v_x_wheel_search_mostTwo_sought v_x_wheel_search_mostTwo_tickets_cells v_x_wheel_search_mostThree_size v_x_wheel_search_mostThree_won v_x_wheel_search_mostThree_found v_x_wheel_search_mostThree_sought v_x_wheel_search_mostThree_tickets_cells v_x_wheel_search_fewest_size v_x_wheel_search_fewest_won v_x_wheel_search_fewest_found v_x_wheel_search_fewest_sought v_x_wheel_search_fewest_tickets_cells v_x_imageZero_kept v_x_imageZero_play_n v_x_imageZero_play_t v_x_imageZero_play_d v_x_imageZero_play_r v_x_imageZero_play_fond v_x_imageZero_play_ticketCount v_x_imageZero_play_sightCount v_x_imageZero_play_tickets_cells v_x_imageZero_play_prizes_cells v_x_imageZero_play_sightTickets_cells v_x_imageZero_play_sightNumbers_cells v_x_imageZero_play_sightKinds_cells v_x_imageOne_kept v_x_imageOne_play_n v_x_imageOne_play_t v_x_imageOne_play_d v_x_imageOne_play_r v_x_imageOne_play_fond v_x_imageOne_play_ticketCount v_x_imageOne_play_sightCount v_x_imageOne_play_tickets_cells v_x_imageOne_play_prizes_cells v_x_imageOne_play_sightTickets_cells v_x_imageOne_play_sightNumbers_cells v_x_imageOne_play_sightKinds_cells v_m_numbers v_m_onTicket v_m_drawn v_m_due v_m_ticketMany v_m_fond v_m_sights v_m_drawMany v_m_setMany v_m_padMany v_m_low v_m_high v_m_couldMany v_m_keptAt v_m_isWriting v_m_tickets v_m_prizes v_m_sightTicket v_m_sightRight v_m_sightHow v_m_draws v_m_sets v_m_winsLow v_m_winsHigh v_m_pad v_m_could v_m_row v_m_best v_m_kept v_m_isKept p0 p1 p2 hI
  have hI0 := hI
  obtain ⟨g, g0, g1, pad, pn, k0, k1, hG, hG0, hG1, hk0, hk1, hpn, hpad, xpn, xpad, xpl, xk0, xi0, xk1, xi1, xw, xc1, xc2, xc3, xcf, mpl, md, mpn, mpad, mk0, mk1, mi0, mi1⟩ := hI
  have xpl0 := xpl
  have mpl0 := mpl
  have xw0 := xw
  have md0 := md
  obtain ⟨a1, a2, a3, a4, a5, a6, a7, a8, a9, a10⟩ := xpl
  obtain ⟨b1, b2, b3, b4, b5, b6, b7, b8, b9, b10⟩ := mpl
  obtain ⟨w1, w2, w3, w4, w5, w6, w7, w8, w9, w10, w11⟩ := xw
  obtain ⟨d1, d2, d3, d4, d5⟩ := md
  have hGV := hG
  obtain ⟨e1, e2, e3, e4, e5, e6, e7, e8, e9, e10, e11, e12, e13, e14, e15, e16⟩ := hGV
  subst xpn
  subst mpn
  subst xk0
  subst xk1
  subst a1
  subst a2
  subst a3
  subst a4
  subst a5
  subst a6
  subst a7
  subst b1
  subst b2
  subst b3
  subst b4
  subst b5
  subst b6
  subst b7
  subst w1
  subst w2
  subst w4
  subst w8
  subst w9
  subst d1
  subst d2
  unfold f_Main_year f_Model_year
  rw [show (0 : Int64) = (0 : Int32).toInt64 from rfl, show (1 : Int64) = (1 : Int32).toInt64 from rfl, show (9999 : Int64) = (9999 : Int32).toInt64 from rfl, show (99 : Int64) = (99 : Int32).toInt64 from rfl, in_e, in_e, in_e]
  rcases within_c p0 0 9999 with ⟨w, h1, h2⟩ | ⟨w, -⟩
  · obtain ⟨l, -, l2, rfl⟩ := betw (a := 0) (b := 9999) h1 h2 (by decide) (by decide)
    rw [w, bk1_s, bk1_s, if_neg (show ¬ (1 : Int32) = 0 by decide), if_neg (show ¬ (1 : Int32) = 0 by decide)]
    rcases within_c p1 1 99 with ⟨w', h1', h2'⟩ | ⟨w', -⟩
    · obtain ⟨m, -, m2, rfl⟩ := betw (a := 1) (b := 99) h1' h2' (by decide) (by decide)
      rw [w', bk1_s, bk1_s, if_neg (show ¬ (1 : Int32) = 0 by decide), if_neg (show ¬ (1 : Int32) = 0 by decide)]
      rcases within_c p2 0 1 with ⟨w'', -⟩ | ⟨w'', -⟩
      · rw [w'', bk1_s, bk1_s, if_neg (show ¬ (1 : Int32) = 0 by decide), if_neg (show ¬ (1 : Int32) = 0 by decide), show f_Sets_size (nI (Dr g).length) = some (nI (Dr g).length) from rfl, bk1_s]
        obtain ⟨y, z1, z2⟩ := year_e hG (Dr_ne hG) a8 a9 b8 b9 w3 d3 m2 m 0 300 l 0 0 (by omega) (by omega) (by omega)
        rw [show nI 0 = (0 : Int32) from rfl] at z1 z2
        rw [z1, z2]
        obtain ⟨y1, y2, y3, y4⟩ := y
        rw [bk4_s]
        by_cases h : p2 = 0
        · rw [if_pos h]
          exact ⟨_, rfl, rfl, hI0⟩
        · rw [if_neg h]
          exact ⟨_, rfl, rfl, hI0⟩
      · rw [w'']
        exact ⟨_, rfl, rfl, hI0⟩
    · rw [w']
      exact ⟨_, rfl, rfl, hI0⟩
  · rw [w]
    exact ⟨_, rfl, rfl, hI0⟩
