theorem cd_e {a b : Nat} (ha : a < 2 ^ 31) (hb : 0 < b) (hb2 : b ≤ 70) : ∀ (k n : Nat), Nat.gcd a b ≤ k → k ≤ 70 → k < n → lm1 (L_Main_commonDivisor_2 (nI a) (nI b) n (nI k)) (fun _ => some (1 : Int32)) = some (nI (Nat.gcd a b)) := by
  have hg : 0 < Nat.gcd a b := Nat.gcd_pos_of_pos_right _ hb
  intro k
  induction k with
  | zero => intro n h; omega
  | succ k ih =>
    intro n h hk hn
    obtain ⟨n, rfl⟩ : ∃ n', n = n' + 1 := ⟨n - 1, by omega⟩
    rw [L_Main_commonDivisor_2]
    by_cases h1 : k = 0
    · subst h1
      rw [if_pos (show nI (0 + 1) ≤ (1 : Int32) by decide), lm1_ok, show Nat.gcd a b = 1 by omega]
      rfl
    · rw [if_neg (show ¬ nI (k + 1) ≤ (1 : Int32) from nI_ge (a := 1) (by omega) (by omega)), dzN (by omega) (by omega), dzN (by omega) (by omega), pk_rem ha (by omega) (by omega), pk_rem (by omega) (by omega) (by omega), pk_m1]
      have m1 : a % (k + 1) < 2 ^ 31 := Nat.lt_of_le_of_lt (Nat.mod_le _ _) ha
      have m2 : b % (k + 1) < 2 ^ 31 := Nat.lt_of_le_of_lt (Nat.mod_le _ _) (by omega)
      have hne : ¬ (a % (k + 1) = 0 ∧ b % (k + 1) = 0) → Nat.gcd a b ≤ k := by
        intro hx
        rcases Nat.lt_or_ge k (Nat.gcd a b) with q | q
        · exfalso
          have e : Nat.gcd a b = k + 1 := by omega
          apply hx
          rw [← e]
          exact ⟨Nat.mod_eq_zero_of_dvd (Nat.gcd_dvd_left _ _), Nat.mod_eq_zero_of_dvd (Nat.gcd_dvd_right _ _)⟩
        · exact q
      by_cases c1 : a % (k + 1) = 0
      · rw [if_pos ((eq0 m1).mpr c1)]
        by_cases c2 : b % (k + 1) = 0
        · rw [if_pos ((eq0 m2).mpr c2), lm1_er]
          have := Nat.le_of_dvd hg (Nat.dvd_gcd (Nat.dvd_of_mod_eq_zero c1) (Nat.dvd_of_mod_eq_zero c2))
          rw [show Nat.gcd a b = k + 1 by omega]
        · rw [if_neg (fun e => c2 ((eq0 m2).mp e))]
          exact ih n (hne (fun x => c2 x.2)) (by omega) (by omega)
      · rw [if_neg (fun e => c1 ((eq0 m1).mp e))]
        exact ih n (hne (fun x => c1 x.1)) (by omega) (by omega)
theorem dzLN {α : Type} {b : Nat} {k : Option α} (h : 0 < b) (hb : b < 2 ^ 63) : dzL (lN b) k = k := if_neg (fun e => by
  have := (pk_lEQ (b := 0) hb (by decide)).mp e
  omega)
theorem eu_e : ∀ (m n x : Nat), m < n → m < 2 ^ 31 → x < 2 ^ 31 → L_Model_lowest_6 n (lN x) (lN m) = some (lN (Nat.gcd m x), 0) := by
  intro m
  induction m using Nat.strongRecOn with
  | _ m ih =>
    intro n x hn hm hx
    obtain ⟨n, rfl⟩ : ∃ n', n = n' + 1 := ⟨n - 1, by omega⟩
    rw [L_Model_lowest_6]
    by_cases h : m = 0
    · subst h
      rw [if_pos ((lg_zero (by decide)).mpr rfl), Nat.gcd_zero_left]
      rfl
    · rw [if_neg (fun e => h ((lg_zero (by omega)).mp e)), dzLN (by omega) (by omega), pk_lRem (by omega) (by omega) (by omega)]
      have hl : x % m < m := Nat.mod_lt _ (by omega)
      rw [ih (x % m) hl n m (by omega) (by omega) (by omega), Nat.gcd_rec m x]
theorem low_e {a b : Nat} (p : Int32) (ha : a < 2 ^ 31) (hb : 0 < b) (hb2 : b ≤ 70) : f_Model_lowest (lN a) (lN b) p = some (if p = 0 then lN (a / Nat.gcd a b) else lN (b / Nat.gcd a b)) := by
  have hg : 0 < Nat.gcd a b := Nat.gcd_pos_of_pos_right _ hb
  have hg2 : Nat.gcd a b ≤ b := Nat.gcd_le_right _ hb
  unfold f_Model_lowest
  have key : L_Model_lowest_6 300 (lN b) (lN a) = some (lN (Nat.gcd a b), 0) := by
    by_cases h : a = 0
    · subst h
      exact eu_e 0 300 b (by omega) (by omega) (by omega)
    · rw [L_Model_lowest_6, if_neg (fun e => h ((lg_zero (by omega)).mp e)), dzLN (by omega) (by omega), pk_lRem (by omega) (by omega) (by omega), eu_e (b % a) 299 a (Nat.lt_of_le_of_lt (Nat.mod_le _ _) (by omega)) (Nat.lt_of_le_of_lt (Nat.mod_le _ _) (by omega)) ha, ← Nat.gcd_rec a b]
  rw [key, bk2_s]
  by_cases h : p = 0
  · rw [if_pos h, if_pos h, dzLN hg (by omega), pk_lDiv (by omega) hg (by omega)]
  · rw [if_neg h, if_neg h, dzLN hg (by omega), pk_lDiv (by omega) hg (by omega)]
theorem tell_e {a b : Nat} (p : Int32) (ha : a < 2 ^ 31) (hb : 0 < b) (hb2 : b ≤ 70) : (f_Main_isWithin p 0 1 = some 1 → f_Main_tellFraction (nI a) (nI b) p = some (if p = 0 then lN (a / Nat.gcd a b) else lN (b / Nat.gcd a b))) ∧ (f_Main_isWithin p 0 1 = some 0 → f_Main_tellFraction (nI a) (nI b) p = some (-1000000000000000002)) := by
  have hg : 0 < Nat.gcd a b := Nat.gcd_pos_of_pos_right _ hb
  have hg2 : Nat.gcd a b ≤ b := Nat.gcd_le_right _ hb
  have key : f_Main_commonDivisor (nI a) (nI b) = some (nI (Nat.gcd a b)) := cd_e ha hb hb2 b 300 hg2 hb2 (by omega)
  unfold f_Main_tellFraction
  rw [key, bk1_s]
  constructor
  · intro w
    rw [w, bk1_s, if_neg (show ¬ (1 : Int32) = 0 by decide), if_pos (show (1 : Int32) ≤ nI (Nat.gcd a b) from nI_le (a := 1) hg (by omega)), dzN hg (by omega), dzN hg (by omega), pk_div ha hg (by omega), pk_div (by omega) hg (by omega), nI_l (Nat.lt_of_le_of_lt (Nat.div_le_self _ _) ha), nI_l (Nat.lt_of_le_of_lt (Nat.div_le_self _ _) (by omega))]
    by_cases h : p = 0
    · rw [if_pos h, if_pos h]
    · rw [if_neg h, if_neg h]
  · intro w
    rw [w, bk1_s, if_pos rfl]
def penS (g : Nat → Nat → Nat) : Nat → Nat
  | 0 => 0
  | k + 1 => penS g k + pen g (nth (Dr g) k) (g 0 5)
theorem penS_le {g : Nat → Nat → Nat} (hg : GV g) : ∀ k, penS g k ≤ 5994 * k
  | 0 => Nat.le_refl _
  | k + 1 => by
    have h1 := penS_le hg k
    have h2 := pen_le hg (nth (Dr g) k) (g 0 5) (Nat.le_refl _)
    have h3 : g 0 5 ≤ 6 := hg.2.2.2.2.2.2.2.2.2.2.2.1
    show penS g k + pen g (nth (Dr g) k) (g 0 5) ≤ _
    omega
theorem mean_e {g : Nat → Nat → Nat} {f P dc : Nat → Int32} (hg : GV g) (hf : ∀ i, i < g 0 5 → f i = nI (g 1 i)) (hP : ∀ i, i < 9 → P i = nI (g 2 i)) (hd : ∀ i, i < (Dr g).length → dc i = nI (nth (Dr g) i)) :
    L_Main_mean_4 (nI (g 0 5)) P f (nI (Dr g).length) dc 300 0 0 = some (nI (penS g (Dr g).length), nI (Dr g).length) ∧ L_Model_mean_19 (nI (Dr g).length) (nI (g 0 5)) dc P f 300 0 0 = some (lN (penS g (Dr g).length), nI (Dr g).length) := by
  have hD := Dr_70 hg
  constructor
  · have key := loopC (fun n i (s : Int32) => L_Main_mean_4 (nI (g 0 5)) P f (nI (Dr g).length) dc n s i) (Dr g).length (fun k => nI (penS g k)) ?_ (Dr g).length 0 300 (by omega) (by omega)
    · rw [show nI (penS g 0) = nI 0 from rfl] at key
      rw [show (0 : Int32) = nI 0 from rfl, key, show 300 - (Dr g).length = (299 - (Dr g).length) + 1 by omega, L_Main_mean_4, show f_Sets_size (nI (Dr g).length) = some (nI (Dr g).length) from rfl, bk1_s, if_pos (nI_le (Nat.le_refl _) (by omega))]
    · intro n k hk
      rw [L_Main_mean_4, show f_Sets_size (nI (Dr g).length) = some (nI (Dr g).length) from rfl, bk1_s, if_neg (nI_ge hk (by omega)), Sets_at_e (by omega), bk1_s, hd k hk, pen_e hg hf hP, bk1_s, nI_add, nI_1]
      rfl
  · have key := loopC (fun n i (s : Int64) => L_Model_mean_19 (nI (Dr g).length) (nI (g 0 5)) dc P f n s i) (Dr g).length (fun k => lN (penS g k)) ?_ (Dr g).length 0 300 (by omega) (by omega)
    · rw [show lN (penS g 0) = (0 : Int64) from rfl] at key
      rw [show (0 : Int32) = nI 0 from rfl, key, show 300 - (Dr g).length = (299 - (Dr g).length) + 1 by omega, L_Model_mean_19, if_pos (nI_le (Nat.le_refl _) (by omega))]
    · intro n k hk
      have h2 := pen_le hg (nth (Dr g) k) (g 0 5) (Nat.le_refl _)
      have h3 : g 0 5 ≤ 6 := hg.2.2.2.2.2.2.2.2.2.2.2.1
      rw [L_Model_mean_19, if_neg (nI_ge hk (by omega)), gdN (by omega) (by decide), nI_clamp (by omega), hd k hk, mpen_e hg hf hP, bk1_s, nI_l (by omega), lN_add, nI_1]
      rfl

set_option maxHeartbeats 4000000 in
theorem st_odds : St_odds Inv := by
  intro v_x_pad_size v_x_pad_signs_cells v_x_play_n v_x_play_t v_x_play_d v_x_play_r v_x_play_fond v_x_play_ticketCount v_x_play_sightCount v_x_play_tickets_cells v_x_play_prizes_cells v_x_play_sightTickets_cells v_x_play_sightNumbers_cells v_x_play_sightKinds_cells v_x_wheel_held v_x_wheel_draws_size v_x_wheel_draws_members_cells v_x_wheel_possible_size v_x_wheel_possible_members_cells v_x_wheel_wonByPossible_low v_x_wheel_wonByPossible_high v_x_wheel_wonByHeld_low v_x_wheel_wonByHeld_high v_x_wheel_work_low v_x_wheel_work_high v_x_wheel_search_allDraws v_x_wheel_search_single v_x_wheel_search_reached_low v_x_wheel_search_reached_high v_x_wheel_search_chosen_cells v_x_wheel_search_mostOne_size v_x_wheel_search_mostOne_won v_x_wheel_search_mostOne_found v_x_wheel_search_mostOne_sought v_x_wheel_search_mostOne_tickets_cells v_x_wheel_search_mostTwo_size v_x_wheel_search_mostTwo_won v_x_wheel_search_mostTwo_found v_x_wheel_search_mostTwo_sought v_x_wheel_search_mostTwo_tickets_cells v_x_wheel_search_mostThree_size v_x_wheel_search_mostThree_won v_x_wheel_search_mostThree_found v_x_wheel_search_mostThree_sought v_x_wheel_search_mostThree_tickets_cells v_x_wheel_search_fewest_size v_x_wheel_search_fewest_won v_x_wheel_search_fewest_found v_x_wheel_search_fewest_sought v_x_wheel_search_fewest_tickets_cells v_x_imageZero_kept v_x_imageZero_play_n v_x_imageZero_play_t v_x_imageZero_play_d v_x_imageZero_play_r v_x_imageZero_play_fond v_x_imageZero_play_ticketCount v_x_imageZero_play_sightCount v_x_imageZero_play_tickets_cells v_x_imageZero_play_prizes_cells v_x_imageZero_play_sightTickets_cells v_x_imageZero_play_sightNumbers_cells v_x_imageZero_play_sightKinds_cells v_x_imageOne_kept v_x_imageOne_play_n v_x_imageOne_play_t v_x_imageOne_play_d v_x_imageOne_play_r v_x_imageOne_play_fond v_x_imageOne_play_ticketCount v_x_imageOne_play_sightCount v_x_imageOne_play_tickets_cells v_x_imageOne_play_prizes_cells v_x_imageOne_play_sightTickets_cells v_x_imageOne_play_sightNumbers_cells v_x_imageOne_play_sightKinds_cells v_m_numbers v_m_onTicket v_m_drawn v_m_due v_m_ticketMany v_m_fond v_m_sights v_m_drawMany v_m_setMany v_m_padMany v_m_low v_m_high v_m_couldMany v_m_keptAt v_m_isWriting v_m_tickets v_m_prizes v_m_sightTicket v_m_sightRight v_m_sightHow v_m_draws v_m_sets v_m_winsLow v_m_winsHigh v_m_pad v_m_could v_m_row v_m_best v_m_kept v_m_isKept p0 hI
  have hI0 := hI
  obtain ⟨g, g0, g1, pad, pn, k0, k1, hG, hG0, hG1, hk0, hk1, hpn, hpad, xpn, xpad, xpl, xk0, xi0, xk1, xi1, xw, xc1, xc2, xc3, xcf, mpl, md, mpn, mpad, mk0, mk1, mi0, mi1⟩ := hI
  have xpl0 := xpl
  have mpl0 := mpl
  have xw0 := xw
  have md0 := md
  obtain ⟨a1, a2, a3, a4, a5, a6, a7, a8, a9, a10⟩ := xpl
  obtain ⟨b1, b2, b3, b4, b5, b6, b7, b8, b9, b10⟩ := mpl
  obtain ⟨w1, w2, w3, w4, w5, w6, w7, w8, w9, w10, w11⟩ := xw
  obtain ⟨d1, d2, d3, d4, d5⟩ := md
  have hGV := hG
  obtain ⟨e1, e2, e3, e4, e5, e6, e7, e8, e9, e10, e11, e12, e13, e14, e15, e16⟩ := hGV
  subst xpn
  subst mpn
  subst xk0
  subst xk1
  subst a1
  subst a2
  subst a3
  subst a4
  subst a5
  subst a6
  subst a7
  subst b1
  subst b2
  subst b3
  subst b4
  subst b5
  subst b6
  subst b7
  subst w1
  subst w2
  subst w4
  subst w8
  subst w9
  subst d1
  subst d2
  have hD : (Dr g).length ≤ 70 := Dr_70 hG
  have hD0 := Dr_ne hG
  have htk : ∀ i, i < g 0 5 → v_m_tickets i = nI (g 1 i) ∧ g 1 i < 256 := fun i hi => ⟨b8 i hi, e14 i hi⟩
  unfold f_Main_odds f_Model_odds
  have hall : f_Wheel_allTickets (nI (g 0 5)) = some (nI (2 ^ g 0 5 - 1)) := congrArg some (allN (by omega))
  have hct := fb_ct_le (un (butS (-6)) (g 1) (g 0 3) (Dr g) (g 0 5)) (Dr g).length
  rw [show (0 : Int64) = (0 : Int32).toInt64 from rfl, show (1 : Int64) = (1 : Int32).toInt64 from rfl, in_e, hall, bk1_s, countWon_e _ e12 hD w7, bk3_s, un_all e12, show f_Sets_size (nI (Dr g).length) = some (nI (Dr g).length) from rfl, bk1_s]
  obtain ⟨t1, t2⟩ := tell_e (a := fb_ct (un (butS (-6)) (g 1) (g 0 3) (Dr g) (g 0 5)) (Dr g).length) p0 (by omega) hD0 hD
  rcases within_c p0 0 1 with ⟨w, -⟩ | ⟨w, -⟩
  · rw [t1 w, w, bk1_s, bk1_s, if_neg (show ¬ (1 : Int32) = 0 by decide), flagsBut_e (-6) e12 (by omega) hD htk d3, bk2_s, flagged_e _ hD, bk1_s, nI_l (by omega), nI_l (by omega), low_e p0 (by omega) hD0 hD]
    exact ⟨_, _, _, _, _, rfl, rfl, hI0⟩
  · rw [t2 w, w]
    exact ⟨_, _, _, _, _, rfl, rfl, hI0⟩

set_option maxHeartbeats 4000000 in
theorem st_mean : St_mean Inv := by
  intro v_x_pad_size v_x_pad_signs_cells v_x_play_n v_x_play_t v_x_play_d v_x_play_r v_x_play_fond v_x_play_ticketCount v_x_play_sightCount v_x_play_tickets_cells v_x_play_prizes_cells v_x_play_sightTickets_cells v_x_play_sightNumbers_cells v_x_play_sightKinds_cells v_x_wheel_held v_x_wheel_draws_size v_x_wheel_draws_members_cells v_x_wheel_possible_size v_x_wheel_possible_members_cells v_x_wheel_wonByPossible_low v_x_wheel_wonByPossible_high v_x_wheel_wonByHeld_low v_x_wheel_wonByHeld_high v_x_wheel_work_low v_x_wheel_work_high v_x_wheel_search_allDraws v_x_wheel_search_single v_x_wheel_search_reached_low v_x_wheel_search_reached_high v_x_wheel_search_chosen_cells v_x_wheel_search_mostOne_size v_x_wheel_search_mostOne_won v_x_wheel_search_mostOne_found v_x_wheel_search_mostOne_sought v_x_wheel_search_mostOne_tickets_cells v_x_wheel_search_mostTwo_size v_x_wheel_search_mostTwo_won v_x_wheel_search_mostTwo_found v_x_wheel_search_mostTwo_sought v_x_wheel_search_mostTwo_tickets_cells v_x_wheel_search_mostThree_size v_x_wheel_search_mostThree_won v_x_wheel_search_mostThree_found v_x_wheel_search_mostThree_sought v_x_wheel_search_mostThree_tickets_cells v_x_wheel_search_fewest_size v_x_wheel_search_fewest_won v_x_wheel_search_fewest_found v_x_wheel_search_fewest_sought v_x_wheel_search_fewest_tickets_cells v_x_imageZero_kept v_x_imageZero_play_n v_x_imageZero_play_t v_x_imageZero_play_d v_x_imageZero_play_r v_x_imageZero_play_fond v_x_imageZero_play_ticketCount v_x_imageZero_play_sightCount v_x_imageZero_play_tickets_cells v_x_imageZero_play_prizes_cells v_x_imageZero_play_sightTickets_cells v_x_imageZero_play_sightNumbers_cells v_x_imageZero_play_sightKinds_cells v_x_imageOne_kept v_x_imageOne_play_n v_x_imageOne_play_t v_x_imageOne_play_d v_x_imageOne_play_r v_x_imageOne_play_fond v_x_imageOne_play_ticketCount v_x_imageOne_play_sightCount v_x_imageOne_play_tickets_cells v_x_imageOne_play_prizes_cells v_x_imageOne_play_sightTickets_cells v_x_imageOne_play_sightNumbers_cells v_x_imageOne_play_sightKinds_cells v_m_numbers v_m_onTicket v_m_drawn v_m_due v_m_ticketMany v_m_fond v_m_sights v_m_drawMany v_m_setMany v_m_padMany v_m_low v_m_high v_m_couldMany v_m_keptAt v_m_isWriting v_m_tickets v_m_prizes v_m_sightTicket v_m_sightRight v_m_sightHow v_m_draws v_m_sets v_m_winsLow v_m_winsHigh v_m_pad v_m_could v_m_row v_m_best v_m_kept v_m_isKept p0 hI
  have hI0 := hI
  obtain ⟨g, g0, g1, pad, pn, k0, k1, hG, hG0, hG1, hk0, hk1, hpn, hpad, xpn, xpad, xpl, xk0, xi0, xk1, xi1, xw, xc1, xc2, xc3, xcf, mpl, md, mpn, mpad, mk0, mk1, mi0, mi1⟩ := hI
  have xpl0 := xpl
  have mpl0 := mpl
  have xw0 := xw
  have md0 := md
  obtain ⟨a1, a2, a3, a4, a5, a6, a7, a8, a9, a10⟩ := xpl
  obtain ⟨b1, b2, b3, b4, b5, b6, b7, b8, b9, b10⟩ := mpl
  obtain ⟨w1, w2, w3, w4, w5, w6, w7, w8, w9, w10, w11⟩ := xw
  obtain ⟨d1, d2, d3, d4, d5⟩ := md
  have hGV := hG
  obtain ⟨e1, e2, e3, e4, e5, e6, e7, e8, e9, e10, e11, e12, e13, e14, e15, e16⟩ := hGV
  subst xpn
  subst mpn
  subst xk0
  subst xk1
  subst a1
  subst a2
  subst a3
  subst a4
  subst a5
  subst a6
  subst a7
  subst b1
  subst b2
  subst b3
  subst b4
  subst b5
  subst b6
  subst b7
  subst w1
  subst w2
  subst w4
  subst w8
  subst w9
  subst d1
  subst d2
  have hD : (Dr g).length ≤ 70 := Dr_70 hG
  have hD0 := Dr_ne hG
  have hS := penS_le hG (Dr g).length
  unfold f_Main_mean f_Model_mean
  rw [(mean_e hG a8 a9 w3).1, bk2_s, show f_Sets_size (nI (Dr g).length) = some (nI (Dr g).length) from rfl, bk1_s, (mean_e hG b8 b9 d3).2, bk2_s, show (0 : Int64) = (0 : Int32).toInt64 from rfl, show (1 : Int64) = (1 : Int32).toInt64 from rfl, in_e]
  obtain ⟨t1, t2⟩ := tell_e (a := penS g (Dr g).length) p0 (by omega) hD0 hD
  rcases within_c p0 0 1 with ⟨w, -⟩ | ⟨w, -⟩
  · rw [t1 w, w, bk1_s, bk1_s, if_neg (show ¬ (1 : Int32) = 0 by decide), nI_l (show (Dr g).length < 2 ^ 31 by omega), low_e p0 (by omega) hD0 hD]
    exact ⟨_, rfl, rfl, hI0⟩
  · rw [t2 w, w]
    exact ⟨_, rfl, rfl, hI0⟩
