set_option maxHeartbeats 4000000 in
theorem st_wipe : St_wipe Inv := by
  intro v_x_pad_size v_x_pad_signs_cells v_x_play_n v_x_play_t v_x_play_d v_x_play_r v_x_play_fond v_x_play_ticketCount v_x_play_sightCount v_x_play_tickets_cells v_x_play_prizes_cells v_x_play_sightTickets_cells v_x_play_sightNumbers_cells v_x_play_sightKinds_cells v_x_wheel_held v_x_wheel_draws_size v_x_wheel_draws_members_cells v_x_wheel_possible_size v_x_wheel_possible_members_cells v_x_wheel_wonByPossible_low v_x_wheel_wonByPossible_high v_x_wheel_wonByHeld_low v_x_wheel_wonByHeld_high v_x_wheel_work_low v_x_wheel_work_high v_x_wheel_search_allDraws v_x_wheel_search_single v_x_wheel_search_reached_low v_x_wheel_search_reached_high v_x_wheel_search_chosen_cells v_x_wheel_search_mostOne_size v_x_wheel_search_mostOne_won v_x_wheel_search_mostOne_found v_x_wheel_search_mostOne_sought v_x_wheel_search_mostOne_tickets_cells v_x_wheel_search_mostTwo_size v_x_wheel_search_mostTwo_won v_x_wheel_search_mostTwo_found v_x_wheel_search_mostTwo_sought v_x_wheel_search_mostTwo_tickets_cells v_x_wheel_search_mostThree_size v_x_wheel_search_mostThree_won v_x_wheel_search_mostThree_found v_x_wheel_search_mostThree_sought v_x_wheel_search_mostThree_tickets_cells v_x_wheel_search_fewest_size v_x_wheel_search_fewest_won v_x_wheel_search_fewest_found v_x_wheel_search_fewest_sought v_x_wheel_search_fewest_tickets_cells v_x_imageZero_kept v_x_imageZero_play_n v_x_imageZero_play_t v_x_imageZero_play_d v_x_imageZero_play_r v_x_imageZero_play_fond v_x_imageZero_play_ticketCount v_x_imageZero_play_sightCount v_x_imageZero_play_tickets_cells v_x_imageZero_play_prizes_cells v_x_imageZero_play_sightTickets_cells v_x_imageZero_play_sightNumbers_cells v_x_imageZero_play_sightKinds_cells v_x_imageOne_kept v_x_imageOne_play_n v_x_imageOne_play_t v_x_imageOne_play_d v_x_imageOne_play_r v_x_imageOne_play_fond v_x_imageOne_play_ticketCount v_x_imageOne_play_sightCount v_x_imageOne_play_tickets_cells v_x_imageOne_play_prizes_cells v_x_imageOne_play_sightTickets_cells v_x_imageOne_play_sightNumbers_cells v_x_imageOne_play_sightKinds_cells v_m_numbers v_m_onTicket v_m_drawn v_m_due v_m_ticketMany v_m_fond v_m_sights v_m_drawMany v_m_setMany v_m_padMany v_m_low v_m_high v_m_couldMany v_m_keptAt v_m_isWriting v_m_tickets v_m_prizes v_m_sightTicket v_m_sightRight v_m_sightHow v_m_draws v_m_sets v_m_winsLow v_m_winsHigh v_m_pad v_m_could v_m_row v_m_best v_m_kept v_m_isKept  hI
  have hI0 := hI
  obtain ⟨g, g0, g1, pad, pn, k0, k1, hG, hG0, hG1, hk0, hk1, hpn, hpad, xpn, xpad, xpl, xk0, xi0, xk1, xi1, xw, xc1, xc2, xc3, xcf, mpl, md, mpn, mpad, mk0, mk1, mi0, mi1⟩ := hI
  subst xpn
  subst mpn
  exact ⟨nI pn, 0, 0, rfl, rfl, ⟨g, g0, g1, pad, 0, k0, k1, hG, hG0, hG1, hk0, hk1, Nat.zero_le _, (fun i h => absurd h (Nat.not_lt_zero i)), rfl, (fun i h => absurd h (Nat.not_lt_zero i)), xpl, xk0, xi0, xk1, xi1, xw, xc1, xc2, xc3, xcf, mpl, md, rfl, (fun i h => absurd h (Nat.not_lt_zero i)), mk0, mk1, mi0, mi1⟩⟩

set_option maxHeartbeats 4000000 in
theorem st_say : St_say Inv := by
  intro v_x_pad_size v_x_pad_signs_cells v_x_play_n v_x_play_t v_x_play_d v_x_play_r v_x_play_fond v_x_play_ticketCount v_x_play_sightCount v_x_play_tickets_cells v_x_play_prizes_cells v_x_play_sightTickets_cells v_x_play_sightNumbers_cells v_x_play_sightKinds_cells v_x_wheel_held v_x_wheel_draws_size v_x_wheel_draws_members_cells v_x_wheel_possible_size v_x_wheel_possible_members_cells v_x_wheel_wonByPossible_low v_x_wheel_wonByPossible_high v_x_wheel_wonByHeld_low v_x_wheel_wonByHeld_high v_x_wheel_work_low v_x_wheel_work_high v_x_wheel_search_allDraws v_x_wheel_search_single v_x_wheel_search_reached_low v_x_wheel_search_reached_high v_x_wheel_search_chosen_cells v_x_wheel_search_mostOne_size v_x_wheel_search_mostOne_won v_x_wheel_search_mostOne_found v_x_wheel_search_mostOne_sought v_x_wheel_search_mostOne_tickets_cells v_x_wheel_search_mostTwo_size v_x_wheel_search_mostTwo_won v_x_wheel_search_mostTwo_found v_x_wheel_search_mostTwo_sought v_x_wheel_search_mostTwo_tickets_cells v_x_wheel_search_mostThree_size v_x_wheel_search_mostThree_won v_x_wheel_search_mostThree_found v_x_wheel_search_mostThree_sought v_x_wheel_search_mostThree_tickets_cells v_x_wheel_search_fewest_size v_x_wheel_search_fewest_won v_x_wheel_search_fewest_found v_x_wheel_search_fewest_sought v_x_wheel_search_fewest_tickets_cells v_x_imageZero_kept v_x_imageZero_play_n v_x_imageZero_play_t v_x_imageZero_play_d v_x_imageZero_play_r v_x_imageZero_play_fond v_x_imageZero_play_ticketCount v_x_imageZero_play_sightCount v_x_imageZero_play_tickets_cells v_x_imageZero_play_prizes_cells v_x_imageZero_play_sightTickets_cells v_x_imageZero_play_sightNumbers_cells v_x_imageZero_play_sightKinds_cells v_x_imageOne_kept v_x_imageOne_play_n v_x_imageOne_play_t v_x_imageOne_play_d v_x_imageOne_play_r v_x_imageOne_play_fond v_x_imageOne_play_ticketCount v_x_imageOne_play_sightCount v_x_imageOne_play_tickets_cells v_x_imageOne_play_prizes_cells v_x_imageOne_play_sightTickets_cells v_x_imageOne_play_sightNumbers_cells v_x_imageOne_play_sightKinds_cells v_m_numbers v_m_onTicket v_m_drawn v_m_due v_m_ticketMany v_m_fond v_m_sights v_m_drawMany v_m_setMany v_m_padMany v_m_low v_m_high v_m_couldMany v_m_keptAt v_m_isWriting v_m_tickets v_m_prizes v_m_sightTicket v_m_sightRight v_m_sightHow v_m_draws v_m_sets v_m_winsLow v_m_winsHigh v_m_pad v_m_could v_m_row v_m_best v_m_kept v_m_isKept p0 hI
  have hI0 := hI
  obtain ⟨g, g0, g1, pad, pn, k0, k1, hG, hG0, hG1, hk0, hk1, hpn, hpad, xpn, xpad, xpl, xk0, xi0, xk1, xi1, xw, xc1, xc2, xc3, xcf, mpl, md, mpn, mpad, mk0, mk1, mi0, mi1⟩ := hI
  subst xpn
  subst mpn
  unfold f_Main_say f_Model_say
  rw [show (33 : Int64) = (33 : Int32).toInt64 from rfl, show (126 : Int64) = (126 : Int32).toInt64 from rfl, in_e]
  rcases within_c p0 33 126 with ⟨w, h1, h2⟩ | ⟨w, -⟩
  · rw [w, bk1_s, bk1_s, if_neg (by decide), if_neg (by decide), show f_Pad_size (nI pn) = some (nI pn) from rfl, bk1_s]
    obtain ⟨j, j1, j2, rfl⟩ := betw (a := 33) (b := 126) h1 h2 (by decide) (by decide)
    by_cases h : pn < 60
    · rw [if_pos (show nI pn < (60 : Int32) from nI_lt (b := 60) h (by decide)), if_neg (show ¬ nI pn = (60 : Int32) from fun e => Nat.ne_of_lt h ((nI_eq (b := 60) (by omega) (by decide)).mp e)), gdN h (by decide), nI_clamp (by omega)]
      unfold f_Pad_add
      rw [Row_put_e h (by decide), bk1_s, bk2_s, nI_1, show f_Pad_size (nI (pn + 1)) = some (nI (pn + 1)) from rfl, bk1_s]
      refine ⟨nI (pn + 1), nI (pn + 1), upd v_x_pad_signs_cells pn (nI j), nI (pn + 1), upd v_m_pad pn (nI j), rfl, rfl, ⟨g, g0, g1, (fun i => if i = pn then j else pad i), pn + 1, k0, k1, hG, hG0, hG1, hk0, hk1, h, ?_, rfl, ?_, xpl, xk0, xi0, xk1, xi1, xw, xc1, xc2, xc3, xcf, mpl, md, rfl, ?_, mk0, mk1, mi0, mi1⟩⟩
      · intro i hi
        by_cases e : i = pn
        · subst e; simp only [if_true]; exact ⟨j1, j2⟩
        · simp only [if_neg e]; exact hpad i (by omega)
      · intro i hi
        by_cases e : i = pn
        · subst e; simp [upd]
        · simp only [upd, if_neg e]; exact xpad i (by omega)
      · intro i hi
        by_cases e : i = pn
        · subst e; simp [upd]
        · simp only [upd, if_neg e]; exact mpad i (by omega)
    · have e : pn = 60 := by omega
      subst e
      rw [if_neg (show ¬ nI 60 < (60 : Int32) by decide), if_pos (show nI 60 = (60 : Int32) from rfl)]
      exact ⟨-4, _, _, _, _, rfl, rfl, hI0⟩
  · rw [w, bk1_s, bk1_s, if_pos rfl, if_pos rfl]
    exact ⟨-2, _, _, _, _, rfl, rfl, hI0⟩

theorem has_e (c : Nat) (x : Int32) (hc : c ≤ 6) : (∃ j, j < c ∧ x = nI j ∧ f_Play_hasTicket (nI c) x = some 1 ∧ f_Model_isTicket (nI c) x = some 1) ∨ (f_Play_hasTicket (nI c) x = some 0 ∧ f_Model_isTicket (nI c) x = some 0) := by
  unfold f_Play_hasTicket f_Model_isTicket
  rw [show (0 : Int64) = (0 : Int32).toInt64 from rfl, in_e]
  rcases within_c x 0 (nI c - 1) with ⟨w, h1, h2⟩ | ⟨w, -⟩
  · left
    rw [w]
    cases c with
    | zero =>
      rw [Int32.lt_iff_toInt_lt] at h1 h2
      rw [show (nI 0 - 1 : Int32) = -1 from rfl] at h2
      have e1 : (0 : Int32).toInt = 0 := rfl
      have e2 : (-1 : Int32).toInt = -1 := rfl
      omega
    | succ c =>
      rw [nI_pred] at h2
      obtain ⟨j, j1, j2, rfl⟩ := betw (a := 0) (b := c) h1 h2 (by decide) (by omega)
      exact ⟨j, by omega, rfl, rfl, rfl⟩
  · right
    rw [w]
    exact ⟨rfl, rfl⟩

set_option maxHeartbeats 4000000 in
theorem st_ticket : St_ticket Inv := by
  intro v_x_pad_size v_x_pad_signs_cells v_x_play_n v_x_play_t v_x_play_d v_x_play_r v_x_play_fond v_x_play_ticketCount v_x_play_sightCount v_x_play_tickets_cells v_x_play_prizes_cells v_x_play_sightTickets_cells v_x_play_sightNumbers_cells v_x_play_sightKinds_cells v_x_wheel_held v_x_wheel_draws_size v_x_wheel_draws_members_cells v_x_wheel_possible_size v_x_wheel_possible_members_cells v_x_wheel_wonByPossible_low v_x_wheel_wonByPossible_high v_x_wheel_wonByHeld_low v_x_wheel_wonByHeld_high v_x_wheel_work_low v_x_wheel_work_high v_x_wheel_search_allDraws v_x_wheel_search_single v_x_wheel_search_reached_low v_x_wheel_search_reached_high v_x_wheel_search_chosen_cells v_x_wheel_search_mostOne_size v_x_wheel_search_mostOne_won v_x_wheel_search_mostOne_found v_x_wheel_search_mostOne_sought v_x_wheel_search_mostOne_tickets_cells v_x_wheel_search_mostTwo_size v_x_wheel_search_mostTwo_won v_x_wheel_search_mostTwo_found v_x_wheel_search_mostTwo_sought v_x_wheel_search_mostTwo_tickets_cells v_x_wheel_search_mostThree_size v_x_wheel_search_mostThree_won v_x_wheel_search_mostThree_found v_x_wheel_search_mostThree_sought v_x_wheel_search_mostThree_tickets_cells v_x_wheel_search_fewest_size v_x_wheel_search_fewest_won v_x_wheel_search_fewest_found v_x_wheel_search_fewest_sought v_x_wheel_search_fewest_tickets_cells v_x_imageZero_kept v_x_imageZero_play_n v_x_imageZero_play_t v_x_imageZero_play_d v_x_imageZero_play_r v_x_imageZero_play_fond v_x_imageZero_play_ticketCount v_x_imageZero_play_sightCount v_x_imageZero_play_tickets_cells v_x_imageZero_play_prizes_cells v_x_imageZero_play_sightTickets_cells v_x_imageZero_play_sightNumbers_cells v_x_imageZero_play_sightKinds_cells v_x_imageOne_kept v_x_imageOne_play_n v_x_imageOne_play_t v_x_imageOne_play_d v_x_imageOne_play_r v_x_imageOne_play_fond v_x_imageOne_play_ticketCount v_x_imageOne_play_sightCount v_x_imageOne_play_tickets_cells v_x_imageOne_play_prizes_cells v_x_imageOne_play_sightTickets_cells v_x_imageOne_play_sightNumbers_cells v_x_imageOne_play_sightKinds_cells v_m_numbers v_m_onTicket v_m_drawn v_m_due v_m_ticketMany v_m_fond v_m_sights v_m_drawMany v_m_setMany v_m_padMany v_m_low v_m_high v_m_couldMany v_m_keptAt v_m_isWriting v_m_tickets v_m_prizes v_m_sightTicket v_m_sightRight v_m_sightHow v_m_draws v_m_sets v_m_winsLow v_m_winsHigh v_m_pad v_m_could v_m_row v_m_best v_m_kept v_m_isKept p0 hI
  have hI0 := hI
  obtain ⟨g, g0, g1, pad, pn, k0, k1, hG, hG0, hG1, hk0, hk1, hpn, hpad, xpn, xpad, xpl, xk0, xi0, xk1, xi1, xw, xc1, xc2, xc3, xcf, mpl, md, mpn, mpad, mk0, mk1, mi0, mi1⟩ := hI
  have xpl0 := xpl
  have mpl0 := mpl
  have xw0 := xw
  have md0 := md
  obtain ⟨a1, a2, a3, a4, a5, a6, a7, a8, a9, a10⟩ := xpl
  obtain ⟨b1, b2, b3, b4, b5, b6, b7, b8, b9, b10⟩ := mpl
  obtain ⟨w1, w2, w3, w4, w5, w6, w7, w8, w9, w10, w11⟩ := xw
  obtain ⟨d1, d2, d3, d4, d5⟩ := md
  have hGV := hG
  obtain ⟨e1, e2, e3, e4, e5, e6, e7, e8, e9, e10, e11, e12, e13, e14, e15, e16⟩ := hGV
  subst xpn
  subst mpn
  subst xk0
  subst xk1
  subst a1
  subst a2
  subst a3
  subst a4
  subst a5
  subst a6
  subst a7
  subst b1
  subst b2
  subst b3
  subst b4
  subst b5
  subst b6
  subst b7
  subst w1
  subst w2
  subst w4
  subst w8
  subst w9
  subst d1
  subst d2
  unfold f_Main_ticket f_Model_ticket
  rcases has_e (g 0 5) p0 e12 with ⟨j, hj, rfl, w1, w2⟩ | ⟨w1, w2⟩
  · rw [w1, w2, bk1_s, bk1_s, if_neg (by decide), if_neg (by decide), Row_at_e (by omega) (by decide), gdN (by omega) (by decide), nI_clamp (by omega), a8 j hj, b8 j hj]
    exact ⟨_, rfl, rfl, hI0⟩
  · rw [w1, w2]
    exact ⟨_, rfl, rfl, hI0⟩

set_option maxHeartbeats 4000000 in
theorem st_told : St_told Inv := by
  intro v_x_pad_size v_x_pad_signs_cells v_x_play_n v_x_play_t v_x_play_d v_x_play_r v_x_play_fond v_x_play_ticketCount v_x_play_sightCount v_x_play_tickets_cells v_x_play_prizes_cells v_x_play_sightTickets_cells v_x_play_sightNumbers_cells v_x_play_sightKinds_cells v_x_wheel_held v_x_wheel_draws_size v_x_wheel_draws_members_cells v_x_wheel_possible_size v_x_wheel_possible_members_cells v_x_wheel_wonByPossible_low v_x_wheel_wonByPossible_high v_x_wheel_wonByHeld_low v_x_wheel_wonByHeld_high v_x_wheel_work_low v_x_wheel_work_high v_x_wheel_search_allDraws v_x_wheel_search_single v_x_wheel_search_reached_low v_x_wheel_search_reached_high v_x_wheel_search_chosen_cells v_x_wheel_search_mostOne_size v_x_wheel_search_mostOne_won v_x_wheel_search_mostOne_found v_x_wheel_search_mostOne_sought v_x_wheel_search_mostOne_tickets_cells v_x_wheel_search_mostTwo_size v_x_wheel_search_mostTwo_won v_x_wheel_search_mostTwo_found v_x_wheel_search_mostTwo_sought v_x_wheel_search_mostTwo_tickets_cells v_x_wheel_search_mostThree_size v_x_wheel_search_mostThree_won v_x_wheel_search_mostThree_found v_x_wheel_search_mostThree_sought v_x_wheel_search_mostThree_tickets_cells v_x_wheel_search_fewest_size v_x_wheel_search_fewest_won v_x_wheel_search_fewest_found v_x_wheel_search_fewest_sought v_x_wheel_search_fewest_tickets_cells v_x_imageZero_kept v_x_imageZero_play_n v_x_imageZero_play_t v_x_imageZero_play_d v_x_imageZero_play_r v_x_imageZero_play_fond v_x_imageZero_play_ticketCount v_x_imageZero_play_sightCount v_x_imageZero_play_tickets_cells v_x_imageZero_play_prizes_cells v_x_imageZero_play_sightTickets_cells v_x_imageZero_play_sightNumbers_cells v_x_imageZero_play_sightKinds_cells v_x_imageOne_kept v_x_imageOne_play_n v_x_imageOne_play_t v_x_imageOne_play_d v_x_imageOne_play_r v_x_imageOne_play_fond v_x_imageOne_play_ticketCount v_x_imageOne_play_sightCount v_x_imageOne_play_tickets_cells v_x_imageOne_play_prizes_cells v_x_imageOne_play_sightTickets_cells v_x_imageOne_play_sightNumbers_cells v_x_imageOne_play_sightKinds_cells v_m_numbers v_m_onTicket v_m_drawn v_m_due v_m_ticketMany v_m_fond v_m_sights v_m_drawMany v_m_setMany v_m_padMany v_m_low v_m_high v_m_couldMany v_m_keptAt v_m_isWriting v_m_tickets v_m_prizes v_m_sightTicket v_m_sightRight v_m_sightHow v_m_draws v_m_sets v_m_winsLow v_m_winsHigh v_m_pad v_m_could v_m_row v_m_best v_m_kept v_m_isKept p0 hI
  have hI0 := hI
  obtain ⟨g, g0, g1, pad, pn, k0, k1, hG, hG0, hG1, hk0, hk1, hpn, hpad, xpn, xpad, xpl, xk0, xi0, xk1, xi1, xw, xc1, xc2, xc3, xcf, mpl, md, mpn, mpad, mk0, mk1, mi0, mi1⟩ := hI
  have xpl0 := xpl
  have mpl0 := mpl
  have xw0 := xw
  have md0 := md
  obtain ⟨a1, a2, a3, a4, a5, a6, a7, a8, a9, a10⟩ := xpl
  obtain ⟨b1, b2, b3, b4, b5, b6, b7, b8, b9, b10⟩ := mpl
  obtain ⟨w1, w2, w3, w4, w5, w6, w7, w8, w9, w10, w11⟩ := xw
  obtain ⟨d1, d2, d3, d4, d5⟩ := md
  have hGV := hG
  obtain ⟨e1, e2, e3, e4, e5, e6, e7, e8, e9, e10, e11, e12, e13, e14, e15, e16⟩ := hGV
  subst xpn
  subst mpn
  subst xk0
  subst xk1
  subst a1
  subst a2
  subst a3
  subst a4
  subst a5
  subst a6
  subst a7
  subst b1
  subst b2
  subst b3
  subst b4
  subst b5
  subst b6
  subst b7
  subst w1
  subst w2
  subst w4
  subst w8
  subst w9
  subst d1
  subst d2
  unfold f_Main_told f_Model_told
  rw [show (10 : Int64) = (10 : Int32).toInt64 from rfl, show (18 : Int64) = (18 : Int32).toInt64 from rfl, in_e]
  rcases within_c p0 10 18 with ⟨w, h1, h2⟩ | ⟨w, -⟩
  · rw [w, bk1_s, bk1_s, if_neg (by decide), if_neg (by decide)]
    obtain ⟨j, j1, j2, rfl⟩ := betw (a := 10) (b := 18) h1 h2 (by decide) (by decide)
    rw [show nI j - (10 : Int32) = nI (j - 10) from pk_sub (b := 10) j1, Row_at_e (by omega) (by decide), gdN (by omega) (by decide), nI_clamp (by omega), a9 _ (by omega), b9 _ (by omega)]
    exact ⟨_, rfl, rfl, hI0⟩
  · rw [w, bk1_s, bk1_s, if_pos rfl, if_pos rfl]
    by_cases c0 : p0 = 0
    · rw [if_pos c0, if_pos c0]; exact ⟨_, rfl, rfl, hI0⟩
    rw [if_neg c0, if_neg c0]
    by_cases c1 : p0 = 1
    · rw [if_pos c1]; exact ⟨_, rfl, rfl, hI0⟩
    rw [if_neg c1]
    by_cases c2 : p0 = 2
    · rw [if_pos c2]; exact ⟨_, rfl, rfl, hI0⟩
    rw [if_neg c2]
    by_cases c3 : p0 = 3
    · rw [if_pos c3]; exact ⟨_, rfl, rfl, hI0⟩
    rw [if_neg c3]
    by_cases c4 : p0 = 4
    · rw [if_pos c4]; exact ⟨_, rfl, rfl, hI0⟩
    rw [if_neg c4]
    by_cases c5 : p0 = 5
    · rw [if_pos c5]; exact ⟨_, rfl, rfl, hI0⟩
    rw [if_neg c5]
    by_cases c6 : p0 = 6
    · rw [if_pos c6]; exact ⟨_, rfl, rfl, hI0⟩
    rw [if_neg c6]
    by_cases c7 : p0 = 7
    · rw [if_pos c7]; exact ⟨_, rfl, rfl, hI0⟩
    rw [if_neg c7]
    exact ⟨_, rfl, rfl, hI0⟩

def gi (g : Nat → Nat → Nat) (i v : Nat) : Nat → Nat → Nat := fun x y => if x = 0 ∧ y = i then v else g x y
def ga (g : Nat → Nat → Nat) (a : Nat) (f : Nat → Nat) : Nat → Nat → Nat := fun x y => if x = a then f y else g x y
theorem Dr_c {g g' : Nat → Nat → Nat} (h0 : g 0 0 = g' 0 0) (h2 : g 0 2 = g' 0 2) : Dr g' = Dr g := by unfold Dr; rw [h0, h2]
theorem Se_c {g g' : Nat → Nat → Nat} (h0 : g 0 0 = g' 0 0) (h1 : g 0 1 = g' 0 1) : Se g' = Se g := by unfold Se; rw [h0, h1]
theorem Po_c {g g' : Nat → Nat → Nat} (h0 : g 0 0 = g' 0 0) (h1 : g 0 1 = g' 0 1) (h4 : g 0 4 = g' 0 4) : Po g' = Po g := by unfold Po; rw [h0, h1, h4]
/-- the tables hang on the game, the fond numbers and the tickets alone -/
theorem WX_c {g g' : Nat → Nat → Nat} (h0 : g 0 0 = g' 0 0) (h1 : g 0 1 = g' 0 1) (h2 : g 0 2 = g' 0 2) (h3 : g 0 3 = g' 0 3) (h4 : g 0 4 = g' 0 4) (h5 : g 0 5 = g' 0 5) (ht : g 1 = g' 1) {held ds : Int32} {dc : Nat → Int32} {ps : Int32} {pcs : Nat → Int32} {wpl wph whl whh : Nat → Int64} {ad sg : Int32} {r0 r1 : Nat → Int64} (h : WX g held ds dc ps pcs wpl wph whl whh ad sg r0 r1) : WX g' held ds dc ps pcs wpl wph whl whh ad sg r0 r1 := by
  unfold WX at h ⊢
  rw [Dr_c h0 h2, Po_c h0 h1 h4, ← h3, ← h5, ← ht]
  exact h
theorem MD_c {g g' : Nat → Nat → Nat} (h0 : g 0 0 = g' 0 0) (h1 : g 0 1 = g' 0 1) (h2 : g 0 2 = g' 0 2) (h3 : g 0 3 = g' 0 3) {dm sm : Int32} {dc sc : Nat → Int32} {wlo whi : Nat → Int64} (h : MD g dm sm dc sc wlo whi) : MD g' dm sm dc sc wlo whi := by
  unfold MD at h ⊢
  rw [Dr_c h0 h2, Se_c h0 h1, ← h3]
  exact h
theorem cval_c {g g' : Nat → Nat → Nat} (h0 : g 0 0 = g' 0 0) (h1 : g 0 1 = g' 0 1) (h2 : g 0 2 = g' 0 2) (h3 : g 0 3 = g' 0 3) (h4 : g 0 4 = g' 0 4) : cval g' = cval g := by
  funext c
  unfold cval cov
  rw [Dr_c h0 h2, Po_c h0 h1 h4, ← h3]
theorem MS_c {g g' : Nat → Nat → Nat} (h0 : g 0 0 = g' 0 0) (h1 : g 0 1 = g' 0 1) (h2 : g 0 2 = g' 0 2) (h3 : g 0 3 = g' 0 3) (h4 : g 0 4 = g' 0 4) (k : Nat) : MS g' k = MS g k := by
  have e : bstep g' = bstep g := by
    funext b c
    unfold bstep
    rw [cval_c h0 h1 h2 h3 h4]
  unfold MS
  rw [e, Po_c h0 h1 h4]
theorem FS_c {g g' : Nat → Nat → Nat} (h0 : g 0 0 = g' 0 0) (h1 : g 0 1 = g' 0 1) (h2 : g 0 2 = g' 0 2) (h3 : g 0 3 = g' 0 3) (h4 : g 0 4 = g' 0 4) : FS g' = FS g := by
  unfold FS FA
  rw [cval_c h0 h1 h2 h3 h4, Po_c h0 h1 h4, Dr_c h0 h2]
theorem CK_c {g g' : Nat → Nat → Nat} (h0 : g 0 0 = g' 0 0) (h1 : g 0 1 = g' 0 1) (h2 : g 0 2 = g' 0 2) (h3 : g 0 3 = g' 0 3) (h4 : g 0 4 = g' 0 4) {k : Nat} {a b c d : Int32} {f : Nat → Int32} (h : CK g k a b c d f) : CK g' k a b c d f := by
  unfold CK at h ⊢
  rw [MS_c h0 h1 h2 h3 h4, Po_c h0 h1 h4]
  exact h
theorem CF_c {g g' : Nat → Nat → Nat} (h0 : g 0 0 = g' 0 0) (h1 : g 0 1 = g' 0 1) (h2 : g 0 2 = g' 0 2) (h3 : g 0 3 = g' 0 3) (h4 : g 0 4 = g' 0 4) {a b c d : Int32} {f : Nat → Int32} (h : CF g a b c d f) : CF g' a b c d f := by
  unfold CF at h ⊢
  rw [FS_c h0 h1 h2 h3 h4, Po_c h0 h1 h4]
  exact h
theorem no_lt {P : Nat → Prop} : ∀ i, i < 0 → P i := fun i h => absurd h (Nat.not_lt_zero i)

set_option maxHeartbeats 4000000 in
theorem st_forget : St_forget Inv := by
  intro v_x_pad_size v_x_pad_signs_cells v_x_play_n v_x_play_t v_x_play_d v_x_play_r v_x_play_fond v_x_play_ticketCount v_x_play_sightCount v_x_play_tickets_cells v_x_play_prizes_cells v_x_play_sightTickets_cells v_x_play_sightNumbers_cells v_x_play_sightKinds_cells v_x_wheel_held v_x_wheel_draws_size v_x_wheel_draws_members_cells v_x_wheel_possible_size v_x_wheel_possible_members_cells v_x_wheel_wonByPossible_low v_x_wheel_wonByPossible_high v_x_wheel_wonByHeld_low v_x_wheel_wonByHeld_high v_x_wheel_work_low v_x_wheel_work_high v_x_wheel_search_allDraws v_x_wheel_search_single v_x_wheel_search_reached_low v_x_wheel_search_reached_high v_x_wheel_search_chosen_cells v_x_wheel_search_mostOne_size v_x_wheel_search_mostOne_won v_x_wheel_search_mostOne_found v_x_wheel_search_mostOne_sought v_x_wheel_search_mostOne_tickets_cells v_x_wheel_search_mostTwo_size v_x_wheel_search_mostTwo_won v_x_wheel_search_mostTwo_found v_x_wheel_search_mostTwo_sought v_x_wheel_search_mostTwo_tickets_cells v_x_wheel_search_mostThree_size v_x_wheel_search_mostThree_won v_x_wheel_search_mostThree_found v_x_wheel_search_mostThree_sought v_x_wheel_search_mostThree_tickets_cells v_x_wheel_search_fewest_size v_x_wheel_search_fewest_won v_x_wheel_search_fewest_found v_x_wheel_search_fewest_sought v_x_wheel_search_fewest_tickets_cells v_x_imageZero_kept v_x_imageZero_play_n v_x_imageZero_play_t v_x_imageZero_play_d v_x_imageZero_play_r v_x_imageZero_play_fond v_x_imageZero_play_ticketCount v_x_imageZero_play_sightCount v_x_imageZero_play_tickets_cells v_x_imageZero_play_prizes_cells v_x_imageZero_play_sightTickets_cells v_x_imageZero_play_sightNumbers_cells v_x_imageZero_play_sightKinds_cells v_x_imageOne_kept v_x_imageOne_play_n v_x_imageOne_play_t v_x_imageOne_play_d v_x_imageOne_play_r v_x_imageOne_play_fond v_x_imageOne_play_ticketCount v_x_imageOne_play_sightCount v_x_imageOne_play_tickets_cells v_x_imageOne_play_prizes_cells v_x_imageOne_play_sightTickets_cells v_x_imageOne_play_sightNumbers_cells v_x_imageOne_play_sightKinds_cells v_m_numbers v_m_onTicket v_m_drawn v_m_due v_m_ticketMany v_m_fond v_m_sights v_m_drawMany v_m_setMany v_m_padMany v_m_low v_m_high v_m_couldMany v_m_keptAt v_m_isWriting v_m_tickets v_m_prizes v_m_sightTicket v_m_sightRight v_m_sightHow v_m_draws v_m_sets v_m_winsLow v_m_winsHigh v_m_pad v_m_could v_m_row v_m_best v_m_kept v_m_isKept  hI
  have hI0 := hI
  obtain ⟨g, g0, g1, pad, pn, k0, k1, hG, hG0, hG1, hk0, hk1, hpn, hpad, xpn, xpad, xpl, xk0, xi0, xk1, xi1, xw, xc1, xc2, xc3, xcf, mpl, md, mpn, mpad, mk0, mk1, mi0, mi1⟩ := hI
  have xpl0 := xpl
  have mpl0 := mpl
  have xw0 := xw
  have md0 := md
  obtain ⟨a1, a2, a3, a4, a5, a6, a7, a8, a9, a10⟩ := xpl
  obtain ⟨b1, b2, b3, b4, b5, b6, b7, b8, b9, b10⟩ := mpl
  obtain ⟨w1, w2, w3, w4, w5, w6, w7, w8, w9, w10, w11⟩ := xw
  obtain ⟨d1, d2, d3, d4, d5⟩ := md
  have hGV := hG
  obtain ⟨e1, e2, e3, e4, e5, e6, e7, e8, e9, e10, e11, e12, e13, e14, e15, e16⟩ := hGV
  subst xpn
  subst mpn
  subst xk0
  subst xk1
  subst a1
  subst a2
  subst a3
  subst a4
  subst a5
  subst a6
  subst a7
  subst b1
  subst b2
  subst b3
  subst b4
  subst b5
  subst b6
  subst b7
  subst w1
  subst w2
  subst w4
  subst w8
  subst w9
  subst d1
  subst d2
  exact ⟨nI (g 0 6), 0, 0, rfl, rfl, ⟨gi g 6 0, g0, g1, pad, pn, k0, k1, ⟨e1, e2, e3, e4, e5, e6, e7, e8, e9, e10, e11, e12, Nat.zero_le _, e14, e15, no_lt⟩, hG0, hG1, hk0, hk1, hpn, hpad, rfl, xpad, ⟨rfl, rfl, rfl, rfl, rfl, rfl, rfl, a8, a9, no_lt⟩, rfl, xi0, rfl, xi1, WX_c rfl rfl rfl rfl rfl rfl rfl xw0, CK_c rfl rfl rfl rfl rfl xc1, CK_c rfl rfl rfl rfl rfl xc2, CK_c rfl rfl rfl rfl rfl xc3, CF_c rfl rfl rfl rfl rfl xcf, ⟨rfl, rfl, rfl, rfl, rfl, rfl, rfl, b8, b9, no_lt⟩, MD_c rfl rfl rfl rfl md0, rfl, mpad, mk0, mk1, mi0, mi1⟩⟩

set_option maxHeartbeats 4000000 in
theorem st_prize : St_prize Inv := by
  intro v_x_pad_size v_x_pad_signs_cells v_x_play_n v_x_play_t v_x_play_d v_x_play_r v_x_play_fond v_x_play_ticketCount v_x_play_sightCount v_x_play_tickets_cells v_x_play_prizes_cells v_x_play_sightTickets_cells v_x_play_sightNumbers_cells v_x_play_sightKinds_cells v_x_wheel_held v_x_wheel_draws_size v_x_wheel_draws_members_cells v_x_wheel_possible_size v_x_wheel_possible_members_cells v_x_wheel_wonByPossible_low v_x_wheel_wonByPossible_high v_x_wheel_wonByHeld_low v_x_wheel_wonByHeld_high v_x_wheel_work_low v_x_wheel_work_high v_x_wheel_search_allDraws v_x_wheel_search_single v_x_wheel_search_reached_low v_x_wheel_search_reached_high v_x_wheel_search_chosen_cells v_x_wheel_search_mostOne_size v_x_wheel_search_mostOne_won v_x_wheel_search_mostOne_found v_x_wheel_search_mostOne_sought v_x_wheel_search_mostOne_tickets_cells v_x_wheel_search_mostTwo_size v_x_wheel_search_mostTwo_won v_x_wheel_search_mostTwo_found v_x_wheel_search_mostTwo_sought v_x_wheel_search_mostTwo_tickets_cells v_x_wheel_search_mostThree_size v_x_wheel_search_mostThree_won v_x_wheel_search_mostThree_found v_x_wheel_search_mostThree_sought v_x_wheel_search_mostThree_tickets_cells v_x_wheel_search_fewest_size v_x_wheel_search_fewest_won v_x_wheel_search_fewest_found v_x_wheel_search_fewest_sought v_x_wheel_search_fewest_tickets_cells v_x_imageZero_kept v_x_imageZero_play_n v_x_imageZero_play_t v_x_imageZero_play_d v_x_imageZero_play_r v_x_imageZero_play_fond v_x_imageZero_play_ticketCount v_x_imageZero_play_sightCount v_x_imageZero_play_tickets_cells v_x_imageZero_play_prizes_cells v_x_imageZero_play_sightTickets_cells v_x_imageZero_play_sightNumbers_cells v_x_imageZero_play_sightKinds_cells v_x_imageOne_kept v_x_imageOne_play_n v_x_imageOne_play_t v_x_imageOne_play_d v_x_imageOne_play_r v_x_imageOne_play_fond v_x_imageOne_play_ticketCount v_x_imageOne_play_sightCount v_x_imageOne_play_tickets_cells v_x_imageOne_play_prizes_cells v_x_imageOne_play_sightTickets_cells v_x_imageOne_play_sightNumbers_cells v_x_imageOne_play_sightKinds_cells v_m_numbers v_m_onTicket v_m_drawn v_m_due v_m_ticketMany v_m_fond v_m_sights v_m_drawMany v_m_setMany v_m_padMany v_m_low v_m_high v_m_couldMany v_m_keptAt v_m_isWriting v_m_tickets v_m_prizes v_m_sightTicket v_m_sightRight v_m_sightHow v_m_draws v_m_sets v_m_winsLow v_m_winsHigh v_m_pad v_m_could v_m_row v_m_best v_m_kept v_m_isKept p0 p1 hI
  have hI0 := hI
  obtain ⟨g, g0, g1, pad, pn, k0, k1, hG, hG0, hG1, hk0, hk1, hpn, hpad, xpn, xpad, xpl, xk0, xi0, xk1, xi1, xw, xc1, xc2, xc3, xcf, mpl, md, mpn, mpad, mk0, mk1, mi0, mi1⟩ := hI
  have xpl0 := xpl
  have mpl0 := mpl
  have xw0 := xw
  have md0 := md
  obtain ⟨a1, a2, a3, a4, a5, a6, a7, a8, a9, a10⟩ := xpl
  obtain ⟨b1, b2, b3, b4, b5, b6, b7, b8, b9, b10⟩ := mpl
  obtain ⟨w1, w2, w3, w4, w5, w6, w7, w8, w9, w10, w11⟩ := xw
  obtain ⟨d1, d2, d3, d4, d5⟩ := md
  have hGV := hG
  obtain ⟨e1, e2, e3, e4, e5, e6, e7, e8, e9, e10, e11, e12, e13, e14, e15, e16⟩ := hGV
  subst xpn
  subst mpn
  subst xk0
  subst xk1
  subst a1
  subst a2
  subst a3
  subst a4
  subst a5
  subst a6
  subst a7
  subst b1
  subst b2
  subst b3
  subst b4
  subst b5
  subst b6
  subst b7
  subst w1
  subst w2
  subst w4
  subst w8
  subst w9
  subst d1
  subst d2
  unfold f_Main_prize f_Model_prize
  rw [show (0 : Int64) = (0 : Int32).toInt64 from rfl, show (8 : Int64) = (8 : Int32).toInt64 from rfl, show (999 : Int64) = (999 : Int32).toInt64 from rfl, in_e, in_e]
  rcases within_c p0 0 8 with ⟨w, h1, h2⟩ | ⟨w, -⟩
  · rw [w, bk1_s, bk1_s, if_neg (by decide), if_neg (by decide)]
    obtain ⟨j, j1, j2, rfl⟩ := betw (a := 0) (b := 8) h1 h2 (by decide) (by decide)
    rcases within_c p1 0 999 with ⟨w', h3, h4⟩ | ⟨w', -⟩
    · rw [w', bk1_s, bk1_s, if_neg (by decide), if_neg (by decide)]
      obtain ⟨v, v1, v2, rfl⟩ := betw (a := 0) (b := 999) h3 h4 (by decide) (by decide)
      rw [Row_at_e (by omega) (by decide), bk1_s, Row_put_e (by omega) (by decide), bk1_s, gdN (by omega) (by decide), gdN (by omega) (by decide), nI_clamp (by omega), a9 j (by omega), b9 j (by omega)]
      refine ⟨nI (g 2 j), upd v_x_play_prizes_cells j (nI v), upd v_m_prizes j (nI v), rfl, rfl, ⟨ga g 2 (fun i => if i = j then v else g 2 i), g0, g1, pad, pn, k0, k1, ⟨e1, e2, e3, e4, e5, e6, e7, e8, e9, e10, e11, e12, e13, e14, ?_, e16⟩, hG0, hG1, hk0, hk1, hpn, hpad, rfl, xpad, ⟨rfl, rfl, rfl, rfl, rfl, rfl, rfl, a8, ?_, a10⟩, rfl, xi0, rfl, xi1, WX_c rfl rfl rfl rfl rfl rfl rfl xw0, CK_c rfl rfl rfl rfl rfl xc1, CK_c rfl rfl rfl rfl rfl xc2, CK_c rfl rfl rfl rfl rfl xc3, CF_c rfl rfl rfl rfl rfl xcf, ⟨rfl, rfl, rfl, rfl, rfl, rfl, rfl, b8, ?_, b10⟩, MD_c rfl rfl rfl rfl md0, rfl, mpad, mk0, mk1, mi0, mi1⟩⟩
      · intro i hi
        show (if i = j then v else g 2 i) ≤ 999
        split
        · exact v2
        · exact e15 i hi
      · intro i hi
        show upd v_x_play_prizes_cells j (nI v) i = nI (if i = j then v else g 2 i)
        unfold upd
        split
        · rfl
        · exact a9 i hi
      · intro i hi
        show upd v_m_prizes j (nI v) i = nI (if i = j then v else g 2 i)
        unfold upd
        split
        · rfl
        · exact b9 i hi
    · rw [w', bk1_s, bk1_s, if_pos rfl, if_pos rfl]
      exact ⟨-2, _, _, rfl, rfl, hI0⟩
  · rw [w, bk1_s, bk1_s, if_pos rfl, if_pos rfl]
    exact ⟨-2, _, _, rfl, rfl, hI0⟩
