theorem fp_cong {α : Type} {g g' old : Nat → α} {k : Nat} (h : ∀ i, i < k → g i = g' i) : fp g old k = fp g' old k := funext fun i => by
  unfold fp
  split
  · next hi => exact h i hi
  · rfl
theorem fo_self (old : Nat → Int32) (b k : Nat) : fo (fun i => old (b + i)) old b k = old := by
  funext i
  unfold fo
  split
  · next h => exact congrArg old (show b + (i - b) = i by omega)
  · rfl
theorem passW {g : Nat → Nat → Nat} {kept draws sets_ prizes how right ticket tickets : Nat → Int32} {wh wl : Nat → Int64} {b : Nat} (hb : b ≤ 60) (hg : GV g) :
    f_Model_passAll (nI (g 0 2)) (nI (g 0 3)) (nI (g 0 4)) 1 (nI b) (nI (g 0 0)) (nI (g 0 1)) (nI (g 0 6)) (nI (g 0 5)) draws kept prizes sets_ how right ticket tickets wh wl = some (nI (Dr g).length, nI (g 0 2), nI (g 0 3), nI (g 0 4), nI (b + 40), nI (g 0 0), nI (g 0 1), nI (Se g).length, nI (g 0 6), nI (g 0 5), aL (Dr g) draws, fo (imV (nI (g 0 0)) (nI (g 0 1)) (nI (g 0 2)) (nI (g 0 3)) (nI (g 0 5)) (nI (g 0 4)) (nI (g 0 6)) tickets ticket right how prizes) kept b 40, fp prizes prizes 9, aL (Se g) sets_, fp how how 6, fp right right 6, fp ticket ticket 6, fp tickets tickets 6, fp (rh (Se g) (g 0 3) (Dr g)) wh (Se g).length, fp (rl (Se g) (g 0 3) (Dr g)) wl (Se g).length) := by
  have e := hg
  obtain ⟨e1, e2, e3, e4, e5, e6, e7, e8, e9, e10, e11, e12, e13, e14, e15, e16⟩ := e
  have z := passAll_e (w := 1) (V := imV (nI (g 0 0)) (nI (g 0 1)) (nI (g 0 2)) (nI (g 0 3)) (nI (g 0 5)) (nI (g 0 4)) (nI (g 0 6)) tickets ticket right how prizes) (kept := kept) (draws := draws) (sets_ := sets_) (prizes := prizes) (how := how) (right := right) (ticket := ticket) (tickets := tickets) (wh := wh) (wl := wl) hb e2 (show g 0 1 ≤ 8 by omega) (show g 0 2 ≤ 8 by omega) (show g 0 3 ≤ 8 by omega) rfl rfl rfl rfl (Or.inl ⟨rfl, rfl⟩) (Or.inl ⟨rfl, rfl⟩) (Or.inl ⟨rfl, rfl⟩) (Or.inl ⟨rfl, rfl⟩) (Or.inl ⟨rfl, rfl⟩) (Or.inl ⟨rfl, rfl⟩) (Or.inl ⟨rfl, rfl⟩) (fun i hi => Or.inl ⟨rfl, (imV_t hi).1.symm⟩) (fun i hi => Or.inl ⟨rfl, (imV_t hi).2.1.symm⟩) (fun i hi => Or.inl ⟨rfl, (imV_t hi).2.2.1.symm⟩) (fun i hi => Or.inl ⟨rfl, (imV_t hi).2.2.2.symm⟩) (fun i hi => Or.inl ⟨rfl, imV_p.symm⟩)
  refine z.trans ?_
  have f1 : fp (fun i => imV (nI (g 0 0)) (nI (g 0 1)) (nI (g 0 2)) (nI (g 0 3)) (nI (g 0 5)) (nI (g 0 4)) (nI (g 0 6)) tickets ticket right how prizes (31 + i)) prizes 9 = fp prizes prizes 9 := fp_cong fun i hi => imV_p
  have f2 : fp (fun i => imV (nI (g 0 0)) (nI (g 0 1)) (nI (g 0 2)) (nI (g 0 3)) (nI (g 0 5)) (nI (g 0 4)) (nI (g 0 6)) tickets ticket right how prizes (10 + 4 * i)) how 6 = fp how how 6 := fp_cong fun i hi => (imV_t hi).2.2.2
  have f3 : fp (fun i => imV (nI (g 0 0)) (nI (g 0 1)) (nI (g 0 2)) (nI (g 0 3)) (nI (g 0 5)) (nI (g 0 4)) (nI (g 0 6)) tickets ticket right how prizes (9 + 4 * i)) right 6 = fp right right 6 := fp_cong fun i hi => (imV_t hi).2.2.1
  have f4 : fp (fun i => imV (nI (g 0 0)) (nI (g 0 1)) (nI (g 0 2)) (nI (g 0 3)) (nI (g 0 5)) (nI (g 0 4)) (nI (g 0 6)) tickets ticket right how prizes (8 + 4 * i)) ticket 6 = fp ticket ticket 6 := fp_cong fun i hi => (imV_t hi).2.1
  have f5 : fp (fun i => imV (nI (g 0 0)) (nI (g 0 1)) (nI (g 0 2)) (nI (g 0 3)) (nI (g 0 5)) (nI (g 0 4)) (nI (g 0 6)) tickets ticket right how prizes (7 + 4 * i)) tickets 6 = fp tickets tickets 6 := fp_cong fun i hi => (imV_t hi).1
  rw [f1, f2, f3, f4, f5]
  rfl
theorem passR {g : Nat → Nat → Nat} {d r fond n t sc tm : Int32} {kept draws sets_ prizes how right ticket tickets : Nat → Int32} {wh wl : Nat → Int64} {b : Nat} (hb : b ≤ 60) (hg : GV g) (hk : KI g kept b) :
    f_Model_passAll d r fond 0 (nI b) n t sc tm draws kept prizes sets_ how right ticket tickets wh wl = some (nI (Dr g).length, nI (g 0 2), nI (g 0 3), nI (g 0 4), nI (b + 40), nI (g 0 0), nI (g 0 1), nI (Se g).length, nI (g 0 6), nI (g 0 5), aL (Dr g) draws, kept, fp (fun i => kept (b + (31 + i))) prizes 9, aL (Se g) sets_, fp (fun i => kept (b + (10 + 4 * i))) how 6, fp (fun i => kept (b + (9 + 4 * i))) right 6, fp (fun i => kept (b + (8 + 4 * i))) ticket 6, fp (fun i => kept (b + (7 + 4 * i))) tickets 6, fp (rh (Se g) (g 0 3) (Dr g)) wh (Se g).length, fp (rl (Se g) (g 0 3) (Dr g)) wl (Se g).length) := by
  have e := hg
  obtain ⟨e1, e2, e3, e4, e5, e6, e7, e8, e9, e10, e11, e12, e13, e14, e15, e16⟩ := e
  obtain ⟨k0, k1, k2, k3, k4, k5, k6, k7, k8, k9⟩ := hk
  have z := passAll_e (w := 0) (V := fun i => kept (b + i)) (kept := kept) (draws := draws) (sets_ := sets_) (prizes := prizes) (how := how) (right := right) (ticket := ticket) (tickets := tickets) (wh := wh) (wl := wl) (n := n) (t := t) (d := d) (r := r) (tm := tm) (fond := fond) (sc := sc) hb e2 (show g 0 1 ≤ 8 by omega) (show g 0 2 ≤ 8 by omega) (show g 0 3 ≤ 8 by omega) k0 k1 k2 k3 (Or.inr ⟨rfl, rfl⟩) (Or.inr ⟨rfl, rfl⟩) (Or.inr ⟨rfl, rfl⟩) (Or.inr ⟨rfl, rfl⟩) (Or.inr ⟨rfl, rfl⟩) (Or.inr ⟨rfl, rfl⟩) (Or.inr ⟨rfl, rfl⟩) (fun i hi => Or.inr ⟨rfl, rfl⟩) (fun i hi => Or.inr ⟨rfl, rfl⟩) (fun i hi => Or.inr ⟨rfl, rfl⟩) (fun i hi => Or.inr ⟨rfl, rfl⟩) (fun i hi => Or.inr ⟨rfl, rfl⟩)
  refine z.trans ?_
  rw [fo_self, k4, k5, k6]
  rfl
theorem PL_self {g : Nat → Nat → Nat} {n t d r fond tc sc : Int32} {p0 p1 p2 p3 p4 : Nat → Int32} (hg : GV g) (h : PL g n t d r fond tc sc p4 p0 p3 p2 p1) : PL g n t d r fond tc sc (fp p4 p4 6) (fp p0 p0 9) (fp p3 p3 6) (fp p2 p2 6) (fp p1 p1 6) := PL_copy hg h
theorem PL_kept {g : Nat → Nat → Nat} {kept p0 p1 p2 p3 p4 : Nat → Int32} {b : Nat} (hg : GV g) (hk : KI g kept b) : PL g (nI (g 0 0)) (nI (g 0 1)) (nI (g 0 2)) (nI (g 0 3)) (nI (g 0 4)) (nI (g 0 5)) (nI (g 0 6)) (fp (fun i => kept (b + (7 + 4 * i))) p4 6) (fp (fun i => kept (b + (31 + i))) p0 9) (fp (fun i => kept (b + (8 + 4 * i))) p3 6) (fp (fun i => kept (b + (9 + 4 * i))) p2 6) (fp (fun i => kept (b + (10 + 4 * i))) p1 6) := by
  obtain ⟨k0, k1, k2, k3, k4, k5, k6, k7, k8, k9⟩ := hk
  have e12 : g 0 5 ≤ 6 := hg.2.2.2.2.2.2.2.2.2.2.2.1
  have e13 : g 0 6 ≤ 6 := hg.2.2.2.2.2.2.2.2.2.2.2.2.1
  refine ⟨rfl, rfl, rfl, rfl, rfl, rfl, rfl, fun i hi => ?_, fun i hi => ?_, fun i hi => ⟨?_, ?_, ?_⟩⟩
  · rw [fp_at (by omega), ← Nat.add_assoc]; exact k7 i hi
  · rw [fp_at hi, ← Nat.add_assoc]; exact k9 i hi
  · rw [fp_at (by omega), ← Nat.add_assoc]; exact (k8 i hi).1
  · rw [fp_at (by omega), ← Nat.add_assoc]; exact (k8 i hi).2.1
  · rw [fp_at (by omega), ← Nat.add_assoc]; exact (k8 i hi).2.2

set_option maxHeartbeats 4000000 in
theorem st_image : St_image Inv := by
  intro v_x_pad_size v_x_pad_signs_cells v_x_play_n v_x_play_t v_x_play_d v_x_play_r v_x_play_fond v_x_play_ticketCount v_x_play_sightCount v_x_play_tickets_cells v_x_play_prizes_cells v_x_play_sightTickets_cells v_x_play_sightNumbers_cells v_x_play_sightKinds_cells v_x_wheel_held v_x_wheel_draws_size v_x_wheel_draws_members_cells v_x_wheel_possible_size v_x_wheel_possible_members_cells v_x_wheel_wonByPossible_low v_x_wheel_wonByPossible_high v_x_wheel_wonByHeld_low v_x_wheel_wonByHeld_high v_x_wheel_work_low v_x_wheel_work_high v_x_wheel_search_allDraws v_x_wheel_search_single v_x_wheel_search_reached_low v_x_wheel_search_reached_high v_x_wheel_search_chosen_cells v_x_wheel_search_mostOne_size v_x_wheel_search_mostOne_won v_x_wheel_search_mostOne_found v_x_wheel_search_mostOne_sought v_x_wheel_search_mostOne_tickets_cells v_x_wheel_search_mostTwo_size v_x_wheel_search_mostTwo_won v_x_wheel_search_mostTwo_found v_x_wheel_search_mostTwo_sought v_x_wheel_search_mostTwo_tickets_cells v_x_wheel_search_mostThree_size v_x_wheel_search_mostThree_won v_x_wheel_search_mostThree_found v_x_wheel_search_mostThree_sought v_x_wheel_search_mostThree_tickets_cells v_x_wheel_search_fewest_size v_x_wheel_search_fewest_won v_x_wheel_search_fewest_found v_x_wheel_search_fewest_sought v_x_wheel_search_fewest_tickets_cells v_x_imageZero_kept v_x_imageZero_play_n v_x_imageZero_play_t v_x_imageZero_play_d v_x_imageZero_play_r v_x_imageZero_play_fond v_x_imageZero_play_ticketCount v_x_imageZero_play_sightCount v_x_imageZero_play_tickets_cells v_x_imageZero_play_prizes_cells v_x_imageZero_play_sightTickets_cells v_x_imageZero_play_sightNumbers_cells v_x_imageZero_play_sightKinds_cells v_x_imageOne_kept v_x_imageOne_play_n v_x_imageOne_play_t v_x_imageOne_play_d v_x_imageOne_play_r v_x_imageOne_play_fond v_x_imageOne_play_ticketCount v_x_imageOne_play_sightCount v_x_imageOne_play_tickets_cells v_x_imageOne_play_prizes_cells v_x_imageOne_play_sightTickets_cells v_x_imageOne_play_sightNumbers_cells v_x_imageOne_play_sightKinds_cells v_m_numbers v_m_onTicket v_m_drawn v_m_due v_m_ticketMany v_m_fond v_m_sights v_m_drawMany v_m_setMany v_m_padMany v_m_low v_m_high v_m_couldMany v_m_keptAt v_m_isWriting v_m_tickets v_m_prizes v_m_sightTicket v_m_sightRight v_m_sightHow v_m_draws v_m_sets v_m_winsLow v_m_winsHigh v_m_pad v_m_could v_m_row v_m_best v_m_kept v_m_isKept p0 hI
  have hI0 := hI
  obtain ⟨g, g0, g1, pad, pn, k0, k1, hG, hG0, hG1, hk0, hk1, hpn, hpad, xpn, xpad, xpl, xk0, xi0, xk1, xi1, xw, xc1, xc2, xc3, xcf, mpl, md, mpn, mpad, mk0, mk1, mi0, mi1⟩ := hI
  have xpl0 := xpl
  have mpl0 := mpl
  have xw0 := xw
  have md0 := md
  obtain ⟨a1, a2, a3, a4, a5, a6, a7, a8, a9, a10⟩ := xpl
  obtain ⟨b1, b2, b3, b4, b5, b6, b7, b8, b9, b10⟩ := mpl
  obtain ⟨w1, w2, w3, w4, w5, w6, w7, w8, w9, w10, w11⟩ := xw
  obtain ⟨d1, d2, d3, d4, d5⟩ := md
  have hGV := hG
  obtain ⟨e1, e2, e3, e4, e5, e6, e7, e8, e9, e10, e11, e12, e13, e14, e15, e16⟩ := hGV
  subst xpn
  subst mpn
  subst xk0
  subst xk1
  subst a1
  subst a2
  subst a3
  subst a4
  subst a5
  subst a6
  subst a7
  subst b1
  subst b2
  subst b3
  subst b4
  subst b5
  subst b6
  subst b7
  subst w1
  subst w2
  subst w4
  subst w8
  subst w9
  subst d1
  subst d2
  unfold f_Main_image f_Model_image
  rw [show (0 : Int64) = (0 : Int32).toInt64 from rfl, show (1 : Int64) = (1 : Int32).toInt64 from rfl, in_e]
  rcases within_c p0 0 1 with ⟨w, h1, h2⟩ | ⟨w, -⟩
  · obtain ⟨j, j1, j2, rfl⟩ := betw (a := 0) (b := 1) h1 h2 (by decide) (by decide)
    rcases (show j = 0 ∨ j = 1 by omega) with rfl | rfl
    · rw [w, bk1_s, bk1_s, if_neg (show ¬ (1 : Int32) = 0 by decide), if_neg (show ¬ (1 : Int32) = 0 by decide), show f_Main_pickImage (nI 0) = some 1 from rfl, bk1_s, if_neg (show ¬ (1 : Nat) = 0 by decide), copyAll_e, bk12_s, show (60 : Int32) * nI 0 = nI 0 from rfl, passW (by decide) hG, bk20_s, gdN (by decide) (by decide), nI_clamp (by decide)]
      exact ⟨_, _, _, _, _, _, _, _, _, _, _, _, _, _, _, _, _, _, _, _, _, _, _, _, _, _, _, _, _, _, _, _, _, _, _, _, _, _, _, _, _, _, _, _, _, _, _, _, _, rfl, rfl, ⟨g, g, g1, pad, pn, 1, k1, hG, fun _ => hG, hG1, Nat.le_refl _, hk1, hpn, hpad, rfl, xpad, xpl0, rfl, fun _ => PL_copy hG xpl0, rfl, xi1, xw0, xc1, xc2, xc3, xcf, PL_self hG mpl0, MD_new (g := g) rfl rfl rfl rfl, rfl, mpad, rfl, mk1, fun _ => KI_new hG mpl0, fun h => KI_c (hG1 h) (mi1 h) (fun i _ => if_neg (by omega))⟩⟩
    · rw [w, bk1_s, bk1_s, if_neg (show ¬ (1 : Int32) = 0 by decide), if_neg (show ¬ (1 : Int32) = 0 by decide), show f_Main_pickImage (nI 1) = some 0 from rfl, bk1_s, if_pos (show (0 : Nat) = 0 from rfl), copyAll_e, bk12_s, show (60 : Int32) * nI 1 = nI 60 from rfl, passW (by decide) hG, bk20_s, gdN (by decide) (by decide), nI_clamp (by decide)]
      exact ⟨_, _, _, _, _, _, _, _, _, _, _, _, _, _, _, _, _, _, _, _, _, _, _, _, _, _, _, _, _, _, _, _, _, _, _, _, _, _, _, _, _, _, _, _, _, _, _, _, _, rfl, rfl, ⟨g, g0, g, pad, pn, k0, 1, hG, hG0, fun _ => hG, hk0, Nat.le_refl _, hpn, hpad, rfl, xpad, xpl0, rfl, xi0, rfl, fun _ => PL_copy hG xpl0, xw0, xc1, xc2, xc3, xcf, PL_self hG mpl0, MD_new (g := g) rfl rfl rfl rfl, rfl, mpad, mk0, rfl, fun h => KI_c (hG0 h) (mi0 h) (fun i hi => if_neg (by omega)), fun _ => KI_new hG mpl0⟩⟩
  · rw [w]
    exact ⟨_, _, _, _, _, _, _, _, _, _, _, _, _, _, _, _, _, _, _, _, _, _, _, _, _, _, _, _, _, _, _, _, _, _, _, _, _, _, _, _, _, _, _, _, _, _, _, _, _, rfl, rfl, hI0⟩

set_option maxHeartbeats 4000000 in
theorem st_restore : St_restore Inv := by
  intro v_x_pad_size v_x_pad_signs_cells v_x_play_n v_x_play_t v_x_play_d v_x_play_r v_x_play_fond v_x_play_ticketCount v_x_play_sightCount v_x_play_tickets_cells v_x_play_prizes_cells v_x_play_sightTickets_cells v_x_play_sightNumbers_cells v_x_play_sightKinds_cells v_x_wheel_held v_x_wheel_draws_size v_x_wheel_draws_members_cells v_x_wheel_possible_size v_x_wheel_possible_members_cells v_x_wheel_wonByPossible_low v_x_wheel_wonByPossible_high v_x_wheel_wonByHeld_low v_x_wheel_wonByHeld_high v_x_wheel_work_low v_x_wheel_work_high v_x_wheel_search_allDraws v_x_wheel_search_single v_x_wheel_search_reached_low v_x_wheel_search_reached_high v_x_wheel_search_chosen_cells v_x_wheel_search_mostOne_size v_x_wheel_search_mostOne_won v_x_wheel_search_mostOne_found v_x_wheel_search_mostOne_sought v_x_wheel_search_mostOne_tickets_cells v_x_wheel_search_mostTwo_size v_x_wheel_search_mostTwo_won v_x_wheel_search_mostTwo_found v_x_wheel_search_mostTwo_sought v_x_wheel_search_mostTwo_tickets_cells v_x_wheel_search_mostThree_size v_x_wheel_search_mostThree_won v_x_wheel_search_mostThree_found v_x_wheel_search_mostThree_sought v_x_wheel_search_mostThree_tickets_cells v_x_wheel_search_fewest_size v_x_wheel_search_fewest_won v_x_wheel_search_fewest_found v_x_wheel_search_fewest_sought v_x_wheel_search_fewest_tickets_cells v_x_imageZero_kept v_x_imageZero_play_n v_x_imageZero_play_t v_x_imageZero_play_d v_x_imageZero_play_r v_x_imageZero_play_fond v_x_imageZero_play_ticketCount v_x_imageZero_play_sightCount v_x_imageZero_play_tickets_cells v_x_imageZero_play_prizes_cells v_x_imageZero_play_sightTickets_cells v_x_imageZero_play_sightNumbers_cells v_x_imageZero_play_sightKinds_cells v_x_imageOne_kept v_x_imageOne_play_n v_x_imageOne_play_t v_x_imageOne_play_d v_x_imageOne_play_r v_x_imageOne_play_fond v_x_imageOne_play_ticketCount v_x_imageOne_play_sightCount v_x_imageOne_play_tickets_cells v_x_imageOne_play_prizes_cells v_x_imageOne_play_sightTickets_cells v_x_imageOne_play_sightNumbers_cells v_x_imageOne_play_sightKinds_cells v_m_numbers v_m_onTicket v_m_drawn v_m_due v_m_ticketMany v_m_fond v_m_sights v_m_drawMany v_m_setMany v_m_padMany v_m_low v_m_high v_m_couldMany v_m_keptAt v_m_isWriting v_m_tickets v_m_prizes v_m_sightTicket v_m_sightRight v_m_sightHow v_m_draws v_m_sets v_m_winsLow v_m_winsHigh v_m_pad v_m_could v_m_row v_m_best v_m_kept v_m_isKept p0 hI
  have hI0 := hI
  obtain ⟨g, g0, g1, pad, pn, k0, k1, hG, hG0, hG1, hk0, hk1, hpn, hpad, xpn, xpad, xpl, xk0, xi0, xk1, xi1, xw, xc1, xc2, xc3, xcf, mpl, md, mpn, mpad, mk0, mk1, mi0, mi1⟩ := hI
  have xpl0 := xpl
  have mpl0 := mpl
  have xw0 := xw
  have md0 := md
  obtain ⟨a1, a2, a3, a4, a5, a6, a7, a8, a9, a10⟩ := xpl
  obtain ⟨b1, b2, b3, b4, b5, b6, b7, b8, b9, b10⟩ := mpl
  obtain ⟨w1, w2, w3, w4, w5, w6, w7, w8, w9, w10, w11⟩ := xw
  obtain ⟨d1, d2, d3, d4, d5⟩ := md
  have hGV := hG
  obtain ⟨e1, e2, e3, e4, e5, e6, e7, e8, e9, e10, e11, e12, e13, e14, e15, e16⟩ := hGV
  subst xpn
  subst mpn
  subst xk0
  subst xk1
  subst a1
  subst a2
  subst a3
  subst a4
  subst a5
  subst a6
  subst a7
  subst b1
  subst b2
  subst b3
  subst b4
  subst b5
  subst b6
  subst b7
  subst w1
  subst w2
  subst w4
  subst w8
  subst w9
  subst d1
  subst d2
  unfold f_Main_restore f_Model_restore
  rw [show (0 : Int64) = (0 : Int32).toInt64 from rfl, show (1 : Int64) = (1 : Int32).toInt64 from rfl, in_e]
  rcases within_c p0 0 1 with ⟨w, h1, h2⟩ | ⟨w, -⟩
  · obtain ⟨j, j1, j2, rfl⟩ := betw (a := 0) (b := 1) h1 h2 (by decide) (by decide)
    rcases (show j = 0 ∨ j = 1 by omega) with rfl | rfl
    · have hkk : k0 = 0 ∨ k0 = 1 := by omega
      rw [w, bk1_s, bk1_s, if_neg (show ¬ (1 : Int32) = 0 by decide), if_neg (show ¬ (1 : Int32) = 0 by decide), show f_Main_pickImage (nI 0) = some 1 from rfl, bk1_s, if_neg (show ¬ (1 : Nat) = 0 by decide), gdN (by decide) (by decide), nI_clamp (by decide), mk0]
      rcases hkk with e0 | e0
      · rw [if_pos (show nI k0 = (0 : Int32) from by rw [e0]; rfl), if_pos (show nI k0 = (0 : Int32) from by rw [e0]; rfl)]
        exact ⟨_, _, _, _, _, _, _, _, _, _, _, _, _, _, _, _, _, _, _, _, _, _, _, _, _, _, _, _, _, _, _, _, _, _, _, _, _, _, _, _, _, _, _, _, _, _, _, _, _, rfl, rfl, hI0⟩
      · have hg := hG0 e0
        have hk := mi0 e0
        have xp := xi0 e0
        have xq := xp
        have hD : (Dr g0).length ≤ 70 := Dr_70 hg
        have hP := Po_ne hg
        have hq := hg
        obtain ⟨u1, u2, u3, u4, u5, u6, u7, u8, u9, u10, u11, u12, u13, u14, u15, u16⟩ := hq
        obtain ⟨q1, q2, q3, q4, q5, q6, q7, q8, q9, q10⟩ := xq
        have hf : g0 0 4 < 256 := Nat.lt_of_lt_of_le u10 (pow_256 u2)
        have ht : ∀ j, j < g0 0 5 → fp v_x_imageZero_play_tickets_cells v_x_play_tickets_cells 6 j = nI (g0 1 j) ∧ g0 1 j < 256 := fun j hj => ⟨(fp_at (by omega)).trans (q8 j hj), u14 j hj⟩
        have zg := takeGame_e (od := v_x_wheel_draws_members_cells) (os := v_x_wheel_possible_members_cells) (oh := v_x_wheel_wonByPossible_high) (ol := v_x_wheel_wonByPossible_low) u2 (show g0 0 1 ≤ 8 by omega) (show g0 0 2 ≤ 8 by omega) (show g0 0 3 ≤ 8 by omega) hf hP
        have zt := takeTickets_e (cells := aL (Dr g0) v_x_wheel_draws_members_cells) (oh := v_x_wheel_wonByHeld_high) (ol := v_x_wheel_wonByHeld_low) u12 (show g0 0 3 ≤ 8 by omega) hD ht (fun k hk => aL_at hk)
        unfold Dr at zt
        subst q1
        subst q2
        subst q3
        subst q4
        subst q5
        subst q6
        subst q7
        rw [if_neg (show ¬ nI k0 = (0 : Int32) from by rw [e0]; decide), if_neg (show ¬ nI k0 = (0 : Int32) from by rw [e0]; decide), copyAll_e, bk12_s, zg, bk12_s, zt, bk3_s, show (60 : Int32) * nI 0 = nI 0 from rfl, passR (g := g0) (by decide) hg hk, bk20_s]
        exact ⟨_, _, _, _, _, _, _, _, _, _, _, _, _, _, _, _, _, _, _, _, _, _, _, _, _, _, _, _, _, _, _, _, _, _, _, _, _, _, _, _, _, _, _, _, _, _, _, _, _, rfl, rfl, ⟨g0, g0, g1, pad, pn, k0, k1, hg, hG0, hG1, hk0, hk1, hpn, hpad, rfl, xpad, PL_copy hg xp, rfl, xi0, rfl, xi1, WX_new (g := g0) rfl rfl rfl rfl rfl (fun i hi => ⟨fp_at hi, fp_at hi⟩) w10 w11, CK_0, CK_0, CK_0, CF_0, PL_kept hg hk, MD_new (g := g0) rfl rfl rfl rfl, rfl, mpad, mk0, mk1, mi0, mi1⟩⟩
    · have hkk : k1 = 0 ∨ k1 = 1 := by omega
      rw [w, bk1_s, bk1_s, if_neg (show ¬ (1 : Int32) = 0 by decide), if_neg (show ¬ (1 : Int32) = 0 by decide), show f_Main_pickImage (nI 1) = some 0 from rfl, bk1_s, if_pos (show (0 : Nat) = 0 from rfl), gdN (by decide) (by decide), nI_clamp (by decide), mk1]
      rcases hkk with e0 | e0
      · rw [if_pos (show nI k1 = (0 : Int32) from by rw [e0]; rfl), if_pos (show nI k1 = (0 : Int32) from by rw [e0]; rfl)]
        exact ⟨_, _, _, _, _, _, _, _, _, _, _, _, _, _, _, _, _, _, _, _, _, _, _, _, _, _, _, _, _, _, _, _, _, _, _, _, _, _, _, _, _, _, _, _, _, _, _, _, _, rfl, rfl, hI0⟩
      · have hg := hG1 e0
        have hk := mi1 e0
        have xp := xi1 e0
        have xq := xp
        have hD : (Dr g1).length ≤ 70 := Dr_70 hg
        have hP := Po_ne hg
        have hq := hg
        obtain ⟨u1, u2, u3, u4, u5, u6, u7, u8, u9, u10, u11, u12, u13, u14, u15, u16⟩ := hq
        obtain ⟨q1, q2, q3, q4, q5, q6, q7, q8, q9, q10⟩ := xq
        have hf : g1 0 4 < 256 := Nat.lt_of_lt_of_le u10 (pow_256 u2)
        have ht : ∀ j, j < g1 0 5 → fp v_x_imageOne_play_tickets_cells v_x_play_tickets_cells 6 j = nI (g1 1 j) ∧ g1 1 j < 256 := fun j hj => ⟨(fp_at (by omega)).trans (q8 j hj), u14 j hj⟩
        have zg := takeGame_e (od := v_x_wheel_draws_members_cells) (os := v_x_wheel_possible_members_cells) (oh := v_x_wheel_wonByPossible_high) (ol := v_x_wheel_wonByPossible_low) u2 (show g1 0 1 ≤ 8 by omega) (show g1 0 2 ≤ 8 by omega) (show g1 0 3 ≤ 8 by omega) hf hP
        have zt := takeTickets_e (cells := aL (Dr g1) v_x_wheel_draws_members_cells) (oh := v_x_wheel_wonByHeld_high) (ol := v_x_wheel_wonByHeld_low) u12 (show g1 0 3 ≤ 8 by omega) hD ht (fun k hk => aL_at hk)
        unfold Dr at zt
        subst q1
        subst q2
        subst q3
        subst q4
        subst q5
        subst q6
        subst q7
        rw [if_neg (show ¬ nI k1 = (0 : Int32) from by rw [e0]; decide), if_neg (show ¬ nI k1 = (0 : Int32) from by rw [e0]; decide), copyAll_e, bk12_s, zg, bk12_s, zt, bk3_s, show (60 : Int32) * nI 1 = nI 60 from rfl, passR (g := g1) (by decide) hg hk, bk20_s]
        exact ⟨_, _, _, _, _, _, _, _, _, _, _, _, _, _, _, _, _, _, _, _, _, _, _, _, _, _, _, _, _, _, _, _, _, _, _, _, _, _, _, _, _, _, _, _, _, _, _, _, _, rfl, rfl, ⟨g1, g0, g1, pad, pn, k0, k1, hg, hG0, hG1, hk0, hk1, hpn, hpad, rfl, xpad, PL_copy hg xp, rfl, xi0, rfl, xi1, WX_new (g := g1) rfl rfl rfl rfl rfl (fun i hi => ⟨fp_at hi, fp_at hi⟩) w10 w11, CK_0, CK_0, CK_0, CF_0, PL_kept hg hk, MD_new (g := g1) rfl rfl rfl rfl, rfl, mpad, mk0, mk1, mi0, mi1⟩⟩
  · rw [w]
    exact ⟨_, _, _, _, _, _, _, _, _, _, _, _, _, _, _, _, _, _, _, _, _, _, _, _, _, _, _, _, _, _, _, _, _, _, _, _, _, _, _, _, _, _, _, _, _, _, _, _, _, rfl, rfl, hI0⟩
