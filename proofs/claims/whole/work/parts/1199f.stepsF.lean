/-- how many draws, by a property of how many are right and how many there are: only how many a ticket has counts -/
def V0 : Nat → (Nat → Nat → Bool) → Nat
  | 0, Q => if Q 0 0 = true then 1 else 0
  | b + 1, Q => V0 b Q + V0 b (fun i j => Q i (1 + j))
def VV : Nat → Nat → (Nat → Nat → Bool) → Nat
  | 0, b, Q => V0 b Q
  | a + 1, b, Q => VV a b Q + VV a b (fun i j => Q (1 + i) (1 + j))
theorem VV_b : ∀ (a b : Nat) (Q : Nat → Nat → Bool), VV a (b + 1) Q = VV a b Q + VV a b (fun i j => Q i (1 + j))
  | 0, b, Q => rfl
  | a + 1, b, Q => by
    show VV a (b + 1) Q + VV a (b + 1) (fun i j => Q (1 + i) (1 + j)) = (VV a b Q + VV a b (fun i j => Q (1 + i) (1 + j))) + (VV a b (fun i j => Q i (1 + j)) + VV a b (fun i j => Q (1 + i) (1 + (1 + j))))
    rw [VV_b a b, VV_b a b]
    omega
theorem ct_par (p : Nat → Bool) : ∀ m, fb_ct p (2 * m) = fb_ct (fun y => p (2 * y + false.toNat)) m + fb_ct (fun y => p (2 * y + true.toNat)) m
  | 0 => rfl
  | m + 1 => by
    rw [show 2 * (m + 1) = 2 * m + 1 + 1 by omega, fb_ct_succ, fb_ct_succ, fb_ct_succ, fb_ct_succ, ct_par p m]
    show _ + (if p (2 * m) = true then 1 else 0) + (if p (2 * m + 1) = true then 1 else 0) = _ + (if p (2 * m) = true then 1 else 0) + (_ + (if p (2 * m + 1) = true then 1 else 0))
    omega
theorem sy_e : ∀ (n T : Nat) (Q : Nat → Nat → Bool), n ≤ 60 → T < 2 ^ n → fb_ct (fun x => Q (pc (T &&& x)) (pc x)) (2 ^ n) = VV (pc T) (n - pc T) Q
  | 0, T, Q, _, h => by
    have : T = 0 := by omega
    subst this
    rw [show pc 0 = 0 from pc_0]
    show 0 + (if Q (pc (0 &&& 0)) (pc 0) = true then 1 else 0) = if Q 0 0 = true then 1 else 0
    rw [show (0 &&& 0 : Nat) = 0 from rfl, show pc 0 = 0 from pc_0, Nat.zero_add]
  | n + 1, T, Q, hn, h => by
    obtain ⟨q, c, rfl⟩ : ∃ q c, T = 2 * q + Bool.toNat c := ⟨T / 2, decide (T % 2 = 1), by
      by_cases e : T % 2 = 1
      · rw [decide_eq_true e]; simp [Bool.toNat]; omega
      · rw [decide_eq_false e]; simp [Bool.toNat]; omega⟩
    have hq : q < 2 ^ n := by rw [Nat.pow_succ] at h; omega
    have h60 : 2 ^ n ≤ 2 ^ 60 := Nat.pow_le_pow_right (by decide) (by omega)
    have hle : pc q ≤ n := pc_lt2 hq (by omega)
    have step : ∀ b : Bool, fb_ct (fun y => Q (pc ((2 * q + c.toNat) &&& (2 * y + b.toNat))) (pc (2 * y + b.toNat))) (2 ^ n) = VV (pc q) (n - pc q) (fun i j => Q ((c && b).toNat + i) (b.toNat + j)) := by
      intro b
      rw [← sy_e n q (fun i j => Q ((c && b).toNat + i) (b.toNat + j)) (by omega) hq]
      refine fb_ct_cong fun y hy => ?_
      rw [and_b, pc_b _ (Nat.lt_of_lt_of_le (Nat.lt_of_le_of_lt Nat.and_le_left hq) h60), pc_b _ (by omega)]
    rw [show 2 ^ (n + 1) = 2 * 2 ^ n by rw [Nat.pow_succ]; omega, ct_par, step false, step true, pc_b c (by omega)]
    cases c
    · rw [show false.toNat + pc q = pc q from Nat.zero_add _, show n + 1 - pc q = (n - pc q) + 1 by omega, VV_b]
      simp only [Bool.toNat, Bool.false_and, cond_false, cond_true, Nat.zero_add]
    · rw [show true.toNat + pc q = pc q + 1 from Nat.add_comm _ _, show n + 1 - (pc q + 1) = n - pc q by omega]
      show _ = VV (pc q) (n - pc q) Q + VV (pc q) (n - pc q) (fun i j => Q (1 + i) (1 + j))
      simp only [Bool.toNat, Bool.true_and, cond_false, cond_true, Nat.zero_add]
theorem ct_sets (e fo : Nat) (q : Nat → Bool) : ∀ b, fb_ct (fun i => q (nth (sets e fo b) i)) (sets e fo b).length = fb_ct (fun x => hs e fo x && q x) b
  | 0 => rfl
  | b + 1 => by
    rw [fb_ct_succ, ← ct_sets e fo q b, sets_succ]
    by_cases h : hs e fo b = true
    · rw [if_pos h, h, Bool.true_and, List.length_append, show ([b] : List Nat).length = 1 from rfl, fb_ct_succ, nth_last]
      congr 1
      exact fb_ct_cong fun k hk => by rw [nth_app hk]
    · have h' : hs e fo b = false := by simpa using h
      rw [if_neg h, h', Bool.false_and, List.append_nil]
      rfl
theorem single_e {n T r d : Nat} (hn : n ≤ 60) (hT : T < 2 ^ n) : fb_ct (pw T r (nth (sets d 0 (2 ^ n)))) (sets d 0 (2 ^ n)).length = VV (pc T) (n - pc T) (fun i j => decide (j = d) && decide (r ≤ i)) := by
  have h1 := ct_sets d 0 (fun x => decide (r ≤ pc (T &&& x))) (2 ^ n)
  have h2 := sy_e n T (fun i j => decide (j = d) && decide (r ≤ i)) hn hT
  rw [← h2]
  refine Eq.trans h1 (fb_ct_cong fun x hx => ?_)
  unfold hs
  rw [show decide (0 &&& x = 0) = true from decide_eq_true (Nat.zero_and x), Bool.and_true]
theorem single_pos {n T r d : Nat} (hn : n ≤ 60) (hT : T < 2 ^ n) (h1 : r ≤ pc T) (h2 : r ≤ d) (h3 : d ≤ n) : 0 < fb_ct (pw T r (nth (sets d 0 (2 ^ n)))) (sets d 0 (2 ^ n)).length := by
  have ht : pc T ≤ n := pc_lt2 hT (by omega)
  have pos : ∀ T' x, x < 2 ^ n → T' < 2 ^ n → pc T' = pc T → pc x = d → r ≤ pc (T' &&& x) → 0 < fb_ct (pw T r (nth (sets d 0 (2 ^ n)))) (sets d 0 (2 ^ n)).length := by
    intro T' x hx hT' hp hd hr
    rw [single_e hn hT, ← hp, ← sy_e n T' _ hn hT']
    refine fb_ct_pos.mpr ⟨x, hx, ?_⟩
    simp only [hd, hr, decide_true, Bool.and_self]
  rcases Nat.lt_or_ge d (pc T) with q | q
  · obtain ⟨x0, a1, a2, -⟩ := ex_set n 0 d hn (Nat.two_pow_pos _) (by rw [pc_0]; exact Nat.zero_le _) h3
    obtain ⟨T', b1, b2, b3⟩ := ex_set n x0 (pc T) hn a1 (by omega) ht
    exact pos T' x0 a1 b1 b2 a2 (by rw [Nat.and_comm, b3, a2]; exact h2)
  · obtain ⟨x, a1, a2, a3⟩ := ex_set n T d hn hT q h3
    exact pos T x a1 hT rfl a2 (by rw [a3]; exact h1)
theorem Se_ne {g : Nat → Nat → Nat} (hg : GV g) : 0 < (Se g).length := sets_ne (Nat.le_trans hg.2.1 (by decide)) (Nat.two_pow_pos _) (by rw [pc_0]; exact Nat.zero_le _) (Nat.le_of_lt hg.2.2.2.1)
/-- how many draws each ticket wins -/
def one (g : Nat → Nat → Nat) : Nat := VV (g 0 1) (g 0 0 - g 0 1) (fun i j => decide (j = g 0 2) && decide (g 0 3 ≤ i))
theorem one_P {g : Nat → Nat → Nat} (hg : GV g) {i : Nat} (h : i < (Po g).length) : fb_ct (pw (nth (Po g) i) (g 0 3) (nth (Dr g))) (Dr g).length = one g := by
  have hm := sets_mem (nth_mem h)
  refine (single_e (Nat.le_trans hg.2.1 (by decide)) hm.1).trans ?_
  rw [hm.2.1]
  rfl
theorem one_S {g : Nat → Nat → Nat} (hg : GV g) {i : Nat} (h : i < (Se g).length) : fb_ct (pw (nth (Se g) i) (g 0 3) (nth (Dr g))) (Dr g).length = one g := by
  have hm := sets_mem (nth_mem h)
  refine (single_e (Nat.le_trans hg.2.1 (by decide)) hm.1).trans ?_
  rw [hm.2.1]
  rfl
theorem one_pos {g : Nat → Nat → Nat} (hg : GV g) : 0 < one g := by
  have hm := sets_mem (nth_mem (Se_ne hg))
  rw [← one_S hg (Se_ne hg)]
  exact single_pos (Nat.le_trans hg.2.1 (by decide)) hm.1 (by have e : pc (nth (Se g) 0) = g 0 1 := hm.2.1
                                                              rw [e]; exact hg.2.2.2.2.2.2.2.1) hg.2.2.2.2.2.2.2.2.1 (Nat.le_of_lt hg.2.2.2.2.2.1)
theorem one_le {g : Nat → Nat → Nat} (hg : GV g) : one g ≤ (Dr g).length := by
  rw [← one_S hg (Se_ne hg)]
  exact fb_ct_le _ _

set_option maxHeartbeats 4000000 in
theorem st_bound : St_bound Inv := by
  intro v_x_pad_size v_x_pad_signs_cells v_x_play_n v_x_play_t v_x_play_d v_x_play_r v_x_play_fond v_x_play_ticketCount v_x_play_sightCount v_x_play_tickets_cells v_x_play_prizes_cells v_x_play_sightTickets_cells v_x_play_sightNumbers_cells v_x_play_sightKinds_cells v_x_wheel_held v_x_wheel_draws_size v_x_wheel_draws_members_cells v_x_wheel_possible_size v_x_wheel_possible_members_cells v_x_wheel_wonByPossible_low v_x_wheel_wonByPossible_high v_x_wheel_wonByHeld_low v_x_wheel_wonByHeld_high v_x_wheel_work_low v_x_wheel_work_high v_x_wheel_search_allDraws v_x_wheel_search_single v_x_wheel_search_reached_low v_x_wheel_search_reached_high v_x_wheel_search_chosen_cells v_x_wheel_search_mostOne_size v_x_wheel_search_mostOne_won v_x_wheel_search_mostOne_found v_x_wheel_search_mostOne_sought v_x_wheel_search_mostOne_tickets_cells v_x_wheel_search_mostTwo_size v_x_wheel_search_mostTwo_won v_x_wheel_search_mostTwo_found v_x_wheel_search_mostTwo_sought v_x_wheel_search_mostTwo_tickets_cells v_x_wheel_search_mostThree_size v_x_wheel_search_mostThree_won v_x_wheel_search_mostThree_found v_x_wheel_search_mostThree_sought v_x_wheel_search_mostThree_tickets_cells v_x_wheel_search_fewest_size v_x_wheel_search_fewest_won v_x_wheel_search_fewest_found v_x_wheel_search_fewest_sought v_x_wheel_search_fewest_tickets_cells v_x_imageZero_kept v_x_imageZero_play_n v_x_imageZero_play_t v_x_imageZero_play_d v_x_imageZero_play_r v_x_imageZero_play_fond v_x_imageZero_play_ticketCount v_x_imageZero_play_sightCount v_x_imageZero_play_tickets_cells v_x_imageZero_play_prizes_cells v_x_imageZero_play_sightTickets_cells v_x_imageZero_play_sightNumbers_cells v_x_imageZero_play_sightKinds_cells v_x_imageOne_kept v_x_imageOne_play_n v_x_imageOne_play_t v_x_imageOne_play_d v_x_imageOne_play_r v_x_imageOne_play_fond v_x_imageOne_play_ticketCount v_x_imageOne_play_sightCount v_x_imageOne_play_tickets_cells v_x_imageOne_play_prizes_cells v_x_imageOne_play_sightTickets_cells v_x_imageOne_play_sightNumbers_cells v_x_imageOne_play_sightKinds_cells v_m_numbers v_m_onTicket v_m_drawn v_m_due v_m_ticketMany v_m_fond v_m_sights v_m_drawMany v_m_setMany v_m_padMany v_m_low v_m_high v_m_couldMany v_m_keptAt v_m_isWriting v_m_tickets v_m_prizes v_m_sightTicket v_m_sightRight v_m_sightHow v_m_draws v_m_sets v_m_winsLow v_m_winsHigh v_m_pad v_m_could v_m_row v_m_best v_m_kept v_m_isKept  hI
  have hI0 := hI
  obtain ⟨g, g0, g1, pad, pn, k0, k1, hG, hG0, hG1, hk0, hk1, hpn, hpad, xpn, xpad, xpl, xk0, xi0, xk1, xi1, xw, xc1, xc2, xc3, xcf, mpl, md, mpn, mpad, mk0, mk1, mi0, mi1⟩ := hI
  have xpl0 := xpl
  have mpl0 := mpl
  have xw0 := xw
  have md0 := md
  obtain ⟨a1, a2, a3, a4, a5, a6, a7, a8, a9, a10⟩ := xpl
  obtain ⟨b1, b2, b3, b4, b5, b6, b7, b8, b9, b10⟩ := mpl
  obtain ⟨w1, w2, w3, w4, w5, w6, w7, w8, w9, w10, w11⟩ := xw
  obtain ⟨d1, d2, d3, d4, d5⟩ := md
  have hGV := hG
  obtain ⟨e1, e2, e3, e4, e5, e6, e7, e8, e9, e10, e11, e12, e13, e14, e15, e16⟩ := hGV
  subst xpn
  subst mpn
  subst xk0
  subst xk1
  subst a1
  subst a2
  subst a3
  subst a4
  subst a5
  subst a6
  subst a7
  subst b1
  subst b2
  subst b3
  subst b4
  subst b5
  subst b6
  subst b7
  subst w1
  subst w2
  subst w4
  subst w8
  subst w9
  subst d1
  subst d2
  have hD : (Dr g).length ≤ 70 := Dr_70 hG
  have h1 := one_pos hG
  have h2 := one_le hG
  unfold f_Main_bound f_Model_bound f_Wheel_wonByOne
  obtain ⟨q1, q2⟩ := w6 0 (Po_ne hG)
  obtain ⟨s1, s2⟩ := d5 0 (Se_ne hG)
  rw [show f_Sets_size (nI (Dr g).length) = some (nI (Dr g).length) from rfl, show (0 : Int32) = nI 0 from rfl, count_e (p := pw (nth (Po g) 0) (g 0 3) (nth (Dr g))) (by decide) (by decide) hD q1 q2, bk1_s, bk1_s, bk1_s, one_P hG (Po_ne hG), gdN (by decide) (by decide), nI_clamp (by decide), s1, s2]
  unfold rl rh
  rw [onesL (wl_lt _ _), bk1_s, onesL (wh_lt _ hD), bk1_s, nI_add (pc _) (pc _), w_count _ hD, one_S hG (Se_ne hG), if_pos (show (1 : Int32) ≤ nI (one g) from nI_le (a := 1) h1 (by omega)), dzN h1 (by omega), gdN (by decide) (by decide), ← one_P hG (Po_ne hG)]
  exact ⟨_, rfl, rfl, hI0⟩

/-- a new game -/
def ggame (g : Nat → Nat → Nat) (N T D R : Nat) : Nat → Nat → Nat := fun x y => if x = 0 then (if y = 0 then N else if y = 1 then T else if y = 2 then D else if y = 3 then R else 0) else g x y
theorem CK_0 {g : Nat → Nat → Nat} {k : Nat} {a b d : Int32} {f : Nat → Int32} : CK g k a b 0 d f := Or.inl rfl
theorem CF_0 {g : Nat → Nat → Nat} {a b d : Int32} {f : Nat → Int32} : CF g a b 0 d f := Or.inl rfl
theorem GV_game {g : Nat → Nat → Nat} {N T D R : Nat} (hg : GV g) (h1 : 3 ≤ N) (h2 : N ≤ 8) (h3 : 2 ≤ T) (h4 : T < N) (h5 : 2 ≤ D) (h6 : D < N) (h7 : 1 ≤ R) (h8 : R ≤ T) (h9 : R ≤ D) : GV (ggame g N T D R) :=
  ⟨h1, h2, h3, h4, h5, h6, h7, h8, h9, Nat.two_pow_pos _, (show pc 0 ≤ T by rw [pc_0]; exact Nat.zero_le _), Nat.zero_le _, Nat.zero_le _, no_lt, hg.2.2.2.2.2.2.2.2.2.2.2.2.2.2.1, no_lt⟩
theorem WX_new {g : Nat → Nat → Nat} {N T D R F : Nat} (eN : g 0 0 = N) (eT : g 0 1 = T) (eD : g 0 2 = D) (eR : g 0 3 = R) (eF : g 0 4 = F) {od os : Nat → Int32} {oh ol hh hl r0 r1 : Nat → Int64} (hc : ∀ i, i < g 0 5 → hl i = tl (g 1) R (sets D 0 (2 ^ N)) i ∧ hh i = th (g 1) R (sets D 0 (2 ^ N)) i) (z0 : r0 0 = 0) (z1 : r1 0 = 0) :
    WX g (nI (g 0 5)) (nI (sets D 0 (2 ^ N)).length) (aL (sets D 0 (2 ^ N)) od) (nI (sets T F (2 ^ N)).length) (aL (sets T F (2 ^ N)) os) (fp (rl (sets T F (2 ^ N)) R (sets D 0 (2 ^ N))) ol (sets T F (2 ^ N)).length) (fp (rh (sets T F (2 ^ N)) R (sets D 0 (2 ^ N))) oh (sets T F (2 ^ N)).length) hl hh (nI (sets D 0 (2 ^ N)).length) (nI (fb_ct (pw (nth (sets T F (2 ^ N)) 0) R (nth (sets D 0 (2 ^ N)))) (sets D 0 (2 ^ N)).length)) r0 r1 := by
  subst eN
  subst eT
  subst eD
  subst eR
  subst eF
  exact ⟨rfl, rfl, fun i hi => aL_at hi, rfl, fun i hi => aL_at hi, fun i hi => ⟨fp_at hi, fp_at hi⟩, hc, rfl, rfl, z0, z1⟩
theorem MD_new {g : Nat → Nat → Nat} {N T D R : Nat} (eN : g 0 0 = N) (eT : g 0 1 = T) (eD : g 0 2 = D) (eR : g 0 3 = R) {od os : Nat → Int32} {oh ol : Nat → Int64} :
    MD g (nI (sets D 0 (2 ^ N)).length) (nI (sets T 0 (2 ^ N)).length) (aL (sets D 0 (2 ^ N)) od) (aL (sets T 0 (2 ^ N)) os) (fp (rl (sets T 0 (2 ^ N)) R (sets D 0 (2 ^ N))) ol (sets T 0 (2 ^ N)).length) (fp (rh (sets T 0 (2 ^ N)) R (sets D 0 (2 ^ N))) oh (sets T 0 (2 ^ N)).length) := by
  subst eN
  subst eT
  subst eD
  subst eR
  exact ⟨rfl, rfl, fun i hi => aL_at hi, fun i hi => aL_at hi, fun i hi => ⟨fp_at hi, fp_at hi⟩⟩

set_option maxHeartbeats 4000000 in
theorem st_game : St_game Inv := by
  intro v_x_pad_size v_x_pad_signs_cells v_x_play_n v_x_play_t v_x_play_d v_x_play_r v_x_play_fond v_x_play_ticketCount v_x_play_sightCount v_x_play_tickets_cells v_x_play_prizes_cells v_x_play_sightTickets_cells v_x_play_sightNumbers_cells v_x_play_sightKinds_cells v_x_wheel_held v_x_wheel_draws_size v_x_wheel_draws_members_cells v_x_wheel_possible_size v_x_wheel_possible_members_cells v_x_wheel_wonByPossible_low v_x_wheel_wonByPossible_high v_x_wheel_wonByHeld_low v_x_wheel_wonByHeld_high v_x_wheel_work_low v_x_wheel_work_high v_x_wheel_search_allDraws v_x_wheel_search_single v_x_wheel_search_reached_low v_x_wheel_search_reached_high v_x_wheel_search_chosen_cells v_x_wheel_search_mostOne_size v_x_wheel_search_mostOne_won v_x_wheel_search_mostOne_found v_x_wheel_search_mostOne_sought v_x_wheel_search_mostOne_tickets_cells v_x_wheel_search_mostTwo_size v_x_wheel_search_mostTwo_won v_x_wheel_search_mostTwo_found v_x_wheel_search_mostTwo_sought v_x_wheel_search_mostTwo_tickets_cells v_x_wheel_search_mostThree_size v_x_wheel_search_mostThree_won v_x_wheel_search_mostThree_found v_x_wheel_search_mostThree_sought v_x_wheel_search_mostThree_tickets_cells v_x_wheel_search_fewest_size v_x_wheel_search_fewest_won v_x_wheel_search_fewest_found v_x_wheel_search_fewest_sought v_x_wheel_search_fewest_tickets_cells v_x_imageZero_kept v_x_imageZero_play_n v_x_imageZero_play_t v_x_imageZero_play_d v_x_imageZero_play_r v_x_imageZero_play_fond v_x_imageZero_play_ticketCount v_x_imageZero_play_sightCount v_x_imageZero_play_tickets_cells v_x_imageZero_play_prizes_cells v_x_imageZero_play_sightTickets_cells v_x_imageZero_play_sightNumbers_cells v_x_imageZero_play_sightKinds_cells v_x_imageOne_kept v_x_imageOne_play_n v_x_imageOne_play_t v_x_imageOne_play_d v_x_imageOne_play_r v_x_imageOne_play_fond v_x_imageOne_play_ticketCount v_x_imageOne_play_sightCount v_x_imageOne_play_tickets_cells v_x_imageOne_play_prizes_cells v_x_imageOne_play_sightTickets_cells v_x_imageOne_play_sightNumbers_cells v_x_imageOne_play_sightKinds_cells v_m_numbers v_m_onTicket v_m_drawn v_m_due v_m_ticketMany v_m_fond v_m_sights v_m_drawMany v_m_setMany v_m_padMany v_m_low v_m_high v_m_couldMany v_m_keptAt v_m_isWriting v_m_tickets v_m_prizes v_m_sightTicket v_m_sightRight v_m_sightHow v_m_draws v_m_sets v_m_winsLow v_m_winsHigh v_m_pad v_m_could v_m_row v_m_best v_m_kept v_m_isKept p0 p1 p2 p3 hI
  have hI0 := hI
  obtain ⟨g, g0, g1, pad, pn, k0, k1, hG, hG0, hG1, hk0, hk1, hpn, hpad, xpn, xpad, xpl, xk0, xi0, xk1, xi1, xw, xc1, xc2, xc3, xcf, mpl, md, mpn, mpad, mk0, mk1, mi0, mi1⟩ := hI
  have xpl0 := xpl
  have mpl0 := mpl
  have xw0 := xw
  have md0 := md
  obtain ⟨a1, a2, a3, a4, a5, a6, a7, a8, a9, a10⟩ := xpl
  obtain ⟨b1, b2, b3, b4, b5, b6, b7, b8, b9, b10⟩ := mpl
  obtain ⟨w1, w2, w3, w4, w5, w6, w7, w8, w9, w10, w11⟩ := xw
  obtain ⟨d1, d2, d3, d4, d5⟩ := md
  have hGV := hG
  obtain ⟨e1, e2, e3, e4, e5, e6, e7, e8, e9, e10, e11, e12, e13, e14, e15, e16⟩ := hGV
  subst xpn
  subst mpn
  subst xk0
  subst xk1
  subst a1
  subst a2
  subst a3
  subst a4
  subst a5
  subst a6
  subst a7
  subst b1
  subst b2
  subst b3
  subst b4
  subst b5
  subst b6
  subst b7
  subst w1
  subst w2
  subst w4
  subst w8
  subst w9
  subst d1
  subst d2
  unfold f_Main_game f_Model_game
  rw [show (3 : Int64) = (3 : Int32).toInt64 from rfl, show (8 : Int64) = (8 : Int32).toInt64 from rfl, show (2 : Int64) = (2 : Int32).toInt64 from rfl, show (1 : Int64) = (1 : Int32).toInt64 from rfl, in_e, in_e, in_e, in_e, in_e]
  rcases within_c p0 3 8 with ⟨w, h1, h2⟩ | ⟨w, -⟩
  · obtain ⟨N, n1, n2, rfl⟩ := betw (a := 3) (b := 8) h1 h2 (by decide) (by decide)
    rw [w, bk1_s, bk1_s, if_neg (show ¬ (1 : Int32) = 0 by decide), if_neg (show ¬ (1 : Int32) = 0 by decide), show nI N - (1 : Int32) = nI (N - 1) from pk_sub (b := 1) (by omega)]
    rcases within_c p1 2 (nI (N - 1)) with ⟨w1', h1', h2'⟩ | ⟨w1', -⟩
    · obtain ⟨T, t1, t2, rfl⟩ := betw (a := 2) h1' h2' (by decide) (by omega)
      rw [w1', bk1_s, bk1_s, if_neg (show ¬ (1 : Int32) = 0 by decide), if_neg (show ¬ (1 : Int32) = 0 by decide)]
      rcases within_c p2 2 (nI (N - 1)) with ⟨w2', h1'', h2''⟩ | ⟨w2', -⟩
      · obtain ⟨D, u1, u2, rfl⟩ := betw (a := 2) h1'' h2'' (by decide) (by omega)
        rw [w2', bk1_s, bk1_s, if_neg (show ¬ (1 : Int32) = 0 by decide), if_neg (show ¬ (1 : Int32) = 0 by decide)]
        have fin : ∀ R : Nat, 1 ≤ R → R ≤ T → R ≤ D → p3 = nI R → ∃ (r : Int32) (X_t_play_d : Int32) (X_t_play_fond : Int32) (X_t_play_n : Int32) (X_t_play_r : Int32) (X_t_play_sightCount : Int32) (X_t_play_t : Int32) (X_t_play_ticketCount : Int32) (X_t_wheel_held : Int32) (X_t_wheel_draws_size : Int32) (X_t_wheel_draws_members_cells : Nat → Int32) (X_t_wheel_possible_size : Int32) (X_t_wheel_possible_members_cells : Nat → Int32) (X_t_wheel_search_allDraws : Int32) (X_t_wheel_search_single : Int32) (X_t_wheel_search_fewest_sought : Int32) (X_t_wheel_search_mostOne_sought : Int32) (X_t_wheel_search_mostThree_sought : Int32) (X_t_wheel_search_mostTwo_sought : Int32) (X_t_wheel_wonByHeld_high : Nat → Int64) (X_t_wheel_wonByHeld_low : Nat → Int64) (X_t_wheel_wonByPossible_high : Nat → Int64) (X_t_wheel_wonByPossible_low : Nat → Int64) (Y_t_drawMany : Int32) (Y_t_drawn : Int32) (Y_t_due : Int32) (Y_t_fond : Int32) (Y_t_numbers : Int32) (Y_t_onTicket : Int32) (Y_t_setMany : Int32) (Y_t_sights : Int32) (Y_t_ticketMany : Int32) (Y_t_draws : Nat → Int32) (Y_t_sets : Nat → Int32) (Y_t_winsHigh : Nat → Int64) (Y_t_winsLow : Nat → Int64), (bk7 (f_Play_begin (nI N) (nI T) (nI D) p3) fun w_9_0 w_9_1 w_9_2 w_9_3 w_9_4 w_9_5 w_9_6 => bk12 (f_Wheel_takeGame w_9_0 w_9_1 w_9_2 w_9_3 w_9_5 v_x_wheel_draws_members_cells v_x_wheel_possible_members_cells v_x_wheel_wonByPossible_high v_x_wheel_wonByPossible_low) fun w_10_0 w_10_1 w_10_2 w_10_3 w_10_4 w_10_5 w_10_6 w_10_7 w_10_8 w_10_9 w_10_10 w_10_11 => bk3 (f_Wheel_takeTickets w_9_3 w_9_6 v_x_play_tickets_cells w_10_0 w_10_1 v_x_wheel_wonByHeld_high v_x_wheel_wonByHeld_low) fun w_11_0 w_11_1 w_11_2 => bk1 (f_Sets_size w_10_0) fun r_12 => some (r_12, w_9_0, w_9_1, w_9_2, w_9_3, w_9_4, w_9_5, w_9_6, w_11_0, w_10_0, w_10_1, w_10_2, w_10_3, w_10_4, w_10_5, w_10_6, w_10_7, w_10_8, w_10_9, w_11_1, w_11_2, w_10_10, w_10_11)) = some (r, X_t_play_d, X_t_play_fond, X_t_play_n, X_t_play_r, X_t_play_sightCount, X_t_play_t, X_t_play_ticketCount, X_t_wheel_held, X_t_wheel_draws_size, X_t_wheel_draws_members_cells, X_t_wheel_possible_size, X_t_wheel_possible_members_cells, X_t_wheel_search_allDraws, X_t_wheel_search_single, X_t_wheel_search_fewest_sought, X_t_wheel_search_mostOne_sought, X_t_wheel_search_mostThree_sought, X_t_wheel_search_mostTwo_sought, X_t_wheel_wonByHeld_high, X_t_wheel_wonByHeld_low, X_t_wheel_wonByPossible_high, X_t_wheel_wonByPossible_low) ∧ (bk13 (f_Model_begin v_m_draws v_m_sets v_m_winsHigh v_m_winsLow (nI N) (nI T) (nI D) p3) fun w_15_0 w_15_1 w_15_2 w_15_3 w_15_4 w_15_5 w_15_6 w_15_7 w_15_8 w_15_9 w_15_10 w_15_11 w_15_12 => some (w_15_0, w_15_0, w_15_1, w_15_2, w_15_3, w_15_4, w_15_5, w_15_6, w_15_7, w_15_8, w_15_9, w_15_10, w_15_11, w_15_12)) = some (r, Y_t_drawMany, Y_t_drawn, Y_t_due, Y_t_fond, Y_t_numbers, Y_t_onTicket, Y_t_setMany, Y_t_sights, Y_t_ticketMany, Y_t_draws, Y_t_sets, Y_t_winsHigh, Y_t_winsLow) ∧ Inv (nI pn) v_x_pad_signs_cells X_t_play_n X_t_play_t X_t_play_d X_t_play_r X_t_play_fond X_t_play_ticketCount X_t_play_sightCount v_x_play_tickets_cells v_x_play_prizes_cells v_x_play_sightTickets_cells v_x_play_sightNumbers_cells v_x_play_sightKinds_cells X_t_wheel_held X_t_wheel_draws_size X_t_wheel_draws_members_cells X_t_wheel_possible_size X_t_wheel_possible_members_cells X_t_wheel_wonByPossible_low X_t_wheel_wonByPossible_high X_t_wheel_wonByHeld_low X_t_wheel_wonByHeld_high v_x_wheel_work_low v_x_wheel_work_high X_t_wheel_search_allDraws X_t_wheel_search_single v_x_wheel_search_reached_low v_x_wheel_search_reached_high v_x_wheel_search_chosen_cells v_x_wheel_search_mostOne_size v_x_wheel_search_mostOne_won v_x_wheel_search_mostOne_found X_t_wheel_search_mostOne_sought v_x_wheel_search_mostOne_tickets_cells v_x_wheel_search_mostTwo_size v_x_wheel_search_mostTwo_won v_x_wheel_search_mostTwo_found X_t_wheel_search_mostTwo_sought v_x_wheel_search_mostTwo_tickets_cells v_x_wheel_search_mostThree_size v_x_wheel_search_mostThree_won v_x_wheel_search_mostThree_found X_t_wheel_search_mostThree_sought v_x_wheel_search_mostThree_tickets_cells v_x_wheel_search_fewest_size v_x_wheel_search_fewest_won v_x_wheel_search_fewest_found X_t_wheel_search_fewest_sought v_x_wheel_search_fewest_tickets_cells (nI k0) v_x_imageZero_play_n v_x_imageZero_play_t v_x_imageZero_play_d v_x_imageZero_play_r v_x_imageZero_play_fond v_x_imageZero_play_ticketCount v_x_imageZero_play_sightCount v_x_imageZero_play_tickets_cells v_x_imageZero_play_prizes_cells v_x_imageZero_play_sightTickets_cells v_x_imageZero_play_sightNumbers_cells v_x_imageZero_play_sightKinds_cells (nI k1) v_x_imageOne_play_n v_x_imageOne_play_t v_x_imageOne_play_d v_x_imageOne_play_r v_x_imageOne_play_fond v_x_imageOne_play_ticketCount v_x_imageOne_play_sightCount v_x_imageOne_play_tickets_cells v_x_imageOne_play_prizes_cells v_x_imageOne_play_sightTickets_cells v_x_imageOne_play_sightNumbers_cells v_x_imageOne_play_sightKinds_cells Y_t_numbers Y_t_onTicket Y_t_drawn Y_t_due Y_t_ticketMany Y_t_fond Y_t_sights Y_t_drawMany Y_t_setMany (nI pn) v_m_low v_m_high v_m_couldMany v_m_keptAt v_m_isWriting v_m_tickets v_m_prizes v_m_sightTicket v_m_sightRight v_m_sightHow Y_t_draws Y_t_sets Y_t_winsLow Y_t_winsHigh v_m_pad v_m_could v_m_row v_m_best v_m_kept v_m_isKept := by
          intro R r1 r2 r3 e3
          subst e3
          have hG' := GV_game hG n1 n2 t1 (show T < N by omega) u1 (show D < N by omega) r1 r2 r3
          have hT : 0 < (sets T 0 (2 ^ N)).length := sets_ne (by omega) (Nat.two_pow_pos _) (by rw [pc_0]; exact Nat.zero_le _) (by omega)
          have hD : (sets D 0 (2 ^ N)).length ≤ 70 := sets_70 (by omega) (pow_256 n2)
          unfold f_Play_begin f_Model_begin
          rw [show f_Play_dropTickets = some (0, 0) from rfl, bk2_s, bk7_s, show (0 : Int32) = nI 0 from rfl, takeGame_e n2 (by omega) (by omega) (by omega) (by decide) hT, bk12_s, takeTickets_e (tk := g 1) (by decide) (by omega) hD no_lt (fun k hk => aL_at hk), bk3_s, show f_Sets_size (nI (sets D 0 (2 ^ N)).length) = some (nI (sets D 0 (2 ^ N)).length) from rfl, bk1_s, findAll_e n2 (by omega) (by omega) (by omega), bk6_s, bk13_s]
          exact ⟨_, _, _, _, _, _, _, _, _, _, _, _, _, _, _, _, _, _, _, _, _, _, _, _, _, _, _, _, _, _, _, _, _, _, _, _, rfl, rfl, ⟨ggame g N T D R, g0, g1, pad, pn, k0, k1, hG', hG0, hG1, hk0, hk1, hpn, hpad, rfl, xpad, ⟨rfl, rfl, rfl, rfl, rfl, rfl, rfl, no_lt, a9, no_lt⟩, rfl, xi0, rfl, xi1, WX_new (g := ggame g N T D R) (N := N) (T := T) (D := D) (R := R) (F := 0) rfl rfl rfl rfl rfl no_lt w10 w11, CK_0, CK_0, CK_0, CF_0, ⟨rfl, rfl, rfl, rfl, rfl, rfl, rfl, no_lt, b9, no_lt⟩, MD_new (g := ggame g N T D R) (N := N) (T := T) (D := D) (R := R) rfl rfl rfl rfl, rfl, mpad, mk0, mk1, mi0, mi1⟩⟩
        by_cases hlt : D < T
        · rw [if_pos (nI_lt hlt (by omega)), if_pos (nI_le (Nat.le_of_lt hlt) (by omega))]
          rcases within_c p3 1 (nI D) with ⟨w3', q1, q2⟩ | ⟨w3', -⟩
          · obtain ⟨R, r1, r2, rfl⟩ := betw (a := 1) q1 q2 (by decide) (by omega)
            rw [w3', bk1_s, bk1_s, if_neg (show ¬ (1 : Int32) = 0 by decide), if_neg (show ¬ (1 : Int32) = 0 by decide)]
            exact fin R r1 (by omega) r2 rfl
          · rw [w3']
            exact ⟨_, _, _, _, _, _, _, _, _, _, _, _, _, _, _, _, _, _, _, _, _, _, _, _, _, _, _, _, _, _, _, _, _, _, _, _, rfl, rfl, hI0⟩
        · rw [if_neg (nI_nlt (by omega) (by omega))]
          by_cases heq : D = T
          · subst heq
            rw [if_pos (nI_le (Nat.le_refl _) (by omega))]
            rcases within_c p3 1 (nI D) with ⟨w3', q1, q2⟩ | ⟨w3', -⟩
            · obtain ⟨R, r1, r2, rfl⟩ := betw (a := 1) q1 q2 (by decide) (by omega)
              rw [w3', bk1_s, bk1_s, if_neg (show ¬ (1 : Int32) = 0 by decide), if_neg (show ¬ (1 : Int32) = 0 by decide)]
              exact fin R r1 r2 r2 rfl
            · rw [w3']
              exact ⟨_, _, _, _, _, _, _, _, _, _, _, _, _, _, _, _, _, _, _, _, _, _, _, _, _, _, _, _, _, _, _, _, _, _, _, _, rfl, rfl, hI0⟩
          · rw [if_neg (nI_ge (show T < D by omega) (by omega))]
            rcases within_c p3 1 (nI T) with ⟨w3', q1, q2⟩ | ⟨w3', -⟩
            · obtain ⟨R, r1, r2, rfl⟩ := betw (a := 1) q1 q2 (by decide) (by omega)
              rw [w3', bk1_s, bk1_s, if_neg (show ¬ (1 : Int32) = 0 by decide), if_neg (show ¬ (1 : Int32) = 0 by decide)]
              exact fin R r1 r2 (by omega) rfl
            · rw [w3']
              exact ⟨_, _, _, _, _, _, _, _, _, _, _, _, _, _, _, _, _, _, _, _, _, _, _, _, _, _, _, _, _, _, _, _, _, _, _, _, rfl, rfl, hI0⟩
      · rw [w2']
        exact ⟨_, _, _, _, _, _, _, _, _, _, _, _, _, _, _, _, _, _, _, _, _, _, _, _, _, _, _, _, _, _, _, _, _, _, _, _, rfl, rfl, hI0⟩
    · rw [w1']
      exact ⟨_, _, _, _, _, _, _, _, _, _, _, _, _, _, _, _, _, _, _, _, _, _, _, _, _, _, _, _, _, _, _, _, _, _, _, _, rfl, rfl, hI0⟩
  · rw [w]
    exact ⟨_, _, _, _, _, _, _, _, _, _, _, _, _, _, _, _, _, _, _, _, _, _, _, _, _, _, _, _, _, _, _, _, _, _, _, _, rfl, rfl, hI0⟩

def gfond (g : Nat → Nat → Nat) (a : Nat) : Nat → Nat → Nat := fun x y => if x = 0 ∧ y = 4 then a else g x y

set_option maxHeartbeats 4000000 in
theorem st_fond : St_fond Inv := by
  intro v_x_pad_size v_x_pad_signs_cells v_x_play_n v_x_play_t v_x_play_d v_x_play_r v_x_play_fond v_x_play_ticketCount v_x_play_sightCount v_x_play_tickets_cells v_x_play_prizes_cells v_x_play_sightTickets_cells v_x_play_sightNumbers_cells v_x_play_sightKinds_cells v_x_wheel_held v_x_wheel_draws_size v_x_wheel_draws_members_cells v_x_wheel_possible_size v_x_wheel_possible_members_cells v_x_wheel_wonByPossible_low v_x_wheel_wonByPossible_high v_x_wheel_wonByHeld_low v_x_wheel_wonByHeld_high v_x_wheel_work_low v_x_wheel_work_high v_x_wheel_search_allDraws v_x_wheel_search_single v_x_wheel_search_reached_low v_x_wheel_search_reached_high v_x_wheel_search_chosen_cells v_x_wheel_search_mostOne_size v_x_wheel_search_mostOne_won v_x_wheel_search_mostOne_found v_x_wheel_search_mostOne_sought v_x_wheel_search_mostOne_tickets_cells v_x_wheel_search_mostTwo_size v_x_wheel_search_mostTwo_won v_x_wheel_search_mostTwo_found v_x_wheel_search_mostTwo_sought v_x_wheel_search_mostTwo_tickets_cells v_x_wheel_search_mostThree_size v_x_wheel_search_mostThree_won v_x_wheel_search_mostThree_found v_x_wheel_search_mostThree_sought v_x_wheel_search_mostThree_tickets_cells v_x_wheel_search_fewest_size v_x_wheel_search_fewest_won v_x_wheel_search_fewest_found v_x_wheel_search_fewest_sought v_x_wheel_search_fewest_tickets_cells v_x_imageZero_kept v_x_imageZero_play_n v_x_imageZero_play_t v_x_imageZero_play_d v_x_imageZero_play_r v_x_imageZero_play_fond v_x_imageZero_play_ticketCount v_x_imageZero_play_sightCount v_x_imageZero_play_tickets_cells v_x_imageZero_play_prizes_cells v_x_imageZero_play_sightTickets_cells v_x_imageZero_play_sightNumbers_cells v_x_imageZero_play_sightKinds_cells v_x_imageOne_kept v_x_imageOne_play_n v_x_imageOne_play_t v_x_imageOne_play_d v_x_imageOne_play_r v_x_imageOne_play_fond v_x_imageOne_play_ticketCount v_x_imageOne_play_sightCount v_x_imageOne_play_tickets_cells v_x_imageOne_play_prizes_cells v_x_imageOne_play_sightTickets_cells v_x_imageOne_play_sightNumbers_cells v_x_imageOne_play_sightKinds_cells v_m_numbers v_m_onTicket v_m_drawn v_m_due v_m_ticketMany v_m_fond v_m_sights v_m_drawMany v_m_setMany v_m_padMany v_m_low v_m_high v_m_couldMany v_m_keptAt v_m_isWriting v_m_tickets v_m_prizes v_m_sightTicket v_m_sightRight v_m_sightHow v_m_draws v_m_sets v_m_winsLow v_m_winsHigh v_m_pad v_m_could v_m_row v_m_best v_m_kept v_m_isKept p0 hI
  have hI0 := hI
  obtain ⟨g, g0, g1, pad, pn, k0, k1, hG, hG0, hG1, hk0, hk1, hpn, hpad, xpn, xpad, xpl, xk0, xi0, xk1, xi1, xw, xc1, xc2, xc3, xcf, mpl, md, mpn, mpad, mk0, mk1, mi0, mi1⟩ := hI
  have xpl0 := xpl
  have mpl0 := mpl
  have xw0 := xw
  have md0 := md
  obtain ⟨a1, a2, a3, a4, a5, a6, a7, a8, a9, a10⟩ := xpl
  obtain ⟨b1, b2, b3, b4, b5, b6, b7, b8, b9, b10⟩ := mpl
  obtain ⟨w1, w2, w3, w4, w5, w6, w7, w8, w9, w10, w11⟩ := xw
  obtain ⟨d1, d2, d3, d4, d5⟩ := md
  have hGV := hG
  obtain ⟨e1, e2, e3, e4, e5, e6, e7, e8, e9, e10, e11, e12, e13, e14, e15, e16⟩ := hGV
  subst xpn
  subst mpn
  subst xk0
  subst xk1
  subst a1
  subst a2
  subst a3
  subst a4
  subst a5
  subst a6
  subst a7
  subst b1
  subst b2
  subst b3
  subst b4
  subst b5
  subst b6
  subst b7
  subst w1
  subst w2
  subst w4
  subst w8
  subst w9
  subst d1
  subst d2
  unfold f_Main_fond f_Model_fond f_Play_isOfNumbers
  rw [show f_Play_allNumbers (nI (g 0 0)) = some (nI (2 ^ g 0 0 - 1)) from congrArg some (allN e2), bk1_s, allN e2, show (0 : Int64) = (0 : Int32).toInt64 from rfl, in_e]
  rcases num_e e2 p0 with ⟨a, ha, rfl, y1, y2⟩ | ⟨y1, y2⟩
  · have ha2 : a < 256 := Nat.lt_of_lt_of_le ha (pow_256 e2)
    have hp : pc a < 2 ^ 31 := pc_256 ha2
    rw [y1, y2, bk1_s, show bz (1 : Int32) (some (1 : Int32)) = some 1 from rfl, bk1_s, bk1_s, if_neg (show ¬ (1 : Int32) = 0 by decide), if_neg (show ¬ (1 : Int32) = 0 by decide), bcI ha2, bk1_s, onesI (by omega), bk1_s]
    by_cases ht : pc a ≤ g 0 1
    · rw [if_pos (nI_le ht (by omega)), if_pos (nI_le ht (by omega)), takeGame_e e2 (by omega) (by omega) (by omega) ha2 (sets_ne (by omega) ha ht (by omega)), bk12_s]
      exact ⟨_, _, _, _, _, _, _, _, _, _, _, _, _, _, _, rfl, rfl, ⟨gfond g a, g0, g1, pad, pn, k0, k1, ⟨e1, e2, e3, e4, e5, e6, e7, e8, e9, ha, ht, e12, e13, e14, e15, e16⟩, hG0, hG1, hk0, hk1, hpn, hpad, rfl, xpad, ⟨rfl, rfl, rfl, rfl, rfl, rfl, rfl, a8, a9, a10⟩, rfl, xi0, rfl, xi1, WX_new (g := gfond g a) (N := g 0 0) (T := g 0 1) (D := g 0 2) (R := g 0 3) (F := a) rfl rfl rfl rfl rfl w7 w10 w11, CK_0, CK_0, CK_0, CF_0, ⟨rfl, rfl, rfl, rfl, rfl, rfl, rfl, b8, b9, b10⟩, MD_c rfl rfl rfl rfl md0, rfl, mpad, mk0, mk1, mi0, mi1⟩⟩
    · rw [if_neg (nI_ge (by omega) hp), if_neg (nI_ge (by omega) hp)]
      exact ⟨_, _, _, _, _, _, _, _, _, _, _, _, _, _, _, rfl, rfl, hI0⟩
  · rw [y1, y2]
    exact ⟨_, _, _, _, _, _, _, _, _, _, _, _, _, _, _, rfl, rfl, hI0⟩
