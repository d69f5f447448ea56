theorem within_N {x a b : Nat} (hx : x < 2 ^ 31) (ha : a < 2 ^ 31) (hb : b < 2 ^ 31) : f_Main_isWithin (nI x) (nI a) (nI b) = some (if a ≤ x ∧ x ≤ b then 1 else 0) := by
  unfold f_Main_isWithin
  by_cases h1 : x < a
  · rw [if_pos (nI_lt h1 ha), if_neg (by omega)]
  · rw [if_neg (nI_nlt (by omega) hx)]
    by_cases h2 : b < x
    · rw [if_pos (nI_lt h2 hx), if_neg (by omega)]
    · rw [if_neg (nI_nlt (by omega) hb), if_pos (by omega)]
theorem within_M {y a b : Nat} (hy : y < 48) (ha : a < 2 ^ 31) (hb : b < 2 ^ 31) : f_Main_isWithin (nI y - (48 : Int32)) (nI a) (nI b) = some 0 := by
  unfold f_Main_isWithin
  rw [if_pos]
  rw [Int32.lt_iff_toInt_lt, show (48 : Int32) = nI 48 from rfl, pk_sub_toInt (by omega) (by decide), nI_toInt ha]
  omega
/-- one sign of a text: how many numbers stand, the last, how many semicolons; none is a fault -/
def fstep (n t c : Nat) (s : Nat × Nat × Nat) : Option (Nat × Nat × Nat) :=
  if c = 59 then (if s.1 = t ∧ s.2.2 < 5 then some (0, 48, s.2.2 + 1) else none)
  else if s.2.1 + 1 ≤ c ∧ c ≤ 48 + n ∧ s.1 < t then some (s.1 + 1, c, s.2.2) else none
/-- the reading of the rest of a text: how many numbers stand at the end, or where the fault is -/
def fread (n t : Nat) (p : Nat → Nat) : Nat → Nat → Nat × Nat × Nat → Nat ⊕ Nat
  | 0, _, s => .inl s.1
  | j + 1, k, s => match fstep n t (p k) s with
    | none => .inr k
    | some s' => fread n t p j (k + 1) s'
def FI (n t : Nat) (s : Nat × Nat × Nat) : Prop := s.1 ≤ t ∧ 48 ≤ s.2.1 ∧ s.2.1 ≤ 48 + n ∧ s.2.2 ≤ 5
theorem fstep_I {n t c : Nat} {s s' : Nat × Nat × Nat} (h : FI n t s) (e : fstep n t c s = some s') : FI n t s' := by
  unfold fstep at e
  obtain ⟨h1, h2, h3, h4⟩ := h
  split at e
  · split at e
    · cases e
      exact ⟨Nat.zero_le _, Nat.le_refl _, Nat.le_add_right _ _, by show s.2.2 + 1 ≤ 5; omega⟩
    · cases e
  · split at e
    · cases e
      exact ⟨by show s.1 + 1 ≤ t; omega, by show 48 ≤ c; omega, by show c ≤ 48 + n; omega, h4⟩
    · cases e
theorem mfault_e {n t pn : Nat} {p : Nat → Nat} {cells : Nat → Int32} (hn : n ≤ 8) (ht : t ≤ 8) (hpn : pn ≤ 60) (hp : ∀ i, i < pn → 33 ≤ p i ∧ p i ≤ 126) (hc : ∀ i, i < pn → cells i = nI (p i)) :
    ∀ (j k m : Nat) (s : Nat × Nat × Nat), k + j = pn → j < m → FI n t s → ∃ a b, L_Model_fault_10 (nI n) (nI t) (nI pn) cells m (nI s.1) (nI s.2.1) (nI s.2.2) (nI k) = some (match fread n t p j k s with | .inl q => .ok (nI q, a, b, nI pn) | .inr e => .error (nI e)) := by
  intro j
  induction j with
  | zero =>
    intro k m s hk hm hs
    obtain ⟨m, rfl⟩ : ∃ n', m = n' + 1 := ⟨m - 1, by omega⟩
    have : k = pn := by omega
    subst this
    rw [L_Model_fault_10, if_pos (nI_le (Nat.le_refl _) (by omega))]
    exact ⟨_, _, rfl⟩
  | succ j ih =>
    intro k m s hk hm hs
    obtain ⟨m, rfl⟩ : ∃ n', m = n' + 1 := ⟨m - 1, by omega⟩
    have hs0 := hs
    obtain ⟨h1, h2, h3, h4⟩ := hs
    obtain ⟨p1, p2⟩ := hp k (by omega)
    have hstep := @fstep_I n t (p k) s
    rw [L_Model_fault_10, if_neg (nI_ge (by omega) (by omega)), gdN (by omega) (by decide), nI_clamp (by omega), hc k (by omega), nI_1, nI_1, show (48 : Int32) = nI 48 from rfl, nI_add, in_e, within_N (by omega) (by omega) (by omega), bk1_s]
    have h59 : nI (p k) = (59 : Int32) ↔ p k = 59 := nI_eq (b := 59) (by omega) (by decide)
    have ht1 : nI s.1 = nI t ↔ s.1 = t := nI_eq (by omega) (by omega)
    have h5 : (5 : Int32) ≤ nI s.2.2 ↔ 5 ≤ s.2.2 := nI_leI (a := 5) (by decide) (by omega)
    have ht2 : nI t ≤ nI s.1 ↔ t ≤ s.1 := nI_leI (by omega) (by omega)
    have hE : fread n t p (j + 1) k s = match fstep n t (p k) s with | none => .inr k | some s' => fread n t p j (k + 1) s' := rfl
    rw [hE]
    by_cases c59 : p k = 59
    · have e0 : ¬ (s.2.1 + 1 ≤ p k ∧ p k ≤ 48 + n) := by omega
      rw [if_neg e0, if_pos rfl, if_pos (h59.mpr c59)]
      by_cases q : s.1 = t
      · rw [if_pos (ht1.mpr q)]
        by_cases q5 : 5 ≤ s.2.2
        · rw [if_pos (h5.mpr q5)]
          have e : fstep n t (p k) s = none := by unfold fstep; rw [if_pos c59, if_neg (by omega)]
          rw [e]
          exact ⟨0, 0, rfl⟩
        · rw [if_neg (fun x => q5 (h5.mp x)), nI_1]
          have e : fstep n t (p k) s = some (0, 48, s.2.2 + 1) := by unfold fstep; rw [if_pos c59, if_pos (by omega)]
          rw [e]
          exact ih (k + 1) m (0, 48, s.2.2 + 1) (by omega) (by omega) (hstep hs0 e)
      · rw [if_neg (fun x => q (ht1.mp x))]
        have e : fstep n t (p k) s = none := by unfold fstep; rw [if_pos c59, if_neg (by omega)]
        rw [e]
        exact ⟨0, 0, rfl⟩
    · by_cases cin : s.2.1 + 1 ≤ p k ∧ p k ≤ 48 + n
      · rw [if_pos cin, if_neg (show ¬ (1 : Int32) = 0 by decide)]
        by_cases q : t ≤ s.1
        · rw [if_pos (ht2.mpr q), if_neg (fun x => c59 (h59.mp x))]
          have e : fstep n t (p k) s = none := by unfold fstep; rw [if_neg c59, if_neg (by omega)]
          rw [e]
          exact ⟨0, 0, rfl⟩
        · rw [if_neg (fun x => q (ht2.mp x)), nI_1, nI_1]
          have e : fstep n t (p k) s = some (s.1 + 1, p k, s.2.2) := by unfold fstep; rw [if_neg c59, if_pos (by omega)]
          rw [e]
          exact ih (k + 1) m (s.1 + 1, p k, s.2.2) (by omega) (by omega) (hstep hs0 e)
      · rw [if_neg cin, if_pos rfl, if_neg (fun x => c59 (h59.mp x))]
        have e : fstep n t (p k) s = none := by unfold fstep; rw [if_neg c59, if_neg (by omega)]
        rw [e]
        exact ⟨0, 0, rfl⟩
theorem xfault_e {n t pn : Nat} {p : Nat → Nat} {cells : Nat → Int32} (hn : n ≤ 8) (ht : t ≤ 8) (ht0 : 0 < t) (hpn : pn ≤ 60) (hp : ∀ i, i < pn → 33 ≤ p i ∧ p i ≤ 126) (hc : ∀ i, i < pn → cells i = nI (p i)) :
    ∀ (j k m : Nat) (s : Nat × Nat × Nat), k + j = pn → j < m → FI n t s → ∃ a b, L_Pad_findFault_11 (nI n) (nI t) (nI pn) cells m (nI s.1) (nI (s.2.1 - 48)) (nI (s.2.2 + if s.1 = t then 1 else 0)) (nI k) = some (match fread n t p j k s with | .inl q => .ok (nI q, a, b, nI pn) | .inr e => .error (nI e)) := by
  intro j
  induction j with
  | zero =>
    intro k m s hk hm hs
    obtain ⟨m, rfl⟩ : ∃ n', m = n' + 1 := ⟨m - 1, by omega⟩
    have : k = pn := by omega
    subst this
    rw [L_Pad_findFault_11, if_pos (nI_le (Nat.le_refl _) (by omega))]
    exact ⟨_, _, rfl⟩
  | succ j ih =>
    intro k m s hk hm hs
    obtain ⟨m, rfl⟩ : ∃ n', m = n' + 1 := ⟨m - 1, by omega⟩
    have hs0 := hs
    obtain ⟨h1, h2, h3, h4⟩ := hs
    obtain ⟨p1, p2⟩ := hp k (by omega)
    have hstep := @fstep_I n t (p k) s
    have h59 : nI (p k) = (59 : Int32) ↔ p k = 59 := nI_eq (b := 59) (by omega) (by decide)
    have ht2 : nI t ≤ nI s.1 ↔ t ≤ s.1 := nI_leI (by omega) (by omega)
    have ht1 : nI s.1 = nI t ↔ s.1 = t := nI_eq (by omega) (by omega)
    have hE : fread n t p (j + 1) k s = match fstep n t (p k) s with | none => .inr k | some s' => fread n t p j (k + 1) s' := rfl
    rw [hE, L_Pad_findFault_11, if_neg (nI_ge (by omega) (by omega)), Row_at_e (by omega) (by decide), bk1_s, bk1_s, hc k (by omega)]
    by_cases q : s.1 = t
    · rw [if_pos (ht2.mpr (by omega)), if_pos (ht1.mpr q), if_pos q]
      have h6 : (6 : Int32) ≤ nI (s.2.2 + 1) ↔ 5 ≤ s.2.2 := by rw [show (6 : Int32) = nI 6 from rfl, nI_leI (by decide) (by omega)]; omega
      by_cases c59 : p k = 59
      · rw [if_pos (h59.mpr c59)]
        by_cases q5 : 5 ≤ s.2.2
        · rw [if_pos (h6.mpr q5)]
          have e : fstep n t (p k) s = none := by unfold fstep; rw [if_pos c59, if_neg (by omega)]
          rw [e]
          exact ⟨0, 0, rfl⟩
        · rw [if_neg (fun x => q5 (h6.mp x)), nI_1]
          have e : fstep n t (p k) s = some (0, 48, s.2.2 + 1) := by unfold fstep; rw [if_pos c59, if_pos (by omega)]
          rw [e]
          have i1 := ih (k + 1) m (0, 48, s.2.2 + 1) (by omega) (by omega) (hstep hs0 e)
          dsimp only at i1
          rw [if_neg (by omega)] at i1
          exact i1
      · rw [if_neg (fun x => c59 (h59.mp x))]
        have e : fstep n t (p k) s = none := by unfold fstep; rw [if_neg c59, if_neg (by omega)]
        rw [e]
        exact ⟨0, 0, rfl⟩
    · rw [if_neg (fun x => q (by have := ht2.mp x; omega)), if_neg q, nI_1]
      by_cases cin : s.2.1 + 1 ≤ p k ∧ p k ≤ 48 + n
      · have c59 : ¬ p k = 59 := by omega
        rw [show nI (p k) - (48 : Int32) = nI (p k - 48) from pk_sub (b := 48) (by omega), within_N (by omega) (by omega) (by omega), if_pos (show s.2.1 - 48 + 1 ≤ p k - 48 ∧ p k - 48 ≤ n by omega), bk1_s, if_neg (show ¬ (1 : Int32) = 0 by decide), nI_1, nI_1]
        have e : fstep n t (p k) s = some (s.1 + 1, p k, s.2.2) := by unfold fstep; rw [if_neg c59, if_pos (by omega)]
        rw [e]
        have i1 := ih (k + 1) m (s.1 + 1, p k, s.2.2) (by omega) (by omega) (hstep hs0 e)
        dsimp only at i1
        have hq1 : nI (s.1 + 1) = nI t ↔ s.1 + 1 = t := nI_eq (by omega) (by omega)
        by_cases q1 : s.1 + 1 = t
        · rw [if_pos (hq1.mpr q1), show (1 : Int32) = nI 1 from rfl, nI_add]
          rw [if_pos q1] at i1
          exact i1
        · rw [if_neg (fun x => q1 (hq1.mp x)), show (0 : Int32) = nI 0 from rfl, nI_add, nI_1]
          rw [if_neg q1] at i1
          exact i1
      · have hw : f_Main_isWithin (nI (p k) - (48 : Int32)) (nI (s.2.1 - 48 + 1)) (nI n) = some 0 := by
          rcases Nat.lt_or_ge (p k) 48 with z | z
          · exact within_M z (by omega) (by omega)
          · rw [show nI (p k) - (48 : Int32) = nI (p k - 48) from pk_sub (b := 48) z, within_N (by omega) (by omega) (by omega), if_neg (by omega)]
        rw [hw, bk1_s, if_pos rfl, if_neg (fun x => q (ht1.mp x))]
        have e : fstep n t (p k) s = none := by
          unfold fstep
          by_cases c59 : p k = 59
          · rw [if_pos c59, if_neg (by omega)]
          · rw [if_neg c59, if_neg (by omega)]
        rw [e]
        exact ⟨0, 0, rfl⟩
/-- what both say of a text -/
def fsay (n t pn : Nat) (p : Nat → Nat) : Int32 := match fread n t p pn 0 (0, 48, 0) with
  | .inl q => if pn = 0 then -6 else if q = t then -6 else nI pn
  | .inr e => nI e
theorem fread_le {n t : Nat} {p : Nat → Nat} : ∀ (j k q : Nat) (s : Nat × Nat × Nat), FI n t s → fread n t p j k s = .inl q → q ≤ t
  | 0, k, q, s, h, e => by
    have e' : Sum.inl s.1 = (Sum.inl q : Nat ⊕ Nat) := e
    cases e'
    exact h.1
  | j + 1, k, q, s, h, e => by
    have e' : (match fstep n t (p k) s with | none => Sum.inr k | some s' => fread n t p j (k + 1) s') = (Sum.inl q : Nat ⊕ Nat) := e
    cases hf : fstep n t (p k) s with
    | none => rw [hf] at e'; cases e'
    | some s' =>
      rw [hf] at e'
      exact fread_le j (k + 1) q s' (fstep_I h hf) e'
theorem xsay_e {n t pn : Nat} {p : Nat → Nat} {cells : Nat → Int32} (hn : n ≤ 8) (ht : t ≤ 8) (ht0 : 0 < t) (hpn : pn ≤ 60) (hp : ∀ i, i < pn → 33 ≤ p i ∧ p i ≤ 126) (hc : ∀ i, i < pn → cells i = nI (p i)) : f_Pad_findFault (nI pn) cells (nI n) (nI t) = some (fsay n t pn p) := by
  have h0 : FI n t (0, 48, 0) := ⟨Nat.zero_le _, Nat.le_refl _, Nat.le_add_right _ _, Nat.zero_le _⟩
  obtain ⟨a, b, z⟩ := xfault_e hn ht ht0 hpn hp hc pn 0 300 (0, 48, 0) (by omega) (by omega) h0
  dsimp only at z
  rw [if_neg (show ¬ 0 = t by omega), show nI (48 - 48) = (0 : Int32) from rfl] at z
  unfold f_Pad_findFault fsay
  rw [z]
  cases hr : fread n t p pn 0 (0, 48, 0) with
  | inr e => rfl
  | inl q =>
    have hq := fread_le _ _ _ _ h0 hr
    dsimp only
    rw [lm4_ok]
    by_cases c0 : pn = 0
    · rw [if_pos ((eq0 (by omega)).mpr c0), if_pos c0]
    · rw [if_neg (fun x => c0 ((eq0 (by omega)).mp x)), if_neg c0]
      by_cases c1 : q = t
      · rw [if_pos (congrArg nI c1), if_pos c1]
      · rw [if_neg (fun x => c1 ((nI_eq (by omega) (by omega)).mp x)), if_neg c1]
theorem msay_e {n t pn : Nat} {p : Nat → Nat} {cells : Nat → Int32} (hn : n ≤ 8) (ht : t ≤ 8) (hpn : pn ≤ 60) (hp : ∀ i, i < pn → 33 ≤ p i ∧ p i ≤ 126) (hc : ∀ i, i < pn → cells i = nI (p i)) : f_Model_fault (nI n) (nI t) (nI pn) cells = some (fsay n t pn p) := by
  have h0 : FI n t (0, 48, 0) := ⟨Nat.zero_le _, Nat.le_refl _, Nat.le_add_right _ _, Nat.zero_le _⟩
  obtain ⟨a, b, z⟩ := mfault_e hn ht hpn hp hc pn 0 300 (0, 48, 0) (by omega) (by omega) h0
  dsimp only at z
  rw [show nI 48 = (48 : Int32) from rfl, show nI 0 = (0 : Int32) from rfl] at z
  unfold f_Model_fault fsay
  rw [z]
  cases hr : fread n t p pn 0 (0, 48, 0) with
  | inr e => rfl
  | inl q =>
    have hq := fread_le _ _ _ _ h0 hr
    dsimp only
    rw [lm4_ok]
    by_cases c0 : pn = 0
    · rw [if_pos ((eq0 (by omega)).mpr c0), if_pos c0]
    · rw [if_neg (fun x => c0 ((eq0 (by omega)).mp x)), if_neg c0]
      by_cases c1 : q = t
      · rw [if_pos (congrArg nI c1), if_pos c1]
      · rw [if_neg (fun x => c1 ((nI_eq (by omega) (by omega)).mp x)), if_neg c1]

set_option maxHeartbeats 4000000 in
theorem st_fault : St_fault Inv := by
  intro v_x_pad_size v_x_pad_signs_cells v_x_play_n v_x_play_t v_x_play_d v_x_play_r v_x_play_fond v_x_play_ticketCount v_x_play_sightCount v_x_play_tickets_cells v_x_play_prizes_cells v_x_play_sightTickets_cells v_x_play_sightNumbers_cells v_x_play_sightKinds_cells v_x_wheel_held v_x_wheel_draws_size v_x_wheel_draws_members_cells v_x_wheel_possible_size v_x_wheel_possible_members_cells v_x_wheel_wonByPossible_low v_x_wheel_wonByPossible_high v_x_wheel_wonByHeld_low v_x_wheel_wonByHeld_high v_x_wheel_work_low v_x_wheel_work_high v_x_wheel_search_allDraws v_x_wheel_search_single v_x_wheel_search_reached_low v_x_wheel_search_reached_high v_x_wheel_search_chosen_cells v_x_wheel_search_mostOne_size v_x_wheel_search_mostOne_won v_x_wheel_search_mostOne_found v_x_wheel_search_mostOne_sought v_x_wheel_search_mostOne_tickets_cells v_x_wheel_search_mostTwo_size v_x_wheel_search_mostTwo_won v_x_wheel_search_mostTwo_found v_x_wheel_search_mostTwo_sought v_x_wheel_search_mostTwo_tickets_cells v_x_wheel_search_mostThree_size v_x_wheel_search_mostThree_won v_x_wheel_search_mostThree_found v_x_wheel_search_mostThree_sought v_x_wheel_search_mostThree_tickets_cells v_x_wheel_search_fewest_size v_x_wheel_search_fewest_won v_x_wheel_search_fewest_found v_x_wheel_search_fewest_sought v_x_wheel_search_fewest_tickets_cells v_x_imageZero_kept v_x_imageZero_play_n v_x_imageZero_play_t v_x_imageZero_play_d v_x_imageZero_play_r v_x_imageZero_play_fond v_x_imageZero_play_ticketCount v_x_imageZero_play_sightCount v_x_imageZero_play_tickets_cells v_x_imageZero_play_prizes_cells v_x_imageZero_play_sightTickets_cells v_x_imageZero_play_sightNumbers_cells v_x_imageZero_play_sightKinds_cells v_x_imageOne_kept v_x_imageOne_play_n v_x_imageOne_play_t v_x_imageOne_play_d v_x_imageOne_play_r v_x_imageOne_play_fond v_x_imageOne_play_ticketCount v_x_imageOne_play_sightCount v_x_imageOne_play_tickets_cells v_x_imageOne_play_prizes_cells v_x_imageOne_play_sightTickets_cells v_x_imageOne_play_sightNumbers_cells v_x_imageOne_play_sightKinds_cells v_m_numbers v_m_onTicket v_m_drawn v_m_due v_m_ticketMany v_m_fond v_m_sights v_m_drawMany v_m_setMany v_m_padMany v_m_low v_m_high v_m_couldMany v_m_keptAt v_m_isWriting v_m_tickets v_m_prizes v_m_sightTicket v_m_sightRight v_m_sightHow v_m_draws v_m_sets v_m_winsLow v_m_winsHigh v_m_pad v_m_could v_m_row v_m_best v_m_kept v_m_isKept  hI
  have hI0 := hI
  obtain ⟨g, g0, g1, pad, pn, k0, k1, hG, hG0, hG1, hk0, hk1, hpn, hpad, xpn, xpad, xpl, xk0, xi0, xk1, xi1, xw, xc1, xc2, xc3, xcf, mpl, md, mpn, mpad, mk0, mk1, mi0, mi1⟩ := hI
  have xpl0 := xpl
  have mpl0 := mpl
  have xw0 := xw
  have md0 := md
  obtain ⟨a1, a2, a3, a4, a5, a6, a7, a8, a9, a10⟩ := xpl
  obtain ⟨b1, b2, b3, b4, b5, b6, b7, b8, b9, b10⟩ := mpl
  obtain ⟨w1, w2, w3, w4, w5, w6, w7, w8, w9, w10, w11⟩ := xw
  obtain ⟨d1, d2, d3, d4, d5⟩ := md
  have hGV := hG
  obtain ⟨e1, e2, e3, e4, e5, e6, e7, e8, e9, e10, e11, e12, e13, e14, e15, e16⟩ := hGV
  subst xpn
  subst mpn
  subst xk0
  subst xk1
  subst a1
  subst a2
  subst a3
  subst a4
  subst a5
  subst a6
  subst a7
  subst b1
  subst b2
  subst b3
  subst b4
  subst b5
  subst b6
  subst b7
  subst w1
  subst w2
  subst w4
  subst w8
  subst w9
  subst d1
  subst d2
  unfold f_Main_fault
  rw [xsay_e e2 (by omega) (by omega) hpn hpad xpad, msay_e e2 (by omega) hpn hpad mpad, bk1_s]
  exact ⟨_, rfl, rfl, hI0⟩
