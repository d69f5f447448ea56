theorem often_e {c : Nat} {f f' : Nat → Int32} (x1 : Int32) (hc : c ≤ 6) (hf : ∀ i, i < c → f i = f' i) : ∀ (j k n : Nat) (x : Int32), k + j = c → j < n → ∃ y, L_Play_countTicketsWith_4 x1 (nI c) f n x (nI k) = some (y, nI c) ∧ L_Model_often_20 x1 (nI c) f' n x (nI k) = some (y, nI c) := by
  intro j
  induction j with
  | zero =>
    intro k n x hk hn
    obtain ⟨n, rfl⟩ : ∃ n', n = n' + 1 := ⟨n - 1, by omega⟩
    have : k = c := by omega
    subst this
    rw [L_Play_countTicketsWith_4, L_Model_often_20, if_pos (nI_le (Nat.le_refl _) (by omega)), if_pos (nI_le (Nat.le_refl _) (by omega))]
    exact ⟨_, rfl, rfl⟩
  | succ j ih =>
    intro k n x hk hn
    obtain ⟨n, rfl⟩ : ∃ n', n = n' + 1 := ⟨n - 1, by omega⟩
    rw [L_Play_countTicketsWith_4, L_Model_often_20, if_neg (nI_ge (by omega) (by omega)), if_neg (nI_ge (by omega) (by omega)), Row_at_e (by omega) (by decide), bk1_s, gdN (by omega) (by decide), nI_clamp (by omega), nI_1, hf k (by omega)]
    exact ih (k + 1) n _ (by omega) (by omega)

set_option maxHeartbeats 4000000 in
theorem st_often : St_often Inv := by
  intro v_x_pad_size v_x_pad_signs_cells v_x_play_n v_x_play_t v_x_play_d v_x_play_r v_x_play_fond v_x_play_ticketCount v_x_play_sightCount v_x_play_tickets_cells v_x_play_prizes_cells v_x_play_sightTickets_cells v_x_play_sightNumbers_cells v_x_play_sightKinds_cells v_x_wheel_held v_x_wheel_draws_size v_x_wheel_draws_members_cells v_x_wheel_possible_size v_x_wheel_possible_members_cells v_x_wheel_wonByPossible_low v_x_wheel_wonByPossible_high v_x_wheel_wonByHeld_low v_x_wheel_wonByHeld_high v_x_wheel_work_low v_x_wheel_work_high v_x_wheel_search_allDraws v_x_wheel_search_single v_x_wheel_search_reached_low v_x_wheel_search_reached_high v_x_wheel_search_chosen_cells v_x_wheel_search_mostOne_size v_x_wheel_search_mostOne_won v_x_wheel_search_mostOne_found v_x_wheel_search_mostOne_sought v_x_wheel_search_mostOne_tickets_cells v_x_wheel_search_mostTwo_size v_x_wheel_search_mostTwo_won v_x_wheel_search_mostTwo_found v_x_wheel_search_mostTwo_sought v_x_wheel_search_mostTwo_tickets_cells v_x_wheel_search_mostThree_size v_x_wheel_search_mostThree_won v_x_wheel_search_mostThree_found v_x_wheel_search_mostThree_sought v_x_wheel_search_mostThree_tickets_cells v_x_wheel_search_fewest_size v_x_wheel_search_fewest_won v_x_wheel_search_fewest_found v_x_wheel_search_fewest_sought v_x_wheel_search_fewest_tickets_cells v_x_imageZero_kept v_x_imageZero_play_n v_x_imageZero_play_t v_x_imageZero_play_d v_x_imageZero_play_r v_x_imageZero_play_fond v_x_imageZero_play_ticketCount v_x_imageZero_play_sightCount v_x_imageZero_play_tickets_cells v_x_imageZero_play_prizes_cells v_x_imageZero_play_sightTickets_cells v_x_imageZero_play_sightNumbers_cells v_x_imageZero_play_sightKinds_cells v_x_imageOne_kept v_x_imageOne_play_n v_x_imageOne_play_t v_x_imageOne_play_d v_x_imageOne_play_r v_x_imageOne_play_fond v_x_imageOne_play_ticketCount v_x_imageOne_play_sightCount v_x_imageOne_play_tickets_cells v_x_imageOne_play_prizes_cells v_x_imageOne_play_sightTickets_cells v_x_imageOne_play_sightNumbers_cells v_x_imageOne_play_sightKinds_cells v_m_numbers v_m_onTicket v_m_drawn v_m_due v_m_ticketMany v_m_fond v_m_sights v_m_drawMany v_m_setMany v_m_padMany v_m_low v_m_high v_m_couldMany v_m_keptAt v_m_isWriting v_m_tickets v_m_prizes v_m_sightTicket v_m_sightRight v_m_sightHow v_m_draws v_m_sets v_m_winsLow v_m_winsHigh v_m_pad v_m_could v_m_row v_m_best v_m_kept v_m_isKept p0 hI
  have hI0 := hI
  obtain ⟨g, g0, g1, pad, pn, k0, k1, hG, hG0, hG1, hk0, hk1, hpn, hpad, xpn, xpad, xpl, xk0, xi0, xk1, xi1, xw, xc1, xc2, xc3, xcf, mpl, md, mpn, mpad, mk0, mk1, mi0, mi1⟩ := hI
  have xpl0 := xpl
  have mpl0 := mpl
  have xw0 := xw
  have md0 := md
  obtain ⟨a1, a2, a3, a4, a5, a6, a7, a8, a9, a10⟩ := xpl
  obtain ⟨b1, b2, b3, b4, b5, b6, b7, b8, b9, b10⟩ := mpl
  obtain ⟨w1, w2, w3, w4, w5, w6, w7, w8, w9, w10, w11⟩ := xw
  obtain ⟨d1, d2, d3, d4, d5⟩ := md
  have hGV := hG
  obtain ⟨e1, e2, e3, e4, e5, e6, e7, e8, e9, e10, e11, e12, e13, e14, e15, e16⟩ := hGV
  subst xpn
  subst mpn
  subst xk0
  subst xk1
  subst a1
  subst a2
  subst a3
  subst a4
  subst a5
  subst a6
  subst a7
  subst b1
  subst b2
  subst b3
  subst b4
  subst b5
  subst b6
  subst b7
  subst w1
  subst w2
  subst w4
  subst w8
  subst w9
  subst d1
  subst d2
  unfold f_Main_often f_Model_often f_Play_countTicketsWith
  rw [show (1 : Int64) = (1 : Int32).toInt64 from rfl, in_e]
  rcases within_c p0 1 (nI (g 0 0)) with ⟨w, -⟩ | ⟨w, -⟩
  · rw [w, bk1_s, bk1_s, if_neg (show ¬ (1 : Int32) = 0 by decide), if_neg (show ¬ (1 : Int32) = 0 by decide)]
    obtain ⟨y, z1, z2⟩ := often_e (c := g 0 5) (f := v_x_play_tickets_cells) (f' := v_m_tickets) p0 e12 (fun i hi => (a8 i hi).trans (b8 i hi).symm) (g 0 5) 0 300 0 (by omega) (by omega)
    rw [show nI 0 = (0 : Int32) from rfl] at z1 z2
    rw [z1, z2]
    exact ⟨_, rfl, rfl, hI0⟩
  · rw [w]
    exact ⟨_, rfl, rfl, hI0⟩

/-- what one sight asks of a draw; all from a place on -/
def hOne (g : Nat → Nat → Nat) (k x : Nat) : Bool := if g 5 k = 0 then decide (pc (g 1 (g 3 k) &&& x) = g 4 k) else if g 5 k = 1 then decide (g 4 k ≤ pc (g 1 (g 3 k) &&& x)) else decide (pc (g 1 (g 3 k) &&& x) < g 4 k)
def hAll (g : Nat → Nat → Nat) (x : Nat) : Nat → Nat → Bool
  | 0, _ => true
  | j + 1, k => hOne g k x && hAll g x j (k + 1)
theorem pc_31 {a b : Nat} (h : a < 256) : pc (a &&& b) < 2 ^ 31 := pc_256 (and_lt h)
theorem eq0 {a : Nat} (h : a < 2 ^ 31) : nI a = (0 : Int32) ↔ a = 0 := nI_eq (b := 0) h (by decide)
theorem eq1 {a : Nat} (h : a < 2 ^ 31) : nI a = (1 : Int32) ↔ a = 1 := nI_eq (b := 1) h (by decide)
theorem b10 {b : Bool} : (if b = true then (1 : Int32) else 0) = 0 ↔ b = false := by cases b <;> decide
theorem holdOne_e {g : Nat → Nat → Nat} {K N T f : Nat → Int32} {k x : Nat} (hg : GV g) (hk : k < g 0 6) (hf : ∀ i, i < g 0 5 → f i = nI (g 1 i)) (hs : ∀ i, i < g 0 6 → T i = nI (g 3 i) ∧ N i = nI (g 4 i) ∧ K i = nI (g 5 i)) : f_Play_holdsSight K N T f (nI k) (nI x) = some (if hOne g k x = true then 1 else 0) := by
  obtain ⟨e1, e2, e3, e4, e5, e6, e7, e8, e9, e10, e11, e12, e13, e14, e15, e16⟩ := hg
  obtain ⟨q1, q2, q3⟩ := e16 k hk
  obtain ⟨s1, s2, s3⟩ := hs k hk
  have hb := e14 _ q1
  have hp := pc_31 (b := x) hb
  unfold f_Play_holdsSight f_Play_countRight
  rw [Row_at_e (by omega) (by decide), bk1_s, s1, Row_at_e (by omega) (by decide), bk1_s, hf _ q1, andN, bcI (and_lt hb), bk1_s, Row_at_e (by omega) (by decide), bk1_s, Row_at_e (by omega) (by decide), bk1_s, s2, s3, bk1_s]
  unfold hOne
  by_cases c0 : g 5 k = 0
  · rw [if_pos ((eq0 (show g 5 k < 2 ^ 31 by omega)).mpr c0), if_pos c0]
    by_cases h : pc (g 1 (g 3 k) &&& x) = g 4 k
    · rw [if_pos (congrArg nI h), decide_eq_true h]; rfl
    · rw [if_neg (fun e => h ((nI_eq (by omega) (by omega)).mp e)), decide_eq_false h]; rfl
  rw [if_neg (fun e => c0 ((eq0 (show g 5 k < 2 ^ 31 by omega)).mp e)), if_neg c0]
  by_cases c1 : g 5 k = 1
  · rw [if_pos ((eq1 (show g 5 k < 2 ^ 31 by omega)).mpr c1), if_pos c1]
    by_cases h : g 4 k ≤ pc (g 1 (g 3 k) &&& x)
    · rw [if_neg (nI_nlt h hp), decide_eq_true h]; rfl
    · rw [if_pos (nI_lt (by omega) (by omega)), decide_eq_false h]; rfl
  rw [if_neg (fun e => c1 ((eq1 (show g 5 k < 2 ^ 31 by omega)).mp e)), if_neg c1]
  by_cases h : pc (g 1 (g 3 k) &&& x) < g 4 k
  · rw [if_neg (nI_ge h (by omega)), decide_eq_true h]; rfl
  · rw [if_pos (nI_le (by omega) (by omega)), decide_eq_false h]; rfl
theorem holdsL_e {g : Nat → Nat → Nat} {K N T f : Nat → Int32} {x : Nat} (hg : GV g) (hf : ∀ i, i < g 0 5 → f i = nI (g 1 i)) (hs : ∀ i, i < g 0 6 → T i = nI (g 3 i) ∧ N i = nI (g 4 i) ∧ K i = nI (g 5 i)) :
    ∀ (j k n : Nat), k + j = g 0 6 → j < n → L_Play_holdsSights_2 (nI x) (nI (g 0 6)) K N T f n (nI k) = some (if hAll g x j k = true then .ok (nI (g 0 6)) else .error 0) := by
  have e13 : g 0 6 ≤ 6 := hg.2.2.2.2.2.2.2.2.2.2.2.2.1
  intro j
  induction j with
  | zero =>
    intro k n hk hn
    obtain ⟨n, rfl⟩ : ∃ n', n = n' + 1 := ⟨n - 1, by omega⟩
    have : k = g 0 6 := by omega
    subst this
    rw [L_Play_holdsSights_2, if_pos (nI_le (Nat.le_refl _) (by omega))]
    rfl
  | succ j ih =>
    intro k n hk hn
    obtain ⟨n, rfl⟩ : ∃ n', n = n' + 1 := ⟨n - 1, by omega⟩
    rw [L_Play_holdsSights_2, if_neg (nI_ge (by omega) (by omega)), holdOne_e hg (by omega) hf hs, bk1_s]
    by_cases h : hOne g k x = true
    · rw [if_neg (fun e => by rw [b10.mp e] at h; cases h), nI_1, ih (k + 1) n (by omega) (by omega)]
      show _ = some (if (hOne g k x && hAll g x j (k + 1)) = true then _ else _)
      rw [h, Bool.true_and]
    · have h' : hOne g k x = false := by simpa using h
      rw [if_pos (b10.mpr h')]
      show _ = some (if (hOne g k x && hAll g x j (k + 1)) = true then _ else _)
      rw [h', Bool.false_and]
      rfl
theorem holds_e {g : Nat → Nat → Nat} {K N T f : Nat → Int32} {x : Nat} (hg : GV g) (hf : ∀ i, i < g 0 5 → f i = nI (g 1 i)) (hs : ∀ i, i < g 0 6 → T i = nI (g 3 i) ∧ N i = nI (g 4 i) ∧ K i = nI (g 5 i)) :
    f_Play_holdsSights (nI (g 0 6)) K N T f (nI x) = some (if hAll g x (g 0 6) 0 = true then 1 else 0) := by
  have e13 : g 0 6 ≤ 6 := hg.2.2.2.2.2.2.2.2.2.2.2.2.1
  unfold f_Play_holdsSights
  have h := holdsL_e (x := x) hg hf hs (g 0 6) 0 300 (by omega) (by omega)
  rw [show nI 0 = (0 : Int32) from rfl] at h
  rw [h]
  cases hAll g x (g 0 6) 0
  · rfl
  · rfl
/-- the reference: once no, no for good -/
theorem mholds0 {g : Nat → Nat → Nat} {K N T f : Nat → Int32} {x : Nat} (hg : GV g) (hx : x < 256) (hf : ∀ i, i < g 0 5 → f i = nI (g 1 i)) (hs : ∀ i, i < g 0 6 → T i = nI (g 3 i) ∧ N i = nI (g 4 i) ∧ K i = nI (g 5 i)) :
    ∀ (j k n : Nat), k + j = g 0 6 → j < n → L_Model_holds_4 (nI x) (nI (g 0 6)) K N T f n 0 (nI k) = some (0, nI (g 0 6)) := by
  obtain ⟨e1, e2, e3, e4, e5, e6, e7, e8, e9, e10, e11, e12, e13, e14, e15, e16⟩ := hg
  intro j
  induction j with
  | zero =>
    intro k n hk hn
    obtain ⟨n, rfl⟩ : ∃ n', n = n' + 1 := ⟨n - 1, by omega⟩
    have : k = g 0 6 := by omega
    subst this
    rw [L_Model_holds_4, if_pos (nI_le (Nat.le_refl _) (by omega))]
  | succ j ih =>
    intro k n hk hn
    obtain ⟨n, rfl⟩ : ∃ n', n = n' + 1 := ⟨n - 1, by omega⟩
    obtain ⟨q1, q2, q3⟩ := e16 k (by omega)
    obtain ⟨s1, s2, s3⟩ := hs k (by omega)
    rw [L_Model_holds_4, if_neg (nI_ge (by omega) (by omega)), gdN (by omega) (by decide), nI_clamp (by omega), s1, gdN (by omega) (by decide), nI_clamp (by omega), hf _ q1, andN, onesI (Nat.lt_trans (and_lt (e14 _ q1)) (by decide)), bk1_s, gdN (by omega) (by decide), if_pos rfl, nI_1, ih (k + 1) n (by omega) (by omega)]
theorem mholds1 {g : Nat → Nat → Nat} {K N T f : Nat → Int32} {x : Nat} (hg : GV g) (hx : x < 256) (hf : ∀ i, i < g 0 5 → f i = nI (g 1 i)) (hs : ∀ i, i < g 0 6 → T i = nI (g 3 i) ∧ N i = nI (g 4 i) ∧ K i = nI (g 5 i)) :
    ∀ (j k n : Nat), k + j = g 0 6 → j < n → L_Model_holds_4 (nI x) (nI (g 0 6)) K N T f n 1 (nI k) = some (if hAll g x j k = true then 1 else 0, nI (g 0 6)) := by
  have hg0 := hg
  obtain ⟨e1, e2, e3, e4, e5, e6, e7, e8, e9, e10, e11, e12, e13, e14, e15, e16⟩ := hg
  intro j
  induction j with
  | zero =>
    intro k n hk hn
    obtain ⟨n, rfl⟩ : ∃ n', n = n' + 1 := ⟨n - 1, by omega⟩
    have : k = g 0 6 := by omega
    subst this
    rw [L_Model_holds_4, if_pos (nI_le (Nat.le_refl _) (by omega))]
    rfl
  | succ j ih =>
    intro k n hk hn
    obtain ⟨n, rfl⟩ : ∃ n', n = n' + 1 := ⟨n - 1, by omega⟩
    obtain ⟨q1, q2, q3⟩ := e16 k (by omega)
    obtain ⟨s1, s2, s3⟩ := hs k (by omega)
    have hb := e14 _ q1
    have hp := pc_31 (b := x) hb
    have i0 := mholds0 hg0 hx hf hs j (k + 1) n (by omega) (by omega)
    have i1 := ih (k + 1) n (by omega) (by omega)
    rw [L_Model_holds_4, if_neg (nI_ge (by omega) (by omega)), gdN (by omega) (by decide), nI_clamp (by omega), s1, gdN (by omega) (by decide), nI_clamp (by omega), hf _ q1, andN, onesI (Nat.lt_trans (and_lt hb) (by decide)), bk1_s, gdN (by omega) (by decide), if_neg (show ¬ (1 : Int32) = 0 by decide), gdN (by omega) (by decide), gdN (by omega) (by decide), nI_1, i0, i1, s2, s3]
    show _ = some (if (hOne g k x && hAll g x j (k + 1)) = true then _ else _, _)
    unfold hOne
    by_cases c0 : g 5 k = 0
    · rw [if_pos ((eq0 (show g 5 k < 2 ^ 31 by omega)).mpr c0), if_pos c0]
      by_cases h : pc (g 1 (g 3 k) &&& x) = g 4 k
      · rw [if_pos (congrArg nI h), decide_eq_true h, Bool.true_and]
      · rw [if_neg (fun e => h ((nI_eq (by omega) (by omega)).mp e)), decide_eq_false h, Bool.false_and]; rfl
    rw [if_neg (fun e => c0 ((eq0 (show g 5 k < 2 ^ 31 by omega)).mp e)), if_neg c0]
    by_cases c1 : g 5 k = 1
    · rw [if_pos ((eq1 (show g 5 k < 2 ^ 31 by omega)).mpr c1), if_pos c1]
      by_cases h : g 4 k ≤ pc (g 1 (g 3 k) &&& x)
      · rw [if_neg (nI_nlt h hp), decide_eq_true h, Bool.true_and]
      · rw [if_pos (nI_lt (by omega) (by omega)), decide_eq_false h, Bool.false_and]; rfl
    rw [if_neg (fun e => c1 ((eq1 (show g 5 k < 2 ^ 31 by omega)).mp e)), if_neg c1]
    by_cases h : pc (g 1 (g 3 k) &&& x) < g 4 k
    · rw [if_neg (nI_ge h (by omega)), decide_eq_true h, Bool.true_and]
    · rw [if_pos (nI_le (by omega) (by omega)), decide_eq_false h, Bool.false_and]; rfl
theorem mholds_e {g : Nat → Nat → Nat} {K N T f : Nat → Int32} {x : Nat} (hg : GV g) (hx : x < 256) (hf : ∀ i, i < g 0 5 → f i = nI (g 1 i)) (hs : ∀ i, i < g 0 6 → T i = nI (g 3 i) ∧ N i = nI (g 4 i) ∧ K i = nI (g 5 i)) :
    f_Model_holds (nI (g 0 6)) K N T f (nI x) = some (if hAll g x (g 0 6) 0 = true then 1 else 0) := by
  have e13 : g 0 6 ≤ 6 := hg.2.2.2.2.2.2.2.2.2.2.2.2.1
  unfold f_Model_holds
  have h := mholds1 hg hx hf hs (g 0 6) 0 300 (by omega) (by omega)
  rw [show nI 0 = (0 : Int32) from rfl] at h
  rw [h]
  cases hAll g x (g 0 6) 0
  · rfl
  · rfl

theorem Dr_70 {g : Nat → Nat → Nat} (hg : GV g) : (Dr g).length ≤ 70 := sets_70 (by have := hg.2.1; have := hg.2.2.2.2.2.1; omega) (pow_256 hg.2.1)
theorem Dr_lt {g : Nat → Nat → Nat} (hg : GV g) {i : Nat} (h : i < (Dr g).length) : nth (Dr g) i < 256 := sets_lt hg.2.1 h
theorem fits_e {g : Nat → Nat → Nat} {K N T f K2 N2 T2 f2 dc dm : Nat → Int32} (hg : GV g) (hf : ∀ i, i < g 0 5 → f i = nI (g 1 i)) (hs : ∀ i, i < g 0 6 → T i = nI (g 3 i) ∧ N i = nI (g 4 i) ∧ K i = nI (g 5 i)) (hf2 : ∀ i, i < g 0 5 → f2 i = nI (g 1 i)) (hs2 : ∀ i, i < g 0 6 → T2 i = nI (g 3 i) ∧ N2 i = nI (g 4 i) ∧ K2 i = nI (g 5 i)) (hd : ∀ i, i < (Dr g).length → dc i = nI (nth (Dr g) i)) (hd2 : ∀ i, i < (Dr g).length → dm i = nI (nth (Dr g) i)) (x1 : Int32) : ∀ (j k n m : Nat), k + j = (Dr g).length → j < n → (∃ y, L_Main_fits_4 x1 (nI (g 0 6)) K N T f (nI (Dr g).length) dc n (nI m) (nI k) = some y ∧ L_Model_fits_4 x1 (nI (Dr g).length) (nI (g 0 6)) dm K2 N2 T2 f2 n (nI m) (nI k) = some y) := by
  have hD := Dr_70 hg
  intro j
  induction j with
  | zero =>
    intro k n m hk hn
    obtain ⟨n, rfl⟩ : ∃ n', n = n' + 1 := ⟨n - 1, by omega⟩
    have : k = (Dr g).length := by omega
    subst this
    rw [L_Main_fits_4, L_Model_fits_4, show f_Sets_size (nI (Dr g).length) = some (nI (Dr g).length) from rfl, bk1_s, if_pos (nI_le (Nat.le_refl _) (by omega)), if_pos (nI_le (Nat.le_refl _) (by omega))]
    exact ⟨_, rfl, rfl⟩
  | succ j ih =>
    intro k n m hk hn
    obtain ⟨n, rfl⟩ : ∃ n', n = n' + 1 := ⟨n - 1, by omega⟩
    rw [L_Main_fits_4, L_Model_fits_4, show f_Sets_size (nI (Dr g).length) = some (nI (Dr g).length) from rfl, bk1_s, if_neg (nI_ge (by omega) (by omega)), if_neg (nI_ge (by omega) (by omega)), Sets_at_e (by omega), bk1_s, gdN (by omega) (by decide), nI_clamp (by omega), hd k (by omega), hd2 k (by omega), holds_e hg hf hs, mholds_e hg (Dr_lt hg (by omega)) hf2 hs2, bk1_s, bk1_s]
    by_cases h : hAll g (nth (Dr g) k) (g 0 6) 0 = true
    · rw [h, if_pos rfl, if_neg (show ¬ (1 : Int32) = 0 by decide), if_neg (show ¬ (1 : Int32) = 0 by decide), nI_1, nI_1]
      by_cases e : nI m = x1
      · rw [if_pos e, if_pos e, gdN (by omega) (by decide)]
        exact ⟨_, rfl, rfl⟩
      · rw [if_neg e, if_neg e]
        exact ih (k + 1) n (m + 1) (by omega) (by omega)
    · rw [if_neg h, if_pos rfl, if_pos rfl, nI_1]
      exact ih (k + 1) n m (by omega) (by omega)

set_option maxHeartbeats 4000000 in
theorem st_fits : St_fits Inv := by
  intro v_x_pad_size v_x_pad_signs_cells v_x_play_n v_x_play_t v_x_play_d v_x_play_r v_x_play_fond v_x_play_ticketCount v_x_play_sightCount v_x_play_tickets_cells v_x_play_prizes_cells v_x_play_sightTickets_cells v_x_play_sightNumbers_cells v_x_play_sightKinds_cells v_x_wheel_held v_x_wheel_draws_size v_x_wheel_draws_members_cells v_x_wheel_possible_size v_x_wheel_possible_members_cells v_x_wheel_wonByPossible_low v_x_wheel_wonByPossible_high v_x_wheel_wonByHeld_low v_x_wheel_wonByHeld_high v_x_wheel_work_low v_x_wheel_work_high v_x_wheel_search_allDraws v_x_wheel_search_single v_x_wheel_search_reached_low v_x_wheel_search_reached_high v_x_wheel_search_chosen_cells v_x_wheel_search_mostOne_size v_x_wheel_search_mostOne_won v_x_wheel_search_mostOne_found v_x_wheel_search_mostOne_sought v_x_wheel_search_mostOne_tickets_cells v_x_wheel_search_mostTwo_size v_x_wheel_search_mostTwo_won v_x_wheel_search_mostTwo_found v_x_wheel_search_mostTwo_sought v_x_wheel_search_mostTwo_tickets_cells v_x_wheel_search_mostThree_size v_x_wheel_search_mostThree_won v_x_wheel_search_mostThree_found v_x_wheel_search_mostThree_sought v_x_wheel_search_mostThree_tickets_cells v_x_wheel_search_fewest_size v_x_wheel_search_fewest_won v_x_wheel_search_fewest_found v_x_wheel_search_fewest_sought v_x_wheel_search_fewest_tickets_cells v_x_imageZero_kept v_x_imageZero_play_n v_x_imageZero_play_t v_x_imageZero_play_d v_x_imageZero_play_r v_x_imageZero_play_fond v_x_imageZero_play_ticketCount v_x_imageZero_play_sightCount v_x_imageZero_play_tickets_cells v_x_imageZero_play_prizes_cells v_x_imageZero_play_sightTickets_cells v_x_imageZero_play_sightNumbers_cells v_x_imageZero_play_sightKinds_cells v_x_imageOne_kept v_x_imageOne_play_n v_x_imageOne_play_t v_x_imageOne_play_d v_x_imageOne_play_r v_x_imageOne_play_fond v_x_imageOne_play_ticketCount v_x_imageOne_play_sightCount v_x_imageOne_play_tickets_cells v_x_imageOne_play_prizes_cells v_x_imageOne_play_sightTickets_cells v_x_imageOne_play_sightNumbers_cells v_x_imageOne_play_sightKinds_cells v_m_numbers v_m_onTicket v_m_drawn v_m_due v_m_ticketMany v_m_fond v_m_sights v_m_drawMany v_m_setMany v_m_padMany v_m_low v_m_high v_m_couldMany v_m_keptAt v_m_isWriting v_m_tickets v_m_prizes v_m_sightTicket v_m_sightRight v_m_sightHow v_m_draws v_m_sets v_m_winsLow v_m_winsHigh v_m_pad v_m_could v_m_row v_m_best v_m_kept v_m_isKept p0 hI
  have hI0 := hI
  obtain ⟨g, g0, g1, pad, pn, k0, k1, hG, hG0, hG1, hk0, hk1, hpn, hpad, xpn, xpad, xpl, xk0, xi0, xk1, xi1, xw, xc1, xc2, xc3, xcf, mpl, md, mpn, mpad, mk0, mk1, mi0, mi1⟩ := hI
  have xpl0 := xpl
  have mpl0 := mpl
  have xw0 := xw
  have md0 := md
  obtain ⟨a1, a2, a3, a4, a5, a6, a7, a8, a9, a10⟩ := xpl
  obtain ⟨b1, b2, b3, b4, b5, b6, b7, b8, b9, b10⟩ := mpl
  obtain ⟨w1, w2, w3, w4, w5, w6, w7, w8, w9, w10, w11⟩ := xw
  obtain ⟨d1, d2, d3, d4, d5⟩ := md
  have hGV := hG
  obtain ⟨e1, e2, e3, e4, e5, e6, e7, e8, e9, e10, e11, e12, e13, e14, e15, e16⟩ := hGV
  subst xpn
  subst mpn
  subst xk0
  subst xk1
  subst a1
  subst a2
  subst a3
  subst a4
  subst a5
  subst a6
  subst a7
  subst b1
  subst b2
  subst b3
  subst b4
  subst b5
  subst b6
  subst b7
  subst w1
  subst w2
  subst w4
  subst w8
  subst w9
  subst d1
  subst d2
  unfold f_Main_fits f_Model_fits
  obtain ⟨y, z1, z2⟩ := fits_e hG a8 a10 b8 b10 w3 d3 p0 (Dr g).length 0 300 0 (by omega) (by have := Dr_70 hG; omega)
  rw [show nI 0 = (0 : Int32) from rfl] at z1 z2
  rw [z1, z2]
  cases y with
  | error e => exact ⟨_, rfl, rfl, hI0⟩
  | ok y =>
    obtain ⟨y1, y2⟩ := y
    rw [lm2_ok]
    by_cases h : p0 = -1
    · rw [if_pos h]
      exact ⟨_, rfl, rfl, hI0⟩
    · rw [if_neg h]
      exact ⟨_, rfl, rfl, hI0⟩

theorem Dr_pos {g : Nat → Nat → Nat} (hg : GV g) {i : Nat} (h : i < (Dr g).length) : nth (Dr g) i ≠ 0 := by
  intro e
  have := (sets_mem (nth_mem h)).2.1
  have e' : nth (sets (g 0 2) 0 (2 ^ g 0 0)) i = 0 := e
  rw [e'] at this
  have h0 : pc 0 = 0 := rfl
  have := hg.2.2.2.2.1
  omega
theorem or_pos {u v : Nat} (h : v ≠ 0) : u ||| v ≠ 0 := by
  intro e
  have := Nat.right_le_or (n := u) (m := v)
  omega
theorem surely_e {g : Nat → Nat → Nat} {K N T f K2 N2 T2 f2 dc dm : Nat → Int32} (hg : GV g) (hf : ∀ i, i < g 0 5 → f i = nI (g 1 i)) (hs : ∀ i, i < g 0 6 → T i = nI (g 3 i) ∧ N i = nI (g 4 i) ∧ K i = nI (g 5 i)) (hf2 : ∀ i, i < g 0 5 → f2 i = nI (g 1 i)) (hs2 : ∀ i, i < g 0 6 → T2 i = nI (g 3 i) ∧ N2 i = nI (g 4 i) ∧ K2 i = nI (g 5 i)) (hd : ∀ i, i < (Dr g).length → dc i = nI (nth (Dr g) i)) (hd2 : ∀ i, i < (Dr g).length → dm i = nI (nth (Dr g) i)) : ∀ (j k n m a u : Nat), k + j = (Dr g).length → j < n → m ≤ k → u < 256 → (u = 0 ↔ m = 0) → (∃ m' a' u' : Nat, m' < 2 ^ 31 ∧ u' < 256 ∧ (u' = 0 ↔ m' = 0) ∧ L_Main_surely_28 (nI (g 0 6)) K N T f (nI (Dr g).length) dc n (nI a) (nI u) (nI k) = some (nI a', nI u', nI (Dr g).length) ∧ L_Model_surely_33 (nI (Dr g).length) (nI (g 0 6)) dm K2 N2 T2 f2 n (nI m) (nI a) (nI u) (nI k) = some (nI m', nI a', nI u', nI (Dr g).length)) := by
  have hD := Dr_70 hg
  intro j
  induction j with
  | zero =>
    intro k n m a u hk hn hm hu hi
    obtain ⟨n, rfl⟩ : ∃ n', n = n' + 1 := ⟨n - 1, by omega⟩
    have : k = (Dr g).length := by omega
    subst this
    rw [L_Main_surely_28, L_Model_surely_33, show f_Sets_size (nI (Dr g).length) = some (nI (Dr g).length) from rfl, bk1_s, if_pos (nI_le (Nat.le_refl _) (by omega)), if_pos (nI_le (Nat.le_refl _) (by omega))]
    exact ⟨m, a, u, by omega, hu, hi, rfl, rfl⟩
  | succ j ih =>
    intro k n m a u hk hn hm hu hi
    obtain ⟨n, rfl⟩ : ∃ n', n = n' + 1 := ⟨n - 1, by omega⟩
    rw [L_Main_surely_28, L_Model_surely_33, show f_Sets_size (nI (Dr g).length) = some (nI (Dr g).length) from rfl, bk1_s, if_neg (nI_ge (by omega) (by omega)), if_neg (nI_ge (by omega) (by omega)), Sets_at_e (by omega), bk1_s, gdN (by omega) (by decide), nI_clamp (by omega), hd k (by omega), hd2 k (by omega), holds_e hg hf hs, mholds_e hg (Dr_lt hg (by omega)) hf2 hs2, bk1_s, bk1_s]
    by_cases h : hAll g (nth (Dr g) k) (g 0 6) 0 = true
    · rw [h, if_pos rfl, if_neg (show ¬ (1 : Int32) = 0 by decide), if_neg (show ¬ (1 : Int32) = 0 by decide), gdN (by omega) (by decide), gdN (by omega) (by decide), nI_1, nI_1, andN, orN]
      refine ih (k + 1) n (m + 1) _ _ (by omega) (by omega) (by omega) ?_ ?_
      · exact Nat.or_lt_two_pow (n := 8) hu (Dr_lt hg (by omega))
      · have := or_pos (u := u) (Dr_pos hg (show k < (Dr g).length by omega))
        omega
    · rw [if_neg h, if_pos rfl, if_pos rfl, nI_1]
      exact ih (k + 1) n m a u (by omega) (by omega) (by omega) hu hi

set_option maxHeartbeats 4000000 in
theorem st_surely : St_surely Inv := by
  intro v_x_pad_size v_x_pad_signs_cells v_x_play_n v_x_play_t v_x_play_d v_x_play_r v_x_play_fond v_x_play_ticketCount v_x_play_sightCount v_x_play_tickets_cells v_x_play_prizes_cells v_x_play_sightTickets_cells v_x_play_sightNumbers_cells v_x_play_sightKinds_cells v_x_wheel_held v_x_wheel_draws_size v_x_wheel_draws_members_cells v_x_wheel_possible_size v_x_wheel_possible_members_cells v_x_wheel_wonByPossible_low v_x_wheel_wonByPossible_high v_x_wheel_wonByHeld_low v_x_wheel_wonByHeld_high v_x_wheel_work_low v_x_wheel_work_high v_x_wheel_search_allDraws v_x_wheel_search_single v_x_wheel_search_reached_low v_x_wheel_search_reached_high v_x_wheel_search_chosen_cells v_x_wheel_search_mostOne_size v_x_wheel_search_mostOne_won v_x_wheel_search_mostOne_found v_x_wheel_search_mostOne_sought v_x_wheel_search_mostOne_tickets_cells v_x_wheel_search_mostTwo_size v_x_wheel_search_mostTwo_won v_x_wheel_search_mostTwo_found v_x_wheel_search_mostTwo_sought v_x_wheel_search_mostTwo_tickets_cells v_x_wheel_search_mostThree_size v_x_wheel_search_mostThree_won v_x_wheel_search_mostThree_found v_x_wheel_search_mostThree_sought v_x_wheel_search_mostThree_tickets_cells v_x_wheel_search_fewest_size v_x_wheel_search_fewest_won v_x_wheel_search_fewest_found v_x_wheel_search_fewest_sought v_x_wheel_search_fewest_tickets_cells v_x_imageZero_kept v_x_imageZero_play_n v_x_imageZero_play_t v_x_imageZero_play_d v_x_imageZero_play_r v_x_imageZero_play_fond v_x_imageZero_play_ticketCount v_x_imageZero_play_sightCount v_x_imageZero_play_tickets_cells v_x_imageZero_play_prizes_cells v_x_imageZero_play_sightTickets_cells v_x_imageZero_play_sightNumbers_cells v_x_imageZero_play_sightKinds_cells v_x_imageOne_kept v_x_imageOne_play_n v_x_imageOne_play_t v_x_imageOne_play_d v_x_imageOne_play_r v_x_imageOne_play_fond v_x_imageOne_play_ticketCount v_x_imageOne_play_sightCount v_x_imageOne_play_tickets_cells v_x_imageOne_play_prizes_cells v_x_imageOne_play_sightTickets_cells v_x_imageOne_play_sightNumbers_cells v_x_imageOne_play_sightKinds_cells v_m_numbers v_m_onTicket v_m_drawn v_m_due v_m_ticketMany v_m_fond v_m_sights v_m_drawMany v_m_setMany v_m_padMany v_m_low v_m_high v_m_couldMany v_m_keptAt v_m_isWriting v_m_tickets v_m_prizes v_m_sightTicket v_m_sightRight v_m_sightHow v_m_draws v_m_sets v_m_winsLow v_m_winsHigh v_m_pad v_m_could v_m_row v_m_best v_m_kept v_m_isKept p0 hI
  have hI0 := hI
  obtain ⟨g, g0, g1, pad, pn, k0, k1, hG, hG0, hG1, hk0, hk1, hpn, hpad, xpn, xpad, xpl, xk0, xi0, xk1, xi1, xw, xc1, xc2, xc3, xcf, mpl, md, mpn, mpad, mk0, mk1, mi0, mi1⟩ := hI
  have xpl0 := xpl
  have mpl0 := mpl
  have xw0 := xw
  have md0 := md
  obtain ⟨a1, a2, a3, a4, a5, a6, a7, a8, a9, a10⟩ := xpl
  obtain ⟨b1, b2, b3, b4, b5, b6, b7, b8, b9, b10⟩ := mpl
  obtain ⟨w1, w2, w3, w4, w5, w6, w7, w8, w9, w10, w11⟩ := xw
  obtain ⟨d1, d2, d3, d4, d5⟩ := md
  have hGV := hG
  obtain ⟨e1, e2, e3, e4, e5, e6, e7, e8, e9, e10, e11, e12, e13, e14, e15, e16⟩ := hGV
  subst xpn
  subst mpn
  subst xk0
  subst xk1
  subst a1
  subst a2
  subst a3
  subst a4
  subst a5
  subst a6
  subst a7
  subst b1
  subst b2
  subst b3
  subst b4
  subst b5
  subst b6
  subst b7
  subst w1
  subst w2
  subst w4
  subst w8
  subst w9
  subst d1
  subst d2
  unfold f_Main_surely f_Model_surely f_Play_allNumbers
  rw [show (0 : Int64) = (0 : Int32).toInt64 from rfl, show (1 : Int64) = (1 : Int32).toInt64 from rfl, in_e]
  rcases within_c p0 0 1 with ⟨w, -⟩ | ⟨w, -⟩
  · rw [w, bk1_s, bk1_s, bk1_s, if_neg (show ¬ (1 : Int32) = 0 by decide), if_neg (show ¬ (1 : Int32) = 0 by decide), allN e2]
    obtain ⟨m, a, u, hm, hu, hi, z1, z2⟩ := surely_e hG a8 a10 b8 b10 w3 d3 (Dr g).length 0 300 0 (2 ^ g 0 0 - 1) 0 (by omega) (by have := Dr_70 hG; omega) (by omega) (by decide) (by omega)
    rw [show nI 0 = (0 : Int32) from rfl] at z1 z2
    rw [z1, z2, bk3_s, bk4_s]
    by_cases h : m = 0
    · rw [if_pos ((eq0 (by omega)).mpr (hi.mpr h)), if_pos ((eq0 hm).mpr h)]
      exact ⟨_, rfl, rfl, hI0⟩
    · rw [if_neg (fun e => h (hi.mp ((eq0 (by omega)).mp e))), if_neg (fun e => h ((eq0 hm).mp e))]
      by_cases h0 : p0 = 0
      · rw [if_pos h0]
        exact ⟨_, rfl, rfl, hI0⟩
      · rw [if_neg h0]
        exact ⟨_, rfl, rfl, hI0⟩
  · rw [w]
    exact ⟨_, rfl, rfl, hI0⟩

theorem or0 (x : Int32) : x ||| 0 = x := Int32.or_zero
theorem inS_but : ∀ c : Fin 7, ∀ k : Fin 6, ∀ i : Fin 6, k.val < c.val → i.val < c.val → inS (nI (2 ^ c.val - 1) &&& (((1 : Int32) <<< (nI k.val &&& 31)) ^^^ (-1 : Int32))) i.val = butS (nI k.val) i.val := by decide +kernel
theorem un_but {c k : Nat} (hc : c ≤ 6) (hk : k < c) (tk : Nat → Nat) (r : Nat) (D : List Nat) : un (inS (nI (2 ^ c - 1) &&& (((1 : Int32) <<< (nI k &&& 31)) ^^^ (-1 : Int32)))) tk r D c = un (butS (nI k)) tk r D c :=
  un_cong fun i hi => inS_but ⟨c, by omega⟩ ⟨k, by omega⟩ ⟨i, by omega⟩ hk hi
theorem useless_e {c r : Nat} {tk : Nat → Nat} {D : List Nat} {whh whl : Nat → Int64} {cells f : Nat → Int32} (x1 : Int32) (hc : c ≤ 6) (hr : r ≤ 8) (hD : D.length ≤ 70) (hw : ∀ i, i < c → whl i = tl tk r D i ∧ whh i = th tk r D i) (htk : ∀ i, i < c → f i = nI (tk i) ∧ tk i < 256) (hcl : ∀ k, k < D.length → cells k = nI (nth D k)) :
    ∀ (j k n : Nat) (x : Int32) (oh ol : Nat → Int64) (h l : Int64), k + j = c → j < n → ∃ y o1 o2 o3 o4, L_Wheel_findUseless_16 (nI (2 ^ c - 1)) x1 (nI c) whh whl n x (nI k) oh ol = some (y, nI c, o1, o2) ∧ L_Model_useless_15 x1 (nI D.length) (nI r) (nI c) cells f n x (nI k) h l = some (y, nI c, o3, o4) := by
  intro j
  induction j with
  | zero =>
    intro k n x oh ol h l hk hn
    obtain ⟨n, rfl⟩ : ∃ n', n = n' + 1 := ⟨n - 1, by omega⟩
    have : k = c := by omega
    subst this
    rw [L_Wheel_findUseless_16, L_Model_useless_15, if_pos (nI_le (Nat.le_refl _) (by omega)), if_pos (nI_le (Nat.le_refl _) (by omega))]
    exact ⟨_, _, _, _, _, rfl, rfl⟩
  | succ j ih =>
    intro k n x oh ol h l hk hn
    obtain ⟨n, rfl⟩ : ∃ n', n = n' + 1 := ⟨n - 1, by omega⟩
    rw [L_Wheel_findUseless_16, L_Model_useless_15, if_neg (nI_ge (by omega) (by omega)), if_neg (nI_ge (by omega) (by omega)), countWon_e _ hc hD hw, bk3_s, un_but hc (by omega), flagsBut_e (nI k) hc hr hD htk hcl, bk2_s, flagged_e _ hD, bk1_s, nI_1, or0]
    by_cases e : nI (fb_ct (un (butS (nI k)) tk r D c) D.length) = x1
    · rw [if_pos e, if_pos e]
      exact ih (k + 1) n _ _ _ _ _ (by omega) (by omega)
    · rw [if_neg e, if_neg e]
      exact ih (k + 1) n _ _ _ _ _ (by omega) (by omega)

set_option maxHeartbeats 4000000 in
theorem st_useless : St_useless Inv := by
  intro v_x_pad_size v_x_pad_signs_cells v_x_play_n v_x_play_t v_x_play_d v_x_play_r v_x_play_fond v_x_play_ticketCount v_x_play_sightCount v_x_play_tickets_cells v_x_play_prizes_cells v_x_play_sightTickets_cells v_x_play_sightNumbers_cells v_x_play_sightKinds_cells v_x_wheel_held v_x_wheel_draws_size v_x_wheel_draws_members_cells v_x_wheel_possible_size v_x_wheel_possible_members_cells v_x_wheel_wonByPossible_low v_x_wheel_wonByPossible_high v_x_wheel_wonByHeld_low v_x_wheel_wonByHeld_high v_x_wheel_work_low v_x_wheel_work_high v_x_wheel_search_allDraws v_x_wheel_search_single v_x_wheel_search_reached_low v_x_wheel_search_reached_high v_x_wheel_search_chosen_cells v_x_wheel_search_mostOne_size v_x_wheel_search_mostOne_won v_x_wheel_search_mostOne_found v_x_wheel_search_mostOne_sought v_x_wheel_search_mostOne_tickets_cells v_x_wheel_search_mostTwo_size v_x_wheel_search_mostTwo_won v_x_wheel_search_mostTwo_found v_x_wheel_search_mostTwo_sought v_x_wheel_search_mostTwo_tickets_cells v_x_wheel_search_mostThree_size v_x_wheel_search_mostThree_won v_x_wheel_search_mostThree_found v_x_wheel_search_mostThree_sought v_x_wheel_search_mostThree_tickets_cells v_x_wheel_search_fewest_size v_x_wheel_search_fewest_won v_x_wheel_search_fewest_found v_x_wheel_search_fewest_sought v_x_wheel_search_fewest_tickets_cells v_x_imageZero_kept v_x_imageZero_play_n v_x_imageZero_play_t v_x_imageZero_play_d v_x_imageZero_play_r v_x_imageZero_play_fond v_x_imageZero_play_ticketCount v_x_imageZero_play_sightCount v_x_imageZero_play_tickets_cells v_x_imageZero_play_prizes_cells v_x_imageZero_play_sightTickets_cells v_x_imageZero_play_sightNumbers_cells v_x_imageZero_play_sightKinds_cells v_x_imageOne_kept v_x_imageOne_play_n v_x_imageOne_play_t v_x_imageOne_play_d v_x_imageOne_play_r v_x_imageOne_play_fond v_x_imageOne_play_ticketCount v_x_imageOne_play_sightCount v_x_imageOne_play_tickets_cells v_x_imageOne_play_prizes_cells v_x_imageOne_play_sightTickets_cells v_x_imageOne_play_sightNumbers_cells v_x_imageOne_play_sightKinds_cells v_m_numbers v_m_onTicket v_m_drawn v_m_due v_m_ticketMany v_m_fond v_m_sights v_m_drawMany v_m_setMany v_m_padMany v_m_low v_m_high v_m_couldMany v_m_keptAt v_m_isWriting v_m_tickets v_m_prizes v_m_sightTicket v_m_sightRight v_m_sightHow v_m_draws v_m_sets v_m_winsLow v_m_winsHigh v_m_pad v_m_could v_m_row v_m_best v_m_kept v_m_isKept  hI
  have hI0 := hI
  obtain ⟨g, g0, g1, pad, pn, k0, k1, hG, hG0, hG1, hk0, hk1, hpn, hpad, xpn, xpad, xpl, xk0, xi0, xk1, xi1, xw, xc1, xc2, xc3, xcf, mpl, md, mpn, mpad, mk0, mk1, mi0, mi1⟩ := hI
  have xpl0 := xpl
  have mpl0 := mpl
  have xw0 := xw
  have md0 := md
  obtain ⟨a1, a2, a3, a4, a5, a6, a7, a8, a9, a10⟩ := xpl
  obtain ⟨b1, b2, b3, b4, b5, b6, b7, b8, b9, b10⟩ := mpl
  obtain ⟨w1, w2, w3, w4, w5, w6, w7, w8, w9, w10, w11⟩ := xw
  obtain ⟨d1, d2, d3, d4, d5⟩ := md
  have hGV := hG
  obtain ⟨e1, e2, e3, e4, e5, e6, e7, e8, e9, e10, e11, e12, e13, e14, e15, e16⟩ := hGV
  subst xpn
  subst mpn
  subst xk0
  subst xk1
  subst a1
  subst a2
  subst a3
  subst a4
  subst a5
  subst a6
  subst a7
  subst b1
  subst b2
  subst b3
  subst b4
  subst b5
  subst b6
  subst b7
  subst w1
  subst w2
  subst w4
  subst w8
  subst w9
  subst d1
  subst d2
  have hD : (Dr g).length ≤ 70 := Dr_70 hG
  have htk : ∀ i, i < g 0 5 → v_m_tickets i = nI (g 1 i) ∧ g 1 i < 256 := fun i hi => ⟨b8 i hi, e14 i hi⟩
  unfold f_Main_useless f_Model_useless f_Wheel_findUseless
  have hall : f_Wheel_allTickets (nI (g 0 5)) = some (nI (2 ^ g 0 5 - 1)) := congrArg some (allN (by omega))
  rw [hall, bk1_s, countWon_e _ e12 hD w7, bk3_s, flagsBut_e (-6) e12 (by omega) hD htk d3, bk2_s, flagged_e _ hD, bk1_s, un_all e12]
  obtain ⟨y, o1, o2, o3, o4, z1, z2⟩ := useless_e (whh := v_x_wheel_wonByHeld_high) (whl := v_x_wheel_wonByHeld_low) (cells := v_m_draws) (f := v_m_tickets) (nI (fb_ct (un (butS (-6)) (g 1) (g 0 3) (Dr g) (g 0 5)) (Dr g).length)) e12 (show g 0 3 ≤ 8 by omega) hD w7 htk d3 (g 0 5) 0 300 0 (vp_updL v_x_wheel_work_high 0 (lN (wh (un (butS (-6)) (g 1) (g 0 3) (Dr g) (g 0 5)) (Dr g).length))) (vp_updL v_x_wheel_work_low 0 (lN (wl (un (butS (-6)) (g 1) (g 0 3) (Dr g) (g 0 5)) (Dr g).length))) (lN (wh (un (butS (-6)) (g 1) (g 0 3) (Dr g) (g 0 5)) (Dr g).length)) (lN (wl (un (butS (-6)) (g 1) (g 0 3) (Dr g) (g 0 5)) (Dr g).length)) (by omega) (by omega)
  rw [show nI 0 = (0 : Int32) from rfl] at z1 z2
  rw [z1, z2, bk4_s, bk4_s]
  exact ⟨_, _, _, _, _, rfl, rfl, hI0⟩
