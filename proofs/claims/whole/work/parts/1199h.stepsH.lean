/-- all tickets but one, and one more -/
def FF (g : Nat → Nat → Nat) (i : Nat) : Nat → Nat := cw (un (butS (nI i)) (g 1) (g 0 3) (Dr g) (g 0 5)) (Po g) (g 0 3) (Dr g)
def OO (g : Nat → Nat → Nat) : Nat → Nat × Nat
  | 0 => (0, 0)
  | i + 1 => if (BB (FF g i) (Po g).length).2 ≤ (OO g i).2 then OO g i else (i, (BB (FF g i) (Po g).length).2)
theorem FF_le (g : Nat → Nat → Nat) (i k : Nat) : FF g i k ≤ (Dr g).length := cw_le _ _ _ _ _
theorem OO_le {g : Nat → Nat → Nat} : ∀ k, (OO g k).2 ≤ (Dr g).length + 1
  | 0 => Nat.zero_le _
  | k + 1 => by
    show (if (BB (FF g k) (Po g).length).2 ≤ (OO g k).2 then OO g k else (k, (BB (FF g k) (Po g).length).2)).2 ≤ _
    split
    · exact OO_le k
    · exact BB_le _ (FF_le g k) _
theorem BF_pos {g : Nat → Nat → Nat} (hg : GV g) (i : Nat) : (BB (FF g i) (Po g).length).1 < (Po g).length ∧ (BB (FF g i) (Po g).length).2 = FF g i (BB (FF g i) (Po g).length).1 + 1 := by
  have := Po_ne hg
  obtain ⟨m, hm⟩ : ∃ m, (Po g).length = m + 1 := ⟨(Po g).length - 1, by omega⟩
  rw [hm]
  exact BB_pos _ m
theorem OO_pos {g : Nat → Nat → Nat} (hg : GV g) : ∀ k, (OO g (k + 1)).1 < k + 1 ∧ 0 < (OO g (k + 1)).2 ∧ (OO g (k + 1)).2 = (BB (FF g (OO g (k + 1)).1) (Po g).length).2 := by
  intro k
  have hpos : ∀ k, 0 < (BB (FF g k) (Po g).length).2 := fun k => by rw [(BF_pos hg k).2]; exact Nat.succ_pos _
  induction k with
  | zero =>
    have e : OO g (0 + 1) = (0, (BB (FF g 0) (Po g).length).2) := if_neg (Nat.not_le.mpr (hpos 0))
    rw [e]
    exact ⟨Nat.zero_lt_one, hpos 0, rfl⟩
  | succ k ih =>
    have hB : OO g (k + 1 + 1) = if (BB (FF g (k + 1)) (Po g).length).2 ≤ (OO g (k + 1)).2 then OO g (k + 1) else (k + 1, (BB (FF g (k + 1)) (Po g).length).2) := rfl
    by_cases h : (BB (FF g (k + 1)) (Po g).length).2 ≤ (OO g (k + 1)).2
    · rw [hB, if_pos h]
      exact ⟨by omega, ih.2⟩
    · rw [hB, if_neg h]
      exact ⟨Nat.lt_succ_self _, hpos _, rfl⟩
def bT (c k : Nat) : Int32 := nI (2 ^ c - 1) &&& (((1 : Int32) <<< (nI k &&& 31)) ^^^ (-1 : Int32))
theorem bes2 {g : Nat → Nat → Nat} {whh whl wph wpl : Nat → Int64} (hg : GV g) (hw : ∀ i, i < g 0 5 → whl i = tl (g 1) (g 0 3) (Dr g) i ∧ whh i = th (g 1) (g 0 3) (Dr g) i) (hp : ∀ i, i < (Po g).length → wpl i = rl (Po g) (g 0 3) (Dr g) i ∧ wph i = rh (Po g) (g 0 3) (Dr g) i) {k : Nat} (hk : k < g 0 5) (oh ol : Nat → Int64) : ∃ oh' ol', f_Wheel_bestBeside (nI (g 0 5)) (nI (Po g).length) whh whl wph wpl oh ol (bT (g 0 5) k) = some (nI (BB (FF g k) (Po g).length).1, oh', ol') := by
  have e12 : g 0 5 ≤ 6 := hg.2.2.2.2.2.2.2.2.2.2.2.1
  obtain ⟨o1, o2, z⟩ := beside_e (oh := oh) (ol := ol) (bT (g 0 5) k) e12 (Po_70 hg) (Dr_70 hg) hw hp
  rw [show un (inS (bT (g 0 5) k)) (g 1) (g 0 3) (Dr g) (g 0 5) = un (butS (nI k)) (g 1) (g 0 3) (Dr g) (g 0 5) from un_but e12 hk _ _ _] at z
  exact ⟨o1, o2, z⟩
theorem cwi2 {g : Nat → Nat → Nat} {whh whl wph wpl : Nat → Int64} (hg : GV g) (hw : ∀ i, i < g 0 5 → whl i = tl (g 1) (g 0 3) (Dr g) i ∧ whh i = th (g 1) (g 0 3) (Dr g) i) (hp : ∀ i, i < (Po g).length → wpl i = rl (Po g) (g 0 3) (Dr g) i ∧ wph i = rh (Po g) (g 0 3) (Dr g) i) {k j : Nat} (hk : k < g 0 5) (hj : j < (Po g).length) (oh ol : Nat → Int64) : ∃ oh' ol', f_Wheel_countWonWith (nI (g 0 5)) whh whl wph wpl oh ol (bT (g 0 5) k) (nI j) = some (nI (FF g k j), oh', ol') := by
  have e12 : g 0 5 ≤ 6 := hg.2.2.2.2.2.2.2.2.2.2.2.1
  obtain ⟨o1, o2, z⟩ := cwith_e (oh := oh) (ol := ol) (bT (g 0 5) k) e12 (Po_70 hg) (Dr_70 hg) hj hw hp
  rw [show un (inS (bT (g 0 5) k)) (g 1) (g 0 3) (Dr g) (g 0 5) = un (butS (nI k)) (g 1) (g 0 3) (Dr g) (g 0 5) from un_but e12 hk _ _ _] at z
  exact ⟨o1, o2, z⟩
theorem find_e {g : Nat → Nat → Nat} {whh whl wph wpl : Nat → Int64} (hg : GV g) (hw : ∀ i, i < g 0 5 → whl i = tl (g 1) (g 0 3) (Dr g) i ∧ whh i = th (g 1) (g 0 3) (Dr g) i) (hp : ∀ i, i < (Po g).length → wpl i = rl (Po g) (g 0 3) (Dr g) i ∧ wph i = rh (Po g) (g 0 3) (Dr g) i) : ∀ (j k n : Nat) (oh ol : Nat → Int64), k + j = g 0 5 → j < n → ∃ oh' ol', L_Wheel_findTicketToChange_6 (nI (g 0 5)) (nI (Po g).length) whh whl wph wpl n (nI (OO g k).1) (tI (OO g k).2) (nI k) oh ol = some (nI (OO g (g 0 5)).1, tI (OO g (g 0 5)).2, nI (g 0 5), oh', ol') := by
  have e12 : g 0 5 ≤ 6 := hg.2.2.2.2.2.2.2.2.2.2.2.1
  have hD := Dr_70 hg
  intro j
  induction j with
  | zero =>
    intro k n oh ol hk hn
    obtain ⟨n, rfl⟩ : ∃ n', n = n' + 1 := ⟨n - 1, by omega⟩
    have : k = g 0 5 := by omega
    subst this
    rw [L_Wheel_findTicketToChange_6, if_pos (nI_le (Nat.le_refl _) (by omega))]
    exact ⟨_, _, rfl⟩
  | succ j ih =>
    intro k n oh ol hk hn
    obtain ⟨n, rfl⟩ : ∃ n', n = n' + 1 := ⟨n - 1, by omega⟩
    obtain ⟨q1, q2⟩ := BF_pos hg k
    obtain ⟨o1, o2, z1⟩ := bes2 hg hw hp (show k < g 0 5 by omega) oh ol
    obtain ⟨o3, o4, z2⟩ := cwi2 hg hw hp (show k < g 0 5 by omega) q1 o1 o2
    have hall : f_Wheel_allTickets (nI (g 0 5)) = some (nI (2 ^ g 0 5 - 1)) := congrArg some (allN (by omega))
    have h1 := FF_le g k (BB (FF g k) (Po g).length).1
    have h2 := OO_le (g := g) k
    rw [L_Wheel_findTicketToChange_6, if_neg (nI_ge (by omega) (by omega)), hall, bk1_s, show nI (2 ^ g 0 5 - 1) &&& (((1 : Int32) <<< (nI k &&& 31)) ^^^ (-1 : Int32)) = bT (g 0 5) k from rfl, z1, bk3_s, z2, bk3_s, nI_1]
    have hB : OO g (k + 1) = if (BB (FF g k) (Po g).length).2 ≤ (OO g k).2 then OO g k else (k, (BB (FF g k) (Po g).length).2) := rfl
    by_cases h : (BB (FF g k) (Po g).length).2 ≤ (OO g k).2
    · rw [if_pos ((tI_le (by omega) (by omega)).mpr (by omega))]
      have i1 := ih (k + 1) n o3 o4 (by omega) (by omega)
      rw [hB, if_pos h] at i1
      exact i1
    · rw [if_neg (fun x => h (by have := (tI_le (by omega) (by omega)).mp x; omega))]
      have i1 := ih (k + 1) n o3 o4 (by omega) (by omega)
      rw [hB, if_neg h, show tI (k, (BB (FF g k) (Po g).length).2).2 = nI (FF g k (BB (FF g k) (Po g).length).1) by show tI (BB (FF g k) (Po g).length).2 = _; rw [q2]; exact nI_pred _] at i1
      exact i1
theorem inner_e {g : Nat → Nat → Nat} {could sc dm f : Nat → Int32} {whi wlo : Nat → Int64} (hg : GV g) (hc : ∀ k, k < (Po g).length → could k = nI (nth (cl g) k)) (hs : ∀ i, i < (Se g).length → sc i = nI (nth (Se g) i)) (hw : ∀ i, i < (Se g).length → wlo i = rl (Se g) (g 0 3) (Dr g) i ∧ whi i = rh (Se g) (g 0 3) (Dr g) i) (htk : ∀ i, i < g 0 5 → f i = nI (g 1 i) ∧ g 1 i < 256) (hcl : ∀ k, k < (Dr g).length → dm k = nI (nth (Dr g) k)) {i s0 : Nat} (x2 x3 : Int32) (hs0 : s0 < 2 ^ 30) : L_Model_changed_59 (nI i) (nI (Po g).length) (lN (wh (un (butS (nI i)) (g 1) (g 0 3) (Dr g) (g 0 5)) (Dr g).length)) (lN (wl (un (butS (nI i)) (g 1) (g 0 3) (Dr g) (g 0 5)) (Dr g).length)) could sc whi wlo 300 x2 x3 (tI s0) 0 = some (if (BB (FF g i) (Po g).length).2 ≤ s0 then (x2, x3, tI s0, nI (Po g).length) else (nI i, nI (nth (Po g) (BB (FF g i) (Po g).length).1), tI (BB (FF g i) (Po g).length).2, nI (Po g).length)) := by
  have hS := Se_70 hg
  have hP := Po_70 hg
  have hD := Dr_70 hg
  have key := loopC (fun n m (s : Int32 × Int32 × Int32) => L_Model_changed_59 (nI i) (nI (Po g).length) (lN (wh (un (butS (nI i)) (g 1) (g 0 3) (Dr g) (g 0 5)) (Dr g).length)) (lN (wl (un (butS (nI i)) (g 1) (g 0 3) (Dr g) (g 0 5)) (Dr g).length)) could sc whi wlo n s.1 s.2.1 s.2.2 m) (Po g).length (fun k => if (BB (FF g i) k).2 ≤ s0 then (x2, x3, tI s0) else (nI i, nI (nth (Po g) (BB (FF g i) k).1), tI (BB (FF g i) k).2)) ?_ (Po g).length 0 300 (by omega) (by omega)
  · rw [show (if (BB (FF g i) 0).2 ≤ s0 then (x2, x3, tI s0) else (nI i, nI (nth (Po g) (BB (FF g i) 0).1), tI (BB (FF g i) 0).2)) = (x2, x3, tI s0) from if_pos (Nat.zero_le _)] at key
    dsimp only at key
    rw [show (0 : Int32) = nI 0 from rfl, key, show 300 - (Po g).length = (299 - (Po g).length) + 1 by omega, L_Model_changed_59, if_pos (nI_le (Nat.le_refl _) (by omega))]
    by_cases h : (BB (FF g i) (Po g).length).2 ≤ s0
    · rw [if_pos h, if_pos h]
    · rw [if_neg h, if_neg h]
  · intro n k hk
    obtain ⟨c1, c2⟩ := cl_at g hk
    have hcw : cw (un (butS (nI i)) (g 1) (g 0 3) (Dr g) (g 0 5)) (Se g) (g 0 3) (Dr g) (nth (cl g) k) = FF g i k := by unfold FF cw; rw [c2]
    have h1 := FF_le g i k
    have h2 := BB_le (FF g i) (FF_le g i) k
    rw [L_Model_changed_59, if_neg (nI_ge hk (by omega)), nI_1, gdN (by omega) (by decide), nI_clamp (by omega), hc k hk, wonWith_e c1 hS hD hw, bk1_s, hcw, gdN (by omega) (by decide), gdN (by omega) (by decide), nI_clamp (by omega), hs _ c1, c2]
    have hB : BB (FF g i) (k + 1) = if FF g i k < (BB (FF g i) k).2 then BB (FF g i) k else (k, FF g i k + 1) := rfl
    by_cases h : (BB (FF g i) k).2 ≤ s0
    · rw [if_pos h]
      dsimp only
      by_cases h3 : FF g i k < s0
      · rw [if_pos ((tI_le (by omega) (by omega)).mpr h3)]
        have : (BB (FF g i) (k + 1)).2 ≤ s0 := by
          rw [hB]
          split
          · exact h
          · exact h3
        rw [if_pos this]
      · rw [if_neg (fun x => h3 ((tI_le (by omega) (by omega)).mp x)), hB, if_neg (show ¬ FF g i k < (BB (FF g i) k).2 by omega), if_neg (show ¬ (k, FF g i k + 1).2 ≤ s0 by show ¬ FF g i k + 1 ≤ s0; omega)]
        dsimp only
        rw [show tI (FF g i k + 1) = nI (FF g i k) from nI_pred _]
    · rw [if_neg h]
      dsimp only
      by_cases h3 : FF g i k < (BB (FF g i) k).2
      · rw [if_pos ((tI_le (by omega) (by omega)).mpr h3), hB, if_pos h3, if_neg h]
      · rw [if_neg (fun x => h3 ((tI_le (by omega) (by omega)).mp x)), hB, if_neg h3, if_neg (show ¬ (k, FF g i k + 1).2 ≤ s0 by show ¬ FF g i k + 1 ≤ s0; omega)]
        dsimp only
        rw [show tI (FF g i k + 1) = nI (FF g i k) from nI_pred _]
def oA (b : Nat × Nat) : Int32 := if b.2 = 0 then -6 else nI b.1
def oB (g : Nat → Nat → Nat) (b : Nat × Nat) : Int32 := if b.2 = 0 then -6 else nI (nth (Po g) (BB (FF g b.1) (Po g).length).1)
theorem outer_e {g : Nat → Nat → Nat} {could sc dm f : Nat → Int32} {whi wlo : Nat → Int64} (hg : GV g) (hc : ∀ k, k < (Po g).length → could k = nI (nth (cl g) k)) (hs : ∀ i, i < (Se g).length → sc i = nI (nth (Se g) i)) (hw : ∀ i, i < (Se g).length → wlo i = rl (Se g) (g 0 3) (Dr g) i ∧ whi i = rh (Se g) (g 0 3) (Dr g) i) (htk : ∀ i, i < g 0 5 → f i = nI (g 1 i) ∧ g 1 i < 256) (hcl : ∀ k, k < (Dr g).length → dm k = nI (nth (Dr g) k)) : ∀ (j k n : Nat) (h l : Int64), k + j = g 0 5 → j < n → ∃ h' l', L_Model_changed_41 (nI (Po g).length) could (nI (Dr g).length) (nI (g 0 3)) (nI (g 0 5)) dm sc f whi wlo n (oA (OO g k)) (oB g (OO g k)) (tI (OO g k).2) (nI k) h l = some (oA (OO g (g 0 5)), oB g (OO g (g 0 5)), tI (OO g (g 0 5)).2, nI (g 0 5), h', l') := by
  have e12 : g 0 5 ≤ 6 := hg.2.2.2.2.2.2.2.2.2.2.2.1
  have e8 : g 0 3 ≤ 8 := by have := hg.2.1; have := hg.2.2.2.1; have := hg.2.2.2.2.2.2.2.1; omega
  have hD := Dr_70 hg
  intro j
  induction j with
  | zero =>
    intro k n h l hk hn
    obtain ⟨n, rfl⟩ : ∃ n', n = n' + 1 := ⟨n - 1, by omega⟩
    have : k = g 0 5 := by omega
    subst this
    rw [L_Model_changed_41, if_pos (nI_le (Nat.le_refl _) (by omega))]
    exact ⟨_, _, rfl⟩
  | succ j ih =>
    intro k n h l hk hn
    obtain ⟨n, rfl⟩ : ∃ n', n = n' + 1 := ⟨n - 1, by omega⟩
    have h2 := OO_le (g := g) k
    have q2 := (BF_pos hg k).2
    rw [L_Model_changed_41, if_neg (nI_ge (by omega) (by omega)), flagsBut_e (nI k) e12 e8 hD htk hcl, bk2_s, inner_e hg hc hs hw htk hcl _ _ (show (OO g k).2 < 2 ^ 30 by omega), nI_1]
    have hB : OO g (k + 1) = if (BB (FF g k) (Po g).length).2 ≤ (OO g k).2 then OO g k else (k, (BB (FF g k) (Po g).length).2) := rfl
    have i1 := ih (k + 1) n (lN (wh (un (butS (nI k)) (g 1) (g 0 3) (Dr g) (g 0 5)) (Dr g).length)) (lN (wl (un (butS (nI k)) (g 1) (g 0 3) (Dr g) (g 0 5)) (Dr g).length)) (by omega) (by omega)
    by_cases h : (BB (FF g k) (Po g).length).2 ≤ (OO g k).2
    · rw [if_pos h, bk4_s]
      rw [hB, if_pos h] at i1
      exact i1
    · rw [if_neg h, bk4_s]
      rw [hB, if_neg h, show oA (k, (BB (FF g k) (Po g).length).2) = nI k from if_neg (by show ¬ (BB (FF g k) (Po g).length).2 = 0; omega), show oB g (k, (BB (FF g k) (Po g).length).2) = nI (nth (Po g) (BB (FF g k) (Po g).length).1) from if_neg (by show ¬ (BB (FF g k) (Po g).length).2 = 0; omega)] at i1
      exact i1

set_option maxHeartbeats 4000000 in
theorem st_changed : St_changed Inv := by
  intro v_x_pad_size v_x_pad_signs_cells v_x_play_n v_x_play_t v_x_play_d v_x_play_r v_x_play_fond v_x_play_ticketCount v_x_play_sightCount v_x_play_tickets_cells v_x_play_prizes_cells v_x_play_sightTickets_cells v_x_play_sightNumbers_cells v_x_play_sightKinds_cells v_x_wheel_held v_x_wheel_draws_size v_x_wheel_draws_members_cells v_x_wheel_possible_size v_x_wheel_possible_members_cells v_x_wheel_wonByPossible_low v_x_wheel_wonByPossible_high v_x_wheel_wonByHeld_low v_x_wheel_wonByHeld_high v_x_wheel_work_low v_x_wheel_work_high v_x_wheel_search_allDraws v_x_wheel_search_single v_x_wheel_search_reached_low v_x_wheel_search_reached_high v_x_wheel_search_chosen_cells v_x_wheel_search_mostOne_size v_x_wheel_search_mostOne_won v_x_wheel_search_mostOne_found v_x_wheel_search_mostOne_sought v_x_wheel_search_mostOne_tickets_cells v_x_wheel_search_mostTwo_size v_x_wheel_search_mostTwo_won v_x_wheel_search_mostTwo_found v_x_wheel_search_mostTwo_sought v_x_wheel_search_mostTwo_tickets_cells v_x_wheel_search_mostThree_size v_x_wheel_search_mostThree_won v_x_wheel_search_mostThree_found v_x_wheel_search_mostThree_sought v_x_wheel_search_mostThree_tickets_cells v_x_wheel_search_fewest_size v_x_wheel_search_fewest_won v_x_wheel_search_fewest_found v_x_wheel_search_fewest_sought v_x_wheel_search_fewest_tickets_cells v_x_imageZero_kept v_x_imageZero_play_n v_x_imageZero_play_t v_x_imageZero_play_d v_x_imageZero_play_r v_x_imageZero_play_fond v_x_imageZero_play_ticketCount v_x_imageZero_play_sightCount v_x_imageZero_play_tickets_cells v_x_imageZero_play_prizes_cells v_x_imageZero_play_sightTickets_cells v_x_imageZero_play_sightNumbers_cells v_x_imageZero_play_sightKinds_cells v_x_imageOne_kept v_x_imageOne_play_n v_x_imageOne_play_t v_x_imageOne_play_d v_x_imageOne_play_r v_x_imageOne_play_fond v_x_imageOne_play_ticketCount v_x_imageOne_play_sightCount v_x_imageOne_play_tickets_cells v_x_imageOne_play_prizes_cells v_x_imageOne_play_sightTickets_cells v_x_imageOne_play_sightNumbers_cells v_x_imageOne_play_sightKinds_cells v_m_numbers v_m_onTicket v_m_drawn v_m_due v_m_ticketMany v_m_fond v_m_sights v_m_drawMany v_m_setMany v_m_padMany v_m_low v_m_high v_m_couldMany v_m_keptAt v_m_isWriting v_m_tickets v_m_prizes v_m_sightTicket v_m_sightRight v_m_sightHow v_m_draws v_m_sets v_m_winsLow v_m_winsHigh v_m_pad v_m_could v_m_row v_m_best v_m_kept v_m_isKept p0 hI
  have hI0 := hI
  obtain ⟨g, g0, g1, pad, pn, k0, k1, hG, hG0, hG1, hk0, hk1, hpn, hpad, xpn, xpad, xpl, xk0, xi0, xk1, xi1, xw, xc1, xc2, xc3, xcf, mpl, md, mpn, mpad, mk0, mk1, mi0, mi1⟩ := hI
  have xpl0 := xpl
  have mpl0 := mpl
  have xw0 := xw
  have md0 := md
  obtain ⟨a1, a2, a3, a4, a5, a6, a7, a8, a9, a10⟩ := xpl
  obtain ⟨b1, b2, b3, b4, b5, b6, b7, b8, b9, b10⟩ := mpl
  obtain ⟨w1, w2, w3, w4, w5, w6, w7, w8, w9, w10, w11⟩ := xw
  obtain ⟨d1, d2, d3, d4, d5⟩ := md
  have hGV := hG
  obtain ⟨e1, e2, e3, e4, e5, e6, e7, e8, e9, e10, e11, e12, e13, e14, e15, e16⟩ := hGV
  subst xpn
  subst mpn
  subst xk0
  subst xk1
  subst a1
  subst a2
  subst a3
  subst a4
  subst a5
  subst a6
  subst a7
  subst b1
  subst b2
  subst b3
  subst b4
  subst b5
  subst b6
  subst b7
  subst w1
  subst w2
  subst w4
  subst w8
  subst w9
  subst d1
  subst d2
  have hD : (Dr g).length ≤ 70 := Dr_70 hG
  have hP := Po_70 hG
  have htk : ∀ i, i < g 0 5 → v_m_tickets i = nI (g 1 i) ∧ g 1 i < 256 := fun i hi => ⟨b8 i hi, e14 i hi⟩
  unfold f_Main_changed f_Model_changed f_Wheel_findTicketToChange
  have hall : f_Wheel_allTickets (nI (g 0 5)) = some (nI (2 ^ g 0 5 - 1)) := congrArg some (allN (by omega))
  rw [show (0 : Int64) = (0 : Int32).toInt64 from rfl, show (2 : Int64) = (2 : Int32).toInt64 from rfl, in_e]
  rcases within_c p0 0 2 with ⟨w, h1, h2⟩ | ⟨w, -⟩
  · rw [w, bk1_s, bk1_s, if_neg (show ¬ (1 : Int32) = 0 by decide), if_neg (show ¬ (1 : Int32) = 0 by decide)]
    by_cases hc : g 0 5 = 0
    · rw [if_pos ((eq0 (by omega)).mpr hc), if_pos ((eq0 (by omega)).mpr hc)]
      exact ⟨_, _, _, _, _, _, _, rfl, rfl, hI0⟩
    · obtain ⟨m, hm⟩ : ∃ m, g 0 5 = m + 1 := ⟨g 0 5 - 1, by omega⟩
      have hOO := OO_pos hG m
      rw [← hm] at hOO
      obtain ⟨r1, r2, r3⟩ := hOO
      obtain ⟨q1, q2⟩ := BF_pos hG (OO g (g 0 5)).1
      obtain ⟨o1, o2, z1⟩ := find_e hG w7 w6 (g 0 5) 0 300 v_x_wheel_work_high v_x_wheel_work_low (by omega) (by omega)
      obtain ⟨o3, o4, z2⟩ := bes2 hG w7 w6 r1 o1 o2
      obtain ⟨o5, o6, z3⟩ := cwi2 hG w7 w6 r1 q1 o3 o4
      obtain ⟨h', l', z4⟩ := outer_e hG (could := aL (cl g) v_m_could) (fun k hk => aL_at (by rw [cl_len]; exact hk)) d4 d5 htk d3 (g 0 5) 0 300 v_m_high v_m_low (by omega) (by omega)
      rw [show nI (OO g 0).1 = (0 : Int32) from rfl, show tI (OO g 0).2 = (-1 : Int32) from rfl, show nI 0 = (0 : Int32) from rfl] at z1
      rw [show oA (OO g 0) = (-6 : Int32) from rfl, show oB g (OO g 0) = (-6 : Int32) from rfl, show tI (OO g 0).2 = (-1 : Int32) from rfl, show nI 0 = (0 : Int32) from rfl] at z4
      rw [if_neg (fun e => hc ((eq0 (by omega)).mp e)), if_neg (fun e => hc ((eq0 (by omega)).mp e)), z1, bk5_s, bk3_s, hall, bk1_s, show nI (2 ^ g 0 5 - 1) &&& (((1 : Int32) <<< (nI (OO g (g 0 5)).1 &&& 31)) ^^^ (-1 : Int32)) = bT (g 0 5) (OO g (g 0 5)).1 from rfl, z2, bk3_s, could_e hG d4, bk2_s, z4, bk6_s]
      rw [show oA (OO g (g 0 5)) = nI (OO g (g 0 5)).1 from if_neg (by omega), show oB g (OO g (g 0 5)) = nI (nth (Po g) (BB (FF g (OO g (g 0 5)).1) (Po g).length).1) from if_neg (by omega)]
      by_cases c0 : p0 = 0
      · rw [if_pos c0, if_pos c0]
        exact ⟨_, _, _, _, _, _, _, rfl, rfl, hI0⟩
      rw [if_neg c0, if_neg c0]
      by_cases c1 : p0 = 1
      · rw [if_pos c1, if_pos c1, Sets_at_e (by omega), bk1_s, w5 _ q1]
        exact ⟨_, _, _, _, _, _, _, rfl, rfl, hI0⟩
      rw [if_neg c1, if_neg c1, z3, bk3_s, r3, q2, show tI (FF g (OO g (g 0 5)).1 (BB (FF g (OO g (g 0 5)).1) (Po g).length).1 + 1) = nI (FF g (OO g (g 0 5)).1 (BB (FF g (OO g (g 0 5)).1) (Po g).length).1) from nI_pred _]
      exact ⟨_, _, _, _, _, _, _, rfl, rfl, hI0⟩
  · rw [w]
    exact ⟨_, _, _, _, _, _, _, rfl, rfl, hI0⟩
