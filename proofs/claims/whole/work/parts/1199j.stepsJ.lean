theorem fread_in {n t : Nat} {p : Nat → Nat} : ∀ (j k e : Nat) (s : Nat × Nat × Nat), fread n t p j k s = .inr e → e < k + j
  | 0, k, e, s, h => by
    have h' : Sum.inl s.1 = (Sum.inr e : Nat ⊕ Nat) := h
    cases h'
  | j + 1, k, e, s, h => by
    have h' : (match fstep n t (p k) s with | none => Sum.inr k | some s' => fread n t p j (k + 1) s') = (Sum.inr e : Nat ⊕ Nat) := h
    cases hf : fstep n t (p k) s with
    | none =>
      rw [hf] at h'
      cases h'
      omega
    | some s' =>
      rw [hf] at h'
      have := fread_in j (k + 1) e s' h'
      omega
theorem fsay_c {n t pn : Nat} {p : Nat → Nat} : (fsay n t pn p = -6 ∧ ∃ q, fread n t p pn 0 (0, 48, 0) = .inl q) ∨ ∃ e, e ≤ pn ∧ fsay n t pn p = nI e := by
  unfold fsay
  cases hr : fread n t p pn 0 (0, 48, 0) with
  | inr e =>
    have := fread_in _ _ _ _ hr
    exact Or.inr ⟨e, by omega, rfl⟩
  | inl q =>
    dsimp only
    by_cases c0 : pn = 0
    · rw [if_pos c0]
      exact Or.inl ⟨rfl, q, rfl⟩
    · rw [if_neg c0]
      by_cases c1 : q = t
      · rw [if_pos c1]
        exact Or.inl ⟨rfl, q, rfl⟩
      · rw [if_neg c1]
        exact Or.inr ⟨pn, Nat.le_refl _, rfl⟩
theorem move_e {n t pn : Nat} {p : Nat → Nat} {xs ms : Nat → Int32} (hn : n ≤ 8) (hpn : pn ≤ 60) (hx : ∀ i, i < pn → xs i = nI (p i)) (hm : ∀ i, i < pn → ms i = nI (p i)) :
    ∀ (j k f1 f2 q : Nat) (s : Nat × Nat × Nat) (T : Nat → Nat) (a b : Nat → Int32), k + j = pn → j < f1 → j < f2 → FI n t s → fread n t p j k s = .inl q → (∀ i, T i < 256) → (∀ i, s.2.2 < i → T i = 0) → (∀ i, i < s.2.2 → a i = nI (T i)) → (∀ i, i < 6 → b i = nI (T i)) →
    ∃ (m' : Nat) (T' : Nat → Nat) (a' b' : Nat → Int32), m' ≤ 5 ∧ (∀ i, T' i < 256) ∧ (∀ i, i < m' → a' i = nI (T' i)) ∧ (∀ i, i < 6 → b' i = nI (T' i)) ∧ L_Pad_moveTo_8 (nI pn) xs f1 (nI (T s.2.2)) (nI k) (nI s.2.2) a = some (nI (T' m'), nI pn, nI m', a') ∧ L_Model_tickets_49 (nI pn) ms f2 (nI k) (nI (s.2.2 + 1)) b = some (nI pn, nI (m' + 1), b') := by
  intro j
  induction j with
  | zero =>
    intro k f1 f2 q s T a b hk h1 h2 hs hr hT hz ha hb
    obtain ⟨f1, rfl⟩ : ∃ n', f1 = n' + 1 := ⟨f1 - 1, by omega⟩
    obtain ⟨f2, rfl⟩ : ∃ n', f2 = n' + 1 := ⟨f2 - 1, by omega⟩
    have : k = pn := by omega
    subst this
    rw [L_Pad_moveTo_8, L_Model_tickets_49, if_pos (nI_le (Nat.le_refl _) (by omega)), if_pos (nI_le (Nat.le_refl _) (by omega))]
    exact ⟨s.2.2, T, a, b, hs.2.2.2, hT, ha, hb, rfl, rfl⟩
  | succ j ih =>
    intro k f1 f2 q s T a b hk h1 h2 hs hr hT hz ha hb
    obtain ⟨f1, rfl⟩ : ∃ n', f1 = n' + 1 := ⟨f1 - 1, by omega⟩
    obtain ⟨f2, rfl⟩ : ∃ n', f2 = n' + 1 := ⟨f2 - 1, by omega⟩
    have hr' : (match fstep n t (p k) s with | none => Sum.inr k | some s' => fread n t p j (k + 1) s') = (Sum.inl q : Nat ⊕ Nat) := hr
    cases hf : fstep n t (p k) s with
    | none => rw [hf] at hr'; cases hr'
    | some s' =>
      rw [hf] at hr'
      dsimp only at hr'
      have hs' := fstep_I hs hf
      obtain ⟨g1, g2, g3, g4⟩ := hs
      rw [L_Pad_moveTo_8, L_Model_tickets_49, if_neg (nI_ge (by omega) (by omega)), if_neg (nI_ge (by omega) (by omega)), Row_at_e (by omega) (by decide), bk1_s, bk1_s, gdN (by omega) (by decide), nI_clamp (by omega), hx k (by omega), hm k (by omega), nI_1 k]
      unfold fstep at hf
      by_cases c59 : p k = 59
      · rw [if_pos c59] at hf
        split at hf
        · cases hf
          rename_i hq
          have h59 : nI (p k) = (59 : Int32) := by rw [c59]; rfl
          rw [if_pos h59, if_pos h59]
          unfold f_Play_addTicket
          rw [Row_put_e (by omega) (by decide), bk1_s, bk2_s, nI_1, nI_1]
          have e0 : nI (T (s.2.2 + 1)) = (0 : Int32) := by rw [hz _ (Nat.lt_succ_self _)]; rfl
          rw [← e0]
          refine ih (k + 1) f1 f2 q (0, 48, s.2.2 + 1) T _ _ (by omega) (by omega) (by omega) hs' hr' hT (fun i hi => hz i (Nat.lt_of_succ_lt hi)) ?_ hb
          intro i hi
          have hi' : i < s.2.2 + 1 := hi
          by_cases e : i = s.2.2
          · rw [e]; exact if_pos rfl
          · have : upd a s.2.2 (nI (T s.2.2)) i = a i := if_neg e
            rw [this]
            exact ha i (by omega)
        · cases hf
      · rw [if_neg c59] at hf
        split at hf
        · cases hf
          rename_i hq
          obtain ⟨q1, q2, q3⟩ := hq
          have h59 : ¬ nI (p k) = (59 : Int32) := fun x => c59 ((nI_eq (b := 59) (by omega) (by decide)).mp x)
          rw [if_neg h59, if_neg h59, show nI (p k) - (49 : Int32) = nI (p k - 49) from pk_sub (b := 49) (by omega), shlN (by omega), orN, show nI (s.2.2 + 1) - (1 : Int32) = nI s.2.2 from nI_pred _, gdN (by omega) (by decide), gdN (by omega) (by decide), gdN (by omega) (by decide), nI_clamp (by omega), hb _ (by omega), orN]
          have hlt : T s.2.2 ||| 2 ^ (p k - 49) < 256 := Nat.or_lt_two_pow (n := 8) (hT _) (Nat.pow_lt_pow_right (a := 2) (by decide) (by omega))
          have e1 : T s.2.2 ||| 2 ^ (p k - 49) = (fun i => if i = s.2.2 then T s.2.2 ||| 2 ^ (p k - 49) else T i) s.2.2 := (if_pos rfl).symm
          have i1 := ih (k + 1) f1 f2 q (s.1 + 1, p k, s.2.2) (fun i => if i = s.2.2 then T s.2.2 ||| 2 ^ (p k - 49) else T i) a (upd b s.2.2 (nI (T s.2.2 ||| 2 ^ (p k - 49)))) (by omega) (by omega) (by omega) hs' hr' ?_ ?_ ?_ ?_
          · dsimp only at i1
            rw [if_pos rfl] at i1
            exact i1
          · intro i
            split
            · exact hlt
            · exact hT i
          · intro i hi
            have hi' : s.2.2 < i := hi
            rw [if_neg (by omega)]
            exact hz i hi'
          · intro i hi
            have hi' : i < s.2.2 := hi
            rw [if_neg (by omega)]
            exact ha i hi'
          · intro i hi
            by_cases e : i = s.2.2
            · rw [e, if_pos rfl]; exact if_pos rfl
            · rw [if_neg e]
              have : upd b s.2.2 (nI (T s.2.2 ||| 2 ^ (p k - 49))) i = b i := if_neg e
              rw [this]
              exact hb i hi
        · cases hf
theorem zero_e (old : Nat → Int32) : L_Model_tickets_28 300 0 old = some (6, fp (fun _ => 0) old 6) := by
  have key := loopC (fun n i (s : Nat → Int32) => L_Model_tickets_28 n i s) 6 (fun k => fp (fun _ => 0) old k) ?_ 6 0 300 (by omega) (by omega)
  · rw [fp_0] at key
    rw [show (0 : Int32) = nI 0 from rfl, key, show 300 - 6 = 293 + 1 by omega, L_Model_tickets_28, if_pos (show (6 : Int32) ≤ nI 6 by decide)]
    rfl
  · intro n k hk
    rw [L_Model_tickets_28, if_neg (show ¬ (6 : Int32) ≤ nI k from nI_ge (b := 6) hk (by decide)), gdN (by omega) (by decide), nI_clamp (by omega), nI_1, show upd (fp (fun _ => (0 : Int32)) old k) k 0 = fp (fun _ => 0) old (k + 1) from fp_upd (fun _ => 0) old k]
/-- other tickets -/
def gtick (g : Nat → Nat → Nat) (c : Nat) (T : Nat → Nat) : Nat → Nat → Nat := fun x y => if x = 0 ∧ y = 5 then c else if x = 0 ∧ y = 6 then 0 else if x = 1 then T y else g x y

set_option maxHeartbeats 4000000 in
theorem st_tickets : St_tickets Inv := by
  intro v_x_pad_size v_x_pad_signs_cells v_x_play_n v_x_play_t v_x_play_d v_x_play_r v_x_play_fond v_x_play_ticketCount v_x_play_sightCount v_x_play_tickets_cells v_x_play_prizes_cells v_x_play_sightTickets_cells v_x_play_sightNumbers_cells v_x_play_sightKinds_cells v_x_wheel_held v_x_wheel_draws_size v_x_wheel_draws_members_cells v_x_wheel_possible_size v_x_wheel_possible_members_cells v_x_wheel_wonByPossible_low v_x_wheel_wonByPossible_high v_x_wheel_wonByHeld_low v_x_wheel_wonByHeld_high v_x_wheel_work_low v_x_wheel_work_high v_x_wheel_search_allDraws v_x_wheel_search_single v_x_wheel_search_reached_low v_x_wheel_search_reached_high v_x_wheel_search_chosen_cells v_x_wheel_search_mostOne_size v_x_wheel_search_mostOne_won v_x_wheel_search_mostOne_found v_x_wheel_search_mostOne_sought v_x_wheel_search_mostOne_tickets_cells v_x_wheel_search_mostTwo_size v_x_wheel_search_mostTwo_won v_x_wheel_search_mostTwo_found v_x_wheel_search_mostTwo_sought v_x_wheel_search_mostTwo_tickets_cells v_x_wheel_search_mostThree_size v_x_wheel_search_mostThree_won v_x_wheel_search_mostThree_found v_x_wheel_search_mostThree_sought v_x_wheel_search_mostThree_tickets_cells v_x_wheel_search_fewest_size v_x_wheel_search_fewest_won v_x_wheel_search_fewest_found v_x_wheel_search_fewest_sought v_x_wheel_search_fewest_tickets_cells v_x_imageZero_kept v_x_imageZero_play_n v_x_imageZero_play_t v_x_imageZero_play_d v_x_imageZero_play_r v_x_imageZero_play_fond v_x_imageZero_play_ticketCount v_x_imageZero_play_sightCount v_x_imageZero_play_tickets_cells v_x_imageZero_play_prizes_cells v_x_imageZero_play_sightTickets_cells v_x_imageZero_play_sightNumbers_cells v_x_imageZero_play_sightKinds_cells v_x_imageOne_kept v_x_imageOne_play_n v_x_imageOne_play_t v_x_imageOne_play_d v_x_imageOne_play_r v_x_imageOne_play_fond v_x_imageOne_play_ticketCount v_x_imageOne_play_sightCount v_x_imageOne_play_tickets_cells v_x_imageOne_play_prizes_cells v_x_imageOne_play_sightTickets_cells v_x_imageOne_play_sightNumbers_cells v_x_imageOne_play_sightKinds_cells v_m_numbers v_m_onTicket v_m_drawn v_m_due v_m_ticketMany v_m_fond v_m_sights v_m_drawMany v_m_setMany v_m_padMany v_m_low v_m_high v_m_couldMany v_m_keptAt v_m_isWriting v_m_tickets v_m_prizes v_m_sightTicket v_m_sightRight v_m_sightHow v_m_draws v_m_sets v_m_winsLow v_m_winsHigh v_m_pad v_m_could v_m_row v_m_best v_m_kept v_m_isKept  hI
  have hI0 := hI
  obtain ⟨g, g0, g1, pad, pn, k0, k1, hG, hG0, hG1, hk0, hk1, hpn, hpad, xpn, xpad, xpl, xk0, xi0, xk1, xi1, xw, xc1, xc2, xc3, xcf, mpl, md, mpn, mpad, mk0, mk1, mi0, mi1⟩ := hI
  have xpl0 := xpl
  have mpl0 := mpl
  have xw0 := xw
  have md0 := md
  obtain ⟨a1, a2, a3, a4, a5, a6, a7, a8, a9, a10⟩ := xpl
  obtain ⟨b1, b2, b3, b4, b5, b6, b7, b8, b9, b10⟩ := mpl
  obtain ⟨w1, w2, w3, w4, w5, w6, w7, w8, w9, w10, w11⟩ := xw
  obtain ⟨d1, d2, d3, d4, d5⟩ := md
  have hGV := hG
  obtain ⟨e1, e2, e3, e4, e5, e6, e7, e8, e9, e10, e11, e12, e13, e14, e15, e16⟩ := hGV
  subst xpn
  subst mpn
  subst xk0
  subst xk1
  subst a1
  subst a2
  subst a3
  subst a4
  subst a5
  subst a6
  subst a7
  subst b1
  subst b2
  subst b3
  subst b4
  subst b5
  subst b6
  subst b7
  subst w1
  subst w2
  subst w4
  subst w8
  subst w9
  subst d1
  subst d2
  have hD : (Dr g).length ≤ 70 := Dr_70 hG
  unfold f_Main_tickets f_Model_tickets
  rw [xsay_e e2 (by omega) (by omega) hpn hpad xpad, msay_e e2 (by omega) hpn hpad mpad, bk1_s, bk1_s]
  rcases fsay_c (n := g 0 0) (t := g 0 1) (pn := pn) (p := pad) with ⟨hsay, q, hq⟩ | ⟨e, he, hsay⟩
  · rw [hsay, if_pos rfl, if_pos (show (-6 : Int32) < 0 by decide)]
    unfold f_Pad_moveTo
    rw [show f_Play_dropTickets = some (0, 0) from rfl, bk2_s, zero_e, bk2_s, bk2_s]
    by_cases c0 : pn = 0
    · subst c0
      rw [if_pos (show nI 0 = (0 : Int32) from rfl), show L_Pad_moveTo_8 (nI 0) v_x_pad_signs_cells 300 0 0 0 v_x_play_tickets_cells = some (0, 0, 0, v_x_play_tickets_cells) from rfl, bk4_s, if_pos (show nI 0 ≤ (0 : Int32) by decide), show f_Pad_clear = some 0 from rfl, bk1_s, bk4_s, show (0 : Int32) = nI 0 from rfl, takeTickets_e (tk := g 1) (by decide) (by omega) hD no_lt w3, bk3_s, show L_Model_tickets_49 (nI 0) v_m_pad 300 (nI 0) (nI 0) (fp (fun _ => nI 0) v_m_tickets 6) = some (nI 0, nI 0, fp (fun _ => nI 0) v_m_tickets 6) from rfl, bk3_s]
      exact ⟨_, _, _, _, _, _, _, _, _, _, _, _, rfl, rfl, ⟨gtick g 0 (g 1), g0, g1, pad, 0, k0, k1, ⟨e1, e2, e3, e4, e5, e6, e7, e8, e9, e10, e11, Nat.zero_le _, Nat.zero_le _, no_lt, e15, no_lt⟩, hG0, hG1, hk0, hk1, Nat.zero_le _, no_lt, rfl, no_lt, ⟨rfl, rfl, rfl, rfl, rfl, rfl, rfl, no_lt, a9, no_lt⟩, rfl, xi0, rfl, xi1, ⟨rfl, rfl, w3, rfl, w5, w6, no_lt, rfl, rfl, w10, w11⟩, CK_c rfl rfl rfl rfl rfl xc1, CK_c rfl rfl rfl rfl rfl xc2, CK_c rfl rfl rfl rfl rfl xc3, CF_c rfl rfl rfl rfl rfl xcf, ⟨rfl, rfl, rfl, rfl, rfl, rfl, rfl, no_lt, b9, no_lt⟩, MD_c rfl rfl rfl rfl md0, rfl, no_lt, mk0, mk1, mi0, mi1⟩⟩
    · have h0 : FI (g 0 0) (g 0 1) (0, 48, 0) := ⟨Nat.zero_le _, Nat.le_refl _, Nat.le_add_right _ _, Nat.zero_le _⟩
      obtain ⟨m, T, a', b', hm, hT, ha, hb, z1, z2⟩ := move_e e2 hpn xpad mpad pn 0 300 300 q (0, 48, 0) (fun _ => 0) v_x_play_tickets_cells (fp (fun _ => 0) v_m_tickets 6) (by omega) (by omega) (by omega) h0 hq (fun _ => by decide) (fun _ _ => rfl) no_lt (fun i hi => fp_at hi)
      dsimp only at z1 z2
      rw [show nI 0 = (0 : Int32) from rfl] at z1 z2
      rw [show nI (0 + 1) = (1 : Int32) from rfl] at z2
      have hX : ∀ i, i < m + 1 → upd a' m (nI (T m)) i = nI (T i) ∧ T i < 256 := by
        intro i hi
        refine ⟨?_, hT i⟩
        by_cases e : i = m
        · rw [e]; exact if_pos rfl
        · have : upd a' m (nI (T m)) i = a' i := if_neg e
          rw [this]
          exact ha i (by omega)
      unfold f_Play_addTicket
      rw [if_neg (fun x => c0 ((eq0 (by omega)).mp x)), z1, bk4_s, if_neg (show ¬ nI pn ≤ (0 : Int32) from nI_nle (by omega) (by omega)), Row_put_e (by omega) (by decide), bk1_s, bk2_s, nI_1, show f_Pad_clear = some 0 from rfl, bk1_s, bk4_s, takeTickets_e (tk := T) (show m + 1 ≤ 6 by omega) (by omega) hD hX w3, bk3_s, z2, bk3_s]
      exact ⟨_, _, _, _, _, _, _, _, _, _, _, _, rfl, rfl, ⟨gtick g (m + 1) T, g0, g1, pad, 0, k0, k1, ⟨e1, e2, e3, e4, e5, e6, e7, e8, e9, e10, e11, Nat.succ_le_succ hm, Nat.zero_le _, fun i _ => hT i, e15, no_lt⟩, hG0, hG1, hk0, hk1, Nat.zero_le _, no_lt, rfl, no_lt, ⟨rfl, rfl, rfl, rfl, rfl, rfl, rfl, fun i hi => (hX i hi).1, a9, no_lt⟩, rfl, xi0, rfl, xi1, ⟨rfl, rfl, w3, rfl, w5, w6, fun i hi => ⟨fp_at hi, fp_at hi⟩, rfl, rfl, w10, w11⟩, CK_c rfl rfl rfl rfl rfl xc1, CK_c rfl rfl rfl rfl rfl xc2, CK_c rfl rfl rfl rfl rfl xc3, CF_c rfl rfl rfl rfl rfl xcf, ⟨rfl, rfl, rfl, rfl, rfl, rfl, rfl, fun i hi => hb i (by have hi2 : i < m + 1 := hi; omega), b9, no_lt⟩, MD_c rfl rfl rfl rfl md0, rfl, no_lt, mk0, mk1, mi0, mi1⟩⟩
  · rw [hsay, if_neg (fun x => by
      have h2 := congrArg Int32.toInt x
      rw [nI_toInt (by omega)] at h2
      have e6 : (-6 : Int32).toInt = -6 := rfl
      omega), if_neg (nI_pos (by omega))]
    exact ⟨_, _, _, _, _, _, _, _, _, _, _, _, rfl, rfl, hI0⟩
