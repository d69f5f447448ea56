/-- the first best by a value; the number beside it is one more than the best -/
def BB (f : Nat → Nat) : Nat → Nat × Nat
  | 0 => (0, 0)
  | k + 1 => if f k < (BB f k).2 then BB f k else (k, f k + 1)
def tI (s : Nat) : Int32 := nI s - 1
theorem tI_le {w s : Nat} (hw : w < 2 ^ 31) (hs : s < 2 ^ 31) : nI w ≤ tI s ↔ w < s := by
  cases s with
  | zero =>
    constructor
    · intro h
      rw [Int32.le_iff_toInt_le, nI_toInt hw] at h
      have e : (tI 0).toInt = -1 := rfl
      omega
    · intro h; omega
  | succ s =>
    unfold tI
    rw [nI_pred, nI_leI hw (by omega)]
    omega
theorem BB_pos (f : Nat → Nat) (k : Nat) : (BB f (k + 1)).1 < k + 1 ∧ (BB f (k + 1)).2 = f (BB f (k + 1)).1 + 1 := by
  induction k with
  | zero => exact ⟨Nat.zero_lt_one, rfl⟩
  | succ k ih =>
    show (if f (k + 1) < (BB f (k + 1)).2 then BB f (k + 1) else (k + 1, f (k + 1) + 1)).1 < k + 1 + 1 ∧ (if f (k + 1) < (BB f (k + 1)).2 then BB f (k + 1) else (k + 1, f (k + 1) + 1)).2 = f (if f (k + 1) < (BB f (k + 1)).2 then BB f (k + 1) else (k + 1, f (k + 1) + 1)).1 + 1
    by_cases h : f (k + 1) < (BB f (k + 1)).2
    · rw [if_pos h]
      exact ⟨by omega, ih.2⟩
    · rw [if_neg h]
      exact ⟨Nat.lt_succ_self _, rfl⟩
theorem BB_le (f : Nat → Nat) {m : Nat} (h : ∀ k, f k ≤ m) : ∀ k, (BB f k).2 ≤ m + 1
  | 0 => Nat.zero_le _
  | k + 1 => by
    show (if f k < (BB f k).2 then BB f k else (k, f k + 1)).2 ≤ m + 1
    split
    · exact BB_le f h k
    · exact Nat.succ_le_succ (h k)
/-- how many draws are won by those at hand and one more -/
def cw (p : Nat → Bool) (P : List Nat) (r : Nat) (D : List Nat) (j : Nat) : Nat := fb_ct (fun x => p x || pw (nth P j) r (nth D) x) D.length
theorem cw_le (p : Nat → Bool) (P : List Nat) (r : Nat) (D : List Nat) (j : Nat) : cw p P r D j ≤ D.length := fb_ct_le _ _
theorem best_e {r : Nat} {p : Nat → Bool} {P D : List Nat} {wph wpl : Nat → Int64} (hP : P.length ≤ 70) (hD : D.length ≤ 70) (hw : ∀ i, i < P.length → wpl i = rl P r D i ∧ wph i = rh P r D i) :
    ∀ (j k n : Nat) (oh ol : Nat → Int64), k + j = P.length → j < n → ol 0 = lN (wl p D.length) → oh 0 = lN (wh p D.length) → ∃ oh' ol', L_Wheel_bestBeside_12 (nI P.length) wph wpl n (nI (BB (cw p P r D) k).1) (tI (BB (cw p P r D) k).2) (nI k) oh ol = some (nI (BB (cw p P r D) P.length).1, tI (BB (cw p P r D) P.length).2, nI P.length, oh', ol') := by
  intro j
  induction j with
  | zero =>
    intro k n oh ol hk hn h1 h2
    obtain ⟨n, rfl⟩ : ∃ n', n = n' + 1 := ⟨n - 1, by omega⟩
    have : k = P.length := by omega
    subst this
    rw [L_Wheel_bestBeside_12, show f_Sets_size (nI P.length) = some (nI P.length) from rfl, bk1_s, if_pos (nI_le (Nat.le_refl _) (by omega))]
    exact ⟨_, _, rfl⟩
  | succ j ih =>
    intro k n oh ol hk hn h1 h2
    obtain ⟨n, rfl⟩ : ∃ n', n = n' + 1 := ⟨n - 1, by omega⟩
    have hc := cw_le p P r D k
    have hb := BB_le (cw p P r D) (cw_le p P r D) k
    obtain ⟨q1, q2⟩ := hw k (by omega)
    rw [L_Wheel_bestBeside_12, show f_Sets_size (nI P.length) = some (nI P.length) from rfl, bk1_s, if_neg (nI_ge (by omega) (by omega)), show (1 : Int32) = nI 1 from rfl, show (0 : Int32) = nI 0 from rfl, join_e (p := p) (q := pw (nth P k) r (nth D)) (by decide) (by decide) (show k < 70 by omega) (by decide) (by decide) hD h1 h2 q1 q2, bk2_s, count_e (p := fun x => p x || pw (nth P k) r (nth D) x) (by decide) (by decide) hD (if_pos rfl) (if_pos rfl), bk1_s, bk1_s, nI_add k 1, show fb_ct (fun x => p x || pw (nth P k) r (nth D) x) D.length = cw p P r D k from rfl]
    have e0 : ∀ (z : Int64), vp_updL ol 1 z 0 = ol 0 := fun z => if_neg (by decide)
    have e1 : ∀ (z : Int64), vp_updL oh 1 z 0 = oh 0 := fun z => if_neg (by decide)
    have hB : BB (cw p P r D) (k + 1) = if cw p P r D k < (BB (cw p P r D) k).2 then BB (cw p P r D) k else (k, cw p P r D k + 1) := rfl
    by_cases h : cw p P r D k < (BB (cw p P r D) k).2
    · rw [if_pos ((tI_le (show cw p P r D k < 2 ^ 31 by omega) (by omega)).mpr h)]
      rw [if_pos h] at hB
      rw [← hB]
      exact ih (k + 1) n _ _ (by omega) (by omega) ((e0 _).trans h1) ((e1 _).trans h2)
    · rw [if_neg (fun x => h ((tI_le (show cw p P r D k < 2 ^ 31 by omega) (by omega)).mp x))]
      rw [if_neg h] at hB
      have i1 := ih (k + 1) n (vp_updL oh 1 (lN (wh (fun x => p x || pw (nth P k) r (nth D) x) D.length))) (vp_updL ol 1 (lN (wl (fun x => p x || pw (nth P k) r (nth D) x) D.length))) (by omega) (by omega) ((e0 _).trans h1) ((e1 _).trans h2)
      rw [hB, show tI (k, cw p P r D k + 1).2 = nI (cw p P r D k) from nI_pred _] at i1
      exact i1
theorem beside_e {c r : Nat} {tk : Nat → Nat} {P D : List Nat} {whh whl wph wpl oh ol : Nat → Int64} (T : Int32) (hc : c ≤ 6) (hP : P.length ≤ 70) (hD : D.length ≤ 70) (hw : ∀ i, i < c → whl i = tl tk r D i ∧ whh i = th tk r D i) (hp : ∀ i, i < P.length → wpl i = rl P r D i ∧ wph i = rh P r D i) :
    ∃ oh' ol', f_Wheel_bestBeside (nI c) (nI P.length) whh whl wph wpl oh ol T = some (nI (BB (cw (un (inS T) tk r D c) P r D) P.length).1, oh', ol') := by
  unfold f_Wheel_bestBeside
  rw [joinHeld_e T hc hD hw, bk2_s]
  obtain ⟨oh', ol', z⟩ := best_e (p := un (inS T) tk r D c) hP hD hp P.length 0 300 (vp_updL oh 0 (lN (wh (un (inS T) tk r D c) D.length))) (vp_updL ol 0 (lN (wl (un (inS T) tk r D c) D.length))) (by omega) (by omega) (if_pos rfl) (if_pos rfl)
  rw [show nI (BB (cw (un (inS T) tk r D c) P r D) 0).1 = (0 : Int32) from rfl, show tI (BB (cw (un (inS T) tk r D c) P r D) 0).2 = (-1 : Int32) from rfl, show nI 0 = (0 : Int32) from rfl] at z
  rw [z]
  exact ⟨_, _, rfl⟩
theorem cwith_e {c r j : Nat} {tk : Nat → Nat} {P D : List Nat} {whh whl wph wpl oh ol : Nat → Int64} (T : Int32) (hc : c ≤ 6) (hP : P.length ≤ 70) (hD : D.length ≤ 70) (hj : j < P.length) (hw : ∀ i, i < c → whl i = tl tk r D i ∧ whh i = th tk r D i) (hp : ∀ i, i < P.length → wpl i = rl P r D i ∧ wph i = rh P r D i) :
    ∃ oh' ol', f_Wheel_countWonWith (nI c) whh whl wph wpl oh ol T (nI j) = some (nI (cw (un (inS T) tk r D c) P r D j), oh', ol') := by
  unfold f_Wheel_countWonWith
  obtain ⟨q1, q2⟩ := hp j hj
  rw [joinHeld_e T hc hD hw, bk2_s, show (1 : Int32) = nI 1 from rfl, show (0 : Int32) = nI 0 from rfl, join_e (p := un (inS T) tk r D c) (q := pw (nth P j) r (nth D)) (by decide) (by decide) (show j < 70 by omega) (by decide) (by decide) hD (if_pos rfl) (if_pos rfl) q1 q2, bk2_s, count_e (p := fun x => un (inS T) tk r D c x || pw (nth P j) r (nth D) x) (by decide) (by decide) hD (if_pos rfl) (if_pos rfl), bk1_s]
  exact ⟨_, _, rfl⟩
/-- the reference's own list: places of those that hold all of a set -/
def CL (S : List Nat) (fo : Nat) : Nat → List Nat
  | 0 => []
  | k + 1 => CL S fo k ++ (if nth S k &&& fo = fo then [k] else [])
theorem CL_len (S : List Nat) (fo : Nat) : ∀ k, (CL S fo k).length ≤ k
  | 0 => Nat.le_refl _
  | k + 1 => by
    have := CL_len S fo k
    show (CL S fo k ++ (if nth S k &&& fo = fo then [k] else [])).length ≤ k + 1
    rw [List.length_append]
    split
    · show _ + 1 ≤ _; omega
    · show _ + 0 ≤ _; omega
theorem CL_lt (S : List Nat) (fo : Nat) : ∀ k, ∀ x, x ∈ CL S fo k → x < k
  | 0, x, h => by cases h
  | k + 1, x, h => by
    have h' : x ∈ CL S fo k ++ (if nth S k &&& fo = fo then [k] else []) := h
    rw [List.mem_append] at h'
    rcases h' with h' | h'
    · have := CL_lt S fo k x h'; omega
    · split at h'
      · have := List.mem_singleton.mp h'; omega
      · cases h'
theorem CL_map (S : List Nat) (fo : Nat) : ∀ k, k ≤ S.length → (CL S fo k).map (nth S) = (S.take k).filter (fun x => decide (fo &&& x = fo))
  | 0, _ => rfl
  | k + 1, h => by
    show (CL S fo k ++ (if nth S k &&& fo = fo then [k] else [])).map (nth S) = _
    rw [List.map_append, CL_map S fo k (by omega), List.take_add_one, List.filter_append]
    congr 1
    have e : S[k]? = some (nth S k) := by unfold nth; rw [List.getElem?_eq_getElem (by omega)]; rfl
    rw [e]
    by_cases q : nth S k &&& fo = fo
    · rw [if_pos q]
      show [nth S k] = [nth S k].filter _
      rw [List.filter_cons_of_pos (by rw [Nat.and_comm]; exact decide_eq_true q)]
      rfl
    · rw [if_neg q]
      show [] = [nth S k].filter _
      rw [List.filter_cons_of_neg (by rw [Nat.and_comm]; simpa using q)]
      rfl
theorem Po_Se (g : Nat → Nat → Nat) : Po g = (Se g).filter (fun x => decide (g 0 4 &&& x = g 0 4)) := by
  unfold Po Se sets
  rw [List.filter_filter]
  apply List.filter_congr
  intro x _
  unfold hs
  rw [show decide (0 &&& x = 0) = true from decide_eq_true (Nat.zero_and x), Bool.and_true, Bool.and_comm]
theorem CL_Po (g : Nat → Nat → Nat) : (CL (Se g) (g 0 4) (Se g).length).map (nth (Se g)) = Po g := by
  rw [CL_map _ _ _ (Nat.le_refl _), List.take_length, Po_Se]
def cl (g : Nat → Nat → Nat) : List Nat := CL (Se g) (g 0 4) (Se g).length
theorem cl_len (g : Nat → Nat → Nat) : (cl g).length = (Po g).length := by rw [← CL_Po g, List.length_map]; rfl
theorem cl_at (g : Nat → Nat → Nat) {k : Nat} (h : k < (Po g).length) : nth (cl g) k < (Se g).length ∧ nth (Se g) (nth (cl g) k) = nth (Po g) k := by
  have hk : k < (cl g).length := by rw [cl_len]; exact h
  refine ⟨CL_lt _ _ _ _ (nth_mem hk), ?_⟩
  have e : nth (Po g) k = nth ((cl g).map (nth (Se g))) k := by rw [show (cl g).map (nth (Se g)) = Po g from CL_Po g]
  rw [e]
  unfold nth
  rw [List.getElem?_map, List.getElem?_eq_getElem hk]
  rfl
theorem Se_70 {g : Nat → Nat → Nat} (hg : GV g) : (Se g).length ≤ 70 := sets_70 (by have := hg.2.1; have := hg.2.2.2.1; omega) (pow_256 hg.2.1)
theorem Po_70 {g : Nat → Nat → Nat} (hg : GV g) : (Po g).length ≤ 70 := sets_70 (by have := hg.2.1; have := hg.2.2.2.1; omega) (pow_256 hg.2.1)
theorem could_e {g : Nat → Nat → Nat} {sc old : Nat → Int32} (hg : GV g) (hs : ∀ i, i < (Se g).length → sc i = nI (nth (Se g) i)) : f_Model_findCould (nI (g 0 4)) (nI (Se g).length) old sc = some (nI (Po g).length, aL (cl g) old) := by
  have hS := Se_70 hg
  have hf : g 0 4 < 256 := Nat.lt_of_lt_of_le hg.2.2.2.2.2.2.2.2.2.1 (pow_256 hg.2.1)
  unfold f_Model_findCould
  have key := loopC (fun n i (s : Int32 × (Nat → Int32)) => L_Model_findCould_7 (nI (g 0 4)) (nI (Se g).length) sc n i s.1 s.2) (Se g).length (fun k => (nI (CL (Se g) (g 0 4) k).length, aL (CL (Se g) (g 0 4) k) old)) ?_ (Se g).length 0 300 (by omega) (by omega)
  · dsimp only at key
    rw [show CL (Se g) (g 0 4) 0 = [] from rfl, aL_nil, show nI ([] : List Nat).length = nI 0 from rfl] at key
    rw [show (0 : Int32) = nI 0 from rfl, key, show 300 - (Se g).length = (299 - (Se g).length) + 1 by omega, L_Model_findCould_7, if_pos (nI_le (Nat.le_refl _) (by omega)), bk3_s, ← cl_len]
    rfl
  · intro n k hk
    dsimp only
    have hl := CL_len (Se g) (g 0 4) k
    rw [L_Model_findCould_7, if_neg (nI_ge hk (by omega)), nI_1, gdN (by omega) (by decide), nI_clamp (by omega), hs k hk, andN]
    have hx : nth (Se g) k < 256 := sets_lt hg.2.1 hk
    have hE : CL (Se g) (g 0 4) (k + 1) = CL (Se g) (g 0 4) k ++ (if nth (Se g) k &&& g 0 4 = g 0 4 then [k] else []) := rfl
    by_cases q : nth (Se g) k &&& g 0 4 = g 0 4
    · rw [if_pos (congrArg nI q), gdN (by omega) (by decide), nI_clamp (by omega), nI_1, aL_push, hE, if_pos q, List.length_append]
      rfl
    · rw [if_neg (fun e => q ((nI_eq (Nat.lt_trans (and_lt hx) (by decide)) (by omega)).mp e)), hE, if_neg q, List.append_nil]
theorem wonWith_e {S D : List Nat} {r i : Nat} {p : Nat → Bool} {whi wlo : Nat → Int64} (hi : i < S.length) (hS : S.length ≤ 70) (hD : D.length ≤ 70) (hw : ∀ i, i < S.length → wlo i = rl S r D i ∧ whi i = rh S r D i) :
    f_Model_wonWith whi wlo (nI i) (lN (wl p D.length)) (lN (wh p D.length)) = some (nI (cw p S r D i)) := by
  obtain ⟨q1, q2⟩ := hw i hi
  unfold f_Model_wonWith
  rw [gdN (by omega) (by decide), nI_clamp (by omega), q1, q2]
  unfold rl rh
  rw [wl_or p, onesL (wl_lt _ _), bk1_s, gdN (by omega) (by decide), wh_or p _ hD, onesL (wh_lt _ hD), bk1_s, nI_add, w_count _ hD]
  rfl

def pick (P : List Nat) (b : Nat × Nat) : Int32 := if b.2 = 0 then -6 else nI (nth P b.1)
theorem mmore_e {g : Nat → Nat → Nat} {p : Nat → Bool} {could sc : Nat → Int32} {whi wlo : Nat → Int64} (hg : GV g) (hc : ∀ k, k < (Po g).length → could k = nI (nth (cl g) k)) (hs : ∀ i, i < (Se g).length → sc i = nI (nth (Se g) i)) (hw : ∀ i, i < (Se g).length → wlo i = rl (Se g) (g 0 3) (Dr g) i ∧ whi i = rh (Se g) (g 0 3) (Dr g) i) :
    L_Model_more_31 (nI (Po g).length) (lN (wh p (Dr g).length)) (lN (wl p (Dr g).length)) could sc whi wlo 300 (-6) (-1) 0 = some (pick (Po g) (BB (cw p (Po g) (g 0 3) (Dr g)) (Po g).length), tI (BB (cw p (Po g) (g 0 3) (Dr g)) (Po g).length).2, nI (Po g).length) := by
  have hS := Se_70 hg
  have hP := Po_70 hg
  have hD := Dr_70 hg
  have key := loopC (fun n i (s : Int32 × Int32) => L_Model_more_31 (nI (Po g).length) (lN (wh p (Dr g).length)) (lN (wl p (Dr g).length)) could sc whi wlo n s.1 s.2 i) (Po g).length (fun k => (pick (Po g) (BB (cw p (Po g) (g 0 3) (Dr g)) k), tI (BB (cw p (Po g) (g 0 3) (Dr g)) k).2)) ?_ (Po g).length 0 300 (by omega) (by omega)
  · dsimp only at key
    rw [show pick (Po g) (BB (cw p (Po g) (g 0 3) (Dr g)) 0) = (-6 : Int32) from rfl, show tI (BB (cw p (Po g) (g 0 3) (Dr g)) 0).2 = (-1 : Int32) from rfl] at key
    rw [show (0 : Int32) = nI 0 from rfl, key, show 300 - (Po g).length = (299 - (Po g).length) + 1 by omega, L_Model_more_31, if_pos (nI_le (Nat.le_refl _) (by omega))]
  · intro n k hk
    dsimp only
    obtain ⟨c1, c2⟩ := cl_at g hk
    have hcw : cw p (Se g) (g 0 3) (Dr g) (nth (cl g) k) = cw p (Po g) (g 0 3) (Dr g) k := by unfold cw; rw [c2]
    have h1 := cw_le p (Po g) (g 0 3) (Dr g) k
    have h2 := BB_le (cw p (Po g) (g 0 3) (Dr g)) (cw_le p (Po g) (g 0 3) (Dr g)) k
    rw [L_Model_more_31, if_neg (nI_ge hk (by omega)), nI_1, gdN (by omega) (by decide), nI_clamp (by omega), hc k hk, wonWith_e c1 hS hD hw, bk1_s, hcw, gdN (by omega) (by decide), gdN (by omega) (by decide), nI_clamp (by omega), hs _ c1, c2]
    have hB : BB (cw p (Po g) (g 0 3) (Dr g)) (k + 1) = if cw p (Po g) (g 0 3) (Dr g) k < (BB (cw p (Po g) (g 0 3) (Dr g)) k).2 then BB (cw p (Po g) (g 0 3) (Dr g)) k else (k, cw p (Po g) (g 0 3) (Dr g) k + 1) := rfl
    by_cases h : cw p (Po g) (g 0 3) (Dr g) k < (BB (cw p (Po g) (g 0 3) (Dr g)) k).2
    · have h' := (tI_le (show cw p (Po g) (g 0 3) (Dr g) k < 2 ^ 31 by omega) (by omega)).mpr h
      rw [if_pos h', if_pos h', hB, if_pos h]
    · have h' := fun x => h ((tI_le (show cw p (Po g) (g 0 3) (Dr g) k < 2 ^ 31 by omega) (by omega)).mp x)
      rw [if_neg h', if_neg h', hB, if_neg h, show tI (k, cw p (Po g) (g 0 3) (Dr g) k + 1).2 = nI (cw p (Po g) (g 0 3) (Dr g) k) from nI_pred _]
      rfl

set_option maxHeartbeats 4000000 in
theorem st_more : St_more Inv := by
  intro v_x_pad_size v_x_pad_signs_cells v_x_play_n v_x_play_t v_x_play_d v_x_play_r v_x_play_fond v_x_play_ticketCount v_x_play_sightCount v_x_play_tickets_cells v_x_play_prizes_cells v_x_play_sightTickets_cells v_x_play_sightNumbers_cells v_x_play_sightKinds_cells v_x_wheel_held v_x_wheel_draws_size v_x_wheel_draws_members_cells v_x_wheel_possible_size v_x_wheel_possible_members_cells v_x_wheel_wonByPossible_low v_x_wheel_wonByPossible_high v_x_wheel_wonByHeld_low v_x_wheel_wonByHeld_high v_x_wheel_work_low v_x_wheel_work_high v_x_wheel_search_allDraws v_x_wheel_search_single v_x_wheel_search_reached_low v_x_wheel_search_reached_high v_x_wheel_search_chosen_cells v_x_wheel_search_mostOne_size v_x_wheel_search_mostOne_won v_x_wheel_search_mostOne_found v_x_wheel_search_mostOne_sought v_x_wheel_search_mostOne_tickets_cells v_x_wheel_search_mostTwo_size v_x_wheel_search_mostTwo_won v_x_wheel_search_mostTwo_found v_x_wheel_search_mostTwo_sought v_x_wheel_search_mostTwo_tickets_cells v_x_wheel_search_mostThree_size v_x_wheel_search_mostThree_won v_x_wheel_search_mostThree_found v_x_wheel_search_mostThree_sought v_x_wheel_search_mostThree_tickets_cells v_x_wheel_search_fewest_size v_x_wheel_search_fewest_won v_x_wheel_search_fewest_found v_x_wheel_search_fewest_sought v_x_wheel_search_fewest_tickets_cells v_x_imageZero_kept v_x_imageZero_play_n v_x_imageZero_play_t v_x_imageZero_play_d v_x_imageZero_play_r v_x_imageZero_play_fond v_x_imageZero_play_ticketCount v_x_imageZero_play_sightCount v_x_imageZero_play_tickets_cells v_x_imageZero_play_prizes_cells v_x_imageZero_play_sightTickets_cells v_x_imageZero_play_sightNumbers_cells v_x_imageZero_play_sightKinds_cells v_x_imageOne_kept v_x_imageOne_play_n v_x_imageOne_play_t v_x_imageOne_play_d v_x_imageOne_play_r v_x_imageOne_play_fond v_x_imageOne_play_ticketCount v_x_imageOne_play_sightCount v_x_imageOne_play_tickets_cells v_x_imageOne_play_prizes_cells v_x_imageOne_play_sightTickets_cells v_x_imageOne_play_sightNumbers_cells v_x_imageOne_play_sightKinds_cells v_m_numbers v_m_onTicket v_m_drawn v_m_due v_m_ticketMany v_m_fond v_m_sights v_m_drawMany v_m_setMany v_m_padMany v_m_low v_m_high v_m_couldMany v_m_keptAt v_m_isWriting v_m_tickets v_m_prizes v_m_sightTicket v_m_sightRight v_m_sightHow v_m_draws v_m_sets v_m_winsLow v_m_winsHigh v_m_pad v_m_could v_m_row v_m_best v_m_kept v_m_isKept p0 hI
  have hI0 := hI
  obtain ⟨g, g0, g1, pad, pn, k0, k1, hG, hG0, hG1, hk0, hk1, hpn, hpad, xpn, xpad, xpl, xk0, xi0, xk1, xi1, xw, xc1, xc2, xc3, xcf, mpl, md, mpn, mpad, mk0, mk1, mi0, mi1⟩ := hI
  have xpl0 := xpl
  have mpl0 := mpl
  have xw0 := xw
  have md0 := md
  obtain ⟨a1, a2, a3, a4, a5, a6, a7, a8, a9, a10⟩ := xpl
  obtain ⟨b1, b2, b3, b4, b5, b6, b7, b8, b9, b10⟩ := mpl
  obtain ⟨w1, w2, w3, w4, w5, w6, w7, w8, w9, w10, w11⟩ := xw
  obtain ⟨d1, d2, d3, d4, d5⟩ := md
  have hGV := hG
  obtain ⟨e1, e2, e3, e4, e5, e6, e7, e8, e9, e10, e11, e12, e13, e14, e15, e16⟩ := hGV
  subst xpn
  subst mpn
  subst xk0
  subst xk1
  subst a1
  subst a2
  subst a3
  subst a4
  subst a5
  subst a6
  subst a7
  subst b1
  subst b2
  subst b3
  subst b4
  subst b5
  subst b6
  subst b7
  subst w1
  subst w2
  subst w4
  subst w8
  subst w9
  subst d1
  subst d2
  have hD : (Dr g).length ≤ 70 := Dr_70 hG
  have hP := Po_70 hG
  have hP0 := Po_ne hG
  have htk : ∀ i, i < g 0 5 → v_m_tickets i = nI (g 1 i) ∧ g 1 i < 256 := fun i hi => ⟨b8 i hi, e14 i hi⟩
  unfold f_Main_more f_Model_more
  have hall : f_Wheel_allTickets (nI (g 0 5)) = some (nI (2 ^ g 0 5 - 1)) := congrArg some (allN (by omega))
  rw [show (0 : Int64) = (0 : Int32).toInt64 from rfl, show (1 : Int64) = (1 : Int32).toInt64 from rfl, in_e]
  rcases within_c p0 0 1 with ⟨w, -⟩ | ⟨w, -⟩
  · obtain ⟨o1, o2, z1⟩ := beside_e (oh := v_x_wheel_work_high) (ol := v_x_wheel_work_low) (nI (2 ^ g 0 5 - 1)) e12 hP hD w7 w6
    rw [w, bk1_s, bk1_s, if_neg (show ¬ (1 : Int32) = 0 by decide), if_neg (show ¬ (1 : Int32) = 0 by decide), hall, bk1_s, z1, bk3_s, could_e hG d4, bk2_s, flagsBut_e (-6) e12 (by omega) hD htk d3, bk2_s, mmore_e hG (fun k hk => aL_at (by rw [cl_len]; exact hk)) d4 d5, bk3_s, un_all e12]
    obtain ⟨m, hm⟩ : ∃ m, (Po g).length = m + 1 := ⟨(Po g).length - 1, by omega⟩
    obtain ⟨q1, q2⟩ := BB_pos (cw (un (butS (-6)) (g 1) (g 0 3) (Dr g) (g 0 5)) (Po g) (g 0 3) (Dr g)) m
    rw [← hm] at q1 q2
    have hpick : pick (Po g) (BB (cw (un (butS (-6)) (g 1) (g 0 3) (Dr g) (g 0 5)) (Po g) (g 0 3) (Dr g)) (Po g).length) = nI (nth (Po g) (BB (cw (un (butS (-6)) (g 1) (g 0 3) (Dr g) (g 0 5)) (Po g) (g 0 3) (Dr g)) (Po g).length).1) := if_neg (by omega)
    by_cases h : p0 = 0
    · rw [if_pos h, if_pos h, Sets_at_e (by omega), bk1_s, w5 _ q1, hpick]
      exact ⟨_, _, _, _, _, _, _, rfl, rfl, hI0⟩
    · obtain ⟨o3, o4, z2⟩ := cwith_e (oh := o1) (ol := o2) (nI (2 ^ g 0 5 - 1)) e12 hP hD q1 w7 w6
      rw [if_neg h, if_neg h, z2, bk3_s, un_all e12, q2, show tI (cw (un (butS (-6)) (g 1) (g 0 3) (Dr g) (g 0 5)) (Po g) (g 0 3) (Dr g) (BB (cw (un (butS (-6)) (g 1) (g 0 3) (Dr g) (g 0 5)) (Po g) (g 0 3) (Dr g)) (Po g).length).1 + 1) = nI (cw (un (butS (-6)) (g 1) (g 0 3) (Dr g) (g 0 5)) (Po g) (g 0 3) (Dr g) (BB (cw (un (butS (-6)) (g 1) (g 0 3) (Dr g) (g 0 5)) (Po g) (g 0 3) (Dr g)) (Po g).length).1) from nI_pred _]
      exact ⟨_, _, _, _, _, _, _, rfl, rfl, hI0⟩
  · rw [w]
    exact ⟨_, _, _, _, _, _, _, rfl, rfl, hI0⟩
