theorem loopK {S R : Type} (L : Nat → Int32 → S → Option R) (k0 m : Nat) (C : Nat → S) (hs : ∀ n k, k0 ≤ k → k < m → L (n + 1) (nI k) (C k) = L n (nI (k + 1)) (C (k + 1))) :
    ∀ j k n, k0 ≤ k → k + j = m → j ≤ n → L n (nI k) (C k) = L (n - j) (nI m) (C m) := by
  intro j
  induction j with
  | zero =>
    intro k n _ h _
    have : k = m := by omega
    subst this
    rfl
  | succ j ih =>
    intro k n h0 h hn
    obtain ⟨n, rfl⟩ : ∃ n', n = n' + 1 := ⟨n - 1, by omega⟩
    rw [hs n k h0 (by omega), ih (k + 1) n (by omega) (by omega) (by omega)]
    congr 1
    omega
/-! ===== the reference's rows, and both sides' tables ===== -/
theorem gdN {α : Type} {i n : Nat} {k : Option α} (h : i < n) (hn : n < 2 ^ 31) : gd (nI i) n k = k := gd_i (vp_in_nI h hn)
theorem wins_e {T d r : Nat} (hT : T < 256) (hr : r ≤ 8) : f_Model_wins (nI r) (nI T) (nI d) = some (if r ≤ pc (T &&& d) then 1 else 0) := by
  unfold f_Model_wins
  have hl := and_lt (b := d) hT
  have hp := pc_256 hl
  rw [andN, onesI (by omega), bk1_s]
  by_cases h : r ≤ pc (T &&& d)
  · rw [if_neg (nI_nlt h hp), if_pos h]
  · rw [if_pos (nI_lt (by omega) (by omega)), if_neg h]
theorem lor0 (x : Nat) (h : x < 2 ^ 64) : lN x ||| (0 : Int64) = lN x := by
  rw [show (0 : Int64) = lN 0 from rfl, wb_or h (by decide), Nat.or_zero]
theorem lowOf_e {T r dc : Nat} {cells : Nat → Int32} {ds : Nat → Nat} (hT : T < 256) (hr : r ≤ 8) (hdc : dc ≤ 70) (hc : ∀ k, k < dc → cells k = nI (ds k)) :
    f_Model_lowOf (nI dc) (nI r) cells (nI T) = some (lN (wl (pw T r ds) dc)) := by
  unfold f_Model_lowOf
  have key := loopC (fun n i (s : Int64) => L_Model_lowOf_5 (nI T) (nI dc) (nI r) cells n s i) (min dc 64) (fun k => lN (wl (pw T r ds) k)) ?_ (min dc 64) 0 300 (by omega) (by omega)
  · rw [wl_0] at key
    rw [show (0 : Int32) = nI 0 from rfl, show (0 : Int64) = lN 0 from rfl, key, show 300 - min dc 64 = (299 - min dc 64) + 1 by omega, L_Model_lowOf_5]
    have e : wl (pw T r ds) (min dc 64) = wl (pw T r ds) dc := by
      unfold wl
      congr 1
      omega
    rcases Nat.le_total dc 64 with q | q
    · rw [Nat.min_eq_left q, if_pos (nI_le (Nat.le_refl _) (by omega))]
      rfl
    · rw [e, Nat.min_eq_right q]
      by_cases h : nI dc ≤ nI 64
      · rw [if_pos h]; rfl
      · rw [if_neg h, if_pos (show (64 : Int32) ≤ nI 64 from nI_le (a := 64) (Nat.le_refl _) (by decide))]; rfl
  · intro n k hk
    have hk1 : k < dc := by omega
    have hk2 : k < 64 := by omega
    rw [L_Model_lowOf_5, if_neg (nI_ge hk1 (by omega)), if_neg (show ¬ (64 : Int32) ≤ nI k from nI_ge (a := k) (b := 64) hk2 (by decide)), gdN (by omega) (by decide), nI_clamp (by omega), hc k hk1, wins_e hT hr, bk1_s, nI_1]
    by_cases h : r ≤ pc (T &&& ds k)
    · have hp : pw T r ds k = true := decide_eq_true h
      rw [if_pos h, if_neg (by decide), one_shl hk2, wl_add _ hk2 hp]
    · have hp : pw T r ds k = false := decide_eq_false h
      rw [if_neg h, if_pos rfl, lor0 _ (wl_lt _ _), (wl_step (pw T r ds) hk2).1, hp]
      rfl
theorem highOf_e {T r dc : Nat} {cells : Nat → Int32} {ds : Nat → Nat} (hT : T < 256) (hr : r ≤ 8) (hdc : dc ≤ 70) (hc : ∀ k, k < dc → cells k = nI (ds k)) :
    f_Model_highOf (nI dc) (nI r) cells (nI T) = some (lN (wh (pw T r ds) dc)) := by
  unfold f_Model_highOf
  rcases Nat.le_total dc 64 with q | q
  · rw [show (300 : Nat) = 299 + 1 from rfl, L_Model_highOf_6, if_pos (show nI dc ≤ (64 : Int32) from nI_le (b := 64) q (by decide)), bk2_s]
    unfold wh
    rw [show dc - 64 = 0 by omega]
    rfl
  · have key := loopK (fun n i (s : Int64) => L_Model_highOf_6 (nI T) (nI dc) (nI r) cells n s i) 64 dc (fun k => lN (wh (pw T r ds) k)) ?_ (dc - 64) 64 300 (by omega) (by omega) (by omega)
    · rw [show wh (pw T r ds) 64 = 0 from rfl] at key
      rw [show (64 : Int32) = nI 64 from rfl, show (0 : Int64) = lN 0 from rfl, key, show 300 - (dc - 64) = (299 - (dc - 64)) + 1 by omega, L_Model_highOf_6, if_pos (nI_le (Nat.le_refl _) (by omega))]
      rfl
    · intro n k hk0 hk
      rw [L_Model_highOf_6, if_neg (nI_ge hk (by omega)), gdN (by omega) (by decide), nI_clamp (by omega), hc k hk, wins_e hT hr, bk1_s, nI_1]
      by_cases h : r ≤ pc (T &&& ds k)
      · have hp : pw T r ds k = true := decide_eq_true h
        rw [if_pos h, if_neg (by decide), show nI k - (64 : Int32) = nI (k - 64) from pk_sub (b := 64) hk0, one_shl (by omega), wh_add _ hk0 (by omega) hp]
      · have hp : pw T r ds k = false := decide_eq_false h
        rw [if_neg h, if_pos rfl, lor0 _ (wh_lt _ (by omega)), (wh_step (pw T r ds) hk0).2, hp]
        rfl
/-- both enumerations of the reference at once -/
theorem findA_e {n t d : Nat} {od os : Nat → Int32} (hn : n ≤ 8) (ht : t ≤ 8) (hd : d ≤ 8) :
    L_Model_findAll_12 (nI d) (nI n) (nI t) 300 (0 : Int32) (0 : Int32) (0 : Int32) od os = some (nI (2 ^ n), nI (sets d 0 (2 ^ n)).length, nI (sets t 0 (2 ^ n)).length, aL (sets d 0 (2 ^ n)) od, aL (sets t 0 (2 ^ n)) os) := by
  have hp := pow_256 hn
  have key := loopC (fun k i (s : Int32 × Int32 × (Nat → Int32) × (Nat → Int32)) => L_Model_findAll_12 (nI d) (nI n) (nI t) k i s.1 s.2.1 s.2.2.1 s.2.2.2) (2 ^ n) (fun k => (nI (sets d 0 k).length, nI (sets t 0 k).length, aL (sets d 0 k) od, aL (sets t 0 k) os)) ?_ (2 ^ n) 0 300 (by omega) (by omega)
  · dsimp only at key
    rw [show sets d 0 0 = [] from rfl, show sets t 0 0 = [] from rfl, aL_nil, aL_nil] at key
    refine Eq.trans key ?_
    rw [show 300 - 2 ^ n = (299 - 2 ^ n) + 1 by omega, L_Model_findAll_12, shlN hn, if_pos (nI_le (Nat.le_refl _) (by omega))]
  · intro m k hk
    dsimp only
    have hk256 : k < 256 := by omega
    have hlen : ∀ e, e ≤ 8 → hs e 0 k = true → (sets e 0 k).length < 70 := by
      intro e he hh
      have := sets_70 (e := e) (fo := 0) (b := k + 1) he (by omega)
      rw [sets_succ, if_pos hh, List.length_append, List.length_singleton] at this
      omega
    have hh : ∀ e, (hs e 0 k = true ↔ pc k = e) := by
      intro e
      unfold hs
      simp
    have hne : ∀ e, e ≤ 8 → (nI (pc k) = nI e ↔ pc k = e) := fun e he => nI_eq (pc_256 hk256) (by omega)
    have hl31 : ∀ e, e ≤ 8 → (sets e 0 k).length < 2 ^ 31 := fun e he => Nat.lt_of_le_of_lt (sets_70 he (by omega)) (by decide)
    rw [L_Model_findAll_12, shlN hn, if_neg (nI_ge hk (by omega)), onesI (by omega), bk1_s, nI_1, sets_succ, sets_succ]
    by_cases h1 : pc k = d
    · rw [if_pos (by rw [h1]), if_pos ((hh d).mpr h1), gdN (hlen d hd ((hh d).mpr h1)) (by decide), bk1_s, nI_clamp (hl31 d hd), aL_push, nI_1]
      by_cases h2 : pc k = t
      · rw [if_pos (by rw [h2]), if_pos ((hh t).mpr h2), gdN (hlen t ht ((hh t).mpr h2)) (by decide), nI_clamp (hl31 t ht), aL_push, nI_1, List.length_append, List.length_append, List.length_singleton]
      · rw [if_neg (fun h => h2 ((hne t ht).mp h)), if_neg (fun h => h2 ((hh t).mp h)), List.append_nil, List.length_append, List.length_singleton]
    · rw [if_neg (fun h => h1 ((hne d hd).mp h)), if_neg (fun h => h1 ((hh d).mp h)), bk1_s, List.append_nil]
      by_cases h2 : pc k = t
      · rw [if_pos (by rw [h2]), if_pos ((hh t).mpr h2), gdN (hlen t ht ((hh t).mpr h2)) (by decide), nI_clamp (hl31 t ht), aL_push, nI_1, List.length_append, List.length_singleton]
      · rw [if_neg (fun h => h2 ((hne t ht).mp h)), if_neg (fun h => h2 ((hh t).mp h)), List.append_nil]
