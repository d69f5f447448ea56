/-- one choice more: the best so far (its worth and one, or 0) -/
def stp (v : List Nat → Nat) (b : Nat × Option (List Nat)) (c : List Nat) : Nat × Option (List Nat) := if b.1 ≤ v c then (v c + 1, some c) else b
theorem stp_skip (v : List Nat → Nat) : ∀ (L : List (List Nat)) (b : Nat × Option (List Nat)), (∀ c, c ∈ L → v c < b.1) → L.foldl (stp v) b = b
  | [], b, _ => rfl
  | c :: L, b, h => by
    rw [List.foldl_cons, show stp v b c = b from if_neg (Nat.not_le.mpr (h c List.mem_cons_self))]
    exact stp_skip v L b fun x hx => h x (List.mem_cons_of_mem _ hx)
theorem stp_le {v : List Nat → Nat} {M : Nat} (hv : ∀ c, v c ≤ M) : ∀ (L : List (List Nat)) (b : Nat × Option (List Nat)), b.1 ≤ M + 1 → (L.foldl (stp v) b).1 ≤ M + 1
  | [], b, h => h
  | c :: L, b, h => by
    rw [List.foldl_cons]
    refine stp_le hv L _ ?_
    have := hv c
    unfold stp
    split
    · exact Nat.succ_le_succ this
    · exact h
def up : Option (Nat × List Nat) → Nat × Option (List Nat)
  | none => (0, none)
  | some (w, l) => (w + 1, some l)
theorem bs_stp (g : Nat → Nat → Nat) : ∀ (L : List (List Nat)) (a : Option (Nat × List Nat)), up (L.foldl (bstep g) a) = L.foldl (stp (cval g)) (up a)
  | [], a => rfl
  | c :: L, a => by
    rw [List.foldl_cons, List.foldl_cons, bs_stp g L]
    congr 1
    cases a with
    | none => exact (if_pos (Nat.zero_le _)).symm
    | some x =>
      obtain ⟨w, l⟩ := x
      show up (if w < cval g c then some (cval g c, c) else some (w, l)) = if w + 1 ≤ cval g c then (cval g c + 1, some c) else (w + 1, some l)
      by_cases h : w < cval g c
      · rw [if_pos h]; exact (if_pos h).symm
      · rw [if_neg h]; exact (if_neg h).symm
theorem cval_le (g : Nat → Nat → Nat) (c : List Nat) : cval g c ≤ (Dr g).length := fb_ct_le _ _
theorem MS_up (g : Nat → Nat → Nat) (k : Nat) : (combs (Po g).length k 0).foldl (stp (cval g)) (0, none) = up (MS g k) := (bs_stp g _ none).symm
/-- the first that wins all -/
theorem fa_stp (g : Nat → Nat → Nat) : ∀ (L : List (List Nat)) (b : Nat × Option (List Nat)), b.1 ≤ (Dr g).length → (∀ c, L.find? (fun c => decide (cval g c = (Dr g).length)) = some c → L.foldl (stp (cval g)) b = ((Dr g).length + 1, some c)) ∧ (L.find? (fun c => decide (cval g c = (Dr g).length)) = none → (L.foldl (stp (cval g)) b).1 ≤ (Dr g).length ∧ (b.1 = (Dr g).length → L.foldl (stp (cval g)) b = b))
  | [], b, h => ⟨fun c hc => (by cases hc), fun _ => ⟨h, fun _ => rfl⟩⟩
  | x :: L, b, h => by
    by_cases e : cval g x = (Dr g).length
    · rw [List.find?_cons_of_pos (by simp [e]), List.foldl_cons]
      refine ⟨fun c hc => ?_, fun hc => (by cases hc)⟩
      injection hc with hc
      subst hc
      rw [show stp (cval g) b x = ((Dr g).length + 1, some x) from by
        unfold stp
        rw [e, if_pos h]]
      exact stp_skip _ _ _ fun c _ => Nat.lt_succ_of_le (cval_le g c)
    · have hx := cval_le g x
      have hb : (stp (cval g) b x).1 ≤ (Dr g).length := by
        unfold stp
        split
        · show cval g x + 1 ≤ (Dr g).length
          omega
        · exact h
      rw [List.find?_cons_of_neg (by simp [e]), List.foldl_cons]
      obtain ⟨i1, i2⟩ := fa_stp g L (stp (cval g) b x) hb
      refine ⟨i1, fun hc => ⟨(i2 hc).1, fun eb => ?_⟩⟩
      have es : stp (cval g) b x = b := if_neg (by omega)
      rw [es] at i2 ⊢
      exact (i2 hc).2 eb
theorem combs_step {m k i : Nat} (h : i < m) : combs m (k + 1) i = (combs m k (i + 1)).map (i :: ·) ++ combs m (k + 1) (i + 1) := by
  show (List.range' i (m - i)).flatMap _ = _ ++ (List.range' (i + 1) (m - (i + 1))).flatMap _
  rw [show m - i = (m - (i + 1)) + 1 by omega, List.range'_succ, List.flatMap_cons]
theorem combs_end {m k i : Nat} (h : m ≤ i) : combs m (k + 1) i = [] := by
  show (List.range' i (m - i)).flatMap _ = []
  rw [show m - i = 0 by omega]
  rfl
theorem combs_few : ∀ (j k m i : Nat), m - i = j → m < i + (k + 1) → combs m (k + 1) i = []
  | 0, k, m, i, h, _ => combs_end (by omega)
  | j + 1, 0, m, i, h, h2 => by omega
  | j + 1, k + 1, m, i, h, h2 => by
    rw [combs_step (show i < m by omega), combs_few j k m (i + 1) (by omega) (by omega), combs_few j (k + 1) m (i + 1) (by omega) (by omega)]
    rfl
theorem combs_mem : ∀ (k m i : Nat) (c : List Nat), c ∈ combs m k i → c.length = k ∧ ∀ x, x ∈ c → x < m
  | 0, m, i, c, h => by
    have : c = [] := List.mem_singleton.mp h
    subst this
    exact ⟨rfl, fun x hx => by cases hx⟩
  | k + 1, m, i, c, h => by
    have h' : c ∈ (List.range' i (m - i)).flatMap fun j => (combs m k (j + 1)).map (j :: ·) := h
    obtain ⟨j, hj, hc⟩ := List.mem_flatMap.mp h'
    obtain ⟨d, hd, e⟩ := List.mem_map.mp hc
    subst e
    obtain ⟨i1, i2⟩ := combs_mem k m (j + 1) d hd
    have := (List.mem_range'_1.mp hj)
    refine ⟨by rw [List.length_cons, i1], fun x hx => ?_⟩
    rcases List.mem_cons.mp hx with rfl | q
    · omega
    · exact i2 x q
theorem cov_app (g : Nat → Nat → Nat) (l c : List Nat) (x : Nat) : cov g (l ++ c) x = (cov g l x || cov g c x) := by
  unfold cov
  rw [List.any_append]
theorem cov_one (g : Nat → Nat → Nat) (j : Nat) : cov g [j] = pw (nth (Po g) j) (g 0 3) (nth (Dr g)) := by
  funext x
  unfold cov
  rw [List.any_cons, List.any_nil, Bool.or_false]
theorem cov_snoc (g : Nat → Nat → Nat) (l : List Nat) (j : Nat) : cov g (l ++ [j]) = fun x => cov g l x || pw (nth (Po g) j) (g 0 3) (nth (Dr g)) x := by
  funext x
  rw [cov_app, cov_one]
theorem ct_or_le (p q : Nat → Bool) (n : Nat) : fb_ct (fun x => p x || q x) n ≤ fb_ct p n + fb_ct q n := by
  rw [ct_diff]
  have : fb_ct (fun x => p x && !q x) n ≤ fb_ct p n := fb_ct_sub fun k _ h => (Bool.and_eq_true_iff.mp h).1
  omega
theorem cval_nil (g : Nat → Nat → Nat) : cval g [] = 0 := fb_ct_zero.mpr fun k _ => rfl
theorem cval_many {g : Nat → Nat → Nat} (hg : GV g) (l : List Nat) : ∀ (c : List Nat), (∀ x, x ∈ c → x < (Po g).length) → cval g c ≤ c.length * one g
  | [], _ => by rw [cval_nil]; exact Nat.zero_le _
  | x :: c, h => by
    have i1 := cval_many hg l c fun y hy => h y (List.mem_cons_of_mem _ hy)
    have e : cval g (x :: c) = fb_ct (fun y => cov g [x] y || cov g c y) (Dr g).length := fb_ct_cong fun y _ => cov_app g [x] c y
    have h2 := ct_or_le (cov g [x]) (cov g c) (Dr g).length
    have h3 : fb_ct (cov g [x]) (Dr g).length = one g := by rw [cov_one]; exact one_P hg (h x List.mem_cons_self)
    rw [e, List.length_cons, Nat.succ_mul]
    unfold cval at i1
    omega
theorem cval_app {g : Nat → Nat → Nat} (hg : GV g) (l c : List Nat) (h : ∀ x, x ∈ c → x < (Po g).length) : cval g (l ++ c) ≤ cval g l + c.length * one g := by
  have e : cval g (l ++ c) = fb_ct (fun y => cov g l y || cov g c y) (Dr g).length := fb_ct_cong fun y _ => cov_app g l c y
  have h2 := ct_or_le (cov g l) (cov g c) (Dr g).length
  have h3 := cval_many hg l c h
  rw [e]
  unfold cval at h3 ⊢
  omega
/-- what the search holds: the tickets chosen, the draws that they win, row by row; the best so far -/
def RC (g : Nat → Nat → Nat) (l : List Nat) (dep : Nat) (ch : Nat → Int32) (rh_ rl_ : Nat → Int64) : Prop := (∀ j, j < dep → ch j = nI (nth (Po g) (nth l j))) ∧ (∀ j, j ≤ dep → rl_ j = lN (wl (cov g (l.take j)) (Dr g).length) ∧ rh_ j = lN (wh (cov g (l.take j)) (Dr g).length))
def ST (g : Nat → Nat → Nat) (k : Nat) (b : Nat × Option (List Nat)) (found won : Int32) (tk : Nat → Int32) : Prop := b.1 ≤ (Dr g).length + 1 ∧ won = tI b.1 ∧ ((b.2 = none ∧ found = 0) ∨ ∃ l, b.2 = some l ∧ found = 1 ∧ ∀ i, i < k → tk i = nI (nth (Po g) (nth l i)))
theorem RC_down {g : Nat → Nat → Nat} {l : List Nat} {dep i : Nat} {ch : Nat → Int32} {rh_ rl_ : Nat → Int64} (hl : l.length = dep) (h : RC g (l ++ [i]) (dep + 1) ch rh_ rl_) : RC g l dep ch rh_ rl_ := by
  subst hl
  refine ⟨fun j hj => ?_, fun j hj => ?_⟩
  · have := h.1 j (by omega)
    rw [nth_app hj] at this
    exact this
  · have := h.2 j (by omega)
    rw [List.take_append_of_le_length hj] at this
    exact this
theorem RC_up {g : Nat → Nat → Nat} {l : List Nat} {dep i : Nat} {ch : Nat → Int32} {rh_ rl_ : Nat → Int64} (hl : l.length = dep) (h : RC g l dep ch rh_ rl_) : RC g (l ++ [i]) (dep + 1) (upd ch dep (nI (nth (Po g) i))) (vp_updL rh_ (dep + 1) (lN (wh (cov g (l ++ [i])) (Dr g).length))) (vp_updL rl_ (dep + 1) (lN (wl (cov g (l ++ [i])) (Dr g).length))) := by
  subst hl
  refine ⟨fun j hj => ?_, fun j hj => ?_⟩
  · by_cases e : j = l.length
    · subst e
      rw [pk_us, nth_last]
    · rw [pk_un e, nth_app (by omega)]
      exact h.1 j (by omega)
  · by_cases e : j = l.length + 1
    · subst e
      rw [pk_uLs, pk_uLs, List.take_of_length_le (by rw [List.length_append]; exact Nat.le_refl _)]
      exact ⟨rfl, rfl⟩
    · rw [pk_uLn e, pk_uLn e, List.take_append_of_le_length (by omega)]
      exact h.2 j (by omega)
theorem reach_e {g : Nat → Nat → Nat} {l : List Nat} {dep w : Nat} {ch : Nat → Int32} {rh_ rl_ : Nat → Int64} (hg : GV g) (hl : l.length = dep) (h : RC g l dep ch rh_ rl_) (hd : dep ≤ 4) (hw : w ≤ 4) : f_Search_couldReach (nI (Dr g).length) (nI (one g)) rh_ rl_ (nI dep) (nI w) = some (nI (min (cval g l + w * one g) (Dr g).length)) := by
  have hD := Dr_70 hg
  have h1 := one_le hg
  have h2 := cval_le g l
  have h3 : w * one g ≤ 4 * 70 := Nat.mul_le_mul hw (Nat.le_trans h1 hD)
  obtain ⟨q1, q2⟩ := h.2 dep (Nat.le_refl _)
  rw [List.take_of_length_le (by omega)] at q1 q2
  unfold f_Search_couldReach
  rw [count_e (show dep < 5 by omega) (by decide) hD q1 q2, bk1_s, pk_mul, nI_add]
  show some (if nI (cval g l + w * one g) < nI (Dr g).length then nI (cval g l + w * one g) else nI (Dr g).length) = _
  by_cases e : cval g l + w * one g < (Dr g).length
  · rw [if_pos (nI_lt e (by omega)), Nat.min_eq_left (Nat.le_of_lt e)]
  · rw [if_neg (nI_nlt (by omega) (by omega)), Nat.min_eq_right (by omega)]
theorem end_e {m w i : Nat} (hm : m ≤ 70) (hw : w ≤ 4) (hi : i ≤ 70) : nI m - nI w < nI i ↔ m < i + w := by
  rcases Nat.lt_or_ge m w with h | h
  · constructor
    · intro _; omega
    · intro _
      have h1 := pk_sneg (by omega) h
      rw [Int32.lt_iff_toInt_lt] at h1 ⊢
      rw [nI_toInt (by omega)]
      have e : (0 : Int32).toInt = 0 := rfl
      omega
  · rw [pk_sub h, nI_ltI (by omega) (by omega)]
    omega
theorem offer_e {g : Nat → Nat → Nat} {l : List Nat} {k dep : Nat} {b : Nat × Option (List Nat)} {found won : Int32} {tk ch : Nat → Int32} {rh_ rl_ : Nat → Int64} (hg : GV g) (hl : l.length = dep) (hk : dep = k) (hk4 : k ≤ 4) (h : RC g l dep ch rh_ rl_) (hs : ST g k b found won tk) : ∃ f' w' t', f_Search_offer found won tk ch rh_ rl_ (nI dep) = some (f', w', t') ∧ ST g k (stp (cval g) b l) f' w' t' := by
  have hD := Dr_70 hg
  have h2 := cval_le g l
  obtain ⟨q1, q2⟩ := h.2 dep (Nat.le_refl _)
  rw [List.take_of_length_le (by omega)] at q1 q2
  obtain ⟨s1, s2, s3⟩ := hs
  unfold f_Search_offer
  rw [count_e (show dep < 5 by omega) (by decide) hD q1 q2, bk1_s, s2]
  show ∃ f' w' t', (if nI (cval g l) ≤ tI b.1 then some (found, tI b.1, tk) else bk1 (f_Row_copyFrom 4 4 ch tk) fun w_3_0 => some ((1 : Int32), nI (cval g l), w_3_0)) = some (f', w', t') ∧ _
  by_cases e : cval g l < b.1
  · rw [if_pos ((tI_le (by omega) (by omega)).mpr e)]
    refine ⟨_, _, _, rfl, ?_⟩
    rw [show stp (cval g) b l = b from if_neg (by omega)]
    exact ⟨s1, rfl, s3⟩
  · rw [if_neg (fun x => e ((tI_le (by omega) (by omega)).mp x)), copy_e (by decide), bk1_s]
    refine ⟨_, _, _, rfl, ?_⟩
    rw [show stp (cval g) b l = (cval g l + 1, some l) from if_pos (by omega)]
    refine ⟨Nat.succ_le_succ h2, (nI_pred _).symm, Or.inr ⟨l, rfl, rfl, fun i hi => ?_⟩⟩
    rw [fp_at (by omega)]
    exact h.1 i (by omega)

/-- all choices behind those chosen: so much is still wanted -/
def CS (g : Nat → Nat → Nat) (pcs : Nat → Int32) (wph wpl : Nat → Int64) (w : Nat) (rc : Int32 → Int32 → (Nat → Int32) → Int32 → (Nat → Int32) → (Nat → Int64) → (Nat → Int64) → (Nat → Int64) → (Nat → Int64) → Int32 → Int32 → Int32 → (Nat → Int32) → Int32 → Int32 → Option ((Nat → Int32) × (Nat → Int64) × (Nat → Int64) × Int32 × Int32 × (Nat → Int32))) : Prop :=
  ∀ (k dep i : Nat) (l : List Nat) (ch : Nat → Int32) (rh_ rl_ : Nat → Int64) (b : Nat × Option (List Nat)) (found won : Int32) (tk : Nat → Int32), dep + w = k → k ≤ 4 → l.length = dep → i ≤ (Po g).length → RC g l dep ch rh_ rl_ → ST g k b found won tk → ∃ ch' rh' rl' f' w' t', rc (nI (Dr g).length) (nI (one g)) ch (nI (Po g).length) pcs rh_ rl_ wph wpl found (nI k) won tk (nI dep) (nI i) = some (ch', rh', rl', f', w', t') ∧ RC g l dep ch' rh' rl' ∧ ST g k (((combs (Po g).length w i).map (l ++ ·)).foldl (stp (cval g)) b) f' w' t'
theorem loop_e {g : Nat → Nat → Nat} {pcs : Nat → Int32} {wph wpl : Nat → Int64} {w : Nat} {rc : Int32 → Int32 → (Nat → Int32) → Int32 → (Nat → Int32) → (Nat → Int64) → (Nat → Int64) → (Nat → Int64) → (Nat → Int64) → Int32 → Int32 → Int32 → (Nat → Int32) → Int32 → Int32 → Option ((Nat → Int32) × (Nat → Int64) × (Nat → Int64) × Int32 × Int32 × (Nat → Int32))} (hg : GV g) (hpc : ∀ i, i < (Po g).length → pcs i = nI (nth (Po g) i)) (hpw : ∀ i, i < (Po g).length → wpl i = rl (Po g) (g 0 3) (Dr g) i ∧ wph i = rh (Po g) (g 0 3) (Dr g) i) (hrc : w = 0 ∨ CS g pcs wph wpl w rc) (k dep : Nat) (l : List Nat) (hk : dep + (w + 1) = k) (hk4 : k ≤ 4) (hl : l.length = dep) : ∀ (j i n : Nat) (ch : Nat → Int32) (rh_ rl_ : Nat → Int64) (b : Nat × Option (List Nat)) (found won : Int32) (tk : Nat → Int32), i + j = (Po g).length → j < n → RC g l dep ch rh_ rl_ → ST g k b found won tk →
    ∃ x ch' rh' rl' f' w' t', L_Search_choose_35 rc (nI dep) (nI (w + 1)) (nI (Po g).length - nI (w + 1)) (nI (Dr g).length) (nI (one g)) (nI (Po g).length) pcs wph wpl (nI k) n (nI i) ch rh_ rl_ found won tk = some (x, ch', rh', rl', f', w', t') ∧ RC g l dep ch' rh' rl' ∧ ST g k (((combs (Po g).length (w + 1) i).map (l ++ ·)).foldl (stp (cval g)) b) f' w' t' := by
  have hP := Po_70 hg
  have hD := Dr_70 hg
  intro j
  induction j with
  | zero =>
    intro i n ch rh_ rl_ b found won tk hij hn hr hs
    obtain ⟨n, rfl⟩ : ∃ n', n = n' + 1 := ⟨n - 1, by omega⟩
    rw [L_Search_choose_35, if_pos ((end_e hP (by omega) (by omega)).mpr (by omega)), combs_end (by omega)]
    exact ⟨_, _, _, _, _, _, _, rfl, hr, hs⟩
  | succ j ih =>
    intro i n ch rh_ rl_ b found won tk hij hn hr hs
    obtain ⟨n, rfl⟩ : ∃ n', n = n' + 1 := ⟨n - 1, by omega⟩
    rw [L_Search_choose_35]
    by_cases c1 : (Po g).length < i + (w + 1)
    · rw [if_pos ((end_e hP (by omega) (by omega)).mpr c1), combs_few _ _ _ _ rfl c1]
      exact ⟨_, _, _, _, _, _, _, rfl, hr, hs⟩
    · rw [if_neg (fun x => c1 ((end_e hP (by omega) (by omega)).mp x)), reach_e hg hl hr (by omega) (by omega), bk1_s]
      obtain ⟨s1, s2, s3⟩ := hs
      have hs : ST g k b found won tk := ⟨s1, s2, s3⟩
      rw [s2]
      by_cases c2 : min (cval g l + (w + 1) * one g) (Dr g).length < b.1
      · rw [if_pos ((tI_le (by omega) (by omega)).mpr c2), stp_skip]
        · rw [← s2]
          exact ⟨_, _, _, _, _, _, _, rfl, hr, hs⟩
        · intro c hc
          obtain ⟨d, hd, rfl⟩ := List.mem_map.mp hc
          obtain ⟨m1, m2⟩ := combs_mem _ _ _ _ hd
          have h1 := cval_app hg l d m2
          have h2 := cval_le g (l ++ d)
          rw [m1] at h1
          omega
      · have hi : i < (Po g).length := by omega
        obtain ⟨p1, p2⟩ := hpw i hi
        obtain ⟨q1, q2⟩ := hr.2 dep (Nat.le_refl _)
        rw [List.take_of_length_le (by omega)] at q1 q2
        have hr2 := RC_up (i := i) hl hr
        have hl2 : (l ++ [i]).length = dep + 1 := by rw [List.length_append, hl]; rfl
        rw [if_neg (fun x => c2 ((tI_le (by omega) (by omega)).mp x)), Sets_at_e (by omega), bk1_s, hpc i hi, Row_put_e (by omega) (by decide), bk1_s, nI_1, join_e (p := cov g l) (q := pw (nth (Po g) i) (g 0 3) (nth (Dr g))) (show dep + 1 < 5 by omega) (by omega) (show i < 70 by omega) (by decide) (by decide) hD q1 q2 p1 p2, bk2_s, ← cov_snoc, ← s2, nI_1]
        have go : ∀ b' f' w' t' ch' rh' rl', RC g (l ++ [i]) (dep + 1) ch' rh' rl' → ST g k b' f' w' t' → b' = ((combs (Po g).length w (i + 1)).map ((l ++ [i]) ++ ·)).foldl (stp (cval g)) b → ∃ x ch'' rh'' rl'' f'' w'' t'', L_Search_choose_35 rc (nI dep) (nI (w + 1)) (nI (Po g).length - nI (w + 1)) (nI (Dr g).length) (nI (one g)) (nI (Po g).length) pcs wph wpl (nI k) n (nI (i + 1)) ch' rh' rl' f' w' t' = some (x, ch'', rh'', rl'', f'', w'', t'') ∧ RC g l dep ch'' rh'' rl'' ∧ ST g k (((combs (Po g).length (w + 1) i).map (l ++ ·)).foldl (stp (cval g)) b) f'' w'' t'' := by
          intro b' f' w' t' ch' rh' rl' hr' hs' eb
          obtain ⟨x, a1, a2, a3, a4, a5, a6, z1, z2, z3⟩ := ih (i + 1) n ch' rh' rl' b' f' w' t' (by omega) (by omega) (RC_down hl hr') hs'
          refine ⟨x, a1, a2, a3, a4, a5, a6, z1, z2, ?_⟩
          rw [combs_step hi, List.map_append, List.foldl_append, List.map_map]
          rw [eb] at z3
          have e : (fun c => l ++ c) ∘ (fun c => i :: c) = fun c => (l ++ [i]) ++ c := by
            funext c
            show l ++ (i :: c) = (l ++ [i]) ++ c
            rw [List.append_assoc]
            rfl
          rw [e]
          exact z3
        by_cases c3 : w = 0
        · subst c3
          obtain ⟨f', w', t', o1, o2⟩ := offer_e hg hl2 (show dep + 1 = k by omega) hk4 hr2 hs
          rw [if_pos (show nI (0 + 1) = (1 : Int32) from rfl), o1, bk3_s]
          refine go _ _ _ _ _ _ _ hr2 o2 ?_
          show _ = (([[]] : List (List Nat)).map ((l ++ [i]) ++ ·)).foldl (stp (cval g)) b
          rw [List.map_cons, List.map_nil, List.foldl_cons, List.foldl_nil, List.append_nil]
        · have hcs := hrc.resolve_left c3
          obtain ⟨ch', rh', rl', f', w', t', o1, o2, o3⟩ := hcs k (dep + 1) (i + 1) (l ++ [i]) _ _ _ b found won tk (by omega) hk4 hl2 (by omega) hr2 hs
          rw [if_neg (show ¬ nI (w + 1) = (1 : Int32) from fun x => c3 (by have := (eq1 (show w + 1 < 2 ^ 31 by omega)).mp x; omega)), o1, bk6_s]
          exact go _ _ _ _ _ _ _ o2 o3 rfl
theorem choose_e {g : Nat → Nat → Nat} {pcs : Nat → Int32} {wph wpl : Nat → Int64} (hg : GV g) (hpc : ∀ i, i < (Po g).length → pcs i = nI (nth (Po g) i)) (hpw : ∀ i, i < (Po g).length → wpl i = rl (Po g) (g 0 3) (Dr g) i ∧ wph i = rh (Po g) (g 0 3) (Dr g) i) : ∀ (w e : Nat), CS g pcs wph wpl (w + 1) (f_Search_choose (w + 1 + e)) := by
  intro w
  induction w with
  | zero =>
    intro e k dep i l ch rh_ rl_ b found won tk hk hk4 hl hi hr hs
    have hP := Po_70 hg
    obtain ⟨x, a1, a2, a3, a4, a5, a6, z1, z2, z3⟩ := loop_e (rc := f_Search_choose (0 + e)) hg hpc hpw (Or.inl rfl) k dep l hk hk4 hl ((Po g).length - i) i 300 ch rh_ rl_ b found won tk (by omega) (by omega) hr hs
    rw [show 0 + 1 + e = (0 + e) + 1 by omega, f_Search_choose, pk_sub (by omega), show k - dep = 0 + 1 by omega, if_neg (show ¬ nI (0 + 1) < (1 : Int32) by decide), if_pos (show nI dep < (4 : Int32) from nI_lt (b := 4) (by omega) (by decide)), show f_Sets_size (nI (Po g).length) = some (nI (Po g).length) from rfl, bk1_s, z1, bk7_s]
    exact ⟨_, _, _, _, _, _, rfl, z2, z3⟩
  | succ w ih =>
    intro e k dep i l ch rh_ rl_ b found won tk hk hk4 hl hi hr hs
    have hP := Po_70 hg
    obtain ⟨x, a1, a2, a3, a4, a5, a6, z1, z2, z3⟩ := loop_e (rc := f_Search_choose (w + 1 + e)) hg hpc hpw (Or.inr (ih e)) k dep l hk hk4 hl ((Po g).length - i) i 300 ch rh_ rl_ b found won tk (by omega) (by omega) hr hs
    rw [show w + 1 + 1 + e = (w + 1 + e) + 1 by omega, f_Search_choose, pk_sub (by omega), show k - dep = w + 1 + 1 by omega, if_neg (show ¬ nI (w + 1 + 1) < (1 : Int32) from nI_nlt (b := 1) (by omega) (by omega)), if_pos (show nI dep < (4 : Int32) from nI_lt (b := 4) (by omega) (by decide)), show f_Sets_size (nI (Po g).length) = some (nI (Po g).length) from rfl, bk1_s, z1, bk7_s]
    exact ⟨_, _, _, _, _, _, rfl, z2, z3⟩
/-- a whole search -/
theorem search_e {g : Nat → Nat → Nat} {pcs : Nat → Int32} {wph wpl : Nat → Int64} (hg : GV g) (hpc : ∀ i, i < (Po g).length → pcs i = nI (nth (Po g) i)) (hpw : ∀ i, i < (Po g).length → wpl i = rl (Po g) (g 0 3) (Dr g) i ∧ wph i = rh (Po g) (g 0 3) (Dr g) i) {k : Nat} (h1 : 1 ≤ k) (h4 : k ≤ 4) {b : Nat} (hb : b ≤ (Dr g).length) {won : Int32} (hw : won = tI b) (ch tk : Nat → Int32) {rh_ rl_ : Nat → Int64} (z0 : rh_ 0 = 0) (z1 : rl_ 0 = 0) :
    ∃ ch' rh' rl' f' w' t', f_Search_choose 6 (nI (Dr g).length) (nI (one g)) ch (nI (Po g).length) pcs rh_ rl_ wph wpl 0 (nI k) won tk 0 0 = some (ch', rh', rl', f', w', t') ∧ rh' 0 = 0 ∧ rl' 0 = 0 ∧ ST g k ((combs (Po g).length k 0).foldl (stp (cval g)) (b, none)) f' w' t' := by
  obtain ⟨w, rfl⟩ : ∃ w, k = w + 1 := ⟨k - 1, by omega⟩
  have hn : wl (cov g ([].take 0)) (Dr g).length = 0 ∧ wh (cov g ([].take 0)) (Dr g).length = 0 := w_none _
  have hr : RC g [] 0 ch rh_ rl_ := ⟨no_lt, fun j hj => by
    have : j = 0 := by omega
    subst this
    rw [hn.1, hn.2, z0, z1]
    exact ⟨rfl, rfl⟩⟩
  obtain ⟨ch', rh', rl', f', w', t', o1, o2, o3⟩ := choose_e hg hpc hpw w (5 - w) (w + 1) 0 0 [] ch rh_ rl_ (b, none) 0 won tk (by omega) h4 rfl (Nat.zero_le _) hr ⟨Nat.le_succ_of_le hb, hw, Or.inl ⟨rfl, rfl⟩⟩
  rw [show w + 1 + (5 - w) = 6 by omega] at o1
  obtain ⟨q1, q2⟩ := o2.2 0 (Nat.le_refl _)
  rw [hn.1] at q1
  rw [hn.2] at q2
  refine ⟨ch', rh', rl', f', w', t', o1, q2, q1, ?_⟩
  have e : (combs (Po g).length (w + 1) 0).map (fun c => ([] : List Nat) ++ c) = combs (Po g).length (w + 1) 0 := by
    rw [show (fun c : List Nat => [] ++ c) = id from rfl, List.map_id]
  rw [e] at o3
  exact o3
