/-! ===== loops with a counter, in closed form ===== -/
theorem loopC {S R : Type} (L : Nat → Int32 → S → Option R) (m : Nat) (C : Nat → S) (hs : ∀ n k, k < m → L (n + 1) (nI k) (C k) = L n (nI (k + 1)) (C (k + 1))) :
    ∀ j k n, k + j = m → j ≤ n → L n (nI k) (C k) = L (n - j) (nI m) (C m) := by
  intro j
  induction j with
  | zero =>
    intro k n h _
    have : k = m := by omega
    subst this
    rfl
  | succ j ih =>
    intro k n h hn
    obtain ⟨n, rfl⟩ : ∃ n', n = n' + 1 := ⟨n - 1, by omega⟩
    rw [hs n k (by omega), ih (k + 1) n (by omega) (by omega)]
    congr 1
    omega
theorem andN (a b : Nat) : nI a &&& nI b = nI (a &&& b) := by
  apply Int32.toBitVec_inj.mp
  apply BitVec.eq_of_toNat_eq
  show (a % 2 ^ 32) &&& (b % 2 ^ 32) = (a &&& b) % 2 ^ 32
  rw [Nat.and_mod_two_pow]
theorem orN (a b : Nat) : nI a ||| nI b = nI (a ||| b) := by
  apply Int32.toBitVec_inj.mp
  apply BitVec.eq_of_toNat_eq
  show (a % 2 ^ 32) ||| (b % 2 ^ 32) = (a ||| b) % 2 ^ 32
  rw [Nat.or_mod_two_pow]
theorem and_lt {a b m : Nat} (h : a < m) : a &&& b < m := Nat.lt_of_le_of_lt Nat.and_le_left h
/-! ===== sets of draws as words ===== -/
def mk (p : Nat → Bool) : Nat → Nat
  | 0 => 0
  | n + 1 => mk p n + (if p n then 2 ^ n else 0)
theorem mk_succ (p : Nat → Bool) (n : Nat) : mk p (n + 1) = mk p n + (if p n then 2 ^ n else 0) := rfl
theorem mk_lt (p : Nat → Bool) : ∀ n, mk p n < 2 ^ n
  | 0 => Nat.zero_lt_one
  | n + 1 => by
    have h := mk_lt p n
    rw [mk_succ, Nat.pow_succ]
    split <;> omega
theorem mk_cong {p q : Nat → Bool} : ∀ {n : Nat}, (∀ k, k < n → p k = q k) → mk p n = mk q n
  | 0, _ => rfl
  | n + 1, h => by rw [mk_succ, mk_succ, mk_cong (fun k hk => h k (by omega)), h n (by omega)]
theorem mk_tb (p : Nat → Bool) : ∀ (n i : Nat), (mk p n).testBit i = (decide (i < n) && p i) := by
  intro n
  induction n with
  | zero => intro i; simp [mk]
  | succ n ih =>
    intro i
    have hl := mk_lt p n
    rw [mk_succ]
    by_cases hp : p n = true
    · rw [if_pos hp, ← Nat.or_two_pow_eq_add_of_lt hl, Nat.testBit_or, ih, Nat.testBit_two_pow]
      by_cases e : n = i
      · subst e; simp [hp]
      · have : (decide (i < n + 1)) = decide (i < n) := by
          apply decide_eq_decide.mpr
          omega
        rw [this]
        simp [e]
    · rw [if_neg hp, Nat.add_zero, ih]
      by_cases e : i = n
      · subst e; simp [hp]
      · have : (decide (i < n + 1)) = decide (i < n) := by
          apply decide_eq_decide.mpr
          omega
        rw [this]
theorem mk_or (p q : Nat → Bool) (n : Nat) : mk p n ||| mk q n = mk (fun k => p k || q k) n := by
  refine Nat.eq_of_testBit_eq fun i => ?_
  rw [Nat.testBit_or, mk_tb, mk_tb, mk_tb]
  cases decide (i < n) <;> simp
theorem mk_pc (p : Nat → Bool) {n : Nat} (h : n ≤ 64) : pc (mk p n) = fb_ct p n := by
  rw [show pc (mk p n) = fb_ct (fun i => (mk p n).testBit i) n from ct_big (mk_lt p n) h]
  refine fb_ct_cong fun k hk => ?_
  rw [mk_tb]
  simp [hk]
def wl (p : Nat → Bool) (dc : Nat) : Nat := mk p (min dc 64)
def wh (p : Nat → Bool) (dc : Nat) : Nat := mk (fun i => p (64 + i)) (dc - 64)
theorem wl_lt (p : Nat → Bool) (dc : Nat) : wl p dc < 2 ^ 64 := Nat.lt_of_lt_of_le (mk_lt _ _) (Nat.pow_le_pow_right (by decide) (Nat.min_le_right _ _))
theorem wh_lt (p : Nat → Bool) {dc : Nat} (h : dc ≤ 70) : wh p dc < 2 ^ 64 := Nat.lt_of_lt_of_le (mk_lt _ _) (Nat.pow_le_pow_right (by decide) (by omega))
theorem wl_or (p q : Nat → Bool) (dc : Nat) : lN (wl p dc) ||| lN (wl q dc) = lN (wl (fun k => p k || q k) dc) := by
  rw [wb_or (wl_lt _ _) (wl_lt _ _)]
  exact congrArg lN (mk_or _ _ _)
theorem wh_or (p q : Nat → Bool) {dc : Nat} (h : dc ≤ 70) : lN (wh p dc) ||| lN (wh q dc) = lN (wh (fun k => p k || q k) dc) := by
  rw [wb_or (wh_lt _ h) (wh_lt _ h)]
  exact congrArg lN (mk_or _ _ _)
theorem w_count (p : Nat → Bool) {dc : Nat} (h : dc ≤ 70) : pc (wl p dc) + pc (wh p dc) = fb_ct p dc := by
  unfold wl wh
  rw [mk_pc _ (Nat.min_le_right _ _), mk_pc _ (by omega)]
  rcases Nat.le_total dc 64 with q | q
  · rw [Nat.min_eq_left q, show dc - 64 = 0 by omega]
    rfl
  · rw [Nat.min_eq_right q]
    have e := fb_ct_split p 64 (dc - 64)
    rw [show 64 + (dc - 64) = dc by omega] at e
    exact e.symm
theorem wl_cong {p q : Nat → Bool} {dc : Nat} (h : ∀ k, k < dc → p k = q k) : wl p dc = wl q dc := mk_cong fun k hk => h k (Nat.lt_of_lt_of_le hk (Nat.min_le_left _ _))
theorem wh_cong {p q : Nat → Bool} {dc : Nat} (h : ∀ k, k < dc → p k = q k) : wh p dc = wh q dc := mk_cong fun k hk => h _ (by omega)
theorem wl_0 (p : Nat → Bool) : wl p 0 = 0 := rfl
theorem wh_0 (p : Nat → Bool) : wh p 0 = 0 := rfl
theorem w_none (dc : Nat) : wl (fun _ => false) dc = 0 ∧ wh (fun _ => false) dc = 0 := by
  have key : ∀ n, mk (fun _ => false) n = 0 := by
    intro n
    induction n with
    | zero => rfl
    | succ n ih => rw [mk_succ, ih]; rfl
  exact ⟨key _, key _⟩
theorem one_shl {k : Nat} (hk : k < 64) : (1 : Int64) <<< ((nI k).toInt64 &&& 63) = lN (2 ^ k) := by
  rw [show (1 : Int64) = lN 1 from rfl, wb_shl 1 hk, Nat.one_mul]
theorem wl_step (p : Nat → Bool) {k : Nat} (hk : k < 64) : wl p (k + 1) = wl p k + (if p k then 2 ^ k else 0) ∧ wh p (k + 1) = wh p k := by
  unfold wl wh
  rw [Nat.min_eq_left (by omega), Nat.min_eq_left (by omega), show k + 1 - 64 = 0 by omega, show k - 64 = 0 by omega]
  exact ⟨rfl, rfl⟩
theorem wh_step (p : Nat → Bool) {k : Nat} (hk : 64 ≤ k) : wl p (k + 1) = wl p k ∧ wh p (k + 1) = wh p k + (if p k then 2 ^ (k - 64) else 0) := by
  unfold wl wh
  rw [Nat.min_eq_right (by omega), Nat.min_eq_right (by omega), show k + 1 - 64 = (k - 64) + 1 by omega]
  have e := mk_succ (fun i => p (64 + i)) (k - 64)
  rw [show 64 + (k - 64) = k by omega] at e
  exact ⟨rfl, e⟩
theorem wl_add (p : Nat → Bool) {k : Nat} (hk : k < 64) (hp : p k = true) : lN (wl p k) ||| lN (2 ^ k) = lN (wl p (k + 1)) := by
  have hl : wl p k < 2 ^ k := by unfold wl; rw [Nat.min_eq_left (by omega)]; exact mk_lt _ _
  have h2 : 2 ^ k < 2 ^ 64 := wb_lt2 hk
  rw [wb_or (by omega) h2, Nat.or_two_pow_eq_add_of_lt hl, (wl_step p hk).1, if_pos hp]
theorem wh_add (p : Nat → Bool) {k : Nat} (hk : 64 ≤ k) (hk2 : k < 128) (hp : p k = true) : lN (wh p k) ||| lN (2 ^ (k - 64)) = lN (wh p (k + 1)) := by
  have hl : wh p k < 2 ^ (k - 64) := mk_lt _ _
  have h2 : 2 ^ (k - 64) < 2 ^ 64 := wb_lt2 (by omega)
  rw [wb_or (by omega) h2, Nat.or_two_pow_eq_add_of_lt hl, (wh_step p hk).2, if_pos hp]
/-! ===== the rows of the class ===== -/
theorem updL_same (f : Nat → Int64) (i : Nat) (x y : Int64) : vp_updL (vp_updL f i x) i y = vp_updL f i y := by
  funext j
  unfold vp_updL
  by_cases h : j = i
  · rw [if_pos h, if_pos h]
  · rw [if_neg h, if_neg h, if_neg h]
theorem Row_at_e {N i : Nat} {f : Nat → Int32} (hi : i < N) (hN : N < 2 ^ 31) : f_Row_at N f (nI i) = some (f i) := by
  unfold f_Row_at
  rw [if_neg (nI_pos (by omega)), if_neg (nI_ge hi hN), gd_i (vp_in_nI hi hN), nI_clamp (by omega)]
theorem Row_put_e {N i : Nat} {f : Nat → Int32} {x : Int32} (hi : i < N) (hN : N < 2 ^ 31) : f_Row_put N f (nI i) x = some (upd f i x) := by
  unfold f_Row_put
  rw [if_neg (nI_pos (by omega)), if_neg (nI_ge hi hN), gd_i (vp_in_nI hi hN), nI_clamp (by omega)]
theorem lowAt_e {N i : Nat} {f : Nat → Int64} (hi : i < N) (hN : N < 2 ^ 31) : f_DrawSets_lowAt N f (nI i) = some (f i) := by
  unfold f_DrawSets_lowAt
  rw [if_neg (nI_pos (by omega)), if_neg (nI_ge hi hN), gd_i (vp_in_nI hi hN), nI_clamp (by omega)]
theorem highAt_e {N i : Nat} {f : Nat → Int64} (hi : i < N) (hN : N < 2 ^ 31) : f_DrawSets_highAt N f (nI i) = some (f i) := by
  unfold f_DrawSets_highAt
  rw [if_neg (nI_pos (by omega)), if_neg (nI_ge hi hN), gd_i (vp_in_nI hi hN), nI_clamp (by omega)]
theorem dput_e {N i : Nat} {h g : Nat → Int64} {x y : Int64} (hi : i < N) (hN : N < 2 ^ 31) : f_DrawSets_put N h g (nI i) x y = some (vp_updL h i y, vp_updL g i x) := by
  unfold f_DrawSets_put
  rw [if_neg (nI_pos (by omega)), if_neg (nI_ge hi hN), if_neg (nI_ge hi hN), gd_i (vp_in_nI hi hN), gd_i (vp_in_nI hi hN), nI_clamp (by omega)]
theorem bk1_s {α δ : Type} (a : α) (k : α → Option δ) : bk1 (some a) k = k a := rfl
theorem bk2_s {α β δ : Type} (a : α) (b : β) (k : α → β → Option δ) : bk2 (some (a, b)) k = k a b := rfl
theorem bk3_s {α β γ δ : Type} (a : α) (b : β) (c : γ) (k : α → β → γ → Option δ) : bk3 (some (a, b, c)) k = k a b c := rfl
theorem bk4_s {α β γ ε δ : Type} (a : α) (b : β) (c : γ) (d : ε) (k : α → β → γ → ε → Option δ) : bk4 (some (a, b, c, d)) k = k a b c d := rfl
theorem Sets_at_e {i : Nat} {f : Nat → Int32} (hi : i < 70) : f_Sets_at f (nI i) = some (f i) := by
  unfold f_Sets_at
  rw [Row_at_e hi (by decide)]
  rfl
theorem count_e {N i dc : Nat} {h g : Nat → Int64} {p : Nat → Bool} (hi : i < N) (hN : N < 2 ^ 31) (hdc : dc ≤ 70) (hg : g i = lN (wl p dc)) (hh : h i = lN (wh p dc)) : f_DrawSets_count N h g (nI i) = some (nI (fb_ct p dc)) := by
  unfold f_DrawSets_count
  rw [lowAt_e hi hN, bk1_s, hg, bcL (wl_lt _ _), bk1_s, highAt_e hi hN, bk1_s, hh, bcL (wh_lt _ hdc), bk1_s, nI_add, w_count p hdc]
theorem clear_e {N i : Nat} {h g : Nat → Int64} (hi : i < N) (hN : N < 2 ^ 31) : f_DrawSets_clear N h g (nI i) = some (vp_updL h i 0, vp_updL g i 0) := by
  unfold f_DrawSets_clear
  rw [dput_e hi hN]
  rfl
theorem join_e {M N i j k dc : Nat} {h g h2 g2 : Nat → Int64} {p q : Nat → Bool} (hi : i < N) (hj : j < N) (hk : k < M) (hN : N < 2 ^ 31) (hM : M < 2 ^ 31) (hdc : dc ≤ 70) (e1 : g j = lN (wl p dc)) (e2 : h j = lN (wh p dc)) (e3 : g2 k = lN (wl q dc)) (e4 : h2 k = lN (wh q dc)) :
    f_DrawSets_join M N h2 g2 h g (nI i) (nI j) (nI k) = some (vp_updL h i (lN (wh (fun x => p x || q x) dc)), vp_updL g i (lN (wl (fun x => p x || q x) dc))) := by
  unfold f_DrawSets_join
  rw [lowAt_e hj hN, bk1_s, lowAt_e hk hM, bk1_s, highAt_e hj hN, bk1_s, highAt_e hk hM, bk1_s, e1, e2, e3, e4, wl_or, wh_or _ _ hdc, dput_e hi hN]
  rfl
/-- which draws a ticket wins -/
def pw (T r : Nat) (ds : Nat → Nat) : Nat → Bool := fun k => decide (r ≤ pc (T &&& ds k))
theorem pc_256 {a : Nat} (h : a < 256) : pc a < 2 ^ 31 := by have := pc_le a; omega
theorem markWon_e {N row T r dc : Nat} {hi lo : Nat → Int64} {cells : Nat → Int32} {ds : Nat → Nat} (hrow : row < N) (hN : N < 2 ^ 31) (hT : T < 256) (hr : r ≤ 8) (hdc : dc ≤ 70) (hc : ∀ k, k < dc → cells k = nI (ds k)) :
    f_Wheel_markWon N hi lo (nI dc) cells (nI row) (nI T) (nI r) = some (vp_updL hi row (lN (wh (pw T r ds) dc)), vp_updL lo row (lN (wl (pw T r ds) dc))) := by
  unfold f_Wheel_markWon
  rw [clear_e hrow hN, bk2_s]
  have key := loopC (fun n i (s : (Nat → Int64) × (Nat → Int64)) => L_Wheel_markWon_8 N (nI row) (nI T) (nI r) (nI dc) cells n i s.1 s.2) dc (fun k => (vp_updL hi row (lN (wh (pw T r ds) k)), vp_updL lo row (lN (wl (pw T r ds) k)))) ?_ dc 0 300 (by omega) (by omega)
  · dsimp only at key
    rw [wl_0, wh_0] at key
    rw [show (0 : Int32) = nI 0 from rfl, show (0 : Int64) = lN 0 from rfl, key, show 300 - dc = (299 - dc) + 1 by omega, L_Wheel_markWon_8]
    rw [show f_Sets_size (nI dc) = some (nI dc) from rfl, bk1_s, if_pos (nI_le (Nat.le_refl _) (by omega))]
    rfl
  · intro n k hk
    dsimp only
    rw [L_Wheel_markWon_8, show f_Sets_size (nI dc) = some (nI dc) from rfl, bk1_s, if_neg (nI_ge hk (by omega)), Sets_at_e (by omega), bk1_s, hc k hk, andN, bcI (and_lt hT), bk1_s, nI_1]
    have hp := pc_256 (and_lt (b := ds k) hT)
    by_cases hw : r ≤ pc (T &&& ds k)
    · have hpw : pw T r ds k = true := decide_eq_true hw
      rw [if_neg (nI_nlt hw hp)]
      unfold f_DrawSets_add
      rcases Nat.lt_or_ge k 64 with q | q
      · rw [if_neg (show ¬ (64 : Int32) ≤ nI k from nI_ge (a := k) (b := 64) q (by decide)), lowAt_e hrow hN, bk1_s, highAt_e hrow hN, bk1_s, one_shl q, dput_e hrow hN, bk2_s, bk2_s, updL_same, updL_same]
        rw [show vp_updL lo row (lN (wl (pw T r ds) k)) row = lN (wl (pw T r ds) k) from if_pos rfl, show vp_updL hi row (lN (wh (pw T r ds) k)) row = lN (wh (pw T r ds) k) from if_pos rfl, wl_add _ q hpw, (wl_step (pw T r ds) q).2]
      · rw [if_pos (show (64 : Int32) ≤ nI k from nI_le (a := 64) (b := k) q (by omega)), lowAt_e hrow hN, bk1_s, highAt_e hrow hN, bk1_s, show nI k - (64 : Int32) = nI (k - 64) from pk_sub (b := 64) q, one_shl (by omega), dput_e hrow hN, bk2_s, bk2_s, updL_same, updL_same]
        rw [show vp_updL lo row (lN (wl (pw T r ds) k)) row = lN (wl (pw T r ds) k) from if_pos rfl, show vp_updL hi row (lN (wh (pw T r ds) k)) row = lN (wh (pw T r ds) k) from if_pos rfl, wh_add _ q (by omega) hpw, (wh_step (pw T r ds) q).1]
    · have hpw : pw T r ds k = false := decide_eq_false hw
      rw [if_pos (nI_lt (by omega) (by omega))]
      rcases Nat.lt_or_ge k 64 with q | q
      · rw [(wl_step (pw T r ds) q).1, (wl_step (pw T r ds) q).2, hpw]
        rfl
      · rw [(wh_step (pw T r ds) q).1, (wh_step (pw T r ds) q).2, hpw]
        rfl
