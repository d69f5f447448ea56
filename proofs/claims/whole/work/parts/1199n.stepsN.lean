/-- a stretch of a row as a list; all choices from one on -/
def Lst (a : Nat → Nat) (p n : Nat) : List Nat := (List.range' p n).map a
theorem Lst_cons (a : Nat → Nat) (p n : Nat) : Lst a p (n + 1) = a p :: Lst a (p + 1) n := by
  unfold Lst
  rw [List.range'_succ, List.map_cons]
theorem Lst_len (a : Nat → Nat) (p n : Nat) : (Lst a p n).length = n := by
  unfold Lst
  rw [List.length_map, List.length_range']
theorem Lst_cong {a a' : Nat → Nat} : ∀ (n p : Nat), (∀ j, p ≤ j → j < p + n → a j = a' j) → Lst a p n = Lst a' p n
  | 0, p, h => rfl
  | n + 1, p, h => by
    rw [Lst_cons, Lst_cons, h p (Nat.le_refl _) (by omega), Lst_cong n (p + 1) fun j h1 h2 => h j (by omega) (by omega)]
theorem Lst_snoc (a : Nat → Nat) : ∀ (n p : Nat), Lst a p (n + 1) = Lst a p n ++ [a (p + n)]
  | 0, p => rfl
  | n + 1, p => by
    rw [Lst_cons, Lst_snoc a n (p + 1), Lst_cons, show p + 1 + n = p + (n + 1) by omega]
    rfl
theorem Lst_up (c : Nat) : ∀ (n p : Nat), Lst (fun j => c + (j - p)) p n = List.range' c n
  | 0, p => rfl
  | n + 1, p => by
    rw [Lst_cons, List.range'_succ, ← Lst_up (c + 1) n (p + 1), show c + (p - p) = c by omega]
    congr 1
    exact Lst_cong _ _ fun j h1 h2 => by omega
theorem nth_cons (x : Nat) (l : List Nat) (j : Nat) : nth (x :: l) (j + 1) = nth l j := rfl
theorem nth_Lst (a : Nat → Nat) : ∀ (n p j : Nat), j < n → nth (Lst a p n) j = a (p + j)
  | 0, p, j, h => absurd h (Nat.not_lt_zero j)
  | n + 1, p, 0, h => by rw [Lst_cons]; rfl
  | n + 1, p, j + 1, h => by
    rw [Lst_cons, nth_cons, nth_Lst a n (p + 1) j (by omega), show p + 1 + j = p + (j + 1) by omega]
def rest (m : Nat) : List Nat → List (List Nat)
  | [] => [[]]
  | a :: l => (rest m l).map (a :: ·) ++ combs m (l.length + 1) (a + 1)
theorem rest_first (m : Nat) : ∀ (k i : Nat), i + k ≤ m → combs m k i = rest m (List.range' i k)
  | 0, i, h => rfl
  | k + 1, i, h => by
    rw [combs_step (show i < m by omega), rest_first m k (i + 1) (by omega), List.range'_succ]
    show _ = (rest m (List.range' (i + 1) k)).map (i :: ·) ++ combs m ((List.range' (i + 1) k).length + 1) (i + 1)
    rw [List.length_range']
theorem rest_full {m k : Nat} {a : Nat → Nat} (hk : k ≤ m) : ∀ (d p : Nat), p + d = k → (∀ j, p ≤ j → j < k → a j = m - k + j) → rest m (Lst a p d) = [Lst a p d]
  | 0, p, h, _ => rfl
  | d + 1, p, h, hf => by
    rw [Lst_cons]
    show (rest m (Lst a (p + 1) d)).map (a p :: ·) ++ combs m ((Lst a (p + 1) d).length + 1) (a p + 1) = _
    have := hf p (Nat.le_refl _) (by omega)
    rw [rest_full hk d (p + 1) (by omega) fun j h1 h2 => hf j (by omega) h2, Lst_len, combs_few _ _ _ _ rfl (by omega)]
    rfl
/-- the next row: one more at a place, then one after the other -/
def nx (a : Nat → Nat) (p : Nat) : Nat → Nat := fun j => if j < p then a j else a p + 1 + (j - p)
theorem rest_next {m k p : Nat} {a : Nat → Nat} (hk : k ≤ m) (hp : p < k) (hlt : a p < m - k + p) (hf : ∀ j, p < j → j < k → a j = m - k + j) : ∀ (t q : Nat), q + t = p → rest m (Lst a q (k - q)) = Lst a q (k - q) :: rest m (Lst (nx a p) q (k - q))
  | 0, q, h => by
    have e : q = p := h
    subst e
    obtain ⟨d, hd⟩ : ∃ d, k - q = d + 1 := ⟨k - q - 1, by omega⟩
    have e2 : Lst (nx a q) q (d + 1) = List.range' (a q + 1) (d + 1) := by
      rw [← Lst_up (a q + 1) (d + 1) q]
      exact Lst_cong _ _ fun j h1 h2 => if_neg (by omega)
    rw [hd, e2, Lst_cons, ← rest_first m (d + 1) (a q + 1) (by omega)]
    show (rest m (Lst a (q + 1) d)).map (a q :: ·) ++ combs m ((Lst a (q + 1) d).length + 1) (a q + 1) = _
    rw [rest_full hk d (q + 1) (by omega) fun j h1 h2 => hf j (by omega) h2, Lst_len]
    rfl
  | t + 1, q, h => by
    obtain ⟨d, hd⟩ : ∃ d, k - q = d + 1 := ⟨k - q - 1, by omega⟩
    have i1 := rest_next hk hp hlt hf t (q + 1) (by omega)
    rw [show k - (q + 1) = d by omega] at i1
    rw [hd, Lst_cons, Lst_cons, show nx a p q = a q from if_pos (by omega)]
    show (rest m (Lst a (q + 1) d)).map (a q :: ·) ++ combs m ((Lst a (q + 1) d).length + 1) (a q + 1) = _ :: ((rest m (Lst (nx a p) (q + 1) d)).map (a q :: ·) ++ combs m ((Lst (nx a p) (q + 1) d).length + 1) (a q + 1))
    rw [i1, Lst_len, Lst_len]
    rfl
/-- how many choices there are -/
def rows4 : Nat → Nat × Nat × Nat × Nat
  | 0 => (0, 0, 0, 0)
  | n + 1 => ((rows4 n).1 + 1, (rows4 n).2.1 + (rows4 n).1, (rows4 n).2.2.1 + (rows4 n).2.1, (rows4 n).2.2.2 + (rows4 n).2.2.1)
theorem combs_len (m : Nat) : ∀ (j i : Nat), i + j = m → (combs m 1 i).length = (rows4 j).1 ∧ (combs m 2 i).length = (rows4 j).2.1 ∧ (combs m 3 i).length = (rows4 j).2.2.1 ∧ (combs m 4 i).length = (rows4 j).2.2.2
  | 0, i, h => by
    rw [combs_end (show m ≤ i by omega), combs_end (show m ≤ i by omega), combs_end (show m ≤ i by omega), combs_end (show m ≤ i by omega)]
    exact ⟨rfl, rfl, rfl, rfl⟩
  | j + 1, i, h => by
    obtain ⟨i1, i2, i3, i4⟩ := combs_len m j (i + 1) (by omega)
    have hi : i < m := by omega
    rw [combs_step hi, combs_step hi, combs_step hi, combs_step hi]
    simp only [List.length_append, List.length_map, i1, i2, i3, i4]
    have e0 : (combs m 0 (i + 1)).length = 1 := rfl
    rw [e0]
    refine ⟨?_, ?_, ?_, ?_⟩
    · show _ = (rows4 j).1 + 1
      omega
    · show _ = (rows4 j).2.1 + (rows4 j).1
      omega
    · show _ = (rows4 j).2.2.1 + (rows4 j).2.1
      omega
    · show _ = (rows4 j).2.2.2 + (rows4 j).2.2.1
      omega
theorem rows4_mono : ∀ (t n : Nat), (rows4 n).1 ≤ (rows4 (n + t)).1 ∧ (rows4 n).2.1 ≤ (rows4 (n + t)).2.1 ∧ (rows4 n).2.2.1 ≤ (rows4 (n + t)).2.2.1 ∧ (rows4 n).2.2.2 ≤ (rows4 (n + t)).2.2.2
  | 0, n => ⟨Nat.le_refl _, Nat.le_refl _, Nat.le_refl _, Nat.le_refl _⟩
  | t + 1, n => by
    obtain ⟨i1, i2, i3, i4⟩ := rows4_mono t n
    refine ⟨Nat.le_trans i1 ?_, Nat.le_trans i2 ?_, Nat.le_trans i3 ?_, Nat.le_trans i4 ?_⟩
    · exact Nat.le_add_right _ _
    · exact Nat.le_add_right _ _
    · exact Nat.le_add_right _ _
    · exact Nat.le_add_right _ _
theorem rows4_70 : rows4 70 = (70, 2415, 54740, 916895) := by decide +kernel
theorem combs_many {m k : Nat} (hm : m ≤ 70) (h1 : 1 ≤ k) (h4 : k ≤ 4) : (combs m k 0).length < 999999 := by
  obtain ⟨i1, i2, i3, i4⟩ := combs_len m m 0 (Nat.zero_add m)
  obtain ⟨j1, j2, j3, j4⟩ := rows4_mono (70 - m) m
  rw [show m + (70 - m) = 70 by omega, rows4_70] at j1 j2 j3 j4
  rcases (show k = 1 ∨ k = 2 ∨ k = 3 ∨ k = 4 by omega) with rfl | rfl | rfl | rfl
  · rw [i1]; exact Nat.lt_of_le_of_lt j1 (by decide)
  · rw [i2]; exact Nat.lt_of_le_of_lt j2 (by decide)
  · rw [i3]; exact Nat.lt_of_le_of_lt j3 (by decide)
  · rw [i4]; exact Nat.lt_of_le_of_lt j4 (by decide)
/-- the reference's row -/
def RW (m k : Nat) (a : Nat → Nat) (row : Nat → Int32) : Prop := ∀ j, j < k → row j = nI (a j) ∧ a j ≤ m - k + j
theorem down_e {m k : Nat} {a : Nat → Nat} {row : Nat → Int32} (hm : m ≤ 70) (hk : k ≤ m) (hk4 : k ≤ 4) (hr : RW m k a row) : ∀ (t n : Nat), t ≤ k → t < n → (∀ j, t ≤ j → j < k → a j = m - k + j) → ∃ s, L_Model_nextRow_4 (nI k) row (nI m) n (tI t) = some (tI s) ∧ ((s = 0 ∧ ∀ j, j < k → a j = m - k + j) ∨ ∃ p, s = p + 1 ∧ p < k ∧ a p < m - k + p ∧ ∀ j, p < j → j < k → a j = m - k + j) := by
  intro t
  induction t with
  | zero =>
    intro n _ hn hf
    obtain ⟨n, rfl⟩ : ∃ n', n = n' + 1 := ⟨n - 1, by omega⟩
    rw [L_Model_nextRow_4, if_pos (show tI 0 < (0 : Int32) by decide)]
    exact ⟨0, rfl, Or.inl ⟨rfl, fun j hj => hf j (Nat.zero_le _) hj⟩⟩
  | succ t ih =>
    intro n ht hn hf
    obtain ⟨n, rfl⟩ : ∃ n', n = n' + 1 := ⟨n - 1, by omega⟩
    obtain ⟨r1, r2⟩ := hr t (by omega)
    have et : tI (t + 1) = nI t := nI_pred t
    rw [L_Model_nextRow_4, et, if_neg (nI_pos (by omega)), gdN (by omega) (by decide), nI_clamp (by omega), r1, pk_sub hk, nI_add]
    by_cases c : a t = m - k + t
    · rw [if_pos ((nI_eq (by omega) (by omega)).mpr c)]
      have e : nI t + (-1 : Int32) = tI t := by
        unfold tI
        rw [Int32.sub_eq_add_neg]
      rw [e]
      exact ih n (by omega) (by omega) fun j h1 h2 => by
        by_cases e : j = t
        · rw [e]; exact c
        · exact hf j (by omega) h2
    · rw [if_neg (fun x => c ((nI_eq (by omega) (by omega)).mp x))]
      exact ⟨t + 1, by rw [et], Or.inr ⟨t, rfl, by omega, by omega, fun j h1 h2 => hf j (by omega) h2⟩⟩
theorem lay_e {k c p : Nat} (hk4 : k ≤ 4) (hc : c ≤ 70) : ∀ (j s n : Nat) (row : Nat → Int32), s + j = k → p < s → j < n → (∀ i, p ≤ i → i < s → row i = nI (c + (i - p))) → ∃ row', L_Model_nextRow_51 (nI k) n (nI s) row = some (nI k, row') ∧ (∀ i, i < p → row' i = row i) ∧ ∀ i, p ≤ i → i < k → row' i = nI (c + (i - p)) := by
  intro j
  induction j with
  | zero =>
    intro s n row hs hp hn hf
    obtain ⟨n, rfl⟩ : ∃ n', n = n' + 1 := ⟨n - 1, by omega⟩
    have e : s = k := hs
    subst e
    rw [L_Model_nextRow_51, if_pos (nI_le (Nat.le_refl _) (by omega))]
    exact ⟨row, rfl, fun i _ => rfl, hf⟩
  | succ j ih =>
    intro s n row hs hp hn hf
    obtain ⟨n, rfl⟩ : ∃ n', n = n' + 1 := ⟨n - 1, by omega⟩
    have e : nI s - (1 : Int32) = nI (s - 1) := pk_sub (b := 1) (by omega)
    rw [L_Model_nextRow_51, if_neg (nI_ge (by omega) (by omega)), e, gdN (by omega) (by decide), gdN (by omega) (by decide), nI_clamp (by omega), nI_clamp (by omega), hf (s - 1) (by omega) (by omega), nI_1, nI_1]
    obtain ⟨row', z1, z2, z3⟩ := ih (s + 1) n (upd row s (nI (c + (s - 1 - p) + 1))) (by omega) (by omega) (by omega) (fun i h1 h2 => by
      by_cases q : i = s
      · rw [q, pk_us, show c + (s - 1 - p) + 1 = c + (s - p) by omega]
      · rw [pk_un q]; exact hf i h1 (by omega))
    exact ⟨row', z1, fun i hi => (z2 i hi).trans (pk_un (by omega)), z3⟩
theorem nextRow_e {m k : Nat} {a : Nat → Nat} {row : Nat → Int32} (hm : m ≤ 70) (hk : k ≤ m) (hk4 : k ≤ 4) (hr : RW m k a row) : (f_Model_nextRow (nI m) row (nI k) = some (0, row) ∧ rest m (Lst a 0 k) = [Lst a 0 k]) ∨ ∃ a' row', f_Model_nextRow (nI m) row (nI k) = some (1, row') ∧ RW m k a' row' ∧ rest m (Lst a 0 k) = Lst a 0 k :: rest m (Lst a' 0 k) := by
  obtain ⟨s, z, h⟩ := down_e hm hk hk4 hr k 300 (Nat.le_refl _) (by omega) (fun j h1 h2 => by omega)
  have z' : L_Model_nextRow_4 (nI k) row (nI m) 300 (nI k - 1) = some (tI s) := z
  unfold f_Model_nextRow
  rw [z', bk1_s]
  rcases h with ⟨rfl, hf⟩ | ⟨p, rfl, hp, hlt, hf⟩
  · left
    rw [if_neg (show ¬ (0 : Int32) ≤ tI 0 by decide)]
    exact ⟨rfl, rest_full hk k 0 (Nat.zero_add k) fun j _ h2 => hf j h2⟩
  · right
    obtain ⟨r1, r2⟩ := hr p hp
    have et : tI (p + 1) = nI p := nI_pred p
    obtain ⟨row', l1, l2, l3⟩ := lay_e (k := k) (c := a p + 1) (p := p) hk4 (by omega) (k - (p + 1)) (p + 1) 300 (upd row p (nI (a p + 1))) (by omega) (by omega) (by omega) (fun i h1 h2 => by
      have : i = p := by omega
      rw [this, pk_us, Nat.sub_self, Nat.add_zero])
    rw [et, if_pos (show (0 : Int32) ≤ nI p from nI_le (a := 0) (Nat.zero_le _) (by omega)), gdN (by omega) (by decide), gdN (by omega) (by decide), nI_clamp (by omega), r1, nI_1, nI_1, l1, bk2_s]
    refine ⟨nx a p, row', rfl, fun j hj => ?_, rest_next hk hp hlt hf p 0 (Nat.zero_add p)⟩
    unfold nx
    by_cases q : j < p
    · rw [if_pos q, l2 j q, pk_un (by omega)]
      exact hr j hj
    · rw [if_neg q]
      exact ⟨l3 j (by omega) hj, by omega⟩
/-- what a row wins -/
theorem wonByRow_e {g : Nat → Nat → Nat} {could row : Nat → Int32} {whi wlo : Nat → Int64} {k : Nat} {a : Nat → Nat} (hg : GV g) (hc : ∀ k, k < (Po g).length → could k = nI (nth (cl g) k)) (hw : ∀ i, i < (Se g).length → wlo i = rl (Se g) (g 0 3) (Dr g) i ∧ whi i = rh (Se g) (g 0 3) (Dr g) i) (hk4 : k ≤ 4) (hr : ∀ j, j < k → row j = nI (a j) ∧ a j < (Po g).length) : ∃ h' l', f_Model_wonByRow could row whi wlo (nI k) = some (nI (cval g (Lst a 0 k)), h', l') := by
  have hD := Dr_70 hg
  have hS := Se_70 hg
  have hP := Po_70 hg
  have key := loopC (fun n i (s : Int64 × Int64) => L_Model_wonByRow_12 (nI k) could row whi wlo n i s.1 s.2) k (fun j => (lN (wh (cov g (Lst a 0 j)) (Dr g).length), lN (wl (cov g (Lst a 0 j)) (Dr g).length))) ?_ k 0 300 (by omega) (by omega)
  · dsimp only at key
    have h0 : wl (cov g (Lst a 0 0)) (Dr g).length = 0 ∧ wh (cov g (Lst a 0 0)) (Dr g).length = 0 := w_none _
    rw [h0.1, h0.2] at key
    unfold f_Model_wonByRow
    rw [show (0 : Int32) = nI 0 from rfl, show (0 : Int64) = lN 0 from rfl, key, show 300 - k = (299 - k) + 1 by omega, L_Model_wonByRow_12, if_pos (nI_le (Nat.le_refl _) (by omega)), bk3_s, flagged_e _ hD, bk1_s]
    exact ⟨_, _, rfl⟩
  · intro n j hj
    dsimp only
    obtain ⟨r1, r2⟩ := hr j hj
    obtain ⟨c1, c2⟩ := cl_at g r2
    obtain ⟨q1, q2⟩ := hw _ c1
    have e : Lst a 0 (j + 1) = Lst a 0 j ++ [a j] := by rw [Lst_snoc, Nat.zero_add]
    unfold rl at q1
    unfold rh at q2
    rw [c2] at q1 q2
    rw [L_Model_wonByRow_12, if_neg (nI_ge hj (by omega)), nI_1]
    simp only [gdN (show j < 4 by omega) (show (4 : Nat) < 2 ^ 31 by decide), nI_clamp (show j < 2 ^ 31 by omega), r1, gdN (show a j < 70 by omega) (show (70 : Nat) < 2 ^ 31 by decide), nI_clamp (show a j < 2 ^ 31 by omega), hc _ r2, gdN (show nth (cl g) (a j) < 70 by omega) (show (70 : Nat) < 2 ^ 31 by decide), nI_clamp (show nth (cl g) (a j) < 2 ^ 31 by omega), q1, q2]
    rw [wl_or, wh_or _ _ hD, e, cov_snoc]
theorem best32_e {g : Nat → Nat → Nat} {could row sc old : Nat → Int32} {k : Nat} {a : Nat → Nat} (hg : GV g) (hc : ∀ k, k < (Po g).length → could k = nI (nth (cl g) k)) (hs : ∀ i, i < (Se g).length → sc i = nI (nth (Se g) i)) (hk4 : k ≤ 4) (hr : ∀ j, j < k → row j = nI (a j) ∧ a j < (Po g).length) : L_Model_findMost_32 (nI k) row could sc 300 0 old = some (nI k, fp (fun j => nI (nth (Po g) (a j))) old k) := by
  have hS := Se_70 hg
  have hP := Po_70 hg
  have key := loopC (fun n i (s : Nat → Int32) => L_Model_findMost_32 (nI k) row could sc n i s) k (fun j => fp (fun j => nI (nth (Po g) (a j))) old j) ?_ k 0 300 (by omega) (by omega)
  · rw [fp_0] at key
    rw [show (0 : Int32) = nI 0 from rfl, key, show 300 - k = (299 - k) + 1 by omega, L_Model_findMost_32, if_pos (nI_le (Nat.le_refl _) (by omega))]
  · intro n j hj
    obtain ⟨r1, r2⟩ := hr j hj
    obtain ⟨c1, c2⟩ := cl_at g r2
    rw [L_Model_findMost_32, if_neg (nI_ge hj (by omega)), nI_1]
    simp only [gdN (show j < 4 by omega) (show (4 : Nat) < 2 ^ 31 by decide), nI_clamp (show j < 2 ^ 31 by omega), r1, gdN (show a j < 70 by omega) (show (70 : Nat) < 2 ^ 31 by decide), nI_clamp (show a j < 2 ^ 31 by omega), hc _ r2, gdN (show nth (cl g) (a j) < 70 by omega) (show (70 : Nat) < 2 ^ 31 by decide), nI_clamp (show nth (cl g) (a j) < 2 ^ 31 by omega), hs _ c1, c2]
    rw [fp_upd (fun j => nI (nth (Po g) (a j))) old j]
def SB (g : Nat → Nat → Nat) (k : Nat) (b : Nat × Option (List Nat)) (best : Nat → Int32) : Prop := ∀ l, b.2 = some l → ∀ j, j < k → best j = nI (nth (Po g) (nth l j))
theorem most9_e {g : Nat → Nat → Nat} {could sc : Nat → Int32} {whi wlo : Nat → Int64} {k : Nat} (hg : GV g) (hc : ∀ k, k < (Po g).length → could k = nI (nth (cl g) k)) (hs : ∀ i, i < (Se g).length → sc i = nI (nth (Se g) i)) (hw : ∀ i, i < (Se g).length → wlo i = rl (Se g) (g 0 3) (Dr g) i ∧ whi i = rh (Se g) (g 0 3) (Dr g) i) (hk4 : k ≤ 4) (hkm : k ≤ (Po g).length) :
    ∀ (n : Nat) (a : Nat → Nat) (row best : Nat → Int32) (hi lo : Int64) (b : Nat × Option (List Nat)), (rest (Po g).length (Lst a 0 k)).length < n → RW (Po g).length k a row → b.1 ≤ (Dr g).length + 1 → SB g k b best → ∃ h' l' best' row', L_Model_findMost_9 (nI k) (nI (Po g).length) (nI (Dr g).length) could sc whi wlo n (tI b.1) 1 hi lo best row = some (tI ((rest (Po g).length (Lst a 0 k)).foldl (stp (cval g)) b).1, 0, h', l', best', row') ∧ SB g k ((rest (Po g).length (Lst a 0 k)).foldl (stp (cval g)) b) best' := by
  have hD := Dr_70 hg
  have hP := Po_70 hg
  have stop : ∀ (n : Nat) (x : Int32) (hi lo : Int64) (best row : Nat → Int32), L_Model_findMost_9 (nI k) (nI (Po g).length) (nI (Dr g).length) could sc whi wlo (n + 1) x 0 hi lo best row = some (x, 0, hi, lo, best, row) := fun n x hi lo best row => by
    rw [L_Model_findMost_9, if_pos rfl]
  intro n
  induction n with
  | zero => intro a row best hi lo b h; exact absurd h (Nat.not_lt_zero _)
  | succ n ih =>
    intro a row best hi lo b hn hr hb hsb
    have hr2 : ∀ j, j < k → row j = nI (a j) ∧ a j < (Po g).length := fun j hj => ⟨(hr j hj).1, by have := (hr j hj).2; omega⟩
    obtain ⟨h', l', z⟩ := wonByRow_e hg hc hw hk4 hr2
    have hv := cval_le g (Lst a 0 k)
    have hn1 : 0 < n := by
      rcases nextRow_e hP hkm hk4 hr with ⟨-, e⟩ | ⟨a', row', -, -, e⟩
      · rw [e] at hn; simp at hn; omega
      · rw [e] at hn; simp at hn; omega
    obtain ⟨n, rfl⟩ : ∃ n', n = n' + 1 := ⟨n - 1, by omega⟩
    rw [L_Model_findMost_9, if_neg (show ¬ (1 : Int32) = 0 by decide), z, bk3_s]
    by_cases c : cval g (Lst a 0 k) < b.1
    · have es : stp (cval g) b (Lst a 0 k) = b := if_neg (by omega)
      rw [if_pos ((tI_le (by omega) (by omega)).mpr c)]
      by_cases c2 : (Dr g).length < b.1
      · rw [if_pos ((tI_le (by omega) (by omega)).mpr c2), stop, stp_skip _ _ _ fun x _ => Nat.lt_of_le_of_lt (cval_le g x) c2]
        exact ⟨_, _, _, _, rfl, hsb⟩
      · rw [if_neg (fun x => c2 ((tI_le (by omega) (by omega)).mp x))]
        rcases nextRow_e hP hkm hk4 hr with ⟨y, e⟩ | ⟨a', row', y, hr', e⟩
        · rw [y, bk2_s, if_pos (show (0 : Int32) = 0 from rfl), stop, e, List.foldl_cons, List.foldl_nil, es]
          exact ⟨_, _, _, _, rfl, hsb⟩
        · rw [y, bk2_s, if_neg (show ¬ (1 : Int32) = 0 by decide), e, List.foldl_cons, es]
          rw [e] at hn
          exact ih a' row' best h' l' b (by simpa using hn) hr' hb hsb
    · have es : stp (cval g) b (Lst a 0 k) = (cval g (Lst a 0 k) + 1, some (Lst a 0 k)) := if_pos (by omega)
      have hsb' : SB g k (cval g (Lst a 0 k) + 1, some (Lst a 0 k)) (fp (fun j => nI (nth (Po g) (a j))) best k) := by
        intro l el j hj
        injection el with el
        rw [← el, fp_at hj, nth_Lst a k 0 j hj, Nat.zero_add]
      have et : nI (cval g (Lst a 0 k)) = tI (cval g (Lst a 0 k) + 1) := (nI_pred _).symm
      rw [if_neg (fun x => c ((tI_le (by omega) (by omega)).mp x)), best32_e hg hc hs hk4 hr2, bk2_s, et]
      by_cases c2 : (Dr g).length < cval g (Lst a 0 k) + 1
      · rw [if_pos ((tI_le (by omega) (by omega)).mpr c2), stop]
        have ef : (rest (Po g).length (Lst a 0 k)).foldl (stp (cval g)) b = (cval g (Lst a 0 k) + 1, some (Lst a 0 k)) := by
          rcases nextRow_e hP hkm hk4 hr with ⟨-, e⟩ | ⟨a', row', -, -, e⟩
          · rw [e, List.foldl_cons, List.foldl_nil, es]
          · rw [e, List.foldl_cons, es]
            exact stp_skip _ _ _ fun x _ => Nat.lt_of_le_of_lt (cval_le g x) c2
        rw [ef]
        exact ⟨_, _, _, _, rfl, hsb'⟩
      · rw [if_neg (fun x => c2 ((tI_le (by omega) (by omega)).mp x))]
        rcases nextRow_e hP hkm hk4 hr with ⟨y, e⟩ | ⟨a', row', y, hr', e⟩
        · rw [y, bk2_s, if_pos (show (0 : Int32) = 0 from rfl), stop, e, List.foldl_cons, List.foldl_nil, es]
          exact ⟨_, _, _, _, rfl, hsb'⟩
        · rw [y, bk2_s, if_neg (show ¬ (1 : Int32) = 0 by decide), e, List.foldl_cons, es]
          rw [e] at hn
          exact ih a' row' _ h' l' (cval g (Lst a 0 k) + 1, some (Lst a 0 k)) (by simpa using hn) hr' (Nat.succ_le_succ hv) hsb'
theorem layRow_e {k : Nat} {row : Nat → Int32} (hk4 : k ≤ 4) : f_Model_layRow row (nI k) = some (fp nI row k) := by
  unfold f_Model_layRow
  have key := loopC (fun n i (s : Nat → Int32) => L_Model_layRow_2 (nI k) n i s) k (fun j => fp nI row j) ?_ k 0 300 (by omega) (by omega)
  · rw [fp_0] at key
    rw [show (0 : Int32) = nI 0 from rfl, key, show 300 - k = (299 - k) + 1 by omega, L_Model_layRow_2, if_pos (nI_le (Nat.le_refl _) (by omega))]
    rfl
  · intro n j hj
    rw [L_Model_layRow_2, if_neg (nI_ge hj (by omega)), nI_1, gdN (by omega) (by decide), nI_clamp (by omega), fp_upd nI row j]
/-- the reference's search -/
theorem findMost_e {g : Nat → Nat → Nat} {could sc row best : Nat → Int32} {whi wlo : Nat → Int64} {hi lo : Int64} {k : Nat} (hg : GV g) (hc : ∀ k, k < (Po g).length → could k = nI (nth (cl g) k)) (hs : ∀ i, i < (Se g).length → sc i = nI (nth (Se g) i)) (hw : ∀ i, i < (Se g).length → wlo i = rl (Se g) (g 0 3) (Dr g) i ∧ whi i = rh (Se g) (g 0 3) (Dr g) i) (hk1 : 1 ≤ k) (hk4 : k ≤ 4) (hkm : k ≤ (Po g).length) :
    ∃ h' l' best' row', f_Model_findMost (nI (Po g).length) (nI (Dr g).length) hi lo best could row sc whi wlo (nI k) = some (tI ((combs (Po g).length k 0).foldl (stp (cval g)) (0, none)).1, h', l', best', row') ∧ SB g k ((combs (Po g).length k 0).foldl (stp (cval g)) (0, none)) best' := by
  have hP := Po_70 hg
  have e : combs (Po g).length k 0 = rest (Po g).length (Lst (fun j => j) 0 k) := by
    rw [rest_first _ k 0 (by omega)]
    unfold Lst
    rw [List.map_id']
  have hl := combs_many hP hk1 hk4
  rw [e] at hl ⊢
  obtain ⟨h', l', best', row', z1, z2⟩ := most9_e hg hc hs hw hk4 hkm 1000000 (fun j => j) (fp nI row k) best hi lo (0, none) (by omega) (fun j hj => ⟨fp_at hj, by show j ≤ (Po g).length - k + j; omega⟩) (Nat.zero_le _) (fun l h => by cases h)
  unfold f_Model_findMost
  rw [layRow_e hk4, bk1_s]
  have z1' : L_Model_findMost_9 (nI k) (nI (Po g).length) (nI (Dr g).length) could sc whi wlo 1000000 (-1) 1 hi lo best (fp nI row k) = _ := z1
  rw [z1', bk6_s]
  exact ⟨_, _, _, _, rfl, z2⟩
