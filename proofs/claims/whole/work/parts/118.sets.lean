/-! ===== sets of so many numbers, rising ===== -/
def hs (e fo x : Nat) : Bool := decide (pc x = e) && decide (fo &&& x = fo)
def sets (e fo b : Nat) : List Nat := (List.range b).filter (hs e fo)
theorem sets_succ (e fo b : Nat) : sets e fo (b + 1) = sets e fo b ++ (if hs e fo b = true then [b] else []) := by
  unfold sets
  rw [List.range_succ, List.filter_append]
  by_cases h : hs e fo b = true
  · rw [if_pos h]; simp [h]
  · rw [if_neg h]; simp [h]
theorem sets_len (e fo : Nat) : ∀ b, (sets e fo b).length = fb_ct (hs e fo) b
  | 0 => rfl
  | b + 1 => by
    rw [sets_succ, List.length_append, sets_len e fo b, fb_ct_succ]
    split <;> rfl
theorem ct70 : ∀ e : Fin 9, fb_ct (fun x => decide (pc x = e.val)) 256 ≤ 70 := by decide +kernel
theorem sets_70 {e fo b : Nat} (he : e ≤ 8) (hb : b ≤ 256) : (sets e fo b).length ≤ 70 := by
  rw [sets_len]
  refine Nat.le_trans (fb_ct_mono _ hb) (Nat.le_trans (fb_ct_sub fun k _ h => ?_) (ct70 ⟨e, by omega⟩))
  unfold hs at h
  simp only [Bool.and_eq_true] at h
  exact h.1
theorem sets_mem {e fo b x : Nat} (h : x ∈ sets e fo b) : x < b ∧ pc x = e ∧ fo &&& x = fo := by
  obtain ⟨h1, h2⟩ := List.mem_filter.mp h
  unfold hs at h2
  simp only [Bool.and_eq_true, decide_eq_true_eq] at h2
  exact ⟨List.mem_range.mp h1, h2.1, h2.2⟩
/-- an array that begins with a list -/
def nth (l : List Nat) (i : Nat) : Nat := (l[i]?).getD 0
def aL (l : List Nat) (old : Nat → Int32) : Nat → Int32 := fun i => if i < l.length then nI (nth l i) else old i
theorem aL_nil (old : Nat → Int32) : aL [] old = old := by
  funext i
  exact if_neg (by simp)
theorem nth_app {l l2 : List Nat} {i : Nat} (h : i < l.length) : nth (l ++ l2) i = nth l i := by
  unfold nth
  rw [List.getElem?_append_left h]
theorem nth_last (l : List Nat) (x : Nat) : nth (l ++ [x]) l.length = x := by
  unfold nth
  rw [List.getElem?_append_right (Nat.le_refl _), Nat.sub_self]
  rfl
theorem nth_mem {l : List Nat} {i : Nat} (h : i < l.length) : nth l i ∈ l := by
  unfold nth
  rw [List.getElem?_eq_getElem h]
  exact List.getElem_mem h
theorem aL_push (l : List Nat) (x : Nat) (old : Nat → Int32) : upd (aL l old) l.length (nI x) = aL (l ++ [x]) old := by
  funext i
  unfold upd aL
  rw [List.length_append, List.length_singleton]
  by_cases h : i = l.length
  · subst h
    rw [if_pos rfl, if_pos (by omega), nth_last]
  · rw [if_neg h]
    by_cases h2 : i < l.length
    · rw [if_pos h2, if_pos (by omega), nth_app h2]
    · rw [if_neg h2, if_neg (by omega)]
theorem aL_at {l : List Nat} {old : Nat → Int32} {i : Nat} (h : i < l.length) : aL l old i = nI (nth l i) := if_pos h
theorem xor_m1 (a : Nat) (x : Int32) : (x &&& (nI a ^^^ (-1 : Int32))) = 0 ↔ x &&& nI a = x := by
  have key : ∀ u v : BitVec 32, (u &&& (v ^^^ BitVec.allOnes 32)) = 0#32 ↔ u &&& v = u := by
    intro u v
    constructor
    · intro h
      apply BitVec.eq_of_getLsbD_eq
      intro i hi
      have h2 := congrArg (fun z : BitVec 32 => z.getLsbD i) h
      rw [BitVec.getLsbD_and, BitVec.getLsbD_xor, BitVec.getLsbD_allOnes, BitVec.getLsbD_zero, decide_eq_true hi] at h2
      rw [BitVec.getLsbD_and]
      revert h2
      cases u.getLsbD i <;> cases v.getLsbD i <;> decide
    · intro h
      apply BitVec.eq_of_getLsbD_eq
      intro i hi
      have h2 := congrArg (fun z : BitVec 32 => z.getLsbD i) h
      rw [BitVec.getLsbD_and] at h2
      rw [BitVec.getLsbD_and, BitVec.getLsbD_xor, BitVec.getLsbD_allOnes, BitVec.getLsbD_zero, decide_eq_true hi]
      revert h2
      cases u.getLsbD i <;> cases v.getLsbD i <;> decide
  constructor
  · intro h
    exact Int32.toBitVec_inj.mp ((key x.toBitVec (nI a).toBitVec).mp (congrArg Int32.toBitVec h))
  · intro h
    exact Int32.toBitVec_inj.mp ((key x.toBitVec (nI a).toBitVec).mpr (congrArg Int32.toBitVec h))
theorem partOf_e {a b : Nat} (ha : a < 256) : f_Main_isPartOf (nI a) (nI b) = some (if a &&& b = a then 1 else 0) := by
  unfold f_Main_isPartOf
  by_cases h : a &&& b = a
  · rw [if_pos ((xor_m1 b (nI a)).mpr (by rw [andN, h])), if_pos h]
  · rw [if_neg (fun h2 => h ?_), if_neg h]
    have h3 := (xor_m1 b (nI a)).mp h2
    rw [andN] at h3
    exact (nI_eq (Nat.lt_trans (and_lt ha) (by decide)) (by omega)).mp h3
theorem shl_n : ∀ n : Fin 9, (1 : Int32) <<< (nI n.val &&& 31) = nI (2 ^ n.val) := by decide +kernel
theorem shlN {n : Nat} (h : n ≤ 8) : (1 : Int32) <<< (nI n &&& 31) = nI (2 ^ n) := shl_n ⟨n, by omega⟩
theorem pow_256 {n : Nat} (h : n ≤ 8) : 2 ^ n ≤ 256 := Nat.pow_le_pow_right (n := 2) (by decide) h
theorem fill_e {n e fo : Nat} {old : Nat → Int32} (hn : n ≤ 8) (he : e ≤ 8) (hf : fo < 256) : f_Sets_fill old (nI n) (nI e) (nI fo) = some (nI (sets e fo (2 ^ n)).length, aL (sets e fo (2 ^ n)) old) := by
  unfold f_Sets_fill
  have hp := pow_256 hn
  rw [shlN hn]
  have key := loopC (fun k i (s : Int32 × (Nat → Int32)) => L_Sets_fill_13 (nI e) (nI fo) (nI (2 ^ n)) k i s.1 s.2) (2 ^ n) (fun k => (nI (sets e fo k).length, aL (sets e fo k) old)) ?_ (2 ^ n) 0 300 (by omega) (by omega)
  · dsimp only at key
    rw [show sets e fo 0 = [] from rfl, aL_nil] at key
    rw [show (0 : Int32) = nI 0 from rfl, show nI 0 = nI ([] : List Nat).length from rfl] at *
    rw [key, show 300 - 2 ^ n = (299 - 2 ^ n) + 1 by omega, L_Sets_fill_13, if_pos (nI_le (Nat.le_refl _) (by omega))]
    rfl
  · intro m k hk
    dsimp only
    have hk256 : k < 256 := by omega
    rw [L_Sets_fill_13, if_neg (nI_ge hk (by omega)), bcI hk256, bk1_s, nI_1, sets_succ]
    by_cases h1 : pc k = e
    · rw [if_pos (by rw [h1]), partOf_e hf, bk1_s]
      by_cases h2 : fo &&& k = fo
      · have hh : hs e fo k = true := by unfold hs; simp [h1, h2]
        have hlen : (sets e fo k).length < 70 := by
          have := sets_70 (e := e) (fo := fo) (b := k + 1) he (by omega)
          rw [sets_succ, if_pos hh, List.length_append, List.length_singleton] at this
          omega
        rw [if_pos h2, if_neg (by decide), Row_put_e hlen (by decide), bk1_s, if_pos hh, aL_push, nI_1, List.length_append, List.length_singleton]
      · have hh : ¬ hs e fo k = true := by unfold hs; simp [h2]
        rw [if_neg h2, if_pos rfl, if_neg hh, List.append_nil]
    · have hh : ¬ hs e fo k = true := by unfold hs; simp [h1]
      rw [if_neg (fun h => h1 ((nI_eq (pc_256 hk256) (by omega)).mp h)), if_neg hh, List.append_nil]
