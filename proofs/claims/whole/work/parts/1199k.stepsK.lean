theorem copy_e {N : Nat} {a b : Nat → Int32} (hN : N ≤ 9) : f_Row_copyFrom N N a b = some (fp a b N) := by
  unfold f_Row_copyFrom
  have key := loopC (fun n i (s : Nat → Int32) => L_Row_copyFrom_2 N N a n i s) N (fun k => fp a b k) ?_ N 0 300 (by omega) (by omega)
  · rw [fp_0] at key
    rw [show (0 : Int32) = nI 0 from rfl, key, show 300 - N = (299 - N) + 1 by omega, L_Row_copyFrom_2, if_pos (nI_le (Nat.le_refl _) (by omega))]
    rfl
  · intro n k hk
    rw [L_Row_copyFrom_2, if_neg (nI_ge hk (by omega)), Row_at_e hk (by omega), bk1_s, Row_put_e hk (by omega), bk1_s, nI_1, fp_upd a b k]
theorem copyAll_e {d fo n r sc t tc : Int32} {p0 p1 p2 p3 p4 q0 q1 q2 q3 q4 : Nat → Int32} : f_Play_copyFrom d fo n r sc t tc p0 p1 p2 p3 p4 q0 q1 q2 q3 q4 = some (d, fo, n, r, sc, t, tc, fp p0 q0 9, fp p1 q1 6, fp p2 q2 6, fp p3 q3 6, fp p4 q4 6) := by
  unfold f_Play_copyFrom
  rw [copy_e (by decide), bk1_s, copy_e (by decide), bk1_s, copy_e (by decide), bk1_s, copy_e (by decide), bk1_s, copy_e (by decide), bk1_s]
theorem PL_copy {g : Nat → Nat → Nat} {n t d r fond tc sc : Int32} {p0 p1 p2 p3 p4 q0 q1 q2 q3 q4 : Nat → Int32} (hg : GV g) (h : PL g n t d r fond tc sc p4 p0 p3 p2 p1) : PL g n t d r fond tc sc (fp p4 q4 6) (fp p0 q0 9) (fp p3 q3 6) (fp p2 q2 6) (fp p1 q1 6) := by
  obtain ⟨a1, a2, a3, a4, a5, a6, a7, a8, a9, a10⟩ := h
  have e12 : g 0 5 ≤ 6 := hg.2.2.2.2.2.2.2.2.2.2.2.1
  have e13 : g 0 6 ≤ 6 := hg.2.2.2.2.2.2.2.2.2.2.2.2.1
  refine ⟨a1, a2, a3, a4, a5, a6, a7, fun i hi => ?_, fun i hi => ?_, fun i hi => ?_⟩
  · rw [fp_at (by omega)]; exact a8 i hi
  · rw [fp_at hi]; exact a9 i hi
  · rw [fp_at (by omega), fp_at (by omega), fp_at (by omega)]; exact a10 i hi
/-- a stretch written over -/
def fo (V old : Nat → Int32) (b k : Nat) : Nat → Int32 := fun i => if b ≤ i ∧ i < b + k then V (i - b) else old i
theorem fo_0 (V old : Nat → Int32) (b : Nat) : fo V old b 0 = old := funext fun i => if_neg (by omega)
theorem fo_upd (V old : Nat → Int32) (b k : Nat) : upd (fo V old b k) (b + k) (V k) = fo V old b (k + 1) := by
  funext i
  unfold fo
  by_cases e : i = b + k
  · subst e
    rw [if_pos (by omega), Nat.add_sub_cancel_left]
    exact if_pos rfl
  · have : upd (fun i => if b ≤ i ∧ i < b + k then V (i - b) else old i) (b + k) (V k) i = if b ≤ i ∧ i < b + k then V (i - b) else old i := if_neg e
    rw [this]
    by_cases h : b ≤ i ∧ i < b + k
    · rw [if_pos h, if_pos (by omega)]
    · rw [if_neg h, if_neg (by omega)]
/-- writing, or reading: what passes at each place -/
def WR (w : Int32) (V old : Nat → Int32) (b k : Nat) (x : Int32) : Prop := (w = 1 ∧ x = V k) ∨ (w = 0 ∧ V = fun i => old (b + i))
theorem pass_e {w x : Int32} {V old : Nat → Int32} {b k : Nat} (hb : b + k < 120) (h : WR w V old b k x) : f_Model_pass w (nI (b + k)) (fo V old b k) x = some (V k, nI (b + (k + 1)), fo V old b (k + 1)) := by
  unfold f_Model_pass
  rcases h with ⟨rfl, rfl⟩ | ⟨rfl, hV⟩
  · rw [if_neg (show ¬ (1 : Int32) = 0 by decide), gdN hb (by decide), nI_clamp (by omega), fo_upd, nI_1]
    rfl
  · have e : fo V old b k (b + k) = V k := by
      unfold fo
      rw [if_neg (by omega), hV]
    rw [if_pos rfl, gdN hb (by decide), gdN hb (by decide), nI_clamp (by omega), e, fo_upd, nI_1]
    rfl
theorem pass86_e {w : Int32} {V old t0 s1 s2 s3 : Nat → Int32} {b : Nat} (hb : b ≤ 60) (h0 : ∀ i, i < 6 → WR w V old b (7 + 4 * i) (t0 i)) (h1 : ∀ i, i < 6 → WR w V old b (8 + 4 * i) (s1 i)) (h2 : ∀ i, i < 6 → WR w V old b (9 + 4 * i) (s2 i)) (h3 : ∀ i, i < 6 → WR w V old b (10 + 4 * i) (s3 i)) :
    L_Model_passAll_86 w 300 0 (nI (b + 7)) (fo V old b 7) s3 s2 s1 t0 = some (6, nI (b + 31), fo V old b 31, fp (fun i => V (10 + 4 * i)) s3 6, fp (fun i => V (9 + 4 * i)) s2 6, fp (fun i => V (8 + 4 * i)) s1 6, fp (fun i => V (7 + 4 * i)) t0 6) := by
  have key := loopC (fun n i (s : Int32 × (Nat → Int32) × (Nat → Int32) × (Nat → Int32) × (Nat → Int32) × (Nat → Int32)) => L_Model_passAll_86 w n i s.1 s.2.1 s.2.2.1 s.2.2.2.1 s.2.2.2.2.1 s.2.2.2.2.2) 6 (fun k => (nI (b + (7 + 4 * k)), fo V old b (7 + 4 * k), fp (fun i => V (10 + 4 * i)) s3 k, fp (fun i => V (9 + 4 * i)) s2 k, fp (fun i => V (8 + 4 * i)) s1 k, fp (fun i => V (7 + 4 * i)) t0 k)) ?_ 6 0 300 (by omega) (by omega)
  · dsimp only at key
    rw [fp_0, fp_0, fp_0, fp_0] at key
    rw [show (0 : Int32) = nI 0 from rfl, key, show 300 - 6 = 293 + 1 by omega, L_Model_passAll_86, if_pos (show (6 : Int32) ≤ nI 6 by decide)]
    rfl
  · intro n k hk
    dsimp only
    have nt : ∀ (g f : Nat → Int32), fp g f k k = f k := fun g f => if_neg (Nat.lt_irrefl k)
    rw [L_Model_passAll_86, if_neg (show ¬ (6 : Int32) ≤ nI k from nI_ge (b := 6) hk (by decide)), nI_clamp (by omega), nI_1]
    simp only [gdN hk (show (6 : Nat) < 2 ^ 31 by decide), nt]
    rw [pass_e (by omega) (h0 k hk), bk3_s, show 7 + 4 * k + 1 = 8 + 4 * k by omega, pass_e (by omega) (h1 k hk), bk3_s, show 8 + 4 * k + 1 = 9 + 4 * k by omega, pass_e (by omega) (h2 k hk), bk3_s, show 9 + 4 * k + 1 = 10 + 4 * k by omega, pass_e (by omega) (h3 k hk), bk3_s, show 10 + 4 * k + 1 = 7 + 4 * (k + 1) by omega, fp_upd (fun i => V (10 + 4 * i)) s3 k, fp_upd (fun i => V (9 + 4 * i)) s2 k, fp_upd (fun i => V (8 + 4 * i)) s1 k, fp_upd (fun i => V (7 + 4 * i)) t0 k]
theorem pass164_e {w : Int32} {V old pr : Nat → Int32} {b : Nat} (hb : b ≤ 60) (h0 : ∀ i, i < 9 → WR w V old b (31 + i) (pr i)) :
    L_Model_passAll_164 w 300 0 (nI (b + 31)) (fo V old b 31) pr = some (9, nI (b + 40), fo V old b 40, fp (fun i => V (31 + i)) pr 9) := by
  have key := loopC (fun n i (s : Int32 × (Nat → Int32) × (Nat → Int32)) => L_Model_passAll_164 w n i s.1 s.2.1 s.2.2) 9 (fun k => (nI (b + (31 + k)), fo V old b (31 + k), fp (fun i => V (31 + i)) pr k)) ?_ 9 0 300 (by omega) (by omega)
  · dsimp only at key
    rw [fp_0] at key
    rw [show (0 : Int32) = nI 0 from rfl, key, show 300 - 9 = 290 + 1 by omega, L_Model_passAll_164, if_pos (show (9 : Int32) ≤ nI 9 by decide)]
    rfl
  · intro n k hk
    dsimp only
    have nt : ∀ (g f : Nat → Int32), fp g f k k = f k := fun g f => if_neg (Nat.lt_irrefl k)
    rw [L_Model_passAll_164, if_neg (show ¬ (9 : Int32) ≤ nI k from nI_ge (b := 9) hk (by decide)), nI_clamp (by omega), nI_1]
    simp only [gdN hk (show (9 : Nat) < 2 ^ 31 by decide), nt]
    rw [pass_e (by omega) (h0 k hk), bk3_s, fp_upd (fun i => V (31 + i)) pr k]
    rfl

theorem passAll_e {w : Int32} {V kept draws sets_ prizes how right ticket tickets : Nat → Int32} {wh wl : Nat → Int64} {b N T D R : Nat} {n t d r tm fond sc : Int32} (hb : b ≤ 60) (hN : N ≤ 8) (hT : T ≤ 8) (hD : D ≤ 8) (hR : R ≤ 8) (e0 : V 0 = nI N) (e1 : V 1 = nI T) (e2 : V 2 = nI D) (e3 : V 3 = nI R)
    (c0 : WR w V kept b 0 n) (c1 : WR w V kept b 1 t) (c2 : WR w V kept b 2 d) (c3 : WR w V kept b 3 r) (c4 : WR w V kept b 4 tm) (c5 : WR w V kept b 5 fond) (c6 : WR w V kept b 6 sc)
    (h0 : ∀ i, i < 6 → WR w V kept b (7 + 4 * i) (tickets i)) (h1 : ∀ i, i < 6 → WR w V kept b (8 + 4 * i) (ticket i)) (h2 : ∀ i, i < 6 → WR w V kept b (9 + 4 * i) (right i)) (h3 : ∀ i, i < 6 → WR w V kept b (10 + 4 * i) (how i)) (h4 : ∀ i, i < 9 → WR w V kept b (31 + i) (prizes i)) :
    f_Model_passAll d r fond w (nI b) n t sc tm draws kept prizes sets_ how right ticket tickets wh wl = some (nI (sets D 0 (2 ^ N)).length, nI D, nI R, V 5, nI (b + 40), nI N, nI T, nI (sets T 0 (2 ^ N)).length, V 6, V 4, aL (sets D 0 (2 ^ N)) draws, fo V kept b 40, fp (fun i => V (31 + i)) prizes 9, aL (sets T 0 (2 ^ N)) sets_, fp (fun i => V (10 + 4 * i)) how 6, fp (fun i => V (9 + 4 * i)) right 6, fp (fun i => V (8 + 4 * i)) ticket 6, fp (fun i => V (7 + 4 * i)) tickets 6, fp (rh (sets T 0 (2 ^ N)) R (sets D 0 (2 ^ N))) wh (sets T 0 (2 ^ N)).length, fp (rl (sets T 0 (2 ^ N)) R (sets D 0 (2 ^ N))) wl (sets T 0 (2 ^ N)).length) := by
  unfold f_Model_passAll
  have z0 := pass_e (by omega) c0
  rw [fo_0, Nat.add_zero] at z0
  rw [z0, bk3_s, pass_e (by omega) c1, bk3_s, pass_e (by omega) c2, bk3_s, pass_e (by omega) c3, bk3_s, pass_e (by omega) c4, bk3_s, pass_e (by omega) c5, bk3_s, pass_e (by omega) c6, bk3_s, pass86_e hb h0 h1 h2 h3, bk7_s, pass164_e hb h4, bk4_s, e0, e1, e2, e3, findAll_e hN hT hD hR, bk6_s]
theorem KI_c {g : Nat → Nat → Nat} {k k' : Nat → Int32} {b : Nat} (hg : GV g) (h : KI g k b) (e : ∀ i, i < 40 → k' (b + i) = k (b + i)) : KI g k' b := by
  obtain ⟨h0, h1, h2, h3, h4, h5, h6, h7, h8, h9⟩ := h
  have e12 : g 0 5 ≤ 6 := hg.2.2.2.2.2.2.2.2.2.2.2.1
  have e13 : g 0 6 ≤ 6 := hg.2.2.2.2.2.2.2.2.2.2.2.2.1
  refine ⟨(e 0 (by decide)).trans h0, (e 1 (by decide)).trans h1, (e 2 (by decide)).trans h2, (e 3 (by decide)).trans h3, (e 4 (by decide)).trans h4, (e 5 (by decide)).trans h5, (e 6 (by decide)).trans h6, fun i hi => ?_, fun i hi => ⟨?_, ?_, ?_⟩, fun i hi => ?_⟩
  · have := e (7 + 4 * i) (by omega); rw [← Nat.add_assoc] at this; exact this.trans (h7 i hi)
  · have := e (8 + 4 * i) (by omega); rw [← Nat.add_assoc] at this; exact this.trans (h8 i hi).1
  · have := e (9 + 4 * i) (by omega); rw [← Nat.add_assoc] at this; exact this.trans (h8 i hi).2.1
  · have := e (10 + 4 * i) (by omega); rw [← Nat.add_assoc] at this; exact this.trans (h8 i hi).2.2
  · have := e (31 + i) (by omega); rw [← Nat.add_assoc] at this; exact this.trans (h9 i hi)
/-- what an image holds, place by place -/
def imV (n t d r tm fond sc : Int32) (tickets ticket right how prizes : Nat → Int32) : Nat → Int32 := fun o => if o < 7 then (if o = 0 then n else if o = 1 then t else if o = 2 then d else if o = 3 then r else if o = 4 then tm else if o = 5 then fond else sc) else if o < 31 then (if (o - 7) % 4 = 0 then tickets ((o - 7) / 4) else if (o - 7) % 4 = 1 then ticket ((o - 7) / 4) else if (o - 7) % 4 = 2 then right ((o - 7) / 4) else how ((o - 7) / 4)) else prizes (o - 31)
theorem imV_t {n t d r tm fond sc : Int32} {tickets ticket right how prizes : Nat → Int32} {i : Nat} (h : i < 6) : imV n t d r tm fond sc tickets ticket right how prizes (7 + 4 * i) = tickets i ∧ imV n t d r tm fond sc tickets ticket right how prizes (8 + 4 * i) = ticket i ∧ imV n t d r tm fond sc tickets ticket right how prizes (9 + 4 * i) = right i ∧ imV n t d r tm fond sc tickets ticket right how prizes (10 + 4 * i) = how i := by
  unfold imV
  refine ⟨?_, ?_, ?_, ?_⟩
  · rw [if_neg (by omega), if_pos (by omega), if_pos (by omega), show (7 + 4 * i - 7) / 4 = i by omega]
  · rw [if_neg (by omega), if_pos (by omega), if_neg (by omega), if_pos (by omega), show (8 + 4 * i - 7) / 4 = i by omega]
  · rw [if_neg (by omega), if_pos (by omega), if_neg (by omega), if_neg (by omega), if_pos (by omega), show (9 + 4 * i - 7) / 4 = i by omega]
  · rw [if_neg (by omega), if_pos (by omega), if_neg (by omega), if_neg (by omega), if_neg (by omega), show (10 + 4 * i - 7) / 4 = i by omega]
theorem imV_p {n t d r tm fond sc : Int32} {tickets ticket right how prizes : Nat → Int32} {i : Nat} : imV n t d r tm fond sc tickets ticket right how prizes (31 + i) = prizes i := by
  unfold imV
  rw [if_neg (by omega), if_neg (by omega), show 31 + i - 31 = i by omega]
theorem fo_in {V old : Nat → Int32} {b k i : Nat} (h : i < k) : fo V old b k (b + i) = V i := by
  unfold fo
  rw [if_pos (by omega), Nat.add_sub_cancel_left]
theorem KI_new {g : Nat → Nat → Nat} {kept : Nat → Int32} {b : Nat} {n t d r fond tc sc : Int32} {tickets prizes sT sN sK : Nat → Int32} (hg : GV g) (h : PL g n t d r fond tc sc tickets prizes sT sN sK) : KI g (fo (imV n t d r tc fond sc tickets sT sN sK prizes) kept b 40) b := by
  obtain ⟨a1, a2, a3, a4, a5, a6, a7, a8, a9, a10⟩ := h
  have e12 : g 0 5 ≤ 6 := hg.2.2.2.2.2.2.2.2.2.2.2.1
  have e13 : g 0 6 ≤ 6 := hg.2.2.2.2.2.2.2.2.2.2.2.2.1
  refine ⟨(fo_in (i := 0) (by decide)).trans a1, (fo_in (i := 1) (by decide)).trans a2, (fo_in (i := 2) (by decide)).trans a3, (fo_in (i := 3) (by decide)).trans a4, (fo_in (i := 4) (by decide)).trans a6, (fo_in (i := 5) (by decide)).trans a5, (fo_in (i := 6) (by decide)).trans a7, fun i hi => ?_, fun i hi => ⟨?_, ?_, ?_⟩, fun i hi => ?_⟩
  · rw [Nat.add_assoc, fo_in (by omega), (imV_t (by omega)).1]; exact a8 i hi
  · rw [Nat.add_assoc, fo_in (by omega), (imV_t (by omega)).2.1]; exact (a10 i hi).1
  · rw [Nat.add_assoc, fo_in (by omega), (imV_t (by omega)).2.2.1]; exact (a10 i hi).2.1
  · rw [Nat.add_assoc, fo_in (by omega), (imV_t (by omega)).2.2.2]; exact (a10 i hi).2.2
  · rw [Nat.add_assoc, fo_in (by omega), imV_p]; exact a9 i hi
