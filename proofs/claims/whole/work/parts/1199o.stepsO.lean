def tick (g : Nat → Nat → Nat) (k : Nat) (l : List Nat) (p : Int32) : Int32 := if ¬ p < 0 ∧ ¬ nI (k - 1) < p then nI (nth (Po g) (nth l p.toNatClampNeg)) else -6
def ansM (g : Nat → Nat → Nat) (k : Nat) (p : Int32) : Int32 := match MS g k with
  | none => -6
  | some (w, l) => if p = -1 then nI w else tick g k l p
def ansS (g : Nat → Nat → Nat) (p : Int32) : Int32 := match FS g with
  | none => -6
  | some l => if p = -1 then nI l.length else tick g l.length l p
theorem ansM_n {g : Nat → Nat → Nat} {k : Nat} {p : Int32} (h : MS g k = none) : ansM g k p = -6 := by unfold ansM; rw [h]
theorem ansM_s {g : Nat → Nat → Nat} {k w : Nat} {l : List Nat} {p : Int32} (h : MS g k = some (w, l)) : ansM g k p = if p = -1 then nI w else tick g k l p := by unfold ansM; rw [h]
theorem ansS_n {g : Nat → Nat → Nat} {p : Int32} (h : FS g = none) : ansS g p = -6 := by unfold ansS; rw [h]
theorem ansS_s {g : Nat → Nat → Nat} {l : List Nat} {p : Int32} (h : FS g = some l) : ansS g p = if p = -1 then nI l.length else tick g l.length l p := by unfold ansS; rw [h]
theorem tick_c {g : Nat → Nat → Nat} {k : Nat} {l : List Nat} {found : Int32} {tk : Nat → Int32} (p : Int32) (h1 : 1 ≤ k) (h4 : k ≤ 4) (hf : ¬ found = 0) (ht : ∀ i, i < k → tk i = nI (nth (Po g) (nth l i))) : f_Choice_ticketOrNone found (nI k) tk p = some (tick g k l p) := by
  unfold f_Choice_ticketOrNone tick
  rw [if_neg hf, show nI k - (1 : Int32) = nI (k - 1) from pk_sub (b := 1) h1]
  rcases within_c p 0 (nI (k - 1)) with ⟨w, a, b⟩ | ⟨w, a⟩
  · obtain ⟨j, j1, j2, rfl⟩ := betw (a := 0) a b (by decide) (by omega)
    rw [w, bk1_s, if_neg (show ¬ (1 : Int32) = 0 by decide), Row_at_e (by omega) (by decide), bk1_s, if_pos ⟨a, b⟩, nI_clamp (by omega), ht j (by omega)]
  · rw [w, bk1_s, if_pos (show (0 : Int32) = 0 from rfl), if_neg (fun x => a.elim x.1 x.2)]
theorem tick_m {g : Nat → Nat → Nat} {k : Nat} {l : List Nat} {best : Nat → Int32} {A : Type} (p : Int32) (F : Int32 → A) (h1 : 1 ≤ k) (h4 : k ≤ 4) (ht : ∀ i, i < k → best i = nI (nth (Po g) (nth l i))) : (bk1 (f_Model_in p.toInt64 (0 : Int64) (nI k - (1 : Int32)).toInt64) fun r_7 => if r_7 = (0 : Int32) then some (F (-6)) else gd p 4 (some (F (best p.toNatClampNeg)))) = some (F (tick g k l p)) := by
  unfold tick
  rw [show (0 : Int64) = (0 : Int32).toInt64 from rfl, in_e, show nI k - (1 : Int32) = nI (k - 1) from pk_sub (b := 1) h1]
  rcases within_c p 0 (nI (k - 1)) with ⟨w, a, b⟩ | ⟨w, a⟩
  · obtain ⟨j, j1, j2, rfl⟩ := betw (a := 0) a b (by decide) (by omega)
    rw [w, bk1_s, if_neg (show ¬ (1 : Int32) = 0 by decide), gdN (by omega) (by decide), if_pos ⟨a, b⟩, nI_clamp (by omega), ht j (by omega)]
  · rw [w, bk1_s, if_pos (show (0 : Int32) = 0 from rfl), if_neg (fun x => a.elim x.1 x.2)]
theorem up_some {a : Option (Nat × List Nat)} {l : List Nat} (h : (up a).2 = some l) : ∃ w, a = some (w, l) ∧ (up a).1 = w + 1 := by
  cases a with
  | none => cases h
  | some x =>
    obtain ⟨w, l'⟩ := x
    injection h with h
    subst h
    exact ⟨w, rfl, rfl⟩
theorem up_none {a : Option (Nat × List Nat)} (h : (up a).2 = none) : a = none := by
  cases a with
  | none => rfl
  | some x => cases h
theorem CK_new {g : Nat → Nat → Nat} {k : Nat} {found won : Int32} {tk : Nat → Int32} (h : ST g k ((combs (Po g).length k 0).foldl (stp (cval g)) (0, none)) found won tk) : CK g k found (nI k) 1 won tk := by
  obtain ⟨-, h2, h3⟩ := h
  rw [MS_up] at h2 h3
  refine Or.inr ⟨by decide, ?_⟩
  rcases h3 with ⟨e, f⟩ | ⟨l, e, f, t⟩
  · exact Or.inl ⟨up_none e, f⟩
  · obtain ⟨w, e1, e2⟩ := up_some e
    refine Or.inr ⟨w, l, e1, by rw [f]; decide, rfl, ?_, t⟩
    rw [h2, e2]
    exact nI_pred w
theorem CK_won {g : Nat → Nat → Nat} {k : Nat} {found size sought won : Int32} {tk : Nat → Int32} (h : CK g k found size sought won tk) (hs : ¬ sought = 0) (h1 : 1 ≤ k) (h4 : k ≤ 4) : f_Choice_wonOrNone found won = some (ansM g k (-1)) ∧ ∀ p, ¬ p = -1 → f_Choice_ticketOrNone found size tk p = some (ansM g k p) := by
  rcases h with h | ⟨-, ⟨e, f⟩ | ⟨w, l, e, f, s, u, t⟩⟩
  · exact absurd h hs
  · subst f
    refine ⟨?_, fun p hp => ?_⟩
    · rw [ansM_n e]; rfl
    · rw [ansM_n e]; rfl
  · subst s
    subst u
    refine ⟨?_, fun p hp => ?_⟩
    · rw [ansM_s e, if_pos rfl]
      exact if_neg f
    · rw [ansM_s e, if_neg hp]
      exact tick_c p h1 h4 f t
theorem CF_won {g : Nat → Nat → Nat} {found size sought won : Int32} {tk : Nat → Int32} (h : CF g found size sought won tk) (hs : ¬ sought = 0) (hl : ∀ l, FS g = some l → 1 ≤ l.length ∧ l.length ≤ 4) : f_Choice_sizeOrNone found size = some (ansS g (-1)) ∧ ∀ p, ¬ p = -1 → f_Choice_ticketOrNone found size tk p = some (ansS g p) := by
  rcases h with h | ⟨-, ⟨e, f⟩ | ⟨l, e, f, s, t⟩⟩
  · exact absurd h hs
  · subst f
    refine ⟨?_, fun p hp => ?_⟩
    · rw [ansS_n e]; rfl
    · rw [ansS_n e]; rfl
  · subst s
    obtain ⟨h1, h4⟩ := hl l e
    refine ⟨?_, fun p hp => ?_⟩
    · rw [ansS_s e, if_pos rfl]
      exact if_neg f
    · rw [ansS_s e, if_neg hp]
      exact tick_c p h1 h4 f t
theorem rest_ne (m : Nat) : ∀ l, rest m l ≠ []
  | [] => by intro h; cases h
  | a :: l => by
    intro h
    have h1 : (rest m l).map (a :: ·) ++ combs m (l.length + 1) (a + 1) = [] := h
    have h2 := (List.append_eq_nil_iff.mp h1).1
    exact rest_ne m l (List.map_eq_nil_iff.mp h2)
theorem bstep_some (g : Nat → Nat → Nat) : ∀ (L : List (List Nat)) (w : Nat) (l : List Nat), ∃ w' l', L.foldl (bstep g) (some (w, l)) = some (w', l')
  | [], w, l => ⟨w, l, rfl⟩
  | c :: L, w, l => by
    rw [List.foldl_cons]
    show ∃ w' l', L.foldl (bstep g) (if w < cval g c then some (cval g c, c) else some (w, l)) = some (w', l')
    split
    · exact bstep_some g L _ _
    · exact bstep_some g L _ _
theorem MS_some {g : Nat → Nat → Nat} {k : Nat} (h : k ≤ (Po g).length) : ∃ w l, MS g k = some (w, l) := by
  have e := rest_first (Po g).length k 0 (by omega)
  have hne := rest_ne (Po g).length (List.range' 0 k)
  rw [← e] at hne
  unfold MS
  cases hc : combs (Po g).length k 0 with
  | nil => exact absurd hc hne
  | cons c L => exact bstep_some g L _ _
theorem MS_none {g : Nat → Nat → Nat} {k : Nat} (h : (Po g).length < k) : MS g k = none := by
  obtain ⟨j, rfl⟩ : ∃ j, k = j + 1 := ⟨k - 1, by omega⟩
  unfold MS
  rw [combs_few _ j _ 0 rfl (by omega)]
  rfl
theorem mmost_e {g : Nat → Nat → Nat} {cm : Int32} {hi lo : Int64} {best could row sc : Nat → Int32} {whi wlo : Nat → Int64} {k : Nat} (p : Int32) (hg : GV g) (hs : ∀ i, i < (Se g).length → sc i = nI (nth (Se g) i)) (hw : ∀ i, i < (Se g).length → wlo i = rl (Se g) (g 0 3) (Dr g) i ∧ whi i = rh (Se g) (g 0 3) (Dr g) i) (hk : f_Main_isWithin (nI k) 1 3 = some 1) (h1 : 1 ≤ k) (h3 : k ≤ 3) : ∃ h' l' best' could' row', f_Model_most cm (nI (Dr g).length) (nI (g 0 4)) hi lo (nI (Se g).length) best could row sc whi wlo (nI k) p = some (ansM g k p, nI (Po g).length, h', l', best', could', row') := by
  have hP := Po_70 hg
  unfold f_Model_most
  rw [show (3 : Int64) = (3 : Int32).toInt64 from rfl, show (1 : Int64) = (1 : Int32).toInt64 from rfl, in_e, hk, bk1_s, if_neg (show ¬ (1 : Int32) = 0 by decide), could_e hg hs, bk2_s]
  by_cases c : k ≤ (Po g).length
  · obtain ⟨h', l', best', row', z1, z2⟩ := findMost_e (row := row) (best := best) (hi := hi) (lo := lo) (could := aL (cl g) could) hg (fun k hk => aL_at (by rw [cl_len]; exact hk)) hs hw h1 (by omega) c
    obtain ⟨w, l, e⟩ := MS_some c
    rw [MS_up, e] at z1 z2
    have hb : ∀ i, i < k → best' i = nI (nth (Po g) (nth l i)) := z2 l rfl
    have et : tI (up (some (w, l))).1 = nI w := nI_pred w
    rw [if_pos (nI_le c (by omega)), z1, bk5_s, ansM_s e, et]
    by_cases q : p = -1
    · rw [if_pos q, if_pos q]
      exact ⟨_, _, _, _, _, rfl⟩
    · rw [if_neg q, if_neg q]
      exact ⟨_, _, _, _, _, tick_m p (fun r => (r, nI (Po g).length, h', l', best', aL (cl g) could, row')) h1 (by omega) hb⟩
  · rw [if_neg (fun x => c ((nI_leI (by omega) (by omega)).mp x)), ansM_n (MS_none (by omega))]
    exact ⟨_, _, _, _, _, rfl⟩
/-- the first that wins all, of so many sizes that are left -/
def FT (g : Nat → Nat → Nat) : Nat → Option (List Nat)
  | 0 => none
  | j + 1 => (FA g (4 - j)).or (FT g j)
theorem FT_FS (g : Nat → Nat → Nat) : FS g = FT g 4 := by
  show (FA g 1).or ((FA g 2).or ((FA g 3).or (FA g 4))) = (FA g 1).or ((FA g 2).or ((FA g 3).or ((FA g 4).or none)))
  rw [Option.or_none]
theorem FA_len {g : Nat → Nat → Nat} {k : Nat} {l : List Nat} (h : FA g k = some l) : l.length = k := (combs_mem _ _ _ _ (List.mem_of_find?_eq_some h)).1
theorem FT_len {g : Nat → Nat → Nat} : ∀ (j : Nat) (l : List Nat), j ≤ 4 → FT g j = some l → 1 ≤ l.length ∧ l.length ≤ 4
  | 0, l, _, h => by cases h
  | j + 1, l, hj, h => by
    have h' : (FA g (4 - j)).or (FT g j) = some l := h
    cases e : FA g (4 - j) with
    | none =>
      rw [e, Option.none_or] at h'
      exact FT_len j l (by omega) h'
    | some c =>
      rw [e, Option.some_or] at h'
      injection h' with h'
      subst h'
      have := FA_len e
      omega
theorem FT_none {g : Nat → Nat → Nat} : ∀ j, j ≤ 4 → (Po g).length < 5 - j → FT g j = none
  | 0, _, _ => rfl
  | j + 1, hj, h => by
    have e : FA g (4 - j) = none := by
      unfold FA
      obtain ⟨s, hs⟩ : ∃ s, 4 - j = s + 1 := ⟨4 - j - 1, by omega⟩
      rw [hs, combs_few _ s _ 0 rfl (by omega)]
      rfl
    show (FA g (4 - j)).or (FT g j) = none
    rw [e, Option.none_or]
    exact FT_none j (by omega) (by omega)
theorem sureL_e {g : Nat → Nat → Nat} {pcs : Nat → Int32} {wph wpl : Nat → Int64} (hg : GV g) (hpc : ∀ i, i < (Po g).length → pcs i = nI (nth (Po g) i)) (hpw : ∀ i, i < (Po g).length → wpl i = rl (Po g) (g 0 3) (Dr g) i ∧ wph i = rh (Po g) (g 0 3) (Dr g) i) : ∀ (j s n : Nat) (ch : Nat → Int32) (size sought won : Int32) (tk : Nat → Int32) (rh_ rl_ : Nat → Int64), s + j = 5 → 1 ≤ s → j + 1 < n → rh_ 0 = 0 → rl_ 0 = 0 → ∃ x ch' f' z' o' w' t' rh' rl', L_Search_choiceForSure_20 (nI (Dr g).length) (nI (one g)) (nI (Po g).length) pcs wph wpl n (nI s) ch 0 size sought won tk rh_ rl_ = some (x, ch', f', z', o', w', t', rh', rl') ∧ rh' 0 = 0 ∧ rl' 0 = 0 ∧ (o' = 1 ∨ (j = 0 ∧ o' = sought)) ∧ ((FT g j = none ∧ f' = 0) ∨ ∃ l, FT g j = some l ∧ ¬ f' = 0 ∧ z' = nI l.length ∧ ∀ i, i < l.length → t' i = nI (nth (Po g) (nth l i))) := by
  intro j
  induction j with
  | zero =>
    intro s n ch size sought won tk rh_ rl_ hs h1 hn z0 z1
    obtain ⟨n, rfl⟩ : ∃ n', n = n' + 1 := ⟨n - 1, by omega⟩
    have e : s = 5 := hs
    subst e
    rw [L_Search_choiceForSure_20, if_pos (show (4 : Int32) < nI 5 by decide)]
    exact ⟨_, _, _, _, _, _, _, _, _, rfl, z0, z1, Or.inr ⟨rfl, rfl⟩, Or.inl ⟨rfl, rfl⟩⟩
  | succ j ih =>
    intro s n ch size sought won tk rh_ rl_ hs h1 hn z0 z1
    obtain ⟨n, rfl⟩ : ∃ n', n = n' + 1 := ⟨n - 1, by omega⟩
    have hD := Dr_70 hg
    have hD0 := Dr_ne hg
    obtain ⟨ch', rh', rl', f', w', t', o1, o2, o3, o4⟩ := search_e hg hpc hpw (k := s) h1 (by omega) (Nat.le_refl (Dr g).length) rfl ch tk z0 z1
    have ew : nI (Dr g).length - (1 : Int32) = tI (Dr g).length := rfl
    rw [L_Search_choiceForSure_20, if_neg (show ¬ (4 : Int32) < nI s from nI_nlt (b := s) (a := 4) (by omega) (by decide)), if_pos (show (0 : Int32) = 0 from rfl), ew]
    unfold f_Choice_begin
    rw [bk4_s, o1, bk6_s, nI_1]
    have eS : 4 - j = s := by omega
    obtain ⟨f1, f2⟩ := fa_stp g (combs (Po g).length s 0) ((Dr g).length, none) (Nat.le_refl _)
    obtain ⟨-, -, q3⟩ := o4
    cases e : FA g s with
    | none =>
      have ef := (f2 e).2 rfl
      rw [ef] at q3
      have hf : f' = 0 := by
        rcases q3 with ⟨-, q⟩ | ⟨l, q, -⟩
        · exact q
        · cases q
      subst hf
      obtain ⟨x, a1, a2, a3, a4, a5, a6, a7, a8, i1, i2, i3, i4, i5⟩ := ih (s + 1) n ch' (nI s) 1 w' t' rh' rl' (by omega) (by omega) (by omega) o2 o3
      refine ⟨x, a1, a2, a3, a4, a5, a6, a7, a8, i1, i2, i3, ?_, ?_⟩
      · rcases i4 with q | ⟨-, q⟩
        · exact Or.inl q
        · exact Or.inl q
      · have : FT g (j + 1) = FT g j := by
          show (FA g (4 - j)).or (FT g j) = FT g j
          rw [eS, e, Option.none_or]
        rw [this]
        exact i5
    | some c =>
      have ef := f1 c e
      rw [ef] at q3
      have hc := FA_len e
      have hT : FT g (j + 1) = some c := by
        show (FA g (4 - j)).or (FT g j) = some c
        rw [eS, e, Option.some_or]
      obtain ⟨hf, ht⟩ : f' = 1 ∧ ∀ i, i < s → t' i = nI (nth (Po g) (nth c i)) := by
        rcases q3 with ⟨q, -⟩ | ⟨l, q, r1, r2⟩
        · cases q
        · injection q with q
          rw [← q] at r2
          exact ⟨r1, r2⟩
      subst hf
      obtain ⟨n, rfl⟩ : ∃ n', n = n' + 1 := ⟨n - 1, by omega⟩
      rw [L_Search_choiceForSure_20]
      have fin : ∃ x ch'' f'' z' o' w'' t'' rh'' rl'', some (nI (s + 1), ch', (1 : Int32), nI s, (1 : Int32), w', t', rh', rl') = some (x, ch'', f'', z', o', w'', t'', rh'', rl'') ∧ rh'' 0 = 0 ∧ rl'' 0 = 0 ∧ (o' = 1 ∨ (j + 1 = 0 ∧ o' = sought)) ∧ ((FT g (j + 1) = none ∧ f'' = 0) ∨ ∃ l, FT g (j + 1) = some l ∧ ¬ f'' = 0 ∧ z' = nI l.length ∧ ∀ i, i < l.length → t'' i = nI (nth (Po g) (nth l i))) :=
        ⟨_, _, _, _, _, _, _, _, _, rfl, o2, o3, Or.inl rfl, Or.inr ⟨c, hT, by decide, by rw [hc], fun i hi => ht i (by omega)⟩⟩
      by_cases q : (4 : Int32) < nI (s + 1)
      · rw [if_pos q]
        exact fin
      · rw [if_neg q, if_neg (show ¬ (1 : Int32) = 0 by decide)]
        exact fin
theorem tI_eq {D s : Nat} (hD : D < 2 ^ 31) (hs : s ≤ D) : ¬ tI s = nI D := fun x => by
  have h := (tI_le (w := D) (s := s) hD (by omega)).mp (by rw [x]; exact Int32.le_refl _)
  omega
theorem sure6_e {g : Nat → Nat → Nat} {could sc : Nat → Int32} {whi wlo : Nat → Int64} (p : Int32) (hg : GV g) (hc : ∀ k, k < (Po g).length → could k = nI (nth (cl g) k)) (hs : ∀ i, i < (Se g).length → sc i = nI (nth (Se g) i)) (hw : ∀ i, i < (Se g).length → wlo i = rl (Se g) (g 0 3) (Dr g) i ∧ whi i = rh (Se g) (g 0 3) (Dr g) i) : ∀ (j s n : Nat) (hi lo : Int64) (best row : Nat → Int32), s + j = 5 → 1 ≤ s → j < n →
    (FT g j = none ∧ ∃ x h' l' best' row', L_Model_sure_6 p (nI (Po g).length) could (nI (Dr g).length) sc whi wlo n (nI s) hi lo best row = some (.ok (x, h', l', best', row'))) ∨ ∃ l, FT g j = some l ∧ ∃ h' l' best' row', L_Model_sure_6 p (nI (Po g).length) could (nI (Dr g).length) sc whi wlo n (nI s) hi lo best row = some (.error (if p = -1 then nI l.length else tick g l.length l p, nI (Po g).length, h', l', best', could, row')) := by
  have hP := Po_70 hg
  have hD := Dr_70 hg
  intro j
  induction j with
  | zero =>
    intro s n hi lo best row e h1 hn
    obtain ⟨n, rfl⟩ : ∃ n', n = n' + 1 := ⟨n - 1, by omega⟩
    have e : s = 5 := e
    subst e
    rw [L_Model_sure_6, if_pos (show (5 : Int32) ≤ nI 5 by decide)]
    exact Or.inl ⟨rfl, _, _, _, _, _, rfl⟩
  | succ j ih =>
    intro s n hi lo best row e h1 hn
    obtain ⟨n, rfl⟩ : ∃ n', n = n' + 1 := ⟨n - 1, by omega⟩
    rw [L_Model_sure_6, if_neg (show ¬ (5 : Int32) ≤ nI s from nI_ge (b := 5) (by omega) (by decide))]
    by_cases c : (Po g).length < s
    · rw [if_pos (nI_lt c (by omega))]
      exact Or.inl ⟨FT_none (j + 1) (by omega) (by omega), _, _, _, _, _, rfl⟩
    · obtain ⟨h', l', best', row', z1, z2⟩ := findMost_e (row := row) (best := best) (hi := hi) (lo := lo) hg hc hs hw h1 (show s ≤ 4 by omega) (show s ≤ (Po g).length by omega)
      obtain ⟨f1, f2⟩ := fa_stp g (combs (Po g).length s 0) (0, none) (Nat.zero_le _)
      rw [if_neg (nI_nlt (by omega) (by omega)), z1, bk5_s, nI_1]
      have eS : 4 - j = s := by omega
      cases e2 : FA g s with
      | none =>
        have hT : FT g (j + 1) = FT g j := by
          show (FA g (4 - j)).or (FT g j) = FT g j
          rw [eS, e2, Option.none_or]
        rw [if_neg (tI_eq (by omega) (f2 e2).1), hT]
        exact ih (s + 1) n h' l' best' row' (by omega) (by omega) (by omega)
      | some d =>
        have hd := FA_len e2
        have hT : FT g (j + 1) = some d := by
          show (FA g (4 - j)).or (FT g j) = some d
          rw [eS, e2, Option.some_or]
        have ef := f1 d e2
        rw [ef] at z2 ⊢
        have hb : ∀ i, i < s → best' i = nI (nth (Po g) (nth d i)) := z2 d rfl
        have et : tI ((Dr g).length + 1) = nI (Dr g).length := nI_pred _
        right
        refine ⟨d, hT, ?_⟩
        rw [et, if_pos (show nI (Dr g).length = nI (Dr g).length from rfl), hd]
        by_cases q : p = -1
        · rw [if_pos q, if_pos q]
          exact ⟨_, _, _, _, rfl⟩
        · rw [if_neg q, if_neg q]
          exact ⟨_, _, _, _, tick_m p (fun r => (Except.error (r, nI (Po g).length, h', l', best', could, row') : Except _ (Int32 × Int64 × Int64 × (Nat → Int32) × (Nat → Int32)))) h1 (by omega) hb⟩
theorem msure_e {g : Nat → Nat → Nat} {hi lo : Int64} {best could row sc : Nat → Int32} {whi wlo : Nat → Int64} (p : Int32) (hg : GV g) (hs : ∀ i, i < (Se g).length → sc i = nI (nth (Se g) i)) (hw : ∀ i, i < (Se g).length → wlo i = rl (Se g) (g 0 3) (Dr g) i ∧ whi i = rh (Se g) (g 0 3) (Dr g) i) : ∃ h' l' best' could' row', f_Model_sure (nI (Dr g).length) (nI (g 0 4)) hi lo (nI (Se g).length) best could row sc whi wlo p = some (ansS g p, nI (Po g).length, h', l', best', could', row') := by
  unfold f_Model_sure
  rw [could_e hg hs, bk2_s]
  rcases sure6_e (could := aL (cl g) could) p hg (fun k hk => aL_at (by rw [cl_len]; exact hk)) hs hw 4 1 300 hi lo best row rfl (Nat.le_refl _) (by decide) with ⟨e, x, h', l', best', row', z⟩ | ⟨l, e, h', l', best', row', z⟩
  · have z' : L_Model_sure_6 p (nI (Po g).length) (aL (cl g) could) (nI (Dr g).length) sc whi wlo 300 1 hi lo best row = _ := z
    rw [z', lm5_ok, ansS_n (by rw [FT_FS, e])]
    exact ⟨_, _, _, _, _, rfl⟩
  · have z' : L_Model_sure_6 p (nI (Po g).length) (aL (cl g) could) (nI (Dr g).length) sc whi wlo 300 1 hi lo best row = _ := z
    rw [z', lm5_er, ansS_s (by rw [FT_FS, e])]
    exact ⟨_, _, _, _, _, rfl⟩

set_option maxHeartbeats 4000000 in
theorem st_most : St_most Inv := by
  intro v_x_pad_size v_x_pad_signs_cells v_x_play_n v_x_play_t v_x_play_d v_x_play_r v_x_play_fond v_x_play_ticketCount v_x_play_sightCount v_x_play_tickets_cells v_x_play_prizes_cells v_x_play_sightTickets_cells v_x_play_sightNumbers_cells v_x_play_sightKinds_cells v_x_wheel_held v_x_wheel_draws_size v_x_wheel_draws_members_cells v_x_wheel_possible_size v_x_wheel_possible_members_cells v_x_wheel_wonByPossible_low v_x_wheel_wonByPossible_high v_x_wheel_wonByHeld_low v_x_wheel_wonByHeld_high v_x_wheel_work_low v_x_wheel_work_high v_x_wheel_search_allDraws v_x_wheel_search_single v_x_wheel_search_reached_low v_x_wheel_search_reached_high v_x_wheel_search_chosen_cells v_x_wheel_search_mostOne_size v_x_wheel_search_mostOne_won v_x_wheel_search_mostOne_found v_x_wheel_search_mostOne_sought v_x_wheel_search_mostOne_tickets_cells v_x_wheel_search_mostTwo_size v_x_wheel_search_mostTwo_won v_x_wheel_search_mostTwo_found v_x_wheel_search_mostTwo_sought v_x_wheel_search_mostTwo_tickets_cells v_x_wheel_search_mostThree_size v_x_wheel_search_mostThree_won v_x_wheel_search_mostThree_found v_x_wheel_search_mostThree_sought v_x_wheel_search_mostThree_tickets_cells v_x_wheel_search_fewest_size v_x_wheel_search_fewest_won v_x_wheel_search_fewest_found v_x_wheel_search_fewest_sought v_x_wheel_search_fewest_tickets_cells v_x_imageZero_kept v_x_imageZero_play_n v_x_imageZero_play_t v_x_imageZero_play_d v_x_imageZero_play_r v_x_imageZero_play_fond v_x_imageZero_play_ticketCount v_x_imageZero_play_sightCount v_x_imageZero_play_tickets_cells v_x_imageZero_play_prizes_cells v_x_imageZero_play_sightTickets_cells v_x_imageZero_play_sightNumbers_cells v_x_imageZero_play_sightKinds_cells v_x_imageOne_kept v_x_imageOne_play_n v_x_imageOne_play_t v_x_imageOne_play_d v_x_imageOne_play_r v_x_imageOne_play_fond v_x_imageOne_play_ticketCount v_x_imageOne_play_sightCount v_x_imageOne_play_tickets_cells v_x_imageOne_play_prizes_cells v_x_imageOne_play_sightTickets_cells v_x_imageOne_play_sightNumbers_cells v_x_imageOne_play_sightKinds_cells v_m_numbers v_m_onTicket v_m_drawn v_m_due v_m_ticketMany v_m_fond v_m_sights v_m_drawMany v_m_setMany v_m_padMany v_m_low v_m_high v_m_couldMany v_m_keptAt v_m_isWriting v_m_tickets v_m_prizes v_m_sightTicket v_m_sightRight v_m_sightHow v_m_draws v_m_sets v_m_winsLow v_m_winsHigh v_m_pad v_m_could v_m_row v_m_best v_m_kept v_m_isKept p0 p1 hI
  have hI0 := hI
  obtain ⟨g, g0, g1, pad, pn, k0, k1, hG, hG0, hG1, hk0, hk1, hpn, hpad, xpn, xpad, xpl, xk0, xi0, xk1, xi1, xw, xc1, xc2, xc3, xcf, mpl, md, mpn, mpad, mk0, mk1, mi0, mi1⟩ := hI
  have xpl0 := xpl
  have mpl0 := mpl
  have xw0 := xw
  have md0 := md
  obtain ⟨a1, a2, a3, a4, a5, a6, a7, a8, a9, a10⟩ := xpl
  obtain ⟨b1, b2, b3, b4, b5, b6, b7, b8, b9, b10⟩ := mpl
  obtain ⟨w1, w2, w3, w4, w5, w6, w7, w8, w9, w10, w11⟩ := xw
  obtain ⟨d1, d2, d3, d4, d5⟩ := md
  have hGV := hG
  obtain ⟨e1, e2, e3, e4, e5, e6, e7, e8, e9, e10, e11, e12, e13, e14, e15, e16⟩ := hGV
  subst xpn
  subst mpn
  subst xk0
  subst xk1
  subst a1
  subst a2
  subst a3
  subst a4
  subst a5
  subst a6
  subst a7
  subst b1
  subst b2
  subst b3
  subst b4
  subst b5
  subst b6
  subst b7
  subst w1
  subst w2
  subst w4
  subst w8
  subst w9
  subst d1
  subst d2
  have hsg : nI (fb_ct (pw (nth (Po g) 0) (g 0 3) (nth (Dr g))) (Dr g).length) = nI (one g) := by rw [one_P hG (Po_ne hG)]
  unfold f_Main_most
  rcases within_c p0 1 3 with ⟨w, h1, h2⟩ | ⟨w, -⟩
  · obtain ⟨k, j1, j2, rfl⟩ := betw (a := 1) (b := 3) h1 h2 (by decide) (by decide)
    rcases (show k = 1 ∨ k = 2 ∨ k = 3 by omega) with rfl | rfl | rfl
    · obtain ⟨m1, m2, m3, m4, m5, zm⟩ := mmost_e (cm := v_m_couldMany) (hi := v_m_high) (lo := v_m_low) (best := v_m_best) (could := v_m_could) (row := v_m_row) p1 hG d4 d5 w (by decide) (by decide)
      rw [w, bk1_s, if_neg (show ¬ (1 : Int32) = 0 by decide), zm]
      by_cases hs : v_x_wheel_search_mostOne_sought = 0
      · obtain ⟨ch', rh', rl', f', w', t', o1, y1, y2, o4⟩ := search_e hG w5 w6 (k := 1) (by decide) (by decide) (Nat.zero_le _) (won := -1) rfl v_x_wheel_search_chosen_cells v_x_wheel_search_mostOne_tickets_cells w11 w10
        have hck := CK_new o4
        obtain ⟨q1, q2⟩ := CK_won hck (by decide) (by decide) (by decide)
        unfold f_Search_choiceForMost f_Choice_begin
        rw [if_pos (show nI 1 = (1 : Int32) from rfl), if_pos hs, bk4_s, hsg, o1, bk6_s, bk19_s, if_pos (show (0 : Nat) = 0 from rfl)]
        by_cases hp : p1 = -1
        · rw [if_pos hp, q1, bk1_s, hp]
          exact ⟨_, _, _, _, _, _, _, _, _, _, _, _, _, _, _, _, _, _, _, _, _, _, _, _, _, rfl, rfl, ⟨g, g0, g1, pad, pn, k0, k1, hG, hG0, hG1, hk0, hk1, hpn, hpad, rfl, xpad, xpl0, rfl, xi0, rfl, xi1, ⟨rfl, rfl, w3, rfl, w5, w6, w7, rfl, hsg.symm, y2, y1⟩, hck, xc2, xc3, xcf, mpl0, md0, rfl, mpad, mk0, mk1, mi0, mi1⟩⟩
        · rw [if_neg hp, q2 p1 hp, bk1_s]
          exact ⟨_, _, _, _, _, _, _, _, _, _, _, _, _, _, _, _, _, _, _, _, _, _, _, _, _, rfl, rfl, ⟨g, g0, g1, pad, pn, k0, k1, hG, hG0, hG1, hk0, hk1, hpn, hpad, rfl, xpad, xpl0, rfl, xi0, rfl, xi1, ⟨rfl, rfl, w3, rfl, w5, w6, w7, rfl, hsg.symm, y2, y1⟩, hck, xc2, xc3, xcf, mpl0, md0, rfl, mpad, mk0, mk1, mi0, mi1⟩⟩
      · obtain ⟨q1, q2⟩ := CK_won xc1 hs (by decide) (by decide)
        unfold f_Search_choiceForMost
        rw [if_pos (show nI 1 = (1 : Int32) from rfl), if_neg hs, bk19_s, if_pos (show (0 : Nat) = 0 from rfl)]
        by_cases hp : p1 = -1
        · rw [if_pos hp, q1, bk1_s, hp]
          exact ⟨_, _, _, _, _, _, _, _, _, _, _, _, _, _, _, _, _, _, _, _, _, _, _, _, _, rfl, rfl, hI0⟩
        · rw [if_neg hp, q2 p1 hp, bk1_s]
          exact ⟨_, _, _, _, _, _, _, _, _, _, _, _, _, _, _, _, _, _, _, _, _, _, _, _, _, rfl, rfl, hI0⟩
    · obtain ⟨m1, m2, m3, m4, m5, zm⟩ := mmost_e (cm := v_m_couldMany) (hi := v_m_high) (lo := v_m_low) (best := v_m_best) (could := v_m_could) (row := v_m_row) p1 hG d4 d5 w (by decide) (by decide)
      rw [w, bk1_s, if_neg (show ¬ (1 : Int32) = 0 by decide), zm]
      by_cases hs : v_x_wheel_search_mostTwo_sought = 0
      · obtain ⟨ch', rh', rl', f', w', t', o1, y1, y2, o4⟩ := search_e hG w5 w6 (k := 2) (by decide) (by decide) (Nat.zero_le _) (won := -1) rfl v_x_wheel_search_chosen_cells v_x_wheel_search_mostTwo_tickets_cells w11 w10
        have hck := CK_new o4
        obtain ⟨q1, q2⟩ := CK_won hck (by decide) (by decide) (by decide)
        unfold f_Search_choiceForMost f_Choice_begin
        rw [if_neg (show ¬ nI 2 = (1 : Int32) by decide), if_pos (show nI 2 = (2 : Int32) from rfl), if_pos hs, bk4_s, hsg, o1, bk6_s, bk19_s, if_neg (show ¬ (2 : Nat) = 0 by decide), if_neg (show ¬ (2 : Nat) = 1 by decide)]
        by_cases hp : p1 = -1
        · rw [if_pos hp, q1, bk1_s, hp]
          exact ⟨_, _, _, _, _, _, _, _, _, _, _, _, _, _, _, _, _, _, _, _, _, _, _, _, _, rfl, rfl, ⟨g, g0, g1, pad, pn, k0, k1, hG, hG0, hG1, hk0, hk1, hpn, hpad, rfl, xpad, xpl0, rfl, xi0, rfl, xi1, ⟨rfl, rfl, w3, rfl, w5, w6, w7, rfl, hsg.symm, y2, y1⟩, xc1, hck, xc3, xcf, mpl0, md0, rfl, mpad, mk0, mk1, mi0, mi1⟩⟩
        · rw [if_neg hp, q2 p1 hp, bk1_s]
          exact ⟨_, _, _, _, _, _, _, _, _, _, _, _, _, _, _, _, _, _, _, _, _, _, _, _, _, rfl, rfl, ⟨g, g0, g1, pad, pn, k0, k1, hG, hG0, hG1, hk0, hk1, hpn, hpad, rfl, xpad, xpl0, rfl, xi0, rfl, xi1, ⟨rfl, rfl, w3, rfl, w5, w6, w7, rfl, hsg.symm, y2, y1⟩, xc1, hck, xc3, xcf, mpl0, md0, rfl, mpad, mk0, mk1, mi0, mi1⟩⟩
      · obtain ⟨q1, q2⟩ := CK_won xc2 hs (by decide) (by decide)
        unfold f_Search_choiceForMost
        rw [if_neg (show ¬ nI 2 = (1 : Int32) by decide), if_pos (show nI 2 = (2 : Int32) from rfl), if_neg hs, bk19_s, if_neg (show ¬ (2 : Nat) = 0 by decide), if_neg (show ¬ (2 : Nat) = 1 by decide)]
        by_cases hp : p1 = -1
        · rw [if_pos hp, q1, bk1_s, hp]
          exact ⟨_, _, _, _, _, _, _, _, _, _, _, _, _, _, _, _, _, _, _, _, _, _, _, _, _, rfl, rfl, hI0⟩
        · rw [if_neg hp, q2 p1 hp, bk1_s]
          exact ⟨_, _, _, _, _, _, _, _, _, _, _, _, _, _, _, _, _, _, _, _, _, _, _, _, _, rfl, rfl, hI0⟩
    · obtain ⟨m1, m2, m3, m4, m5, zm⟩ := mmost_e (cm := v_m_couldMany) (hi := v_m_high) (lo := v_m_low) (best := v_m_best) (could := v_m_could) (row := v_m_row) p1 hG d4 d5 w (by decide) (by decide)
      rw [w, bk1_s, if_neg (show ¬ (1 : Int32) = 0 by decide), zm]
      by_cases hs : v_x_wheel_search_mostThree_sought = 0
      · obtain ⟨ch', rh', rl', f', w', t', o1, y1, y2, o4⟩ := search_e hG w5 w6 (k := 3) (by decide) (by decide) (Nat.zero_le _) (won := -1) rfl v_x_wheel_search_chosen_cells v_x_wheel_search_mostThree_tickets_cells w11 w10
        have hck := CK_new o4
        obtain ⟨q1, q2⟩ := CK_won hck (by decide) (by decide) (by decide)
        unfold f_Search_choiceForMost f_Choice_begin
        rw [if_neg (show ¬ nI 3 = (1 : Int32) by decide), if_neg (show ¬ nI 3 = (2 : Int32) by decide), if_pos hs, bk4_s, hsg, o1, bk6_s, bk19_s, if_neg (show ¬ (1 : Nat) = 0 by decide), if_pos (show (1 : Nat) = 1 from rfl)]
        by_cases hp : p1 = -1
        · rw [if_pos hp, q1, bk1_s, hp]
          exact ⟨_, _, _, _, _, _, _, _, _, _, _, _, _, _, _, _, _, _, _, _, _, _, _, _, _, rfl, rfl, ⟨g, g0, g1, pad, pn, k0, k1, hG, hG0, hG1, hk0, hk1, hpn, hpad, rfl, xpad, xpl0, rfl, xi0, rfl, xi1, ⟨rfl, rfl, w3, rfl, w5, w6, w7, rfl, hsg.symm, y2, y1⟩, xc1, xc2, hck, xcf, mpl0, md0, rfl, mpad, mk0, mk1, mi0, mi1⟩⟩
        · rw [if_neg hp, q2 p1 hp, bk1_s]
          exact ⟨_, _, _, _, _, _, _, _, _, _, _, _, _, _, _, _, _, _, _, _, _, _, _, _, _, rfl, rfl, ⟨g, g0, g1, pad, pn, k0, k1, hG, hG0, hG1, hk0, hk1, hpn, hpad, rfl, xpad, xpl0, rfl, xi0, rfl, xi1, ⟨rfl, rfl, w3, rfl, w5, w6, w7, rfl, hsg.symm, y2, y1⟩, xc1, xc2, hck, xcf, mpl0, md0, rfl, mpad, mk0, mk1, mi0, mi1⟩⟩
      · obtain ⟨q1, q2⟩ := CK_won xc3 hs (by decide) (by decide)
        unfold f_Search_choiceForMost
        rw [if_neg (show ¬ nI 3 = (1 : Int32) by decide), if_neg (show ¬ nI 3 = (2 : Int32) by decide), if_neg hs, bk19_s, if_neg (show ¬ (1 : Nat) = 0 by decide), if_pos (show (1 : Nat) = 1 from rfl)]
        by_cases hp : p1 = -1
        · rw [if_pos hp, q1, bk1_s, hp]
          exact ⟨_, _, _, _, _, _, _, _, _, _, _, _, _, _, _, _, _, _, _, _, _, _, _, _, _, rfl, rfl, hI0⟩
        · rw [if_neg hp, q2 p1 hp, bk1_s]
          exact ⟨_, _, _, _, _, _, _, _, _, _, _, _, _, _, _, _, _, _, _, _, _, _, _, _, _, rfl, rfl, hI0⟩
  · unfold f_Model_most
    rw [show (3 : Int64) = (3 : Int32).toInt64 from rfl, show (1 : Int64) = (1 : Int32).toInt64 from rfl, in_e, w]
    exact ⟨_, _, _, _, _, _, _, _, _, _, _, _, _, _, _, _, _, _, _, _, _, _, _, _, _, rfl, rfl, hI0⟩

set_option maxHeartbeats 4000000 in
theorem st_sure : St_sure Inv := by
  intro v_x_pad_size v_x_pad_signs_cells v_x_play_n v_x_play_t v_x_play_d v_x_play_r v_x_play_fond v_x_play_ticketCount v_x_play_sightCount v_x_play_tickets_cells v_x_play_prizes_cells v_x_play_sightTickets_cells v_x_play_sightNumbers_cells v_x_play_sightKinds_cells v_x_wheel_held v_x_wheel_draws_size v_x_wheel_draws_members_cells v_x_wheel_possible_size v_x_wheel_possible_members_cells v_x_wheel_wonByPossible_low v_x_wheel_wonByPossible_high v_x_wheel_wonByHeld_low v_x_wheel_wonByHeld_high v_x_wheel_work_low v_x_wheel_work_high v_x_wheel_search_allDraws v_x_wheel_search_single v_x_wheel_search_reached_low v_x_wheel_search_reached_high v_x_wheel_search_chosen_cells v_x_wheel_search_mostOne_size v_x_wheel_search_mostOne_won v_x_wheel_search_mostOne_found v_x_wheel_search_mostOne_sought v_x_wheel_search_mostOne_tickets_cells v_x_wheel_search_mostTwo_size v_x_wheel_search_mostTwo_won v_x_wheel_search_mostTwo_found v_x_wheel_search_mostTwo_sought v_x_wheel_search_mostTwo_tickets_cells v_x_wheel_search_mostThree_size v_x_wheel_search_mostThree_won v_x_wheel_search_mostThree_found v_x_wheel_search_mostThree_sought v_x_wheel_search_mostThree_tickets_cells v_x_wheel_search_fewest_size v_x_wheel_search_fewest_won v_x_wheel_search_fewest_found v_x_wheel_search_fewest_sought v_x_wheel_search_fewest_tickets_cells v_x_imageZero_kept v_x_imageZero_play_n v_x_imageZero_play_t v_x_imageZero_play_d v_x_imageZero_play_r v_x_imageZero_play_fond v_x_imageZero_play_ticketCount v_x_imageZero_play_sightCount v_x_imageZero_play_tickets_cells v_x_imageZero_play_prizes_cells v_x_imageZero_play_sightTickets_cells v_x_imageZero_play_sightNumbers_cells v_x_imageZero_play_sightKinds_cells v_x_imageOne_kept v_x_imageOne_play_n v_x_imageOne_play_t v_x_imageOne_play_d v_x_imageOne_play_r v_x_imageOne_play_fond v_x_imageOne_play_ticketCount v_x_imageOne_play_sightCount v_x_imageOne_play_tickets_cells v_x_imageOne_play_prizes_cells v_x_imageOne_play_sightTickets_cells v_x_imageOne_play_sightNumbers_cells v_x_imageOne_play_sightKinds_cells v_m_numbers v_m_onTicket v_m_drawn v_m_due v_m_ticketMany v_m_fond v_m_sights v_m_drawMany v_m_setMany v_m_padMany v_m_low v_m_high v_m_couldMany v_m_keptAt v_m_isWriting v_m_tickets v_m_prizes v_m_sightTicket v_m_sightRight v_m_sightHow v_m_draws v_m_sets v_m_winsLow v_m_winsHigh v_m_pad v_m_could v_m_row v_m_best v_m_kept v_m_isKept p0 hI
  have hI0 := hI
  obtain ⟨g, g0, g1, pad, pn, k0, k1, hG, hG0, hG1, hk0, hk1, hpn, hpad, xpn, xpad, xpl, xk0, xi0, xk1, xi1, xw, xc1, xc2, xc3, xcf, mpl, md, mpn, mpad, mk0, mk1, mi0, mi1⟩ := hI
  have xpl0 := xpl
  have mpl0 := mpl
  have xw0 := xw
  have md0 := md
  obtain ⟨a1, a2, a3, a4, a5, a6, a7, a8, a9, a10⟩ := xpl
  obtain ⟨b1, b2, b3, b4, b5, b6, b7, b8, b9, b10⟩ := mpl
  obtain ⟨w1, w2, w3, w4, w5, w6, w7, w8, w9, w10, w11⟩ := xw
  obtain ⟨d1, d2, d3, d4, d5⟩ := md
  have hGV := hG
  obtain ⟨e1, e2, e3, e4, e5, e6, e7, e8, e9, e10, e11, e12, e13, e14, e15, e16⟩ := hGV
  subst xpn
  subst mpn
  subst xk0
  subst xk1
  subst a1
  subst a2
  subst a3
  subst a4
  subst a5
  subst a6
  subst a7
  subst b1
  subst b2
  subst b3
  subst b4
  subst b5
  subst b6
  subst b7
  subst w1
  subst w2
  subst w4
  subst w8
  subst w9
  subst d1
  subst d2
  have hsg : nI (fb_ct (pw (nth (Po g) 0) (g 0 3) (nth (Dr g))) (Dr g).length) = nI (one g) := by rw [one_P hG (Po_ne hG)]
  have hl : ∀ l, FS g = some l → 1 ≤ l.length ∧ l.length ≤ 4 := fun l h => FT_len 4 l (Nat.le_refl _) (by rw [← FT_FS]; exact h)
  unfold f_Main_sure
  obtain ⟨m1, m2, m3, m4, m5, zm⟩ := msure_e (hi := v_m_high) (lo := v_m_low) (best := v_m_best) (could := v_m_could) (row := v_m_row) p0 hG d4 d5
  rw [zm]
  by_cases hs : v_x_wheel_search_fewest_sought = 0
  · obtain ⟨x, a1', a2', a3', a4', a5', a6', a7', a8', i1, y1, y2, i4, i5⟩ := sureL_e hG w5 w6 4 1 300 v_x_wheel_search_chosen_cells v_x_wheel_search_fewest_size v_x_wheel_search_fewest_sought v_x_wheel_search_fewest_won v_x_wheel_search_fewest_tickets_cells v_x_wheel_search_reached_high v_x_wheel_search_reached_low rfl (Nat.le_refl _) (by decide) w11 w10
    have i1' : L_Search_choiceForSure_20 (nI (Dr g).length) (nI (one g)) (nI (Po g).length) v_x_wheel_possible_members_cells v_x_wheel_wonByPossible_high v_x_wheel_wonByPossible_low 300 1 v_x_wheel_search_chosen_cells 0 v_x_wheel_search_fewest_size v_x_wheel_search_fewest_sought v_x_wheel_search_fewest_won v_x_wheel_search_fewest_tickets_cells v_x_wheel_search_reached_high v_x_wheel_search_reached_low = _ := i1
    have ho : a4' = 1 := by
      rcases i4 with q | ⟨q, -⟩
      · exact q
      · exact absurd q (by decide)
    have hcf : CF g a2' a3' a4' a5' a6' := by
      rw [ho]
      refine Or.inr ⟨by decide, ?_⟩
      rw [FT_FS]
      exact i5
    obtain ⟨q1, q2⟩ := CF_won hcf (by rw [ho]; decide) hl
    unfold f_Search_choiceForSure
    rw [if_pos hs, hsg, i1', bk9_s, bk8_s]
    by_cases hp : p0 = -1
    · rw [if_pos hp, q1, bk1_s, hp]
      exact ⟨_, _, _, _, _, _, _, _, _, _, _, _, _, _, _, rfl, rfl, ⟨g, g0, g1, pad, pn, k0, k1, hG, hG0, hG1, hk0, hk1, hpn, hpad, rfl, xpad, xpl0, rfl, xi0, rfl, xi1, ⟨rfl, rfl, w3, rfl, w5, w6, w7, rfl, hsg.symm, y2, y1⟩, xc1, xc2, xc3, hcf, mpl0, md0, rfl, mpad, mk0, mk1, mi0, mi1⟩⟩
    · rw [if_neg hp, q2 p0 hp, bk1_s]
      exact ⟨_, _, _, _, _, _, _, _, _, _, _, _, _, _, _, rfl, rfl, ⟨g, g0, g1, pad, pn, k0, k1, hG, hG0, hG1, hk0, hk1, hpn, hpad, rfl, xpad, xpl0, rfl, xi0, rfl, xi1, ⟨rfl, rfl, w3, rfl, w5, w6, w7, rfl, hsg.symm, y2, y1⟩, xc1, xc2, xc3, hcf, mpl0, md0, rfl, mpad, mk0, mk1, mi0, mi1⟩⟩
  · obtain ⟨q1, q2⟩ := CF_won xcf hs hl
    unfold f_Search_choiceForSure
    rw [if_neg hs, bk8_s]
    by_cases hp : p0 = -1
    · rw [if_pos hp, q1, bk1_s, hp]
      exact ⟨_, _, _, _, _, _, _, _, _, _, _, _, _, _, _, rfl, rfl, hI0⟩
    · rw [if_neg hp, q2 p0 hp, bk1_s]
      exact ⟨_, _, _, _, _, _, _, _, _, _, _, _, _, _, _, rfl, rfl, hI0⟩
