def L_Model_ones_4  : Nat → Int32 → Int64 → Option (Int32 × Int64)
  | 0, _, _ => none
  | n + 1, x2, x3 => if (lg_cmp x3 (0 : Int64)) = (0 : Int32) then some (x2, x3) else L_Model_ones_4  n (x2 + (1 : Int32)) (x3 &&& (x3 - (1 : Int64)))
def f_Model_ones (p0 : Int64) : Option (Int32) :=
  bk2 (L_Model_ones_4  300 (0 : Int32) p0) fun yx2_2 yx3_2 => some (yx2_2)
set_option maxHeartbeats 4000000 in
set_option maxRecDepth 100000 in
theorem c_Model_ones (l : Launch) (D : va_G) (I J Z : ClassId)    (p0 : Int64) (out : (Int32)) (h : f_Model_ones p0 = some out) : CT l D I J Z y_Model_ones b_Model_ones 5 (some .int) 1 [.long p0] [] (PoI out D []) := by
  unfold f_Model_ones at h
  refine CT_of R_Model (by decide +kernel) rfl (Nat.le_of_ble_eq_true rfl) ?_
  intro p e R s m args below meth c A ls Q hR1 hR2 hQ hC hr hW hA hl
  have hx := hC.1
  have hb := hC.2.1
  have hl : lv_has ls 5 [(0, .long p0)] := hl
  have lp4 : ∀ (n : Nat) (x2 : Int32) (x3 : Int64) (yx2 : Int32) (yx3 : Int64), L_Model_ones_4  n x2 x3 = some (yx2, yx3) →
    (∀ H locs, Wd D A s.heap [] H locs → ∀ ls, lv_has ls 5 [(2, .int yx2), (3, .long yx3)] → W p l e R s m args below meth c H locs 0 0 Q (F0 m 22 ls [])) →
    ∀ H locs, Wd D A s.heap [] H locs → ∀ ls, lv_has ls 5 [(2, .int x2), (3, .long x3)] → W p l e R s m args below meth c H locs 0 0 Q (F0 m 4 ls []) := by
    intro n
    induction n with
    | zero =>
      intro x2 x3 yx2 yx3 h
      exact no_e h
    | succ n ih =>
      intro x2 x3 yx2 yx3 h K H locs hW ls hl
      rw [L_Model_ones_4] at h
      refine lv_lload_n hx hb d_Model_ones_4 rfl (lv_at hl 1 rfl) ?_
      refine lv_lconst (v := (0 : Int64)) hx hb d_Model_ones_5 (by decide) ?_
      refine W.lcmp hx hb d_Model_ones_6 ?_
      refine lv_if_eq (tgt := 22) hx hb d_Model_ones_7 (by decide) (fun c_1 => ?_) (fun c_1 => ?_)
      · have h := it_e c_1 h
        cases h
        exact K _ _ hW ls (lv_sub hl [0, 1] rfl)
      · have h := ie_e c_1 h
        refine lv_iinc (v := (x2 + (1 : Int32))) (lv' := [(2, .int (x2 + (1 : Int32))), (3, .long x3)]) hx hb d_Model_ones_10 hl (k := 0) rfl (iinc_e (by decide)) (by decide) rfl (fun ls hl => ?_)
        refine lv_lload_n hx hb d_Model_ones_13 rfl (lv_at hl 1 rfl) ?_
        refine lv_lload_n hx hb d_Model_ones_14 rfl (lv_at hl 1 rfl) ?_
        refine lv_lconst (v := (1 : Int64)) hx hb d_Model_ones_15 (by decide) ?_
        refine lv_lsub hx hb d_Model_ones_16 ?_
        refine lv_land hx hb d_Model_ones_17 ?_
        refine lv_lstore_n (lv' := [(3, .long (x3 &&& (x3 - (1 : Int64)))), (2, .int (x2 + (1 : Int32)))]) hx hb d_Model_ones_18 rfl hl (by decide) rfl (fun ls hl => ?_)
        refine lv_goto (tgt := 4) hx hb d_Model_ones_19 (by decide) ?_
        exact ih (x2 + (1 : Int32)) (x3 &&& (x3 - (1 : Int64))) _ _ h K _ _ hW ls (lv_sub hl [1, 0] rfl)
  refine lv_iconst (v := (0 : Int32)) hx hb d_Model_ones_0 (by decide) ?_
  refine lv_istore_n (lv' := [(2, .int (0 : Int32)), (0, .long p0)]) hx hb d_Model_ones_1 rfl hl (by decide) rfl (fun ls hl => ?_)
  refine lv_lload_n hx hb d_Model_ones_2 rfl (lv_at hl 1 rfl) ?_
  refine lv_lstore_n (lv' := [(3, .long p0), (2, .int (0 : Int32)), (0, .long p0)]) hx hb d_Model_ones_3 rfl hl (by decide) rfl (fun ls hl => ?_)
  obtain ⟨yx2_2, yx3_2, hv_2, h⟩ := bk2_e h
  refine lp4 _ (0 : Int32) p0 yx2_2 yx3_2 hv_2 (fun H locs hW ls hl => ?_) _ _ hW ls (lv_sub hl [1, 0] rfl)
  refine lv_iload_n hx hb d_Model_ones_22 rfl (lv_at hl 0 rfl) ?_
  cases h
  rw [hQ]
  exact x_iret hC hr hW d_Model_ones_23

def f_Model_wins (v_t_due : Int32) (p0 : Int32) (p1 : Int32) : Option (Int32) :=
  bk1 (f_Model_ones (p0 &&& p1).toInt64) fun r_1 => if r_1 < v_t_due then some ((0 : Int32)) else some ((1 : Int32))
set_option maxHeartbeats 4000000 in
set_option maxRecDepth 100000 in
theorem c_Model_wins (l : Launch) (D : va_G) (I J Z : ClassId) (a_t : Nat) (a_t_tickets : Nat) (a_t_prizes : Nat) (a_t_sightTicket : Nat) (a_t_sightRight : Nat) (a_t_sightHow : Nat) (a_t_draws : Nat) (a_t_sets : Nat) (a_t_winsLow : Nat) (a_t_winsHigh : Nat) (a_t_pad : Nat) (a_t_could : Nat) (a_t_row : Nat) (a_t_best : Nat) (a_t_kept : Nat) (a_t_isKept : Nat)  (v_t_numbers : Int32) (v_t_onTicket : Int32) (v_t_drawn : Int32) (v_t_due : Int32) (v_t_ticketMany : Int32) (v_t_fond : Int32) (v_t_sights : Int32) (v_t_drawMany : Int32) (v_t_setMany : Int32) (v_t_padMany : Int32) (v_t_low : Int64) (v_t_high : Int64) (v_t_couldMany : Int32) (v_t_keptAt : Int32) (v_t_isWriting : Int32) (p0 : Int32) (p1 : Int32) (out : (Int32)) (h : f_Model_wins v_t_due p0 p1 = some out) : CT l D I J Z y_Model_wins b_Model_wins 3 (some .boolean) 2 [.ref a_t, .int p0, .int p1] [(a_t, .inr (10, [.int v_t_numbers, .int v_t_onTicket, .int v_t_drawn, .int v_t_due, .ref a_t_tickets, .int v_t_ticketMany, .int v_t_fond, .ref a_t_prizes, .ref a_t_sightTicket, .ref a_t_sightRight, .ref a_t_sightHow, .int v_t_sights, .ref a_t_draws, .int v_t_drawMany, .ref a_t_sets, .int v_t_setMany, .ref a_t_winsLow, .ref a_t_winsHigh, .ref a_t_pad, .int v_t_padMany, .long v_t_low, .long v_t_high, .ref a_t_could, .int v_t_couldMany, .ref a_t_row, .ref a_t_best, .ref a_t_kept, .ref a_t_isKept, .int v_t_keptAt, .int v_t_isWriting]))] (PoI out D [(a_t, .inr (10, [.int v_t_numbers, .int v_t_onTicket, .int v_t_drawn, .int v_t_due, .ref a_t_tickets, .int v_t_ticketMany, .int v_t_fond, .ref a_t_prizes, .ref a_t_sightTicket, .ref a_t_sightRight, .ref a_t_sightHow, .int v_t_sights, .ref a_t_draws, .int v_t_drawMany, .ref a_t_sets, .int v_t_setMany, .ref a_t_winsLow, .ref a_t_winsHigh, .ref a_t_pad, .int v_t_padMany, .long v_t_low, .long v_t_high, .ref a_t_could, .int v_t_couldMany, .ref a_t_row, .ref a_t_best, .ref a_t_kept, .ref a_t_isKept, .int v_t_keptAt, .int v_t_isWriting]))]) := by
  unfold f_Model_wins at h
  refine CT_of R_Model (by decide +kernel) rfl (Nat.le_of_ble_eq_true rfl) ?_
  intro p e R s m args below meth c A ls Q hR1 hR2 hQ hC hr hW hA hl
  have hx := hC.1
  have hb := hC.2.1
  have hl : lv_has ls 3 [(0, .ref a_t), (1, .int p0), (2, .int p1)] := hl
  refine lv_iload_n hx hb d_Model_wins_0 rfl (lv_at hl 1 rfl) ?_
  refine lv_iload_n hx hb d_Model_wins_1 rfl (lv_at hl 2 rfl) ?_
  refine lv_iand hx hb d_Model_wins_2 ?_
  refine lv_i2l hx hb d_Model_wins_3 rfl ?_
  obtain ⟨r_1, hc_1, h⟩ := bk1_e h
  refine x_ci (ws' := [(a_t, .inr (10, [.int v_t_numbers, .int v_t_onTicket, .int v_t_drawn, .int v_t_due, .ref a_t_tickets, .int v_t_ticketMany, .int v_t_fond, .ref a_t_prizes, .ref a_t_sightTicket, .ref a_t_sightRight, .ref a_t_sightHow, .int v_t_sights, .ref a_t_draws, .int v_t_drawMany, .ref a_t_sets, .int v_t_setMany, .ref a_t_winsLow, .ref a_t_winsHigh, .ref a_t_pad, .int v_t_padMany, .long v_t_low, .long v_t_high, .ref a_t_could, .int v_t_couldMany, .ref a_t_row, .ref a_t_best, .ref a_t_kept, .ref a_t_isKept, .int v_t_keptAt, .int v_t_isWriting]))]) (x_runS (rest := []) hC hW (c_Model_ones l D I J Z (p0 &&& p1).toInt64 (r_1) hc_1) cl_Model_92 q_code_Model_ones [] rfl (by decide) rfl hl.1 (Nat.le_of_ble_eq_true rfl) (rm_ok hR1 hR2 (by decide) (by decide)) ⟨Nat.zero_le _, Nat.zero_le _⟩ d_Model_wins_4) hW hA [] rfl rfl (ps := [none]) (by decide +kernel) ⟨rfl, trivial⟩ (fun H locs hW => ?_)
  refine lv_aload_n hx hb d_Model_wins_7 rfl (lv_at hl 0 rfl) ?_
  refine x_get hC hW 0 rfl fl_Model_71 rfl d_Model_wins_8 ?_
  refine lv_icmp_lt (tgt := 18) hx hb d_Model_wins_11 (by decide) (fun c_2 => ?_) (fun c_2 => ?_)
  · have h := it_e c_2 h
    refine lv_iconst (v := (0 : Int32)) hx hb d_Model_wins_18 (by decide) ?_
    cases h
    rw [hQ]
    exact x_zret hC hr (show narrow .boolean (.int (0 : Int32)) = .int (0 : Int32) from rfl) hW d_Model_wins_19
  · have h := ie_e c_2 h
    refine lv_iconst (v := (1 : Int32)) hx hb d_Model_wins_14 (by decide) ?_
    refine lv_goto (tgt := 19) hx hb d_Model_wins_15 (by decide) ?_
    cases h
    rw [hQ]
    exact x_zret hC hr (show narrow .boolean (.int (1 : Int32)) = .int (1 : Int32) from rfl) hW d_Model_wins_19

def L_Model_lowOf_5 (x1 : Int32) (v_t_drawMany : Int32) (v_t_due : Int32) (v_t_draws : Nat → Int32) : Nat → Int64 → Int32 → Option (Int64 × Int32)
  | 0, _, _ => none
  | n + 1, x2, x4 => if v_t_drawMany ≤ x4 then some (x2, x4) else if (64 : Int32) ≤ x4 then some (x2, x4) else gd x4 70 (bk1 (f_Model_wins v_t_due x1 (v_t_draws x4.toNatClampNeg)) fun r_4 => if r_4 = (0 : Int32) then L_Model_lowOf_5 x1 v_t_drawMany v_t_due v_t_draws n (x2 ||| (0 : Int64)) (x4 + (1 : Int32)) else L_Model_lowOf_5 x1 v_t_drawMany v_t_due v_t_draws n (x2 ||| ((1 : Int64) <<< (x4.toInt64 &&& 63))) (x4 + (1 : Int32)))
def f_Model_lowOf (v_t_drawMany : Int32) (v_t_due : Int32) (v_t_draws : Nat → Int32) (p0 : Int32) : Option (Int64) :=
  bk2 (L_Model_lowOf_5 p0 v_t_drawMany v_t_due v_t_draws 300 (0 : Int64) (0 : Int32)) fun yx2_6 yx4_6 => some (yx2_6)
set_option maxHeartbeats 4000000 in
set_option maxRecDepth 100000 in
theorem c_Model_lowOf (l : Launch) (D : va_G) (I J Z : ClassId) (a_t : Nat) (a_t_draws : Nat) (a_t_tickets : Nat) (a_t_prizes : Nat) (a_t_sightTicket : Nat) (a_t_sightRight : Nat) (a_t_sightHow : Nat) (a_t_sets : Nat) (a_t_winsLow : Nat) (a_t_winsHigh : Nat) (a_t_pad : Nat) (a_t_could : Nat) (a_t_row : Nat) (a_t_best : Nat) (a_t_kept : Nat) (a_t_isKept : Nat)  (v_t_numbers : Int32) (v_t_onTicket : Int32) (v_t_drawn : Int32) (v_t_due : Int32) (v_t_ticketMany : Int32) (v_t_fond : Int32) (v_t_sights : Int32) (v_t_drawMany : Int32) (v_t_setMany : Int32) (v_t_padMany : Int32) (v_t_low : Int64) (v_t_high : Int64) (v_t_couldMany : Int32) (v_t_keptAt : Int32) (v_t_isWriting : Int32) (v_t_draws : Nat → Int32) (p0 : Int32) (out : (Int64)) (h : f_Model_lowOf v_t_drawMany v_t_due v_t_draws p0 = some out) : CT l D I J Z y_Model_lowOf b_Model_lowOf 5 (some .long) 3 [.ref a_t, .int p0] [(a_t, .inr (10, [.int v_t_numbers, .int v_t_onTicket, .int v_t_drawn, .int v_t_due, .ref a_t_tickets, .int v_t_ticketMany, .int v_t_fond, .ref a_t_prizes, .ref a_t_sightTicket, .ref a_t_sightRight, .ref a_t_sightHow, .int v_t_sights, .ref a_t_draws, .int v_t_drawMany, .ref a_t_sets, .int v_t_setMany, .ref a_t_winsLow, .ref a_t_winsHigh, .ref a_t_pad, .int v_t_padMany, .long v_t_low, .long v_t_high, .ref a_t_could, .int v_t_couldMany, .ref a_t_row, .ref a_t_best, .ref a_t_kept, .ref a_t_isKept, .int v_t_keptAt, .int v_t_isWriting])), (a_t_draws, .inl (I, 70, .inl v_t_draws))] (PoL out D [(a_t, .inr (10, [.int v_t_numbers, .int v_t_onTicket, .int v_t_drawn, .int v_t_due, .ref a_t_tickets, .int v_t_ticketMany, .int v_t_fond, .ref a_t_prizes, .ref a_t_sightTicket, .ref a_t_sightRight, .ref a_t_sightHow, .int v_t_sights, .ref a_t_draws, .int v_t_drawMany, .ref a_t_sets, .int v_t_setMany, .ref a_t_winsLow, .ref a_t_winsHigh, .ref a_t_pad, .int v_t_padMany, .long v_t_low, .long v_t_high, .ref a_t_could, .int v_t_couldMany, .ref a_t_row, .ref a_t_best, .ref a_t_kept, .ref a_t_isKept, .int v_t_keptAt, .int v_t_isWriting])), (a_t_draws, .inl (I, 70, .inl v_t_draws))]) := by
  unfold f_Model_lowOf at h
  refine CT_of R_Model (by decide +kernel) rfl (Nat.le_of_ble_eq_true rfl) ?_
  intro p e R s m args below meth c A ls Q hR1 hR2 hQ hC hr hW hA hl
  have hx := hC.1
  have hb := hC.2.1
  have hl : lv_has ls 5 [(0, .ref a_t), (1, .int p0)] := hl
  have lp5 : ∀ (n : Nat) (x1 : Int32) (x2 : Int64) (x4 : Int32) (yx2 : Int64) (yx4 : Int32), L_Model_lowOf_5 x1 v_t_drawMany v_t_due v_t_draws n x2 x4 = some (yx2, yx4) →
    (∀ H locs, Wd D A s.heap [(a_t, .inr (10, [.int v_t_numbers, .int v_t_onTicket, .int v_t_drawn, .int v_t_due, .ref a_t_tickets, .int v_t_ticketMany, .int v_t_fond, .ref a_t_prizes, .ref a_t_sightTicket, .ref a_t_sightRight, .ref a_t_sightHow, .int v_t_sights, .ref a_t_draws, .int v_t_drawMany, .ref a_t_sets, .int v_t_setMany, .ref a_t_winsLow, .ref a_t_winsHigh, .ref a_t_pad, .int v_t_padMany, .long v_t_low, .long v_t_high, .ref a_t_could, .int v_t_couldMany, .ref a_t_row, .ref a_t_best, .ref a_t_kept, .ref a_t_isKept, .int v_t_keptAt, .int v_t_isWriting])), (a_t_draws, .inl (I, 70, .inl v_t_draws))] H locs → ∀ ls, lv_has ls 5 [(0, .ref a_t), (1, .int x1), (2, .long yx2), (4, .int yx4)] → W p l e R s m args below meth c H locs 0 0 Q (F0 m 53 ls [])) →
    ∀ H locs, Wd D A s.heap [(a_t, .inr (10, [.int v_t_numbers, .int v_t_onTicket, .int v_t_drawn, .int v_t_due, .ref a_t_tickets, .int v_t_ticketMany, .int v_t_fond, .ref a_t_prizes, .ref a_t_sightTicket, .ref a_t_sightRight, .ref a_t_sightHow, .int v_t_sights, .ref a_t_draws, .int v_t_drawMany, .ref a_t_sets, .int v_t_setMany, .ref a_t_winsLow, .ref a_t_winsHigh, .ref a_t_pad, .int v_t_padMany, .long v_t_low, .long v_t_high, .ref a_t_could, .int v_t_couldMany, .ref a_t_row, .ref a_t_best, .ref a_t_kept, .ref a_t_isKept, .int v_t_keptAt, .int v_t_isWriting])), (a_t_draws, .inl (I, 70, .inl v_t_draws))] H locs → ∀ ls, lv_has ls 5 [(0, .ref a_t), (1, .int x1), (2, .long x2), (4, .int x4)] → W p l e R s m args below meth c H locs 0 0 Q (F0 m 5 ls []) := by
    intro n
    induction n with
    | zero =>
      intro x1 x2 x4 yx2 yx4 h
      exact no_e h
    | succ n ih =>
      intro x1 x2 x4 yx2 yx4 h K H locs hW ls hl
      rw [L_Model_lowOf_5] at h
      refine lv_iload hx hb d_Model_lowOf_5 (lv_at hl 3 rfl) ?_
      refine lv_aload_n hx hb d_Model_lowOf_7 rfl (lv_at hl 0 rfl) ?_
      refine x_get hC hW 0 rfl fl_Model_86 rfl d_Model_lowOf_8 ?_
      refine lv_icmp_ge (tgt := 53) hx hb d_Model_lowOf_11 (by decide) (fun c_1 => ?_) (fun c_1 => ?_)
      · have h := it_e c_1 h
        cases h
        exact K _ _ hW ls (lv_sub hl [0, 1, 2, 3] rfl)
      · have h := ie_e c_1 h
        refine lv_iload hx hb d_Model_lowOf_14 (lv_at hl 3 rfl) ?_
        refine lv_bipush (v := (64 : Int32)) hx hb d_Model_lowOf_16 (by decide) ?_
        refine lv_icmp_ge (tgt := 53) hx hb d_Model_lowOf_18 (by decide) (fun c_2 => ?_) (fun c_2 => ?_)
        · have h := it_e c_2 h
          cases h
          exact K _ _ hW ls (lv_sub hl [0, 1, 2, 3] rfl)
        · have h := ie_e c_2 h
          refine lv_lload_n hx hb d_Model_lowOf_21 rfl (lv_at hl 2 rfl) ?_
          refine lv_aload_n hx hb d_Model_lowOf_22 rfl (lv_at hl 0 rfl) ?_
          refine lv_iload_n hx hb d_Model_lowOf_23 rfl (lv_at hl 1 rfl) ?_
          refine lv_aload_n hx hb d_Model_lowOf_24 rfl (lv_at hl 0 rfl) ?_
          refine x_get hC hW 0 rfl fl_Model_25 rfl d_Model_lowOf_25 ?_
          refine lv_iload hx hb d_Model_lowOf_28 (lv_at hl 3 rfl) ?_
          obtain ⟨hi_3, h⟩ := gd_e h
          refine x_iald hC hW 1 rfl hi_3 d_Model_lowOf_30 ?_
          obtain ⟨r_4, hc_4, h⟩ := bk1_e h
          refine x_ci (ws' := [(a_t, .inr (10, [.int v_t_numbers, .int v_t_onTicket, .int v_t_drawn, .int v_t_due, .ref a_t_tickets, .int v_t_ticketMany, .int v_t_fond, .ref a_t_prizes, .ref a_t_sightTicket, .ref a_t_sightRight, .ref a_t_sightHow, .int v_t_sights, .ref a_t_draws, .int v_t_drawMany, .ref a_t_sets, .int v_t_setMany, .ref a_t_winsLow, .ref a_t_winsHigh, .ref a_t_pad, .int v_t_padMany, .long v_t_low, .long v_t_high, .ref a_t_could, .int v_t_couldMany, .ref a_t_row, .ref a_t_best, .ref a_t_kept, .ref a_t_isKept, .int v_t_keptAt, .int v_t_isWriting])), (a_t_draws, .inl (I, 70, .inl v_t_draws))]) (x_runV (As := [.int x1, .int (v_t_draws x4.toNatClampNeg)]) (rest := [.long x2]) hC hW (c_Model_wins l D I J Z a_t a_t_tickets a_t_prizes a_t_sightTicket a_t_sightRight a_t_sightHow a_t_draws a_t_sets a_t_winsLow a_t_winsHigh a_t_pad a_t_could a_t_row a_t_best a_t_kept a_t_isKept v_t_numbers v_t_onTicket v_t_drawn v_t_due v_t_ticketMany v_t_fond v_t_sights v_t_drawMany v_t_setMany v_t_padMany v_t_low v_t_high v_t_couldMany v_t_keptAt v_t_isWriting x1 (v_t_draws x4.toNatClampNeg) (r_4) hc_4) cl_Model_103 q_code_Model_wins [0] rfl (by decide) 0 rfl rfl rfl rfl hl.1 (Nat.le_of_ble_eq_true rfl) (rm_ok hR1 hR2 (by decide) (by decide)) ⟨Nat.zero_le _, Nat.zero_le _⟩ d_Model_lowOf_31) hW hA [0] rfl rfl (ps := [some 0, none]) (by decide +kernel) ⟨rfl, rfl, trivial⟩ (fun H locs hW => ?_)
          refine lv_if_eq (tgt := 44) hx hb d_Model_lowOf_34 (by decide) (fun c_5 => ?_) (fun c_5 => ?_)
          · have h := it_e c_5 h
            refine lv_lconst (v := (0 : Int64)) hx hb d_Model_lowOf_44 (by decide) ?_
            refine lv_lor hx hb d_Model_lowOf_45 ?_
            refine lv_lstore_n (lv' := [(2, .long (x2 ||| (0 : Int64))), (0, .ref a_t), (1, .int x1), (4, .int x4)]) hx hb d_Model_lowOf_46 rfl hl (by decide) rfl (fun ls hl => ?_)
            refine lv_iinc (v := (x4 + (1 : Int32))) (lv' := [(4, .int (x4 + (1 : Int32))), (2, .long (x2 ||| (0 : Int64))), (0, .ref a_t), (1, .int x1)]) hx hb d_Model_lowOf_47 hl (k := 3) rfl (iinc_e (by decide)) (by decide) rfl (fun ls hl => ?_)
            refine lv_goto (tgt := 5) hx hb d_Model_lowOf_50 (by decide) ?_
            exact ih x1 (x2 ||| (0 : Int64)) (x4 + (1 : Int32)) _ _ h K _ _ hW ls (lv_sub hl [2, 3, 1, 0] rfl)
          · have h := ie_e c_5 h
            refine lv_lconst (v := (1 : Int64)) hx hb d_Model_lowOf_37 (by decide) ?_
            refine lv_iload hx hb d_Model_lowOf_38 (lv_at hl 3 rfl) ?_
            refine lv_lshl hx hb d_Model_lowOf_40 rfl ?_
            refine lv_goto (tgt := 45) hx hb d_Model_lowOf_41 (by decide) ?_
            refine lv_lor hx hb d_Model_lowOf_45 ?_
            refine lv_lstore_n (lv' := [(2, .long (x2 ||| ((1 : Int64) <<< (x4.toInt64 &&& 63)))), (0, .ref a_t), (1, .int x1), (4, .int x4)]) hx hb d_Model_lowOf_46 rfl hl (by decide) rfl (fun ls hl => ?_)
            refine lv_iinc (v := (x4 + (1 : Int32))) (lv' := [(4, .int (x4 + (1 : Int32))), (2, .long (x2 ||| ((1 : Int64) <<< (x4.toInt64 &&& 63)))), (0, .ref a_t), (1, .int x1)]) hx hb d_Model_lowOf_47 hl (k := 3) rfl (iinc_e (by decide)) (by decide) rfl (fun ls hl => ?_)
            refine lv_goto (tgt := 5) hx hb d_Model_lowOf_50 (by decide) ?_
            exact ih x1 (x2 ||| ((1 : Int64) <<< (x4.toInt64 &&& 63))) (x4 + (1 : Int32)) _ _ h K _ _ hW ls (lv_sub hl [2, 3, 1, 0] rfl)
  refine lv_lconst (v := (0 : Int64)) hx hb d_Model_lowOf_0 (by decide) ?_
  refine lv_lstore_n (lv' := [(2, .long (0 : Int64)), (0, .ref a_t), (1, .int p0)]) hx hb d_Model_lowOf_1 rfl hl (by decide) rfl (fun ls hl => ?_)
  refine lv_iconst (v := (0 : Int32)) hx hb d_Model_lowOf_2 (by decide) ?_
  refine lv_istore (lv' := [(4, .int (0 : Int32)), (2, .long (0 : Int64)), (0, .ref a_t), (1, .int p0)]) hx hb d_Model_lowOf_3 hl (by decide) rfl (fun ls hl => ?_)
  obtain ⟨yx2_6, yx4_6, hv_6, h⟩ := bk2_e h
  refine lp5 _ p0 (0 : Int64) (0 : Int32) yx2_6 yx4_6 hv_6 (fun H locs hW ls hl => ?_) _ _ hW ls (lv_sub hl [2, 3, 1, 0] rfl)
  refine lv_lload_n hx hb d_Model_lowOf_53 rfl (lv_at hl 2 rfl) ?_
  cases h
  rw [hQ]
  exact x_lret hC hr hW d_Model_lowOf_54

def L_Model_highOf_6 (x1 : Int32) (v_t_drawMany : Int32) (v_t_due : Int32) (v_t_draws : Nat → Int32) : Nat → Int64 → Int32 → Option (Int64 × Int32)
  | 0, _, _ => none
  | n + 1, x2, x4 => if v_t_drawMany ≤ x4 then some (x2, x4) else gd x4 70 (bk1 (f_Model_wins v_t_due x1 (v_t_draws x4.toNatClampNeg)) fun r_3 => if r_3 = (0 : Int32) then L_Model_highOf_6 x1 v_t_drawMany v_t_due v_t_draws n (x2 ||| (0 : Int64)) (x4 + (1 : Int32)) else L_Model_highOf_6 x1 v_t_drawMany v_t_due v_t_draws n (x2 ||| ((1 : Int64) <<< ((x4 - (64 : Int32)).toInt64 &&& 63))) (x4 + (1 : Int32)))
def f_Model_highOf (v_t_drawMany : Int32) (v_t_due : Int32) (v_t_draws : Nat → Int32) (p0 : Int32) : Option (Int64) :=
  bk2 (L_Model_highOf_6 p0 v_t_drawMany v_t_due v_t_draws 300 (0 : Int64) (64 : Int32)) fun yx2_5 yx4_5 => some (yx2_5)
set_option maxHeartbeats 4000000 in
set_option maxRecDepth 100000 in
theorem c_Model_highOf (l : Launch) (D : va_G) (I J Z : ClassId) (a_t : Nat) (a_t_draws : Nat) (a_t_tickets : Nat) (a_t_prizes : Nat) (a_t_sightTicket : Nat) (a_t_sightRight : Nat) (a_t_sightHow : Nat) (a_t_sets : Nat) (a_t_winsLow : Nat) (a_t_winsHigh : Nat) (a_t_pad : Nat) (a_t_could : Nat) (a_t_row : Nat) (a_t_best : Nat) (a_t_kept : Nat) (a_t_isKept : Nat)  (v_t_numbers : Int32) (v_t_onTicket : Int32) (v_t_drawn : Int32) (v_t_due : Int32) (v_t_ticketMany : Int32) (v_t_fond : Int32) (v_t_sights : Int32) (v_t_drawMany : Int32) (v_t_setMany : Int32) (v_t_padMany : Int32) (v_t_low : Int64) (v_t_high : Int64) (v_t_couldMany : Int32) (v_t_keptAt : Int32) (v_t_isWriting : Int32) (v_t_draws : Nat → Int32) (p0 : Int32) (out : (Int64)) (h : f_Model_highOf v_t_drawMany v_t_due v_t_draws p0 = some out) : CT l D I J Z y_Model_highOf b_Model_highOf 5 (some .long) 3 [.ref a_t, .int p0] [(a_t, .inr (10, [.int v_t_numbers, .int v_t_onTicket, .int v_t_drawn, .int v_t_due, .ref a_t_tickets, .int v_t_ticketMany, .int v_t_fond, .ref a_t_prizes, .ref a_t_sightTicket, .ref a_t_sightRight, .ref a_t_sightHow, .int v_t_sights, .ref a_t_draws, .int v_t_drawMany, .ref a_t_sets, .int v_t_setMany, .ref a_t_winsLow, .ref a_t_winsHigh, .ref a_t_pad, .int v_t_padMany, .long v_t_low, .long v_t_high, .ref a_t_could, .int v_t_couldMany, .ref a_t_row, .ref a_t_best, .ref a_t_kept, .ref a_t_isKept, .int v_t_keptAt, .int v_t_isWriting])), (a_t_draws, .inl (I, 70, .inl v_t_draws))] (PoL out D [(a_t, .inr (10, [.int v_t_numbers, .int v_t_onTicket, .int v_t_drawn, .int v_t_due, .ref a_t_tickets, .int v_t_ticketMany, .int v_t_fond, .ref a_t_prizes, .ref a_t_sightTicket, .ref a_t_sightRight, .ref a_t_sightHow, .int v_t_sights, .ref a_t_draws, .int v_t_drawMany, .ref a_t_sets, .int v_t_setMany, .ref a_t_winsLow, .ref a_t_winsHigh, .ref a_t_pad, .int v_t_padMany, .long v_t_low, .long v_t_high, .ref a_t_could, .int v_t_couldMany, .ref a_t_row, .ref a_t_best, .ref a_t_kept, .ref a_t_isKept, .int v_t_keptAt, .int v_t_isWriting])), (a_t_draws, .inl (I, 70, .inl v_t_draws))]) := by
  unfold f_Model_highOf at h
  refine CT_of R_Model (by decide +kernel) rfl (Nat.le_of_ble_eq_true rfl) ?_
  intro p e R s m args below meth c A ls Q hR1 hR2 hQ hC hr hW hA hl
  have hx := hC.1
  have hb := hC.2.1
  have hl : lv_has ls 5 [(0, .ref a_t), (1, .int p0)] := hl
  have lp6 : ∀ (n : Nat) (x1 : Int32) (x2 : Int64) (x4 : Int32) (yx2 : Int64) (yx4 : Int32), L_Model_highOf_6 x1 v_t_drawMany v_t_due v_t_draws n x2 x4 = some (yx2, yx4) →
    (∀ H locs, Wd D A s.heap [(a_t, .inr (10, [.int v_t_numbers, .int v_t_onTicket, .int v_t_drawn, .int v_t_due, .ref a_t_tickets, .int v_t_ticketMany, .int v_t_fond, .ref a_t_prizes, .ref a_t_sightTicket, .ref a_t_sightRight, .ref a_t_sightHow, .int v_t_sights, .ref a_t_draws, .int v_t_drawMany, .ref a_t_sets, .int v_t_setMany, .ref a_t_winsLow, .ref a_t_winsHigh, .ref a_t_pad, .int v_t_padMany, .long v_t_low, .long v_t_high, .ref a_t_could, .int v_t_couldMany, .ref a_t_row, .ref a_t_best, .ref a_t_kept, .ref a_t_isKept, .int v_t_keptAt, .int v_t_isWriting])), (a_t_draws, .inl (I, 70, .inl v_t_draws))] H locs → ∀ ls, lv_has ls 5 [(0, .ref a_t), (1, .int x1), (2, .long yx2), (4, .int yx4)] → W p l e R s m args below meth c H locs 0 0 Q (F0 m 50 ls [])) →
    ∀ H locs, Wd D A s.heap [(a_t, .inr (10, [.int v_t_numbers, .int v_t_onTicket, .int v_t_drawn, .int v_t_due, .ref a_t_tickets, .int v_t_ticketMany, .int v_t_fond, .ref a_t_prizes, .ref a_t_sightTicket, .ref a_t_sightRight, .ref a_t_sightHow, .int v_t_sights, .ref a_t_draws, .int v_t_drawMany, .ref a_t_sets, .int v_t_setMany, .ref a_t_winsLow, .ref a_t_winsHigh, .ref a_t_pad, .int v_t_padMany, .long v_t_low, .long v_t_high, .ref a_t_could, .int v_t_couldMany, .ref a_t_row, .ref a_t_best, .ref a_t_kept, .ref a_t_isKept, .int v_t_keptAt, .int v_t_isWriting])), (a_t_draws, .inl (I, 70, .inl v_t_draws))] H locs → ∀ ls, lv_has ls 5 [(0, .ref a_t), (1, .int x1), (2, .long x2), (4, .int x4)] → W p l e R s m args below meth c H locs 0 0 Q (F0 m 6 ls []) := by
    intro n
    induction n with
    | zero =>
      intro x1 x2 x4 yx2 yx4 h
      exact no_e h
    | succ n ih =>
      intro x1 x2 x4 yx2 yx4 h K H locs hW ls hl
      rw [L_Model_highOf_6] at h
      refine lv_iload hx hb d_Model_highOf_6 (lv_at hl 3 rfl) ?_
      refine lv_aload_n hx hb d_Model_highOf_8 rfl (lv_at hl 0 rfl) ?_
      refine x_get hC hW 0 rfl fl_Model_86 rfl d_Model_highOf_9 ?_
      refine lv_icmp_ge (tgt := 50) hx hb d_Model_highOf_12 (by decide) (fun c_1 => ?_) (fun c_1 => ?_)
      · have h := it_e c_1 h
        cases h
        exact K _ _ hW ls (lv_sub hl [0, 1, 2, 3] rfl)
      · have h := ie_e c_1 h
        refine lv_lload_n hx hb d_Model_highOf_15 rfl (lv_at hl 2 rfl) ?_
        refine lv_aload_n hx hb d_Model_highOf_16 rfl (lv_at hl 0 rfl) ?_
        refine lv_iload_n hx hb d_Model_highOf_17 rfl (lv_at hl 1 rfl) ?_
        refine lv_aload_n hx hb d_Model_highOf_18 rfl (lv_at hl 0 rfl) ?_
        refine x_get hC hW 0 rfl fl_Model_25 rfl d_Model_highOf_19 ?_
        refine lv_iload hx hb d_Model_highOf_22 (lv_at hl 3 rfl) ?_
        obtain ⟨hi_2, h⟩ := gd_e h
        refine x_iald hC hW 1 rfl hi_2 d_Model_highOf_24 ?_
        obtain ⟨r_3, hc_3, h⟩ := bk1_e h
        refine x_ci (ws' := [(a_t, .inr (10, [.int v_t_numbers, .int v_t_onTicket, .int v_t_drawn, .int v_t_due, .ref a_t_tickets, .int v_t_ticketMany, .int v_t_fond, .ref a_t_prizes, .ref a_t_sightTicket, .ref a_t_sightRight, .ref a_t_sightHow, .int v_t_sights, .ref a_t_draws, .int v_t_drawMany, .ref a_t_sets, .int v_t_setMany, .ref a_t_winsLow, .ref a_t_winsHigh, .ref a_t_pad, .int v_t_padMany, .long v_t_low, .long v_t_high, .ref a_t_could, .int v_t_couldMany, .ref a_t_row, .ref a_t_best, .ref a_t_kept, .ref a_t_isKept, .int v_t_keptAt, .int v_t_isWriting])), (a_t_draws, .inl (I, 70, .inl v_t_draws))]) (x_runV (As := [.int x1, .int (v_t_draws x4.toNatClampNeg)]) (rest := [.long x2]) hC hW (c_Model_wins l D I J Z a_t a_t_tickets a_t_prizes a_t_sightTicket a_t_sightRight a_t_sightHow a_t_draws a_t_sets a_t_winsLow a_t_winsHigh a_t_pad a_t_could a_t_row a_t_best a_t_kept a_t_isKept v_t_numbers v_t_onTicket v_t_drawn v_t_due v_t_ticketMany v_t_fond v_t_sights v_t_drawMany v_t_setMany v_t_padMany v_t_low v_t_high v_t_couldMany v_t_keptAt v_t_isWriting x1 (v_t_draws x4.toNatClampNeg) (r_3) hc_3) cl_Model_103 q_code_Model_wins [0] rfl (by decide) 0 rfl rfl rfl rfl hl.1 (Nat.le_of_ble_eq_true rfl) (rm_ok hR1 hR2 (by decide) (by decide)) ⟨Nat.zero_le _, Nat.zero_le _⟩ d_Model_highOf_25) hW hA [0] rfl rfl (ps := [some 0, none]) (by decide +kernel) ⟨rfl, rfl, trivial⟩ (fun H locs hW => ?_)
        refine lv_if_eq (tgt := 41) hx hb d_Model_highOf_28 (by decide) (fun c_4 => ?_) (fun c_4 => ?_)
        · have h := it_e c_4 h
          refine lv_lconst (v := (0 : Int64)) hx hb d_Model_highOf_41 (by decide) ?_
          refine lv_lor hx hb d_Model_highOf_42 ?_
          refine lv_lstore_n (lv' := [(2, .long (x2 ||| (0 : Int64))), (0, .ref a_t), (1, .int x1), (4, .int x4)]) hx hb d_Model_highOf_43 rfl hl (by decide) rfl (fun ls hl => ?_)
          refine lv_iinc (v := (x4 + (1 : Int32))) (lv' := [(4, .int (x4 + (1 : Int32))), (2, .long (x2 ||| (0 : Int64))), (0, .ref a_t), (1, .int x1)]) hx hb d_Model_highOf_44 hl (k := 3) rfl (iinc_e (by decide)) (by decide) rfl (fun ls hl => ?_)
          refine lv_goto (tgt := 6) hx hb d_Model_highOf_47 (by decide) ?_
          exact ih x1 (x2 ||| (0 : Int64)) (x4 + (1 : Int32)) _ _ h K _ _ hW ls (lv_sub hl [2, 3, 1, 0] rfl)
        · have h := ie_e c_4 h
          refine lv_lconst (v := (1 : Int64)) hx hb d_Model_highOf_31 (by decide) ?_
          refine lv_iload hx hb d_Model_highOf_32 (lv_at hl 3 rfl) ?_
          refine lv_bipush (v := (64 : Int32)) hx hb d_Model_highOf_34 (by decide) ?_
          refine lv_isub hx hb d_Model_highOf_36 ?_
          refine lv_lshl hx hb d_Model_highOf_37 rfl ?_
          refine lv_goto (tgt := 42) hx hb d_Model_highOf_38 (by decide) ?_
          refine lv_lor hx hb d_Model_highOf_42 ?_
          refine lv_lstore_n (lv' := [(2, .long (x2 ||| ((1 : Int64) <<< ((x4 - (64 : Int32)).toInt64 &&& 63)))), (0, .ref a_t), (1, .int x1), (4, .int x4)]) hx hb d_Model_highOf_43 rfl hl (by decide) rfl (fun ls hl => ?_)
          refine lv_iinc (v := (x4 + (1 : Int32))) (lv' := [(4, .int (x4 + (1 : Int32))), (2, .long (x2 ||| ((1 : Int64) <<< ((x4 - (64 : Int32)).toInt64 &&& 63)))), (0, .ref a_t), (1, .int x1)]) hx hb d_Model_highOf_44 hl (k := 3) rfl (iinc_e (by decide)) (by decide) rfl (fun ls hl => ?_)
          refine lv_goto (tgt := 6) hx hb d_Model_highOf_47 (by decide) ?_
          exact ih x1 (x2 ||| ((1 : Int64) <<< ((x4 - (64 : Int32)).toInt64 &&& 63))) (x4 + (1 : Int32)) _ _ h K _ _ hW ls (lv_sub hl [2, 3, 1, 0] rfl)
  refine lv_lconst (v := (0 : Int64)) hx hb d_Model_highOf_0 (by decide) ?_
  refine lv_lstore_n (lv' := [(2, .long (0 : Int64)), (0, .ref a_t), (1, .int p0)]) hx hb d_Model_highOf_1 rfl hl (by decide) rfl (fun ls hl => ?_)
  refine lv_bipush (v := (64 : Int32)) hx hb d_Model_highOf_2 (by decide) ?_
  refine lv_istore (lv' := [(4, .int (64 : Int32)), (2, .long (0 : Int64)), (0, .ref a_t), (1, .int p0)]) hx hb d_Model_highOf_4 hl (by decide) rfl (fun ls hl => ?_)
  obtain ⟨yx2_5, yx4_5, hv_5, h⟩ := bk2_e h
  refine lp6 _ p0 (0 : Int64) (64 : Int32) yx2_5 yx4_5 hv_5 (fun H locs hW ls hl => ?_) _ _ hW ls (lv_sub hl [2, 3, 1, 0] rfl)
  refine lv_lload_n hx hb d_Model_highOf_50 rfl (lv_at hl 2 rfl) ?_
  cases h
  rw [hQ]
  exact x_lret hC hr hW d_Model_highOf_51

def L_Model_findAll_12 (v_t_drawn : Int32) (v_t_numbers : Int32) (v_t_onTicket : Int32) : Nat → Int32 → Int32 → Int32 → (Nat → Int32) → (Nat → Int32) → Option (Int32 × Int32 × Int32 × (Nat → Int32) × (Nat → Int32))
  | 0, _, _, _, _, _ => none
  | n + 1, x1, v_t_drawMany, v_t_setMany, v_t_draws, v_t_sets => if ((1 : Int32) <<< (v_t_numbers &&& 31)) ≤ x1 then some (x1, v_t_drawMany, v_t_setMany, v_t_draws, v_t_sets) else bk1 (f_Model_ones x1.toInt64) fun r_2 => if r_2 = v_t_drawn then gd v_t_drawMany 70 (bk1 (f_Model_ones x1.toInt64) fun r_8 => if r_8 = v_t_onTicket then gd v_t_setMany 70 (L_Model_findAll_12 v_t_drawn v_t_numbers v_t_onTicket n (x1 + (1 : Int32)) (v_t_drawMany + (1 : Int32)) (v_t_setMany + (1 : Int32)) (upd v_t_draws v_t_drawMany.toNatClampNeg x1) (upd v_t_sets v_t_setMany.toNatClampNeg x1)) else L_Model_findAll_12 v_t_drawn v_t_numbers v_t_onTicket n (x1 + (1 : Int32)) (v_t_drawMany + (1 : Int32)) v_t_setMany (upd v_t_draws v_t_drawMany.toNatClampNeg x1) v_t_sets) else bk1 (f_Model_ones x1.toInt64) fun r_4 => if r_4 = v_t_onTicket then gd v_t_setMany 70 (L_Model_findAll_12 v_t_drawn v_t_numbers v_t_onTicket n (x1 + (1 : Int32)) v_t_drawMany (v_t_setMany + (1 : Int32)) v_t_draws (upd v_t_sets v_t_setMany.toNatClampNeg x1)) else L_Model_findAll_12 v_t_drawn v_t_numbers v_t_onTicket n (x1 + (1 : Int32)) v_t_drawMany v_t_setMany v_t_draws v_t_sets
def L_Model_findAll_94 (v_t_drawMany : Int32) (v_t_setMany : Int32) (v_t_draws : Nat → Int32) (v_t_sets : Nat → Int32) (v_t_due : Int32) : Nat → Int32 → (Nat → Int64) → (Nat → Int64) → Option (Int32 × (Nat → Int64) × (Nat → Int64))
  | 0, _, _, _ => none
  | n + 1, x1, v_t_winsHigh, v_t_winsLow => if v_t_setMany ≤ x1 then some (x1, v_t_winsHigh, v_t_winsLow) else gd x1 70 (bk1 (f_Model_lowOf v_t_drawMany v_t_due v_t_draws (v_t_sets x1.toNatClampNeg)) fun r_14 => gd x1 70 (gd x1 70 (bk1 (f_Model_highOf v_t_drawMany v_t_due v_t_draws (v_t_sets x1.toNatClampNeg)) fun r_17 => gd x1 70 (L_Model_findAll_94 v_t_drawMany v_t_setMany v_t_draws v_t_sets v_t_due n (x1 + (1 : Int32)) (vp_updL v_t_winsHigh x1.toNatClampNeg r_17) (vp_updL v_t_winsLow x1.toNatClampNeg r_14)))))
def f_Model_findAll (v_t_drawn : Int32) (v_t_due : Int32) (v_t_numbers : Int32) (v_t_onTicket : Int32) (v_t_draws : Nat → Int32) (v_t_sets : Nat → Int32) (v_t_winsHigh : Nat → Int64) (v_t_winsLow : Nat → Int64) : Option (Int32 × Int32 × (Nat → Int32) × (Nat → Int32) × (Nat → Int64) × (Nat → Int64)) :=
  bk5 (L_Model_findAll_12 v_t_drawn v_t_numbers v_t_onTicket 300 (0 : Int32) (0 : Int32) (0 : Int32) v_t_draws v_t_sets) fun yx1_11 y_t_drawMany_11 y_t_setMany_11 y_t_draws_11 y_t_sets_11 => bk3 (L_Model_findAll_94 y_t_drawMany_11 y_t_setMany_11 y_t_draws_11 y_t_sets_11 v_t_due 300 (0 : Int32) v_t_winsHigh v_t_winsLow) fun yx1_19 y_t_winsHigh_19 y_t_winsLow_19 => some (y_t_drawMany_11, y_t_setMany_11, y_t_draws_11, y_t_sets_11, y_t_winsHigh_19, y_t_winsLow_19)
set_option maxHeartbeats 4000000 in
set_option maxRecDepth 100000 in
theorem c_Model_findAll (l : Launch) (D : va_G) (I J Z : ClassId) (a_t : Nat) (a_t_draws : Nat) (a_t_sets : Nat) (a_t_winsHigh : Nat) (a_t_winsLow : Nat) (a_t_tickets : Nat) (a_t_prizes : Nat) (a_t_sightTicket : Nat) (a_t_sightRight : Nat) (a_t_sightHow : Nat) (a_t_pad : Nat) (a_t_could : Nat) (a_t_row : Nat) (a_t_best : Nat) (a_t_kept : Nat) (a_t_isKept : Nat)  (v_t_numbers : Int32) (v_t_onTicket : Int32) (v_t_drawn : Int32) (v_t_due : Int32) (v_t_ticketMany : Int32) (v_t_fond : Int32) (v_t_sights : Int32) (v_t_drawMany : Int32) (v_t_setMany : Int32) (v_t_padMany : Int32) (v_t_low : Int64) (v_t_high : Int64) (v_t_couldMany : Int32) (v_t_keptAt : Int32) (v_t_isWriting : Int32) (v_t_draws : Nat → Int32) (v_t_sets : Nat → Int32) (v_t_winsHigh : Nat → Int64) (v_t_winsLow : Nat → Int64)  (out : (Int32 × Int32 × (Nat → Int32) × (Nat → Int32) × (Nat → Int64) × (Nat → Int64))) (h : f_Model_findAll v_t_drawn v_t_due v_t_numbers v_t_onTicket v_t_draws v_t_sets v_t_winsHigh v_t_winsLow = some out) : CT l D I J Z y_Model_findAll b_Model_findAll 2 none 4 [.ref a_t] [(a_t, .inr (10, [.int v_t_numbers, .int v_t_onTicket, .int v_t_drawn, .int v_t_due, .ref a_t_tickets, .int v_t_ticketMany, .int v_t_fond, .ref a_t_prizes, .ref a_t_sightTicket, .ref a_t_sightRight, .ref a_t_sightHow, .int v_t_sights, .ref a_t_draws, .int v_t_drawMany, .ref a_t_sets, .int v_t_setMany, .ref a_t_winsLow, .ref a_t_winsHigh, .ref a_t_pad, .int v_t_padMany, .long v_t_low, .long v_t_high, .ref a_t_could, .int v_t_couldMany, .ref a_t_row, .ref a_t_best, .ref a_t_kept, .ref a_t_isKept, .int v_t_keptAt, .int v_t_isWriting])), (a_t_draws, .inl (I, 70, .inl v_t_draws)), (a_t_sets, .inl (I, 70, .inl v_t_sets)), (a_t_winsHigh, .inl (J, 70, .inr (.inl v_t_winsHigh))), (a_t_winsLow, .inl (J, 70, .inr (.inl v_t_winsLow)))] (PoV D [(a_t, .inr (10, [.int v_t_numbers, .int v_t_onTicket, .int v_t_drawn, .int v_t_due, .ref a_t_tickets, .int v_t_ticketMany, .int v_t_fond, .ref a_t_prizes, .ref a_t_sightTicket, .ref a_t_sightRight, .ref a_t_sightHow, .int v_t_sights, .ref a_t_draws, .int out.1, .ref a_t_sets, .int out.2.1, .ref a_t_winsLow, .ref a_t_winsHigh, .ref a_t_pad, .int v_t_padMany, .long v_t_low, .long v_t_high, .ref a_t_could, .int v_t_couldMany, .ref a_t_row, .ref a_t_best, .ref a_t_kept, .ref a_t_isKept, .int v_t_keptAt, .int v_t_isWriting])), (a_t_draws, .inl (I, 70, .inl out.2.2.1)), (a_t_sets, .inl (I, 70, .inl out.2.2.2.1)), (a_t_winsHigh, .inl (J, 70, .inr (.inl out.2.2.2.2.1))), (a_t_winsLow, .inl (J, 70, .inr (.inl out.2.2.2.2.2)))]) := by
  unfold f_Model_findAll at h
  refine CT_of R_Model (by decide +kernel) rfl (Nat.le_of_ble_eq_true rfl) ?_
  intro p e R s m args below meth c A ls Q hR1 hR2 hQ hC hr hW hA hl
  have hx := hC.1
  have hb := hC.2.1
  have hl : lv_has ls 2 [(0, .ref a_t)] := hl
  have lp12 : ∀ (n : Nat) (x1 : Int32) (v_t_drawMany : Int32) (v_t_setMany : Int32) (v_t_draws : Nat → Int32) (v_t_sets : Nat → Int32) (v_t_winsHigh : Nat → Int64) (v_t_winsLow : Nat → Int64) (yx1 : Int32) (y_t_drawMany : Int32) (y_t_setMany : Int32) (y_t_draws : Nat → Int32) (y_t_sets : Nat → Int32), L_Model_findAll_12 v_t_drawn v_t_numbers v_t_onTicket n x1 v_t_drawMany v_t_setMany v_t_draws v_t_sets = some (yx1, y_t_drawMany, y_t_setMany, y_t_draws, y_t_sets) →
    (∀ H locs, Wd D A s.heap [(a_t, .inr (10, [.int v_t_numbers, .int v_t_onTicket, .int v_t_drawn, .int v_t_due, .ref a_t_tickets, .int v_t_ticketMany, .int v_t_fond, .ref a_t_prizes, .ref a_t_sightTicket, .ref a_t_sightRight, .ref a_t_sightHow, .int v_t_sights, .ref a_t_draws, .int y_t_drawMany, .ref a_t_sets, .int y_t_setMany, .ref a_t_winsLow, .ref a_t_winsHigh, .ref a_t_pad, .int v_t_padMany, .long v_t_low, .long v_t_high, .ref a_t_could, .int v_t_couldMany, .ref a_t_row, .ref a_t_best, .ref a_t_kept, .ref a_t_isKept, .int v_t_keptAt, .int v_t_isWriting])), (a_t_draws, .inl (I, 70, .inl y_t_draws)), (a_t_sets, .inl (I, 70, .inl y_t_sets)), (a_t_winsHigh, .inl (J, 70, .inr (.inl v_t_winsHigh))), (a_t_winsLow, .inl (J, 70, .inr (.inl v_t_winsLow)))] H locs → ∀ ls, lv_has ls 2 [(0, .ref a_t), (1, .int yx1)] → W p l e R s m args below meth c H locs 0 0 Q (F0 m 92 ls [])) →
    ∀ H locs, Wd D A s.heap [(a_t, .inr (10, [.int v_t_numbers, .int v_t_onTicket, .int v_t_drawn, .int v_t_due, .ref a_t_tickets, .int v_t_ticketMany, .int v_t_fond, .ref a_t_prizes, .ref a_t_sightTicket, .ref a_t_sightRight, .ref a_t_sightHow, .int v_t_sights, .ref a_t_draws, .int v_t_drawMany, .ref a_t_sets, .int v_t_setMany, .ref a_t_winsLow, .ref a_t_winsHigh, .ref a_t_pad, .int v_t_padMany, .long v_t_low, .long v_t_high, .ref a_t_could, .int v_t_couldMany, .ref a_t_row, .ref a_t_best, .ref a_t_kept, .ref a_t_isKept, .int v_t_keptAt, .int v_t_isWriting])), (a_t_draws, .inl (I, 70, .inl v_t_draws)), (a_t_sets, .inl (I, 70, .inl v_t_sets)), (a_t_winsHigh, .inl (J, 70, .inr (.inl v_t_winsHigh))), (a_t_winsLow, .inl (J, 70, .inr (.inl v_t_winsLow)))] H locs → ∀ ls, lv_has ls 2 [(0, .ref a_t), (1, .int x1)] → W p l e R s m args below meth c H locs 0 0 Q (F0 m 12 ls []) := by
    intro n
    induction n with
    | zero =>
      intro x1 v_t_drawMany v_t_setMany v_t_draws v_t_sets v_t_winsHigh v_t_winsLow yx1 y_t_drawMany y_t_setMany y_t_draws y_t_sets h
      exact no_e h
    | succ n ih =>
      intro x1 v_t_drawMany v_t_setMany v_t_draws v_t_sets v_t_winsHigh v_t_winsLow yx1 y_t_drawMany y_t_setMany y_t_draws y_t_sets h K H locs hW ls hl
      rw [L_Model_findAll_12] at h
      refine lv_iload_n hx hb d_Model_findAll_12 rfl (lv_at hl 1 rfl) ?_
      refine lv_iconst (v := (1 : Int32)) hx hb d_Model_findAll_13 (by decide) ?_
      refine lv_aload_n hx hb d_Model_findAll_14 rfl (lv_at hl 0 rfl) ?_
      refine x_get hC hW 0 rfl fl_Model_61 rfl d_Model_findAll_15 ?_
      refine lv_ishl hx hb d_Model_findAll_18 ?_
      refine lv_icmp_ge (tgt := 92) hx hb d_Model_findAll_19 (by decide) (fun c_1 => ?_) (fun c_1 => ?_)
      · have h := it_e c_1 h
        cases h
        exact K _ _ hW ls (lv_sub hl [0, 1] rfl)
      · have h := ie_e c_1 h
        refine lv_iload_n hx hb d_Model_findAll_22 rfl (lv_at hl 1 rfl) ?_
        refine lv_i2l hx hb d_Model_findAll_23 rfl ?_
        obtain ⟨r_2, hc_2, h⟩ := bk1_e h
        refine x_ci (ws' := [(a_t, .inr (10, [.int v_t_numbers, .int v_t_onTicket, .int v_t_drawn, .int v_t_due, .ref a_t_tickets, .int v_t_ticketMany, .int v_t_fond, .ref a_t_prizes, .ref a_t_sightTicket, .ref a_t_sightRight, .ref a_t_sightHow, .int v_t_sights, .ref a_t_draws, .int v_t_drawMany, .ref a_t_sets, .int v_t_setMany, .ref a_t_winsLow, .ref a_t_winsHigh, .ref a_t_pad, .int v_t_padMany, .long v_t_low, .long v_t_high, .ref a_t_could, .int v_t_couldMany, .ref a_t_row, .ref a_t_best, .ref a_t_kept, .ref a_t_isKept, .int v_t_keptAt, .int v_t_isWriting])), (a_t_draws, .inl (I, 70, .inl v_t_draws)), (a_t_sets, .inl (I, 70, .inl v_t_sets)), (a_t_winsHigh, .inl (J, 70, .inr (.inl v_t_winsHigh))), (a_t_winsLow, .inl (J, 70, .inr (.inl v_t_winsLow)))]) (x_runS (rest := []) hC hW (c_Model_ones l D I J Z x1.toInt64 (r_2) hc_2) cl_Model_92 q_code_Model_ones [] rfl (by decide) rfl hl.1 (Nat.le_of_ble_eq_true rfl) (rm_ok hR1 hR2 (by decide) (by decide)) ⟨Nat.zero_le _, Nat.zero_le _⟩ d_Model_findAll_24) hW hA [] rfl rfl (ps := [none, none, none, none, none]) (by decide +kernel) ⟨rfl, rfl, rfl, rfl, rfl, trivial⟩ (fun H locs hW => ?_)
        refine lv_aload_n hx hb d_Model_findAll_27 rfl (lv_at hl 0 rfl) ?_
        refine x_get hC hW 0 rfl fl_Model_68 rfl d_Model_findAll_28 ?_
        refine lv_icmp_ne (tgt := 54) hx hb d_Model_findAll_31 (by decide) (fun c_3 => ?_) (fun c_3 => ?_)
        · have h := ie_e c_3 h
          refine lv_iload_n hx hb d_Model_findAll_54 rfl (lv_at hl 1 rfl) ?_
          refine lv_i2l hx hb d_Model_findAll_55 rfl ?_
          obtain ⟨r_4, hc_4, h⟩ := bk1_e h
          refine x_ci (ws' := [(a_t, .inr (10, [.int v_t_numbers, .int v_t_onTicket, .int v_t_drawn, .int v_t_due, .ref a_t_tickets, .int v_t_ticketMany, .int v_t_fond, .ref a_t_prizes, .ref a_t_sightTicket, .ref a_t_sightRight, .ref a_t_sightHow, .int v_t_sights, .ref a_t_draws, .int v_t_drawMany, .ref a_t_sets, .int v_t_setMany, .ref a_t_winsLow, .ref a_t_winsHigh, .ref a_t_pad, .int v_t_padMany, .long v_t_low, .long v_t_high, .ref a_t_could, .int v_t_couldMany, .ref a_t_row, .ref a_t_best, .ref a_t_kept, .ref a_t_isKept, .int v_t_keptAt, .int v_t_isWriting])), (a_t_draws, .inl (I, 70, .inl v_t_draws)), (a_t_sets, .inl (I, 70, .inl v_t_sets)), (a_t_winsHigh, .inl (J, 70, .inr (.inl v_t_winsHigh))), (a_t_winsLow, .inl (J, 70, .inr (.inl v_t_winsLow)))]) (x_runS (rest := []) hC hW (c_Model_ones l D I J Z x1.toInt64 (r_4) hc_4) cl_Model_92 q_code_Model_ones [] rfl (by decide) rfl hl.1 (Nat.le_of_ble_eq_true rfl) (rm_ok hR1 hR2 (by decide) (by decide)) ⟨Nat.zero_le _, Nat.zero_le _⟩ d_Model_findAll_56) hW hA [] rfl rfl (ps := [none, none, none, none, none]) (by decide +kernel) ⟨rfl, rfl, rfl, rfl, rfl, trivial⟩ (fun H locs hW => ?_)
          refine lv_aload_n hx hb d_Model_findAll_59 rfl (lv_at hl 0 rfl) ?_
          refine x_get hC hW 0 rfl fl_Model_65 rfl d_Model_findAll_60 ?_
          refine lv_icmp_ne (tgt := 86) hx hb d_Model_findAll_63 (by decide) (fun c_5 => ?_) (fun c_5 => ?_)
          · have h := ie_e c_5 h
            refine lv_iinc (v := (x1 + (1 : Int32))) (lv' := [(1, .int (x1 + (1 : Int32))), (0, .ref a_t)]) hx hb d_Model_findAll_86 hl (k := 1) rfl (iinc_e (by decide)) (by decide) rfl (fun ls hl => ?_)
            refine lv_goto (tgt := 12) hx hb d_Model_findAll_89 (by decide) ?_
            exact ih (x1 + (1 : Int32)) v_t_drawMany v_t_setMany v_t_draws v_t_sets v_t_winsHigh v_t_winsLow _ _ _ _ _ h K _ _ hW ls (lv_sub hl [1, 0] rfl)
          · have h := it_e c_5 h
            refine lv_aload_n hx hb d_Model_findAll_66 rfl (lv_at hl 0 rfl) ?_
            refine x_get hC hW 0 rfl fl_Model_28 rfl d_Model_findAll_67 ?_
            refine lv_aload_n hx hb d_Model_findAll_70 rfl (lv_at hl 0 rfl) ?_
            refine x_get hC hW 0 rfl fl_Model_89 rfl d_Model_findAll_71 ?_
            refine lv_iload_n hx hb d_Model_findAll_74 rfl (lv_at hl 1 rfl) ?_
            obtain ⟨hi_6, h⟩ := gd_e h
            refine x_iast (ws' := [(a_t, .inr (10, [.int v_t_numbers, .int v_t_onTicket, .int v_t_drawn, .int v_t_due, .ref a_t_tickets, .int v_t_ticketMany, .int v_t_fond, .ref a_t_prizes, .ref a_t_sightTicket, .ref a_t_sightRight, .ref a_t_sightHow, .int v_t_sights, .ref a_t_draws, .int v_t_drawMany, .ref a_t_sets, .int v_t_setMany, .ref a_t_winsLow, .ref a_t_winsHigh, .ref a_t_pad, .int v_t_padMany, .long v_t_low, .long v_t_high, .ref a_t_could, .int v_t_couldMany, .ref a_t_row, .ref a_t_best, .ref a_t_kept, .ref a_t_isKept, .int v_t_keptAt, .int v_t_isWriting])), (a_t_draws, .inl (I, 70, .inl v_t_draws)), (a_t_sets, .inl (I, 70, .inl (upd v_t_sets v_t_setMany.toNatClampNeg x1))), (a_t_winsHigh, .inl (J, 70, .inr (.inl v_t_winsHigh))), (a_t_winsLow, .inl (J, 70, .inr (.inl v_t_winsLow)))]) hC hW 2 rfl hi_6 d_Model_findAll_75 rfl (fun H locs hW => ?_)
            refine lv_aload_n hx hb d_Model_findAll_76 rfl (lv_at hl 0 rfl) ?_
            refine lv_dup hx hb d_Model_findAll_77 rfl ?_
            refine x_get hC hW 0 rfl fl_Model_89 rfl d_Model_findAll_78 ?_
            refine lv_iconst (v := (1 : Int32)) hx hb d_Model_findAll_81 (by decide) ?_
            refine lv_iadd hx hb d_Model_findAll_82 ?_
            refine x_put (ws' := [(a_t, .inr (10, [.int v_t_numbers, .int v_t_onTicket, .int v_t_drawn, .int v_t_due, .ref a_t_tickets, .int v_t_ticketMany, .int v_t_fond, .ref a_t_prizes, .ref a_t_sightTicket, .ref a_t_sightRight, .ref a_t_sightHow, .int v_t_sights, .ref a_t_draws, .int v_t_drawMany, .ref a_t_sets, .int (v_t_setMany + (1 : Int32)), .ref a_t_winsLow, .ref a_t_winsHigh, .ref a_t_pad, .int v_t_padMany, .long v_t_low, .long v_t_high, .ref a_t_could, .int v_t_couldMany, .ref a_t_row, .ref a_t_best, .ref a_t_kept, .ref a_t_isKept, .int v_t_keptAt, .int v_t_isWriting])), (a_t_draws, .inl (I, 70, .inl v_t_draws)), (a_t_sets, .inl (I, 70, .inl (upd v_t_sets v_t_setMany.toNatClampNeg x1))), (a_t_winsHigh, .inl (J, 70, .inr (.inl v_t_winsHigh))), (a_t_winsLow, .inl (J, 70, .inr (.inl v_t_winsLow)))]) hC hW 0 rfl fp_Model_89 rfl rfl (Nat.le_of_ble_eq_true rfl) d_Model_findAll_83 rfl (fun H locs hW => ?_)
            refine lv_iinc (v := (x1 + (1 : Int32))) (lv' := [(1, .int (x1 + (1 : Int32))), (0, .ref a_t)]) hx hb d_Model_findAll_86 hl (k := 1) rfl (iinc_e (by decide)) (by decide) rfl (fun ls hl => ?_)
            refine lv_goto (tgt := 12) hx hb d_Model_findAll_89 (by decide) ?_
            exact ih (x1 + (1 : Int32)) v_t_drawMany (v_t_setMany + (1 : Int32)) v_t_draws (upd v_t_sets v_t_setMany.toNatClampNeg x1) v_t_winsHigh v_t_winsLow _ _ _ _ _ h K _ _ hW ls (lv_sub hl [1, 0] rfl)
        · have h := it_e c_3 h
          refine lv_aload_n hx hb d_Model_findAll_34 rfl (lv_at hl 0 rfl) ?_
          refine x_get hC hW 0 rfl fl_Model_25 rfl d_Model_findAll_35 ?_
          refine lv_aload_n hx hb d_Model_findAll_38 rfl (lv_at hl 0 rfl) ?_
          refine x_get hC hW 0 rfl fl_Model_86 rfl d_Model_findAll_39 ?_
          refine lv_iload_n hx hb d_Model_findAll_42 rfl (lv_at hl 1 rfl) ?_
          obtain ⟨hi_7, h⟩ := gd_e h
          refine x_iast (ws' := [(a_t, .inr (10, [.int v_t_numbers, .int v_t_onTicket, .int v_t_drawn, .int v_t_due, .ref a_t_tickets, .int v_t_ticketMany, .int v_t_fond, .ref a_t_prizes, .ref a_t_sightTicket, .ref a_t_sightRight, .ref a_t_sightHow, .int v_t_sights, .ref a_t_draws, .int v_t_drawMany, .ref a_t_sets, .int v_t_setMany, .ref a_t_winsLow, .ref a_t_winsHigh, .ref a_t_pad, .int v_t_padMany, .long v_t_low, .long v_t_high, .ref a_t_could, .int v_t_couldMany, .ref a_t_row, .ref a_t_best, .ref a_t_kept, .ref a_t_isKept, .int v_t_keptAt, .int v_t_isWriting])), (a_t_draws, .inl (I, 70, .inl (upd v_t_draws v_t_drawMany.toNatClampNeg x1))), (a_t_sets, .inl (I, 70, .inl v_t_sets)), (a_t_winsHigh, .inl (J, 70, .inr (.inl v_t_winsHigh))), (a_t_winsLow, .inl (J, 70, .inr (.inl v_t_winsLow)))]) hC hW 1 rfl hi_7 d_Model_findAll_43 rfl (fun H locs hW => ?_)
          refine lv_aload_n hx hb d_Model_findAll_44 rfl (lv_at hl 0 rfl) ?_
          refine lv_dup hx hb d_Model_findAll_45 rfl ?_
          refine x_get hC hW 0 rfl fl_Model_86 rfl d_Model_findAll_46 ?_
          refine lv_iconst (v := (1 : Int32)) hx hb d_Model_findAll_49 (by decide) ?_
          refine lv_iadd hx hb d_Model_findAll_50 ?_
          refine x_put (ws' := [(a_t, .inr (10, [.int v_t_numbers, .int v_t_onTicket, .int v_t_drawn, .int v_t_due, .ref a_t_tickets, .int v_t_ticketMany, .int v_t_fond, .ref a_t_prizes, .ref a_t_sightTicket, .ref a_t_sightRight, .ref a_t_sightHow, .int v_t_sights, .ref a_t_draws, .int (v_t_drawMany + (1 : Int32)), .ref a_t_sets, .int v_t_setMany, .ref a_t_winsLow, .ref a_t_winsHigh, .ref a_t_pad, .int v_t_padMany, .long v_t_low, .long v_t_high, .ref a_t_could, .int v_t_couldMany, .ref a_t_row, .ref a_t_best, .ref a_t_kept, .ref a_t_isKept, .int v_t_keptAt, .int v_t_isWriting])), (a_t_draws, .inl (I, 70, .inl (upd v_t_draws v_t_drawMany.toNatClampNeg x1))), (a_t_sets, .inl (I, 70, .inl v_t_sets)), (a_t_winsHigh, .inl (J, 70, .inr (.inl v_t_winsHigh))), (a_t_winsLow, .inl (J, 70, .inr (.inl v_t_winsLow)))]) hC hW 0 rfl fp_Model_86 rfl rfl (Nat.le_of_ble_eq_true rfl) d_Model_findAll_51 rfl (fun H locs hW => ?_)
          refine lv_iload_n hx hb d_Model_findAll_54 rfl (lv_at hl 1 rfl) ?_
          refine lv_i2l hx hb d_Model_findAll_55 rfl ?_
          obtain ⟨r_8, hc_8, h⟩ := bk1_e h
          refine x_ci (ws' := [(a_t, .inr (10, [.int v_t_numbers, .int v_t_onTicket, .int v_t_drawn, .int v_t_due, .ref a_t_tickets, .int v_t_ticketMany, .int v_t_fond, .ref a_t_prizes, .ref a_t_sightTicket, .ref a_t_sightRight, .ref a_t_sightHow, .int v_t_sights, .ref a_t_draws, .int (v_t_drawMany + (1 : Int32)), .ref a_t_sets, .int v_t_setMany, .ref a_t_winsLow, .ref a_t_winsHigh, .ref a_t_pad, .int v_t_padMany, .long v_t_low, .long v_t_high, .ref a_t_could, .int v_t_couldMany, .ref a_t_row, .ref a_t_best, .ref a_t_kept, .ref a_t_isKept, .int v_t_keptAt, .int v_t_isWriting])), (a_t_draws, .inl (I, 70, .inl (upd v_t_draws v_t_drawMany.toNatClampNeg x1))), (a_t_sets, .inl (I, 70, .inl v_t_sets)), (a_t_winsHigh, .inl (J, 70, .inr (.inl v_t_winsHigh))), (a_t_winsLow, .inl (J, 70, .inr (.inl v_t_winsLow)))]) (x_runS (rest := []) hC hW (c_Model_ones l D I J Z x1.toInt64 (r_8) hc_8) cl_Model_92 q_code_Model_ones [] rfl (by decide) rfl hl.1 (Nat.le_of_ble_eq_true rfl) (rm_ok hR1 hR2 (by decide) (by decide)) ⟨Nat.zero_le _, Nat.zero_le _⟩ d_Model_findAll_56) hW hA [] rfl rfl (ps := [none, none, none, none, none]) (by decide +kernel) ⟨rfl, rfl, rfl, rfl, rfl, trivial⟩ (fun H locs hW => ?_)
          refine lv_aload_n hx hb d_Model_findAll_59 rfl (lv_at hl 0 rfl) ?_
          refine x_get hC hW 0 rfl fl_Model_65 rfl d_Model_findAll_60 ?_
          refine lv_icmp_ne (tgt := 86) hx hb d_Model_findAll_63 (by decide) (fun c_9 => ?_) (fun c_9 => ?_)
          · have h := ie_e c_9 h
            refine lv_iinc (v := (x1 + (1 : Int32))) (lv' := [(1, .int (x1 + (1 : Int32))), (0, .ref a_t)]) hx hb d_Model_findAll_86 hl (k := 1) rfl (iinc_e (by decide)) (by decide) rfl (fun ls hl => ?_)
            refine lv_goto (tgt := 12) hx hb d_Model_findAll_89 (by decide) ?_
            exact ih (x1 + (1 : Int32)) (v_t_drawMany + (1 : Int32)) v_t_setMany (upd v_t_draws v_t_drawMany.toNatClampNeg x1) v_t_sets v_t_winsHigh v_t_winsLow _ _ _ _ _ h K _ _ hW ls (lv_sub hl [1, 0] rfl)
          · have h := it_e c_9 h
            refine lv_aload_n hx hb d_Model_findAll_66 rfl (lv_at hl 0 rfl) ?_
            refine x_get hC hW 0 rfl fl_Model_28 rfl d_Model_findAll_67 ?_
            refine lv_aload_n hx hb d_Model_findAll_70 rfl (lv_at hl 0 rfl) ?_
            refine x_get hC hW 0 rfl fl_Model_89 rfl d_Model_findAll_71 ?_
            refine lv_iload_n hx hb d_Model_findAll_74 rfl (lv_at hl 1 rfl) ?_
            obtain ⟨hi_10, h⟩ := gd_e h
            refine x_iast (ws' := [(a_t, .inr (10, [.int v_t_numbers, .int v_t_onTicket, .int v_t_drawn, .int v_t_due, .ref a_t_tickets, .int v_t_ticketMany, .int v_t_fond, .ref a_t_prizes, .ref a_t_sightTicket, .ref a_t_sightRight, .ref a_t_sightHow, .int v_t_sights, .ref a_t_draws, .int (v_t_drawMany + (1 : Int32)), .ref a_t_sets, .int v_t_setMany, .ref a_t_winsLow, .ref a_t_winsHigh, .ref a_t_pad, .int v_t_padMany, .long v_t_low, .long v_t_high, .ref a_t_could, .int v_t_couldMany, .ref a_t_row, .ref a_t_best, .ref a_t_kept, .ref a_t_isKept, .int v_t_keptAt, .int v_t_isWriting])), (a_t_draws, .inl (I, 70, .inl (upd v_t_draws v_t_drawMany.toNatClampNeg x1))), (a_t_sets, .inl (I, 70, .inl (upd v_t_sets v_t_setMany.toNatClampNeg x1))), (a_t_winsHigh, .inl (J, 70, .inr (.inl v_t_winsHigh))), (a_t_winsLow, .inl (J, 70, .inr (.inl v_t_winsLow)))]) hC hW 2 rfl hi_10 d_Model_findAll_75 rfl (fun H locs hW => ?_)
            refine lv_aload_n hx hb d_Model_findAll_76 rfl (lv_at hl 0 rfl) ?_
            refine lv_dup hx hb d_Model_findAll_77 rfl ?_
            refine x_get hC hW 0 rfl fl_Model_89 rfl d_Model_findAll_78 ?_
            refine lv_iconst (v := (1 : Int32)) hx hb d_Model_findAll_81 (by decide) ?_
            refine lv_iadd hx hb d_Model_findAll_82 ?_
            refine x_put (ws' := [(a_t, .inr (10, [.int v_t_numbers, .int v_t_onTicket, .int v_t_drawn, .int v_t_due, .ref a_t_tickets, .int v_t_ticketMany, .int v_t_fond, .ref a_t_prizes, .ref a_t_sightTicket, .ref a_t_sightRight, .ref a_t_sightHow, .int v_t_sights, .ref a_t_draws, .int (v_t_drawMany + (1 : Int32)), .ref a_t_sets, .int (v_t_setMany + (1 : Int32)), .ref a_t_winsLow, .ref a_t_winsHigh, .ref a_t_pad, .int v_t_padMany, .long v_t_low, .long v_t_high, .ref a_t_could, .int v_t_couldMany, .ref a_t_row, .ref a_t_best, .ref a_t_kept, .ref a_t_isKept, .int v_t_keptAt, .int v_t_isWriting])), (a_t_draws, .inl (I, 70, .inl (upd v_t_draws v_t_drawMany.toNatClampNeg x1))), (a_t_sets, .inl (I, 70, .inl (upd v_t_sets v_t_setMany.toNatClampNeg x1))), (a_t_winsHigh, .inl (J, 70, .inr (.inl v_t_winsHigh))), (a_t_winsLow, .inl (J, 70, .inr (.inl v_t_winsLow)))]) hC hW 0 rfl fp_Model_89 rfl rfl (Nat.le_of_ble_eq_true rfl) d_Model_findAll_83 rfl (fun H locs hW => ?_)
            refine lv_iinc (v := (x1 + (1 : Int32))) (lv' := [(1, .int (x1 + (1 : Int32))), (0, .ref a_t)]) hx hb d_Model_findAll_86 hl (k := 1) rfl (iinc_e (by decide)) (by decide) rfl (fun ls hl => ?_)
            refine lv_goto (tgt := 12) hx hb d_Model_findAll_89 (by decide) ?_
            exact ih (x1 + (1 : Int32)) (v_t_drawMany + (1 : Int32)) (v_t_setMany + (1 : Int32)) (upd v_t_draws v_t_drawMany.toNatClampNeg x1) (upd v_t_sets v_t_setMany.toNatClampNeg x1) v_t_winsHigh v_t_winsLow _ _ _ _ _ h K _ _ hW ls (lv_sub hl [1, 0] rfl)
  have lp94 : ∀ (n : Nat) (x1 : Int32) (v_t_drawMany : Int32) (v_t_setMany : Int32) (v_t_draws : Nat → Int32) (v_t_sets : Nat → Int32) (v_t_winsHigh : Nat → Int64) (v_t_winsLow : Nat → Int64) (yx1 : Int32) (y_t_winsHigh : Nat → Int64) (y_t_winsLow : Nat → Int64), L_Model_findAll_94 v_t_drawMany v_t_setMany v_t_draws v_t_sets v_t_due n x1 v_t_winsHigh v_t_winsLow = some (yx1, y_t_winsHigh, y_t_winsLow) →
    (∀ H locs, Wd D A s.heap [(a_t, .inr (10, [.int v_t_numbers, .int v_t_onTicket, .int v_t_drawn, .int v_t_due, .ref a_t_tickets, .int v_t_ticketMany, .int v_t_fond, .ref a_t_prizes, .ref a_t_sightTicket, .ref a_t_sightRight, .ref a_t_sightHow, .int v_t_sights, .ref a_t_draws, .int v_t_drawMany, .ref a_t_sets, .int v_t_setMany, .ref a_t_winsLow, .ref a_t_winsHigh, .ref a_t_pad, .int v_t_padMany, .long v_t_low, .long v_t_high, .ref a_t_could, .int v_t_couldMany, .ref a_t_row, .ref a_t_best, .ref a_t_kept, .ref a_t_isKept, .int v_t_keptAt, .int v_t_isWriting])), (a_t_draws, .inl (I, 70, .inl v_t_draws)), (a_t_sets, .inl (I, 70, .inl v_t_sets)), (a_t_winsHigh, .inl (J, 70, .inr (.inl y_t_winsHigh))), (a_t_winsLow, .inl (J, 70, .inr (.inl y_t_winsLow)))] H locs → ∀ ls, lv_has ls 2 [(0, .ref a_t), (1, .int yx1)] → W p l e R s m args below meth c H locs 0 0 Q (F0 m 140 ls [])) →
    ∀ H locs, Wd D A s.heap [(a_t, .inr (10, [.int v_t_numbers, .int v_t_onTicket, .int v_t_drawn, .int v_t_due, .ref a_t_tickets, .int v_t_ticketMany, .int v_t_fond, .ref a_t_prizes, .ref a_t_sightTicket, .ref a_t_sightRight, .ref a_t_sightHow, .int v_t_sights, .ref a_t_draws, .int v_t_drawMany, .ref a_t_sets, .int v_t_setMany, .ref a_t_winsLow, .ref a_t_winsHigh, .ref a_t_pad, .int v_t_padMany, .long v_t_low, .long v_t_high, .ref a_t_could, .int v_t_couldMany, .ref a_t_row, .ref a_t_best, .ref a_t_kept, .ref a_t_isKept, .int v_t_keptAt, .int v_t_isWriting])), (a_t_draws, .inl (I, 70, .inl v_t_draws)), (a_t_sets, .inl (I, 70, .inl v_t_sets)), (a_t_winsHigh, .inl (J, 70, .inr (.inl v_t_winsHigh))), (a_t_winsLow, .inl (J, 70, .inr (.inl v_t_winsLow)))] H locs → ∀ ls, lv_has ls 2 [(0, .ref a_t), (1, .int x1)] → W p l e R s m args below meth c H locs 0 0 Q (F0 m 94 ls []) := by
    intro n
    induction n with
    | zero =>
      intro x1 v_t_drawMany v_t_setMany v_t_draws v_t_sets v_t_winsHigh v_t_winsLow yx1 y_t_winsHigh y_t_winsLow h
      exact no_e h
    | succ n ih =>
      intro x1 v_t_drawMany v_t_setMany v_t_draws v_t_sets v_t_winsHigh v_t_winsLow yx1 y_t_winsHigh y_t_winsLow h K H locs hW ls hl
      rw [L_Model_findAll_94] at h
      refine lv_iload_n hx hb d_Model_findAll_94 rfl (lv_at hl 1 rfl) ?_
      refine lv_aload_n hx hb d_Model_findAll_95 rfl (lv_at hl 0 rfl) ?_
      refine x_get hC hW 0 rfl fl_Model_89 rfl d_Model_findAll_96 ?_
      refine lv_icmp_ge (tgt := 140) hx hb d_Model_findAll_99 (by decide) (fun c_12 => ?_) (fun c_12 => ?_)
      · have h := it_e c_12 h
        cases h
        exact K _ _ hW ls (lv_sub hl [0, 1] rfl)
      · have h := ie_e c_12 h
        refine lv_aload_n hx hb d_Model_findAll_102 rfl (lv_at hl 0 rfl) ?_
        refine x_get hC hW 0 rfl fl_Model_31 rfl d_Model_findAll_103 ?_
        refine lv_iload_n hx hb d_Model_findAll_106 rfl (lv_at hl 1 rfl) ?_
        refine lv_aload_n hx hb d_Model_findAll_107 rfl (lv_at hl 0 rfl) ?_
        refine lv_aload_n hx hb d_Model_findAll_108 rfl (lv_at hl 0 rfl) ?_
        refine x_get hC hW 0 rfl fl_Model_28 rfl d_Model_findAll_109 ?_
        refine lv_iload_n hx hb d_Model_findAll_112 rfl (lv_at hl 1 rfl) ?_
        obtain ⟨hi_13, h⟩ := gd_e h
        refine x_iald hC hW 2 rfl hi_13 d_Model_findAll_113 ?_
        obtain ⟨r_14, hc_14, h⟩ := bk1_e h
        refine x_cl (ws' := [(a_t, .inr (10, [.int v_t_numbers, .int v_t_onTicket, .int v_t_drawn, .int v_t_due, .ref a_t_tickets, .int v_t_ticketMany, .int v_t_fond, .ref a_t_prizes, .ref a_t_sightTicket, .ref a_t_sightRight, .ref a_t_sightHow, .int v_t_sights, .ref a_t_draws, .int v_t_drawMany, .ref a_t_sets, .int v_t_setMany, .ref a_t_winsLow, .ref a_t_winsHigh, .ref a_t_pad, .int v_t_padMany, .long v_t_low, .long v_t_high, .ref a_t_could, .int v_t_couldMany, .ref a_t_row, .ref a_t_best, .ref a_t_kept, .ref a_t_isKept, .int v_t_keptAt, .int v_t_isWriting])), (a_t_draws, .inl (I, 70, .inl v_t_draws)), (a_t_sets, .inl (I, 70, .inl v_t_sets)), (a_t_winsHigh, .inl (J, 70, .inr (.inl v_t_winsHigh))), (a_t_winsLow, .inl (J, 70, .inr (.inl v_t_winsLow)))]) (x_runV (As := [.int (v_t_sets x1.toNatClampNeg)]) (rest := [.int x1, .ref a_t_winsLow]) hC hW (c_Model_lowOf l D I J Z a_t a_t_draws a_t_tickets a_t_prizes a_t_sightTicket a_t_sightRight a_t_sightHow a_t_sets a_t_winsLow a_t_winsHigh a_t_pad a_t_could a_t_row a_t_best a_t_kept a_t_isKept v_t_numbers v_t_onTicket v_t_drawn v_t_due v_t_ticketMany v_t_fond v_t_sights v_t_drawMany v_t_setMany v_t_padMany v_t_low v_t_high v_t_couldMany v_t_keptAt v_t_isWriting v_t_draws (v_t_sets x1.toNatClampNeg) (r_14) hc_14) cl_Model_96 q_code_Model_lowOf [0, 1] rfl (by decide) 0 rfl rfl rfl rfl hl.1 (Nat.le_of_ble_eq_true rfl) (rm_ok hR1 hR2 (by decide) (by decide)) ⟨Nat.zero_le _, Nat.zero_le _⟩ d_Model_findAll_114) hW hA [0, 1] rfl rfl (ps := [some 0, some 1, none, none, none]) (by decide +kernel) ⟨rfl, rfl, rfl, rfl, rfl, trivial⟩ (fun H locs hW => ?_)
        obtain ⟨hi_15, h⟩ := gd_e h
        refine x_last (ws' := [(a_t, .inr (10, [.int v_t_numbers, .int v_t_onTicket, .int v_t_drawn, .int v_t_due, .ref a_t_tickets, .int v_t_ticketMany, .int v_t_fond, .ref a_t_prizes, .ref a_t_sightTicket, .ref a_t_sightRight, .ref a_t_sightHow, .int v_t_sights, .ref a_t_draws, .int v_t_drawMany, .ref a_t_sets, .int v_t_setMany, .ref a_t_winsLow, .ref a_t_winsHigh, .ref a_t_pad, .int v_t_padMany, .long v_t_low, .long v_t_high, .ref a_t_could, .int v_t_couldMany, .ref a_t_row, .ref a_t_best, .ref a_t_kept, .ref a_t_isKept, .int v_t_keptAt, .int v_t_isWriting])), (a_t_draws, .inl (I, 70, .inl v_t_draws)), (a_t_sets, .inl (I, 70, .inl v_t_sets)), (a_t_winsHigh, .inl (J, 70, .inr (.inl v_t_winsHigh))), (a_t_winsLow, .inl (J, 70, .inr (.inl (vp_updL v_t_winsLow x1.toNatClampNeg r_14))))]) hC hW 4 rfl hi_15 d_Model_findAll_117 rfl (fun H locs hW => ?_)
        refine lv_aload_n hx hb d_Model_findAll_118 rfl (lv_at hl 0 rfl) ?_
        refine x_get hC hW 0 rfl fl_Model_35 rfl d_Model_findAll_119 ?_
        refine lv_iload_n hx hb d_Model_findAll_122 rfl (lv_at hl 1 rfl) ?_
        refine lv_aload_n hx hb d_Model_findAll_123 rfl (lv_at hl 0 rfl) ?_
        refine lv_aload_n hx hb d_Model_findAll_124 rfl (lv_at hl 0 rfl) ?_
        refine x_get hC hW 0 rfl fl_Model_28 rfl d_Model_findAll_125 ?_
        refine lv_iload_n hx hb d_Model_findAll_128 rfl (lv_at hl 1 rfl) ?_
        obtain ⟨hi_16, h⟩ := gd_e h
        refine x_iald hC hW 2 rfl hi_16 d_Model_findAll_129 ?_
        obtain ⟨r_17, hc_17, h⟩ := bk1_e h
        refine x_cl (ws' := [(a_t, .inr (10, [.int v_t_numbers, .int v_t_onTicket, .int v_t_drawn, .int v_t_due, .ref a_t_tickets, .int v_t_ticketMany, .int v_t_fond, .ref a_t_prizes, .ref a_t_sightTicket, .ref a_t_sightRight, .ref a_t_sightHow, .int v_t_sights, .ref a_t_draws, .int v_t_drawMany, .ref a_t_sets, .int v_t_setMany, .ref a_t_winsLow, .ref a_t_winsHigh, .ref a_t_pad, .int v_t_padMany, .long v_t_low, .long v_t_high, .ref a_t_could, .int v_t_couldMany, .ref a_t_row, .ref a_t_best, .ref a_t_kept, .ref a_t_isKept, .int v_t_keptAt, .int v_t_isWriting])), (a_t_draws, .inl (I, 70, .inl v_t_draws)), (a_t_sets, .inl (I, 70, .inl v_t_sets)), (a_t_winsHigh, .inl (J, 70, .inr (.inl v_t_winsHigh))), (a_t_winsLow, .inl (J, 70, .inr (.inl (vp_updL v_t_winsLow x1.toNatClampNeg r_14))))]) (x_runV (As := [.int (v_t_sets x1.toNatClampNeg)]) (rest := [.int x1, .ref a_t_winsHigh]) hC hW (c_Model_highOf l D I J Z a_t a_t_draws a_t_tickets a_t_prizes a_t_sightTicket a_t_sightRight a_t_sightHow a_t_sets a_t_winsLow a_t_winsHigh a_t_pad a_t_could a_t_row a_t_best a_t_kept a_t_isKept v_t_numbers v_t_onTicket v_t_drawn v_t_due v_t_ticketMany v_t_fond v_t_sights v_t_drawMany v_t_setMany v_t_padMany v_t_low v_t_high v_t_couldMany v_t_keptAt v_t_isWriting v_t_draws (v_t_sets x1.toNatClampNeg) (r_17) hc_17) cl_Model_100 q_code_Model_highOf [0, 1] rfl (by decide) 0 rfl rfl rfl rfl hl.1 (Nat.le_of_ble_eq_true rfl) (rm_ok hR1 hR2 (by decide) (by decide)) ⟨Nat.zero_le _, Nat.zero_le _⟩ d_Model_findAll_130) hW hA [0, 1] rfl rfl (ps := [some 0, some 1, none, none, none]) (by decide +kernel) ⟨rfl, rfl, rfl, rfl, rfl, trivial⟩ (fun H locs hW => ?_)
        obtain ⟨hi_18, h⟩ := gd_e h
        refine x_last (ws' := [(a_t, .inr (10, [.int v_t_numbers, .int v_t_onTicket, .int v_t_drawn, .int v_t_due, .ref a_t_tickets, .int v_t_ticketMany, .int v_t_fond, .ref a_t_prizes, .ref a_t_sightTicket, .ref a_t_sightRight, .ref a_t_sightHow, .int v_t_sights, .ref a_t_draws, .int v_t_drawMany, .ref a_t_sets, .int v_t_setMany, .ref a_t_winsLow, .ref a_t_winsHigh, .ref a_t_pad, .int v_t_padMany, .long v_t_low, .long v_t_high, .ref a_t_could, .int v_t_couldMany, .ref a_t_row, .ref a_t_best, .ref a_t_kept, .ref a_t_isKept, .int v_t_keptAt, .int v_t_isWriting])), (a_t_draws, .inl (I, 70, .inl v_t_draws)), (a_t_sets, .inl (I, 70, .inl v_t_sets)), (a_t_winsHigh, .inl (J, 70, .inr (.inl (vp_updL v_t_winsHigh x1.toNatClampNeg r_17)))), (a_t_winsLow, .inl (J, 70, .inr (.inl (vp_updL v_t_winsLow x1.toNatClampNeg r_14))))]) hC hW 3 rfl hi_18 d_Model_findAll_133 rfl (fun H locs hW => ?_)
        refine lv_iinc (v := (x1 + (1 : Int32))) (lv' := [(1, .int (x1 + (1 : Int32))), (0, .ref a_t)]) hx hb d_Model_findAll_134 hl (k := 1) rfl (iinc_e (by decide)) (by decide) rfl (fun ls hl => ?_)
        refine lv_goto (tgt := 94) hx hb d_Model_findAll_137 (by decide) ?_
        exact ih (x1 + (1 : Int32)) v_t_drawMany v_t_setMany v_t_draws v_t_sets (vp_updL v_t_winsHigh x1.toNatClampNeg r_17) (vp_updL v_t_winsLow x1.toNatClampNeg r_14) _ _ _ h K _ _ hW ls (lv_sub hl [1, 0] rfl)
  refine lv_aload_n hx hb d_Model_findAll_0 rfl (lv_at hl 0 rfl) ?_
  refine lv_iconst (v := (0 : Int32)) hx hb d_Model_findAll_1 (by decide) ?_
  refine x_put (ws' := [(a_t, .inr (10, [.int v_t_numbers, .int v_t_onTicket, .int v_t_drawn, .int v_t_due, .ref a_t_tickets, .int v_t_ticketMany, .int v_t_fond, .ref a_t_prizes, .ref a_t_sightTicket, .ref a_t_sightRight, .ref a_t_sightHow, .int v_t_sights, .ref a_t_draws, .int (0 : Int32), .ref a_t_sets, .int v_t_setMany, .ref a_t_winsLow, .ref a_t_winsHigh, .ref a_t_pad, .int v_t_padMany, .long v_t_low, .long v_t_high, .ref a_t_could, .int v_t_couldMany, .ref a_t_row, .ref a_t_best, .ref a_t_kept, .ref a_t_isKept, .int v_t_keptAt, .int v_t_isWriting])), (a_t_draws, .inl (I, 70, .inl v_t_draws)), (a_t_sets, .inl (I, 70, .inl v_t_sets)), (a_t_winsHigh, .inl (J, 70, .inr (.inl v_t_winsHigh))), (a_t_winsLow, .inl (J, 70, .inr (.inl v_t_winsLow)))]) hC hW 0 rfl fp_Model_86 rfl rfl (Nat.le_of_ble_eq_true rfl) d_Model_findAll_2 rfl (fun H locs hW => ?_)
  refine lv_aload_n hx hb d_Model_findAll_5 rfl (lv_at hl 0 rfl) ?_
  refine lv_iconst (v := (0 : Int32)) hx hb d_Model_findAll_6 (by decide) ?_
  refine x_put (ws' := [(a_t, .inr (10, [.int v_t_numbers, .int v_t_onTicket, .int v_t_drawn, .int v_t_due, .ref a_t_tickets, .int v_t_ticketMany, .int v_t_fond, .ref a_t_prizes, .ref a_t_sightTicket, .ref a_t_sightRight, .ref a_t_sightHow, .int v_t_sights, .ref a_t_draws, .int (0 : Int32), .ref a_t_sets, .int (0 : Int32), .ref a_t_winsLow, .ref a_t_winsHigh, .ref a_t_pad, .int v_t_padMany, .long v_t_low, .long v_t_high, .ref a_t_could, .int v_t_couldMany, .ref a_t_row, .ref a_t_best, .ref a_t_kept, .ref a_t_isKept, .int v_t_keptAt, .int v_t_isWriting])), (a_t_draws, .inl (I, 70, .inl v_t_draws)), (a_t_sets, .inl (I, 70, .inl v_t_sets)), (a_t_winsHigh, .inl (J, 70, .inr (.inl v_t_winsHigh))), (a_t_winsLow, .inl (J, 70, .inr (.inl v_t_winsLow)))]) hC hW 0 rfl fp_Model_89 rfl rfl (Nat.le_of_ble_eq_true rfl) d_Model_findAll_7 rfl (fun H locs hW => ?_)
  refine lv_iconst (v := (0 : Int32)) hx hb d_Model_findAll_10 (by decide) ?_
  refine lv_istore_n (lv' := [(1, .int (0 : Int32)), (0, .ref a_t)]) hx hb d_Model_findAll_11 rfl hl (by decide) rfl (fun ls hl => ?_)
  obtain ⟨yx1_11, y_t_drawMany_11, y_t_setMany_11, y_t_draws_11, y_t_sets_11, hv_11, h⟩ := bk5_e h
  refine lp12 _ (0 : Int32) (0 : Int32) (0 : Int32) v_t_draws v_t_sets v_t_winsHigh v_t_winsLow yx1_11 y_t_drawMany_11 y_t_setMany_11 y_t_draws_11 y_t_sets_11 hv_11 (fun H locs hW ls hl => ?_) _ _ hW ls (lv_sub hl [1, 0] rfl)
  refine lv_iconst (v := (0 : Int32)) hx hb d_Model_findAll_92 (by decide) ?_
  refine lv_istore_n (lv' := [(1, .int (0 : Int32)), (0, .ref a_t)]) hx hb d_Model_findAll_93 rfl hl (by decide) rfl (fun ls hl => ?_)
  obtain ⟨yx1_19, y_t_winsHigh_19, y_t_winsLow_19, hv_19, h⟩ := bk3_e h
  refine lp94 _ (0 : Int32) y_t_drawMany_11 y_t_setMany_11 y_t_draws_11 y_t_sets_11 v_t_winsHigh v_t_winsLow yx1_19 y_t_winsHigh_19 y_t_winsLow_19 hv_19 (fun H locs hW ls hl => ?_) _ _ hW ls (lv_sub hl [1, 0] rfl)
  cases h
  rw [hQ]
  exact x_vret hC hr hW d_Model_findAll_140

def f_Model_begin (v_t_draws : Nat → Int32) (v_t_sets : Nat → Int32) (v_t_winsHigh : Nat → Int64) (v_t_winsLow : Nat → Int64) (p0 : Int32) (p1 : Int32) (p2 : Int32) (p3 : Int32) : Option (Int32 × Int32 × Int32 × Int32 × Int32 × Int32 × Int32 × Int32 × Int32 × (Nat → Int32) × (Nat → Int32) × (Nat → Int64) × (Nat → Int64)) :=
  bk6 (f_Model_findAll p2 p3 p0 p1 v_t_draws v_t_sets v_t_winsHigh v_t_winsLow) fun w_1_0 w_1_1 w_1_2 w_1_3 w_1_4 w_1_5 => some (w_1_0, p2, p3, (0 : Int32), p0, p1, w_1_1, (0 : Int32), (0 : Int32), w_1_2, w_1_3, w_1_4, w_1_5)
set_option maxHeartbeats 4000000 in
set_option maxRecDepth 100000 in
theorem c_Model_begin (l : Launch) (D : va_G) (I J Z : ClassId) (a_t : Nat) (a_t_draws : Nat) (a_t_sets : Nat) (a_t_winsHigh : Nat) (a_t_winsLow : Nat) (a_t_tickets : Nat) (a_t_prizes : Nat) (a_t_sightTicket : Nat) (a_t_sightRight : Nat) (a_t_sightHow : Nat) (a_t_pad : Nat) (a_t_could : Nat) (a_t_row : Nat) (a_t_best : Nat) (a_t_kept : Nat) (a_t_isKept : Nat)  (v_t_numbers : Int32) (v_t_onTicket : Int32) (v_t_drawn : Int32) (v_t_due : Int32) (v_t_ticketMany : Int32) (v_t_fond : Int32) (v_t_sights : Int32) (v_t_drawMany : Int32) (v_t_setMany : Int32) (v_t_padMany : Int32) (v_t_low : Int64) (v_t_high : Int64) (v_t_couldMany : Int32) (v_t_keptAt : Int32) (v_t_isWriting : Int32) (v_t_draws : Nat → Int32) (v_t_sets : Nat → Int32) (v_t_winsHigh : Nat → Int64) (v_t_winsLow : Nat → Int64) (p0 : Int32) (p1 : Int32) (p2 : Int32) (p3 : Int32) (out : (Int32 × Int32 × Int32 × Int32 × Int32 × Int32 × Int32 × Int32 × Int32 × (Nat → Int32) × (Nat → Int32) × (Nat → Int64) × (Nat → Int64))) (h : f_Model_begin v_t_draws v_t_sets v_t_winsHigh v_t_winsLow p0 p1 p2 p3 = some out) : CT l D I J Z y_Model_begin b_Model_begin 5 none 5 [.ref a_t, .int p0, .int p1, .int p2, .int p3] [(a_t, .inr (10, [.int v_t_numbers, .int v_t_onTicket, .int v_t_drawn, .int v_t_due, .ref a_t_tickets, .int v_t_ticketMany, .int v_t_fond, .ref a_t_prizes, .ref a_t_sightTicket, .ref a_t_sightRight, .ref a_t_sightHow, .int v_t_sights, .ref a_t_draws, .int v_t_drawMany, .ref a_t_sets, .int v_t_setMany, .ref a_t_winsLow, .ref a_t_winsHigh, .ref a_t_pad, .int v_t_padMany, .long v_t_low, .long v_t_high, .ref a_t_could, .int v_t_couldMany, .ref a_t_row, .ref a_t_best, .ref a_t_kept, .ref a_t_isKept, .int v_t_keptAt, .int v_t_isWriting])), (a_t_draws, .inl (I, 70, .inl v_t_draws)), (a_t_sets, .inl (I, 70, .inl v_t_sets)), (a_t_winsHigh, .inl (J, 70, .inr (.inl v_t_winsHigh))), (a_t_winsLow, .inl (J, 70, .inr (.inl v_t_winsLow)))] (PoV D [(a_t, .inr (10, [.int out.2.2.2.2.1, .int out.2.2.2.2.2.1, .int out.2.1, .int out.2.2.1, .ref a_t_tickets, .int out.2.2.2.2.2.2.2.2.1, .int out.2.2.2.1, .ref a_t_prizes, .ref a_t_sightTicket, .ref a_t_sightRight, .ref a_t_sightHow, .int out.2.2.2.2.2.2.2.1, .ref a_t_draws, .int out.1, .ref a_t_sets, .int out.2.2.2.2.2.2.1, .ref a_t_winsLow, .ref a_t_winsHigh, .ref a_t_pad, .int v_t_padMany, .long v_t_low, .long v_t_high, .ref a_t_could, .int v_t_couldMany, .ref a_t_row, .ref a_t_best, .ref a_t_kept, .ref a_t_isKept, .int v_t_keptAt, .int v_t_isWriting])), (a_t_draws, .inl (I, 70, .inl out.2.2.2.2.2.2.2.2.2.1)), (a_t_sets, .inl (I, 70, .inl out.2.2.2.2.2.2.2.2.2.2.1)), (a_t_winsHigh, .inl (J, 70, .inr (.inl out.2.2.2.2.2.2.2.2.2.2.2.1))), (a_t_winsLow, .inl (J, 70, .inr (.inl out.2.2.2.2.2.2.2.2.2.2.2.2)))]) := by
  unfold f_Model_begin at h
  refine CT_of R_Model (by decide +kernel) rfl (Nat.le_of_ble_eq_true rfl) ?_
  intro p e R s m args below meth c A ls Q hR1 hR2 hQ hC hr hW hA hl
  have hx := hC.1
  have hb := hC.2.1
  have hl : lv_has ls 5 [(0, .ref a_t), (1, .int p0), (2, .int p1), (3, .int p2), (4, .int p3)] := hl
  refine lv_aload_n hx hb d_Model_begin_0 rfl (lv_at hl 0 rfl) ?_
  refine lv_iload_n hx hb d_Model_begin_1 rfl (lv_at hl 1 rfl) ?_
  refine x_put (ws' := [(a_t, .inr (10, [.int p0, .int v_t_onTicket, .int v_t_drawn, .int v_t_due, .ref a_t_tickets, .int v_t_ticketMany, .int v_t_fond, .ref a_t_prizes, .ref a_t_sightTicket, .ref a_t_sightRight, .ref a_t_sightHow, .int v_t_sights, .ref a_t_draws, .int v_t_drawMany, .ref a_t_sets, .int v_t_setMany, .ref a_t_winsLow, .ref a_t_winsHigh, .ref a_t_pad, .int v_t_padMany, .long v_t_low, .long v_t_high, .ref a_t_could, .int v_t_couldMany, .ref a_t_row, .ref a_t_best, .ref a_t_kept, .ref a_t_isKept, .int v_t_keptAt, .int v_t_isWriting])), (a_t_draws, .inl (I, 70, .inl v_t_draws)), (a_t_sets, .inl (I, 70, .inl v_t_sets)), (a_t_winsHigh, .inl (J, 70, .inr (.inl v_t_winsHigh))), (a_t_winsLow, .inl (J, 70, .inr (.inl v_t_winsLow)))]) hC hW 0 rfl fp_Model_61 rfl rfl (Nat.le_of_ble_eq_true rfl) d_Model_begin_2 rfl (fun H locs hW => ?_)
  refine lv_aload_n hx hb d_Model_begin_5 rfl (lv_at hl 0 rfl) ?_
  refine lv_iload_n hx hb d_Model_begin_6 rfl (lv_at hl 2 rfl) ?_
  refine x_put (ws' := [(a_t, .inr (10, [.int p0, .int p1, .int v_t_drawn, .int v_t_due, .ref a_t_tickets, .int v_t_ticketMany, .int v_t_fond, .ref a_t_prizes, .ref a_t_sightTicket, .ref a_t_sightRight, .ref a_t_sightHow, .int v_t_sights, .ref a_t_draws, .int v_t_drawMany, .ref a_t_sets, .int v_t_setMany, .ref a_t_winsLow, .ref a_t_winsHigh, .ref a_t_pad, .int v_t_padMany, .long v_t_low, .long v_t_high, .ref a_t_could, .int v_t_couldMany, .ref a_t_row, .ref a_t_best, .ref a_t_kept, .ref a_t_isKept, .int v_t_keptAt, .int v_t_isWriting])), (a_t_draws, .inl (I, 70, .inl v_t_draws)), (a_t_sets, .inl (I, 70, .inl v_t_sets)), (a_t_winsHigh, .inl (J, 70, .inr (.inl v_t_winsHigh))), (a_t_winsLow, .inl (J, 70, .inr (.inl v_t_winsLow)))]) hC hW 0 rfl fp_Model_65 rfl rfl (Nat.le_of_ble_eq_true rfl) d_Model_begin_7 rfl (fun H locs hW => ?_)
  refine lv_aload_n hx hb d_Model_begin_10 rfl (lv_at hl 0 rfl) ?_
  refine lv_iload_n hx hb d_Model_begin_11 rfl (lv_at hl 3 rfl) ?_
  refine x_put (ws' := [(a_t, .inr (10, [.int p0, .int p1, .int p2, .int v_t_due, .ref a_t_tickets, .int v_t_ticketMany, .int v_t_fond, .ref a_t_prizes, .ref a_t_sightTicket, .ref a_t_sightRight, .ref a_t_sightHow, .int v_t_sights, .ref a_t_draws, .int v_t_drawMany, .ref a_t_sets, .int v_t_setMany, .ref a_t_winsLow, .ref a_t_winsHigh, .ref a_t_pad, .int v_t_padMany, .long v_t_low, .long v_t_high, .ref a_t_could, .int v_t_couldMany, .ref a_t_row, .ref a_t_best, .ref a_t_kept, .ref a_t_isKept, .int v_t_keptAt, .int v_t_isWriting])), (a_t_draws, .inl (I, 70, .inl v_t_draws)), (a_t_sets, .inl (I, 70, .inl v_t_sets)), (a_t_winsHigh, .inl (J, 70, .inr (.inl v_t_winsHigh))), (a_t_winsLow, .inl (J, 70, .inr (.inl v_t_winsLow)))]) hC hW 0 rfl fp_Model_68 rfl rfl (Nat.le_of_ble_eq_true rfl) d_Model_begin_12 rfl (fun H locs hW => ?_)
  refine lv_aload_n hx hb d_Model_begin_15 rfl (lv_at hl 0 rfl) ?_
  refine lv_iload hx hb d_Model_begin_16 (lv_at hl 4 rfl) ?_
  refine x_put (ws' := [(a_t, .inr (10, [.int p0, .int p1, .int p2, .int p3, .ref a_t_tickets, .int v_t_ticketMany, .int v_t_fond, .ref a_t_prizes, .ref a_t_sightTicket, .ref a_t_sightRight, .ref a_t_sightHow, .int v_t_sights, .ref a_t_draws, .int v_t_drawMany, .ref a_t_sets, .int v_t_setMany, .ref a_t_winsLow, .ref a_t_winsHigh, .ref a_t_pad, .int v_t_padMany, .long v_t_low, .long v_t_high, .ref a_t_could, .int v_t_couldMany, .ref a_t_row, .ref a_t_best, .ref a_t_kept, .ref a_t_isKept, .int v_t_keptAt, .int v_t_isWriting])), (a_t_draws, .inl (I, 70, .inl v_t_draws)), (a_t_sets, .inl (I, 70, .inl v_t_sets)), (a_t_winsHigh, .inl (J, 70, .inr (.inl v_t_winsHigh))), (a_t_winsLow, .inl (J, 70, .inr (.inl v_t_winsLow)))]) hC hW 0 rfl fp_Model_71 rfl rfl (Nat.le_of_ble_eq_true rfl) d_Model_begin_18 rfl (fun H locs hW => ?_)
  refine lv_aload_n hx hb d_Model_begin_21 rfl (lv_at hl 0 rfl) ?_
  refine lv_iconst (v := (0 : Int32)) hx hb d_Model_begin_22 (by decide) ?_
  refine x_put (ws' := [(a_t, .inr (10, [.int p0, .int p1, .int p2, .int p3, .ref a_t_tickets, .int (0 : Int32), .int v_t_fond, .ref a_t_prizes, .ref a_t_sightTicket, .ref a_t_sightRight, .ref a_t_sightHow, .int v_t_sights, .ref a_t_draws, .int v_t_drawMany, .ref a_t_sets, .int v_t_setMany, .ref a_t_winsLow, .ref a_t_winsHigh, .ref a_t_pad, .int v_t_padMany, .long v_t_low, .long v_t_high, .ref a_t_could, .int v_t_couldMany, .ref a_t_row, .ref a_t_best, .ref a_t_kept, .ref a_t_isKept, .int v_t_keptAt, .int v_t_isWriting])), (a_t_draws, .inl (I, 70, .inl v_t_draws)), (a_t_sets, .inl (I, 70, .inl v_t_sets)), (a_t_winsHigh, .inl (J, 70, .inr (.inl v_t_winsHigh))), (a_t_winsLow, .inl (J, 70, .inr (.inl v_t_winsLow)))]) hC hW 0 rfl fp_Model_74 rfl rfl (Nat.le_of_ble_eq_true rfl) d_Model_begin_23 rfl (fun H locs hW => ?_)
  refine lv_aload_n hx hb d_Model_begin_26 rfl (lv_at hl 0 rfl) ?_
  refine lv_iconst (v := (0 : Int32)) hx hb d_Model_begin_27 (by decide) ?_
  refine x_put (ws' := [(a_t, .inr (10, [.int p0, .int p1, .int p2, .int p3, .ref a_t_tickets, .int (0 : Int32), .int (0 : Int32), .ref a_t_prizes, .ref a_t_sightTicket, .ref a_t_sightRight, .ref a_t_sightHow, .int v_t_sights, .ref a_t_draws, .int v_t_drawMany, .ref a_t_sets, .int v_t_setMany, .ref a_t_winsLow, .ref a_t_winsHigh, .ref a_t_pad, .int v_t_padMany, .long v_t_low, .long v_t_high, .ref a_t_could, .int v_t_couldMany, .ref a_t_row, .ref a_t_best, .ref a_t_kept, .ref a_t_isKept, .int v_t_keptAt, .int v_t_isWriting])), (a_t_draws, .inl (I, 70, .inl v_t_draws)), (a_t_sets, .inl (I, 70, .inl v_t_sets)), (a_t_winsHigh, .inl (J, 70, .inr (.inl v_t_winsHigh))), (a_t_winsLow, .inl (J, 70, .inr (.inl v_t_winsLow)))]) hC hW 0 rfl fp_Model_77 rfl rfl (Nat.le_of_ble_eq_true rfl) d_Model_begin_28 rfl (fun H locs hW => ?_)
  refine lv_aload_n hx hb d_Model_begin_31 rfl (lv_at hl 0 rfl) ?_
  refine lv_iconst (v := (0 : Int32)) hx hb d_Model_begin_32 (by decide) ?_
  refine x_put (ws' := [(a_t, .inr (10, [.int p0, .int p1, .int p2, .int p3, .ref a_t_tickets, .int (0 : Int32), .int (0 : Int32), .ref a_t_prizes, .ref a_t_sightTicket, .ref a_t_sightRight, .ref a_t_sightHow, .int (0 : Int32), .ref a_t_draws, .int v_t_drawMany, .ref a_t_sets, .int v_t_setMany, .ref a_t_winsLow, .ref a_t_winsHigh, .ref a_t_pad, .int v_t_padMany, .long v_t_low, .long v_t_high, .ref a_t_could, .int v_t_couldMany, .ref a_t_row, .ref a_t_best, .ref a_t_kept, .ref a_t_isKept, .int v_t_keptAt, .int v_t_isWriting])), (a_t_draws, .inl (I, 70, .inl v_t_draws)), (a_t_sets, .inl (I, 70, .inl v_t_sets)), (a_t_winsHigh, .inl (J, 70, .inr (.inl v_t_winsHigh))), (a_t_winsLow, .inl (J, 70, .inr (.inl v_t_winsLow)))]) hC hW 0 rfl fp_Model_80 rfl rfl (Nat.le_of_ble_eq_true rfl) d_Model_begin_33 rfl (fun H locs hW => ?_)
  refine lv_aload_n hx hb d_Model_begin_36 rfl (lv_at hl 0 rfl) ?_
  obtain ⟨w_1_0, w_1_1, w_1_2, w_1_3, w_1_4, w_1_5, hc_1, h⟩ := bk6_e h
  refine x_cv (ws' := [(a_t, .inr (10, [.int p0, .int p1, .int p2, .int p3, .ref a_t_tickets, .int (0 : Int32), .int (0 : Int32), .ref a_t_prizes, .ref a_t_sightTicket, .ref a_t_sightRight, .ref a_t_sightHow, .int (0 : Int32), .ref a_t_draws, .int w_1_0, .ref a_t_sets, .int w_1_1, .ref a_t_winsLow, .ref a_t_winsHigh, .ref a_t_pad, .int v_t_padMany, .long v_t_low, .long v_t_high, .ref a_t_could, .int v_t_couldMany, .ref a_t_row, .ref a_t_best, .ref a_t_kept, .ref a_t_isKept, .int v_t_keptAt, .int v_t_isWriting])), (a_t_draws, .inl (I, 70, .inl w_1_2)), (a_t_sets, .inl (I, 70, .inl w_1_3)), (a_t_winsHigh, .inl (J, 70, .inr (.inl w_1_4))), (a_t_winsLow, .inl (J, 70, .inr (.inl w_1_5)))]) (x_runV (As := []) (rest := []) hC hW (c_Model_findAll l D I J Z a_t a_t_draws a_t_sets a_t_winsHigh a_t_winsLow a_t_tickets a_t_prizes a_t_sightTicket a_t_sightRight a_t_sightHow a_t_pad a_t_could a_t_row a_t_best a_t_kept a_t_isKept p0 p1 p2 p3 (0 : Int32) (0 : Int32) (0 : Int32) v_t_drawMany v_t_setMany v_t_padMany v_t_low v_t_high v_t_couldMany v_t_keptAt v_t_isWriting v_t_draws v_t_sets v_t_winsHigh v_t_winsLow (w_1_0, w_1_1, w_1_2, w_1_3, w_1_4, w_1_5) hc_1) cl_Model_83 q_code_Model_findAll [0, 1, 2, 3, 4] rfl (by decide) 0 rfl rfl rfl rfl hl.1 (Nat.le_of_ble_eq_true rfl) (rm_ok hR1 hR2 (by decide) (by decide)) ⟨Nat.zero_le _, Nat.zero_le _⟩ d_Model_begin_37) hW hA [0, 1, 2, 3, 4] rfl rfl (ps := [some 0, some 1, some 2, some 3, some 4]) (by decide +kernel) ⟨rfl, rfl, rfl, rfl, rfl, trivial⟩ (fun H locs hW => ?_)
  cases h
  rw [hQ]
  exact x_vret hC hr hW d_Model_begin_40

def f_Model_in (p0 : Int64) (p1 : Int64) (p2 : Int64) : Option (Int32) :=
  if (lg_cmp p0 p1) < (0 : Int32) then some ((0 : Int32)) else if (0 : Int32) < (lg_cmp p0 p2) then some ((0 : Int32)) else some ((1 : Int32))
set_option maxHeartbeats 4000000 in
set_option maxRecDepth 100000 in
theorem c_Model_in (l : Launch) (D : va_G) (I J Z : ClassId)    (p0 : Int64) (p1 : Int64) (p2 : Int64) (out : (Int32)) (h : f_Model_in p0 p1 p2 = some out) : CT l D I J Z y_Model_in b_Model_in 6 (some .boolean) 1 [.long p0, .long p1, .long p2] [] (PoI out D []) := by
  unfold f_Model_in at h
  refine CT_of R_Model (by decide +kernel) rfl (Nat.le_of_ble_eq_true rfl) ?_
  intro p e R s m args below meth c A ls Q hR1 hR2 hQ hC hr hW hA hl
  have hx := hC.1
  have hb := hC.2.1
  have hl : lv_has ls 6 [(0, .long p0), (2, .long p1), (4, .long p2)] := hl
  refine lv_lload_n hx hb d_Model_in_0 rfl (lv_at hl 0 rfl) ?_
  refine lv_lload_n hx hb d_Model_in_1 rfl (lv_at hl 1 rfl) ?_
  refine W.lcmp hx hb d_Model_in_2 ?_
  refine lv_if_lt (tgt := 17) hx hb d_Model_in_3 (by decide) (fun c_1 => ?_) (fun c_1 => ?_)
  · have h := it_e c_1 h
    refine lv_iconst (v := (0 : Int32)) hx hb d_Model_in_17 (by decide) ?_
    cases h
    rw [hQ]
    exact x_zret hC hr (show narrow .boolean (.int (0 : Int32)) = .int (0 : Int32) from rfl) hW d_Model_in_18
  · have h := ie_e c_1 h
    refine lv_lload_n hx hb d_Model_in_6 rfl (lv_at hl 0 rfl) ?_
    refine lv_lload hx hb d_Model_in_7 (lv_at hl 2 rfl) ?_
    refine W.lcmp hx hb d_Model_in_9 ?_
    refine lv_if_gt (tgt := 17) hx hb d_Model_in_10 (by decide) (fun c_2 => ?_) (fun c_2 => ?_)
    · have h := it_e c_2 h
      refine lv_iconst (v := (0 : Int32)) hx hb d_Model_in_17 (by decide) ?_
      cases h
      rw [hQ]
      exact x_zret hC hr (show narrow .boolean (.int (0 : Int32)) = .int (0 : Int32) from rfl) hW d_Model_in_18
    · have h := ie_e c_2 h
      refine lv_iconst (v := (1 : Int32)) hx hb d_Model_in_13 (by decide) ?_
      refine lv_goto (tgt := 18) hx hb d_Model_in_14 (by decide) ?_
      cases h
      rw [hQ]
      exact x_zret hC hr (show narrow .boolean (.int (1 : Int32)) = .int (1 : Int32) from rfl) hW d_Model_in_18

def f_Model_game (v_t_drawMany : Int32) (v_t_drawn : Int32) (v_t_due : Int32) (v_t_fond : Int32) (v_t_numbers : Int32) (v_t_onTicket : Int32) (v_t_setMany : Int32) (v_t_sights : Int32) (v_t_ticketMany : Int32) (v_t_draws : Nat → Int32) (v_t_sets : Nat → Int32) (v_t_winsHigh : Nat → Int64) (v_t_winsLow : Nat → Int64) (p0 : Int32) (p1 : Int32) (p2 : Int32) (p3 : Int32) : Option (Int32 × Int32 × Int32 × Int32 × Int32 × Int32 × Int32 × Int32 × Int32 × Int32 × (Nat → Int32) × (Nat → Int32) × (Nat → Int64) × (Nat → Int64)) :=
  bk1 (f_Model_in p0.toInt64 (3 : Int64) (8 : Int64)) fun r_1 => if r_1 = (0 : Int32) then some ((-2 : Int32), v_t_drawMany, v_t_drawn, v_t_due, v_t_fond, v_t_numbers, v_t_onTicket, v_t_setMany, v_t_sights, v_t_ticketMany, v_t_draws, v_t_sets, v_t_winsHigh, v_t_winsLow) else bk1 (f_Model_in p1.toInt64 (2 : Int64) (p0 - (1 : Int32)).toInt64) fun r_4 => if r_4 = (0 : Int32) then some ((-2 : Int32), v_t_drawMany, v_t_drawn, v_t_due, v_t_fond, v_t_numbers, v_t_onTicket, v_t_setMany, v_t_sights, v_t_ticketMany, v_t_draws, v_t_sets, v_t_winsHigh, v_t_winsLow) else bk1 (f_Model_in p2.toInt64 (2 : Int64) (p0 - (1 : Int32)).toInt64) fun r_7 => if r_7 = (0 : Int32) then some ((-2 : Int32), v_t_drawMany, v_t_drawn, v_t_due, v_t_fond, v_t_numbers, v_t_onTicket, v_t_setMany, v_t_sights, v_t_ticketMany, v_t_draws, v_t_sets, v_t_winsHigh, v_t_winsLow) else if p2 ≤ p1 then bk1 (f_Model_in p3.toInt64 (1 : Int64) p2.toInt64) fun r_11 => if r_11 = (0 : Int32) then some ((-2 : Int32), v_t_drawMany, v_t_drawn, v_t_due, v_t_fond, v_t_numbers, v_t_onTicket, v_t_setMany, v_t_sights, v_t_ticketMany, v_t_draws, v_t_sets, v_t_winsHigh, v_t_winsLow) else bk13 (f_Model_begin v_t_draws v_t_sets v_t_winsHigh v_t_winsLow p0 p1 p2 p3) fun w_15_0 w_15_1 w_15_2 w_15_3 w_15_4 w_15_5 w_15_6 w_15_7 w_15_8 w_15_9 w_15_10 w_15_11 w_15_12 => some (w_15_0, w_15_0, w_15_1, w_15_2, w_15_3, w_15_4, w_15_5, w_15_6, w_15_7, w_15_8, w_15_9, w_15_10, w_15_11, w_15_12) else bk1 (f_Model_in p3.toInt64 (1 : Int64) p1.toInt64) fun r_16 => if r_16 = (0 : Int32) then some ((-2 : Int32), v_t_drawMany, v_t_drawn, v_t_due, v_t_fond, v_t_numbers, v_t_onTicket, v_t_setMany, v_t_sights, v_t_ticketMany, v_t_draws, v_t_sets, v_t_winsHigh, v_t_winsLow) else bk13 (f_Model_begin v_t_draws v_t_sets v_t_winsHigh v_t_winsLow p0 p1 p2 p3) fun w_20_0 w_20_1 w_20_2 w_20_3 w_20_4 w_20_5 w_20_6 w_20_7 w_20_8 w_20_9 w_20_10 w_20_11 w_20_12 => some (w_20_0, w_20_0, w_20_1, w_20_2, w_20_3, w_20_4, w_20_5, w_20_6, w_20_7, w_20_8, w_20_9, w_20_10, w_20_11, w_20_12)
set_option maxHeartbeats 4000000 in
set_option maxRecDepth 100000 in
theorem c_Model_game (l : Launch) (D : va_G) (I J Z : ClassId) (a_t : Nat) (a_t_draws : Nat) (a_t_sets : Nat) (a_t_winsHigh : Nat) (a_t_winsLow : Nat) (a_t_tickets : Nat) (a_t_prizes : Nat) (a_t_sightTicket : Nat) (a_t_sightRight : Nat) (a_t_sightHow : Nat) (a_t_pad : Nat) (a_t_could : Nat) (a_t_row : Nat) (a_t_best : Nat) (a_t_kept : Nat) (a_t_isKept : Nat)  (v_t_numbers : Int32) (v_t_onTicket : Int32) (v_t_drawn : Int32) (v_t_due : Int32) (v_t_ticketMany : Int32) (v_t_fond : Int32) (v_t_sights : Int32) (v_t_drawMany : Int32) (v_t_setMany : Int32) (v_t_padMany : Int32) (v_t_low : Int64) (v_t_high : Int64) (v_t_couldMany : Int32) (v_t_keptAt : Int32) (v_t_isWriting : Int32) (v_t_draws : Nat → Int32) (v_t_sets : Nat → Int32) (v_t_winsHigh : Nat → Int64) (v_t_winsLow : Nat → Int64) (p0 : Int32) (p1 : Int32) (p2 : Int32) (p3 : Int32) (out : (Int32 × Int32 × Int32 × Int32 × Int32 × Int32 × Int32 × Int32 × Int32 × Int32 × (Nat → Int32) × (Nat → Int32) × (Nat → Int64) × (Nat → Int64))) (h : f_Model_game v_t_drawMany v_t_drawn v_t_due v_t_fond v_t_numbers v_t_onTicket v_t_setMany v_t_sights v_t_ticketMany v_t_draws v_t_sets v_t_winsHigh v_t_winsLow p0 p1 p2 p3 = some out) : CT l D I J Z y_Model_game b_Model_game 6 (some .int) 6 [.ref a_t, .int p0, .int p1, .int p2, .int p3] [(a_t, .inr (10, [.int v_t_numbers, .int v_t_onTicket, .int v_t_drawn, .int v_t_due, .ref a_t_tickets, .int v_t_ticketMany, .int v_t_fond, .ref a_t_prizes, .ref a_t_sightTicket, .ref a_t_sightRight, .ref a_t_sightHow, .int v_t_sights, .ref a_t_draws, .int v_t_drawMany, .ref a_t_sets, .int v_t_setMany, .ref a_t_winsLow, .ref a_t_winsHigh, .ref a_t_pad, .int v_t_padMany, .long v_t_low, .long v_t_high, .ref a_t_could, .int v_t_couldMany, .ref a_t_row, .ref a_t_best, .ref a_t_kept, .ref a_t_isKept, .int v_t_keptAt, .int v_t_isWriting])), (a_t_draws, .inl (I, 70, .inl v_t_draws)), (a_t_sets, .inl (I, 70, .inl v_t_sets)), (a_t_winsHigh, .inl (J, 70, .inr (.inl v_t_winsHigh))), (a_t_winsLow, .inl (J, 70, .inr (.inl v_t_winsLow)))] (PoI out.1 D [(a_t, .inr (10, [.int out.2.2.2.2.2.1, .int out.2.2.2.2.2.2.1, .int out.2.2.1, .int out.2.2.2.1, .ref a_t_tickets, .int out.2.2.2.2.2.2.2.2.2.1, .int out.2.2.2.2.1, .ref a_t_prizes, .ref a_t_sightTicket, .ref a_t_sightRight, .ref a_t_sightHow, .int out.2.2.2.2.2.2.2.2.1, .ref a_t_draws, .int out.2.1, .ref a_t_sets, .int out.2.2.2.2.2.2.2.1, .ref a_t_winsLow, .ref a_t_winsHigh, .ref a_t_pad, .int v_t_padMany, .long v_t_low, .long v_t_high, .ref a_t_could, .int v_t_couldMany, .ref a_t_row, .ref a_t_best, .ref a_t_kept, .ref a_t_isKept, .int v_t_keptAt, .int v_t_isWriting])), (a_t_draws, .inl (I, 70, .inl out.2.2.2.2.2.2.2.2.2.2.1)), (a_t_sets, .inl (I, 70, .inl out.2.2.2.2.2.2.2.2.2.2.2.1)), (a_t_winsHigh, .inl (J, 70, .inr (.inl out.2.2.2.2.2.2.2.2.2.2.2.2.1))), (a_t_winsLow, .inl (J, 70, .inr (.inl out.2.2.2.2.2.2.2.2.2.2.2.2.2)))]) := by
  unfold f_Model_game at h
  refine CT_of R_Model (by decide +kernel) rfl (Nat.le_of_ble_eq_true rfl) ?_
  intro p e R s m args below meth c A ls Q hR1 hR2 hQ hC hr hW hA hl
  have hx := hC.1
  have hb := hC.2.1
  have hl : lv_has ls 6 [(0, .ref a_t), (1, .int p0), (2, .int p1), (3, .int p2), (4, .int p3)] := hl
  refine lv_iload_n hx hb d_Model_game_0 rfl (lv_at hl 1 rfl) ?_
  refine lv_i2l hx hb d_Model_game_1 rfl ?_
  refine x_ldc2 hC q_con_Model_107 d_Model_game_2 ?_
  refine x_ldc2 hC q_con_Model_109 d_Model_game_5 ?_
  obtain ⟨r_1, hc_1, h⟩ := bk1_e h
  refine x_ci (ws' := [(a_t, .inr (10, [.int v_t_numbers, .int v_t_onTicket, .int v_t_drawn, .int v_t_due, .ref a_t_tickets, .int v_t_ticketMany, .int v_t_fond, .ref a_t_prizes, .ref a_t_sightTicket, .ref a_t_sightRight, .ref a_t_sightHow, .int v_t_sights, .ref a_t_draws, .int v_t_drawMany, .ref a_t_sets, .int v_t_setMany, .ref a_t_winsLow, .ref a_t_winsHigh, .ref a_t_pad, .int v_t_padMany, .long v_t_low, .long v_t_high, .ref a_t_could, .int v_t_couldMany, .ref a_t_row, .ref a_t_best, .ref a_t_kept, .ref a_t_isKept, .int v_t_keptAt, .int v_t_isWriting])), (a_t_draws, .inl (I, 70, .inl v_t_draws)), (a_t_sets, .inl (I, 70, .inl v_t_sets)), (a_t_winsHigh, .inl (J, 70, .inr (.inl v_t_winsHigh))), (a_t_winsLow, .inl (J, 70, .inr (.inl v_t_winsLow)))]) (x_runS (rest := []) hC hW (c_Model_in l D I J Z p0.toInt64 (3 : Int64) (8 : Int64) (r_1) hc_1) cl_Model_111 q_code_Model_in [] rfl (by decide) rfl hl.1 (Nat.le_of_ble_eq_true rfl) (rm_ok hR1 hR2 (by decide) (by decide)) ⟨Nat.zero_le _, Nat.zero_le _⟩ d_Model_game_8) hW hA [] rfl rfl (ps := [none, none, none, none, none]) (by decide +kernel) ⟨rfl, rfl, rfl, rfl, rfl, trivial⟩ (fun H locs hW => ?_)
  refine lv_if_eq (tgt := 70) hx hb d_Model_game_11 (by decide) (fun c_2 => ?_) (fun c_2 => ?_)
  · have h := it_e c_2 h
    refine lv_iconst (v := (0 : Int32)) hx hb d_Model_game_70 (by decide) ?_
    refine lv_istore (lv' := [(5, .int (0 : Int32)), (0, .ref a_t), (1, .int p0), (2, .int p1), (3, .int p2), (4, .int p3)]) hx hb d_Model_game_71 hl (by decide) rfl (fun ls hl => ?_)
    refine lv_iload hx hb d_Model_game_73 (lv_at hl 0 rfl) ?_
    refine lv_if_ne (tgt := 81) hx hb d_Model_game_75 (by decide) (fun c_3 => ?_) (fun c_3 => ?_)
    · exact absurd c_3 (by decide)
    · refine lv_bipush (v := (-2 : Int32)) hx hb d_Model_game_78 (by decide) ?_
      cases h
      rw [hQ]
      exact x_iret hC hr hW d_Model_game_80
  · have h := ie_e c_2 h
    refine lv_iload_n hx hb d_Model_game_14 rfl (lv_at hl 2 rfl) ?_
    refine lv_i2l hx hb d_Model_game_15 rfl ?_
    refine x_ldc2 hC q_con_Model_115 d_Model_game_16 ?_
    refine lv_iload_n hx hb d_Model_game_19 rfl (lv_at hl 1 rfl) ?_
    refine lv_iconst (v := (1 : Int32)) hx hb d_Model_game_20 (by decide) ?_
    refine lv_isub hx hb d_Model_game_21 ?_
    refine lv_i2l hx hb d_Model_game_22 rfl ?_
    obtain ⟨r_4, hc_4, h⟩ := bk1_e h
    refine x_ci (ws' := [(a_t, .inr (10, [.int v_t_numbers, .int v_t_onTicket, .int v_t_drawn, .int v_t_due, .ref a_t_tickets, .int v_t_ticketMany, .int v_t_fond, .ref a_t_prizes, .ref a_t_sightTicket, .ref a_t_sightRight, .ref a_t_sightHow, .int v_t_sights, .ref a_t_draws, .int v_t_drawMany, .ref a_t_sets, .int v_t_setMany, .ref a_t_winsLow, .ref a_t_winsHigh, .ref a_t_pad, .int v_t_padMany, .long v_t_low, .long v_t_high, .ref a_t_could, .int v_t_couldMany, .ref a_t_row, .ref a_t_best, .ref a_t_kept, .ref a_t_isKept, .int v_t_keptAt, .int v_t_isWriting])), (a_t_draws, .inl (I, 70, .inl v_t_draws)), (a_t_sets, .inl (I, 70, .inl v_t_sets)), (a_t_winsHigh, .inl (J, 70, .inr (.inl v_t_winsHigh))), (a_t_winsLow, .inl (J, 70, .inr (.inl v_t_winsLow)))]) (x_runS (rest := []) hC hW (c_Model_in l D I J Z p1.toInt64 (2 : Int64) (p0 - (1 : Int32)).toInt64 (r_4) hc_4) cl_Model_111 q_code_Model_in [] rfl (by decide) rfl hl.1 (Nat.le_of_ble_eq_true rfl) (rm_ok hR1 hR2 (by decide) (by decide)) ⟨Nat.zero_le _, Nat.zero_le _⟩ d_Model_game_23) hW hA [] rfl rfl (ps := [none, none, none, none, none]) (by decide +kernel) ⟨rfl, rfl, rfl, rfl, rfl, trivial⟩ (fun H locs hW => ?_)
    refine lv_if_eq (tgt := 70) hx hb d_Model_game_26 (by decide) (fun c_5 => ?_) (fun c_5 => ?_)
    · have h := it_e c_5 h
      refine lv_iconst (v := (0 : Int32)) hx hb d_Model_game_70 (by decide) ?_
      refine lv_istore (lv' := [(5, .int (0 : Int32)), (0, .ref a_t), (1, .int p0), (2, .int p1), (3, .int p2), (4, .int p3)]) hx hb d_Model_game_71 hl (by decide) rfl (fun ls hl => ?_)
      refine lv_iload hx hb d_Model_game_73 (lv_at hl 0 rfl) ?_
      refine lv_if_ne (tgt := 81) hx hb d_Model_game_75 (by decide) (fun c_6 => ?_) (fun c_6 => ?_)
      · exact absurd c_6 (by decide)
      · refine lv_bipush (v := (-2 : Int32)) hx hb d_Model_game_78 (by decide) ?_
        cases h
        rw [hQ]
        exact x_iret hC hr hW d_Model_game_80
    · have h := ie_e c_5 h
      refine lv_iload_n hx hb d_Model_game_29 rfl (lv_at hl 3 rfl) ?_
      refine lv_i2l hx hb d_Model_game_30 rfl ?_
      refine x_ldc2 hC q_con_Model_115 d_Model_game_31 ?_
      refine lv_iload_n hx hb d_Model_game_34 rfl (lv_at hl 1 rfl) ?_
      refine lv_iconst (v := (1 : Int32)) hx hb d_Model_game_35 (by decide) ?_
      refine lv_isub hx hb d_Model_game_36 ?_
      refine lv_i2l hx hb d_Model_game_37 rfl ?_
      obtain ⟨r_7, hc_7, h⟩ := bk1_e h
      refine x_ci (ws' := [(a_t, .inr (10, [.int v_t_numbers, .int v_t_onTicket, .int v_t_drawn, .int v_t_due, .ref a_t_tickets, .int v_t_ticketMany, .int v_t_fond, .ref a_t_prizes, .ref a_t_sightTicket, .ref a_t_sightRight, .ref a_t_sightHow, .int v_t_sights, .ref a_t_draws, .int v_t_drawMany, .ref a_t_sets, .int v_t_setMany, .ref a_t_winsLow, .ref a_t_winsHigh, .ref a_t_pad, .int v_t_padMany, .long v_t_low, .long v_t_high, .ref a_t_could, .int v_t_couldMany, .ref a_t_row, .ref a_t_best, .ref a_t_kept, .ref a_t_isKept, .int v_t_keptAt, .int v_t_isWriting])), (a_t_draws, .inl (I, 70, .inl v_t_draws)), (a_t_sets, .inl (I, 70, .inl v_t_sets)), (a_t_winsHigh, .inl (J, 70, .inr (.inl v_t_winsHigh))), (a_t_winsLow, .inl (J, 70, .inr (.inl v_t_winsLow)))]) (x_runS (rest := []) hC hW (c_Model_in l D I J Z p2.toInt64 (2 : Int64) (p0 - (1 : Int32)).toInt64 (r_7) hc_7) cl_Model_111 q_code_Model_in [] rfl (by decide) rfl hl.1 (Nat.le_of_ble_eq_true rfl) (rm_ok hR1 hR2 (by decide) (by decide)) ⟨Nat.zero_le _, Nat.zero_le _⟩ d_Model_game_38) hW hA [] rfl rfl (ps := [none, none, none, none, none]) (by decide +kernel) ⟨rfl, rfl, rfl, rfl, rfl, trivial⟩ (fun H locs hW => ?_)
      refine lv_if_eq (tgt := 70) hx hb d_Model_game_41 (by decide) (fun c_8 => ?_) (fun c_8 => ?_)
      · have h := it_e c_8 h
        refine lv_iconst (v := (0 : Int32)) hx hb d_Model_game_70 (by decide) ?_
        refine lv_istore (lv' := [(5, .int (0 : Int32)), (0, .ref a_t), (1, .int p0), (2, .int p1), (3, .int p2), (4, .int p3)]) hx hb d_Model_game_71 hl (by decide) rfl (fun ls hl => ?_)
        refine lv_iload hx hb d_Model_game_73 (lv_at hl 0 rfl) ?_
        refine lv_if_ne (tgt := 81) hx hb d_Model_game_75 (by decide) (fun c_9 => ?_) (fun c_9 => ?_)
        · exact absurd c_9 (by decide)
        · refine lv_bipush (v := (-2 : Int32)) hx hb d_Model_game_78 (by decide) ?_
          cases h
          rw [hQ]
          exact x_iret hC hr hW d_Model_game_80
      · have h := ie_e c_8 h
        refine lv_iload hx hb d_Model_game_44 (lv_at hl 4 rfl) ?_
        refine lv_i2l hx hb d_Model_game_46 rfl ?_
        refine lv_lconst (v := (1 : Int64)) hx hb d_Model_game_47 (by decide) ?_
        refine lv_iload_n hx hb d_Model_game_48 rfl (lv_at hl 2 rfl) ?_
        refine lv_iload_n hx hb d_Model_game_49 rfl (lv_at hl 3 rfl) ?_
        refine lv_icmp_ge (tgt := 58) hx hb d_Model_game_50 (by decide) (fun c_10 => ?_) (fun c_10 => ?_)
        · have h := it_e c_10 h
          refine lv_iload_n hx hb d_Model_game_58 rfl (lv_at hl 3 rfl) ?_
          refine lv_i2l hx hb d_Model_game_59 rfl ?_
          obtain ⟨r_11, hc_11, h⟩ := bk1_e h
          refine x_ci (ws' := [(a_t, .inr (10, [.int v_t_numbers, .int v_t_onTicket, .int v_t_drawn, .int v_t_due, .ref a_t_tickets, .int v_t_ticketMany, .int v_t_fond, .ref a_t_prizes, .ref a_t_sightTicket, .ref a_t_sightRight, .ref a_t_sightHow, .int v_t_sights, .ref a_t_draws, .int v_t_drawMany, .ref a_t_sets, .int v_t_setMany, .ref a_t_winsLow, .ref a_t_winsHigh, .ref a_t_pad, .int v_t_padMany, .long v_t_low, .long v_t_high, .ref a_t_could, .int v_t_couldMany, .ref a_t_row, .ref a_t_best, .ref a_t_kept, .ref a_t_isKept, .int v_t_keptAt, .int v_t_isWriting])), (a_t_draws, .inl (I, 70, .inl v_t_draws)), (a_t_sets, .inl (I, 70, .inl v_t_sets)), (a_t_winsHigh, .inl (J, 70, .inr (.inl v_t_winsHigh))), (a_t_winsLow, .inl (J, 70, .inr (.inl v_t_winsLow)))]) (x_runS (rest := []) hC hW (c_Model_in l D I J Z p3.toInt64 (1 : Int64) p2.toInt64 (r_11) hc_11) cl_Model_111 q_code_Model_in [] rfl (by decide) rfl hl.1 (Nat.le_of_ble_eq_true rfl) (rm_ok hR1 hR2 (by decide) (by decide)) ⟨Nat.zero_le _, Nat.zero_le _⟩ d_Model_game_60) hW hA [] rfl rfl (ps := [none, none, none, none, none]) (by decide +kernel) ⟨rfl, rfl, rfl, rfl, rfl, trivial⟩ (fun H locs hW => ?_)
          refine lv_if_eq (tgt := 70) hx hb d_Model_game_63 (by decide) (fun c_12 => ?_) (fun c_12 => ?_)
          · have h := it_e c_12 h
            refine lv_iconst (v := (0 : Int32)) hx hb d_Model_game_70 (by decide) ?_
            refine lv_istore (lv' := [(5, .int (0 : Int32)), (0, .ref a_t), (1, .int p0), (2, .int p1), (3, .int p2), (4, .int p3)]) hx hb d_Model_game_71 hl (by decide) rfl (fun ls hl => ?_)
            refine lv_iload hx hb d_Model_game_73 (lv_at hl 0 rfl) ?_
            refine lv_if_ne (tgt := 81) hx hb d_Model_game_75 (by decide) (fun c_13 => ?_) (fun c_13 => ?_)
            · exact absurd c_13 (by decide)
            · refine lv_bipush (v := (-2 : Int32)) hx hb d_Model_game_78 (by decide) ?_
              cases h
              rw [hQ]
              exact x_iret hC hr hW d_Model_game_80
          · have h := ie_e c_12 h
            refine lv_iconst (v := (1 : Int32)) hx hb d_Model_game_66 (by decide) ?_
            refine lv_goto (tgt := 71) hx hb d_Model_game_67 (by decide) ?_
            refine lv_istore (lv' := [(5, .int (1 : Int32)), (0, .ref a_t), (1, .int p0), (2, .int p1), (3, .int p2), (4, .int p3)]) hx hb d_Model_game_71 hl (by decide) rfl (fun ls hl => ?_)
            refine lv_iload hx hb d_Model_game_73 (lv_at hl 0 rfl) ?_
            refine lv_if_ne (tgt := 81) hx hb d_Model_game_75 (by decide) (fun c_14 => ?_) (fun c_14 => ?_)
            · refine lv_aload_n hx hb d_Model_game_81 rfl (lv_at hl 1 rfl) ?_
              refine lv_iload_n hx hb d_Model_game_82 rfl (lv_at hl 2 rfl) ?_
              refine lv_iload_n hx hb d_Model_game_83 rfl (lv_at hl 3 rfl) ?_
              refine lv_iload_n hx hb d_Model_game_84 rfl (lv_at hl 4 rfl) ?_
              refine lv_iload hx hb d_Model_game_85 (lv_at hl 5 rfl) ?_
              obtain ⟨w_15_0, w_15_1, w_15_2, w_15_3, w_15_4, w_15_5, w_15_6, w_15_7, w_15_8, w_15_9, w_15_10, w_15_11, w_15_12, hc_15, h⟩ := bk13_e h
              refine x_cv (ws' := [(a_t, .inr (10, [.int w_15_4, .int w_15_5, .int w_15_1, .int w_15_2, .ref a_t_tickets, .int w_15_8, .int w_15_3, .ref a_t_prizes, .ref a_t_sightTicket, .ref a_t_sightRight, .ref a_t_sightHow, .int w_15_7, .ref a_t_draws, .int w_15_0, .ref a_t_sets, .int w_15_6, .ref a_t_winsLow, .ref a_t_winsHigh, .ref a_t_pad, .int v_t_padMany, .long v_t_low, .long v_t_high, .ref a_t_could, .int v_t_couldMany, .ref a_t_row, .ref a_t_best, .ref a_t_kept, .ref a_t_isKept, .int v_t_keptAt, .int v_t_isWriting])), (a_t_draws, .inl (I, 70, .inl w_15_9)), (a_t_sets, .inl (I, 70, .inl w_15_10)), (a_t_winsHigh, .inl (J, 70, .inr (.inl w_15_11))), (a_t_winsLow, .inl (J, 70, .inr (.inl w_15_12)))]) (x_runV (As := [.int p0, .int p1, .int p2, .int p3]) (rest := []) hC hW (c_Model_begin l D I J Z a_t a_t_draws a_t_sets a_t_winsHigh a_t_winsLow a_t_tickets a_t_prizes a_t_sightTicket a_t_sightRight a_t_sightHow a_t_pad a_t_could a_t_row a_t_best a_t_kept a_t_isKept v_t_numbers v_t_onTicket v_t_drawn v_t_due v_t_ticketMany v_t_fond v_t_sights v_t_drawMany v_t_setMany v_t_padMany v_t_low v_t_high v_t_couldMany v_t_keptAt v_t_isWriting v_t_draws v_t_sets v_t_winsHigh v_t_winsLow p0 p1 p2 p3 (w_15_0, w_15_1, w_15_2, w_15_3, w_15_4, w_15_5, w_15_6, w_15_7, w_15_8, w_15_9, w_15_10, w_15_11, w_15_12) hc_15) cl_Model_57 q_code_Model_begin [0, 1, 2, 3, 4] rfl (by decide) 0 rfl rfl rfl rfl hl.1 (Nat.le_of_ble_eq_true rfl) (rm_ok hR1 hR2 (by decide) (by decide)) ⟨Nat.zero_le _, Nat.zero_le _⟩ d_Model_game_87) hW hA [0, 1, 2, 3, 4] rfl rfl (ps := [some 0, some 1, some 2, some 3, some 4]) (by decide +kernel) ⟨rfl, rfl, rfl, rfl, rfl, trivial⟩ (fun H locs hW => ?_)
              refine lv_aload_n hx hb d_Model_game_90 rfl (lv_at hl 1 rfl) ?_
              refine x_get hC hW 0 rfl fl_Model_86 rfl d_Model_game_91 ?_
              cases h
              rw [hQ]
              exact x_iret hC hr hW d_Model_game_94
            · exact absurd c_14 (by decide)
        · have h := ie_e c_10 h
          refine lv_iload_n hx hb d_Model_game_53 rfl (lv_at hl 2 rfl) ?_
          refine lv_i2l hx hb d_Model_game_54 rfl ?_
          refine lv_goto (tgt := 60) hx hb d_Model_game_55 (by decide) ?_
          obtain ⟨r_16, hc_16, h⟩ := bk1_e h
          refine x_ci (ws' := [(a_t, .inr (10, [.int v_t_numbers, .int v_t_onTicket, .int v_t_drawn, .int v_t_due, .ref a_t_tickets, .int v_t_ticketMany, .int v_t_fond, .ref a_t_prizes, .ref a_t_sightTicket, .ref a_t_sightRight, .ref a_t_sightHow, .int v_t_sights, .ref a_t_draws, .int v_t_drawMany, .ref a_t_sets, .int v_t_setMany, .ref a_t_winsLow, .ref a_t_winsHigh, .ref a_t_pad, .int v_t_padMany, .long v_t_low, .long v_t_high, .ref a_t_could, .int v_t_couldMany, .ref a_t_row, .ref a_t_best, .ref a_t_kept, .ref a_t_isKept, .int v_t_keptAt, .int v_t_isWriting])), (a_t_draws, .inl (I, 70, .inl v_t_draws)), (a_t_sets, .inl (I, 70, .inl v_t_sets)), (a_t_winsHigh, .inl (J, 70, .inr (.inl v_t_winsHigh))), (a_t_winsLow, .inl (J, 70, .inr (.inl v_t_winsLow)))]) (x_runS (rest := []) hC hW (c_Model_in l D I J Z p3.toInt64 (1 : Int64) p1.toInt64 (r_16) hc_16) cl_Model_111 q_code_Model_in [] rfl (by decide) rfl hl.1 (Nat.le_of_ble_eq_true rfl) (rm_ok hR1 hR2 (by decide) (by decide)) ⟨Nat.zero_le _, Nat.zero_le _⟩ d_Model_game_60) hW hA [] rfl rfl (ps := [none, none, none, none, none]) (by decide +kernel) ⟨rfl, rfl, rfl, rfl, rfl, trivial⟩ (fun H locs hW => ?_)
          refine lv_if_eq (tgt := 70) hx hb d_Model_game_63 (by decide) (fun c_17 => ?_) (fun c_17 => ?_)
          · have h := it_e c_17 h
            refine lv_iconst (v := (0 : Int32)) hx hb d_Model_game_70 (by decide) ?_
            refine lv_istore (lv' := [(5, .int (0 : Int32)), (0, .ref a_t), (1, .int p0), (2, .int p1), (3, .int p2), (4, .int p3)]) hx hb d_Model_game_71 hl (by decide) rfl (fun ls hl => ?_)
            refine lv_iload hx hb d_Model_game_73 (lv_at hl 0 rfl) ?_
            refine lv_if_ne (tgt := 81) hx hb d_Model_game_75 (by decide) (fun c_18 => ?_) (fun c_18 => ?_)
            · exact absurd c_18 (by decide)
            · refine lv_bipush (v := (-2 : Int32)) hx hb d_Model_game_78 (by decide) ?_
              cases h
              rw [hQ]
              exact x_iret hC hr hW d_Model_game_80
          · have h := ie_e c_17 h
            refine lv_iconst (v := (1 : Int32)) hx hb d_Model_game_66 (by decide) ?_
            refine lv_goto (tgt := 71) hx hb d_Model_game_67 (by decide) ?_
            refine lv_istore (lv' := [(5, .int (1 : Int32)), (0, .ref a_t), (1, .int p0), (2, .int p1), (3, .int p2), (4, .int p3)]) hx hb d_Model_game_71 hl (by decide) rfl (fun ls hl => ?_)
            refine lv_iload hx hb d_Model_game_73 (lv_at hl 0 rfl) ?_
            refine lv_if_ne (tgt := 81) hx hb d_Model_game_75 (by decide) (fun c_19 => ?_) (fun c_19 => ?_)
            · refine lv_aload_n hx hb d_Model_game_81 rfl (lv_at hl 1 rfl) ?_
              refine lv_iload_n hx hb d_Model_game_82 rfl (lv_at hl 2 rfl) ?_
              refine lv_iload_n hx hb d_Model_game_83 rfl (lv_at hl 3 rfl) ?_
              refine lv_iload_n hx hb d_Model_game_84 rfl (lv_at hl 4 rfl) ?_
              refine lv_iload hx hb d_Model_game_85 (lv_at hl 5 rfl) ?_
              obtain ⟨w_20_0, w_20_1, w_20_2, w_20_3, w_20_4, w_20_5, w_20_6, w_20_7, w_20_8, w_20_9, w_20_10, w_20_11, w_20_12, hc_20, h⟩ := bk13_e h
              refine x_cv (ws' := [(a_t, .inr (10, [.int w_20_4, .int w_20_5, .int w_20_1, .int w_20_2, .ref a_t_tickets, .int w_20_8, .int w_20_3, .ref a_t_prizes, .ref a_t_sightTicket, .ref a_t_sightRight, .ref a_t_sightHow, .int w_20_7, .ref a_t_draws, .int w_20_0, .ref a_t_sets, .int w_20_6, .ref a_t_winsLow, .ref a_t_winsHigh, .ref a_t_pad, .int v_t_padMany, .long v_t_low, .long v_t_high, .ref a_t_could, .int v_t_couldMany, .ref a_t_row, .ref a_t_best, .ref a_t_kept, .ref a_t_isKept, .int v_t_keptAt, .int v_t_isWriting])), (a_t_draws, .inl (I, 70, .inl w_20_9)), (a_t_sets, .inl (I, 70, .inl w_20_10)), (a_t_winsHigh, .inl (J, 70, .inr (.inl w_20_11))), (a_t_winsLow, .inl (J, 70, .inr (.inl w_20_12)))]) (x_runV (As := [.int p0, .int p1, .int p2, .int p3]) (rest := []) hC hW (c_Model_begin l D I J Z a_t a_t_draws a_t_sets a_t_winsHigh a_t_winsLow a_t_tickets a_t_prizes a_t_sightTicket a_t_sightRight a_t_sightHow a_t_pad a_t_could a_t_row a_t_best a_t_kept a_t_isKept v_t_numbers v_t_onTicket v_t_drawn v_t_due v_t_ticketMany v_t_fond v_t_sights v_t_drawMany v_t_setMany v_t_padMany v_t_low v_t_high v_t_couldMany v_t_keptAt v_t_isWriting v_t_draws v_t_sets v_t_winsHigh v_t_winsLow p0 p1 p2 p3 (w_20_0, w_20_1, w_20_2, w_20_3, w_20_4, w_20_5, w_20_6, w_20_7, w_20_8, w_20_9, w_20_10, w_20_11, w_20_12) hc_20) cl_Model_57 q_code_Model_begin [0, 1, 2, 3, 4] rfl (by decide) 0 rfl rfl rfl rfl hl.1 (Nat.le_of_ble_eq_true rfl) (rm_ok hR1 hR2 (by decide) (by decide)) ⟨Nat.zero_le _, Nat.zero_le _⟩ d_Model_game_87) hW hA [0, 1, 2, 3, 4] rfl rfl (ps := [some 0, some 1, some 2, some 3, some 4]) (by decide +kernel) ⟨rfl, rfl, rfl, rfl, rfl, trivial⟩ (fun H locs hW => ?_)
              refine lv_aload_n hx hb d_Model_game_90 rfl (lv_at hl 1 rfl) ?_
              refine x_get hC hW 0 rfl fl_Model_86 rfl d_Model_game_91 ?_
              cases h
              rw [hQ]
              exact x_iret hC hr hW d_Model_game_94
            · exact absurd c_19 (by decide)

def f_Model_say (v_t_padMany : Int32) (v_t_pad : Nat → Int32) (p0 : Int32) : Option (Int32 × Int32 × (Nat → Int32)) :=
  bk1 (f_Model_in p0.toInt64 (33 : Int64) (126 : Int64)) fun r_1 => if r_1 = (0 : Int32) then some ((-2 : Int32), v_t_padMany, v_t_pad) else if v_t_padMany = (60 : Int32) then some ((-4 : Int32), v_t_padMany, v_t_pad) else gd v_t_padMany 60 (some ((v_t_padMany + (1 : Int32)), (v_t_padMany + (1 : Int32)), (upd v_t_pad v_t_padMany.toNatClampNeg p0)))
set_option maxHeartbeats 4000000 in
set_option maxRecDepth 100000 in
theorem c_Model_say (l : Launch) (D : va_G) (I J Z : ClassId) (a_t : Nat) (a_t_pad : Nat) (a_t_tickets : Nat) (a_t_prizes : Nat) (a_t_sightTicket : Nat) (a_t_sightRight : Nat) (a_t_sightHow : Nat) (a_t_draws : Nat) (a_t_sets : Nat) (a_t_winsLow : Nat) (a_t_winsHigh : Nat) (a_t_could : Nat) (a_t_row : Nat) (a_t_best : Nat) (a_t_kept : Nat) (a_t_isKept : Nat)  (v_t_numbers : Int32) (v_t_onTicket : Int32) (v_t_drawn : Int32) (v_t_due : Int32) (v_t_ticketMany : Int32) (v_t_fond : Int32) (v_t_sights : Int32) (v_t_drawMany : Int32) (v_t_setMany : Int32) (v_t_padMany : Int32) (v_t_low : Int64) (v_t_high : Int64) (v_t_couldMany : Int32) (v_t_keptAt : Int32) (v_t_isWriting : Int32) (v_t_pad : Nat → Int32) (p0 : Int32) (out : (Int32 × Int32 × (Nat → Int32))) (h : f_Model_say v_t_padMany v_t_pad p0 = some out) : CT l D I J Z y_Model_say b_Model_say 2 (some .int) 2 [.ref a_t, .int p0] [(a_t, .inr (10, [.int v_t_numbers, .int v_t_onTicket, .int v_t_drawn, .int v_t_due, .ref a_t_tickets, .int v_t_ticketMany, .int v_t_fond, .ref a_t_prizes, .ref a_t_sightTicket, .ref a_t_sightRight, .ref a_t_sightHow, .int v_t_sights, .ref a_t_draws, .int v_t_drawMany, .ref a_t_sets, .int v_t_setMany, .ref a_t_winsLow, .ref a_t_winsHigh, .ref a_t_pad, .int v_t_padMany, .long v_t_low, .long v_t_high, .ref a_t_could, .int v_t_couldMany, .ref a_t_row, .ref a_t_best, .ref a_t_kept, .ref a_t_isKept, .int v_t_keptAt, .int v_t_isWriting])), (a_t_pad, .inl (I, 60, .inl v_t_pad))] (PoI out.1 D [(a_t, .inr (10, [.int v_t_numbers, .int v_t_onTicket, .int v_t_drawn, .int v_t_due, .ref a_t_tickets, .int v_t_ticketMany, .int v_t_fond, .ref a_t_prizes, .ref a_t_sightTicket, .ref a_t_sightRight, .ref a_t_sightHow, .int v_t_sights, .ref a_t_draws, .int v_t_drawMany, .ref a_t_sets, .int v_t_setMany, .ref a_t_winsLow, .ref a_t_winsHigh, .ref a_t_pad, .int out.2.1, .long v_t_low, .long v_t_high, .ref a_t_could, .int v_t_couldMany, .ref a_t_row, .ref a_t_best, .ref a_t_kept, .ref a_t_isKept, .int v_t_keptAt, .int v_t_isWriting])), (a_t_pad, .inl (I, 60, .inl out.2.2))]) := by
  unfold f_Model_say at h
  refine CT_of R_Model (by decide +kernel) rfl (Nat.le_of_ble_eq_true rfl) ?_
  intro p e R s m args below meth c A ls Q hR1 hR2 hQ hC hr hW hA hl
  have hx := hC.1
  have hb := hC.2.1
  have hl : lv_has ls 2 [(0, .ref a_t), (1, .int p0)] := hl
  refine lv_iload_n hx hb d_Model_say_0 rfl (lv_at hl 1 rfl) ?_
  refine lv_i2l hx hb d_Model_say_1 rfl ?_
  refine x_ldc2 hC q_con_Model_117 d_Model_say_2 ?_
  refine x_ldc2 hC q_con_Model_119 d_Model_say_5 ?_
  obtain ⟨r_1, hc_1, h⟩ := bk1_e h
  refine x_ci (ws' := [(a_t, .inr (10, [.int v_t_numbers, .int v_t_onTicket, .int v_t_drawn, .int v_t_due, .ref a_t_tickets, .int v_t_ticketMany, .int v_t_fond, .ref a_t_prizes, .ref a_t_sightTicket, .ref a_t_sightRight, .ref a_t_sightHow, .int v_t_sights, .ref a_t_draws, .int v_t_drawMany, .ref a_t_sets, .int v_t_setMany, .ref a_t_winsLow, .ref a_t_winsHigh, .ref a_t_pad, .int v_t_padMany, .long v_t_low, .long v_t_high, .ref a_t_could, .int v_t_couldMany, .ref a_t_row, .ref a_t_best, .ref a_t_kept, .ref a_t_isKept, .int v_t_keptAt, .int v_t_isWriting])), (a_t_pad, .inl (I, 60, .inl v_t_pad))]) (x_runS (rest := []) hC hW (c_Model_in l D I J Z p0.toInt64 (33 : Int64) (126 : Int64) (r_1) hc_1) cl_Model_111 q_code_Model_in [] rfl (by decide) rfl hl.1 (Nat.le_of_ble_eq_true rfl) (rm_ok hR1 hR2 (by decide) (by decide)) ⟨Nat.zero_le _, Nat.zero_le _⟩ d_Model_say_8) hW hA [] rfl rfl (ps := [none, none]) (by decide +kernel) ⟨rfl, rfl, trivial⟩ (fun H locs hW => ?_)
  refine lv_if_ne (tgt := 17) hx hb d_Model_say_11 (by decide) (fun c_2 => ?_) (fun c_2 => ?_)
  · have h := ie_e c_2 h
    refine lv_aload_n hx hb d_Model_say_17 rfl (lv_at hl 0 rfl) ?_
    refine x_get hC hW 0 rfl fl_Model_121 rfl d_Model_say_18 ?_
    refine lv_bipush (v := (60 : Int32)) hx hb d_Model_say_21 (by decide) ?_
    refine lv_icmp_ne (tgt := 29) hx hb d_Model_say_23 (by decide) (fun c_3 => ?_) (fun c_3 => ?_)
    · have h := ie_e c_3 h
      refine lv_aload_n hx hb d_Model_say_29 rfl (lv_at hl 0 rfl) ?_
      refine x_get hC hW 0 rfl fl_Model_38 rfl d_Model_say_30 ?_
      refine lv_aload_n hx hb d_Model_say_33 rfl (lv_at hl 0 rfl) ?_
      refine x_get hC hW 0 rfl fl_Model_121 rfl d_Model_say_34 ?_
      refine lv_iload_n hx hb d_Model_say_37 rfl (lv_at hl 1 rfl) ?_
      obtain ⟨hi_4, h⟩ := gd_e h
      refine x_iast (ws' := [(a_t, .inr (10, [.int v_t_numbers, .int v_t_onTicket, .int v_t_drawn, .int v_t_due, .ref a_t_tickets, .int v_t_ticketMany, .int v_t_fond, .ref a_t_prizes, .ref a_t_sightTicket, .ref a_t_sightRight, .ref a_t_sightHow, .int v_t_sights, .ref a_t_draws, .int v_t_drawMany, .ref a_t_sets, .int v_t_setMany, .ref a_t_winsLow, .ref a_t_winsHigh, .ref a_t_pad, .int v_t_padMany, .long v_t_low, .long v_t_high, .ref a_t_could, .int v_t_couldMany, .ref a_t_row, .ref a_t_best, .ref a_t_kept, .ref a_t_isKept, .int v_t_keptAt, .int v_t_isWriting])), (a_t_pad, .inl (I, 60, .inl (upd v_t_pad v_t_padMany.toNatClampNeg p0)))]) hC hW 1 rfl hi_4 d_Model_say_38 rfl (fun H locs hW => ?_)
      refine lv_aload_n hx hb d_Model_say_39 rfl (lv_at hl 0 rfl) ?_
      refine lv_dup hx hb d_Model_say_40 rfl ?_
      refine x_get hC hW 0 rfl fl_Model_121 rfl d_Model_say_41 ?_
      refine lv_iconst (v := (1 : Int32)) hx hb d_Model_say_44 (by decide) ?_
      refine lv_iadd hx hb d_Model_say_45 ?_
      refine x_put (ws' := [(a_t, .inr (10, [.int v_t_numbers, .int v_t_onTicket, .int v_t_drawn, .int v_t_due, .ref a_t_tickets, .int v_t_ticketMany, .int v_t_fond, .ref a_t_prizes, .ref a_t_sightTicket, .ref a_t_sightRight, .ref a_t_sightHow, .int v_t_sights, .ref a_t_draws, .int v_t_drawMany, .ref a_t_sets, .int v_t_setMany, .ref a_t_winsLow, .ref a_t_winsHigh, .ref a_t_pad, .int (v_t_padMany + (1 : Int32)), .long v_t_low, .long v_t_high, .ref a_t_could, .int v_t_couldMany, .ref a_t_row, .ref a_t_best, .ref a_t_kept, .ref a_t_isKept, .int v_t_keptAt, .int v_t_isWriting])), (a_t_pad, .inl (I, 60, .inl (upd v_t_pad v_t_padMany.toNatClampNeg p0)))]) hC hW 0 rfl fp_Model_121 rfl rfl (Nat.le_of_ble_eq_true rfl) d_Model_say_46 rfl (fun H locs hW => ?_)
      refine lv_aload_n hx hb d_Model_say_49 rfl (lv_at hl 0 rfl) ?_
      refine x_get hC hW 0 rfl fl_Model_121 rfl d_Model_say_50 ?_
      cases h
      rw [hQ]
      exact x_iret hC hr hW d_Model_say_53
    · have h := it_e c_3 h
      refine lv_bipush (v := (-4 : Int32)) hx hb d_Model_say_26 (by decide) ?_
      cases h
      rw [hQ]
      exact x_iret hC hr hW d_Model_say_28
  · have h := it_e c_2 h
    refine lv_bipush (v := (-2 : Int32)) hx hb d_Model_say_14 (by decide) ?_
    cases h
    rw [hQ]
    exact x_iret hC hr hW d_Model_say_16

def f_Model_wipe (v_t_padMany : Int32) : Option (Int32 × Int32) :=
  some (v_t_padMany, (0 : Int32))
set_option maxHeartbeats 4000000 in
set_option maxRecDepth 100000 in
theorem c_Model_wipe (l : Launch) (D : va_G) (I J Z : ClassId) (a_t : Nat) (a_t_tickets : Nat) (a_t_prizes : Nat) (a_t_sightTicket : Nat) (a_t_sightRight : Nat) (a_t_sightHow : Nat) (a_t_draws : Nat) (a_t_sets : Nat) (a_t_winsLow : Nat) (a_t_winsHigh : Nat) (a_t_pad : Nat) (a_t_could : Nat) (a_t_row : Nat) (a_t_best : Nat) (a_t_kept : Nat) (a_t_isKept : Nat)  (v_t_numbers : Int32) (v_t_onTicket : Int32) (v_t_drawn : Int32) (v_t_due : Int32) (v_t_ticketMany : Int32) (v_t_fond : Int32) (v_t_sights : Int32) (v_t_drawMany : Int32) (v_t_setMany : Int32) (v_t_padMany : Int32) (v_t_low : Int64) (v_t_high : Int64) (v_t_couldMany : Int32) (v_t_keptAt : Int32) (v_t_isWriting : Int32)  (out : (Int32 × Int32)) (h : f_Model_wipe v_t_padMany = some out) : CT l D I J Z y_Model_wipe b_Model_wipe 2 (some .int) 1 [.ref a_t] [(a_t, .inr (10, [.int v_t_numbers, .int v_t_onTicket, .int v_t_drawn, .int v_t_due, .ref a_t_tickets, .int v_t_ticketMany, .int v_t_fond, .ref a_t_prizes, .ref a_t_sightTicket, .ref a_t_sightRight, .ref a_t_sightHow, .int v_t_sights, .ref a_t_draws, .int v_t_drawMany, .ref a_t_sets, .int v_t_setMany, .ref a_t_winsLow, .ref a_t_winsHigh, .ref a_t_pad, .int v_t_padMany, .long v_t_low, .long v_t_high, .ref a_t_could, .int v_t_couldMany, .ref a_t_row, .ref a_t_best, .ref a_t_kept, .ref a_t_isKept, .int v_t_keptAt, .int v_t_isWriting]))] (PoI out.1 D [(a_t, .inr (10, [.int v_t_numbers, .int v_t_onTicket, .int v_t_drawn, .int v_t_due, .ref a_t_tickets, .int v_t_ticketMany, .int v_t_fond, .ref a_t_prizes, .ref a_t_sightTicket, .ref a_t_sightRight, .ref a_t_sightHow, .int v_t_sights, .ref a_t_draws, .int v_t_drawMany, .ref a_t_sets, .int v_t_setMany, .ref a_t_winsLow, .ref a_t_winsHigh, .ref a_t_pad, .int out.2, .long v_t_low, .long v_t_high, .ref a_t_could, .int v_t_couldMany, .ref a_t_row, .ref a_t_best, .ref a_t_kept, .ref a_t_isKept, .int v_t_keptAt, .int v_t_isWriting]))]) := by
  unfold f_Model_wipe at h
  refine CT_of R_Model (by decide +kernel) rfl (Nat.le_of_ble_eq_true rfl) ?_
  intro p e R s m args below meth c A ls Q hR1 hR2 hQ hC hr hW hA hl
  have hx := hC.1
  have hb := hC.2.1
  have hl : lv_has ls 2 [(0, .ref a_t)] := hl
  refine lv_aload_n hx hb d_Model_wipe_0 rfl (lv_at hl 0 rfl) ?_
  refine x_get hC hW 0 rfl fl_Model_121 rfl d_Model_wipe_1 ?_
  refine lv_istore_n (lv' := [(1, .int v_t_padMany), (0, .ref a_t)]) hx hb d_Model_wipe_4 rfl hl (by decide) rfl (fun ls hl => ?_)
  refine lv_aload_n hx hb d_Model_wipe_5 rfl (lv_at hl 1 rfl) ?_
  refine lv_iconst (v := (0 : Int32)) hx hb d_Model_wipe_6 (by decide) ?_
  refine x_put (ws' := [(a_t, .inr (10, [.int v_t_numbers, .int v_t_onTicket, .int v_t_drawn, .int v_t_due, .ref a_t_tickets, .int v_t_ticketMany, .int v_t_fond, .ref a_t_prizes, .ref a_t_sightTicket, .ref a_t_sightRight, .ref a_t_sightHow, .int v_t_sights, .ref a_t_draws, .int v_t_drawMany, .ref a_t_sets, .int v_t_setMany, .ref a_t_winsLow, .ref a_t_winsHigh, .ref a_t_pad, .int (0 : Int32), .long v_t_low, .long v_t_high, .ref a_t_could, .int v_t_couldMany, .ref a_t_row, .ref a_t_best, .ref a_t_kept, .ref a_t_isKept, .int v_t_keptAt, .int v_t_isWriting]))]) hC hW 0 rfl fp_Model_121 rfl rfl (Nat.le_of_ble_eq_true rfl) d_Model_wipe_7 rfl (fun H locs hW => ?_)
  refine lv_iload_n hx hb d_Model_wipe_10 rfl (lv_at hl 0 rfl) ?_
  cases h
  rw [hQ]
  exact x_iret hC hr hW d_Model_wipe_11

def L_Model_fault_10 (v_t_numbers : Int32) (v_t_onTicket : Int32) (v_t_padMany : Int32) (v_t_pad : Nat → Int32) : Nat → Int32 → Int32 → Int32 → Int32 → Option (Except (Int32) (Int32 × Int32 × Int32 × Int32))
  | 0, _, _, _, _ => none
  | n + 1, x1, x2, x3, x4 => if v_t_padMany ≤ x4 then some (.ok (x1, x2, x3, x4)) else gd x4 60 (bk1 (f_Model_in (v_t_pad x4.toNatClampNeg).toInt64 (x2 + (1 : Int32)).toInt64 ((48 : Int32) + v_t_numbers).toInt64) fun r_3 => if r_3 = (0 : Int32) then if (v_t_pad x4.toNatClampNeg) = (59 : Int32) then if x1 = v_t_onTicket then if (5 : Int32) ≤ x3 then some (.error (x4)) else L_Model_fault_10 v_t_numbers v_t_onTicket v_t_padMany v_t_pad n (0 : Int32) (48 : Int32) (x3 + (1 : Int32)) (x4 + (1 : Int32)) else some (.error (x4)) else some (.error (x4)) else if v_t_onTicket ≤ x1 then if (v_t_pad x4.toNatClampNeg) = (59 : Int32) then if x1 = v_t_onTicket then if (5 : Int32) ≤ x3 then some (.error (x4)) else L_Model_fault_10 v_t_numbers v_t_onTicket v_t_padMany v_t_pad n (0 : Int32) (48 : Int32) (x3 + (1 : Int32)) (x4 + (1 : Int32)) else some (.error (x4)) else some (.error (x4)) else L_Model_fault_10 v_t_numbers v_t_onTicket v_t_padMany v_t_pad n (x1 + (1 : Int32)) (v_t_pad x4.toNatClampNeg) x3 (x4 + (1 : Int32)))
def f_Model_fault (v_t_numbers : Int32) (v_t_onTicket : Int32) (v_t_padMany : Int32) (v_t_pad : Nat → Int32) : Option (Int32) :=
  lm4 (L_Model_fault_10 v_t_numbers v_t_onTicket v_t_padMany v_t_pad 300 (0 : Int32) (48 : Int32) (0 : Int32) (0 : Int32)) fun yx1_12 yx2_12 yx3_12 yx4_12 => if v_t_padMany = (0 : Int32) then some ((-6 : Int32)) else if yx1_12 = v_t_onTicket then some ((-6 : Int32)) else some (v_t_padMany)
set_option maxHeartbeats 4000000 in
set_option maxRecDepth 100000 in
theorem c_Model_fault (l : Launch) (D : va_G) (I J Z : ClassId) (a_t : Nat) (a_t_pad : Nat) (a_t_tickets : Nat) (a_t_prizes : Nat) (a_t_sightTicket : Nat) (a_t_sightRight : Nat) (a_t_sightHow : Nat) (a_t_draws : Nat) (a_t_sets : Nat) (a_t_winsLow : Nat) (a_t_winsHigh : Nat) (a_t_could : Nat) (a_t_row : Nat) (a_t_best : Nat) (a_t_kept : Nat) (a_t_isKept : Nat)  (v_t_numbers : Int32) (v_t_onTicket : Int32) (v_t_drawn : Int32) (v_t_due : Int32) (v_t_ticketMany : Int32) (v_t_fond : Int32) (v_t_sights : Int32) (v_t_drawMany : Int32) (v_t_setMany : Int32) (v_t_padMany : Int32) (v_t_low : Int64) (v_t_high : Int64) (v_t_couldMany : Int32) (v_t_keptAt : Int32) (v_t_isWriting : Int32) (v_t_pad : Nat → Int32)  (out : (Int32)) (h : f_Model_fault v_t_numbers v_t_onTicket v_t_padMany v_t_pad = some out) : CT l D I J Z y_Model_fault b_Model_fault 6 (some .int) 2 [.ref a_t] [(a_t, .inr (10, [.int v_t_numbers, .int v_t_onTicket, .int v_t_drawn, .int v_t_due, .ref a_t_tickets, .int v_t_ticketMany, .int v_t_fond, .ref a_t_prizes, .ref a_t_sightTicket, .ref a_t_sightRight, .ref a_t_sightHow, .int v_t_sights, .ref a_t_draws, .int v_t_drawMany, .ref a_t_sets, .int v_t_setMany, .ref a_t_winsLow, .ref a_t_winsHigh, .ref a_t_pad, .int v_t_padMany, .long v_t_low, .long v_t_high, .ref a_t_could, .int v_t_couldMany, .ref a_t_row, .ref a_t_best, .ref a_t_kept, .ref a_t_isKept, .int v_t_keptAt, .int v_t_isWriting])), (a_t_pad, .inl (I, 60, .inl v_t_pad))] (PoI out D [(a_t, .inr (10, [.int v_t_numbers, .int v_t_onTicket, .int v_t_drawn, .int v_t_due, .ref a_t_tickets, .int v_t_ticketMany, .int v_t_fond, .ref a_t_prizes, .ref a_t_sightTicket, .ref a_t_sightRight, .ref a_t_sightHow, .int v_t_sights, .ref a_t_draws, .int v_t_drawMany, .ref a_t_sets, .int v_t_setMany, .ref a_t_winsLow, .ref a_t_winsHigh, .ref a_t_pad, .int v_t_padMany, .long v_t_low, .long v_t_high, .ref a_t_could, .int v_t_couldMany, .ref a_t_row, .ref a_t_best, .ref a_t_kept, .ref a_t_isKept, .int v_t_keptAt, .int v_t_isWriting])), (a_t_pad, .inl (I, 60, .inl v_t_pad))]) := by
  unfold f_Model_fault at h
  refine CT_of R_Model (by decide +kernel) rfl (Nat.le_of_ble_eq_true rfl) ?_
  intro p e R s m args below meth c A ls Q hR1 hR2 hQ hC hr hW hA hl
  have hx := hC.1
  have hb := hC.2.1
  have hl : lv_has ls 6 [(0, .ref a_t)] := hl
  have lp10 : ∀ (n : Nat) (x1 : Int32) (x2 : Int32) (x3 : Int32) (x4 : Int32) (res : Except (Int32) (Int32 × Int32 × Int32 × Int32)), L_Model_fault_10 v_t_numbers v_t_onTicket v_t_padMany v_t_pad n x1 x2 x3 x4 = some res → (∀ r, res = .error r → r = out) →
    (∀ (yx1 : Int32) (yx2 : Int32) (yx3 : Int32) (yx4 : Int32), res = .ok (yx1, yx2, yx3, yx4) → ∀ H locs, Wd D A s.heap [(a_t, .inr (10, [.int v_t_numbers, .int v_t_onTicket, .int v_t_drawn, .int v_t_due, .ref a_t_tickets, .int v_t_ticketMany, .int v_t_fond, .ref a_t_prizes, .ref a_t_sightTicket, .ref a_t_sightRight, .ref a_t_sightHow, .int v_t_sights, .ref a_t_draws, .int v_t_drawMany, .ref a_t_sets, .int v_t_setMany, .ref a_t_winsLow, .ref a_t_winsHigh, .ref a_t_pad, .int v_t_padMany, .long v_t_low, .long v_t_high, .ref a_t_could, .int v_t_couldMany, .ref a_t_row, .ref a_t_best, .ref a_t_kept, .ref a_t_isKept, .int v_t_keptAt, .int v_t_isWriting])), (a_t_pad, .inl (I, 60, .inl v_t_pad))] H locs → ∀ ls, lv_has ls 6 [(0, .ref a_t), (1, .int yx1), (2, .int yx2), (3, .int yx3), (4, .int yx4)] → W p l e R s m args below meth c H locs 0 0 Q (F0 m 106 ls [])) →
    ∀ H locs, Wd D A s.heap [(a_t, .inr (10, [.int v_t_numbers, .int v_t_onTicket, .int v_t_drawn, .int v_t_due, .ref a_t_tickets, .int v_t_ticketMany, .int v_t_fond, .ref a_t_prizes, .ref a_t_sightTicket, .ref a_t_sightRight, .ref a_t_sightHow, .int v_t_sights, .ref a_t_draws, .int v_t_drawMany, .ref a_t_sets, .int v_t_setMany, .ref a_t_winsLow, .ref a_t_winsHigh, .ref a_t_pad, .int v_t_padMany, .long v_t_low, .long v_t_high, .ref a_t_could, .int v_t_couldMany, .ref a_t_row, .ref a_t_best, .ref a_t_kept, .ref a_t_isKept, .int v_t_keptAt, .int v_t_isWriting])), (a_t_pad, .inl (I, 60, .inl v_t_pad))] H locs → ∀ ls, lv_has ls 6 [(0, .ref a_t), (1, .int x1), (2, .int x2), (3, .int x3), (4, .int x4)] → W p l e R s m args below meth c H locs 0 0 Q (F0 m 10 ls []) := by
    intro n
    induction n with
    | zero =>
      intro x1 x2 x3 x4 res h
      exact no_e h
    | succ n ih =>
      intro x1 x2 x3 x4 res h hret K H locs hW ls hl
      rw [L_Model_fault_10] at h
      refine lv_iload hx hb d_Model_fault_10 (lv_at hl 4 rfl) ?_
      refine lv_aload_n hx hb d_Model_fault_12 rfl (lv_at hl 0 rfl) ?_
      refine x_get hC hW 0 rfl fl_Model_121 rfl d_Model_fault_13 ?_
      refine lv_icmp_ge (tgt := 106) hx hb d_Model_fault_16 (by decide) (fun c_1 => ?_) (fun c_1 => ?_)
      · have h := it_e c_1 h
        cases h
        exact K _ _ _ _ rfl _ _ hW ls (lv_sub hl [0, 1, 2, 3, 4] rfl)
      · have h := ie_e c_1 h
        refine lv_aload_n hx hb d_Model_fault_19 rfl (lv_at hl 0 rfl) ?_
        refine x_get hC hW 0 rfl fl_Model_38 rfl d_Model_fault_20 ?_
        refine lv_iload hx hb d_Model_fault_23 (lv_at hl 4 rfl) ?_
        obtain ⟨hi_2, h⟩ := gd_e h
        refine x_iald hC hW 1 rfl hi_2 d_Model_fault_25 ?_
        refine lv_istore (lv' := [(5, .int (v_t_pad x4.toNatClampNeg)), (0, .ref a_t), (1, .int x1), (2, .int x2), (3, .int x3), (4, .int x4)]) hx hb d_Model_fault_26 hl (by decide) rfl (fun ls hl => ?_)
        refine lv_iload hx hb d_Model_fault_28 (lv_at hl 0 rfl) ?_
        refine lv_i2l hx hb d_Model_fault_30 rfl ?_
        refine lv_iload_n hx hb d_Model_fault_31 rfl (lv_at hl 3 rfl) ?_
        refine lv_iconst (v := (1 : Int32)) hx hb d_Model_fault_32 (by decide) ?_
        refine lv_iadd hx hb d_Model_fault_33 ?_
        refine lv_i2l hx hb d_Model_fault_34 rfl ?_
        refine lv_bipush (v := (48 : Int32)) hx hb d_Model_fault_35 (by decide) ?_
        refine lv_aload_n hx hb d_Model_fault_37 rfl (lv_at hl 1 rfl) ?_
        refine x_get hC hW 0 rfl fl_Model_61 rfl d_Model_fault_38 ?_
        refine lv_iadd hx hb d_Model_fault_41 ?_
        refine lv_i2l hx hb d_Model_fault_42 rfl ?_
        obtain ⟨r_3, hc_3, h⟩ := bk1_e h
        refine x_ci (ws' := [(a_t, .inr (10, [.int v_t_numbers, .int v_t_onTicket, .int v_t_drawn, .int v_t_due, .ref a_t_tickets, .int v_t_ticketMany, .int v_t_fond, .ref a_t_prizes, .ref a_t_sightTicket, .ref a_t_sightRight, .ref a_t_sightHow, .int v_t_sights, .ref a_t_draws, .int v_t_drawMany, .ref a_t_sets, .int v_t_setMany, .ref a_t_winsLow, .ref a_t_winsHigh, .ref a_t_pad, .int v_t_padMany, .long v_t_low, .long v_t_high, .ref a_t_could, .int v_t_couldMany, .ref a_t_row, .ref a_t_best, .ref a_t_kept, .ref a_t_isKept, .int v_t_keptAt, .int v_t_isWriting])), (a_t_pad, .inl (I, 60, .inl v_t_pad))]) (x_runS (rest := []) hC hW (c_Model_in l D I J Z (v_t_pad x4.toNatClampNeg).toInt64 (x2 + (1 : Int32)).toInt64 ((48 : Int32) + v_t_numbers).toInt64 (r_3) hc_3) cl_Model_111 q_code_Model_in [] rfl (by decide) rfl hl.1 (Nat.le_of_ble_eq_true rfl) (rm_ok hR1 hR2 (by decide) (by decide)) ⟨Nat.zero_le _, Nat.zero_le _⟩ d_Model_fault_43) hW hA [] rfl rfl (ps := [none, none]) (by decide +kernel) ⟨rfl, rfl, trivial⟩ (fun H locs hW => ?_)
        refine lv_if_eq (tgt := 66) hx hb d_Model_fault_46 (by decide) (fun c_4 => ?_) (fun c_4 => ?_)
        · have h := it_e c_4 h
          refine lv_iload hx hb d_Model_fault_66 (lv_at hl 0 rfl) ?_
          refine lv_bipush (v := (59 : Int32)) hx hb d_Model_fault_68 (by decide) ?_
          refine lv_icmp_ne (tgt := 97) hx hb d_Model_fault_70 (by decide) (fun c_5 => ?_) (fun c_5 => ?_)
          · have h := ie_e c_5 h
            refine lv_iload hx hb d_Model_fault_97 (lv_at hl 5 rfl) ?_
            cases h
            cases hret _ rfl
            rw [hQ]
            exact x_iret hC hr hW d_Model_fault_99
          · have h := it_e c_5 h
            refine lv_iload_n hx hb d_Model_fault_73 rfl (lv_at hl 2 rfl) ?_
            refine lv_aload_n hx hb d_Model_fault_74 rfl (lv_at hl 1 rfl) ?_
            refine x_get hC hW 0 rfl fl_Model_65 rfl d_Model_fault_75 ?_
            refine lv_icmp_ne (tgt := 97) hx hb d_Model_fault_78 (by decide) (fun c_6 => ?_) (fun c_6 => ?_)
            · have h := ie_e c_6 h
              refine lv_iload hx hb d_Model_fault_97 (lv_at hl 5 rfl) ?_
              cases h
              cases hret _ rfl
              rw [hQ]
              exact x_iret hC hr hW d_Model_fault_99
            · have h := it_e c_6 h
              refine lv_iload_n hx hb d_Model_fault_81 rfl (lv_at hl 4 rfl) ?_
              refine lv_iconst (v := (5 : Int32)) hx hb d_Model_fault_82 (by decide) ?_
              refine lv_icmp_ge (tgt := 97) hx hb d_Model_fault_83 (by decide) (fun c_7 => ?_) (fun c_7 => ?_)
              · have h := it_e c_7 h
                refine lv_iload hx hb d_Model_fault_97 (lv_at hl 5 rfl) ?_
                cases h
                cases hret _ rfl
                rw [hQ]
                exact x_iret hC hr hW d_Model_fault_99
              · have h := ie_e c_7 h
                refine lv_iinc (v := (x3 + (1 : Int32))) (lv' := [(3, .int (x3 + (1 : Int32))), (5, .int (v_t_pad x4.toNatClampNeg)), (0, .ref a_t), (1, .int x1), (2, .int x2), (4, .int x4)]) hx hb d_Model_fault_86 hl (k := 4) rfl (iinc_e (by decide)) (by decide) rfl (fun ls hl => ?_)
                refine lv_iconst (v := (0 : Int32)) hx hb d_Model_fault_89 (by decide) ?_
                refine lv_istore_n (lv' := [(1, .int (0 : Int32)), (3, .int (x3 + (1 : Int32))), (5, .int (v_t_pad x4.toNatClampNeg)), (0, .ref a_t), (2, .int x2), (4, .int x4)]) hx hb d_Model_fault_90 rfl hl (by decide) rfl (fun ls hl => ?_)
                refine lv_bipush (v := (48 : Int32)) hx hb d_Model_fault_91 (by decide) ?_
                refine lv_istore_n (lv' := [(2, .int (48 : Int32)), (1, .int (0 : Int32)), (3, .int (x3 + (1 : Int32))), (5, .int (v_t_pad x4.toNatClampNeg)), (0, .ref a_t), (4, .int x4)]) hx hb d_Model_fault_93 rfl hl (by decide) rfl (fun ls hl => ?_)
                refine lv_goto (tgt := 100) hx hb d_Model_fault_94 (by decide) ?_
                refine lv_iinc (v := (x4 + (1 : Int32))) (lv' := [(4, .int (x4 + (1 : Int32))), (2, .int (48 : Int32)), (1, .int (0 : Int32)), (3, .int (x3 + (1 : Int32))), (5, .int (v_t_pad x4.toNatClampNeg)), (0, .ref a_t)]) hx hb d_Model_fault_100 hl (k := 5) rfl (iinc_e (by decide)) (by decide) rfl (fun ls hl => ?_)
                refine lv_goto (tgt := 10) hx hb d_Model_fault_103 (by decide) ?_
                exact ih (0 : Int32) (48 : Int32) (x3 + (1 : Int32)) (x4 + (1 : Int32)) _ h hret K _ _ hW ls (lv_sub hl [5, 2, 1, 3, 0] rfl)
        · have h := ie_e c_4 h
          refine lv_iload_n hx hb d_Model_fault_49 rfl (lv_at hl 2 rfl) ?_
          refine lv_aload_n hx hb d_Model_fault_50 rfl (lv_at hl 1 rfl) ?_
          refine x_get hC hW 0 rfl fl_Model_65 rfl d_Model_fault_51 ?_
          refine lv_icmp_ge (tgt := 66) hx hb d_Model_fault_54 (by decide) (fun c_8 => ?_) (fun c_8 => ?_)
          · have h := it_e c_8 h
            refine lv_iload hx hb d_Model_fault_66 (lv_at hl 0 rfl) ?_
            refine lv_bipush (v := (59 : Int32)) hx hb d_Model_fault_68 (by decide) ?_
            refine lv_icmp_ne (tgt := 97) hx hb d_Model_fault_70 (by decide) (fun c_9 => ?_) (fun c_9 => ?_)
            · have h := ie_e c_9 h
              refine lv_iload hx hb d_Model_fault_97 (lv_at hl 5 rfl) ?_
              cases h
              cases hret _ rfl
              rw [hQ]
              exact x_iret hC hr hW d_Model_fault_99
            · have h := it_e c_9 h
              refine lv_iload_n hx hb d_Model_fault_73 rfl (lv_at hl 2 rfl) ?_
              refine lv_aload_n hx hb d_Model_fault_74 rfl (lv_at hl 1 rfl) ?_
              refine x_get hC hW 0 rfl fl_Model_65 rfl d_Model_fault_75 ?_
              refine lv_icmp_ne (tgt := 97) hx hb d_Model_fault_78 (by decide) (fun c_10 => ?_) (fun c_10 => ?_)
              · have h := ie_e c_10 h
                refine lv_iload hx hb d_Model_fault_97 (lv_at hl 5 rfl) ?_
                cases h
                cases hret _ rfl
                rw [hQ]
                exact x_iret hC hr hW d_Model_fault_99
              · have h := it_e c_10 h
                refine lv_iload_n hx hb d_Model_fault_81 rfl (lv_at hl 4 rfl) ?_
                refine lv_iconst (v := (5 : Int32)) hx hb d_Model_fault_82 (by decide) ?_
                refine lv_icmp_ge (tgt := 97) hx hb d_Model_fault_83 (by decide) (fun c_11 => ?_) (fun c_11 => ?_)
                · have h := it_e c_11 h
                  refine lv_iload hx hb d_Model_fault_97 (lv_at hl 5 rfl) ?_
                  cases h
                  cases hret _ rfl
                  rw [hQ]
                  exact x_iret hC hr hW d_Model_fault_99
                · have h := ie_e c_11 h
                  refine lv_iinc (v := (x3 + (1 : Int32))) (lv' := [(3, .int (x3 + (1 : Int32))), (5, .int (v_t_pad x4.toNatClampNeg)), (0, .ref a_t), (1, .int x1), (2, .int x2), (4, .int x4)]) hx hb d_Model_fault_86 hl (k := 4) rfl (iinc_e (by decide)) (by decide) rfl (fun ls hl => ?_)
                  refine lv_iconst (v := (0 : Int32)) hx hb d_Model_fault_89 (by decide) ?_
                  refine lv_istore_n (lv' := [(1, .int (0 : Int32)), (3, .int (x3 + (1 : Int32))), (5, .int (v_t_pad x4.toNatClampNeg)), (0, .ref a_t), (2, .int x2), (4, .int x4)]) hx hb d_Model_fault_90 rfl hl (by decide) rfl (fun ls hl => ?_)
                  refine lv_bipush (v := (48 : Int32)) hx hb d_Model_fault_91 (by decide) ?_
                  refine lv_istore_n (lv' := [(2, .int (48 : Int32)), (1, .int (0 : Int32)), (3, .int (x3 + (1 : Int32))), (5, .int (v_t_pad x4.toNatClampNeg)), (0, .ref a_t), (4, .int x4)]) hx hb d_Model_fault_93 rfl hl (by decide) rfl (fun ls hl => ?_)
                  refine lv_goto (tgt := 100) hx hb d_Model_fault_94 (by decide) ?_
                  refine lv_iinc (v := (x4 + (1 : Int32))) (lv' := [(4, .int (x4 + (1 : Int32))), (2, .int (48 : Int32)), (1, .int (0 : Int32)), (3, .int (x3 + (1 : Int32))), (5, .int (v_t_pad x4.toNatClampNeg)), (0, .ref a_t)]) hx hb d_Model_fault_100 hl (k := 5) rfl (iinc_e (by decide)) (by decide) rfl (fun ls hl => ?_)
                  refine lv_goto (tgt := 10) hx hb d_Model_fault_103 (by decide) ?_
                  exact ih (0 : Int32) (48 : Int32) (x3 + (1 : Int32)) (x4 + (1 : Int32)) _ h hret K _ _ hW ls (lv_sub hl [5, 2, 1, 3, 0] rfl)
          · have h := ie_e c_8 h
            refine lv_iinc (v := (x1 + (1 : Int32))) (lv' := [(1, .int (x1 + (1 : Int32))), (5, .int (v_t_pad x4.toNatClampNeg)), (0, .ref a_t), (2, .int x2), (3, .int x3), (4, .int x4)]) hx hb d_Model_fault_57 hl (k := 2) rfl (iinc_e (by decide)) (by decide) rfl (fun ls hl => ?_)
            refine lv_iload hx hb d_Model_fault_60 (lv_at hl 1 rfl) ?_
            refine lv_istore_n (lv' := [(2, .int (v_t_pad x4.toNatClampNeg)), (1, .int (x1 + (1 : Int32))), (5, .int (v_t_pad x4.toNatClampNeg)), (0, .ref a_t), (3, .int x3), (4, .int x4)]) hx hb d_Model_fault_62 rfl hl (by decide) rfl (fun ls hl => ?_)
            refine lv_goto (tgt := 100) hx hb d_Model_fault_63 (by decide) ?_
            refine lv_iinc (v := (x4 + (1 : Int32))) (lv' := [(4, .int (x4 + (1 : Int32))), (2, .int (v_t_pad x4.toNatClampNeg)), (1, .int (x1 + (1 : Int32))), (5, .int (v_t_pad x4.toNatClampNeg)), (0, .ref a_t), (3, .int x3)]) hx hb d_Model_fault_100 hl (k := 5) rfl (iinc_e (by decide)) (by decide) rfl (fun ls hl => ?_)
            refine lv_goto (tgt := 10) hx hb d_Model_fault_103 (by decide) ?_
            exact ih (x1 + (1 : Int32)) (v_t_pad x4.toNatClampNeg) x3 (x4 + (1 : Int32)) _ h hret K _ _ hW ls (lv_sub hl [4, 2, 1, 5, 0] rfl)
  refine lv_iconst (v := (0 : Int32)) hx hb d_Model_fault_0 (by decide) ?_
  refine lv_istore_n (lv' := [(1, .int (0 : Int32)), (0, .ref a_t)]) hx hb d_Model_fault_1 rfl hl (by decide) rfl (fun ls hl => ?_)
  refine lv_bipush (v := (48 : Int32)) hx hb d_Model_fault_2 (by decide) ?_
  refine lv_istore_n (lv' := [(2, .int (48 : Int32)), (1, .int (0 : Int32)), (0, .ref a_t)]) hx hb d_Model_fault_4 rfl hl (by decide) rfl (fun ls hl => ?_)
  refine lv_iconst (v := (0 : Int32)) hx hb d_Model_fault_5 (by decide) ?_
  refine lv_istore_n (lv' := [(3, .int (0 : Int32)), (2, .int (48 : Int32)), (1, .int (0 : Int32)), (0, .ref a_t)]) hx hb d_Model_fault_6 rfl hl (by decide) rfl (fun ls hl => ?_)
  refine lv_iconst (v := (0 : Int32)) hx hb d_Model_fault_7 (by decide) ?_
  refine lv_istore (lv' := [(4, .int (0 : Int32)), (3, .int (0 : Int32)), (2, .int (48 : Int32)), (1, .int (0 : Int32)), (0, .ref a_t)]) hx hb d_Model_fault_8 hl (by decide) rfl (fun ls hl => ?_)
  obtain ⟨res_12, hv_12, he_12, hk_12⟩ := lm4_e h
  refine lp10 _ (0 : Int32) (48 : Int32) (0 : Int32) (0 : Int32) res_12 hv_12 he_12 (fun yx1_12 yx2_12 yx3_12 yx4_12 hs_12 H locs hW ls hl => ?_) _ _ hW ls (lv_sub hl [4, 3, 2, 1, 0] rfl)
  have h := hk_12 yx1_12 yx2_12 yx3_12 yx4_12 hs_12
  refine lv_aload_n hx hb d_Model_fault_106 rfl (lv_at hl 0 rfl) ?_
  refine x_get hC hW 0 rfl fl_Model_121 rfl d_Model_fault_107 ?_
  refine lv_if_eq (tgt := 121) hx hb d_Model_fault_110 (by decide) (fun c_13 => ?_) (fun c_13 => ?_)
  · have h := it_e c_13 h
    refine lv_bipush (v := (-6 : Int32)) hx hb d_Model_fault_121 (by decide) ?_
    refine lv_goto (tgt := 130) hx hb d_Model_fault_123 (by decide) ?_
    cases h
    rw [hQ]
    exact x_iret hC hr hW d_Model_fault_130
  · have h := ie_e c_13 h
    refine lv_iload_n hx hb d_Model_fault_113 rfl (lv_at hl 1 rfl) ?_
    refine lv_aload_n hx hb d_Model_fault_114 rfl (lv_at hl 0 rfl) ?_
    refine x_get hC hW 0 rfl fl_Model_65 rfl d_Model_fault_115 ?_
    refine lv_icmp_ne (tgt := 126) hx hb d_Model_fault_118 (by decide) (fun c_14 => ?_) (fun c_14 => ?_)
    · have h := ie_e c_14 h
      refine lv_aload_n hx hb d_Model_fault_126 rfl (lv_at hl 0 rfl) ?_
      refine x_get hC hW 0 rfl fl_Model_121 rfl d_Model_fault_127 ?_
      cases h
      rw [hQ]
      exact x_iret hC hr hW d_Model_fault_130
    · have h := it_e c_14 h
      refine lv_bipush (v := (-6 : Int32)) hx hb d_Model_fault_121 (by decide) ?_
      refine lv_goto (tgt := 130) hx hb d_Model_fault_123 (by decide) ?_
      cases h
      rw [hQ]
      exact x_iret hC hr hW d_Model_fault_130

def L_Model_tickets_28  : Nat → Int32 → (Nat → Int32) → Option (Int32 × (Nat → Int32))
  | 0, _, _ => none
  | n + 1, x1, v_t_tickets => if (6 : Int32) ≤ x1 then some (x1, v_t_tickets) else gd x1 6 (L_Model_tickets_28  n (x1 + (1 : Int32)) (upd v_t_tickets x1.toNatClampNeg (0 : Int32)))
def L_Model_tickets_49 (v_t_padMany : Int32) (v_t_pad : Nat → Int32) : Nat → Int32 → Int32 → (Nat → Int32) → Option (Int32 × Int32 × (Nat → Int32))
  | 0, _, _, _ => none
  | n + 1, x1, v_t_ticketMany, v_t_tickets => if v_t_padMany ≤ x1 then some (x1, v_t_ticketMany, v_t_tickets) else gd x1 60 (if (v_t_pad x1.toNatClampNeg) = (59 : Int32) then L_Model_tickets_49 v_t_padMany v_t_pad n (x1 + (1 : Int32)) (v_t_ticketMany + (1 : Int32)) v_t_tickets else gd (v_t_ticketMany - (1 : Int32)) 6 (gd x1 60 (gd (v_t_ticketMany - (1 : Int32)) 6 (L_Model_tickets_49 v_t_padMany v_t_pad n (x1 + (1 : Int32)) v_t_ticketMany (upd v_t_tickets (v_t_ticketMany - (1 : Int32)).toNatClampNeg ((v_t_tickets (v_t_ticketMany - (1 : Int32)).toNatClampNeg) ||| ((1 : Int32) <<< (((v_t_pad x1.toNatClampNeg) - (49 : Int32)) &&& 31))))))))
def f_Model_tickets (v_t_numbers : Int32) (v_t_onTicket : Int32) (v_t_padMany : Int32) (v_t_sights : Int32) (v_t_ticketMany : Int32) (v_t_pad : Nat → Int32) (v_t_tickets : Nat → Int32) : Option (Int32 × Int32 × Int32 × Int32 × (Nat → Int32)) :=
  bk1 (f_Model_fault v_t_numbers v_t_onTicket v_t_padMany v_t_pad) fun r_1 => if r_1 < (0 : Int32) then if v_t_padMany = (0 : Int32) then bk2 (L_Model_tickets_28  300 (0 : Int32) v_t_tickets) fun yx1_14 y_t_tickets_14 => bk3 (L_Model_tickets_49 v_t_padMany v_t_pad 300 (0 : Int32) (0 : Int32) y_t_tickets_14) fun yx1_15 y_t_ticketMany_15 y_t_tickets_15 => some (y_t_ticketMany_15, (0 : Int32), (0 : Int32), y_t_ticketMany_15, y_t_tickets_15) else bk2 (L_Model_tickets_28  300 (0 : Int32) v_t_tickets) fun yx1_6 y_t_tickets_6 => bk3 (L_Model_tickets_49 v_t_padMany v_t_pad 300 (0 : Int32) (1 : Int32) y_t_tickets_6) fun yx1_13 y_t_ticketMany_13 y_t_tickets_13 => some (y_t_ticketMany_13, (0 : Int32), (0 : Int32), y_t_ticketMany_13, y_t_tickets_13) else some ((-5 : Int32), v_t_padMany, v_t_sights, v_t_ticketMany, v_t_tickets)
set_option maxHeartbeats 4000000 in
set_option maxRecDepth 100000 in
theorem c_Model_tickets (l : Launch) (D : va_G) (I J Z : ClassId) (a_t : Nat) (a_t_pad : Nat) (a_t_tickets : Nat) (a_t_prizes : Nat) (a_t_sightTicket : Nat) (a_t_sightRight : Nat) (a_t_sightHow : Nat) (a_t_draws : Nat) (a_t_sets : Nat) (a_t_winsLow : Nat) (a_t_winsHigh : Nat) (a_t_could : Nat) (a_t_row : Nat) (a_t_best : Nat) (a_t_kept : Nat) (a_t_isKept : Nat)  (v_t_numbers : Int32) (v_t_onTicket : Int32) (v_t_drawn : Int32) (v_t_due : Int32) (v_t_ticketMany : Int32) (v_t_fond : Int32) (v_t_sights : Int32) (v_t_drawMany : Int32) (v_t_setMany : Int32) (v_t_padMany : Int32) (v_t_low : Int64) (v_t_high : Int64) (v_t_couldMany : Int32) (v_t_keptAt : Int32) (v_t_isWriting : Int32) (v_t_pad : Nat → Int32) (v_t_tickets : Nat → Int32)  (out : (Int32 × Int32 × Int32 × Int32 × (Nat → Int32))) (h : f_Model_tickets v_t_numbers v_t_onTicket v_t_padMany v_t_sights v_t_ticketMany v_t_pad v_t_tickets = some out) : CT l D I J Z y_Model_tickets b_Model_tickets 2 (some .int) 3 [.ref a_t] [(a_t, .inr (10, [.int v_t_numbers, .int v_t_onTicket, .int v_t_drawn, .int v_t_due, .ref a_t_tickets, .int v_t_ticketMany, .int v_t_fond, .ref a_t_prizes, .ref a_t_sightTicket, .ref a_t_sightRight, .ref a_t_sightHow, .int v_t_sights, .ref a_t_draws, .int v_t_drawMany, .ref a_t_sets, .int v_t_setMany, .ref a_t_winsLow, .ref a_t_winsHigh, .ref a_t_pad, .int v_t_padMany, .long v_t_low, .long v_t_high, .ref a_t_could, .int v_t_couldMany, .ref a_t_row, .ref a_t_best, .ref a_t_kept, .ref a_t_isKept, .int v_t_keptAt, .int v_t_isWriting])), (a_t_pad, .inl (I, 60, .inl v_t_pad)), (a_t_tickets, .inl (I, 6, .inl v_t_tickets))] (PoI out.1 D [(a_t, .inr (10, [.int v_t_numbers, .int v_t_onTicket, .int v_t_drawn, .int v_t_due, .ref a_t_tickets, .int out.2.2.2.1, .int v_t_fond, .ref a_t_prizes, .ref a_t_sightTicket, .ref a_t_sightRight, .ref a_t_sightHow, .int out.2.2.1, .ref a_t_draws, .int v_t_drawMany, .ref a_t_sets, .int v_t_setMany, .ref a_t_winsLow, .ref a_t_winsHigh, .ref a_t_pad, .int out.2.1, .long v_t_low, .long v_t_high, .ref a_t_could, .int v_t_couldMany, .ref a_t_row, .ref a_t_best, .ref a_t_kept, .ref a_t_isKept, .int v_t_keptAt, .int v_t_isWriting])), (a_t_pad, .inl (I, 60, .inl v_t_pad)), (a_t_tickets, .inl (I, 6, .inl out.2.2.2.2))]) := by
  unfold f_Model_tickets at h
  refine CT_of R_Model (by decide +kernel) rfl (Nat.le_of_ble_eq_true rfl) ?_
  intro p e R s m args below meth c A ls Q hR1 hR2 hQ hC hr hW hA hl
  have hx := hC.1
  have hb := hC.2.1
  have hl : lv_has ls 2 [(0, .ref a_t)] := hl
  have lp28 : ∀ (n : Nat) (x1 : Int32) (v_t_padMany : Int32) (v_t_sights : Int32) (v_t_ticketMany : Int32) (v_t_tickets : Nat → Int32) (yx1 : Int32) (y_t_tickets : Nat → Int32), L_Model_tickets_28  n x1 v_t_tickets = some (yx1, y_t_tickets) →
    (∀ H locs, Wd D A s.heap [(a_t, .inr (10, [.int v_t_numbers, .int v_t_onTicket, .int v_t_drawn, .int v_t_due, .ref a_t_tickets, .int v_t_ticketMany, .int v_t_fond, .ref a_t_prizes, .ref a_t_sightTicket, .ref a_t_sightRight, .ref a_t_sightHow, .int v_t_sights, .ref a_t_draws, .int v_t_drawMany, .ref a_t_sets, .int v_t_setMany, .ref a_t_winsLow, .ref a_t_winsHigh, .ref a_t_pad, .int v_t_padMany, .long v_t_low, .long v_t_high, .ref a_t_could, .int v_t_couldMany, .ref a_t_row, .ref a_t_best, .ref a_t_kept, .ref a_t_isKept, .int v_t_keptAt, .int v_t_isWriting])), (a_t_pad, .inl (I, 60, .inl v_t_pad)), (a_t_tickets, .inl (I, 6, .inl y_t_tickets))] H locs → ∀ ls, lv_has ls 2 [(0, .ref a_t), (1, .int yx1)] → W p l e R s m args below meth c H locs 0 0 Q (F0 m 47 ls [])) →
    ∀ H locs, Wd D A s.heap [(a_t, .inr (10, [.int v_t_numbers, .int v_t_onTicket, .int v_t_drawn, .int v_t_due, .ref a_t_tickets, .int v_t_ticketMany, .int v_t_fond, .ref a_t_prizes, .ref a_t_sightTicket, .ref a_t_sightRight, .ref a_t_sightHow, .int v_t_sights, .ref a_t_draws, .int v_t_drawMany, .ref a_t_sets, .int v_t_setMany, .ref a_t_winsLow, .ref a_t_winsHigh, .ref a_t_pad, .int v_t_padMany, .long v_t_low, .long v_t_high, .ref a_t_could, .int v_t_couldMany, .ref a_t_row, .ref a_t_best, .ref a_t_kept, .ref a_t_isKept, .int v_t_keptAt, .int v_t_isWriting])), (a_t_pad, .inl (I, 60, .inl v_t_pad)), (a_t_tickets, .inl (I, 6, .inl v_t_tickets))] H locs → ∀ ls, lv_has ls 2 [(0, .ref a_t), (1, .int x1)] → W p l e R s m args below meth c H locs 0 0 Q (F0 m 28 ls []) := by
    intro n
    induction n with
    | zero =>
      intro x1 v_t_padMany v_t_sights v_t_ticketMany v_t_tickets yx1 y_t_tickets h
      exact no_e h
    | succ n ih =>
      intro x1 v_t_padMany v_t_sights v_t_ticketMany v_t_tickets yx1 y_t_tickets h K H locs hW ls hl
      rw [L_Model_tickets_28] at h
      refine lv_iload_n hx hb d_Model_tickets_28 rfl (lv_at hl 1 rfl) ?_
      refine lv_bipush (v := (6 : Int32)) hx hb d_Model_tickets_29 (by decide) ?_
      refine lv_icmp_ge (tgt := 47) hx hb d_Model_tickets_31 (by decide) (fun c_4 => ?_) (fun c_4 => ?_)
      · have h := it_e c_4 h
        cases h
        exact K _ _ hW ls (lv_sub hl [0, 1] rfl)
      · have h := ie_e c_4 h
        refine lv_aload_n hx hb d_Model_tickets_34 rfl (lv_at hl 0 rfl) ?_
        refine x_get hC hW 0 rfl fl_Model_7 rfl d_Model_tickets_35 ?_
        refine lv_iload_n hx hb d_Model_tickets_38 rfl (lv_at hl 1 rfl) ?_
        refine lv_iconst (v := (0 : Int32)) hx hb d_Model_tickets_39 (by decide) ?_
        obtain ⟨hi_5, h⟩ := gd_e h
        refine x_iast (ws' := [(a_t, .inr (10, [.int v_t_numbers, .int v_t_onTicket, .int v_t_drawn, .int v_t_due, .ref a_t_tickets, .int v_t_ticketMany, .int v_t_fond, .ref a_t_prizes, .ref a_t_sightTicket, .ref a_t_sightRight, .ref a_t_sightHow, .int v_t_sights, .ref a_t_draws, .int v_t_drawMany, .ref a_t_sets, .int v_t_setMany, .ref a_t_winsLow, .ref a_t_winsHigh, .ref a_t_pad, .int v_t_padMany, .long v_t_low, .long v_t_high, .ref a_t_could, .int v_t_couldMany, .ref a_t_row, .ref a_t_best, .ref a_t_kept, .ref a_t_isKept, .int v_t_keptAt, .int v_t_isWriting])), (a_t_pad, .inl (I, 60, .inl v_t_pad)), (a_t_tickets, .inl (I, 6, .inl (upd v_t_tickets x1.toNatClampNeg (0 : Int32))))]) hC hW 2 rfl hi_5 d_Model_tickets_40 rfl (fun H locs hW => ?_)
        refine lv_iinc (v := (x1 + (1 : Int32))) (lv' := [(1, .int (x1 + (1 : Int32))), (0, .ref a_t)]) hx hb d_Model_tickets_41 hl (k := 1) rfl (iinc_e (by decide)) (by decide) rfl (fun ls hl => ?_)
        refine lv_goto (tgt := 28) hx hb d_Model_tickets_44 (by decide) ?_
        exact ih (x1 + (1 : Int32)) v_t_padMany v_t_sights v_t_ticketMany (upd v_t_tickets x1.toNatClampNeg (0 : Int32)) _ _ h K _ _ hW ls (lv_sub hl [1, 0] rfl)
  have lp49 : ∀ (n : Nat) (x1 : Int32) (v_t_padMany : Int32) (v_t_sights : Int32) (v_t_ticketMany : Int32) (v_t_tickets : Nat → Int32) (yx1 : Int32) (y_t_ticketMany : Int32) (y_t_tickets : Nat → Int32), L_Model_tickets_49 v_t_padMany v_t_pad n x1 v_t_ticketMany v_t_tickets = some (yx1, y_t_ticketMany, y_t_tickets) →
    (∀ H locs, Wd D A s.heap [(a_t, .inr (10, [.int v_t_numbers, .int v_t_onTicket, .int v_t_drawn, .int v_t_due, .ref a_t_tickets, .int y_t_ticketMany, .int v_t_fond, .ref a_t_prizes, .ref a_t_sightTicket, .ref a_t_sightRight, .ref a_t_sightHow, .int v_t_sights, .ref a_t_draws, .int v_t_drawMany, .ref a_t_sets, .int v_t_setMany, .ref a_t_winsLow, .ref a_t_winsHigh, .ref a_t_pad, .int v_t_padMany, .long v_t_low, .long v_t_high, .ref a_t_could, .int v_t_couldMany, .ref a_t_row, .ref a_t_best, .ref a_t_kept, .ref a_t_isKept, .int v_t_keptAt, .int v_t_isWriting])), (a_t_pad, .inl (I, 60, .inl v_t_pad)), (a_t_tickets, .inl (I, 6, .inl y_t_tickets))] H locs → ∀ ls, lv_has ls 2 [(0, .ref a_t), (1, .int yx1)] → W p l e R s m args below meth c H locs 0 0 Q (F0 m 112 ls [])) →
    ∀ H locs, Wd D A s.heap [(a_t, .inr (10, [.int v_t_numbers, .int v_t_onTicket, .int v_t_drawn, .int v_t_due, .ref a_t_tickets, .int v_t_ticketMany, .int v_t_fond, .ref a_t_prizes, .ref a_t_sightTicket, .ref a_t_sightRight, .ref a_t_sightHow, .int v_t_sights, .ref a_t_draws, .int v_t_drawMany, .ref a_t_sets, .int v_t_setMany, .ref a_t_winsLow, .ref a_t_winsHigh, .ref a_t_pad, .int v_t_padMany, .long v_t_low, .long v_t_high, .ref a_t_could, .int v_t_couldMany, .ref a_t_row, .ref a_t_best, .ref a_t_kept, .ref a_t_isKept, .int v_t_keptAt, .int v_t_isWriting])), (a_t_pad, .inl (I, 60, .inl v_t_pad)), (a_t_tickets, .inl (I, 6, .inl v_t_tickets))] H locs → ∀ ls, lv_has ls 2 [(0, .ref a_t), (1, .int x1)] → W p l e R s m args below meth c H locs 0 0 Q (F0 m 49 ls []) := by
    intro n
    induction n with
    | zero =>
      intro x1 v_t_padMany v_t_sights v_t_ticketMany v_t_tickets yx1 y_t_ticketMany y_t_tickets h
      exact no_e h
    | succ n ih =>
      intro x1 v_t_padMany v_t_sights v_t_ticketMany v_t_tickets yx1 y_t_ticketMany y_t_tickets h K H locs hW ls hl
      rw [L_Model_tickets_49] at h
      refine lv_iload_n hx hb d_Model_tickets_49 rfl (lv_at hl 1 rfl) ?_
      refine lv_aload_n hx hb d_Model_tickets_50 rfl (lv_at hl 0 rfl) ?_
      refine x_get hC hW 0 rfl fl_Model_121 rfl d_Model_tickets_51 ?_
      refine lv_icmp_ge (tgt := 112) hx hb d_Model_tickets_54 (by decide) (fun c_7 => ?_) (fun c_7 => ?_)
      · have h := it_e c_7 h
        cases h
        exact K _ _ hW ls (lv_sub hl [0, 1] rfl)
      · have h := ie_e c_7 h
        refine lv_aload_n hx hb d_Model_tickets_57 rfl (lv_at hl 0 rfl) ?_
        refine x_get hC hW 0 rfl fl_Model_38 rfl d_Model_tickets_58 ?_
        refine lv_iload_n hx hb d_Model_tickets_61 rfl (lv_at hl 1 rfl) ?_
        obtain ⟨hi_8, h⟩ := gd_e h
        refine x_iald hC hW 1 rfl hi_8 d_Model_tickets_62 ?_
        refine lv_bipush (v := (59 : Int32)) hx hb d_Model_tickets_63 (by decide) ?_
        refine lv_icmp_ne (tgt := 81) hx hb d_Model_tickets_65 (by decide) (fun c_9 => ?_) (fun c_9 => ?_)
        · have h := ie_e c_9 h
          refine lv_aload_n hx hb d_Model_tickets_81 rfl (lv_at hl 0 rfl) ?_
          refine x_get hC hW 0 rfl fl_Model_7 rfl d_Model_tickets_82 ?_
          refine lv_aload_n hx hb d_Model_tickets_85 rfl (lv_at hl 0 rfl) ?_
          refine x_get hC hW 0 rfl fl_Model_74 rfl d_Model_tickets_86 ?_
          refine lv_iconst (v := (1 : Int32)) hx hb d_Model_tickets_89 (by decide) ?_
          refine lv_isub hx hb d_Model_tickets_90 ?_
          refine lv_dup2_11 hx hb d_Model_tickets_91 rfl rfl ?_
          obtain ⟨hi_10, h⟩ := gd_e h
          refine x_iald hC hW 2 rfl hi_10 d_Model_tickets_92 ?_
          refine lv_iconst (v := (1 : Int32)) hx hb d_Model_tickets_93 (by decide) ?_
          refine lv_aload_n hx hb d_Model_tickets_94 rfl (lv_at hl 0 rfl) ?_
          refine x_get hC hW 0 rfl fl_Model_38 rfl d_Model_tickets_95 ?_
          refine lv_iload_n hx hb d_Model_tickets_98 rfl (lv_at hl 1 rfl) ?_
          obtain ⟨hi_11, h⟩ := gd_e h
          refine x_iald hC hW 1 rfl hi_11 d_Model_tickets_99 ?_
          refine lv_bipush (v := (49 : Int32)) hx hb d_Model_tickets_100 (by decide) ?_
          refine lv_isub hx hb d_Model_tickets_102 ?_
          refine lv_ishl hx hb d_Model_tickets_103 ?_
          refine lv_ior hx hb d_Model_tickets_104 ?_
          obtain ⟨hi_12, h⟩ := gd_e h
          refine x_iast (ws' := [(a_t, .inr (10, [.int v_t_numbers, .int v_t_onTicket, .int v_t_drawn, .int v_t_due, .ref a_t_tickets, .int v_t_ticketMany, .int v_t_fond, .ref a_t_prizes, .ref a_t_sightTicket, .ref a_t_sightRight, .ref a_t_sightHow, .int v_t_sights, .ref a_t_draws, .int v_t_drawMany, .ref a_t_sets, .int v_t_setMany, .ref a_t_winsLow, .ref a_t_winsHigh, .ref a_t_pad, .int v_t_padMany, .long v_t_low, .long v_t_high, .ref a_t_could, .int v_t_couldMany, .ref a_t_row, .ref a_t_best, .ref a_t_kept, .ref a_t_isKept, .int v_t_keptAt, .int v_t_isWriting])), (a_t_pad, .inl (I, 60, .inl v_t_pad)), (a_t_tickets, .inl (I, 6, .inl (upd v_t_tickets (v_t_ticketMany - (1 : Int32)).toNatClampNeg ((v_t_tickets (v_t_ticketMany - (1 : Int32)).toNatClampNeg) ||| ((1 : Int32) <<< (((v_t_pad x1.toNatClampNeg) - (49 : Int32)) &&& 31))))))]) hC hW 2 rfl hi_12 d_Model_tickets_105 rfl (fun H locs hW => ?_)
          refine lv_iinc (v := (x1 + (1 : Int32))) (lv' := [(1, .int (x1 + (1 : Int32))), (0, .ref a_t)]) hx hb d_Model_tickets_106 hl (k := 1) rfl (iinc_e (by decide)) (by decide) rfl (fun ls hl => ?_)
          refine lv_goto (tgt := 49) hx hb d_Model_tickets_109 (by decide) ?_
          exact ih (x1 + (1 : Int32)) v_t_padMany v_t_sights v_t_ticketMany (upd v_t_tickets (v_t_ticketMany - (1 : Int32)).toNatClampNeg ((v_t_tickets (v_t_ticketMany - (1 : Int32)).toNatClampNeg) ||| ((1 : Int32) <<< (((v_t_pad x1.toNatClampNeg) - (49 : Int32)) &&& 31)))) _ _ _ h K _ _ hW ls (lv_sub hl [1, 0] rfl)
        · have h := it_e c_9 h
          refine lv_aload_n hx hb d_Model_tickets_68 rfl (lv_at hl 0 rfl) ?_
          refine lv_dup hx hb d_Model_tickets_69 rfl ?_
          refine x_get hC hW 0 rfl fl_Model_74 rfl d_Model_tickets_70 ?_
          refine lv_iconst (v := (1 : Int32)) hx hb d_Model_tickets_73 (by decide) ?_
          refine lv_iadd hx hb d_Model_tickets_74 ?_
          refine x_put (ws' := [(a_t, .inr (10, [.int v_t_numbers, .int v_t_onTicket, .int v_t_drawn, .int v_t_due, .ref a_t_tickets, .int (v_t_ticketMany + (1 : Int32)), .int v_t_fond, .ref a_t_prizes, .ref a_t_sightTicket, .ref a_t_sightRight, .ref a_t_sightHow, .int v_t_sights, .ref a_t_draws, .int v_t_drawMany, .ref a_t_sets, .int v_t_setMany, .ref a_t_winsLow, .ref a_t_winsHigh, .ref a_t_pad, .int v_t_padMany, .long v_t_low, .long v_t_high, .ref a_t_could, .int v_t_couldMany, .ref a_t_row, .ref a_t_best, .ref a_t_kept, .ref a_t_isKept, .int v_t_keptAt, .int v_t_isWriting])), (a_t_pad, .inl (I, 60, .inl v_t_pad)), (a_t_tickets, .inl (I, 6, .inl v_t_tickets))]) hC hW 0 rfl fp_Model_74 rfl rfl (Nat.le_of_ble_eq_true rfl) d_Model_tickets_75 rfl (fun H locs hW => ?_)
          refine lv_goto (tgt := 106) hx hb d_Model_tickets_78 (by decide) ?_
          refine lv_iinc (v := (x1 + (1 : Int32))) (lv' := [(1, .int (x1 + (1 : Int32))), (0, .ref a_t)]) hx hb d_Model_tickets_106 hl (k := 1) rfl (iinc_e (by decide)) (by decide) rfl (fun ls hl => ?_)
          refine lv_goto (tgt := 49) hx hb d_Model_tickets_109 (by decide) ?_
          exact ih (x1 + (1 : Int32)) v_t_padMany v_t_sights (v_t_ticketMany + (1 : Int32)) v_t_tickets _ _ _ h K _ _ hW ls (lv_sub hl [1, 0] rfl)
  refine lv_aload_n hx hb d_Model_tickets_0 rfl (lv_at hl 0 rfl) ?_
  obtain ⟨r_1, hc_1, h⟩ := bk1_e h
  refine x_ci (ws' := [(a_t, .inr (10, [.int v_t_numbers, .int v_t_onTicket, .int v_t_drawn, .int v_t_due, .ref a_t_tickets, .int v_t_ticketMany, .int v_t_fond, .ref a_t_prizes, .ref a_t_sightTicket, .ref a_t_sightRight, .ref a_t_sightHow, .int v_t_sights, .ref a_t_draws, .int v_t_drawMany, .ref a_t_sets, .int v_t_setMany, .ref a_t_winsLow, .ref a_t_winsHigh, .ref a_t_pad, .int v_t_padMany, .long v_t_low, .long v_t_high, .ref a_t_could, .int v_t_couldMany, .ref a_t_row, .ref a_t_best, .ref a_t_kept, .ref a_t_isKept, .int v_t_keptAt, .int v_t_isWriting])), (a_t_pad, .inl (I, 60, .inl v_t_pad)), (a_t_tickets, .inl (I, 6, .inl v_t_tickets))]) (x_runV (As := []) (rest := []) hC hW (c_Model_fault l D I J Z a_t a_t_pad a_t_tickets a_t_prizes a_t_sightTicket a_t_sightRight a_t_sightHow a_t_draws a_t_sets a_t_winsLow a_t_winsHigh a_t_could a_t_row a_t_best a_t_kept a_t_isKept v_t_numbers v_t_onTicket v_t_drawn v_t_due v_t_ticketMany v_t_fond v_t_sights v_t_drawMany v_t_setMany v_t_padMany v_t_low v_t_high v_t_couldMany v_t_keptAt v_t_isWriting v_t_pad (r_1) hc_1) cl_Model_124 q_code_Model_fault [0, 1] rfl (by decide) 0 rfl rfl rfl rfl hl.1 (Nat.le_of_ble_eq_true rfl) (rm_ok hR1 hR2 (by decide) (by decide)) ⟨Nat.zero_le _, Nat.zero_le _⟩ d_Model_tickets_1) hW hA [0, 1] rfl rfl (ps := [some 0, some 1, none]) (by decide +kernel) ⟨rfl, rfl, rfl, trivial⟩ (fun H locs hW => ?_)
  refine lv_if_lt (tgt := 10) hx hb d_Model_tickets_4 (by decide) (fun c_2 => ?_) (fun c_2 => ?_)
  · have h := it_e c_2 h
    refine lv_aload_n hx hb d_Model_tickets_10 rfl (lv_at hl 0 rfl) ?_
    refine lv_aload_n hx hb d_Model_tickets_11 rfl (lv_at hl 0 rfl) ?_
    refine x_get hC hW 0 rfl fl_Model_121 rfl d_Model_tickets_12 ?_
    refine lv_if_ne (tgt := 22) hx hb d_Model_tickets_15 (by decide) (fun c_3 => ?_) (fun c_3 => ?_)
    · have h := ie_e c_3 h
      refine lv_iconst (v := (1 : Int32)) hx hb d_Model_tickets_22 (by decide) ?_
      refine x_put (ws' := [(a_t, .inr (10, [.int v_t_numbers, .int v_t_onTicket, .int v_t_drawn, .int v_t_due, .ref a_t_tickets, .int (1 : Int32), .int v_t_fond, .ref a_t_prizes, .ref a_t_sightTicket, .ref a_t_sightRight, .ref a_t_sightHow, .int v_t_sights, .ref a_t_draws, .int v_t_drawMany, .ref a_t_sets, .int v_t_setMany, .ref a_t_winsLow, .ref a_t_winsHigh, .ref a_t_pad, .int v_t_padMany, .long v_t_low, .long v_t_high, .ref a_t_could, .int v_t_couldMany, .ref a_t_row, .ref a_t_best, .ref a_t_kept, .ref a_t_isKept, .int v_t_keptAt, .int v_t_isWriting])), (a_t_pad, .inl (I, 60, .inl v_t_pad)), (a_t_tickets, .inl (I, 6, .inl v_t_tickets))]) hC hW 0 rfl fp_Model_74 rfl rfl (Nat.le_of_ble_eq_true rfl) d_Model_tickets_23 rfl (fun H locs hW => ?_)
      refine lv_iconst (v := (0 : Int32)) hx hb d_Model_tickets_26 (by decide) ?_
      refine lv_istore_n (lv' := [(1, .int (0 : Int32)), (0, .ref a_t)]) hx hb d_Model_tickets_27 rfl hl (by decide) rfl (fun ls hl => ?_)
      obtain ⟨yx1_6, y_t_tickets_6, hv_6, h⟩ := bk2_e h
      refine lp28 _ (0 : Int32) v_t_padMany v_t_sights (1 : Int32) v_t_tickets yx1_6 y_t_tickets_6 hv_6 (fun H locs hW ls hl => ?_) _ _ hW ls (lv_sub hl [1, 0] rfl)
      refine lv_iconst (v := (0 : Int32)) hx hb d_Model_tickets_47 (by decide) ?_
      refine lv_istore_n (lv' := [(1, .int (0 : Int32)), (0, .ref a_t)]) hx hb d_Model_tickets_48 rfl hl (by decide) rfl (fun ls hl => ?_)
      obtain ⟨yx1_13, y_t_ticketMany_13, y_t_tickets_13, hv_13, h⟩ := bk3_e h
      refine lp49 _ (0 : Int32) v_t_padMany v_t_sights (1 : Int32) y_t_tickets_6 yx1_13 y_t_ticketMany_13 y_t_tickets_13 hv_13 (fun H locs hW ls hl => ?_) _ _ hW ls (lv_sub hl [1, 0] rfl)
      refine lv_aload_n hx hb d_Model_tickets_112 rfl (lv_at hl 0 rfl) ?_
      refine lv_iconst (v := (0 : Int32)) hx hb d_Model_tickets_113 (by decide) ?_
      refine x_put (ws' := [(a_t, .inr (10, [.int v_t_numbers, .int v_t_onTicket, .int v_t_drawn, .int v_t_due, .ref a_t_tickets, .int y_t_ticketMany_13, .int v_t_fond, .ref a_t_prizes, .ref a_t_sightTicket, .ref a_t_sightRight, .ref a_t_sightHow, .int v_t_sights, .ref a_t_draws, .int v_t_drawMany, .ref a_t_sets, .int v_t_setMany, .ref a_t_winsLow, .ref a_t_winsHigh, .ref a_t_pad, .int (0 : Int32), .long v_t_low, .long v_t_high, .ref a_t_could, .int v_t_couldMany, .ref a_t_row, .ref a_t_best, .ref a_t_kept, .ref a_t_isKept, .int v_t_keptAt, .int v_t_isWriting])), (a_t_pad, .inl (I, 60, .inl v_t_pad)), (a_t_tickets, .inl (I, 6, .inl y_t_tickets_13))]) hC hW 0 rfl fp_Model_121 rfl rfl (Nat.le_of_ble_eq_true rfl) d_Model_tickets_114 rfl (fun H locs hW => ?_)
      refine lv_aload_n hx hb d_Model_tickets_117 rfl (lv_at hl 0 rfl) ?_
      refine lv_iconst (v := (0 : Int32)) hx hb d_Model_tickets_118 (by decide) ?_
      refine x_put (ws' := [(a_t, .inr (10, [.int v_t_numbers, .int v_t_onTicket, .int v_t_drawn, .int v_t_due, .ref a_t_tickets, .int y_t_ticketMany_13, .int v_t_fond, .ref a_t_prizes, .ref a_t_sightTicket, .ref a_t_sightRight, .ref a_t_sightHow, .int (0 : Int32), .ref a_t_draws, .int v_t_drawMany, .ref a_t_sets, .int v_t_setMany, .ref a_t_winsLow, .ref a_t_winsHigh, .ref a_t_pad, .int (0 : Int32), .long v_t_low, .long v_t_high, .ref a_t_could, .int v_t_couldMany, .ref a_t_row, .ref a_t_best, .ref a_t_kept, .ref a_t_isKept, .int v_t_keptAt, .int v_t_isWriting])), (a_t_pad, .inl (I, 60, .inl v_t_pad)), (a_t_tickets, .inl (I, 6, .inl y_t_tickets_13))]) hC hW 0 rfl fp_Model_80 rfl rfl (Nat.le_of_ble_eq_true rfl) d_Model_tickets_119 rfl (fun H locs hW => ?_)
      refine lv_aload_n hx hb d_Model_tickets_122 rfl (lv_at hl 0 rfl) ?_
      refine x_get hC hW 0 rfl fl_Model_74 rfl d_Model_tickets_123 ?_
      cases h
      rw [hQ]
      exact x_iret hC hr hW d_Model_tickets_126
    · have h := it_e c_3 h
      refine lv_iconst (v := (0 : Int32)) hx hb d_Model_tickets_18 (by decide) ?_
      refine lv_goto (tgt := 23) hx hb d_Model_tickets_19 (by decide) ?_
      refine x_put (ws' := [(a_t, .inr (10, [.int v_t_numbers, .int v_t_onTicket, .int v_t_drawn, .int v_t_due, .ref a_t_tickets, .int (0 : Int32), .int v_t_fond, .ref a_t_prizes, .ref a_t_sightTicket, .ref a_t_sightRight, .ref a_t_sightHow, .int v_t_sights, .ref a_t_draws, .int v_t_drawMany, .ref a_t_sets, .int v_t_setMany, .ref a_t_winsLow, .ref a_t_winsHigh, .ref a_t_pad, .int v_t_padMany, .long v_t_low, .long v_t_high, .ref a_t_could, .int v_t_couldMany, .ref a_t_row, .ref a_t_best, .ref a_t_kept, .ref a_t_isKept, .int v_t_keptAt, .int v_t_isWriting])), (a_t_pad, .inl (I, 60, .inl v_t_pad)), (a_t_tickets, .inl (I, 6, .inl v_t_tickets))]) hC hW 0 rfl fp_Model_74 rfl rfl (Nat.le_of_ble_eq_true rfl) d_Model_tickets_23 rfl (fun H locs hW => ?_)
      refine lv_iconst (v := (0 : Int32)) hx hb d_Model_tickets_26 (by decide) ?_
      refine lv_istore_n (lv' := [(1, .int (0 : Int32)), (0, .ref a_t)]) hx hb d_Model_tickets_27 rfl hl (by decide) rfl (fun ls hl => ?_)
      obtain ⟨yx1_14, y_t_tickets_14, hv_14, h⟩ := bk2_e h
      refine lp28 _ (0 : Int32) v_t_padMany v_t_sights (0 : Int32) v_t_tickets yx1_14 y_t_tickets_14 hv_14 (fun H locs hW ls hl => ?_) _ _ hW ls (lv_sub hl [1, 0] rfl)
      refine lv_iconst (v := (0 : Int32)) hx hb d_Model_tickets_47 (by decide) ?_
      refine lv_istore_n (lv' := [(1, .int (0 : Int32)), (0, .ref a_t)]) hx hb d_Model_tickets_48 rfl hl (by decide) rfl (fun ls hl => ?_)
      obtain ⟨yx1_15, y_t_ticketMany_15, y_t_tickets_15, hv_15, h⟩ := bk3_e h
      refine lp49 _ (0 : Int32) v_t_padMany v_t_sights (0 : Int32) y_t_tickets_14 yx1_15 y_t_ticketMany_15 y_t_tickets_15 hv_15 (fun H locs hW ls hl => ?_) _ _ hW ls (lv_sub hl [1, 0] rfl)
      refine lv_aload_n hx hb d_Model_tickets_112 rfl (lv_at hl 0 rfl) ?_
      refine lv_iconst (v := (0 : Int32)) hx hb d_Model_tickets_113 (by decide) ?_
      refine x_put (ws' := [(a_t, .inr (10, [.int v_t_numbers, .int v_t_onTicket, .int v_t_drawn, .int v_t_due, .ref a_t_tickets, .int y_t_ticketMany_15, .int v_t_fond, .ref a_t_prizes, .ref a_t_sightTicket, .ref a_t_sightRight, .ref a_t_sightHow, .int v_t_sights, .ref a_t_draws, .int v_t_drawMany, .ref a_t_sets, .int v_t_setMany, .ref a_t_winsLow, .ref a_t_winsHigh, .ref a_t_pad, .int (0 : Int32), .long v_t_low, .long v_t_high, .ref a_t_could, .int v_t_couldMany, .ref a_t_row, .ref a_t_best, .ref a_t_kept, .ref a_t_isKept, .int v_t_keptAt, .int v_t_isWriting])), (a_t_pad, .inl (I, 60, .inl v_t_pad)), (a_t_tickets, .inl (I, 6, .inl y_t_tickets_15))]) hC hW 0 rfl fp_Model_121 rfl rfl (Nat.le_of_ble_eq_true rfl) d_Model_tickets_114 rfl (fun H locs hW => ?_)
      refine lv_aload_n hx hb d_Model_tickets_117 rfl (lv_at hl 0 rfl) ?_
      refine lv_iconst (v := (0 : Int32)) hx hb d_Model_tickets_118 (by decide) ?_
      refine x_put (ws' := [(a_t, .inr (10, [.int v_t_numbers, .int v_t_onTicket, .int v_t_drawn, .int v_t_due, .ref a_t_tickets, .int y_t_ticketMany_15, .int v_t_fond, .ref a_t_prizes, .ref a_t_sightTicket, .ref a_t_sightRight, .ref a_t_sightHow, .int (0 : Int32), .ref a_t_draws, .int v_t_drawMany, .ref a_t_sets, .int v_t_setMany, .ref a_t_winsLow, .ref a_t_winsHigh, .ref a_t_pad, .int (0 : Int32), .long v_t_low, .long v_t_high, .ref a_t_could, .int v_t_couldMany, .ref a_t_row, .ref a_t_best, .ref a_t_kept, .ref a_t_isKept, .int v_t_keptAt, .int v_t_isWriting])), (a_t_pad, .inl (I, 60, .inl v_t_pad)), (a_t_tickets, .inl (I, 6, .inl y_t_tickets_15))]) hC hW 0 rfl fp_Model_80 rfl rfl (Nat.le_of_ble_eq_true rfl) d_Model_tickets_119 rfl (fun H locs hW => ?_)
      refine lv_aload_n hx hb d_Model_tickets_122 rfl (lv_at hl 0 rfl) ?_
      refine x_get hC hW 0 rfl fl_Model_74 rfl d_Model_tickets_123 ?_
      cases h
      rw [hQ]
      exact x_iret hC hr hW d_Model_tickets_126
  · have h := ie_e c_2 h
    refine lv_bipush (v := (-5 : Int32)) hx hb d_Model_tickets_7 (by decide) ?_
    cases h
    rw [hQ]
    exact x_iret hC hr hW d_Model_tickets_9

def f_Model_isTicket (v_t_ticketMany : Int32) (p0 : Int32) : Option (Int32) :=
  bk1 (f_Model_in p0.toInt64 (0 : Int64) (v_t_ticketMany - (1 : Int32)).toInt64) fun r_1 => bz r_1 (some (r_1))
set_option maxHeartbeats 4000000 in
set_option maxRecDepth 100000 in
theorem c_Model_isTicket (l : Launch) (D : va_G) (I J Z : ClassId) (a_t : Nat) (a_t_tickets : Nat) (a_t_prizes : Nat) (a_t_sightTicket : Nat) (a_t_sightRight : Nat) (a_t_sightHow : Nat) (a_t_draws : Nat) (a_t_sets : Nat) (a_t_winsLow : Nat) (a_t_winsHigh : Nat) (a_t_pad : Nat) (a_t_could : Nat) (a_t_row : Nat) (a_t_best : Nat) (a_t_kept : Nat) (a_t_isKept : Nat)  (v_t_numbers : Int32) (v_t_onTicket : Int32) (v_t_drawn : Int32) (v_t_due : Int32) (v_t_ticketMany : Int32) (v_t_fond : Int32) (v_t_sights : Int32) (v_t_drawMany : Int32) (v_t_setMany : Int32) (v_t_padMany : Int32) (v_t_low : Int64) (v_t_high : Int64) (v_t_couldMany : Int32) (v_t_keptAt : Int32) (v_t_isWriting : Int32) (p0 : Int32) (out : (Int32)) (h : f_Model_isTicket v_t_ticketMany p0 = some out) : CT l D I J Z y_Model_isTicket b_Model_isTicket 2 (some .boolean) 2 [.ref a_t, .int p0] [(a_t, .inr (10, [.int v_t_numbers, .int v_t_onTicket, .int v_t_drawn, .int v_t_due, .ref a_t_tickets, .int v_t_ticketMany, .int v_t_fond, .ref a_t_prizes, .ref a_t_sightTicket, .ref a_t_sightRight, .ref a_t_sightHow, .int v_t_sights, .ref a_t_draws, .int v_t_drawMany, .ref a_t_sets, .int v_t_setMany, .ref a_t_winsLow, .ref a_t_winsHigh, .ref a_t_pad, .int v_t_padMany, .long v_t_low, .long v_t_high, .ref a_t_could, .int v_t_couldMany, .ref a_t_row, .ref a_t_best, .ref a_t_kept, .ref a_t_isKept, .int v_t_keptAt, .int v_t_isWriting]))] (PoI out D [(a_t, .inr (10, [.int v_t_numbers, .int v_t_onTicket, .int v_t_drawn, .int v_t_due, .ref a_t_tickets, .int v_t_ticketMany, .int v_t_fond, .ref a_t_prizes, .ref a_t_sightTicket, .ref a_t_sightRight, .ref a_t_sightHow, .int v_t_sights, .ref a_t_draws, .int v_t_drawMany, .ref a_t_sets, .int v_t_setMany, .ref a_t_winsLow, .ref a_t_winsHigh, .ref a_t_pad, .int v_t_padMany, .long v_t_low, .long v_t_high, .ref a_t_could, .int v_t_couldMany, .ref a_t_row, .ref a_t_best, .ref a_t_kept, .ref a_t_isKept, .int v_t_keptAt, .int v_t_isWriting]))]) := by
  unfold f_Model_isTicket at h
  refine CT_of R_Model (by decide +kernel) rfl (Nat.le_of_ble_eq_true rfl) ?_
  intro p e R s m args below meth c A ls Q hR1 hR2 hQ hC hr hW hA hl
  have hx := hC.1
  have hb := hC.2.1
  have hl : lv_has ls 2 [(0, .ref a_t), (1, .int p0)] := hl
  refine lv_iload_n hx hb d_Model_isTicket_0 rfl (lv_at hl 1 rfl) ?_
  refine lv_i2l hx hb d_Model_isTicket_1 rfl ?_
  refine lv_lconst (v := (0 : Int64)) hx hb d_Model_isTicket_2 (by decide) ?_
  refine lv_aload_n hx hb d_Model_isTicket_3 rfl (lv_at hl 0 rfl) ?_
  refine x_get hC hW 0 rfl fl_Model_74 rfl d_Model_isTicket_4 ?_
  refine lv_iconst (v := (1 : Int32)) hx hb d_Model_isTicket_7 (by decide) ?_
  refine lv_isub hx hb d_Model_isTicket_8 ?_
  refine lv_i2l hx hb d_Model_isTicket_9 rfl ?_
  obtain ⟨r_1, hc_1, h⟩ := bk1_e h
  refine x_ci (ws' := [(a_t, .inr (10, [.int v_t_numbers, .int v_t_onTicket, .int v_t_drawn, .int v_t_due, .ref a_t_tickets, .int v_t_ticketMany, .int v_t_fond, .ref a_t_prizes, .ref a_t_sightTicket, .ref a_t_sightRight, .ref a_t_sightHow, .int v_t_sights, .ref a_t_draws, .int v_t_drawMany, .ref a_t_sets, .int v_t_setMany, .ref a_t_winsLow, .ref a_t_winsHigh, .ref a_t_pad, .int v_t_padMany, .long v_t_low, .long v_t_high, .ref a_t_could, .int v_t_couldMany, .ref a_t_row, .ref a_t_best, .ref a_t_kept, .ref a_t_isKept, .int v_t_keptAt, .int v_t_isWriting]))]) (x_runS (rest := []) hC hW (c_Model_in l D I J Z p0.toInt64 (0 : Int64) (v_t_ticketMany - (1 : Int32)).toInt64 (r_1) hc_1) cl_Model_111 q_code_Model_in [] rfl (by decide) rfl hl.1 (Nat.le_of_ble_eq_true rfl) (rm_ok hR1 hR2 (by decide) (by decide)) ⟨Nat.zero_le _, Nat.zero_le _⟩ d_Model_isTicket_10) hW hA [] rfl rfl (ps := [none]) (by decide +kernel) ⟨rfl, trivial⟩ (fun H locs hW => ?_)
  obtain ⟨hn_2, h⟩ := bz_e h
  cases h
  rw [hQ]
  exact x_zret hC hr hn_2 hW d_Model_isTicket_13

def f_Model_ticket (v_t_ticketMany : Int32) (v_t_tickets : Nat → Int32) (p0 : Int32) : Option (Int32) :=
  bk1 (f_Model_isTicket v_t_ticketMany p0) fun r_1 => if r_1 = (0 : Int32) then some ((-1 : Int32)) else gd p0 6 (some ((v_t_tickets p0.toNatClampNeg)))
set_option maxHeartbeats 4000000 in
set_option maxRecDepth 100000 in
theorem c_Model_ticket (l : Launch) (D : va_G) (I J Z : ClassId) (a_t : Nat) (a_t_tickets : Nat) (a_t_prizes : Nat) (a_t_sightTicket : Nat) (a_t_sightRight : Nat) (a_t_sightHow : Nat) (a_t_draws : Nat) (a_t_sets : Nat) (a_t_winsLow : Nat) (a_t_winsHigh : Nat) (a_t_pad : Nat) (a_t_could : Nat) (a_t_row : Nat) (a_t_best : Nat) (a_t_kept : Nat) (a_t_isKept : Nat)  (v_t_numbers : Int32) (v_t_onTicket : Int32) (v_t_drawn : Int32) (v_t_due : Int32) (v_t_ticketMany : Int32) (v_t_fond : Int32) (v_t_sights : Int32) (v_t_drawMany : Int32) (v_t_setMany : Int32) (v_t_padMany : Int32) (v_t_low : Int64) (v_t_high : Int64) (v_t_couldMany : Int32) (v_t_keptAt : Int32) (v_t_isWriting : Int32) (v_t_tickets : Nat → Int32) (p0 : Int32) (out : (Int32)) (h : f_Model_ticket v_t_ticketMany v_t_tickets p0 = some out) : CT l D I J Z y_Model_ticket b_Model_ticket 2 (some .int) 3 [.ref a_t, .int p0] [(a_t, .inr (10, [.int v_t_numbers, .int v_t_onTicket, .int v_t_drawn, .int v_t_due, .ref a_t_tickets, .int v_t_ticketMany, .int v_t_fond, .ref a_t_prizes, .ref a_t_sightTicket, .ref a_t_sightRight, .ref a_t_sightHow, .int v_t_sights, .ref a_t_draws, .int v_t_drawMany, .ref a_t_sets, .int v_t_setMany, .ref a_t_winsLow, .ref a_t_winsHigh, .ref a_t_pad, .int v_t_padMany, .long v_t_low, .long v_t_high, .ref a_t_could, .int v_t_couldMany, .ref a_t_row, .ref a_t_best, .ref a_t_kept, .ref a_t_isKept, .int v_t_keptAt, .int v_t_isWriting])), (a_t_tickets, .inl (I, 6, .inl v_t_tickets))] (PoI out D [(a_t, .inr (10, [.int v_t_numbers, .int v_t_onTicket, .int v_t_drawn, .int v_t_due, .ref a_t_tickets, .int v_t_ticketMany, .int v_t_fond, .ref a_t_prizes, .ref a_t_sightTicket, .ref a_t_sightRight, .ref a_t_sightHow, .int v_t_sights, .ref a_t_draws, .int v_t_drawMany, .ref a_t_sets, .int v_t_setMany, .ref a_t_winsLow, .ref a_t_winsHigh, .ref a_t_pad, .int v_t_padMany, .long v_t_low, .long v_t_high, .ref a_t_could, .int v_t_couldMany, .ref a_t_row, .ref a_t_best, .ref a_t_kept, .ref a_t_isKept, .int v_t_keptAt, .int v_t_isWriting])), (a_t_tickets, .inl (I, 6, .inl v_t_tickets))]) := by
  unfold f_Model_ticket at h
  refine CT_of R_Model (by decide +kernel) rfl (Nat.le_of_ble_eq_true rfl) ?_
  intro p e R s m args below meth c A ls Q hR1 hR2 hQ hC hr hW hA hl
  have hx := hC.1
  have hb := hC.2.1
  have hl : lv_has ls 2 [(0, .ref a_t), (1, .int p0)] := hl
  refine lv_aload_n hx hb d_Model_ticket_0 rfl (lv_at hl 0 rfl) ?_
  refine lv_iload_n hx hb d_Model_ticket_1 rfl (lv_at hl 1 rfl) ?_
  obtain ⟨r_1, hc_1, h⟩ := bk1_e h
  refine x_ci (ws' := [(a_t, .inr (10, [.int v_t_numbers, .int v_t_onTicket, .int v_t_drawn, .int v_t_due, .ref a_t_tickets, .int v_t_ticketMany, .int v_t_fond, .ref a_t_prizes, .ref a_t_sightTicket, .ref a_t_sightRight, .ref a_t_sightHow, .int v_t_sights, .ref a_t_draws, .int v_t_drawMany, .ref a_t_sets, .int v_t_setMany, .ref a_t_winsLow, .ref a_t_winsHigh, .ref a_t_pad, .int v_t_padMany, .long v_t_low, .long v_t_high, .ref a_t_could, .int v_t_couldMany, .ref a_t_row, .ref a_t_best, .ref a_t_kept, .ref a_t_isKept, .int v_t_keptAt, .int v_t_isWriting])), (a_t_tickets, .inl (I, 6, .inl v_t_tickets))]) (x_runV (As := [.int p0]) (rest := []) hC hW (c_Model_isTicket l D I J Z a_t a_t_tickets a_t_prizes a_t_sightTicket a_t_sightRight a_t_sightHow a_t_draws a_t_sets a_t_winsLow a_t_winsHigh a_t_pad a_t_could a_t_row a_t_best a_t_kept a_t_isKept v_t_numbers v_t_onTicket v_t_drawn v_t_due v_t_ticketMany v_t_fond v_t_sights v_t_drawMany v_t_setMany v_t_padMany v_t_low v_t_high v_t_couldMany v_t_keptAt v_t_isWriting p0 (r_1) hc_1) cl_Model_128 q_code_Model_isTicket [0] rfl (by decide) 0 rfl rfl rfl rfl hl.1 (Nat.le_of_ble_eq_true rfl) (rm_ok hR1 hR2 (by decide) (by decide)) ⟨Nat.zero_le _, Nat.zero_le _⟩ d_Model_ticket_2) hW hA [0] rfl rfl (ps := [some 0, none]) (by decide +kernel) ⟨rfl, rfl, trivial⟩ (fun H locs hW => ?_)
  refine lv_if_eq (tgt := 17) hx hb d_Model_ticket_5 (by decide) (fun c_2 => ?_) (fun c_2 => ?_)
  · have h := it_e c_2 h
    refine lv_iconst (v := (-1 : Int32)) hx hb d_Model_ticket_17 (by decide) ?_
    cases h
    rw [hQ]
    exact x_iret hC hr hW d_Model_ticket_18
  · have h := ie_e c_2 h
    refine lv_aload_n hx hb d_Model_ticket_8 rfl (lv_at hl 0 rfl) ?_
    refine x_get hC hW 0 rfl fl_Model_7 rfl d_Model_ticket_9 ?_
    refine lv_iload_n hx hb d_Model_ticket_12 rfl (lv_at hl 1 rfl) ?_
    obtain ⟨hi_3, h⟩ := gd_e h
    refine x_iald hC hW 1 rfl hi_3 d_Model_ticket_13 ?_
    refine lv_goto (tgt := 18) hx hb d_Model_ticket_14 (by decide) ?_
    cases h
    rw [hQ]
    exact x_iret hC hr hW d_Model_ticket_18

def f_Model_fond (v_t_fond : Int32) (v_t_numbers : Int32) (v_t_onTicket : Int32) (p0 : Int32) : Option (Int32 × Int32) :=
  bk1 (f_Model_in p0.toInt64 (0 : Int64) (((1 : Int32) <<< (v_t_numbers &&& 31)) - (1 : Int32)).toInt64) fun r_1 => if r_1 = (0 : Int32) then some ((-2 : Int32), v_t_fond) else bk1 (f_Model_ones p0.toInt64) fun r_3 => if r_3 ≤ v_t_onTicket then some (v_t_fond, p0) else some ((-2 : Int32), v_t_fond)
set_option maxHeartbeats 4000000 in
set_option maxRecDepth 100000 in
theorem c_Model_fond (l : Launch) (D : va_G) (I J Z : ClassId) (a_t : Nat) (a_t_tickets : Nat) (a_t_prizes : Nat) (a_t_sightTicket : Nat) (a_t_sightRight : Nat) (a_t_sightHow : Nat) (a_t_draws : Nat) (a_t_sets : Nat) (a_t_winsLow : Nat) (a_t_winsHigh : Nat) (a_t_pad : Nat) (a_t_could : Nat) (a_t_row : Nat) (a_t_best : Nat) (a_t_kept : Nat) (a_t_isKept : Nat)  (v_t_numbers : Int32) (v_t_onTicket : Int32) (v_t_drawn : Int32) (v_t_due : Int32) (v_t_ticketMany : Int32) (v_t_fond : Int32) (v_t_sights : Int32) (v_t_drawMany : Int32) (v_t_setMany : Int32) (v_t_padMany : Int32) (v_t_low : Int64) (v_t_high : Int64) (v_t_couldMany : Int32) (v_t_keptAt : Int32) (v_t_isWriting : Int32) (p0 : Int32) (out : (Int32 × Int32)) (h : f_Model_fond v_t_fond v_t_numbers v_t_onTicket p0 = some out) : CT l D I J Z y_Model_fond b_Model_fond 3 (some .int) 2 [.ref a_t, .int p0] [(a_t, .inr (10, [.int v_t_numbers, .int v_t_onTicket, .int v_t_drawn, .int v_t_due, .ref a_t_tickets, .int v_t_ticketMany, .int v_t_fond, .ref a_t_prizes, .ref a_t_sightTicket, .ref a_t_sightRight, .ref a_t_sightHow, .int v_t_sights, .ref a_t_draws, .int v_t_drawMany, .ref a_t_sets, .int v_t_setMany, .ref a_t_winsLow, .ref a_t_winsHigh, .ref a_t_pad, .int v_t_padMany, .long v_t_low, .long v_t_high, .ref a_t_could, .int v_t_couldMany, .ref a_t_row, .ref a_t_best, .ref a_t_kept, .ref a_t_isKept, .int v_t_keptAt, .int v_t_isWriting]))] (PoI out.1 D [(a_t, .inr (10, [.int v_t_numbers, .int v_t_onTicket, .int v_t_drawn, .int v_t_due, .ref a_t_tickets, .int v_t_ticketMany, .int out.2, .ref a_t_prizes, .ref a_t_sightTicket, .ref a_t_sightRight, .ref a_t_sightHow, .int v_t_sights, .ref a_t_draws, .int v_t_drawMany, .ref a_t_sets, .int v_t_setMany, .ref a_t_winsLow, .ref a_t_winsHigh, .ref a_t_pad, .int v_t_padMany, .long v_t_low, .long v_t_high, .ref a_t_could, .int v_t_couldMany, .ref a_t_row, .ref a_t_best, .ref a_t_kept, .ref a_t_isKept, .int v_t_keptAt, .int v_t_isWriting]))]) := by
  unfold f_Model_fond at h
  refine CT_of R_Model (by decide +kernel) rfl (Nat.le_of_ble_eq_true rfl) ?_
  intro p e R s m args below meth c A ls Q hR1 hR2 hQ hC hr hW hA hl
  have hx := hC.1
  have hb := hC.2.1
  have hl : lv_has ls 3 [(0, .ref a_t), (1, .int p0)] := hl
  refine lv_iload_n hx hb d_Model_fond_0 rfl (lv_at hl 1 rfl) ?_
  refine lv_i2l hx hb d_Model_fond_1 rfl ?_
  refine lv_lconst (v := (0 : Int64)) hx hb d_Model_fond_2 (by decide) ?_
  refine lv_iconst (v := (1 : Int32)) hx hb d_Model_fond_3 (by decide) ?_
  refine lv_aload_n hx hb d_Model_fond_4 rfl (lv_at hl 0 rfl) ?_
  refine x_get hC hW 0 rfl fl_Model_61 rfl d_Model_fond_5 ?_
  refine lv_ishl hx hb d_Model_fond_8 ?_
  refine lv_iconst (v := (1 : Int32)) hx hb d_Model_fond_9 (by decide) ?_
  refine lv_isub hx hb d_Model_fond_10 ?_
  refine lv_i2l hx hb d_Model_fond_11 rfl ?_
  obtain ⟨r_1, hc_1, h⟩ := bk1_e h
  refine x_ci (ws' := [(a_t, .inr (10, [.int v_t_numbers, .int v_t_onTicket, .int v_t_drawn, .int v_t_due, .ref a_t_tickets, .int v_t_ticketMany, .int v_t_fond, .ref a_t_prizes, .ref a_t_sightTicket, .ref a_t_sightRight, .ref a_t_sightHow, .int v_t_sights, .ref a_t_draws, .int v_t_drawMany, .ref a_t_sets, .int v_t_setMany, .ref a_t_winsLow, .ref a_t_winsHigh, .ref a_t_pad, .int v_t_padMany, .long v_t_low, .long v_t_high, .ref a_t_could, .int v_t_couldMany, .ref a_t_row, .ref a_t_best, .ref a_t_kept, .ref a_t_isKept, .int v_t_keptAt, .int v_t_isWriting]))]) (x_runS (rest := []) hC hW (c_Model_in l D I J Z p0.toInt64 (0 : Int64) (((1 : Int32) <<< (v_t_numbers &&& 31)) - (1 : Int32)).toInt64 (r_1) hc_1) cl_Model_111 q_code_Model_in [] rfl (by decide) rfl hl.1 (Nat.le_of_ble_eq_true rfl) (rm_ok hR1 hR2 (by decide) (by decide)) ⟨Nat.zero_le _, Nat.zero_le _⟩ d_Model_fond_12) hW hA [] rfl rfl (ps := [none]) (by decide +kernel) ⟨rfl, trivial⟩ (fun H locs hW => ?_)
  refine lv_if_eq (tgt := 30) hx hb d_Model_fond_15 (by decide) (fun c_2 => ?_) (fun c_2 => ?_)
  · have h := it_e c_2 h
    refine lv_bipush (v := (-2 : Int32)) hx hb d_Model_fond_30 (by decide) ?_
    cases h
    rw [hQ]
    exact x_iret hC hr hW d_Model_fond_32
  · have h := ie_e c_2 h
    refine lv_iload_n hx hb d_Model_fond_18 rfl (lv_at hl 1 rfl) ?_
    refine lv_i2l hx hb d_Model_fond_19 rfl ?_
    obtain ⟨r_3, hc_3, h⟩ := bk1_e h
    refine x_ci (ws' := [(a_t, .inr (10, [.int v_t_numbers, .int v_t_onTicket, .int v_t_drawn, .int v_t_due, .ref a_t_tickets, .int v_t_ticketMany, .int v_t_fond, .ref a_t_prizes, .ref a_t_sightTicket, .ref a_t_sightRight, .ref a_t_sightHow, .int v_t_sights, .ref a_t_draws, .int v_t_drawMany, .ref a_t_sets, .int v_t_setMany, .ref a_t_winsLow, .ref a_t_winsHigh, .ref a_t_pad, .int v_t_padMany, .long v_t_low, .long v_t_high, .ref a_t_could, .int v_t_couldMany, .ref a_t_row, .ref a_t_best, .ref a_t_kept, .ref a_t_isKept, .int v_t_keptAt, .int v_t_isWriting]))]) (x_runS (rest := []) hC hW (c_Model_ones l D I J Z p0.toInt64 (r_3) hc_3) cl_Model_92 q_code_Model_ones [] rfl (by decide) rfl hl.1 (Nat.le_of_ble_eq_true rfl) (rm_ok hR1 hR2 (by decide) (by decide)) ⟨Nat.zero_le _, Nat.zero_le _⟩ d_Model_fond_20) hW hA [] rfl rfl (ps := [none]) (by decide +kernel) ⟨rfl, trivial⟩ (fun H locs hW => ?_)
    refine lv_aload_n hx hb d_Model_fond_23 rfl (lv_at hl 0 rfl) ?_
    refine x_get hC hW 0 rfl fl_Model_65 rfl d_Model_fond_24 ?_
    refine lv_icmp_le (tgt := 33) hx hb d_Model_fond_27 (by decide) (fun c_4 => ?_) (fun c_4 => ?_)
    · have h := it_e c_4 h
      refine lv_aload_n hx hb d_Model_fond_33 rfl (lv_at hl 0 rfl) ?_
      refine x_get hC hW 0 rfl fl_Model_77 rfl d_Model_fond_34 ?_
      refine lv_istore_n (lv' := [(2, .int v_t_fond), (0, .ref a_t), (1, .int p0)]) hx hb d_Model_fond_37 rfl hl (by decide) rfl (fun ls hl => ?_)
      refine lv_aload_n hx hb d_Model_fond_38 rfl (lv_at hl 1 rfl) ?_
      refine lv_iload_n hx hb d_Model_fond_39 rfl (lv_at hl 2 rfl) ?_
      refine x_put (ws' := [(a_t, .inr (10, [.int v_t_numbers, .int v_t_onTicket, .int v_t_drawn, .int v_t_due, .ref a_t_tickets, .int v_t_ticketMany, .int p0, .ref a_t_prizes, .ref a_t_sightTicket, .ref a_t_sightRight, .ref a_t_sightHow, .int v_t_sights, .ref a_t_draws, .int v_t_drawMany, .ref a_t_sets, .int v_t_setMany, .ref a_t_winsLow, .ref a_t_winsHigh, .ref a_t_pad, .int v_t_padMany, .long v_t_low, .long v_t_high, .ref a_t_could, .int v_t_couldMany, .ref a_t_row, .ref a_t_best, .ref a_t_kept, .ref a_t_isKept, .int v_t_keptAt, .int v_t_isWriting]))]) hC hW 0 rfl fp_Model_77 rfl rfl (Nat.le_of_ble_eq_true rfl) d_Model_fond_40 rfl (fun H locs hW => ?_)
      refine lv_iload_n hx hb d_Model_fond_43 rfl (lv_at hl 0 rfl) ?_
      cases h
      rw [hQ]
      exact x_iret hC hr hW d_Model_fond_44
    · have h := ie_e c_4 h
      refine lv_bipush (v := (-2 : Int32)) hx hb d_Model_fond_30 (by decide) ?_
      cases h
      rw [hQ]
      exact x_iret hC hr hW d_Model_fond_32

def f_Model_isDraw (v_t_drawn : Int32) (v_t_numbers : Int32) (p0 : Int32) : Option (Int32) :=
  bk1 (f_Model_in p0.toInt64 (0 : Int64) (((1 : Int32) <<< (v_t_numbers &&& 31)) - (1 : Int32)).toInt64) fun r_1 => if r_1 = (0 : Int32) then some ((0 : Int32)) else bk1 (f_Model_ones p0.toInt64) fun r_3 => if r_3 = v_t_drawn then some ((1 : Int32)) else some ((0 : Int32))
set_option maxHeartbeats 4000000 in
set_option maxRecDepth 100000 in
theorem c_Model_isDraw (l : Launch) (D : va_G) (I J Z : ClassId) (a_t : Nat) (a_t_tickets : Nat) (a_t_prizes : Nat) (a_t_sightTicket : Nat) (a_t_sightRight : Nat) (a_t_sightHow : Nat) (a_t_draws : Nat) (a_t_sets : Nat) (a_t_winsLow : Nat) (a_t_winsHigh : Nat) (a_t_pad : Nat) (a_t_could : Nat) (a_t_row : Nat) (a_t_best : Nat) (a_t_kept : Nat) (a_t_isKept : Nat)  (v_t_numbers : Int32) (v_t_onTicket : Int32) (v_t_drawn : Int32) (v_t_due : Int32) (v_t_ticketMany : Int32) (v_t_fond : Int32) (v_t_sights : Int32) (v_t_drawMany : Int32) (v_t_setMany : Int32) (v_t_padMany : Int32) (v_t_low : Int64) (v_t_high : Int64) (v_t_couldMany : Int32) (v_t_keptAt : Int32) (v_t_isWriting : Int32) (p0 : Int32) (out : (Int32)) (h : f_Model_isDraw v_t_drawn v_t_numbers p0 = some out) : CT l D I J Z y_Model_isDraw b_Model_isDraw 2 (some .boolean) 2 [.ref a_t, .int p0] [(a_t, .inr (10, [.int v_t_numbers, .int v_t_onTicket, .int v_t_drawn, .int v_t_due, .ref a_t_tickets, .int v_t_ticketMany, .int v_t_fond, .ref a_t_prizes, .ref a_t_sightTicket, .ref a_t_sightRight, .ref a_t_sightHow, .int v_t_sights, .ref a_t_draws, .int v_t_drawMany, .ref a_t_sets, .int v_t_setMany, .ref a_t_winsLow, .ref a_t_winsHigh, .ref a_t_pad, .int v_t_padMany, .long v_t_low, .long v_t_high, .ref a_t_could, .int v_t_couldMany, .ref a_t_row, .ref a_t_best, .ref a_t_kept, .ref a_t_isKept, .int v_t_keptAt, .int v_t_isWriting]))] (PoI out D [(a_t, .inr (10, [.int v_t_numbers, .int v_t_onTicket, .int v_t_drawn, .int v_t_due, .ref a_t_tickets, .int v_t_ticketMany, .int v_t_fond, .ref a_t_prizes, .ref a_t_sightTicket, .ref a_t_sightRight, .ref a_t_sightHow, .int v_t_sights, .ref a_t_draws, .int v_t_drawMany, .ref a_t_sets, .int v_t_setMany, .ref a_t_winsLow, .ref a_t_winsHigh, .ref a_t_pad, .int v_t_padMany, .long v_t_low, .long v_t_high, .ref a_t_could, .int v_t_couldMany, .ref a_t_row, .ref a_t_best, .ref a_t_kept, .ref a_t_isKept, .int v_t_keptAt, .int v_t_isWriting]))]) := by
  unfold f_Model_isDraw at h
  refine CT_of R_Model (by decide +kernel) rfl (Nat.le_of_ble_eq_true rfl) ?_
  intro p e R s m args below meth c A ls Q hR1 hR2 hQ hC hr hW hA hl
  have hx := hC.1
  have hb := hC.2.1
  have hl : lv_has ls 2 [(0, .ref a_t), (1, .int p0)] := hl
  refine lv_iload_n hx hb d_Model_isDraw_0 rfl (lv_at hl 1 rfl) ?_
  refine lv_i2l hx hb d_Model_isDraw_1 rfl ?_
  refine lv_lconst (v := (0 : Int64)) hx hb d_Model_isDraw_2 (by decide) ?_
  refine lv_iconst (v := (1 : Int32)) hx hb d_Model_isDraw_3 (by decide) ?_
  refine lv_aload_n hx hb d_Model_isDraw_4 rfl (lv_at hl 0 rfl) ?_
  refine x_get hC hW 0 rfl fl_Model_61 rfl d_Model_isDraw_5 ?_
  refine lv_ishl hx hb d_Model_isDraw_8 ?_
  refine lv_iconst (v := (1 : Int32)) hx hb d_Model_isDraw_9 (by decide) ?_
  refine lv_isub hx hb d_Model_isDraw_10 ?_
  refine lv_i2l hx hb d_Model_isDraw_11 rfl ?_
  obtain ⟨r_1, hc_1, h⟩ := bk1_e h
  refine x_ci (ws' := [(a_t, .inr (10, [.int v_t_numbers, .int v_t_onTicket, .int v_t_drawn, .int v_t_due, .ref a_t_tickets, .int v_t_ticketMany, .int v_t_fond, .ref a_t_prizes, .ref a_t_sightTicket, .ref a_t_sightRight, .ref a_t_sightHow, .int v_t_sights, .ref a_t_draws, .int v_t_drawMany, .ref a_t_sets, .int v_t_setMany, .ref a_t_winsLow, .ref a_t_winsHigh, .ref a_t_pad, .int v_t_padMany, .long v_t_low, .long v_t_high, .ref a_t_could, .int v_t_couldMany, .ref a_t_row, .ref a_t_best, .ref a_t_kept, .ref a_t_isKept, .int v_t_keptAt, .int v_t_isWriting]))]) (x_runS (rest := []) hC hW (c_Model_in l D I J Z p0.toInt64 (0 : Int64) (((1 : Int32) <<< (v_t_numbers &&& 31)) - (1 : Int32)).toInt64 (r_1) hc_1) cl_Model_111 q_code_Model_in [] rfl (by decide) rfl hl.1 (Nat.le_of_ble_eq_true rfl) (rm_ok hR1 hR2 (by decide) (by decide)) ⟨Nat.zero_le _, Nat.zero_le _⟩ d_Model_isDraw_12) hW hA [] rfl rfl (ps := [none]) (by decide +kernel) ⟨rfl, trivial⟩ (fun H locs hW => ?_)
  refine lv_if_eq (tgt := 34) hx hb d_Model_isDraw_15 (by decide) (fun c_2 => ?_) (fun c_2 => ?_)
  · have h := it_e c_2 h
    refine lv_iconst (v := (0 : Int32)) hx hb d_Model_isDraw_34 (by decide) ?_
    cases h
    rw [hQ]
    exact x_zret hC hr (show narrow .boolean (.int (0 : Int32)) = .int (0 : Int32) from rfl) hW d_Model_isDraw_35
  · have h := ie_e c_2 h
    refine lv_iload_n hx hb d_Model_isDraw_18 rfl (lv_at hl 1 rfl) ?_
    refine lv_i2l hx hb d_Model_isDraw_19 rfl ?_
    obtain ⟨r_3, hc_3, h⟩ := bk1_e h
    refine x_ci (ws' := [(a_t, .inr (10, [.int v_t_numbers, .int v_t_onTicket, .int v_t_drawn, .int v_t_due, .ref a_t_tickets, .int v_t_ticketMany, .int v_t_fond, .ref a_t_prizes, .ref a_t_sightTicket, .ref a_t_sightRight, .ref a_t_sightHow, .int v_t_sights, .ref a_t_draws, .int v_t_drawMany, .ref a_t_sets, .int v_t_setMany, .ref a_t_winsLow, .ref a_t_winsHigh, .ref a_t_pad, .int v_t_padMany, .long v_t_low, .long v_t_high, .ref a_t_could, .int v_t_couldMany, .ref a_t_row, .ref a_t_best, .ref a_t_kept, .ref a_t_isKept, .int v_t_keptAt, .int v_t_isWriting]))]) (x_runS (rest := []) hC hW (c_Model_ones l D I J Z p0.toInt64 (r_3) hc_3) cl_Model_92 q_code_Model_ones [] rfl (by decide) rfl hl.1 (Nat.le_of_ble_eq_true rfl) (rm_ok hR1 hR2 (by decide) (by decide)) ⟨Nat.zero_le _, Nat.zero_le _⟩ d_Model_isDraw_20) hW hA [] rfl rfl (ps := [none]) (by decide +kernel) ⟨rfl, trivial⟩ (fun H locs hW => ?_)
    refine lv_aload_n hx hb d_Model_isDraw_23 rfl (lv_at hl 0 rfl) ?_
    refine x_get hC hW 0 rfl fl_Model_68 rfl d_Model_isDraw_24 ?_
    refine lv_icmp_ne (tgt := 34) hx hb d_Model_isDraw_27 (by decide) (fun c_4 => ?_) (fun c_4 => ?_)
    · have h := ie_e c_4 h
      refine lv_iconst (v := (0 : Int32)) hx hb d_Model_isDraw_34 (by decide) ?_
      cases h
      rw [hQ]
      exact x_zret hC hr (show narrow .boolean (.int (0 : Int32)) = .int (0 : Int32) from rfl) hW d_Model_isDraw_35
    · have h := it_e c_4 h
      refine lv_iconst (v := (1 : Int32)) hx hb d_Model_isDraw_30 (by decide) ?_
      refine lv_goto (tgt := 35) hx hb d_Model_isDraw_31 (by decide) ?_
      cases h
      rw [hQ]
      exact x_zret hC hr (show narrow .boolean (.int (1 : Int32)) = .int (1 : Int32) from rfl) hW d_Model_isDraw_35

def f_Model_right (v_t_drawn : Int32) (v_t_numbers : Int32) (v_t_ticketMany : Int32) (v_t_tickets : Nat → Int32) (p0 : Int32) (p1 : Int32) : Option (Int32) :=
  bk1 (f_Model_isTicket v_t_ticketMany p0) fun r_1 => if r_1 = (0 : Int32) then some ((-1 : Int32)) else bk1 (f_Model_isDraw v_t_drawn v_t_numbers p1) fun r_3 => if r_3 = (0 : Int32) then some ((-2 : Int32)) else gd p0 6 (bk1 (f_Model_ones ((v_t_tickets p0.toNatClampNeg) &&& p1).toInt64) fun r_6 => some (r_6))
set_option maxHeartbeats 4000000 in
set_option maxRecDepth 100000 in
theorem c_Model_right (l : Launch) (D : va_G) (I J Z : ClassId) (a_t : Nat) (a_t_tickets : Nat) (a_t_prizes : Nat) (a_t_sightTicket : Nat) (a_t_sightRight : Nat) (a_t_sightHow : Nat) (a_t_draws : Nat) (a_t_sets : Nat) (a_t_winsLow : Nat) (a_t_winsHigh : Nat) (a_t_pad : Nat) (a_t_could : Nat) (a_t_row : Nat) (a_t_best : Nat) (a_t_kept : Nat) (a_t_isKept : Nat)  (v_t_numbers : Int32) (v_t_onTicket : Int32) (v_t_drawn : Int32) (v_t_due : Int32) (v_t_ticketMany : Int32) (v_t_fond : Int32) (v_t_sights : Int32) (v_t_drawMany : Int32) (v_t_setMany : Int32) (v_t_padMany : Int32) (v_t_low : Int64) (v_t_high : Int64) (v_t_couldMany : Int32) (v_t_keptAt : Int32) (v_t_isWriting : Int32) (v_t_tickets : Nat → Int32) (p0 : Int32) (p1 : Int32) (out : (Int32)) (h : f_Model_right v_t_drawn v_t_numbers v_t_ticketMany v_t_tickets p0 p1 = some out) : CT l D I J Z y_Model_right b_Model_right 3 (some .int) 3 [.ref a_t, .int p0, .int p1] [(a_t, .inr (10, [.int v_t_numbers, .int v_t_onTicket, .int v_t_drawn, .int v_t_due, .ref a_t_tickets, .int v_t_ticketMany, .int v_t_fond, .ref a_t_prizes, .ref a_t_sightTicket, .ref a_t_sightRight, .ref a_t_sightHow, .int v_t_sights, .ref a_t_draws, .int v_t_drawMany, .ref a_t_sets, .int v_t_setMany, .ref a_t_winsLow, .ref a_t_winsHigh, .ref a_t_pad, .int v_t_padMany, .long v_t_low, .long v_t_high, .ref a_t_could, .int v_t_couldMany, .ref a_t_row, .ref a_t_best, .ref a_t_kept, .ref a_t_isKept, .int v_t_keptAt, .int v_t_isWriting])), (a_t_tickets, .inl (I, 6, .inl v_t_tickets))] (PoI out D [(a_t, .inr (10, [.int v_t_numbers, .int v_t_onTicket, .int v_t_drawn, .int v_t_due, .ref a_t_tickets, .int v_t_ticketMany, .int v_t_fond, .ref a_t_prizes, .ref a_t_sightTicket, .ref a_t_sightRight, .ref a_t_sightHow, .int v_t_sights, .ref a_t_draws, .int v_t_drawMany, .ref a_t_sets, .int v_t_setMany, .ref a_t_winsLow, .ref a_t_winsHigh, .ref a_t_pad, .int v_t_padMany, .long v_t_low, .long v_t_high, .ref a_t_could, .int v_t_couldMany, .ref a_t_row, .ref a_t_best, .ref a_t_kept, .ref a_t_isKept, .int v_t_keptAt, .int v_t_isWriting])), (a_t_tickets, .inl (I, 6, .inl v_t_tickets))]) := by
  unfold f_Model_right at h
  refine CT_of R_Model (by decide +kernel) rfl (Nat.le_of_ble_eq_true rfl) ?_
  intro p e R s m args below meth c A ls Q hR1 hR2 hQ hC hr hW hA hl
  have hx := hC.1
  have hb := hC.2.1
  have hl : lv_has ls 3 [(0, .ref a_t), (1, .int p0), (2, .int p1)] := hl
  refine lv_aload_n hx hb d_Model_right_0 rfl (lv_at hl 0 rfl) ?_
  refine lv_iload_n hx hb d_Model_right_1 rfl (lv_at hl 1 rfl) ?_
  obtain ⟨r_1, hc_1, h⟩ := bk1_e h
  refine x_ci (ws' := [(a_t, .inr (10, [.int v_t_numbers, .int v_t_onTicket, .int v_t_drawn, .int v_t_due, .ref a_t_tickets, .int v_t_ticketMany, .int v_t_fond, .ref a_t_prizes, .ref a_t_sightTicket, .ref a_t_sightRight, .ref a_t_sightHow, .int v_t_sights, .ref a_t_draws, .int v_t_drawMany, .ref a_t_sets, .int v_t_setMany, .ref a_t_winsLow, .ref a_t_winsHigh, .ref a_t_pad, .int v_t_padMany, .long v_t_low, .long v_t_high, .ref a_t_could, .int v_t_couldMany, .ref a_t_row, .ref a_t_best, .ref a_t_kept, .ref a_t_isKept, .int v_t_keptAt, .int v_t_isWriting])), (a_t_tickets, .inl (I, 6, .inl v_t_tickets))]) (x_runV (As := [.int p0]) (rest := []) hC hW (c_Model_isTicket l D I J Z a_t a_t_tickets a_t_prizes a_t_sightTicket a_t_sightRight a_t_sightHow a_t_draws a_t_sets a_t_winsLow a_t_winsHigh a_t_pad a_t_could a_t_row a_t_best a_t_kept a_t_isKept v_t_numbers v_t_onTicket v_t_drawn v_t_due v_t_ticketMany v_t_fond v_t_sights v_t_drawMany v_t_setMany v_t_padMany v_t_low v_t_high v_t_couldMany v_t_keptAt v_t_isWriting p0 (r_1) hc_1) cl_Model_128 q_code_Model_isTicket [0] rfl (by decide) 0 rfl rfl rfl rfl hl.1 (Nat.le_of_ble_eq_true rfl) (rm_ok hR1 hR2 (by decide) (by decide)) ⟨Nat.zero_le _, Nat.zero_le _⟩ d_Model_right_2) hW hA [0] rfl rfl (ps := [some 0, none]) (by decide +kernel) ⟨rfl, rfl, trivial⟩ (fun H locs hW => ?_)
  refine lv_if_ne (tgt := 10) hx hb d_Model_right_5 (by decide) (fun c_2 => ?_) (fun c_2 => ?_)
  · have h := ie_e c_2 h
    refine lv_aload_n hx hb d_Model_right_10 rfl (lv_at hl 0 rfl) ?_
    refine lv_iload_n hx hb d_Model_right_11 rfl (lv_at hl 2 rfl) ?_
    obtain ⟨r_3, hc_3, h⟩ := bk1_e h
    refine x_ci (ws' := [(a_t, .inr (10, [.int v_t_numbers, .int v_t_onTicket, .int v_t_drawn, .int v_t_due, .ref a_t_tickets, .int v_t_ticketMany, .int v_t_fond, .ref a_t_prizes, .ref a_t_sightTicket, .ref a_t_sightRight, .ref a_t_sightHow, .int v_t_sights, .ref a_t_draws, .int v_t_drawMany, .ref a_t_sets, .int v_t_setMany, .ref a_t_winsLow, .ref a_t_winsHigh, .ref a_t_pad, .int v_t_padMany, .long v_t_low, .long v_t_high, .ref a_t_could, .int v_t_couldMany, .ref a_t_row, .ref a_t_best, .ref a_t_kept, .ref a_t_isKept, .int v_t_keptAt, .int v_t_isWriting])), (a_t_tickets, .inl (I, 6, .inl v_t_tickets))]) (x_runV (As := [.int p1]) (rest := []) hC hW (c_Model_isDraw l D I J Z a_t a_t_tickets a_t_prizes a_t_sightTicket a_t_sightRight a_t_sightHow a_t_draws a_t_sets a_t_winsLow a_t_winsHigh a_t_pad a_t_could a_t_row a_t_best a_t_kept a_t_isKept v_t_numbers v_t_onTicket v_t_drawn v_t_due v_t_ticketMany v_t_fond v_t_sights v_t_drawMany v_t_setMany v_t_padMany v_t_low v_t_high v_t_couldMany v_t_keptAt v_t_isWriting p1 (r_3) hc_3) cl_Model_132 q_code_Model_isDraw [0] rfl (by decide) 0 rfl rfl rfl rfl hl.1 (Nat.le_of_ble_eq_true rfl) (rm_ok hR1 hR2 (by decide) (by decide)) ⟨Nat.zero_le _, Nat.zero_le _⟩ d_Model_right_12) hW hA [0] rfl rfl (ps := [some 0, none]) (by decide +kernel) ⟨rfl, rfl, trivial⟩ (fun H locs hW => ?_)
    refine lv_if_eq (tgt := 33) hx hb d_Model_right_15 (by decide) (fun c_4 => ?_) (fun c_4 => ?_)
    · have h := it_e c_4 h
      refine lv_bipush (v := (-2 : Int32)) hx hb d_Model_right_33 (by decide) ?_
      cases h
      rw [hQ]
      exact x_iret hC hr hW d_Model_right_35
    · have h := ie_e c_4 h
      refine lv_aload_n hx hb d_Model_right_18 rfl (lv_at hl 0 rfl) ?_
      refine x_get hC hW 0 rfl fl_Model_7 rfl d_Model_right_19 ?_
      refine lv_iload_n hx hb d_Model_right_22 rfl (lv_at hl 1 rfl) ?_
      obtain ⟨hi_5, h⟩ := gd_e h
      refine x_iald hC hW 1 rfl hi_5 d_Model_right_23 ?_
      refine lv_iload_n hx hb d_Model_right_24 rfl (lv_at hl 2 rfl) ?_
      refine lv_iand hx hb d_Model_right_25 ?_
      refine lv_i2l hx hb d_Model_right_26 rfl ?_
      obtain ⟨r_6, hc_6, h⟩ := bk1_e h
      refine x_ci (ws' := [(a_t, .inr (10, [.int v_t_numbers, .int v_t_onTicket, .int v_t_drawn, .int v_t_due, .ref a_t_tickets, .int v_t_ticketMany, .int v_t_fond, .ref a_t_prizes, .ref a_t_sightTicket, .ref a_t_sightRight, .ref a_t_sightHow, .int v_t_sights, .ref a_t_draws, .int v_t_drawMany, .ref a_t_sets, .int v_t_setMany, .ref a_t_winsLow, .ref a_t_winsHigh, .ref a_t_pad, .int v_t_padMany, .long v_t_low, .long v_t_high, .ref a_t_could, .int v_t_couldMany, .ref a_t_row, .ref a_t_best, .ref a_t_kept, .ref a_t_isKept, .int v_t_keptAt, .int v_t_isWriting])), (a_t_tickets, .inl (I, 6, .inl v_t_tickets))]) (x_runS (rest := []) hC hW (c_Model_ones l D I J Z ((v_t_tickets p0.toNatClampNeg) &&& p1).toInt64 (r_6) hc_6) cl_Model_92 q_code_Model_ones [] rfl (by decide) rfl hl.1 (Nat.le_of_ble_eq_true rfl) (rm_ok hR1 hR2 (by decide) (by decide)) ⟨Nat.zero_le _, Nat.zero_le _⟩ d_Model_right_27) hW hA [] rfl rfl (ps := [none, none]) (by decide +kernel) ⟨rfl, rfl, trivial⟩ (fun H locs hW => ?_)
      refine lv_goto (tgt := 35) hx hb d_Model_right_30 (by decide) ?_
      cases h
      rw [hQ]
      exact x_iret hC hr hW d_Model_right_35
  · have h := it_e c_2 h
    refine lv_iconst (v := (-1 : Int32)) hx hb d_Model_right_8 (by decide) ?_
    cases h
    rw [hQ]
    exact x_iret hC hr hW d_Model_right_9

def L_Model_flagsBut_12 (x1 : Int32) (v_t_drawMany : Int32) (v_t_due : Int32) (v_t_ticketMany : Int32) (v_t_draws : Nat → Int32) (v_t_tickets : Nat → Int32) : Nat → Int32 → Int64 → Int64 → Option (Int32 × Int64 × Int64)
  | 0, _, _, _ => none
  | n + 1, x2, v_t_high, v_t_low => if v_t_ticketMany ≤ x2 then some (x2, v_t_high, v_t_low) else if x2 = x1 then L_Model_flagsBut_12 x1 v_t_drawMany v_t_due v_t_ticketMany v_t_draws v_t_tickets n (x2 + (1 : Int32)) v_t_high v_t_low else gd x2 6 (bk1 (f_Model_lowOf v_t_drawMany v_t_due v_t_draws (v_t_tickets x2.toNatClampNeg)) fun r_4 => gd x2 6 (bk1 (f_Model_highOf v_t_drawMany v_t_due v_t_draws (v_t_tickets x2.toNatClampNeg)) fun r_6 => L_Model_flagsBut_12 x1 v_t_drawMany v_t_due v_t_ticketMany v_t_draws v_t_tickets n (x2 + (1 : Int32)) (v_t_high ||| r_6) (v_t_low ||| r_4)))
def f_Model_flagsBut (v_t_drawMany : Int32) (v_t_due : Int32) (v_t_ticketMany : Int32) (v_t_draws : Nat → Int32) (v_t_tickets : Nat → Int32) (p0 : Int32) : Option (Int64 × Int64) :=
  bk3 (L_Model_flagsBut_12 p0 v_t_drawMany v_t_due v_t_ticketMany v_t_draws v_t_tickets 300 (0 : Int32) (0 : Int64) (0 : Int64)) fun yx2_7 y_t_high_7 y_t_low_7 => some (y_t_high_7, y_t_low_7)
set_option maxHeartbeats 4000000 in
set_option maxRecDepth 100000 in
theorem c_Model_flagsBut (l : Launch) (D : va_G) (I J Z : ClassId) (a_t : Nat) (a_t_draws : Nat) (a_t_tickets : Nat) (a_t_prizes : Nat) (a_t_sightTicket : Nat) (a_t_sightRight : Nat) (a_t_sightHow : Nat) (a_t_sets : Nat) (a_t_winsLow : Nat) (a_t_winsHigh : Nat) (a_t_pad : Nat) (a_t_could : Nat) (a_t_row : Nat) (a_t_best : Nat) (a_t_kept : Nat) (a_t_isKept : Nat)  (v_t_numbers : Int32) (v_t_onTicket : Int32) (v_t_drawn : Int32) (v_t_due : Int32) (v_t_ticketMany : Int32) (v_t_fond : Int32) (v_t_sights : Int32) (v_t_drawMany : Int32) (v_t_setMany : Int32) (v_t_padMany : Int32) (v_t_low : Int64) (v_t_high : Int64) (v_t_couldMany : Int32) (v_t_keptAt : Int32) (v_t_isWriting : Int32) (v_t_draws : Nat → Int32) (v_t_tickets : Nat → Int32) (p0 : Int32) (out : (Int64 × Int64)) (h : f_Model_flagsBut v_t_drawMany v_t_due v_t_ticketMany v_t_draws v_t_tickets p0 = some out) : CT l D I J Z y_Model_flagsBut b_Model_flagsBut 3 none 4 [.ref a_t, .int p0] [(a_t, .inr (10, [.int v_t_numbers, .int v_t_onTicket, .int v_t_drawn, .int v_t_due, .ref a_t_tickets, .int v_t_ticketMany, .int v_t_fond, .ref a_t_prizes, .ref a_t_sightTicket, .ref a_t_sightRight, .ref a_t_sightHow, .int v_t_sights, .ref a_t_draws, .int v_t_drawMany, .ref a_t_sets, .int v_t_setMany, .ref a_t_winsLow, .ref a_t_winsHigh, .ref a_t_pad, .int v_t_padMany, .long v_t_low, .long v_t_high, .ref a_t_could, .int v_t_couldMany, .ref a_t_row, .ref a_t_best, .ref a_t_kept, .ref a_t_isKept, .int v_t_keptAt, .int v_t_isWriting])), (a_t_draws, .inl (I, 70, .inl v_t_draws)), (a_t_tickets, .inl (I, 6, .inl v_t_tickets))] (PoV D [(a_t, .inr (10, [.int v_t_numbers, .int v_t_onTicket, .int v_t_drawn, .int v_t_due, .ref a_t_tickets, .int v_t_ticketMany, .int v_t_fond, .ref a_t_prizes, .ref a_t_sightTicket, .ref a_t_sightRight, .ref a_t_sightHow, .int v_t_sights, .ref a_t_draws, .int v_t_drawMany, .ref a_t_sets, .int v_t_setMany, .ref a_t_winsLow, .ref a_t_winsHigh, .ref a_t_pad, .int v_t_padMany, .long out.2, .long out.1, .ref a_t_could, .int v_t_couldMany, .ref a_t_row, .ref a_t_best, .ref a_t_kept, .ref a_t_isKept, .int v_t_keptAt, .int v_t_isWriting])), (a_t_draws, .inl (I, 70, .inl v_t_draws)), (a_t_tickets, .inl (I, 6, .inl v_t_tickets))]) := by
  unfold f_Model_flagsBut at h
  refine CT_of R_Model (by decide +kernel) rfl (Nat.le_of_ble_eq_true rfl) ?_
  intro p e R s m args below meth c A ls Q hR1 hR2 hQ hC hr hW hA hl
  have hx := hC.1
  have hb := hC.2.1
  have hl : lv_has ls 3 [(0, .ref a_t), (1, .int p0)] := hl
  have lp12 : ∀ (n : Nat) (x1 : Int32) (x2 : Int32) (v_t_high : Int64) (v_t_low : Int64) (yx2 : Int32) (y_t_high : Int64) (y_t_low : Int64), L_Model_flagsBut_12 x1 v_t_drawMany v_t_due v_t_ticketMany v_t_draws v_t_tickets n x2 v_t_high v_t_low = some (yx2, y_t_high, y_t_low) →
    (∀ H locs, Wd D A s.heap [(a_t, .inr (10, [.int v_t_numbers, .int v_t_onTicket, .int v_t_drawn, .int v_t_due, .ref a_t_tickets, .int v_t_ticketMany, .int v_t_fond, .ref a_t_prizes, .ref a_t_sightTicket, .ref a_t_sightRight, .ref a_t_sightHow, .int v_t_sights, .ref a_t_draws, .int v_t_drawMany, .ref a_t_sets, .int v_t_setMany, .ref a_t_winsLow, .ref a_t_winsHigh, .ref a_t_pad, .int v_t_padMany, .long y_t_low, .long y_t_high, .ref a_t_could, .int v_t_couldMany, .ref a_t_row, .ref a_t_best, .ref a_t_kept, .ref a_t_isKept, .int v_t_keptAt, .int v_t_isWriting])), (a_t_draws, .inl (I, 70, .inl v_t_draws)), (a_t_tickets, .inl (I, 6, .inl v_t_tickets))] H locs → ∀ ls, lv_has ls 3 [(0, .ref a_t), (1, .int x1), (2, .int yx2)] → W p l e R s m args below meth c H locs 0 0 Q (F0 m 69 ls [])) →
    ∀ H locs, Wd D A s.heap [(a_t, .inr (10, [.int v_t_numbers, .int v_t_onTicket, .int v_t_drawn, .int v_t_due, .ref a_t_tickets, .int v_t_ticketMany, .int v_t_fond, .ref a_t_prizes, .ref a_t_sightTicket, .ref a_t_sightRight, .ref a_t_sightHow, .int v_t_sights, .ref a_t_draws, .int v_t_drawMany, .ref a_t_sets, .int v_t_setMany, .ref a_t_winsLow, .ref a_t_winsHigh, .ref a_t_pad, .int v_t_padMany, .long v_t_low, .long v_t_high, .ref a_t_could, .int v_t_couldMany, .ref a_t_row, .ref a_t_best, .ref a_t_kept, .ref a_t_isKept, .int v_t_keptAt, .int v_t_isWriting])), (a_t_draws, .inl (I, 70, .inl v_t_draws)), (a_t_tickets, .inl (I, 6, .inl v_t_tickets))] H locs → ∀ ls, lv_has ls 3 [(0, .ref a_t), (1, .int x1), (2, .int x2)] → W p l e R s m args below meth c H locs 0 0 Q (F0 m 12 ls []) := by
    intro n
    induction n with
    | zero =>
      intro x1 x2 v_t_high v_t_low yx2 y_t_high y_t_low h
      exact no_e h
    | succ n ih =>
      intro x1 x2 v_t_high v_t_low yx2 y_t_high y_t_low h K H locs hW ls hl
      rw [L_Model_flagsBut_12] at h
      refine lv_iload_n hx hb d_Model_flagsBut_12 rfl (lv_at hl 2 rfl) ?_
      refine lv_aload_n hx hb d_Model_flagsBut_13 rfl (lv_at hl 0 rfl) ?_
      refine x_get hC hW 0 rfl fl_Model_74 rfl d_Model_flagsBut_14 ?_
      refine lv_icmp_ge (tgt := 69) hx hb d_Model_flagsBut_17 (by decide) (fun c_1 => ?_) (fun c_1 => ?_)
      · have h := it_e c_1 h
        cases h
        exact K _ _ hW ls (lv_sub hl [0, 1, 2] rfl)
      · have h := ie_e c_1 h
        refine lv_iload_n hx hb d_Model_flagsBut_20 rfl (lv_at hl 2 rfl) ?_
        refine lv_iload_n hx hb d_Model_flagsBut_21 rfl (lv_at hl 1 rfl) ?_
        refine lv_icmp_eq (tgt := 63) hx hb d_Model_flagsBut_22 (by decide) (fun c_2 => ?_) (fun c_2 => ?_)
        · have h := it_e c_2 h
          refine lv_iinc (v := (x2 + (1 : Int32))) (lv' := [(2, .int (x2 + (1 : Int32))), (0, .ref a_t), (1, .int x1)]) hx hb d_Model_flagsBut_63 hl (k := 2) rfl (iinc_e (by decide)) (by decide) rfl (fun ls hl => ?_)
          refine lv_goto (tgt := 12) hx hb d_Model_flagsBut_66 (by decide) ?_
          exact ih x1 (x2 + (1 : Int32)) v_t_high v_t_low _ _ _ h K _ _ hW ls (lv_sub hl [1, 2, 0] rfl)
        · have h := ie_e c_2 h
          refine lv_aload_n hx hb d_Model_flagsBut_25 rfl (lv_at hl 0 rfl) ?_
          refine lv_dup hx hb d_Model_flagsBut_26 rfl ?_
          refine x_get hC hW 0 rfl fl_Model_135 rfl d_Model_flagsBut_27 ?_
          refine lv_aload_n hx hb d_Model_flagsBut_30 rfl (lv_at hl 0 rfl) ?_
          refine lv_aload_n hx hb d_Model_flagsBut_31 rfl (lv_at hl 0 rfl) ?_
          refine x_get hC hW 0 rfl fl_Model_7 rfl d_Model_flagsBut_32 ?_
          refine lv_iload_n hx hb d_Model_flagsBut_35 rfl (lv_at hl 2 rfl) ?_
          obtain ⟨hi_3, h⟩ := gd_e h
          refine x_iald hC hW 2 rfl hi_3 d_Model_flagsBut_36 ?_
          obtain ⟨r_4, hc_4, h⟩ := bk1_e h
          refine x_cl (ws' := [(a_t, .inr (10, [.int v_t_numbers, .int v_t_onTicket, .int v_t_drawn, .int v_t_due, .ref a_t_tickets, .int v_t_ticketMany, .int v_t_fond, .ref a_t_prizes, .ref a_t_sightTicket, .ref a_t_sightRight, .ref a_t_sightHow, .int v_t_sights, .ref a_t_draws, .int v_t_drawMany, .ref a_t_sets, .int v_t_setMany, .ref a_t_winsLow, .ref a_t_winsHigh, .ref a_t_pad, .int v_t_padMany, .long v_t_low, .long v_t_high, .ref a_t_could, .int v_t_couldMany, .ref a_t_row, .ref a_t_best, .ref a_t_kept, .ref a_t_isKept, .int v_t_keptAt, .int v_t_isWriting])), (a_t_draws, .inl (I, 70, .inl v_t_draws)), (a_t_tickets, .inl (I, 6, .inl v_t_tickets))]) (x_runV (As := [.int (v_t_tickets x2.toNatClampNeg)]) (rest := [.long v_t_low, .ref a_t]) hC hW (c_Model_lowOf l D I J Z a_t a_t_draws a_t_tickets a_t_prizes a_t_sightTicket a_t_sightRight a_t_sightHow a_t_sets a_t_winsLow a_t_winsHigh a_t_pad a_t_could a_t_row a_t_best a_t_kept a_t_isKept v_t_numbers v_t_onTicket v_t_drawn v_t_due v_t_ticketMany v_t_fond v_t_sights v_t_drawMany v_t_setMany v_t_padMany v_t_low v_t_high v_t_couldMany v_t_keptAt v_t_isWriting v_t_draws (v_t_tickets x2.toNatClampNeg) (r_4) hc_4) cl_Model_96 q_code_Model_lowOf [0, 1] rfl (by decide) 0 rfl rfl rfl rfl hl.1 (Nat.le_of_ble_eq_true rfl) (rm_ok hR1 hR2 (by decide) (by decide)) ⟨Nat.zero_le _, Nat.zero_le _⟩ d_Model_flagsBut_37) hW hA [0, 1] rfl rfl (ps := [some 0, some 1, none]) (by decide +kernel) ⟨rfl, rfl, rfl, trivial⟩ (fun H locs hW => ?_)
          refine lv_lor hx hb d_Model_flagsBut_40 ?_
          refine x_put (ws' := [(a_t, .inr (10, [.int v_t_numbers, .int v_t_onTicket, .int v_t_drawn, .int v_t_due, .ref a_t_tickets, .int v_t_ticketMany, .int v_t_fond, .ref a_t_prizes, .ref a_t_sightTicket, .ref a_t_sightRight, .ref a_t_sightHow, .int v_t_sights, .ref a_t_draws, .int v_t_drawMany, .ref a_t_sets, .int v_t_setMany, .ref a_t_winsLow, .ref a_t_winsHigh, .ref a_t_pad, .int v_t_padMany, .long (v_t_low ||| r_4), .long v_t_high, .ref a_t_could, .int v_t_couldMany, .ref a_t_row, .ref a_t_best, .ref a_t_kept, .ref a_t_isKept, .int v_t_keptAt, .int v_t_isWriting])), (a_t_draws, .inl (I, 70, .inl v_t_draws)), (a_t_tickets, .inl (I, 6, .inl v_t_tickets))]) hC hW 0 rfl fp_Model_135 rfl rfl (Nat.le_of_ble_eq_true rfl) d_Model_flagsBut_41 rfl (fun H locs hW => ?_)
          refine lv_aload_n hx hb d_Model_flagsBut_44 rfl (lv_at hl 0 rfl) ?_
          refine lv_dup hx hb d_Model_flagsBut_45 rfl ?_
          refine x_get hC hW 0 rfl fl_Model_139 rfl d_Model_flagsBut_46 ?_
          refine lv_aload_n hx hb d_Model_flagsBut_49 rfl (lv_at hl 0 rfl) ?_
          refine lv_aload_n hx hb d_Model_flagsBut_50 rfl (lv_at hl 0 rfl) ?_
          refine x_get hC hW 0 rfl fl_Model_7 rfl d_Model_flagsBut_51 ?_
          refine lv_iload_n hx hb d_Model_flagsBut_54 rfl (lv_at hl 2 rfl) ?_
          obtain ⟨hi_5, h⟩ := gd_e h
          refine x_iald hC hW 2 rfl hi_5 d_Model_flagsBut_55 ?_
          obtain ⟨r_6, hc_6, h⟩ := bk1_e h
          refine x_cl (ws' := [(a_t, .inr (10, [.int v_t_numbers, .int v_t_onTicket, .int v_t_drawn, .int v_t_due, .ref a_t_tickets, .int v_t_ticketMany, .int v_t_fond, .ref a_t_prizes, .ref a_t_sightTicket, .ref a_t_sightRight, .ref a_t_sightHow, .int v_t_sights, .ref a_t_draws, .int v_t_drawMany, .ref a_t_sets, .int v_t_setMany, .ref a_t_winsLow, .ref a_t_winsHigh, .ref a_t_pad, .int v_t_padMany, .long (v_t_low ||| r_4), .long v_t_high, .ref a_t_could, .int v_t_couldMany, .ref a_t_row, .ref a_t_best, .ref a_t_kept, .ref a_t_isKept, .int v_t_keptAt, .int v_t_isWriting])), (a_t_draws, .inl (I, 70, .inl v_t_draws)), (a_t_tickets, .inl (I, 6, .inl v_t_tickets))]) (x_runV (As := [.int (v_t_tickets x2.toNatClampNeg)]) (rest := [.long v_t_high, .ref a_t]) hC hW (c_Model_highOf l D I J Z a_t a_t_draws a_t_tickets a_t_prizes a_t_sightTicket a_t_sightRight a_t_sightHow a_t_sets a_t_winsLow a_t_winsHigh a_t_pad a_t_could a_t_row a_t_best a_t_kept a_t_isKept v_t_numbers v_t_onTicket v_t_drawn v_t_due v_t_ticketMany v_t_fond v_t_sights v_t_drawMany v_t_setMany v_t_padMany (v_t_low ||| r_4) v_t_high v_t_couldMany v_t_keptAt v_t_isWriting v_t_draws (v_t_tickets x2.toNatClampNeg) (r_6) hc_6) cl_Model_100 q_code_Model_highOf [0, 1] rfl (by decide) 0 rfl rfl rfl rfl hl.1 (Nat.le_of_ble_eq_true rfl) (rm_ok hR1 hR2 (by decide) (by decide)) ⟨Nat.zero_le _, Nat.zero_le _⟩ d_Model_flagsBut_56) hW hA [0, 1] rfl rfl (ps := [some 0, some 1, none]) (by decide +kernel) ⟨rfl, rfl, rfl, trivial⟩ (fun H locs hW => ?_)
          refine lv_lor hx hb d_Model_flagsBut_59 ?_
          refine x_put (ws' := [(a_t, .inr (10, [.int v_t_numbers, .int v_t_onTicket, .int v_t_drawn, .int v_t_due, .ref a_t_tickets, .int v_t_ticketMany, .int v_t_fond, .ref a_t_prizes, .ref a_t_sightTicket, .ref a_t_sightRight, .ref a_t_sightHow, .int v_t_sights, .ref a_t_draws, .int v_t_drawMany, .ref a_t_sets, .int v_t_setMany, .ref a_t_winsLow, .ref a_t_winsHigh, .ref a_t_pad, .int v_t_padMany, .long (v_t_low ||| r_4), .long (v_t_high ||| r_6), .ref a_t_could, .int v_t_couldMany, .ref a_t_row, .ref a_t_best, .ref a_t_kept, .ref a_t_isKept, .int v_t_keptAt, .int v_t_isWriting])), (a_t_draws, .inl (I, 70, .inl v_t_draws)), (a_t_tickets, .inl (I, 6, .inl v_t_tickets))]) hC hW 0 rfl fp_Model_139 rfl rfl (Nat.le_of_ble_eq_true rfl) d_Model_flagsBut_60 rfl (fun H locs hW => ?_)
          refine lv_iinc (v := (x2 + (1 : Int32))) (lv' := [(2, .int (x2 + (1 : Int32))), (0, .ref a_t), (1, .int x1)]) hx hb d_Model_flagsBut_63 hl (k := 2) rfl (iinc_e (by decide)) (by decide) rfl (fun ls hl => ?_)
          refine lv_goto (tgt := 12) hx hb d_Model_flagsBut_66 (by decide) ?_
          exact ih x1 (x2 + (1 : Int32)) (v_t_high ||| r_6) (v_t_low ||| r_4) _ _ _ h K _ _ hW ls (lv_sub hl [1, 2, 0] rfl)
  refine lv_aload_n hx hb d_Model_flagsBut_0 rfl (lv_at hl 0 rfl) ?_
  refine lv_lconst (v := (0 : Int64)) hx hb d_Model_flagsBut_1 (by decide) ?_
  refine x_put (ws' := [(a_t, .inr (10, [.int v_t_numbers, .int v_t_onTicket, .int v_t_drawn, .int v_t_due, .ref a_t_tickets, .int v_t_ticketMany, .int v_t_fond, .ref a_t_prizes, .ref a_t_sightTicket, .ref a_t_sightRight, .ref a_t_sightHow, .int v_t_sights, .ref a_t_draws, .int v_t_drawMany, .ref a_t_sets, .int v_t_setMany, .ref a_t_winsLow, .ref a_t_winsHigh, .ref a_t_pad, .int v_t_padMany, .long (0 : Int64), .long v_t_high, .ref a_t_could, .int v_t_couldMany, .ref a_t_row, .ref a_t_best, .ref a_t_kept, .ref a_t_isKept, .int v_t_keptAt, .int v_t_isWriting])), (a_t_draws, .inl (I, 70, .inl v_t_draws)), (a_t_tickets, .inl (I, 6, .inl v_t_tickets))]) hC hW 0 rfl fp_Model_135 rfl rfl (Nat.le_of_ble_eq_true rfl) d_Model_flagsBut_2 rfl (fun H locs hW => ?_)
  refine lv_aload_n hx hb d_Model_flagsBut_5 rfl (lv_at hl 0 rfl) ?_
  refine lv_lconst (v := (0 : Int64)) hx hb d_Model_flagsBut_6 (by decide) ?_
  refine x_put (ws' := [(a_t, .inr (10, [.int v_t_numbers, .int v_t_onTicket, .int v_t_drawn, .int v_t_due, .ref a_t_tickets, .int v_t_ticketMany, .int v_t_fond, .ref a_t_prizes, .ref a_t_sightTicket, .ref a_t_sightRight, .ref a_t_sightHow, .int v_t_sights, .ref a_t_draws, .int v_t_drawMany, .ref a_t_sets, .int v_t_setMany, .ref a_t_winsLow, .ref a_t_winsHigh, .ref a_t_pad, .int v_t_padMany, .long (0 : Int64), .long (0 : Int64), .ref a_t_could, .int v_t_couldMany, .ref a_t_row, .ref a_t_best, .ref a_t_kept, .ref a_t_isKept, .int v_t_keptAt, .int v_t_isWriting])), (a_t_draws, .inl (I, 70, .inl v_t_draws)), (a_t_tickets, .inl (I, 6, .inl v_t_tickets))]) hC hW 0 rfl fp_Model_139 rfl rfl (Nat.le_of_ble_eq_true rfl) d_Model_flagsBut_7 rfl (fun H locs hW => ?_)
  refine lv_iconst (v := (0 : Int32)) hx hb d_Model_flagsBut_10 (by decide) ?_
  refine lv_istore_n (lv' := [(2, .int (0 : Int32)), (0, .ref a_t), (1, .int p0)]) hx hb d_Model_flagsBut_11 rfl hl (by decide) rfl (fun ls hl => ?_)
  obtain ⟨yx2_7, y_t_high_7, y_t_low_7, hv_7, h⟩ := bk3_e h
  refine lp12 _ p0 (0 : Int32) (0 : Int64) (0 : Int64) yx2_7 y_t_high_7 y_t_low_7 hv_7 (fun H locs hW ls hl => ?_) _ _ hW ls (lv_sub hl [1, 2, 0] rfl)
  cases h
  rw [hQ]
  exact x_vret hC hr hW d_Model_flagsBut_69

def L_Model_leastMissed_2 (v_t_drawMany : Int32) (v_t_high : Int64) (v_t_low : Int64) (v_t_draws : Nat → Int32) : Nat → Int32 → Option (Except (Int32) (Int32))
  | 0, _ => none
  | n + 1, x1 => if v_t_drawMany ≤ x1 then some (.ok (x1)) else if (64 : Int32) ≤ x1 then if (lg_cmp ((v_t_high >>> ((x1 - (64 : Int32)).toInt64 &&& 63)) &&& (1 : Int64)) (0 : Int64)) = (0 : Int32) then gd x1 70 (some (.error ((v_t_draws x1.toNatClampNeg)))) else L_Model_leastMissed_2 v_t_drawMany v_t_high v_t_low v_t_draws n (x1 + (1 : Int32)) else if (lg_cmp ((v_t_low >>> (x1.toInt64 &&& 63)) &&& (1 : Int64)) (0 : Int64)) = (0 : Int32) then gd x1 70 (some (.error ((v_t_draws x1.toNatClampNeg)))) else L_Model_leastMissed_2 v_t_drawMany v_t_high v_t_low v_t_draws n (x1 + (1 : Int32))
def f_Model_leastMissed (v_t_drawMany : Int32) (v_t_high : Int64) (v_t_low : Int64) (v_t_draws : Nat → Int32) : Option (Int32) :=
  lm1 (L_Model_leastMissed_2 v_t_drawMany v_t_high v_t_low v_t_draws 300 (0 : Int32)) fun yx1_7 => some ((-6 : Int32))
set_option maxHeartbeats 4000000 in
set_option maxRecDepth 100000 in
theorem c_Model_leastMissed (l : Launch) (D : va_G) (I J Z : ClassId) (a_t : Nat) (a_t_draws : Nat) (a_t_tickets : Nat) (a_t_prizes : Nat) (a_t_sightTicket : Nat) (a_t_sightRight : Nat) (a_t_sightHow : Nat) (a_t_sets : Nat) (a_t_winsLow : Nat) (a_t_winsHigh : Nat) (a_t_pad : Nat) (a_t_could : Nat) (a_t_row : Nat) (a_t_best : Nat) (a_t_kept : Nat) (a_t_isKept : Nat)  (v_t_numbers : Int32) (v_t_onTicket : Int32) (v_t_drawn : Int32) (v_t_due : Int32) (v_t_ticketMany : Int32) (v_t_fond : Int32) (v_t_sights : Int32) (v_t_drawMany : Int32) (v_t_setMany : Int32) (v_t_padMany : Int32) (v_t_low : Int64) (v_t_high : Int64) (v_t_couldMany : Int32) (v_t_keptAt : Int32) (v_t_isWriting : Int32) (v_t_draws : Nat → Int32)  (out : (Int32)) (h : f_Model_leastMissed v_t_drawMany v_t_high v_t_low v_t_draws = some out) : CT l D I J Z y_Model_leastMissed b_Model_leastMissed 4 (some .int) 1 [.ref a_t] [(a_t, .inr (10, [.int v_t_numbers, .int v_t_onTicket, .int v_t_drawn, .int v_t_due, .ref a_t_tickets, .int v_t_ticketMany, .int v_t_fond, .ref a_t_prizes, .ref a_t_sightTicket, .ref a_t_sightRight, .ref a_t_sightHow, .int v_t_sights, .ref a_t_draws, .int v_t_drawMany, .ref a_t_sets, .int v_t_setMany, .ref a_t_winsLow, .ref a_t_winsHigh, .ref a_t_pad, .int v_t_padMany, .long v_t_low, .long v_t_high, .ref a_t_could, .int v_t_couldMany, .ref a_t_row, .ref a_t_best, .ref a_t_kept, .ref a_t_isKept, .int v_t_keptAt, .int v_t_isWriting])), (a_t_draws, .inl (I, 70, .inl v_t_draws))] (PoI out D [(a_t, .inr (10, [.int v_t_numbers, .int v_t_onTicket, .int v_t_drawn, .int v_t_due, .ref a_t_tickets, .int v_t_ticketMany, .int v_t_fond, .ref a_t_prizes, .ref a_t_sightTicket, .ref a_t_sightRight, .ref a_t_sightHow, .int v_t_sights, .ref a_t_draws, .int v_t_drawMany, .ref a_t_sets, .int v_t_setMany, .ref a_t_winsLow, .ref a_t_winsHigh, .ref a_t_pad, .int v_t_padMany, .long v_t_low, .long v_t_high, .ref a_t_could, .int v_t_couldMany, .ref a_t_row, .ref a_t_best, .ref a_t_kept, .ref a_t_isKept, .int v_t_keptAt, .int v_t_isWriting])), (a_t_draws, .inl (I, 70, .inl v_t_draws))]) := by
  unfold f_Model_leastMissed at h
  refine CT_of R_Model (by decide +kernel) rfl (Nat.le_of_ble_eq_true rfl) ?_
  intro p e R s m args below meth c A ls Q hR1 hR2 hQ hC hr hW hA hl
  have hx := hC.1
  have hb := hC.2.1
  have hl : lv_has ls 4 [(0, .ref a_t)] := hl
  have lp2 : ∀ (n : Nat) (x1 : Int32) (res : Except (Int32) (Int32)), L_Model_leastMissed_2 v_t_drawMany v_t_high v_t_low v_t_draws n x1 = some res → (∀ r, res = .error r → r = out) →
    (∀ (yx1 : Int32), res = .ok (yx1) → ∀ H locs, Wd D A s.heap [(a_t, .inr (10, [.int v_t_numbers, .int v_t_onTicket, .int v_t_drawn, .int v_t_due, .ref a_t_tickets, .int v_t_ticketMany, .int v_t_fond, .ref a_t_prizes, .ref a_t_sightTicket, .ref a_t_sightRight, .ref a_t_sightHow, .int v_t_sights, .ref a_t_draws, .int v_t_drawMany, .ref a_t_sets, .int v_t_setMany, .ref a_t_winsLow, .ref a_t_winsHigh, .ref a_t_pad, .int v_t_padMany, .long v_t_low, .long v_t_high, .ref a_t_could, .int v_t_couldMany, .ref a_t_row, .ref a_t_best, .ref a_t_kept, .ref a_t_isKept, .int v_t_keptAt, .int v_t_isWriting])), (a_t_draws, .inl (I, 70, .inl v_t_draws))] H locs → ∀ ls, lv_has ls 4 [(0, .ref a_t), (1, .int yx1)] → W p l e R s m args below meth c H locs 0 0 Q (F0 m 58 ls [])) →
    ∀ H locs, Wd D A s.heap [(a_t, .inr (10, [.int v_t_numbers, .int v_t_onTicket, .int v_t_drawn, .int v_t_due, .ref a_t_tickets, .int v_t_ticketMany, .int v_t_fond, .ref a_t_prizes, .ref a_t_sightTicket, .ref a_t_sightRight, .ref a_t_sightHow, .int v_t_sights, .ref a_t_draws, .int v_t_drawMany, .ref a_t_sets, .int v_t_setMany, .ref a_t_winsLow, .ref a_t_winsHigh, .ref a_t_pad, .int v_t_padMany, .long v_t_low, .long v_t_high, .ref a_t_could, .int v_t_couldMany, .ref a_t_row, .ref a_t_best, .ref a_t_kept, .ref a_t_isKept, .int v_t_keptAt, .int v_t_isWriting])), (a_t_draws, .inl (I, 70, .inl v_t_draws))] H locs → ∀ ls, lv_has ls 4 [(0, .ref a_t), (1, .int x1)] → W p l e R s m args below meth c H locs 0 0 Q (F0 m 2 ls []) := by
    intro n
    induction n with
    | zero =>
      intro x1 res h
      exact no_e h
    | succ n ih =>
      intro x1 res h hret K H locs hW ls hl
      rw [L_Model_leastMissed_2] at h
      refine lv_iload_n hx hb d_Model_leastMissed_2 rfl (lv_at hl 1 rfl) ?_
      refine lv_aload_n hx hb d_Model_leastMissed_3 rfl (lv_at hl 0 rfl) ?_
      refine x_get hC hW 0 rfl fl_Model_86 rfl d_Model_leastMissed_4 ?_
      refine lv_icmp_ge (tgt := 58) hx hb d_Model_leastMissed_7 (by decide) (fun c_1 => ?_) (fun c_1 => ?_)
      · have h := it_e c_1 h
        cases h
        exact K _ rfl _ _ hW ls (lv_sub hl [0, 1] rfl)
      · have h := ie_e c_1 h
        refine lv_iload_n hx hb d_Model_leastMissed_10 rfl (lv_at hl 1 rfl) ?_
        refine lv_bipush (v := (64 : Int32)) hx hb d_Model_leastMissed_11 (by decide) ?_
        refine lv_icmp_ge (tgt := 27) hx hb d_Model_leastMissed_13 (by decide) (fun c_2 => ?_) (fun c_2 => ?_)
        · have h := it_e c_2 h
          refine lv_aload_n hx hb d_Model_leastMissed_27 rfl (lv_at hl 0 rfl) ?_
          refine x_get hC hW 0 rfl fl_Model_139 rfl d_Model_leastMissed_28 ?_
          refine lv_iload_n hx hb d_Model_leastMissed_31 rfl (lv_at hl 1 rfl) ?_
          refine lv_bipush (v := (64 : Int32)) hx hb d_Model_leastMissed_32 (by decide) ?_
          refine lv_isub hx hb d_Model_leastMissed_34 ?_
          refine lv_lshr hx hb d_Model_leastMissed_35 rfl ?_
          refine lv_lconst (v := (1 : Int64)) hx hb d_Model_leastMissed_36 (by decide) ?_
          refine lv_land hx hb d_Model_leastMissed_37 ?_
          refine lv_lstore_n (lv' := [(2, .long ((v_t_high >>> ((x1 - (64 : Int32)).toInt64 &&& 63)) &&& (1 : Int64))), (0, .ref a_t), (1, .int x1)]) hx hb d_Model_leastMissed_38 rfl hl (by decide) rfl (fun ls hl => ?_)
          refine lv_lload_n hx hb d_Model_leastMissed_39 rfl (lv_at hl 0 rfl) ?_
          refine lv_lconst (v := (0 : Int64)) hx hb d_Model_leastMissed_40 (by decide) ?_
          refine W.lcmp hx hb d_Model_leastMissed_41 ?_
          refine lv_if_ne (tgt := 52) hx hb d_Model_leastMissed_42 (by decide) (fun c_3 => ?_) (fun c_3 => ?_)
          · have h := ie_e c_3 h
            refine lv_iinc (v := (x1 + (1 : Int32))) (lv' := [(1, .int (x1 + (1 : Int32))), (2, .long ((v_t_high >>> ((x1 - (64 : Int32)).toInt64 &&& 63)) &&& (1 : Int64))), (0, .ref a_t)]) hx hb d_Model_leastMissed_52 hl (k := 2) rfl (iinc_e (by decide)) (by decide) rfl (fun ls hl => ?_)
            refine lv_goto (tgt := 2) hx hb d_Model_leastMissed_55 (by decide) ?_
            exact ih (x1 + (1 : Int32)) _ h hret K _ _ hW ls (lv_sub hl [2, 0] rfl)
          · have h := it_e c_3 h
            refine lv_aload_n hx hb d_Model_leastMissed_45 rfl (lv_at hl 1 rfl) ?_
            refine x_get hC hW 0 rfl fl_Model_25 rfl d_Model_leastMissed_46 ?_
            refine lv_iload_n hx hb d_Model_leastMissed_49 rfl (lv_at hl 2 rfl) ?_
            obtain ⟨hi_4, h⟩ := gd_e h
            refine x_iald hC hW 1 rfl hi_4 d_Model_leastMissed_50 ?_
            cases h
            cases hret _ rfl
            rw [hQ]
            exact x_iret hC hr hW d_Model_leastMissed_51
        · have h := ie_e c_2 h
          refine lv_aload_n hx hb d_Model_leastMissed_16 rfl (lv_at hl 0 rfl) ?_
          refine x_get hC hW 0 rfl fl_Model_135 rfl d_Model_leastMissed_17 ?_
          refine lv_iload_n hx hb d_Model_leastMissed_20 rfl (lv_at hl 1 rfl) ?_
          refine lv_lshr hx hb d_Model_leastMissed_21 rfl ?_
          refine lv_lconst (v := (1 : Int64)) hx hb d_Model_leastMissed_22 (by decide) ?_
          refine lv_land hx hb d_Model_leastMissed_23 ?_
          refine lv_goto (tgt := 38) hx hb d_Model_leastMissed_24 (by decide) ?_
          refine lv_lstore_n (lv' := [(2, .long ((v_t_low >>> (x1.toInt64 &&& 63)) &&& (1 : Int64))), (0, .ref a_t), (1, .int x1)]) hx hb d_Model_leastMissed_38 rfl hl (by decide) rfl (fun ls hl => ?_)
          refine lv_lload_n hx hb d_Model_leastMissed_39 rfl (lv_at hl 0 rfl) ?_
          refine lv_lconst (v := (0 : Int64)) hx hb d_Model_leastMissed_40 (by decide) ?_
          refine W.lcmp hx hb d_Model_leastMissed_41 ?_
          refine lv_if_ne (tgt := 52) hx hb d_Model_leastMissed_42 (by decide) (fun c_5 => ?_) (fun c_5 => ?_)
          · have h := ie_e c_5 h
            refine lv_iinc (v := (x1 + (1 : Int32))) (lv' := [(1, .int (x1 + (1 : Int32))), (2, .long ((v_t_low >>> (x1.toInt64 &&& 63)) &&& (1 : Int64))), (0, .ref a_t)]) hx hb d_Model_leastMissed_52 hl (k := 2) rfl (iinc_e (by decide)) (by decide) rfl (fun ls hl => ?_)
            refine lv_goto (tgt := 2) hx hb d_Model_leastMissed_55 (by decide) ?_
            exact ih (x1 + (1 : Int32)) _ h hret K _ _ hW ls (lv_sub hl [2, 0] rfl)
          · have h := it_e c_5 h
            refine lv_aload_n hx hb d_Model_leastMissed_45 rfl (lv_at hl 1 rfl) ?_
            refine x_get hC hW 0 rfl fl_Model_25 rfl d_Model_leastMissed_46 ?_
            refine lv_iload_n hx hb d_Model_leastMissed_49 rfl (lv_at hl 2 rfl) ?_
            obtain ⟨hi_6, h⟩ := gd_e h
            refine x_iald hC hW 1 rfl hi_6 d_Model_leastMissed_50 ?_
            cases h
            cases hret _ rfl
            rw [hQ]
            exact x_iret hC hr hW d_Model_leastMissed_51
  refine lv_iconst (v := (0 : Int32)) hx hb d_Model_leastMissed_0 (by decide) ?_
  refine lv_istore_n (lv' := [(1, .int (0 : Int32)), (0, .ref a_t)]) hx hb d_Model_leastMissed_1 rfl hl (by decide) rfl (fun ls hl => ?_)
  obtain ⟨res_7, hv_7, he_7, hk_7⟩ := lm1_e h
  refine lp2 _ (0 : Int32) res_7 hv_7 he_7 (fun yx1_7 hs_7 H locs hW ls hl => ?_) _ _ hW ls (lv_sub hl [1, 0] rfl)
  have h := hk_7 yx1_7 hs_7
  refine lv_bipush (v := (-6 : Int32)) hx hb d_Model_leastMissed_58 (by decide) ?_
  cases h
  rw [hQ]
  exact x_iret hC hr hW d_Model_leastMissed_60

def f_Model_flagged (v_t_high : Int64) (v_t_low : Int64) : Option (Int32) :=
  bk1 (f_Model_ones v_t_low) fun r_1 => bk1 (f_Model_ones v_t_high) fun r_2 => some ((r_1 + r_2))
set_option maxHeartbeats 4000000 in
set_option maxRecDepth 100000 in
theorem c_Model_flagged (l : Launch) (D : va_G) (I J Z : ClassId) (a_t : Nat) (a_t_tickets : Nat) (a_t_prizes : Nat) (a_t_sightTicket : Nat) (a_t_sightRight : Nat) (a_t_sightHow : Nat) (a_t_draws : Nat) (a_t_sets : Nat) (a_t_winsLow : Nat) (a_t_winsHigh : Nat) (a_t_pad : Nat) (a_t_could : Nat) (a_t_row : Nat) (a_t_best : Nat) (a_t_kept : Nat) (a_t_isKept : Nat)  (v_t_numbers : Int32) (v_t_onTicket : Int32) (v_t_drawn : Int32) (v_t_due : Int32) (v_t_ticketMany : Int32) (v_t_fond : Int32) (v_t_sights : Int32) (v_t_drawMany : Int32) (v_t_setMany : Int32) (v_t_padMany : Int32) (v_t_low : Int64) (v_t_high : Int64) (v_t_couldMany : Int32) (v_t_keptAt : Int32) (v_t_isWriting : Int32)  (out : (Int32)) (h : f_Model_flagged v_t_high v_t_low = some out) : CT l D I J Z y_Model_flagged b_Model_flagged 1 (some .int) 2 [.ref a_t] [(a_t, .inr (10, [.int v_t_numbers, .int v_t_onTicket, .int v_t_drawn, .int v_t_due, .ref a_t_tickets, .int v_t_ticketMany, .int v_t_fond, .ref a_t_prizes, .ref a_t_sightTicket, .ref a_t_sightRight, .ref a_t_sightHow, .int v_t_sights, .ref a_t_draws, .int v_t_drawMany, .ref a_t_sets, .int v_t_setMany, .ref a_t_winsLow, .ref a_t_winsHigh, .ref a_t_pad, .int v_t_padMany, .long v_t_low, .long v_t_high, .ref a_t_could, .int v_t_couldMany, .ref a_t_row, .ref a_t_best, .ref a_t_kept, .ref a_t_isKept, .int v_t_keptAt, .int v_t_isWriting]))] (PoI out D [(a_t, .inr (10, [.int v_t_numbers, .int v_t_onTicket, .int v_t_drawn, .int v_t_due, .ref a_t_tickets, .int v_t_ticketMany, .int v_t_fond, .ref a_t_prizes, .ref a_t_sightTicket, .ref a_t_sightRight, .ref a_t_sightHow, .int v_t_sights, .ref a_t_draws, .int v_t_drawMany, .ref a_t_sets, .int v_t_setMany, .ref a_t_winsLow, .ref a_t_winsHigh, .ref a_t_pad, .int v_t_padMany, .long v_t_low, .long v_t_high, .ref a_t_could, .int v_t_couldMany, .ref a_t_row, .ref a_t_best, .ref a_t_kept, .ref a_t_isKept, .int v_t_keptAt, .int v_t_isWriting]))]) := by
  unfold f_Model_flagged at h
  refine CT_of R_Model (by decide +kernel) rfl (Nat.le_of_ble_eq_true rfl) ?_
  intro p e R s m args below meth c A ls Q hR1 hR2 hQ hC hr hW hA hl
  have hx := hC.1
  have hb := hC.2.1
  have hl : lv_has ls 1 [(0, .ref a_t)] := hl
  refine lv_aload_n hx hb d_Model_flagged_0 rfl (lv_at hl 0 rfl) ?_
  refine x_get hC hW 0 rfl fl_Model_135 rfl d_Model_flagged_1 ?_
  obtain ⟨r_1, hc_1, h⟩ := bk1_e h
  refine x_ci (ws' := [(a_t, .inr (10, [.int v_t_numbers, .int v_t_onTicket, .int v_t_drawn, .int v_t_due, .ref a_t_tickets, .int v_t_ticketMany, .int v_t_fond, .ref a_t_prizes, .ref a_t_sightTicket, .ref a_t_sightRight, .ref a_t_sightHow, .int v_t_sights, .ref a_t_draws, .int v_t_drawMany, .ref a_t_sets, .int v_t_setMany, .ref a_t_winsLow, .ref a_t_winsHigh, .ref a_t_pad, .int v_t_padMany, .long v_t_low, .long v_t_high, .ref a_t_could, .int v_t_couldMany, .ref a_t_row, .ref a_t_best, .ref a_t_kept, .ref a_t_isKept, .int v_t_keptAt, .int v_t_isWriting]))]) (x_runS (rest := []) hC hW (c_Model_ones l D I J Z v_t_low (r_1) hc_1) cl_Model_92 q_code_Model_ones [] rfl (by decide) rfl hl.1 (Nat.le_of_ble_eq_true rfl) (rm_ok hR1 hR2 (by decide) (by decide)) ⟨Nat.zero_le _, Nat.zero_le _⟩ d_Model_flagged_4) hW hA [] rfl rfl (ps := [none]) (by decide +kernel) ⟨rfl, trivial⟩ (fun H locs hW => ?_)
  refine lv_aload_n hx hb d_Model_flagged_7 rfl (lv_at hl 0 rfl) ?_
  refine x_get hC hW 0 rfl fl_Model_139 rfl d_Model_flagged_8 ?_
  obtain ⟨r_2, hc_2, h⟩ := bk1_e h
  refine x_ci (ws' := [(a_t, .inr (10, [.int v_t_numbers, .int v_t_onTicket, .int v_t_drawn, .int v_t_due, .ref a_t_tickets, .int v_t_ticketMany, .int v_t_fond, .ref a_t_prizes, .ref a_t_sightTicket, .ref a_t_sightRight, .ref a_t_sightHow, .int v_t_sights, .ref a_t_draws, .int v_t_drawMany, .ref a_t_sets, .int v_t_setMany, .ref a_t_winsLow, .ref a_t_winsHigh, .ref a_t_pad, .int v_t_padMany, .long v_t_low, .long v_t_high, .ref a_t_could, .int v_t_couldMany, .ref a_t_row, .ref a_t_best, .ref a_t_kept, .ref a_t_isKept, .int v_t_keptAt, .int v_t_isWriting]))]) (x_runS (rest := [.int r_1]) hC hW (c_Model_ones l D I J Z v_t_high (r_2) hc_2) cl_Model_92 q_code_Model_ones [] rfl (by decide) rfl hl.1 (Nat.le_of_ble_eq_true rfl) (rm_ok hR1 hR2 (by decide) (by decide)) ⟨Nat.zero_le _, Nat.zero_le _⟩ d_Model_flagged_11) hW hA [] rfl rfl (ps := [none]) (by decide +kernel) ⟨rfl, trivial⟩ (fun H locs hW => ?_)
  refine lv_iadd hx hb d_Model_flagged_14 ?_
  cases h
  rw [hQ]
  exact x_iret hC hr hW d_Model_flagged_15

def f_Model_won (v_t_drawMany : Int32) (v_t_due : Int32) (v_t_high : Int64) (v_t_low : Int64) (v_t_ticketMany : Int32) (v_t_draws : Nat → Int32) (v_t_tickets : Nat → Int32) (p0 : Int32) : Option (Int32 × Int64 × Int64) :=
  bk1 (f_Model_in p0.toInt64 (0 : Int64) (2 : Int64)) fun r_1 => if r_1 = (0 : Int32) then some ((-2 : Int32), v_t_high, v_t_low) else bk2 (f_Model_flagsBut v_t_drawMany v_t_due v_t_ticketMany v_t_draws v_t_tickets (-6 : Int32)) fun w_3_0 w_3_1 => if p0 = (0 : Int32) then bk1 (f_Model_flagged w_3_0 w_3_1) fun r_7 => some (r_7, w_3_0, w_3_1) else if p0 = (1 : Int32) then some (v_t_drawMany, w_3_0, w_3_1) else bk1 (f_Model_leastMissed v_t_drawMany w_3_0 w_3_1 v_t_draws) fun r_6 => some (r_6, w_3_0, w_3_1)
set_option maxHeartbeats 4000000 in
set_option maxRecDepth 100000 in
theorem c_Model_won (l : Launch) (D : va_G) (I J Z : ClassId) (a_t : Nat) (a_t_draws : Nat) (a_t_tickets : Nat) (a_t_prizes : Nat) (a_t_sightTicket : Nat) (a_t_sightRight : Nat) (a_t_sightHow : Nat) (a_t_sets : Nat) (a_t_winsLow : Nat) (a_t_winsHigh : Nat) (a_t_pad : Nat) (a_t_could : Nat) (a_t_row : Nat) (a_t_best : Nat) (a_t_kept : Nat) (a_t_isKept : Nat)  (v_t_numbers : Int32) (v_t_onTicket : Int32) (v_t_drawn : Int32) (v_t_due : Int32) (v_t_ticketMany : Int32) (v_t_fond : Int32) (v_t_sights : Int32) (v_t_drawMany : Int32) (v_t_setMany : Int32) (v_t_padMany : Int32) (v_t_low : Int64) (v_t_high : Int64) (v_t_couldMany : Int32) (v_t_keptAt : Int32) (v_t_isWriting : Int32) (v_t_draws : Nat → Int32) (v_t_tickets : Nat → Int32) (p0 : Int32) (out : (Int32 × Int64 × Int64)) (h : f_Model_won v_t_drawMany v_t_due v_t_high v_t_low v_t_ticketMany v_t_draws v_t_tickets p0 = some out) : CT l D I J Z y_Model_won b_Model_won 2 (some .int) 5 [.ref a_t, .int p0] [(a_t, .inr (10, [.int v_t_numbers, .int v_t_onTicket, .int v_t_drawn, .int v_t_due, .ref a_t_tickets, .int v_t_ticketMany, .int v_t_fond, .ref a_t_prizes, .ref a_t_sightTicket, .ref a_t_sightRight, .ref a_t_sightHow, .int v_t_sights, .ref a_t_draws, .int v_t_drawMany, .ref a_t_sets, .int v_t_setMany, .ref a_t_winsLow, .ref a_t_winsHigh, .ref a_t_pad, .int v_t_padMany, .long v_t_low, .long v_t_high, .ref a_t_could, .int v_t_couldMany, .ref a_t_row, .ref a_t_best, .ref a_t_kept, .ref a_t_isKept, .int v_t_keptAt, .int v_t_isWriting])), (a_t_draws, .inl (I, 70, .inl v_t_draws)), (a_t_tickets, .inl (I, 6, .inl v_t_tickets))] (PoI out.1 D [(a_t, .inr (10, [.int v_t_numbers, .int v_t_onTicket, .int v_t_drawn, .int v_t_due, .ref a_t_tickets, .int v_t_ticketMany, .int v_t_fond, .ref a_t_prizes, .ref a_t_sightTicket, .ref a_t_sightRight, .ref a_t_sightHow, .int v_t_sights, .ref a_t_draws, .int v_t_drawMany, .ref a_t_sets, .int v_t_setMany, .ref a_t_winsLow, .ref a_t_winsHigh, .ref a_t_pad, .int v_t_padMany, .long out.2.2, .long out.2.1, .ref a_t_could, .int v_t_couldMany, .ref a_t_row, .ref a_t_best, .ref a_t_kept, .ref a_t_isKept, .int v_t_keptAt, .int v_t_isWriting])), (a_t_draws, .inl (I, 70, .inl v_t_draws)), (a_t_tickets, .inl (I, 6, .inl v_t_tickets))]) := by
  unfold f_Model_won at h
  refine CT_of R_Model (by decide +kernel) rfl (Nat.le_of_ble_eq_true rfl) ?_
  intro p e R s m args below meth c A ls Q hR1 hR2 hQ hC hr hW hA hl
  have hx := hC.1
  have hb := hC.2.1
  have hl : lv_has ls 2 [(0, .ref a_t), (1, .int p0)] := hl
  refine lv_iload_n hx hb d_Model_won_0 rfl (lv_at hl 1 rfl) ?_
  refine lv_i2l hx hb d_Model_won_1 rfl ?_
  refine lv_lconst (v := (0 : Int64)) hx hb d_Model_won_2 (by decide) ?_
  refine x_ldc2 hC q_con_Model_115 d_Model_won_3 ?_
  obtain ⟨r_1, hc_1, h⟩ := bk1_e h
  refine x_ci (ws' := [(a_t, .inr (10, [.int v_t_numbers, .int v_t_onTicket, .int v_t_drawn, .int v_t_due, .ref a_t_tickets, .int v_t_ticketMany, .int v_t_fond, .ref a_t_prizes, .ref a_t_sightTicket, .ref a_t_sightRight, .ref a_t_sightHow, .int v_t_sights, .ref a_t_draws, .int v_t_drawMany, .ref a_t_sets, .int v_t_setMany, .ref a_t_winsLow, .ref a_t_winsHigh, .ref a_t_pad, .int v_t_padMany, .long v_t_low, .long v_t_high, .ref a_t_could, .int v_t_couldMany, .ref a_t_row, .ref a_t_best, .ref a_t_kept, .ref a_t_isKept, .int v_t_keptAt, .int v_t_isWriting])), (a_t_draws, .inl (I, 70, .inl v_t_draws)), (a_t_tickets, .inl (I, 6, .inl v_t_tickets))]) (x_runS (rest := []) hC hW (c_Model_in l D I J Z p0.toInt64 (0 : Int64) (2 : Int64) (r_1) hc_1) cl_Model_111 q_code_Model_in [] rfl (by decide) rfl hl.1 (Nat.le_of_ble_eq_true rfl) (rm_ok hR1 hR2 (by decide) (by decide)) ⟨Nat.zero_le _, Nat.zero_le _⟩ d_Model_won_6) hW hA [] rfl rfl (ps := [none, none, none]) (by decide +kernel) ⟨rfl, rfl, rfl, trivial⟩ (fun H locs hW => ?_)
  refine lv_if_ne (tgt := 15) hx hb d_Model_won_9 (by decide) (fun c_2 => ?_) (fun c_2 => ?_)
  · have h := ie_e c_2 h
    refine lv_aload_n hx hb d_Model_won_15 rfl (lv_at hl 0 rfl) ?_
    refine lv_bipush (v := (-6 : Int32)) hx hb d_Model_won_16 (by decide) ?_
    obtain ⟨w_3_0, w_3_1, hc_3, h⟩ := bk2_e h
    refine x_cv (ws' := [(a_t, .inr (10, [.int v_t_numbers, .int v_t_onTicket, .int v_t_drawn, .int v_t_due, .ref a_t_tickets, .int v_t_ticketMany, .int v_t_fond, .ref a_t_prizes, .ref a_t_sightTicket, .ref a_t_sightRight, .ref a_t_sightHow, .int v_t_sights, .ref a_t_draws, .int v_t_drawMany, .ref a_t_sets, .int v_t_setMany, .ref a_t_winsLow, .ref a_t_winsHigh, .ref a_t_pad, .int v_t_padMany, .long w_3_1, .long w_3_0, .ref a_t_could, .int v_t_couldMany, .ref a_t_row, .ref a_t_best, .ref a_t_kept, .ref a_t_isKept, .int v_t_keptAt, .int v_t_isWriting])), (a_t_draws, .inl (I, 70, .inl v_t_draws)), (a_t_tickets, .inl (I, 6, .inl v_t_tickets))]) (x_runV (As := [.int (-6 : Int32)]) (rest := []) hC hW (c_Model_flagsBut l D I J Z a_t a_t_draws a_t_tickets a_t_prizes a_t_sightTicket a_t_sightRight a_t_sightHow a_t_sets a_t_winsLow a_t_winsHigh a_t_pad a_t_could a_t_row a_t_best a_t_kept a_t_isKept v_t_numbers v_t_onTicket v_t_drawn v_t_due v_t_ticketMany v_t_fond v_t_sights v_t_drawMany v_t_setMany v_t_padMany v_t_low v_t_high v_t_couldMany v_t_keptAt v_t_isWriting v_t_draws v_t_tickets (-6 : Int32) (w_3_0, w_3_1) hc_3) cl_Model_142 q_code_Model_flagsBut [0, 1, 2] rfl (by decide) 0 rfl rfl rfl rfl hl.1 (Nat.le_of_ble_eq_true rfl) (rm_ok hR1 hR2 (by decide) (by decide)) ⟨Nat.zero_le _, Nat.zero_le _⟩ d_Model_won_18) hW hA [0, 1, 2] rfl rfl (ps := [some 0, some 1, some 2]) (by decide +kernel) ⟨rfl, rfl, rfl, trivial⟩ (fun H locs hW => ?_)
    refine lv_iload_n hx hb d_Model_won_21 rfl (lv_at hl 1 rfl) ?_
    refine lv_if_ne (tgt := 32) hx hb d_Model_won_22 (by decide) (fun c_4 => ?_) (fun c_4 => ?_)
    · have h := ie_e c_4 h
      refine lv_iload_n hx hb d_Model_won_32 rfl (lv_at hl 1 rfl) ?_
      refine lv_iconst (v := (1 : Int32)) hx hb d_Model_won_33 (by decide) ?_
      refine lv_icmp_ne (tgt := 44) hx hb d_Model_won_34 (by decide) (fun c_5 => ?_) (fun c_5 => ?_)
      · have h := ie_e c_5 h
        refine lv_aload_n hx hb d_Model_won_44 rfl (lv_at hl 0 rfl) ?_
        obtain ⟨r_6, hc_6, h⟩ := bk1_e h
        refine x_ci (ws' := [(a_t, .inr (10, [.int v_t_numbers, .int v_t_onTicket, .int v_t_drawn, .int v_t_due, .ref a_t_tickets, .int v_t_ticketMany, .int v_t_fond, .ref a_t_prizes, .ref a_t_sightTicket, .ref a_t_sightRight, .ref a_t_sightHow, .int v_t_sights, .ref a_t_draws, .int v_t_drawMany, .ref a_t_sets, .int v_t_setMany, .ref a_t_winsLow, .ref a_t_winsHigh, .ref a_t_pad, .int v_t_padMany, .long w_3_1, .long w_3_0, .ref a_t_could, .int v_t_couldMany, .ref a_t_row, .ref a_t_best, .ref a_t_kept, .ref a_t_isKept, .int v_t_keptAt, .int v_t_isWriting])), (a_t_draws, .inl (I, 70, .inl v_t_draws)), (a_t_tickets, .inl (I, 6, .inl v_t_tickets))]) (x_runV (As := []) (rest := []) hC hW (c_Model_leastMissed l D I J Z a_t a_t_draws a_t_tickets a_t_prizes a_t_sightTicket a_t_sightRight a_t_sightHow a_t_sets a_t_winsLow a_t_winsHigh a_t_pad a_t_could a_t_row a_t_best a_t_kept a_t_isKept v_t_numbers v_t_onTicket v_t_drawn v_t_due v_t_ticketMany v_t_fond v_t_sights v_t_drawMany v_t_setMany v_t_padMany w_3_1 w_3_0 v_t_couldMany v_t_keptAt v_t_isWriting v_t_draws (r_6) hc_6) cl_Model_149 q_code_Model_leastMissed [0, 1] rfl (by decide) 0 rfl rfl rfl rfl hl.1 (Nat.le_of_ble_eq_true rfl) (rm_ok hR1 hR2 (by decide) (by decide)) ⟨Nat.zero_le _, Nat.zero_le _⟩ d_Model_won_45) hW hA [0, 1] rfl rfl (ps := [some 0, some 1, none]) (by decide +kernel) ⟨rfl, rfl, rfl, trivial⟩ (fun H locs hW => ?_)
        cases h
        rw [hQ]
        exact x_iret hC hr hW d_Model_won_48
      · have h := it_e c_5 h
        refine lv_aload_n hx hb d_Model_won_37 rfl (lv_at hl 0 rfl) ?_
        refine x_get hC hW 0 rfl fl_Model_86 rfl d_Model_won_38 ?_
        refine lv_goto (tgt := 48) hx hb d_Model_won_41 (by decide) ?_
        cases h
        rw [hQ]
        exact x_iret hC hr hW d_Model_won_48
    · have h := it_e c_4 h
      refine lv_aload_n hx hb d_Model_won_25 rfl (lv_at hl 0 rfl) ?_
      obtain ⟨r_7, hc_7, h⟩ := bk1_e h
      refine x_ci (ws' := [(a_t, .inr (10, [.int v_t_numbers, .int v_t_onTicket, .int v_t_drawn, .int v_t_due, .ref a_t_tickets, .int v_t_ticketMany, .int v_t_fond, .ref a_t_prizes, .ref a_t_sightTicket, .ref a_t_sightRight, .ref a_t_sightHow, .int v_t_sights, .ref a_t_draws, .int v_t_drawMany, .ref a_t_sets, .int v_t_setMany, .ref a_t_winsLow, .ref a_t_winsHigh, .ref a_t_pad, .int v_t_padMany, .long w_3_1, .long w_3_0, .ref a_t_could, .int v_t_couldMany, .ref a_t_row, .ref a_t_best, .ref a_t_kept, .ref a_t_isKept, .int v_t_keptAt, .int v_t_isWriting])), (a_t_draws, .inl (I, 70, .inl v_t_draws)), (a_t_tickets, .inl (I, 6, .inl v_t_tickets))]) (x_runV (As := []) (rest := []) hC hW (c_Model_flagged l D I J Z a_t a_t_tickets a_t_prizes a_t_sightTicket a_t_sightRight a_t_sightHow a_t_draws a_t_sets a_t_winsLow a_t_winsHigh a_t_pad a_t_could a_t_row a_t_best a_t_kept a_t_isKept v_t_numbers v_t_onTicket v_t_drawn v_t_due v_t_ticketMany v_t_fond v_t_sights v_t_drawMany v_t_setMany v_t_padMany w_3_1 w_3_0 v_t_couldMany v_t_keptAt v_t_isWriting (r_7) hc_7) cl_Model_146 q_code_Model_flagged [0] rfl (by decide) 0 rfl rfl rfl rfl hl.1 (Nat.le_of_ble_eq_true rfl) (rm_ok hR1 hR2 (by decide) (by decide)) ⟨Nat.zero_le _, Nat.zero_le _⟩ d_Model_won_26) hW hA [0] rfl rfl (ps := [some 0, none, none]) (by decide +kernel) ⟨rfl, rfl, rfl, trivial⟩ (fun H locs hW => ?_)
      refine lv_goto (tgt := 48) hx hb d_Model_won_29 (by decide) ?_
      cases h
      rw [hQ]
      exact x_iret hC hr hW d_Model_won_48
  · have h := it_e c_2 h
    refine lv_bipush (v := (-2 : Int32)) hx hb d_Model_won_12 (by decide) ?_
    cases h
    rw [hQ]
    exact x_iret hC hr hW d_Model_won_14

def L_Model_lowest_6  : Nat → Int64 → Int64 → Option (Int64 × Int64)
  | 0, _, _ => none
  | n + 1, x5, x7 => if (lg_cmp x7 (0 : Int64)) = (0 : Int32) then some (x5, x7) else dzL x7 (L_Model_lowest_6  n x7 (x5 - x5 / x7 * x7))
def f_Model_lowest (p0 : Int64) (p1 : Int64) (p2 : Int32) : Option (Int64) :=
  bk2 (L_Model_lowest_6  300 p1 p0) fun yx5_3 yx7_3 => if p2 = (0 : Int32) then dzL yx5_3 (some ((p0 / yx5_3))) else dzL yx5_3 (some ((p1 / yx5_3)))
set_option maxHeartbeats 4000000 in
set_option maxRecDepth 100000 in
theorem c_Model_lowest (l : Launch) (D : va_G) (I J Z : ClassId)    (p0 : Int64) (p1 : Int64) (p2 : Int32) (out : (Int64)) (h : f_Model_lowest p0 p1 p2 = some out) : CT l D I J Z y_Model_lowest b_Model_lowest 11 (some .long) 1 [.long p0, .long p1, .int p2] [] (PoL out D []) := by
  unfold f_Model_lowest at h
  refine CT_of R_Model (by decide +kernel) rfl (Nat.le_of_ble_eq_true rfl) ?_
  intro p e R s m args below meth c A ls Q hR1 hR2 hQ hC hr hW hA hl
  have hx := hC.1
  have hb := hC.2.1
  have hl : lv_has ls 11 [(0, .long p0), (2, .long p1), (4, .int p2)] := hl
  have lp6 : ∀ (n : Nat) (x0 : Int64) (x2 : Int64) (x4 : Int32) (x5 : Int64) (x7 : Int64) (yx5 : Int64) (yx7 : Int64), L_Model_lowest_6  n x5 x7 = some (yx5, yx7) →
    (∀ H locs, Wd D A s.heap [] H locs → ∀ ls, lv_has ls 11 [(0, .long x0), (2, .long x2), (4, .int x4), (5, .long yx5), (7, .long yx7)] → W p l e R s m args below meth c H locs 0 0 Q (F0 m 31 ls [])) →
    ∀ H locs, Wd D A s.heap [] H locs → ∀ ls, lv_has ls 11 [(0, .long x0), (2, .long x2), (4, .int x4), (5, .long x5), (7, .long x7)] → W p l e R s m args below meth c H locs 0 0 Q (F0 m 6 ls []) := by
    intro n
    induction n with
    | zero =>
      intro x0 x2 x4 x5 x7 yx5 yx7 h
      exact no_e h
    | succ n ih =>
      intro x0 x2 x4 x5 x7 yx5 yx7 h K H locs hW ls hl
      rw [L_Model_lowest_6] at h
      refine lv_lload hx hb d_Model_lowest_6 (lv_at hl 4 rfl) ?_
      refine lv_lconst (v := (0 : Int64)) hx hb d_Model_lowest_8 (by decide) ?_
      refine W.lcmp hx hb d_Model_lowest_9 ?_
      refine lv_if_eq (tgt := 31) hx hb d_Model_lowest_10 (by decide) (fun c_1 => ?_) (fun c_1 => ?_)
      · have h := it_e c_1 h
        cases h
        exact K _ _ hW ls (lv_sub hl [0, 1, 2, 3, 4] rfl)
      · have h := ie_e c_1 h
        refine lv_lload hx hb d_Model_lowest_13 (lv_at hl 3 rfl) ?_
        refine lv_lload hx hb d_Model_lowest_15 (lv_at hl 4 rfl) ?_
        obtain ⟨hz_2, h⟩ := dzL_e h
        refine lv_lrem hx hb d_Model_lowest_17 hz_2 ?_
        refine lv_lstore (lv' := [(9, .long (x5 - x5 / x7 * x7)), (0, .long x0), (2, .long x2), (4, .int x4), (5, .long x5), (7, .long x7)]) hx hb d_Model_lowest_18 hl (by decide) rfl (fun ls hl => ?_)
        refine lv_lload hx hb d_Model_lowest_20 (lv_at hl 5 rfl) ?_
        refine lv_lstore (lv' := [(5, .long x7), (9, .long (x5 - x5 / x7 * x7)), (0, .long x0), (2, .long x2), (4, .int x4), (7, .long x7)]) hx hb d_Model_lowest_22 hl (by decide) rfl (fun ls hl => ?_)
        refine lv_lload hx hb d_Model_lowest_24 (lv_at hl 1 rfl) ?_
        refine lv_lstore (lv' := [(7, .long (x5 - x5 / x7 * x7)), (5, .long x7), (9, .long (x5 - x5 / x7 * x7)), (0, .long x0), (2, .long x2), (4, .int x4)]) hx hb d_Model_lowest_26 hl (by decide) rfl (fun ls hl => ?_)
        refine lv_goto (tgt := 6) hx hb d_Model_lowest_28 (by decide) ?_
        exact ih x0 x2 x4 x7 (x5 - x5 / x7 * x7) _ _ h K _ _ hW ls (lv_sub hl [3, 4, 5, 1, 0] rfl)
  refine lv_lload_n hx hb d_Model_lowest_0 rfl (lv_at hl 1 rfl) ?_
  refine lv_lstore (lv' := [(5, .long p1), (0, .long p0), (2, .long p1), (4, .int p2)]) hx hb d_Model_lowest_1 hl (by decide) rfl (fun ls hl => ?_)
  refine lv_lload_n hx hb d_Model_lowest_3 rfl (lv_at hl 1 rfl) ?_
  refine lv_lstore (lv' := [(7, .long p0), (5, .long p1), (0, .long p0), (2, .long p1), (4, .int p2)]) hx hb d_Model_lowest_4 hl (by decide) rfl (fun ls hl => ?_)
  obtain ⟨yx5_3, yx7_3, hv_3, h⟩ := bk2_e h
  refine lp6 _ p0 p1 p2 p1 p0 yx5_3 yx7_3 hv_3 (fun H locs hW ls hl => ?_) _ _ hW ls (lv_sub hl [2, 3, 4, 1, 0] rfl)
  refine lv_iload hx hb d_Model_lowest_31 (lv_at hl 2 rfl) ?_
  refine lv_if_ne (tgt := 43) hx hb d_Model_lowest_33 (by decide) (fun c_4 => ?_) (fun c_4 => ?_)
  · have h := ie_e c_4 h
    refine lv_lload_n hx hb d_Model_lowest_43 rfl (lv_at hl 1 rfl) ?_
    refine lv_lload hx hb d_Model_lowest_44 (lv_at hl 3 rfl) ?_
    obtain ⟨hz_5, h⟩ := dzL_e h
    refine lv_ldiv hx hb d_Model_lowest_46 hz_5 ?_
    cases h
    rw [hQ]
    exact x_lret hC hr hW d_Model_lowest_47
  · have h := it_e c_4 h
    refine lv_lload_n hx hb d_Model_lowest_36 rfl (lv_at hl 0 rfl) ?_
    refine lv_lload hx hb d_Model_lowest_37 (lv_at hl 3 rfl) ?_
    obtain ⟨hz_6, h⟩ := dzL_e h
    refine lv_ldiv hx hb d_Model_lowest_39 hz_6 ?_
    refine lv_goto (tgt := 47) hx hb d_Model_lowest_40 (by decide) ?_
    cases h
    rw [hQ]
    exact x_lret hC hr hW d_Model_lowest_47

def f_Model_odds (v_t_drawMany : Int32) (v_t_due : Int32) (v_t_high : Int64) (v_t_low : Int64) (v_t_ticketMany : Int32) (v_t_draws : Nat → Int32) (v_t_tickets : Nat → Int32) (p0 : Int32) : Option (Int64 × Int64 × Int64) :=
  bk1 (f_Model_in p0.toInt64 (0 : Int64) (1 : Int64)) fun r_1 => if r_1 = (0 : Int32) then some ((-1000000000000000002 : Int64), v_t_high, v_t_low) else bk2 (f_Model_flagsBut v_t_drawMany v_t_due v_t_ticketMany v_t_draws v_t_tickets (-6 : Int32)) fun w_3_0 w_3_1 => bk1 (f_Model_flagged w_3_0 w_3_1) fun r_4 => bk1 (f_Model_lowest r_4.toInt64 v_t_drawMany.toInt64 p0) fun r_5 => some (r_5, w_3_0, w_3_1)
set_option maxHeartbeats 4000000 in
set_option maxRecDepth 100000 in
theorem c_Model_odds (l : Launch) (D : va_G) (I J Z : ClassId) (a_t : Nat) (a_t_draws : Nat) (a_t_tickets : Nat) (a_t_prizes : Nat) (a_t_sightTicket : Nat) (a_t_sightRight : Nat) (a_t_sightHow : Nat) (a_t_sets : Nat) (a_t_winsLow : Nat) (a_t_winsHigh : Nat) (a_t_pad : Nat) (a_t_could : Nat) (a_t_row : Nat) (a_t_best : Nat) (a_t_kept : Nat) (a_t_isKept : Nat)  (v_t_numbers : Int32) (v_t_onTicket : Int32) (v_t_drawn : Int32) (v_t_due : Int32) (v_t_ticketMany : Int32) (v_t_fond : Int32) (v_t_sights : Int32) (v_t_drawMany : Int32) (v_t_setMany : Int32) (v_t_padMany : Int32) (v_t_low : Int64) (v_t_high : Int64) (v_t_couldMany : Int32) (v_t_keptAt : Int32) (v_t_isWriting : Int32) (v_t_draws : Nat → Int32) (v_t_tickets : Nat → Int32) (p0 : Int32) (out : (Int64 × Int64 × Int64)) (h : f_Model_odds v_t_drawMany v_t_due v_t_high v_t_low v_t_ticketMany v_t_draws v_t_tickets p0 = some out) : CT l D I J Z y_Model_odds b_Model_odds 2 (some .long) 5 [.ref a_t, .int p0] [(a_t, .inr (10, [.int v_t_numbers, .int v_t_onTicket, .int v_t_drawn, .int v_t_due, .ref a_t_tickets, .int v_t_ticketMany, .int v_t_fond, .ref a_t_prizes, .ref a_t_sightTicket, .ref a_t_sightRight, .ref a_t_sightHow, .int v_t_sights, .ref a_t_draws, .int v_t_drawMany, .ref a_t_sets, .int v_t_setMany, .ref a_t_winsLow, .ref a_t_winsHigh, .ref a_t_pad, .int v_t_padMany, .long v_t_low, .long v_t_high, .ref a_t_could, .int v_t_couldMany, .ref a_t_row, .ref a_t_best, .ref a_t_kept, .ref a_t_isKept, .int v_t_keptAt, .int v_t_isWriting])), (a_t_draws, .inl (I, 70, .inl v_t_draws)), (a_t_tickets, .inl (I, 6, .inl v_t_tickets))] (PoL out.1 D [(a_t, .inr (10, [.int v_t_numbers, .int v_t_onTicket, .int v_t_drawn, .int v_t_due, .ref a_t_tickets, .int v_t_ticketMany, .int v_t_fond, .ref a_t_prizes, .ref a_t_sightTicket, .ref a_t_sightRight, .ref a_t_sightHow, .int v_t_sights, .ref a_t_draws, .int v_t_drawMany, .ref a_t_sets, .int v_t_setMany, .ref a_t_winsLow, .ref a_t_winsHigh, .ref a_t_pad, .int v_t_padMany, .long out.2.2, .long out.2.1, .ref a_t_could, .int v_t_couldMany, .ref a_t_row, .ref a_t_best, .ref a_t_kept, .ref a_t_isKept, .int v_t_keptAt, .int v_t_isWriting])), (a_t_draws, .inl (I, 70, .inl v_t_draws)), (a_t_tickets, .inl (I, 6, .inl v_t_tickets))]) := by
  unfold f_Model_odds at h
  refine CT_of R_Model (by decide +kernel) rfl (Nat.le_of_ble_eq_true rfl) ?_
  intro p e R s m args below meth c A ls Q hR1 hR2 hQ hC hr hW hA hl
  have hx := hC.1
  have hb := hC.2.1
  have hl : lv_has ls 2 [(0, .ref a_t), (1, .int p0)] := hl
  refine lv_iload_n hx hb d_Model_odds_0 rfl (lv_at hl 1 rfl) ?_
  refine lv_i2l hx hb d_Model_odds_1 rfl ?_
  refine lv_lconst (v := (0 : Int64)) hx hb d_Model_odds_2 (by decide) ?_
  refine lv_lconst (v := (1 : Int64)) hx hb d_Model_odds_3 (by decide) ?_
  obtain ⟨r_1, hc_1, h⟩ := bk1_e h
  refine x_ci (ws' := [(a_t, .inr (10, [.int v_t_numbers, .int v_t_onTicket, .int v_t_drawn, .int v_t_due, .ref a_t_tickets, .int v_t_ticketMany, .int v_t_fond, .ref a_t_prizes, .ref a_t_sightTicket, .ref a_t_sightRight, .ref a_t_sightHow, .int v_t_sights, .ref a_t_draws, .int v_t_drawMany, .ref a_t_sets, .int v_t_setMany, .ref a_t_winsLow, .ref a_t_winsHigh, .ref a_t_pad, .int v_t_padMany, .long v_t_low, .long v_t_high, .ref a_t_could, .int v_t_couldMany, .ref a_t_row, .ref a_t_best, .ref a_t_kept, .ref a_t_isKept, .int v_t_keptAt, .int v_t_isWriting])), (a_t_draws, .inl (I, 70, .inl v_t_draws)), (a_t_tickets, .inl (I, 6, .inl v_t_tickets))]) (x_runS (rest := []) hC hW (c_Model_in l D I J Z p0.toInt64 (0 : Int64) (1 : Int64) (r_1) hc_1) cl_Model_111 q_code_Model_in [] rfl (by decide) rfl hl.1 (Nat.le_of_ble_eq_true rfl) (rm_ok hR1 hR2 (by decide) (by decide)) ⟨Nat.zero_le _, Nat.zero_le _⟩ d_Model_odds_4) hW hA [] rfl rfl (ps := [none, none, none]) (by decide +kernel) ⟨rfl, rfl, rfl, trivial⟩ (fun H locs hW => ?_)
  refine lv_if_ne (tgt := 14) hx hb d_Model_odds_7 (by decide) (fun c_2 => ?_) (fun c_2 => ?_)
  · have h := ie_e c_2 h
    refine lv_aload_n hx hb d_Model_odds_14 rfl (lv_at hl 0 rfl) ?_
    refine lv_bipush (v := (-6 : Int32)) hx hb d_Model_odds_15 (by decide) ?_
    obtain ⟨w_3_0, w_3_1, hc_3, h⟩ := bk2_e h
    refine x_cv (ws' := [(a_t, .inr (10, [.int v_t_numbers, .int v_t_onTicket, .int v_t_drawn, .int v_t_due, .ref a_t_tickets, .int v_t_ticketMany, .int v_t_fond, .ref a_t_prizes, .ref a_t_sightTicket, .ref a_t_sightRight, .ref a_t_sightHow, .int v_t_sights, .ref a_t_draws, .int v_t_drawMany, .ref a_t_sets, .int v_t_setMany, .ref a_t_winsLow, .ref a_t_winsHigh, .ref a_t_pad, .int v_t_padMany, .long w_3_1, .long w_3_0, .ref a_t_could, .int v_t_couldMany, .ref a_t_row, .ref a_t_best, .ref a_t_kept, .ref a_t_isKept, .int v_t_keptAt, .int v_t_isWriting])), (a_t_draws, .inl (I, 70, .inl v_t_draws)), (a_t_tickets, .inl (I, 6, .inl v_t_tickets))]) (x_runV (As := [.int (-6 : Int32)]) (rest := []) hC hW (c_Model_flagsBut l D I J Z a_t a_t_draws a_t_tickets a_t_prizes a_t_sightTicket a_t_sightRight a_t_sightHow a_t_sets a_t_winsLow a_t_winsHigh a_t_pad a_t_could a_t_row a_t_best a_t_kept a_t_isKept v_t_numbers v_t_onTicket v_t_drawn v_t_due v_t_ticketMany v_t_fond v_t_sights v_t_drawMany v_t_setMany v_t_padMany v_t_low v_t_high v_t_couldMany v_t_keptAt v_t_isWriting v_t_draws v_t_tickets (-6 : Int32) (w_3_0, w_3_1) hc_3) cl_Model_142 q_code_Model_flagsBut [0, 1, 2] rfl (by decide) 0 rfl rfl rfl rfl hl.1 (Nat.le_of_ble_eq_true rfl) (rm_ok hR1 hR2 (by decide) (by decide)) ⟨Nat.zero_le _, Nat.zero_le _⟩ d_Model_odds_17) hW hA [0, 1, 2] rfl rfl (ps := [some 0, some 1, some 2]) (by decide +kernel) ⟨rfl, rfl, rfl, trivial⟩ (fun H locs hW => ?_)
    refine lv_aload_n hx hb d_Model_odds_20 rfl (lv_at hl 0 rfl) ?_
    obtain ⟨r_4, hc_4, h⟩ := bk1_e h
    refine x_ci (ws' := [(a_t, .inr (10, [.int v_t_numbers, .int v_t_onTicket, .int v_t_drawn, .int v_t_due, .ref a_t_tickets, .int v_t_ticketMany, .int v_t_fond, .ref a_t_prizes, .ref a_t_sightTicket, .ref a_t_sightRight, .ref a_t_sightHow, .int v_t_sights, .ref a_t_draws, .int v_t_drawMany, .ref a_t_sets, .int v_t_setMany, .ref a_t_winsLow, .ref a_t_winsHigh, .ref a_t_pad, .int v_t_padMany, .long w_3_1, .long w_3_0, .ref a_t_could, .int v_t_couldMany, .ref a_t_row, .ref a_t_best, .ref a_t_kept, .ref a_t_isKept, .int v_t_keptAt, .int v_t_isWriting])), (a_t_draws, .inl (I, 70, .inl v_t_draws)), (a_t_tickets, .inl (I, 6, .inl v_t_tickets))]) (x_runV (As := []) (rest := []) hC hW (c_Model_flagged l D I J Z a_t a_t_tickets a_t_prizes a_t_sightTicket a_t_sightRight a_t_sightHow a_t_draws a_t_sets a_t_winsLow a_t_winsHigh a_t_pad a_t_could a_t_row a_t_best a_t_kept a_t_isKept v_t_numbers v_t_onTicket v_t_drawn v_t_due v_t_ticketMany v_t_fond v_t_sights v_t_drawMany v_t_setMany v_t_padMany w_3_1 w_3_0 v_t_couldMany v_t_keptAt v_t_isWriting (r_4) hc_4) cl_Model_146 q_code_Model_flagged [0] rfl (by decide) 0 rfl rfl rfl rfl hl.1 (Nat.le_of_ble_eq_true rfl) (rm_ok hR1 hR2 (by decide) (by decide)) ⟨Nat.zero_le _, Nat.zero_le _⟩ d_Model_odds_21) hW hA [0] rfl rfl (ps := [some 0, none, none]) (by decide +kernel) ⟨rfl, rfl, rfl, trivial⟩ (fun H locs hW => ?_)
    refine lv_i2l hx hb d_Model_odds_24 rfl ?_
    refine lv_aload_n hx hb d_Model_odds_25 rfl (lv_at hl 0 rfl) ?_
    refine x_get hC hW 0 rfl fl_Model_86 rfl d_Model_odds_26 ?_
    refine lv_i2l hx hb d_Model_odds_29 rfl ?_
    refine lv_iload_n hx hb d_Model_odds_30 rfl (lv_at hl 1 rfl) ?_
    obtain ⟨r_5, hc_5, h⟩ := bk1_e h
    refine x_cl (ws' := [(a_t, .inr (10, [.int v_t_numbers, .int v_t_onTicket, .int v_t_drawn, .int v_t_due, .ref a_t_tickets, .int v_t_ticketMany, .int v_t_fond, .ref a_t_prizes, .ref a_t_sightTicket, .ref a_t_sightRight, .ref a_t_sightHow, .int v_t_sights, .ref a_t_draws, .int v_t_drawMany, .ref a_t_sets, .int v_t_setMany, .ref a_t_winsLow, .ref a_t_winsHigh, .ref a_t_pad, .int v_t_padMany, .long w_3_1, .long w_3_0, .ref a_t_could, .int v_t_couldMany, .ref a_t_row, .ref a_t_best, .ref a_t_kept, .ref a_t_isKept, .int v_t_keptAt, .int v_t_isWriting])), (a_t_draws, .inl (I, 70, .inl v_t_draws)), (a_t_tickets, .inl (I, 6, .inl v_t_tickets))]) (x_runS (rest := []) hC hW (c_Model_lowest l D I J Z r_4.toInt64 v_t_drawMany.toInt64 p0 (r_5) hc_5) cl_Model_154 q_code_Model_lowest [] rfl (by decide) rfl hl.1 (Nat.le_of_ble_eq_true rfl) (rm_ok hR1 hR2 (by decide) (by decide)) ⟨Nat.zero_le _, Nat.zero_le _⟩ d_Model_odds_31) hW hA [] rfl rfl (ps := [none, none, none]) (by decide +kernel) ⟨rfl, rfl, rfl, trivial⟩ (fun H locs hW => ?_)
    cases h
    rw [hQ]
    exact x_lret hC hr hW d_Model_odds_34
  · have h := it_e c_2 h
    refine x_ldc2 hC q_con_Model_152 d_Model_odds_10 ?_
    cases h
    rw [hQ]
    exact x_lret hC hr hW d_Model_odds_13

def L_Model_useless_15 (x1 : Int32) (v_t_drawMany : Int32) (v_t_due : Int32) (v_t_ticketMany : Int32) (v_t_draws : Nat → Int32) (v_t_tickets : Nat → Int32) : Nat → Int32 → Int32 → Int64 → Int64 → Option (Int32 × Int32 × Int64 × Int64)
  | 0, _, _, _, _ => none
  | n + 1, x2, x3, v_t_high, v_t_low => if v_t_ticketMany ≤ x3 then some (x2, x3, v_t_high, v_t_low) else bk2 (f_Model_flagsBut v_t_drawMany v_t_due v_t_ticketMany v_t_draws v_t_tickets x3) fun w_4_0 w_4_1 => bk1 (f_Model_flagged w_4_0 w_4_1) fun r_5 => if r_5 = x1 then L_Model_useless_15 x1 v_t_drawMany v_t_due v_t_ticketMany v_t_draws v_t_tickets n (x2 ||| ((1 : Int32) <<< (x3 &&& 31))) (x3 + (1 : Int32)) w_4_0 w_4_1 else L_Model_useless_15 x1 v_t_drawMany v_t_due v_t_ticketMany v_t_draws v_t_tickets n (x2 ||| (0 : Int32)) (x3 + (1 : Int32)) w_4_0 w_4_1
def f_Model_useless (v_t_drawMany : Int32) (v_t_due : Int32) (v_t_ticketMany : Int32) (v_t_draws : Nat → Int32) (v_t_tickets : Nat → Int32) : Option (Int32 × Int64 × Int64) :=
  bk2 (f_Model_flagsBut v_t_drawMany v_t_due v_t_ticketMany v_t_draws v_t_tickets (-6 : Int32)) fun w_1_0 w_1_1 => bk1 (f_Model_flagged w_1_0 w_1_1) fun r_2 => bk4 (L_Model_useless_15 r_2 v_t_drawMany v_t_due v_t_ticketMany v_t_draws v_t_tickets 300 (0 : Int32) (0 : Int32) w_1_0 w_1_1) fun yx2_7 yx3_7 y_t_high_7 y_t_low_7 => some (yx2_7, y_t_high_7, y_t_low_7)
set_option maxHeartbeats 4000000 in
set_option maxRecDepth 100000 in
theorem c_Model_useless (l : Launch) (D : va_G) (I J Z : ClassId) (a_t : Nat) (a_t_draws : Nat) (a_t_tickets : Nat) (a_t_prizes : Nat) (a_t_sightTicket : Nat) (a_t_sightRight : Nat) (a_t_sightHow : Nat) (a_t_sets : Nat) (a_t_winsLow : Nat) (a_t_winsHigh : Nat) (a_t_pad : Nat) (a_t_could : Nat) (a_t_row : Nat) (a_t_best : Nat) (a_t_kept : Nat) (a_t_isKept : Nat)  (v_t_numbers : Int32) (v_t_onTicket : Int32) (v_t_drawn : Int32) (v_t_due : Int32) (v_t_ticketMany : Int32) (v_t_fond : Int32) (v_t_sights : Int32) (v_t_drawMany : Int32) (v_t_setMany : Int32) (v_t_padMany : Int32) (v_t_low : Int64) (v_t_high : Int64) (v_t_couldMany : Int32) (v_t_keptAt : Int32) (v_t_isWriting : Int32) (v_t_draws : Nat → Int32) (v_t_tickets : Nat → Int32)  (out : (Int32 × Int64 × Int64)) (h : f_Model_useless v_t_drawMany v_t_due v_t_ticketMany v_t_draws v_t_tickets = some out) : CT l D I J Z y_Model_useless b_Model_useless 4 (some .int) 5 [.ref a_t] [(a_t, .inr (10, [.int v_t_numbers, .int v_t_onTicket, .int v_t_drawn, .int v_t_due, .ref a_t_tickets, .int v_t_ticketMany, .int v_t_fond, .ref a_t_prizes, .ref a_t_sightTicket, .ref a_t_sightRight, .ref a_t_sightHow, .int v_t_sights, .ref a_t_draws, .int v_t_drawMany, .ref a_t_sets, .int v_t_setMany, .ref a_t_winsLow, .ref a_t_winsHigh, .ref a_t_pad, .int v_t_padMany, .long v_t_low, .long v_t_high, .ref a_t_could, .int v_t_couldMany, .ref a_t_row, .ref a_t_best, .ref a_t_kept, .ref a_t_isKept, .int v_t_keptAt, .int v_t_isWriting])), (a_t_draws, .inl (I, 70, .inl v_t_draws)), (a_t_tickets, .inl (I, 6, .inl v_t_tickets))] (PoI out.1 D [(a_t, .inr (10, [.int v_t_numbers, .int v_t_onTicket, .int v_t_drawn, .int v_t_due, .ref a_t_tickets, .int v_t_ticketMany, .int v_t_fond, .ref a_t_prizes, .ref a_t_sightTicket, .ref a_t_sightRight, .ref a_t_sightHow, .int v_t_sights, .ref a_t_draws, .int v_t_drawMany, .ref a_t_sets, .int v_t_setMany, .ref a_t_winsLow, .ref a_t_winsHigh, .ref a_t_pad, .int v_t_padMany, .long out.2.2, .long out.2.1, .ref a_t_could, .int v_t_couldMany, .ref a_t_row, .ref a_t_best, .ref a_t_kept, .ref a_t_isKept, .int v_t_keptAt, .int v_t_isWriting])), (a_t_draws, .inl (I, 70, .inl v_t_draws)), (a_t_tickets, .inl (I, 6, .inl v_t_tickets))]) := by
  unfold f_Model_useless at h
  refine CT_of R_Model (by decide +kernel) rfl (Nat.le_of_ble_eq_true rfl) ?_
  intro p e R s m args below meth c A ls Q hR1 hR2 hQ hC hr hW hA hl
  have hx := hC.1
  have hb := hC.2.1
  have hl : lv_has ls 4 [(0, .ref a_t)] := hl
  have lp15 : ∀ (n : Nat) (x1 : Int32) (x2 : Int32) (x3 : Int32) (v_t_high : Int64) (v_t_low : Int64) (yx2 : Int32) (yx3 : Int32) (y_t_high : Int64) (y_t_low : Int64), L_Model_useless_15 x1 v_t_drawMany v_t_due v_t_ticketMany v_t_draws v_t_tickets n x2 x3 v_t_high v_t_low = some (yx2, yx3, y_t_high, y_t_low) →
    (∀ H locs, Wd D A s.heap [(a_t, .inr (10, [.int v_t_numbers, .int v_t_onTicket, .int v_t_drawn, .int v_t_due, .ref a_t_tickets, .int v_t_ticketMany, .int v_t_fond, .ref a_t_prizes, .ref a_t_sightTicket, .ref a_t_sightRight, .ref a_t_sightHow, .int v_t_sights, .ref a_t_draws, .int v_t_drawMany, .ref a_t_sets, .int v_t_setMany, .ref a_t_winsLow, .ref a_t_winsHigh, .ref a_t_pad, .int v_t_padMany, .long y_t_low, .long y_t_high, .ref a_t_could, .int v_t_couldMany, .ref a_t_row, .ref a_t_best, .ref a_t_kept, .ref a_t_isKept, .int v_t_keptAt, .int v_t_isWriting])), (a_t_draws, .inl (I, 70, .inl v_t_draws)), (a_t_tickets, .inl (I, 6, .inl v_t_tickets))] H locs → ∀ ls, lv_has ls 4 [(0, .ref a_t), (1, .int x1), (2, .int yx2), (3, .int yx3)] → W p l e R s m args below meth c H locs 0 0 Q (F0 m 52 ls [])) →
    ∀ H locs, Wd D A s.heap [(a_t, .inr (10, [.int v_t_numbers, .int v_t_onTicket, .int v_t_drawn, .int v_t_due, .ref a_t_tickets, .int v_t_ticketMany, .int v_t_fond, .ref a_t_prizes, .ref a_t_sightTicket, .ref a_t_sightRight, .ref a_t_sightHow, .int v_t_sights, .ref a_t_draws, .int v_t_drawMany, .ref a_t_sets, .int v_t_setMany, .ref a_t_winsLow, .ref a_t_winsHigh, .ref a_t_pad, .int v_t_padMany, .long v_t_low, .long v_t_high, .ref a_t_could, .int v_t_couldMany, .ref a_t_row, .ref a_t_best, .ref a_t_kept, .ref a_t_isKept, .int v_t_keptAt, .int v_t_isWriting])), (a_t_draws, .inl (I, 70, .inl v_t_draws)), (a_t_tickets, .inl (I, 6, .inl v_t_tickets))] H locs → ∀ ls, lv_has ls 4 [(0, .ref a_t), (1, .int x1), (2, .int x2), (3, .int x3)] → W p l e R s m args below meth c H locs 0 0 Q (F0 m 15 ls []) := by
    intro n
    induction n with
    | zero =>
      intro x1 x2 x3 v_t_high v_t_low yx2 yx3 y_t_high y_t_low h
      exact no_e h
    | succ n ih =>
      intro x1 x2 x3 v_t_high v_t_low yx2 yx3 y_t_high y_t_low h K H locs hW ls hl
      rw [L_Model_useless_15] at h
      refine lv_iload_n hx hb d_Model_useless_15 rfl (lv_at hl 3 rfl) ?_
      refine lv_aload_n hx hb d_Model_useless_16 rfl (lv_at hl 0 rfl) ?_
      refine x_get hC hW 0 rfl fl_Model_74 rfl d_Model_useless_17 ?_
      refine lv_icmp_ge (tgt := 52) hx hb d_Model_useless_20 (by decide) (fun c_3 => ?_) (fun c_3 => ?_)
      · have h := it_e c_3 h
        cases h
        exact K _ _ hW ls (lv_sub hl [0, 1, 2, 3] rfl)
      · have h := ie_e c_3 h
        refine lv_aload_n hx hb d_Model_useless_23 rfl (lv_at hl 0 rfl) ?_
        refine lv_iload_n hx hb d_Model_useless_24 rfl (lv_at hl 3 rfl) ?_
        obtain ⟨w_4_0, w_4_1, hc_4, h⟩ := bk2_e h
        refine x_cv (ws' := [(a_t, .inr (10, [.int v_t_numbers, .int v_t_onTicket, .int v_t_drawn, .int v_t_due, .ref a_t_tickets, .int v_t_ticketMany, .int v_t_fond, .ref a_t_prizes, .ref a_t_sightTicket, .ref a_t_sightRight, .ref a_t_sightHow, .int v_t_sights, .ref a_t_draws, .int v_t_drawMany, .ref a_t_sets, .int v_t_setMany, .ref a_t_winsLow, .ref a_t_winsHigh, .ref a_t_pad, .int v_t_padMany, .long w_4_1, .long w_4_0, .ref a_t_could, .int v_t_couldMany, .ref a_t_row, .ref a_t_best, .ref a_t_kept, .ref a_t_isKept, .int v_t_keptAt, .int v_t_isWriting])), (a_t_draws, .inl (I, 70, .inl v_t_draws)), (a_t_tickets, .inl (I, 6, .inl v_t_tickets))]) (x_runV (As := [.int x3]) (rest := []) hC hW (c_Model_flagsBut l D I J Z a_t a_t_draws a_t_tickets a_t_prizes a_t_sightTicket a_t_sightRight a_t_sightHow a_t_sets a_t_winsLow a_t_winsHigh a_t_pad a_t_could a_t_row a_t_best a_t_kept a_t_isKept v_t_numbers v_t_onTicket v_t_drawn v_t_due v_t_ticketMany v_t_fond v_t_sights v_t_drawMany v_t_setMany v_t_padMany v_t_low v_t_high v_t_couldMany v_t_keptAt v_t_isWriting v_t_draws v_t_tickets x3 (w_4_0, w_4_1) hc_4) cl_Model_142 q_code_Model_flagsBut [0, 1, 2] rfl (by decide) 0 rfl rfl rfl rfl hl.1 (Nat.le_of_ble_eq_true rfl) (rm_ok hR1 hR2 (by decide) (by decide)) ⟨Nat.zero_le _, Nat.zero_le _⟩ d_Model_useless_25) hW hA [0, 1, 2] rfl rfl (ps := [some 0, some 1, some 2]) (by decide +kernel) ⟨rfl, rfl, rfl, trivial⟩ (fun H locs hW => ?_)
        refine lv_iload_n hx hb d_Model_useless_28 rfl (lv_at hl 2 rfl) ?_
        refine lv_aload_n hx hb d_Model_useless_29 rfl (lv_at hl 0 rfl) ?_
        obtain ⟨r_5, hc_5, h⟩ := bk1_e h
        refine x_ci (ws' := [(a_t, .inr (10, [.int v_t_numbers, .int v_t_onTicket, .int v_t_drawn, .int v_t_due, .ref a_t_tickets, .int v_t_ticketMany, .int v_t_fond, .ref a_t_prizes, .ref a_t_sightTicket, .ref a_t_sightRight, .ref a_t_sightHow, .int v_t_sights, .ref a_t_draws, .int v_t_drawMany, .ref a_t_sets, .int v_t_setMany, .ref a_t_winsLow, .ref a_t_winsHigh, .ref a_t_pad, .int v_t_padMany, .long w_4_1, .long w_4_0, .ref a_t_could, .int v_t_couldMany, .ref a_t_row, .ref a_t_best, .ref a_t_kept, .ref a_t_isKept, .int v_t_keptAt, .int v_t_isWriting])), (a_t_draws, .inl (I, 70, .inl v_t_draws)), (a_t_tickets, .inl (I, 6, .inl v_t_tickets))]) (x_runV (As := []) (rest := [.int x2]) hC hW (c_Model_flagged l D I J Z a_t a_t_tickets a_t_prizes a_t_sightTicket a_t_sightRight a_t_sightHow a_t_draws a_t_sets a_t_winsLow a_t_winsHigh a_t_pad a_t_could a_t_row a_t_best a_t_kept a_t_isKept v_t_numbers v_t_onTicket v_t_drawn v_t_due v_t_ticketMany v_t_fond v_t_sights v_t_drawMany v_t_setMany v_t_padMany w_4_1 w_4_0 v_t_couldMany v_t_keptAt v_t_isWriting (r_5) hc_5) cl_Model_146 q_code_Model_flagged [0] rfl (by decide) 0 rfl rfl rfl rfl hl.1 (Nat.le_of_ble_eq_true rfl) (rm_ok hR1 hR2 (by decide) (by decide)) ⟨Nat.zero_le _, Nat.zero_le _⟩ d_Model_useless_30) hW hA [0] rfl rfl (ps := [some 0, none, none]) (by decide +kernel) ⟨rfl, rfl, rfl, trivial⟩ (fun H locs hW => ?_)
        refine lv_iload_n hx hb d_Model_useless_33 rfl (lv_at hl 1 rfl) ?_
        refine lv_icmp_ne (tgt := 43) hx hb d_Model_useless_34 (by decide) (fun c_6 => ?_) (fun c_6 => ?_)
        · have h := ie_e c_6 h
          refine lv_iconst (v := (0 : Int32)) hx hb d_Model_useless_43 (by decide) ?_
          refine lv_ior hx hb d_Model_useless_44 ?_
          refine lv_istore_n (lv' := [(2, .int (x2 ||| (0 : Int32))), (0, .ref a_t), (1, .int x1), (3, .int x3)]) hx hb d_Model_useless_45 rfl hl (by decide) rfl (fun ls hl => ?_)
          refine lv_iinc (v := (x3 + (1 : Int32))) (lv' := [(3, .int (x3 + (1 : Int32))), (2, .int (x2 ||| (0 : Int32))), (0, .ref a_t), (1, .int x1)]) hx hb d_Model_useless_46 hl (k := 3) rfl (iinc_e (by decide)) (by decide) rfl (fun ls hl => ?_)
          refine lv_goto (tgt := 15) hx hb d_Model_useless_49 (by decide) ?_
          exact ih x1 (x2 ||| (0 : Int32)) (x3 + (1 : Int32)) w_4_0 w_4_1 _ _ _ _ h K _ _ hW ls (lv_sub hl [2, 3, 1, 0] rfl)
        · have h := it_e c_6 h
          refine lv_iconst (v := (1 : Int32)) hx hb d_Model_useless_37 (by decide) ?_
          refine lv_iload_n hx hb d_Model_useless_38 rfl (lv_at hl 3 rfl) ?_
          refine lv_ishl hx hb d_Model_useless_39 ?_
          refine lv_goto (tgt := 44) hx hb d_Model_useless_40 (by decide) ?_
          refine lv_ior hx hb d_Model_useless_44 ?_
          refine lv_istore_n (lv' := [(2, .int (x2 ||| ((1 : Int32) <<< (x3 &&& 31)))), (0, .ref a_t), (1, .int x1), (3, .int x3)]) hx hb d_Model_useless_45 rfl hl (by decide) rfl (fun ls hl => ?_)
          refine lv_iinc (v := (x3 + (1 : Int32))) (lv' := [(3, .int (x3 + (1 : Int32))), (2, .int (x2 ||| ((1 : Int32) <<< (x3 &&& 31)))), (0, .ref a_t), (1, .int x1)]) hx hb d_Model_useless_46 hl (k := 3) rfl (iinc_e (by decide)) (by decide) rfl (fun ls hl => ?_)
          refine lv_goto (tgt := 15) hx hb d_Model_useless_49 (by decide) ?_
          exact ih x1 (x2 ||| ((1 : Int32) <<< (x3 &&& 31))) (x3 + (1 : Int32)) w_4_0 w_4_1 _ _ _ _ h K _ _ hW ls (lv_sub hl [2, 3, 1, 0] rfl)
  refine lv_aload_n hx hb d_Model_useless_0 rfl (lv_at hl 0 rfl) ?_
  refine lv_bipush (v := (-6 : Int32)) hx hb d_Model_useless_1 (by decide) ?_
  obtain ⟨w_1_0, w_1_1, hc_1, h⟩ := bk2_e h
  refine x_cv (ws' := [(a_t, .inr (10, [.int v_t_numbers, .int v_t_onTicket, .int v_t_drawn, .int v_t_due, .ref a_t_tickets, .int v_t_ticketMany, .int v_t_fond, .ref a_t_prizes, .ref a_t_sightTicket, .ref a_t_sightRight, .ref a_t_sightHow, .int v_t_sights, .ref a_t_draws, .int v_t_drawMany, .ref a_t_sets, .int v_t_setMany, .ref a_t_winsLow, .ref a_t_winsHigh, .ref a_t_pad, .int v_t_padMany, .long w_1_1, .long w_1_0, .ref a_t_could, .int v_t_couldMany, .ref a_t_row, .ref a_t_best, .ref a_t_kept, .ref a_t_isKept, .int v_t_keptAt, .int v_t_isWriting])), (a_t_draws, .inl (I, 70, .inl v_t_draws)), (a_t_tickets, .inl (I, 6, .inl v_t_tickets))]) (x_runV (As := [.int (-6 : Int32)]) (rest := []) hC hW (c_Model_flagsBut l D I J Z a_t a_t_draws a_t_tickets a_t_prizes a_t_sightTicket a_t_sightRight a_t_sightHow a_t_sets a_t_winsLow a_t_winsHigh a_t_pad a_t_could a_t_row a_t_best a_t_kept a_t_isKept v_t_numbers v_t_onTicket v_t_drawn v_t_due v_t_ticketMany v_t_fond v_t_sights v_t_drawMany v_t_setMany v_t_padMany v_t_low v_t_high v_t_couldMany v_t_keptAt v_t_isWriting v_t_draws v_t_tickets (-6 : Int32) (w_1_0, w_1_1) hc_1) cl_Model_142 q_code_Model_flagsBut [0, 1, 2] rfl (by decide) 0 rfl rfl rfl rfl hl.1 (Nat.le_of_ble_eq_true rfl) (rm_ok hR1 hR2 (by decide) (by decide)) ⟨Nat.zero_le _, Nat.zero_le _⟩ d_Model_useless_3) hW hA [0, 1, 2] rfl rfl (ps := [some 0, some 1, some 2]) (by decide +kernel) ⟨rfl, rfl, rfl, trivial⟩ (fun H locs hW => ?_)
  refine lv_aload_n hx hb d_Model_useless_6 rfl (lv_at hl 0 rfl) ?_
  obtain ⟨r_2, hc_2, h⟩ := bk1_e h
  refine x_ci (ws' := [(a_t, .inr (10, [.int v_t_numbers, .int v_t_onTicket, .int v_t_drawn, .int v_t_due, .ref a_t_tickets, .int v_t_ticketMany, .int v_t_fond, .ref a_t_prizes, .ref a_t_sightTicket, .ref a_t_sightRight, .ref a_t_sightHow, .int v_t_sights, .ref a_t_draws, .int v_t_drawMany, .ref a_t_sets, .int v_t_setMany, .ref a_t_winsLow, .ref a_t_winsHigh, .ref a_t_pad, .int v_t_padMany, .long w_1_1, .long w_1_0, .ref a_t_could, .int v_t_couldMany, .ref a_t_row, .ref a_t_best, .ref a_t_kept, .ref a_t_isKept, .int v_t_keptAt, .int v_t_isWriting])), (a_t_draws, .inl (I, 70, .inl v_t_draws)), (a_t_tickets, .inl (I, 6, .inl v_t_tickets))]) (x_runV (As := []) (rest := []) hC hW (c_Model_flagged l D I J Z a_t a_t_tickets a_t_prizes a_t_sightTicket a_t_sightRight a_t_sightHow a_t_draws a_t_sets a_t_winsLow a_t_winsHigh a_t_pad a_t_could a_t_row a_t_best a_t_kept a_t_isKept v_t_numbers v_t_onTicket v_t_drawn v_t_due v_t_ticketMany v_t_fond v_t_sights v_t_drawMany v_t_setMany v_t_padMany w_1_1 w_1_0 v_t_couldMany v_t_keptAt v_t_isWriting (r_2) hc_2) cl_Model_146 q_code_Model_flagged [0] rfl (by decide) 0 rfl rfl rfl rfl hl.1 (Nat.le_of_ble_eq_true rfl) (rm_ok hR1 hR2 (by decide) (by decide)) ⟨Nat.zero_le _, Nat.zero_le _⟩ d_Model_useless_7) hW hA [0] rfl rfl (ps := [some 0, none, none]) (by decide +kernel) ⟨rfl, rfl, rfl, trivial⟩ (fun H locs hW => ?_)
  refine lv_istore_n (lv' := [(1, .int r_2), (0, .ref a_t)]) hx hb d_Model_useless_10 rfl hl (by decide) rfl (fun ls hl => ?_)
  refine lv_iconst (v := (0 : Int32)) hx hb d_Model_useless_11 (by decide) ?_
  refine lv_istore_n (lv' := [(2, .int (0 : Int32)), (1, .int r_2), (0, .ref a_t)]) hx hb d_Model_useless_12 rfl hl (by decide) rfl (fun ls hl => ?_)
  refine lv_iconst (v := (0 : Int32)) hx hb d_Model_useless_13 (by decide) ?_
  refine lv_istore_n (lv' := [(3, .int (0 : Int32)), (2, .int (0 : Int32)), (1, .int r_2), (0, .ref a_t)]) hx hb d_Model_useless_14 rfl hl (by decide) rfl (fun ls hl => ?_)
  obtain ⟨yx2_7, yx3_7, y_t_high_7, y_t_low_7, hv_7, h⟩ := bk4_e h
  refine lp15 _ r_2 (0 : Int32) (0 : Int32) w_1_0 w_1_1 yx2_7 yx3_7 y_t_high_7 y_t_low_7 hv_7 (fun H locs hW ls hl => ?_) _ _ hW ls (lv_sub hl [3, 2, 1, 0] rfl)
  refine lv_iload_n hx hb d_Model_useless_52 rfl (lv_at hl 2 rfl) ?_
  cases h
  rw [hQ]
  exact x_iret hC hr hW d_Model_useless_53

def L_Model_often_20 (x1 : Int32) (v_t_ticketMany : Int32) (v_t_tickets : Nat → Int32) : Nat → Int32 → Int32 → Option (Int32 × Int32)
  | 0, _, _ => none
  | n + 1, x2, x3 => if v_t_ticketMany ≤ x3 then some (x2, x3) else gd x3 6 (L_Model_often_20 x1 v_t_ticketMany v_t_tickets n (x2 + (((v_t_tickets x3.toNatClampNeg) >>> ((x1 - (1 : Int32)) &&& 31)) &&& (1 : Int32))) (x3 + (1 : Int32)))
def f_Model_often (v_t_numbers : Int32) (v_t_ticketMany : Int32) (v_t_tickets : Nat → Int32) (p0 : Int32) : Option (Int32) :=
  bk1 (f_Model_in p0.toInt64 (1 : Int64) v_t_numbers.toInt64) fun r_1 => if r_1 = (0 : Int32) then some ((-1 : Int32)) else bk2 (L_Model_often_20 p0 v_t_ticketMany v_t_tickets 300 (0 : Int32) (0 : Int32)) fun yx2_5 yx3_5 => some (yx2_5)
set_option maxHeartbeats 4000000 in
set_option maxRecDepth 100000 in
theorem c_Model_often (l : Launch) (D : va_G) (I J Z : ClassId) (a_t : Nat) (a_t_tickets : Nat) (a_t_prizes : Nat) (a_t_sightTicket : Nat) (a_t_sightRight : Nat) (a_t_sightHow : Nat) (a_t_draws : Nat) (a_t_sets : Nat) (a_t_winsLow : Nat) (a_t_winsHigh : Nat) (a_t_pad : Nat) (a_t_could : Nat) (a_t_row : Nat) (a_t_best : Nat) (a_t_kept : Nat) (a_t_isKept : Nat)  (v_t_numbers : Int32) (v_t_onTicket : Int32) (v_t_drawn : Int32) (v_t_due : Int32) (v_t_ticketMany : Int32) (v_t_fond : Int32) (v_t_sights : Int32) (v_t_drawMany : Int32) (v_t_setMany : Int32) (v_t_padMany : Int32) (v_t_low : Int64) (v_t_high : Int64) (v_t_couldMany : Int32) (v_t_keptAt : Int32) (v_t_isWriting : Int32) (v_t_tickets : Nat → Int32) (p0 : Int32) (out : (Int32)) (h : f_Model_often v_t_numbers v_t_ticketMany v_t_tickets p0 = some out) : CT l D I J Z y_Model_often b_Model_often 4 (some .int) 2 [.ref a_t, .int p0] [(a_t, .inr (10, [.int v_t_numbers, .int v_t_onTicket, .int v_t_drawn, .int v_t_due, .ref a_t_tickets, .int v_t_ticketMany, .int v_t_fond, .ref a_t_prizes, .ref a_t_sightTicket, .ref a_t_sightRight, .ref a_t_sightHow, .int v_t_sights, .ref a_t_draws, .int v_t_drawMany, .ref a_t_sets, .int v_t_setMany, .ref a_t_winsLow, .ref a_t_winsHigh, .ref a_t_pad, .int v_t_padMany, .long v_t_low, .long v_t_high, .ref a_t_could, .int v_t_couldMany, .ref a_t_row, .ref a_t_best, .ref a_t_kept, .ref a_t_isKept, .int v_t_keptAt, .int v_t_isWriting])), (a_t_tickets, .inl (I, 6, .inl v_t_tickets))] (PoI out D [(a_t, .inr (10, [.int v_t_numbers, .int v_t_onTicket, .int v_t_drawn, .int v_t_due, .ref a_t_tickets, .int v_t_ticketMany, .int v_t_fond, .ref a_t_prizes, .ref a_t_sightTicket, .ref a_t_sightRight, .ref a_t_sightHow, .int v_t_sights, .ref a_t_draws, .int v_t_drawMany, .ref a_t_sets, .int v_t_setMany, .ref a_t_winsLow, .ref a_t_winsHigh, .ref a_t_pad, .int v_t_padMany, .long v_t_low, .long v_t_high, .ref a_t_could, .int v_t_couldMany, .ref a_t_row, .ref a_t_best, .ref a_t_kept, .ref a_t_isKept, .int v_t_keptAt, .int v_t_isWriting])), (a_t_tickets, .inl (I, 6, .inl v_t_tickets))]) := by
  unfold f_Model_often at h
  refine CT_of R_Model (by decide +kernel) rfl (Nat.le_of_ble_eq_true rfl) ?_
  intro p e R s m args below meth c A ls Q hR1 hR2 hQ hC hr hW hA hl
  have hx := hC.1
  have hb := hC.2.1
  have hl : lv_has ls 4 [(0, .ref a_t), (1, .int p0)] := hl
  have lp20 : ∀ (n : Nat) (x1 : Int32) (x2 : Int32) (x3 : Int32) (yx2 : Int32) (yx3 : Int32), L_Model_often_20 x1 v_t_ticketMany v_t_tickets n x2 x3 = some (yx2, yx3) →
    (∀ H locs, Wd D A s.heap [(a_t, .inr (10, [.int v_t_numbers, .int v_t_onTicket, .int v_t_drawn, .int v_t_due, .ref a_t_tickets, .int v_t_ticketMany, .int v_t_fond, .ref a_t_prizes, .ref a_t_sightTicket, .ref a_t_sightRight, .ref a_t_sightHow, .int v_t_sights, .ref a_t_draws, .int v_t_drawMany, .ref a_t_sets, .int v_t_setMany, .ref a_t_winsLow, .ref a_t_winsHigh, .ref a_t_pad, .int v_t_padMany, .long v_t_low, .long v_t_high, .ref a_t_could, .int v_t_couldMany, .ref a_t_row, .ref a_t_best, .ref a_t_kept, .ref a_t_isKept, .int v_t_keptAt, .int v_t_isWriting])), (a_t_tickets, .inl (I, 6, .inl v_t_tickets))] H locs → ∀ ls, lv_has ls 4 [(0, .ref a_t), (1, .int x1), (2, .int yx2), (3, .int yx3)] → W p l e R s m args below meth c H locs 0 0 Q (F0 m 49 ls [])) →
    ∀ H locs, Wd D A s.heap [(a_t, .inr (10, [.int v_t_numbers, .int v_t_onTicket, .int v_t_drawn, .int v_t_due, .ref a_t_tickets, .int v_t_ticketMany, .int v_t_fond, .ref a_t_prizes, .ref a_t_sightTicket, .ref a_t_sightRight, .ref a_t_sightHow, .int v_t_sights, .ref a_t_draws, .int v_t_drawMany, .ref a_t_sets, .int v_t_setMany, .ref a_t_winsLow, .ref a_t_winsHigh, .ref a_t_pad, .int v_t_padMany, .long v_t_low, .long v_t_high, .ref a_t_could, .int v_t_couldMany, .ref a_t_row, .ref a_t_best, .ref a_t_kept, .ref a_t_isKept, .int v_t_keptAt, .int v_t_isWriting])), (a_t_tickets, .inl (I, 6, .inl v_t_tickets))] H locs → ∀ ls, lv_has ls 4 [(0, .ref a_t), (1, .int x1), (2, .int x2), (3, .int x3)] → W p l e R s m args below meth c H locs 0 0 Q (F0 m 20 ls []) := by
    intro n
    induction n with
    | zero =>
      intro x1 x2 x3 yx2 yx3 h
      exact no_e h
    | succ n ih =>
      intro x1 x2 x3 yx2 yx3 h K H locs hW ls hl
      rw [L_Model_often_20] at h
      refine lv_iload_n hx hb d_Model_often_20 rfl (lv_at hl 3 rfl) ?_
      refine lv_aload_n hx hb d_Model_often_21 rfl (lv_at hl 0 rfl) ?_
      refine x_get hC hW 0 rfl fl_Model_74 rfl d_Model_often_22 ?_
      refine lv_icmp_ge (tgt := 49) hx hb d_Model_often_25 (by decide) (fun c_3 => ?_) (fun c_3 => ?_)
      · have h := it_e c_3 h
        cases h
        exact K _ _ hW ls (lv_sub hl [0, 1, 2, 3] rfl)
      · have h := ie_e c_3 h
        refine lv_iload_n hx hb d_Model_often_28 rfl (lv_at hl 2 rfl) ?_
        refine lv_aload_n hx hb d_Model_often_29 rfl (lv_at hl 0 rfl) ?_
        refine x_get hC hW 0 rfl fl_Model_7 rfl d_Model_often_30 ?_
        refine lv_iload_n hx hb d_Model_often_33 rfl (lv_at hl 3 rfl) ?_
        obtain ⟨hi_4, h⟩ := gd_e h
        refine x_iald hC hW 1 rfl hi_4 d_Model_often_34 ?_
        refine lv_iload_n hx hb d_Model_often_35 rfl (lv_at hl 1 rfl) ?_
        refine lv_iconst (v := (1 : Int32)) hx hb d_Model_often_36 (by decide) ?_
        refine lv_isub hx hb d_Model_often_37 ?_
        refine lv_ishr hx hb d_Model_often_38 ?_
        refine lv_iconst (v := (1 : Int32)) hx hb d_Model_often_39 (by decide) ?_
        refine lv_iand hx hb d_Model_often_40 ?_
        refine lv_iadd hx hb d_Model_often_41 ?_
        refine lv_istore_n (lv' := [(2, .int (x2 + (((v_t_tickets x3.toNatClampNeg) >>> ((x1 - (1 : Int32)) &&& 31)) &&& (1 : Int32)))), (0, .ref a_t), (1, .int x1), (3, .int x3)]) hx hb d_Model_often_42 rfl hl (by decide) rfl (fun ls hl => ?_)
        refine lv_iinc (v := (x3 + (1 : Int32))) (lv' := [(3, .int (x3 + (1 : Int32))), (2, .int (x2 + (((v_t_tickets x3.toNatClampNeg) >>> ((x1 - (1 : Int32)) &&& 31)) &&& (1 : Int32)))), (0, .ref a_t), (1, .int x1)]) hx hb d_Model_often_43 hl (k := 3) rfl (iinc_e (by decide)) (by decide) rfl (fun ls hl => ?_)
        refine lv_goto (tgt := 20) hx hb d_Model_often_46 (by decide) ?_
        exact ih x1 (x2 + (((v_t_tickets x3.toNatClampNeg) >>> ((x1 - (1 : Int32)) &&& 31)) &&& (1 : Int32))) (x3 + (1 : Int32)) _ _ h K _ _ hW ls (lv_sub hl [2, 3, 1, 0] rfl)
  refine lv_iload_n hx hb d_Model_often_0 rfl (lv_at hl 1 rfl) ?_
  refine lv_i2l hx hb d_Model_often_1 rfl ?_
  refine lv_lconst (v := (1 : Int64)) hx hb d_Model_often_2 (by decide) ?_
  refine lv_aload_n hx hb d_Model_often_3 rfl (lv_at hl 0 rfl) ?_
  refine x_get hC hW 0 rfl fl_Model_61 rfl d_Model_often_4 ?_
  refine lv_i2l hx hb d_Model_often_7 rfl ?_
  obtain ⟨r_1, hc_1, h⟩ := bk1_e h
  refine x_ci (ws' := [(a_t, .inr (10, [.int v_t_numbers, .int v_t_onTicket, .int v_t_drawn, .int v_t_due, .ref a_t_tickets, .int v_t_ticketMany, .int v_t_fond, .ref a_t_prizes, .ref a_t_sightTicket, .ref a_t_sightRight, .ref a_t_sightHow, .int v_t_sights, .ref a_t_draws, .int v_t_drawMany, .ref a_t_sets, .int v_t_setMany, .ref a_t_winsLow, .ref a_t_winsHigh, .ref a_t_pad, .int v_t_padMany, .long v_t_low, .long v_t_high, .ref a_t_could, .int v_t_couldMany, .ref a_t_row, .ref a_t_best, .ref a_t_kept, .ref a_t_isKept, .int v_t_keptAt, .int v_t_isWriting])), (a_t_tickets, .inl (I, 6, .inl v_t_tickets))]) (x_runS (rest := []) hC hW (c_Model_in l D I J Z p0.toInt64 (1 : Int64) v_t_numbers.toInt64 (r_1) hc_1) cl_Model_111 q_code_Model_in [] rfl (by decide) rfl hl.1 (Nat.le_of_ble_eq_true rfl) (rm_ok hR1 hR2 (by decide) (by decide)) ⟨Nat.zero_le _, Nat.zero_le _⟩ d_Model_often_8) hW hA [] rfl rfl (ps := [none, none]) (by decide +kernel) ⟨rfl, rfl, trivial⟩ (fun H locs hW => ?_)
  refine lv_if_ne (tgt := 16) hx hb d_Model_often_11 (by decide) (fun c_2 => ?_) (fun c_2 => ?_)
  · have h := ie_e c_2 h
    refine lv_iconst (v := (0 : Int32)) hx hb d_Model_often_16 (by decide) ?_
    refine lv_istore_n (lv' := [(2, .int (0 : Int32)), (0, .ref a_t), (1, .int p0)]) hx hb d_Model_often_17 rfl hl (by decide) rfl (fun ls hl => ?_)
    refine lv_iconst (v := (0 : Int32)) hx hb d_Model_often_18 (by decide) ?_
    refine lv_istore_n (lv' := [(3, .int (0 : Int32)), (2, .int (0 : Int32)), (0, .ref a_t), (1, .int p0)]) hx hb d_Model_often_19 rfl hl (by decide) rfl (fun ls hl => ?_)
    obtain ⟨yx2_5, yx3_5, hv_5, h⟩ := bk2_e h
    refine lp20 _ p0 (0 : Int32) (0 : Int32) yx2_5 yx3_5 hv_5 (fun H locs hW ls hl => ?_) _ _ hW ls (lv_sub hl [2, 3, 1, 0] rfl)
    refine lv_iload_n hx hb d_Model_often_49 rfl (lv_at hl 2 rfl) ?_
    cases h
    rw [hQ]
    exact x_iret hC hr hW d_Model_often_50
  · have h := it_e c_2 h
    refine lv_iconst (v := (-1 : Int32)) hx hb d_Model_often_14 (by decide) ?_
    cases h
    rw [hQ]
    exact x_iret hC hr hW d_Model_often_15

def f_Model_prize (v_t_prizes : Nat → Int32) (p0 : Int32) (p1 : Int32) : Option (Int32 × (Nat → Int32)) :=
  bk1 (f_Model_in p0.toInt64 (0 : Int64) (8 : Int64)) fun r_1 => if r_1 = (0 : Int32) then some ((-2 : Int32), v_t_prizes) else bk1 (f_Model_in p1.toInt64 (0 : Int64) (999 : Int64)) fun r_3 => if r_3 = (0 : Int32) then some ((-2 : Int32), v_t_prizes) else gd p0 9 (gd p0 9 (some ((v_t_prizes p0.toNatClampNeg), (upd v_t_prizes p0.toNatClampNeg p1))))
set_option maxHeartbeats 4000000 in
set_option maxRecDepth 100000 in
theorem c_Model_prize (l : Launch) (D : va_G) (I J Z : ClassId) (a_t : Nat) (a_t_prizes : Nat) (a_t_tickets : Nat) (a_t_sightTicket : Nat) (a_t_sightRight : Nat) (a_t_sightHow : Nat) (a_t_draws : Nat) (a_t_sets : Nat) (a_t_winsLow : Nat) (a_t_winsHigh : Nat) (a_t_pad : Nat) (a_t_could : Nat) (a_t_row : Nat) (a_t_best : Nat) (a_t_kept : Nat) (a_t_isKept : Nat)  (v_t_numbers : Int32) (v_t_onTicket : Int32) (v_t_drawn : Int32) (v_t_due : Int32) (v_t_ticketMany : Int32) (v_t_fond : Int32) (v_t_sights : Int32) (v_t_drawMany : Int32) (v_t_setMany : Int32) (v_t_padMany : Int32) (v_t_low : Int64) (v_t_high : Int64) (v_t_couldMany : Int32) (v_t_keptAt : Int32) (v_t_isWriting : Int32) (v_t_prizes : Nat → Int32) (p0 : Int32) (p1 : Int32) (out : (Int32 × (Nat → Int32))) (h : f_Model_prize v_t_prizes p0 p1 = some out) : CT l D I J Z y_Model_prize b_Model_prize 4 (some .int) 2 [.ref a_t, .int p0, .int p1] [(a_t, .inr (10, [.int v_t_numbers, .int v_t_onTicket, .int v_t_drawn, .int v_t_due, .ref a_t_tickets, .int v_t_ticketMany, .int v_t_fond, .ref a_t_prizes, .ref a_t_sightTicket, .ref a_t_sightRight, .ref a_t_sightHow, .int v_t_sights, .ref a_t_draws, .int v_t_drawMany, .ref a_t_sets, .int v_t_setMany, .ref a_t_winsLow, .ref a_t_winsHigh, .ref a_t_pad, .int v_t_padMany, .long v_t_low, .long v_t_high, .ref a_t_could, .int v_t_couldMany, .ref a_t_row, .ref a_t_best, .ref a_t_kept, .ref a_t_isKept, .int v_t_keptAt, .int v_t_isWriting])), (a_t_prizes, .inl (I, 9, .inl v_t_prizes))] (PoI out.1 D [(a_t, .inr (10, [.int v_t_numbers, .int v_t_onTicket, .int v_t_drawn, .int v_t_due, .ref a_t_tickets, .int v_t_ticketMany, .int v_t_fond, .ref a_t_prizes, .ref a_t_sightTicket, .ref a_t_sightRight, .ref a_t_sightHow, .int v_t_sights, .ref a_t_draws, .int v_t_drawMany, .ref a_t_sets, .int v_t_setMany, .ref a_t_winsLow, .ref a_t_winsHigh, .ref a_t_pad, .int v_t_padMany, .long v_t_low, .long v_t_high, .ref a_t_could, .int v_t_couldMany, .ref a_t_row, .ref a_t_best, .ref a_t_kept, .ref a_t_isKept, .int v_t_keptAt, .int v_t_isWriting])), (a_t_prizes, .inl (I, 9, .inl out.2))]) := by
  unfold f_Model_prize at h
  refine CT_of R_Model (by decide +kernel) rfl (Nat.le_of_ble_eq_true rfl) ?_
  intro p e R s m args below meth c A ls Q hR1 hR2 hQ hC hr hW hA hl
  have hx := hC.1
  have hb := hC.2.1
  have hl : lv_has ls 4 [(0, .ref a_t), (1, .int p0), (2, .int p1)] := hl
  refine lv_iload_n hx hb d_Model_prize_0 rfl (lv_at hl 1 rfl) ?_
  refine lv_i2l hx hb d_Model_prize_1 rfl ?_
  refine lv_lconst (v := (0 : Int64)) hx hb d_Model_prize_2 (by decide) ?_
  refine x_ldc2 hC q_con_Model_109 d_Model_prize_3 ?_
  obtain ⟨r_1, hc_1, h⟩ := bk1_e h
  refine x_ci (ws' := [(a_t, .inr (10, [.int v_t_numbers, .int v_t_onTicket, .int v_t_drawn, .int v_t_due, .ref a_t_tickets, .int v_t_ticketMany, .int v_t_fond, .ref a_t_prizes, .ref a_t_sightTicket, .ref a_t_sightRight, .ref a_t_sightHow, .int v_t_sights, .ref a_t_draws, .int v_t_drawMany, .ref a_t_sets, .int v_t_setMany, .ref a_t_winsLow, .ref a_t_winsHigh, .ref a_t_pad, .int v_t_padMany, .long v_t_low, .long v_t_high, .ref a_t_could, .int v_t_couldMany, .ref a_t_row, .ref a_t_best, .ref a_t_kept, .ref a_t_isKept, .int v_t_keptAt, .int v_t_isWriting])), (a_t_prizes, .inl (I, 9, .inl v_t_prizes))]) (x_runS (rest := []) hC hW (c_Model_in l D I J Z p0.toInt64 (0 : Int64) (8 : Int64) (r_1) hc_1) cl_Model_111 q_code_Model_in [] rfl (by decide) rfl hl.1 (Nat.le_of_ble_eq_true rfl) (rm_ok hR1 hR2 (by decide) (by decide)) ⟨Nat.zero_le _, Nat.zero_le _⟩ d_Model_prize_6) hW hA [] rfl rfl (ps := [none, none]) (by decide +kernel) ⟨rfl, rfl, trivial⟩ (fun H locs hW => ?_)
  refine lv_if_eq (tgt := 24) hx hb d_Model_prize_9 (by decide) (fun c_2 => ?_) (fun c_2 => ?_)
  · have h := it_e c_2 h
    refine lv_bipush (v := (-2 : Int32)) hx hb d_Model_prize_24 (by decide) ?_
    cases h
    rw [hQ]
    exact x_iret hC hr hW d_Model_prize_26
  · have h := ie_e c_2 h
    refine lv_iload_n hx hb d_Model_prize_12 rfl (lv_at hl 2 rfl) ?_
    refine lv_i2l hx hb d_Model_prize_13 rfl ?_
    refine lv_lconst (v := (0 : Int64)) hx hb d_Model_prize_14 (by decide) ?_
    refine x_ldc2 hC q_con_Model_158 d_Model_prize_15 ?_
    obtain ⟨r_3, hc_3, h⟩ := bk1_e h
    refine x_ci (ws' := [(a_t, .inr (10, [.int v_t_numbers, .int v_t_onTicket, .int v_t_drawn, .int v_t_due, .ref a_t_tickets, .int v_t_ticketMany, .int v_t_fond, .ref a_t_prizes, .ref a_t_sightTicket, .ref a_t_sightRight, .ref a_t_sightHow, .int v_t_sights, .ref a_t_draws, .int v_t_drawMany, .ref a_t_sets, .int v_t_setMany, .ref a_t_winsLow, .ref a_t_winsHigh, .ref a_t_pad, .int v_t_padMany, .long v_t_low, .long v_t_high, .ref a_t_could, .int v_t_couldMany, .ref a_t_row, .ref a_t_best, .ref a_t_kept, .ref a_t_isKept, .int v_t_keptAt, .int v_t_isWriting])), (a_t_prizes, .inl (I, 9, .inl v_t_prizes))]) (x_runS (rest := []) hC hW (c_Model_in l D I J Z p1.toInt64 (0 : Int64) (999 : Int64) (r_3) hc_3) cl_Model_111 q_code_Model_in [] rfl (by decide) rfl hl.1 (Nat.le_of_ble_eq_true rfl) (rm_ok hR1 hR2 (by decide) (by decide)) ⟨Nat.zero_le _, Nat.zero_le _⟩ d_Model_prize_18) hW hA [] rfl rfl (ps := [none, none]) (by decide +kernel) ⟨rfl, rfl, trivial⟩ (fun H locs hW => ?_)
    refine lv_if_ne (tgt := 27) hx hb d_Model_prize_21 (by decide) (fun c_4 => ?_) (fun c_4 => ?_)
    · have h := ie_e c_4 h
      refine lv_aload_n hx hb d_Model_prize_27 rfl (lv_at hl 0 rfl) ?_
      refine x_get hC hW 0 rfl fl_Model_13 rfl d_Model_prize_28 ?_
      refine lv_iload_n hx hb d_Model_prize_31 rfl (lv_at hl 1 rfl) ?_
      obtain ⟨hi_5, h⟩ := gd_e h
      refine x_iald hC hW 1 rfl hi_5 d_Model_prize_32 ?_
      refine lv_istore_n (lv' := [(3, .int (v_t_prizes p0.toNatClampNeg)), (0, .ref a_t), (1, .int p0), (2, .int p1)]) hx hb d_Model_prize_33 rfl hl (by decide) rfl (fun ls hl => ?_)
      refine lv_aload_n hx hb d_Model_prize_34 rfl (lv_at hl 1 rfl) ?_
      refine x_get hC hW 0 rfl fl_Model_13 rfl d_Model_prize_35 ?_
      refine lv_iload_n hx hb d_Model_prize_38 rfl (lv_at hl 2 rfl) ?_
      refine lv_iload_n hx hb d_Model_prize_39 rfl (lv_at hl 3 rfl) ?_
      obtain ⟨hi_6, h⟩ := gd_e h
      refine x_iast (ws' := [(a_t, .inr (10, [.int v_t_numbers, .int v_t_onTicket, .int v_t_drawn, .int v_t_due, .ref a_t_tickets, .int v_t_ticketMany, .int v_t_fond, .ref a_t_prizes, .ref a_t_sightTicket, .ref a_t_sightRight, .ref a_t_sightHow, .int v_t_sights, .ref a_t_draws, .int v_t_drawMany, .ref a_t_sets, .int v_t_setMany, .ref a_t_winsLow, .ref a_t_winsHigh, .ref a_t_pad, .int v_t_padMany, .long v_t_low, .long v_t_high, .ref a_t_could, .int v_t_couldMany, .ref a_t_row, .ref a_t_best, .ref a_t_kept, .ref a_t_isKept, .int v_t_keptAt, .int v_t_isWriting])), (a_t_prizes, .inl (I, 9, .inl (upd v_t_prizes p0.toNatClampNeg p1)))]) hC hW 1 rfl hi_6 d_Model_prize_40 rfl (fun H locs hW => ?_)
      refine lv_iload_n hx hb d_Model_prize_41 rfl (lv_at hl 0 rfl) ?_
      cases h
      rw [hQ]
      exact x_iret hC hr hW d_Model_prize_42
    · have h := it_e c_4 h
      refine lv_bipush (v := (-2 : Int32)) hx hb d_Model_prize_24 (by decide) ?_
      cases h
      rw [hQ]
      exact x_iret hC hr hW d_Model_prize_26

def L_Model_penceBy_4 (x1 : Int32) (v_t_ticketMany : Int32) (v_t_prizes : Nat → Int32) (v_t_tickets : Nat → Int32) : Nat → Int32 → Int32 → Option (Int32 × Int32)
  | 0, _, _ => none
  | n + 1, x2, x3 => if v_t_ticketMany ≤ x3 then some (x2, x3) else gd x3 6 (bk1 (f_Model_ones ((v_t_tickets x3.toNatClampNeg) &&& x1).toInt64) fun r_3 => gd r_3 9 (L_Model_penceBy_4 x1 v_t_ticketMany v_t_prizes v_t_tickets n (x2 + (v_t_prizes r_3.toNatClampNeg)) (x3 + (1 : Int32))))
def f_Model_penceBy (v_t_ticketMany : Int32) (v_t_prizes : Nat → Int32) (v_t_tickets : Nat → Int32) (p0 : Int32) : Option (Int32) :=
  bk2 (L_Model_penceBy_4 p0 v_t_ticketMany v_t_prizes v_t_tickets 300 (0 : Int32) (0 : Int32)) fun yx2_5 yx3_5 => some (yx2_5)
set_option maxHeartbeats 4000000 in
set_option maxRecDepth 100000 in
theorem c_Model_penceBy (l : Launch) (D : va_G) (I J Z : ClassId) (a_t : Nat) (a_t_prizes : Nat) (a_t_tickets : Nat) (a_t_sightTicket : Nat) (a_t_sightRight : Nat) (a_t_sightHow : Nat) (a_t_draws : Nat) (a_t_sets : Nat) (a_t_winsLow : Nat) (a_t_winsHigh : Nat) (a_t_pad : Nat) (a_t_could : Nat) (a_t_row : Nat) (a_t_best : Nat) (a_t_kept : Nat) (a_t_isKept : Nat)  (v_t_numbers : Int32) (v_t_onTicket : Int32) (v_t_drawn : Int32) (v_t_due : Int32) (v_t_ticketMany : Int32) (v_t_fond : Int32) (v_t_sights : Int32) (v_t_drawMany : Int32) (v_t_setMany : Int32) (v_t_padMany : Int32) (v_t_low : Int64) (v_t_high : Int64) (v_t_couldMany : Int32) (v_t_keptAt : Int32) (v_t_isWriting : Int32) (v_t_prizes : Nat → Int32) (v_t_tickets : Nat → Int32) (p0 : Int32) (out : (Int32)) (h : f_Model_penceBy v_t_ticketMany v_t_prizes v_t_tickets p0 = some out) : CT l D I J Z y_Model_penceBy b_Model_penceBy 4 (some .int) 2 [.ref a_t, .int p0] [(a_t, .inr (10, [.int v_t_numbers, .int v_t_onTicket, .int v_t_drawn, .int v_t_due, .ref a_t_tickets, .int v_t_ticketMany, .int v_t_fond, .ref a_t_prizes, .ref a_t_sightTicket, .ref a_t_sightRight, .ref a_t_sightHow, .int v_t_sights, .ref a_t_draws, .int v_t_drawMany, .ref a_t_sets, .int v_t_setMany, .ref a_t_winsLow, .ref a_t_winsHigh, .ref a_t_pad, .int v_t_padMany, .long v_t_low, .long v_t_high, .ref a_t_could, .int v_t_couldMany, .ref a_t_row, .ref a_t_best, .ref a_t_kept, .ref a_t_isKept, .int v_t_keptAt, .int v_t_isWriting])), (a_t_prizes, .inl (I, 9, .inl v_t_prizes)), (a_t_tickets, .inl (I, 6, .inl v_t_tickets))] (PoI out D [(a_t, .inr (10, [.int v_t_numbers, .int v_t_onTicket, .int v_t_drawn, .int v_t_due, .ref a_t_tickets, .int v_t_ticketMany, .int v_t_fond, .ref a_t_prizes, .ref a_t_sightTicket, .ref a_t_sightRight, .ref a_t_sightHow, .int v_t_sights, .ref a_t_draws, .int v_t_drawMany, .ref a_t_sets, .int v_t_setMany, .ref a_t_winsLow, .ref a_t_winsHigh, .ref a_t_pad, .int v_t_padMany, .long v_t_low, .long v_t_high, .ref a_t_could, .int v_t_couldMany, .ref a_t_row, .ref a_t_best, .ref a_t_kept, .ref a_t_isKept, .int v_t_keptAt, .int v_t_isWriting])), (a_t_prizes, .inl (I, 9, .inl v_t_prizes)), (a_t_tickets, .inl (I, 6, .inl v_t_tickets))]) := by
  unfold f_Model_penceBy at h
  refine CT_of R_Model (by decide +kernel) rfl (Nat.le_of_ble_eq_true rfl) ?_
  intro p e R s m args below meth c A ls Q hR1 hR2 hQ hC hr hW hA hl
  have hx := hC.1
  have hb := hC.2.1
  have hl : lv_has ls 4 [(0, .ref a_t), (1, .int p0)] := hl
  have lp4 : ∀ (n : Nat) (x1 : Int32) (x2 : Int32) (x3 : Int32) (yx2 : Int32) (yx3 : Int32), L_Model_penceBy_4 x1 v_t_ticketMany v_t_prizes v_t_tickets n x2 x3 = some (yx2, yx3) →
    (∀ H locs, Wd D A s.heap [(a_t, .inr (10, [.int v_t_numbers, .int v_t_onTicket, .int v_t_drawn, .int v_t_due, .ref a_t_tickets, .int v_t_ticketMany, .int v_t_fond, .ref a_t_prizes, .ref a_t_sightTicket, .ref a_t_sightRight, .ref a_t_sightHow, .int v_t_sights, .ref a_t_draws, .int v_t_drawMany, .ref a_t_sets, .int v_t_setMany, .ref a_t_winsLow, .ref a_t_winsHigh, .ref a_t_pad, .int v_t_padMany, .long v_t_low, .long v_t_high, .ref a_t_could, .int v_t_couldMany, .ref a_t_row, .ref a_t_best, .ref a_t_kept, .ref a_t_isKept, .int v_t_keptAt, .int v_t_isWriting])), (a_t_prizes, .inl (I, 9, .inl v_t_prizes)), (a_t_tickets, .inl (I, 6, .inl v_t_tickets))] H locs → ∀ ls, lv_has ls 4 [(0, .ref a_t), (1, .int x1), (2, .int yx2), (3, .int yx3)] → W p l e R s m args below meth c H locs 0 0 Q (F0 m 38 ls [])) →
    ∀ H locs, Wd D A s.heap [(a_t, .inr (10, [.int v_t_numbers, .int v_t_onTicket, .int v_t_drawn, .int v_t_due, .ref a_t_tickets, .int v_t_ticketMany, .int v_t_fond, .ref a_t_prizes, .ref a_t_sightTicket, .ref a_t_sightRight, .ref a_t_sightHow, .int v_t_sights, .ref a_t_draws, .int v_t_drawMany, .ref a_t_sets, .int v_t_setMany, .ref a_t_winsLow, .ref a_t_winsHigh, .ref a_t_pad, .int v_t_padMany, .long v_t_low, .long v_t_high, .ref a_t_could, .int v_t_couldMany, .ref a_t_row, .ref a_t_best, .ref a_t_kept, .ref a_t_isKept, .int v_t_keptAt, .int v_t_isWriting])), (a_t_prizes, .inl (I, 9, .inl v_t_prizes)), (a_t_tickets, .inl (I, 6, .inl v_t_tickets))] H locs → ∀ ls, lv_has ls 4 [(0, .ref a_t), (1, .int x1), (2, .int x2), (3, .int x3)] → W p l e R s m args below meth c H locs 0 0 Q (F0 m 4 ls []) := by
    intro n
    induction n with
    | zero =>
      intro x1 x2 x3 yx2 yx3 h
      exact no_e h
    | succ n ih =>
      intro x1 x2 x3 yx2 yx3 h K H locs hW ls hl
      rw [L_Model_penceBy_4] at h
      refine lv_iload_n hx hb d_Model_penceBy_4 rfl (lv_at hl 3 rfl) ?_
      refine lv_aload_n hx hb d_Model_penceBy_5 rfl (lv_at hl 0 rfl) ?_
      refine x_get hC hW 0 rfl fl_Model_74 rfl d_Model_penceBy_6 ?_
      refine lv_icmp_ge (tgt := 38) hx hb d_Model_penceBy_9 (by decide) (fun c_1 => ?_) (fun c_1 => ?_)
      · have h := it_e c_1 h
        cases h
        exact K _ _ hW ls (lv_sub hl [0, 1, 2, 3] rfl)
      · have h := ie_e c_1 h
        refine lv_iload_n hx hb d_Model_penceBy_12 rfl (lv_at hl 2 rfl) ?_
        refine lv_aload_n hx hb d_Model_penceBy_13 rfl (lv_at hl 0 rfl) ?_
        refine x_get hC hW 0 rfl fl_Model_13 rfl d_Model_penceBy_14 ?_
        refine lv_aload_n hx hb d_Model_penceBy_17 rfl (lv_at hl 0 rfl) ?_
        refine x_get hC hW 0 rfl fl_Model_7 rfl d_Model_penceBy_18 ?_
        refine lv_iload_n hx hb d_Model_penceBy_21 rfl (lv_at hl 3 rfl) ?_
        obtain ⟨hi_2, h⟩ := gd_e h
        refine x_iald hC hW 2 rfl hi_2 d_Model_penceBy_22 ?_
        refine lv_iload_n hx hb d_Model_penceBy_23 rfl (lv_at hl 1 rfl) ?_
        refine lv_iand hx hb d_Model_penceBy_24 ?_
        refine lv_i2l hx hb d_Model_penceBy_25 rfl ?_
        obtain ⟨r_3, hc_3, h⟩ := bk1_e h
        refine x_ci (ws' := [(a_t, .inr (10, [.int v_t_numbers, .int v_t_onTicket, .int v_t_drawn, .int v_t_due, .ref a_t_tickets, .int v_t_ticketMany, .int v_t_fond, .ref a_t_prizes, .ref a_t_sightTicket, .ref a_t_sightRight, .ref a_t_sightHow, .int v_t_sights, .ref a_t_draws, .int v_t_drawMany, .ref a_t_sets, .int v_t_setMany, .ref a_t_winsLow, .ref a_t_winsHigh, .ref a_t_pad, .int v_t_padMany, .long v_t_low, .long v_t_high, .ref a_t_could, .int v_t_couldMany, .ref a_t_row, .ref a_t_best, .ref a_t_kept, .ref a_t_isKept, .int v_t_keptAt, .int v_t_isWriting])), (a_t_prizes, .inl (I, 9, .inl v_t_prizes)), (a_t_tickets, .inl (I, 6, .inl v_t_tickets))]) (x_runS (rest := [.ref a_t_prizes, .int x2]) hC hW (c_Model_ones l D I J Z ((v_t_tickets x3.toNatClampNeg) &&& x1).toInt64 (r_3) hc_3) cl_Model_92 q_code_Model_ones [] rfl (by decide) rfl hl.1 (Nat.le_of_ble_eq_true rfl) (rm_ok hR1 hR2 (by decide) (by decide)) ⟨Nat.zero_le _, Nat.zero_le _⟩ d_Model_penceBy_26) hW hA [] rfl rfl (ps := [none, none, none]) (by decide +kernel) ⟨rfl, rfl, rfl, trivial⟩ (fun H locs hW => ?_)
        obtain ⟨hi_4, h⟩ := gd_e h
        refine x_iald hC hW 1 rfl hi_4 d_Model_penceBy_29 ?_
        refine lv_iadd hx hb d_Model_penceBy_30 ?_
        refine lv_istore_n (lv' := [(2, .int (x2 + (v_t_prizes r_3.toNatClampNeg))), (0, .ref a_t), (1, .int x1), (3, .int x3)]) hx hb d_Model_penceBy_31 rfl hl (by decide) rfl (fun ls hl => ?_)
        refine lv_iinc (v := (x3 + (1 : Int32))) (lv' := [(3, .int (x3 + (1 : Int32))), (2, .int (x2 + (v_t_prizes r_3.toNatClampNeg))), (0, .ref a_t), (1, .int x1)]) hx hb d_Model_penceBy_32 hl (k := 3) rfl (iinc_e (by decide)) (by decide) rfl (fun ls hl => ?_)
        refine lv_goto (tgt := 4) hx hb d_Model_penceBy_35 (by decide) ?_
        exact ih x1 (x2 + (v_t_prizes r_3.toNatClampNeg)) (x3 + (1 : Int32)) _ _ h K _ _ hW ls (lv_sub hl [2, 3, 1, 0] rfl)
  refine lv_iconst (v := (0 : Int32)) hx hb d_Model_penceBy_0 (by decide) ?_
  refine lv_istore_n (lv' := [(2, .int (0 : Int32)), (0, .ref a_t), (1, .int p0)]) hx hb d_Model_penceBy_1 rfl hl (by decide) rfl (fun ls hl => ?_)
  refine lv_iconst (v := (0 : Int32)) hx hb d_Model_penceBy_2 (by decide) ?_
  refine lv_istore_n (lv' := [(3, .int (0 : Int32)), (2, .int (0 : Int32)), (0, .ref a_t), (1, .int p0)]) hx hb d_Model_penceBy_3 rfl hl (by decide) rfl (fun ls hl => ?_)
  obtain ⟨yx2_5, yx3_5, hv_5, h⟩ := bk2_e h
  refine lp4 _ p0 (0 : Int32) (0 : Int32) yx2_5 yx3_5 hv_5 (fun H locs hW ls hl => ?_) _ _ hW ls (lv_sub hl [2, 3, 1, 0] rfl)
  refine lv_iload_n hx hb d_Model_penceBy_38 rfl (lv_at hl 2 rfl) ?_
  cases h
  rw [hQ]
  exact x_iret hC hr hW d_Model_penceBy_39

def L_Model_mean_19 (v_t_drawMany : Int32) (v_t_ticketMany : Int32) (v_t_draws : Nat → Int32) (v_t_prizes : Nat → Int32) (v_t_tickets : Nat → Int32) : Nat → Int64 → Int32 → Option (Int64 × Int32)
  | 0, _, _ => none
  | n + 1, x2, x4 => if v_t_drawMany ≤ x4 then some (x2, x4) else gd x4 70 (bk1 (f_Model_penceBy v_t_ticketMany v_t_prizes v_t_tickets (v_t_draws x4.toNatClampNeg)) fun r_5 => L_Model_mean_19 v_t_drawMany v_t_ticketMany v_t_draws v_t_prizes v_t_tickets n (x2 + r_5.toInt64) (x4 + (1 : Int32)))
def f_Model_mean (v_t_drawMany : Int32) (v_t_ticketMany : Int32) (v_t_draws : Nat → Int32) (v_t_prizes : Nat → Int32) (v_t_tickets : Nat → Int32) (p0 : Int32) : Option (Int64) :=
  bk1 (f_Model_in p0.toInt64 (0 : Int64) (1 : Int64)) fun r_1 => if r_1 = (0 : Int32) then some ((-1000000000000000002 : Int64)) else bk2 (L_Model_mean_19 v_t_drawMany v_t_ticketMany v_t_draws v_t_prizes v_t_tickets 300 (0 : Int64) (0 : Int32)) fun yx2_6 yx4_6 => bk1 (f_Model_lowest yx2_6 v_t_drawMany.toInt64 p0) fun r_7 => some (r_7)
set_option maxHeartbeats 4000000 in
set_option maxRecDepth 100000 in
theorem c_Model_mean (l : Launch) (D : va_G) (I J Z : ClassId) (a_t : Nat) (a_t_draws : Nat) (a_t_prizes : Nat) (a_t_tickets : Nat) (a_t_sightTicket : Nat) (a_t_sightRight : Nat) (a_t_sightHow : Nat) (a_t_sets : Nat) (a_t_winsLow : Nat) (a_t_winsHigh : Nat) (a_t_pad : Nat) (a_t_could : Nat) (a_t_row : Nat) (a_t_best : Nat) (a_t_kept : Nat) (a_t_isKept : Nat)  (v_t_numbers : Int32) (v_t_onTicket : Int32) (v_t_drawn : Int32) (v_t_due : Int32) (v_t_ticketMany : Int32) (v_t_fond : Int32) (v_t_sights : Int32) (v_t_drawMany : Int32) (v_t_setMany : Int32) (v_t_padMany : Int32) (v_t_low : Int64) (v_t_high : Int64) (v_t_couldMany : Int32) (v_t_keptAt : Int32) (v_t_isWriting : Int32) (v_t_draws : Nat → Int32) (v_t_prizes : Nat → Int32) (v_t_tickets : Nat → Int32) (p0 : Int32) (out : (Int64)) (h : f_Model_mean v_t_drawMany v_t_ticketMany v_t_draws v_t_prizes v_t_tickets p0 = some out) : CT l D I J Z y_Model_mean b_Model_mean 5 (some .long) 3 [.ref a_t, .int p0] [(a_t, .inr (10, [.int v_t_numbers, .int v_t_onTicket, .int v_t_drawn, .int v_t_due, .ref a_t_tickets, .int v_t_ticketMany, .int v_t_fond, .ref a_t_prizes, .ref a_t_sightTicket, .ref a_t_sightRight, .ref a_t_sightHow, .int v_t_sights, .ref a_t_draws, .int v_t_drawMany, .ref a_t_sets, .int v_t_setMany, .ref a_t_winsLow, .ref a_t_winsHigh, .ref a_t_pad, .int v_t_padMany, .long v_t_low, .long v_t_high, .ref a_t_could, .int v_t_couldMany, .ref a_t_row, .ref a_t_best, .ref a_t_kept, .ref a_t_isKept, .int v_t_keptAt, .int v_t_isWriting])), (a_t_draws, .inl (I, 70, .inl v_t_draws)), (a_t_prizes, .inl (I, 9, .inl v_t_prizes)), (a_t_tickets, .inl (I, 6, .inl v_t_tickets))] (PoL out D [(a_t, .inr (10, [.int v_t_numbers, .int v_t_onTicket, .int v_t_drawn, .int v_t_due, .ref a_t_tickets, .int v_t_ticketMany, .int v_t_fond, .ref a_t_prizes, .ref a_t_sightTicket, .ref a_t_sightRight, .ref a_t_sightHow, .int v_t_sights, .ref a_t_draws, .int v_t_drawMany, .ref a_t_sets, .int v_t_setMany, .ref a_t_winsLow, .ref a_t_winsHigh, .ref a_t_pad, .int v_t_padMany, .long v_t_low, .long v_t_high, .ref a_t_could, .int v_t_couldMany, .ref a_t_row, .ref a_t_best, .ref a_t_kept, .ref a_t_isKept, .int v_t_keptAt, .int v_t_isWriting])), (a_t_draws, .inl (I, 70, .inl v_t_draws)), (a_t_prizes, .inl (I, 9, .inl v_t_prizes)), (a_t_tickets, .inl (I, 6, .inl v_t_tickets))]) := by
  unfold f_Model_mean at h
  refine CT_of R_Model (by decide +kernel) rfl (Nat.le_of_ble_eq_true rfl) ?_
  intro p e R s m args below meth c A ls Q hR1 hR2 hQ hC hr hW hA hl
  have hx := hC.1
  have hb := hC.2.1
  have hl : lv_has ls 5 [(0, .ref a_t), (1, .int p0)] := hl
  have lp19 : ∀ (n : Nat) (x1 : Int32) (x2 : Int64) (x4 : Int32) (yx2 : Int64) (yx4 : Int32), L_Model_mean_19 v_t_drawMany v_t_ticketMany v_t_draws v_t_prizes v_t_tickets n x2 x4 = some (yx2, yx4) →
    (∀ H locs, Wd D A s.heap [(a_t, .inr (10, [.int v_t_numbers, .int v_t_onTicket, .int v_t_drawn, .int v_t_due, .ref a_t_tickets, .int v_t_ticketMany, .int v_t_fond, .ref a_t_prizes, .ref a_t_sightTicket, .ref a_t_sightRight, .ref a_t_sightHow, .int v_t_sights, .ref a_t_draws, .int v_t_drawMany, .ref a_t_sets, .int v_t_setMany, .ref a_t_winsLow, .ref a_t_winsHigh, .ref a_t_pad, .int v_t_padMany, .long v_t_low, .long v_t_high, .ref a_t_could, .int v_t_couldMany, .ref a_t_row, .ref a_t_best, .ref a_t_kept, .ref a_t_isKept, .int v_t_keptAt, .int v_t_isWriting])), (a_t_draws, .inl (I, 70, .inl v_t_draws)), (a_t_prizes, .inl (I, 9, .inl v_t_prizes)), (a_t_tickets, .inl (I, 6, .inl v_t_tickets))] H locs → ∀ ls, lv_has ls 5 [(0, .ref a_t), (1, .int x1), (2, .long yx2), (4, .int yx4)] → W p l e R s m args below meth c H locs 0 0 Q (F0 m 49 ls [])) →
    ∀ H locs, Wd D A s.heap [(a_t, .inr (10, [.int v_t_numbers, .int v_t_onTicket, .int v_t_drawn, .int v_t_due, .ref a_t_tickets, .int v_t_ticketMany, .int v_t_fond, .ref a_t_prizes, .ref a_t_sightTicket, .ref a_t_sightRight, .ref a_t_sightHow, .int v_t_sights, .ref a_t_draws, .int v_t_drawMany, .ref a_t_sets, .int v_t_setMany, .ref a_t_winsLow, .ref a_t_winsHigh, .ref a_t_pad, .int v_t_padMany, .long v_t_low, .long v_t_high, .ref a_t_could, .int v_t_couldMany, .ref a_t_row, .ref a_t_best, .ref a_t_kept, .ref a_t_isKept, .int v_t_keptAt, .int v_t_isWriting])), (a_t_draws, .inl (I, 70, .inl v_t_draws)), (a_t_prizes, .inl (I, 9, .inl v_t_prizes)), (a_t_tickets, .inl (I, 6, .inl v_t_tickets))] H locs → ∀ ls, lv_has ls 5 [(0, .ref a_t), (1, .int x1), (2, .long x2), (4, .int x4)] → W p l e R s m args below meth c H locs 0 0 Q (F0 m 19 ls []) := by
    intro n
    induction n with
    | zero =>
      intro x1 x2 x4 yx2 yx4 h
      exact no_e h
    | succ n ih =>
      intro x1 x2 x4 yx2 yx4 h K H locs hW ls hl
      rw [L_Model_mean_19] at h
      refine lv_iload hx hb d_Model_mean_19 (lv_at hl 3 rfl) ?_
      refine lv_aload_n hx hb d_Model_mean_21 rfl (lv_at hl 0 rfl) ?_
      refine x_get hC hW 0 rfl fl_Model_86 rfl d_Model_mean_22 ?_
      refine lv_icmp_ge (tgt := 49) hx hb d_Model_mean_25 (by decide) (fun c_3 => ?_) (fun c_3 => ?_)
      · have h := it_e c_3 h
        cases h
        exact K _ _ hW ls (lv_sub hl [0, 1, 2, 3] rfl)
      · have h := ie_e c_3 h
        refine lv_lload_n hx hb d_Model_mean_28 rfl (lv_at hl 2 rfl) ?_
        refine lv_aload_n hx hb d_Model_mean_29 rfl (lv_at hl 0 rfl) ?_
        refine lv_aload_n hx hb d_Model_mean_30 rfl (lv_at hl 0 rfl) ?_
        refine x_get hC hW 0 rfl fl_Model_25 rfl d_Model_mean_31 ?_
        refine lv_iload hx hb d_Model_mean_34 (lv_at hl 3 rfl) ?_
        obtain ⟨hi_4, h⟩ := gd_e h
        refine x_iald hC hW 1 rfl hi_4 d_Model_mean_36 ?_
        obtain ⟨r_5, hc_5, h⟩ := bk1_e h
        refine x_ci (ws' := [(a_t, .inr (10, [.int v_t_numbers, .int v_t_onTicket, .int v_t_drawn, .int v_t_due, .ref a_t_tickets, .int v_t_ticketMany, .int v_t_fond, .ref a_t_prizes, .ref a_t_sightTicket, .ref a_t_sightRight, .ref a_t_sightHow, .int v_t_sights, .ref a_t_draws, .int v_t_drawMany, .ref a_t_sets, .int v_t_setMany, .ref a_t_winsLow, .ref a_t_winsHigh, .ref a_t_pad, .int v_t_padMany, .long v_t_low, .long v_t_high, .ref a_t_could, .int v_t_couldMany, .ref a_t_row, .ref a_t_best, .ref a_t_kept, .ref a_t_isKept, .int v_t_keptAt, .int v_t_isWriting])), (a_t_draws, .inl (I, 70, .inl v_t_draws)), (a_t_prizes, .inl (I, 9, .inl v_t_prizes)), (a_t_tickets, .inl (I, 6, .inl v_t_tickets))]) (x_runV (As := [.int (v_t_draws x4.toNatClampNeg)]) (rest := [.long x2]) hC hW (c_Model_penceBy l D I J Z a_t a_t_prizes a_t_tickets a_t_sightTicket a_t_sightRight a_t_sightHow a_t_draws a_t_sets a_t_winsLow a_t_winsHigh a_t_pad a_t_could a_t_row a_t_best a_t_kept a_t_isKept v_t_numbers v_t_onTicket v_t_drawn v_t_due v_t_ticketMany v_t_fond v_t_sights v_t_drawMany v_t_setMany v_t_padMany v_t_low v_t_high v_t_couldMany v_t_keptAt v_t_isWriting v_t_prizes v_t_tickets (v_t_draws x4.toNatClampNeg) (r_5) hc_5) cl_Model_160 q_code_Model_penceBy [0, 2, 3] rfl (by decide) 0 rfl rfl rfl rfl hl.1 (Nat.le_of_ble_eq_true rfl) (rm_ok hR1 hR2 (by decide) (by decide)) ⟨Nat.zero_le _, Nat.zero_le _⟩ d_Model_mean_37) hW hA [0, 2, 3] rfl rfl (ps := [some 0, none, some 1, some 2]) (by decide +kernel) ⟨rfl, rfl, rfl, rfl, trivial⟩ (fun H locs hW => ?_)
        refine lv_i2l hx hb d_Model_mean_40 rfl ?_
        refine lv_ladd hx hb d_Model_mean_41 ?_
        refine lv_lstore_n (lv' := [(2, .long (x2 + r_5.toInt64)), (0, .ref a_t), (1, .int x1), (4, .int x4)]) hx hb d_Model_mean_42 rfl hl (by decide) rfl (fun ls hl => ?_)
        refine lv_iinc (v := (x4 + (1 : Int32))) (lv' := [(4, .int (x4 + (1 : Int32))), (2, .long (x2 + r_5.toInt64)), (0, .ref a_t), (1, .int x1)]) hx hb d_Model_mean_43 hl (k := 3) rfl (iinc_e (by decide)) (by decide) rfl (fun ls hl => ?_)
        refine lv_goto (tgt := 19) hx hb d_Model_mean_46 (by decide) ?_
        exact ih x1 (x2 + r_5.toInt64) (x4 + (1 : Int32)) _ _ h K _ _ hW ls (lv_sub hl [2, 3, 1, 0] rfl)
  refine lv_iload_n hx hb d_Model_mean_0 rfl (lv_at hl 1 rfl) ?_
  refine lv_i2l hx hb d_Model_mean_1 rfl ?_
  refine lv_lconst (v := (0 : Int64)) hx hb d_Model_mean_2 (by decide) ?_
  refine lv_lconst (v := (1 : Int64)) hx hb d_Model_mean_3 (by decide) ?_
  obtain ⟨r_1, hc_1, h⟩ := bk1_e h
  refine x_ci (ws' := [(a_t, .inr (10, [.int v_t_numbers, .int v_t_onTicket, .int v_t_drawn, .int v_t_due, .ref a_t_tickets, .int v_t_ticketMany, .int v_t_fond, .ref a_t_prizes, .ref a_t_sightTicket, .ref a_t_sightRight, .ref a_t_sightHow, .int v_t_sights, .ref a_t_draws, .int v_t_drawMany, .ref a_t_sets, .int v_t_setMany, .ref a_t_winsLow, .ref a_t_winsHigh, .ref a_t_pad, .int v_t_padMany, .long v_t_low, .long v_t_high, .ref a_t_could, .int v_t_couldMany, .ref a_t_row, .ref a_t_best, .ref a_t_kept, .ref a_t_isKept, .int v_t_keptAt, .int v_t_isWriting])), (a_t_draws, .inl (I, 70, .inl v_t_draws)), (a_t_prizes, .inl (I, 9, .inl v_t_prizes)), (a_t_tickets, .inl (I, 6, .inl v_t_tickets))]) (x_runS (rest := []) hC hW (c_Model_in l D I J Z p0.toInt64 (0 : Int64) (1 : Int64) (r_1) hc_1) cl_Model_111 q_code_Model_in [] rfl (by decide) rfl hl.1 (Nat.le_of_ble_eq_true rfl) (rm_ok hR1 hR2 (by decide) (by decide)) ⟨Nat.zero_le _, Nat.zero_le _⟩ d_Model_mean_4) hW hA [] rfl rfl (ps := [none, none, none, none]) (by decide +kernel) ⟨rfl, rfl, rfl, rfl, trivial⟩ (fun H locs hW => ?_)
  refine lv_if_ne (tgt := 14) hx hb d_Model_mean_7 (by decide) (fun c_2 => ?_) (fun c_2 => ?_)
  · have h := ie_e c_2 h
    refine lv_lconst (v := (0 : Int64)) hx hb d_Model_mean_14 (by decide) ?_
    refine lv_lstore_n (lv' := [(2, .long (0 : Int64)), (0, .ref a_t), (1, .int p0)]) hx hb d_Model_mean_15 rfl hl (by decide) rfl (fun ls hl => ?_)
    refine lv_iconst (v := (0 : Int32)) hx hb d_Model_mean_16 (by decide) ?_
    refine lv_istore (lv' := [(4, .int (0 : Int32)), (2, .long (0 : Int64)), (0, .ref a_t), (1, .int p0)]) hx hb d_Model_mean_17 hl (by decide) rfl (fun ls hl => ?_)
    obtain ⟨yx2_6, yx4_6, hv_6, h⟩ := bk2_e h
    refine lp19 _ p0 (0 : Int64) (0 : Int32) yx2_6 yx4_6 hv_6 (fun H locs hW ls hl => ?_) _ _ hW ls (lv_sub hl [2, 3, 1, 0] rfl)
    refine lv_lload_n hx hb d_Model_mean_49 rfl (lv_at hl 2 rfl) ?_
    refine lv_aload_n hx hb d_Model_mean_50 rfl (lv_at hl 0 rfl) ?_
    refine x_get hC hW 0 rfl fl_Model_86 rfl d_Model_mean_51 ?_
    refine lv_i2l hx hb d_Model_mean_54 rfl ?_
    refine lv_iload_n hx hb d_Model_mean_55 rfl (lv_at hl 1 rfl) ?_
    obtain ⟨r_7, hc_7, h⟩ := bk1_e h
    refine x_cl (ws' := [(a_t, .inr (10, [.int v_t_numbers, .int v_t_onTicket, .int v_t_drawn, .int v_t_due, .ref a_t_tickets, .int v_t_ticketMany, .int v_t_fond, .ref a_t_prizes, .ref a_t_sightTicket, .ref a_t_sightRight, .ref a_t_sightHow, .int v_t_sights, .ref a_t_draws, .int v_t_drawMany, .ref a_t_sets, .int v_t_setMany, .ref a_t_winsLow, .ref a_t_winsHigh, .ref a_t_pad, .int v_t_padMany, .long v_t_low, .long v_t_high, .ref a_t_could, .int v_t_couldMany, .ref a_t_row, .ref a_t_best, .ref a_t_kept, .ref a_t_isKept, .int v_t_keptAt, .int v_t_isWriting])), (a_t_draws, .inl (I, 70, .inl v_t_draws)), (a_t_prizes, .inl (I, 9, .inl v_t_prizes)), (a_t_tickets, .inl (I, 6, .inl v_t_tickets))]) (x_runS (rest := []) hC hW (c_Model_lowest l D I J Z yx2_6 v_t_drawMany.toInt64 p0 (r_7) hc_7) cl_Model_154 q_code_Model_lowest [] rfl (by decide) rfl hl.1 (Nat.le_of_ble_eq_true rfl) (rm_ok hR1 hR2 (by decide) (by decide)) ⟨Nat.zero_le _, Nat.zero_le _⟩ d_Model_mean_56) hW hA [] rfl rfl (ps := [none, none, none, none]) (by decide +kernel) ⟨rfl, rfl, rfl, rfl, trivial⟩ (fun H locs hW => ?_)
    cases h
    rw [hQ]
    exact x_lret hC hr hW d_Model_mean_59
  · have h := it_e c_2 h
    refine x_ldc2 hC q_con_Model_152 d_Model_mean_10 ?_
    cases h
    rw [hQ]
    exact x_lret hC hr hW d_Model_mean_13

def L_Model_findCould_7 (v_t_fond : Int32) (v_t_setMany : Int32) (v_t_sets : Nat → Int32) : Nat → Int32 → Int32 → (Nat → Int32) → Option (Int32 × Int32 × (Nat → Int32))
  | 0, _, _, _ => none
  | n + 1, x1, v_t_couldMany, v_t_could => if v_t_setMany ≤ x1 then some (x1, v_t_couldMany, v_t_could) else gd x1 70 (if ((v_t_sets x1.toNatClampNeg) &&& v_t_fond) = v_t_fond then gd v_t_couldMany 70 (L_Model_findCould_7 v_t_fond v_t_setMany v_t_sets n (x1 + (1 : Int32)) (v_t_couldMany + (1 : Int32)) (upd v_t_could v_t_couldMany.toNatClampNeg x1)) else L_Model_findCould_7 v_t_fond v_t_setMany v_t_sets n (x1 + (1 : Int32)) v_t_couldMany v_t_could)
def f_Model_findCould (v_t_fond : Int32) (v_t_setMany : Int32) (v_t_could : Nat → Int32) (v_t_sets : Nat → Int32) : Option (Int32 × (Nat → Int32)) :=
  bk3 (L_Model_findCould_7 v_t_fond v_t_setMany v_t_sets 300 (0 : Int32) (0 : Int32) v_t_could) fun yx1_5 y_t_couldMany_5 y_t_could_5 => some (y_t_couldMany_5, y_t_could_5)
set_option maxHeartbeats 4000000 in
set_option maxRecDepth 100000 in
theorem c_Model_findCould (l : Launch) (D : va_G) (I J Z : ClassId) (a_t : Nat) (a_t_could : Nat) (a_t_sets : Nat) (a_t_tickets : Nat) (a_t_prizes : Nat) (a_t_sightTicket : Nat) (a_t_sightRight : Nat) (a_t_sightHow : Nat) (a_t_draws : Nat) (a_t_winsLow : Nat) (a_t_winsHigh : Nat) (a_t_pad : Nat) (a_t_row : Nat) (a_t_best : Nat) (a_t_kept : Nat) (a_t_isKept : Nat)  (v_t_numbers : Int32) (v_t_onTicket : Int32) (v_t_drawn : Int32) (v_t_due : Int32) (v_t_ticketMany : Int32) (v_t_fond : Int32) (v_t_sights : Int32) (v_t_drawMany : Int32) (v_t_setMany : Int32) (v_t_padMany : Int32) (v_t_low : Int64) (v_t_high : Int64) (v_t_couldMany : Int32) (v_t_keptAt : Int32) (v_t_isWriting : Int32) (v_t_could : Nat → Int32) (v_t_sets : Nat → Int32)  (out : (Int32 × (Nat → Int32))) (h : f_Model_findCould v_t_fond v_t_setMany v_t_could v_t_sets = some out) : CT l D I J Z y_Model_findCould b_Model_findCould 2 none 1 [.ref a_t] [(a_t, .inr (10, [.int v_t_numbers, .int v_t_onTicket, .int v_t_drawn, .int v_t_due, .ref a_t_tickets, .int v_t_ticketMany, .int v_t_fond, .ref a_t_prizes, .ref a_t_sightTicket, .ref a_t_sightRight, .ref a_t_sightHow, .int v_t_sights, .ref a_t_draws, .int v_t_drawMany, .ref a_t_sets, .int v_t_setMany, .ref a_t_winsLow, .ref a_t_winsHigh, .ref a_t_pad, .int v_t_padMany, .long v_t_low, .long v_t_high, .ref a_t_could, .int v_t_couldMany, .ref a_t_row, .ref a_t_best, .ref a_t_kept, .ref a_t_isKept, .int v_t_keptAt, .int v_t_isWriting])), (a_t_could, .inl (I, 70, .inl v_t_could)), (a_t_sets, .inl (I, 70, .inl v_t_sets))] (PoV D [(a_t, .inr (10, [.int v_t_numbers, .int v_t_onTicket, .int v_t_drawn, .int v_t_due, .ref a_t_tickets, .int v_t_ticketMany, .int v_t_fond, .ref a_t_prizes, .ref a_t_sightTicket, .ref a_t_sightRight, .ref a_t_sightHow, .int v_t_sights, .ref a_t_draws, .int v_t_drawMany, .ref a_t_sets, .int v_t_setMany, .ref a_t_winsLow, .ref a_t_winsHigh, .ref a_t_pad, .int v_t_padMany, .long v_t_low, .long v_t_high, .ref a_t_could, .int out.1, .ref a_t_row, .ref a_t_best, .ref a_t_kept, .ref a_t_isKept, .int v_t_keptAt, .int v_t_isWriting])), (a_t_could, .inl (I, 70, .inl out.2)), (a_t_sets, .inl (I, 70, .inl v_t_sets))]) := by
  unfold f_Model_findCould at h
  refine CT_of R_Model (by decide +kernel) rfl (Nat.le_of_ble_eq_true rfl) ?_
  intro p e R s m args below meth c A ls Q hR1 hR2 hQ hC hr hW hA hl
  have hx := hC.1
  have hb := hC.2.1
  have hl : lv_has ls 2 [(0, .ref a_t)] := hl
  have lp7 : ∀ (n : Nat) (x1 : Int32) (v_t_couldMany : Int32) (v_t_could : Nat → Int32) (yx1 : Int32) (y_t_couldMany : Int32) (y_t_could : Nat → Int32), L_Model_findCould_7 v_t_fond v_t_setMany v_t_sets n x1 v_t_couldMany v_t_could = some (yx1, y_t_couldMany, y_t_could) →
    (∀ H locs, Wd D A s.heap [(a_t, .inr (10, [.int v_t_numbers, .int v_t_onTicket, .int v_t_drawn, .int v_t_due, .ref a_t_tickets, .int v_t_ticketMany, .int v_t_fond, .ref a_t_prizes, .ref a_t_sightTicket, .ref a_t_sightRight, .ref a_t_sightHow, .int v_t_sights, .ref a_t_draws, .int v_t_drawMany, .ref a_t_sets, .int v_t_setMany, .ref a_t_winsLow, .ref a_t_winsHigh, .ref a_t_pad, .int v_t_padMany, .long v_t_low, .long v_t_high, .ref a_t_could, .int y_t_couldMany, .ref a_t_row, .ref a_t_best, .ref a_t_kept, .ref a_t_isKept, .int v_t_keptAt, .int v_t_isWriting])), (a_t_could, .inl (I, 70, .inl y_t_could)), (a_t_sets, .inl (I, 70, .inl v_t_sets))] H locs → ∀ ls, lv_has ls 2 [(0, .ref a_t), (1, .int yx1)] → W p l e R s m args below meth c H locs 0 0 Q (F0 m 59 ls [])) →
    ∀ H locs, Wd D A s.heap [(a_t, .inr (10, [.int v_t_numbers, .int v_t_onTicket, .int v_t_drawn, .int v_t_due, .ref a_t_tickets, .int v_t_ticketMany, .int v_t_fond, .ref a_t_prizes, .ref a_t_sightTicket, .ref a_t_sightRight, .ref a_t_sightHow, .int v_t_sights, .ref a_t_draws, .int v_t_drawMany, .ref a_t_sets, .int v_t_setMany, .ref a_t_winsLow, .ref a_t_winsHigh, .ref a_t_pad, .int v_t_padMany, .long v_t_low, .long v_t_high, .ref a_t_could, .int v_t_couldMany, .ref a_t_row, .ref a_t_best, .ref a_t_kept, .ref a_t_isKept, .int v_t_keptAt, .int v_t_isWriting])), (a_t_could, .inl (I, 70, .inl v_t_could)), (a_t_sets, .inl (I, 70, .inl v_t_sets))] H locs → ∀ ls, lv_has ls 2 [(0, .ref a_t), (1, .int x1)] → W p l e R s m args below meth c H locs 0 0 Q (F0 m 7 ls []) := by
    intro n
    induction n with
    | zero =>
      intro x1 v_t_couldMany v_t_could yx1 y_t_couldMany y_t_could h
      exact no_e h
    | succ n ih =>
      intro x1 v_t_couldMany v_t_could yx1 y_t_couldMany y_t_could h K H locs hW ls hl
      rw [L_Model_findCould_7] at h
      refine lv_iload_n hx hb d_Model_findCould_7 rfl (lv_at hl 1 rfl) ?_
      refine lv_aload_n hx hb d_Model_findCould_8 rfl (lv_at hl 0 rfl) ?_
      refine x_get hC hW 0 rfl fl_Model_89 rfl d_Model_findCould_9 ?_
      refine lv_icmp_ge (tgt := 59) hx hb d_Model_findCould_12 (by decide) (fun c_1 => ?_) (fun c_1 => ?_)
      · have h := it_e c_1 h
        cases h
        exact K _ _ hW ls (lv_sub hl [0, 1] rfl)
      · have h := ie_e c_1 h
        refine lv_aload_n hx hb d_Model_findCould_15 rfl (lv_at hl 0 rfl) ?_
        refine x_get hC hW 0 rfl fl_Model_28 rfl d_Model_findCould_16 ?_
        refine lv_iload_n hx hb d_Model_findCould_19 rfl (lv_at hl 1 rfl) ?_
        obtain ⟨hi_2, h⟩ := gd_e h
        refine x_iald hC hW 2 rfl hi_2 d_Model_findCould_20 ?_
        refine lv_aload_n hx hb d_Model_findCould_21 rfl (lv_at hl 0 rfl) ?_
        refine x_get hC hW 0 rfl fl_Model_77 rfl d_Model_findCould_22 ?_
        refine lv_iand hx hb d_Model_findCould_25 ?_
        refine lv_aload_n hx hb d_Model_findCould_26 rfl (lv_at hl 0 rfl) ?_
        refine x_get hC hW 0 rfl fl_Model_77 rfl d_Model_findCould_27 ?_
        refine lv_icmp_ne (tgt := 53) hx hb d_Model_findCould_30 (by decide) (fun c_3 => ?_) (fun c_3 => ?_)
        · have h := ie_e c_3 h
          refine lv_iinc (v := (x1 + (1 : Int32))) (lv' := [(1, .int (x1 + (1 : Int32))), (0, .ref a_t)]) hx hb d_Model_findCould_53 hl (k := 1) rfl (iinc_e (by decide)) (by decide) rfl (fun ls hl => ?_)
          refine lv_goto (tgt := 7) hx hb d_Model_findCould_56 (by decide) ?_
          exact ih (x1 + (1 : Int32)) v_t_couldMany v_t_could _ _ _ h K _ _ hW ls (lv_sub hl [1, 0] rfl)
        · have h := it_e c_3 h
          refine lv_aload_n hx hb d_Model_findCould_33 rfl (lv_at hl 0 rfl) ?_
          refine x_get hC hW 0 rfl fl_Model_41 rfl d_Model_findCould_34 ?_
          refine lv_aload_n hx hb d_Model_findCould_37 rfl (lv_at hl 0 rfl) ?_
          refine x_get hC hW 0 rfl fl_Model_164 rfl d_Model_findCould_38 ?_
          refine lv_iload_n hx hb d_Model_findCould_41 rfl (lv_at hl 1 rfl) ?_
          obtain ⟨hi_4, h⟩ := gd_e h
          refine x_iast (ws' := [(a_t, .inr (10, [.int v_t_numbers, .int v_t_onTicket, .int v_t_drawn, .int v_t_due, .ref a_t_tickets, .int v_t_ticketMany, .int v_t_fond, .ref a_t_prizes, .ref a_t_sightTicket, .ref a_t_sightRight, .ref a_t_sightHow, .int v_t_sights, .ref a_t_draws, .int v_t_drawMany, .ref a_t_sets, .int v_t_setMany, .ref a_t_winsLow, .ref a_t_winsHigh, .ref a_t_pad, .int v_t_padMany, .long v_t_low, .long v_t_high, .ref a_t_could, .int v_t_couldMany, .ref a_t_row, .ref a_t_best, .ref a_t_kept, .ref a_t_isKept, .int v_t_keptAt, .int v_t_isWriting])), (a_t_could, .inl (I, 70, .inl (upd v_t_could v_t_couldMany.toNatClampNeg x1))), (a_t_sets, .inl (I, 70, .inl v_t_sets))]) hC hW 1 rfl hi_4 d_Model_findCould_42 rfl (fun H locs hW => ?_)
          refine lv_aload_n hx hb d_Model_findCould_43 rfl (lv_at hl 0 rfl) ?_
          refine lv_dup hx hb d_Model_findCould_44 rfl ?_
          refine x_get hC hW 0 rfl fl_Model_164 rfl d_Model_findCould_45 ?_
          refine lv_iconst (v := (1 : Int32)) hx hb d_Model_findCould_48 (by decide) ?_
          refine lv_iadd hx hb d_Model_findCould_49 ?_
          refine x_put (ws' := [(a_t, .inr (10, [.int v_t_numbers, .int v_t_onTicket, .int v_t_drawn, .int v_t_due, .ref a_t_tickets, .int v_t_ticketMany, .int v_t_fond, .ref a_t_prizes, .ref a_t_sightTicket, .ref a_t_sightRight, .ref a_t_sightHow, .int v_t_sights, .ref a_t_draws, .int v_t_drawMany, .ref a_t_sets, .int v_t_setMany, .ref a_t_winsLow, .ref a_t_winsHigh, .ref a_t_pad, .int v_t_padMany, .long v_t_low, .long v_t_high, .ref a_t_could, .int (v_t_couldMany + (1 : Int32)), .ref a_t_row, .ref a_t_best, .ref a_t_kept, .ref a_t_isKept, .int v_t_keptAt, .int v_t_isWriting])), (a_t_could, .inl (I, 70, .inl (upd v_t_could v_t_couldMany.toNatClampNeg x1))), (a_t_sets, .inl (I, 70, .inl v_t_sets))]) hC hW 0 rfl fp_Model_164 rfl rfl (Nat.le_of_ble_eq_true rfl) d_Model_findCould_50 rfl (fun H locs hW => ?_)
          refine lv_iinc (v := (x1 + (1 : Int32))) (lv' := [(1, .int (x1 + (1 : Int32))), (0, .ref a_t)]) hx hb d_Model_findCould_53 hl (k := 1) rfl (iinc_e (by decide)) (by decide) rfl (fun ls hl => ?_)
          refine lv_goto (tgt := 7) hx hb d_Model_findCould_56 (by decide) ?_
          exact ih (x1 + (1 : Int32)) (v_t_couldMany + (1 : Int32)) (upd v_t_could v_t_couldMany.toNatClampNeg x1) _ _ _ h K _ _ hW ls (lv_sub hl [1, 0] rfl)
  refine lv_aload_n hx hb d_Model_findCould_0 rfl (lv_at hl 0 rfl) ?_
  refine lv_iconst (v := (0 : Int32)) hx hb d_Model_findCould_1 (by decide) ?_
  refine x_put (ws' := [(a_t, .inr (10, [.int v_t_numbers, .int v_t_onTicket, .int v_t_drawn, .int v_t_due, .ref a_t_tickets, .int v_t_ticketMany, .int v_t_fond, .ref a_t_prizes, .ref a_t_sightTicket, .ref a_t_sightRight, .ref a_t_sightHow, .int v_t_sights, .ref a_t_draws, .int v_t_drawMany, .ref a_t_sets, .int v_t_setMany, .ref a_t_winsLow, .ref a_t_winsHigh, .ref a_t_pad, .int v_t_padMany, .long v_t_low, .long v_t_high, .ref a_t_could, .int (0 : Int32), .ref a_t_row, .ref a_t_best, .ref a_t_kept, .ref a_t_isKept, .int v_t_keptAt, .int v_t_isWriting])), (a_t_could, .inl (I, 70, .inl v_t_could)), (a_t_sets, .inl (I, 70, .inl v_t_sets))]) hC hW 0 rfl fp_Model_164 rfl rfl (Nat.le_of_ble_eq_true rfl) d_Model_findCould_2 rfl (fun H locs hW => ?_)
  refine lv_iconst (v := (0 : Int32)) hx hb d_Model_findCould_5 (by decide) ?_
  refine lv_istore_n (lv' := [(1, .int (0 : Int32)), (0, .ref a_t)]) hx hb d_Model_findCould_6 rfl hl (by decide) rfl (fun ls hl => ?_)
  obtain ⟨yx1_5, y_t_couldMany_5, y_t_could_5, hv_5, h⟩ := bk3_e h
  refine lp7 _ (0 : Int32) (0 : Int32) v_t_could yx1_5 y_t_couldMany_5 y_t_could_5 hv_5 (fun H locs hW ls hl => ?_) _ _ hW ls (lv_sub hl [1, 0] rfl)
  cases h
  rw [hQ]
  exact x_vret hC hr hW d_Model_findCould_59

def L_Model_layRow_2 (x1 : Int32) : Nat → Int32 → (Nat → Int32) → Option (Int32 × (Nat → Int32))
  | 0, _, _ => none
  | n + 1, x2, v_t_row => if x1 ≤ x2 then some (x2, v_t_row) else gd x2 4 (L_Model_layRow_2 x1 n (x2 + (1 : Int32)) (upd v_t_row x2.toNatClampNeg x2))
def f_Model_layRow (v_t_row : Nat → Int32) (p0 : Int32) : Option ((Nat → Int32)) :=
  bk2 (L_Model_layRow_2 p0 300 (0 : Int32) v_t_row) fun yx2_3 y_t_row_3 => some (y_t_row_3)
set_option maxHeartbeats 4000000 in
set_option maxRecDepth 100000 in
theorem c_Model_layRow (l : Launch) (D : va_G) (I J Z : ClassId) (a_t : Nat) (a_t_row : Nat) (a_t_tickets : Nat) (a_t_prizes : Nat) (a_t_sightTicket : Nat) (a_t_sightRight : Nat) (a_t_sightHow : Nat) (a_t_draws : Nat) (a_t_sets : Nat) (a_t_winsLow : Nat) (a_t_winsHigh : Nat) (a_t_pad : Nat) (a_t_could : Nat) (a_t_best : Nat) (a_t_kept : Nat) (a_t_isKept : Nat)  (v_t_numbers : Int32) (v_t_onTicket : Int32) (v_t_drawn : Int32) (v_t_due : Int32) (v_t_ticketMany : Int32) (v_t_fond : Int32) (v_t_sights : Int32) (v_t_drawMany : Int32) (v_t_setMany : Int32) (v_t_padMany : Int32) (v_t_low : Int64) (v_t_high : Int64) (v_t_couldMany : Int32) (v_t_keptAt : Int32) (v_t_isWriting : Int32) (v_t_row : Nat → Int32) (p0 : Int32) (out : ((Nat → Int32))) (h : f_Model_layRow v_t_row p0 = some out) : CT l D I J Z y_Model_layRow b_Model_layRow 3 none 1 [.ref a_t, .int p0] [(a_t, .inr (10, [.int v_t_numbers, .int v_t_onTicket, .int v_t_drawn, .int v_t_due, .ref a_t_tickets, .int v_t_ticketMany, .int v_t_fond, .ref a_t_prizes, .ref a_t_sightTicket, .ref a_t_sightRight, .ref a_t_sightHow, .int v_t_sights, .ref a_t_draws, .int v_t_drawMany, .ref a_t_sets, .int v_t_setMany, .ref a_t_winsLow, .ref a_t_winsHigh, .ref a_t_pad, .int v_t_padMany, .long v_t_low, .long v_t_high, .ref a_t_could, .int v_t_couldMany, .ref a_t_row, .ref a_t_best, .ref a_t_kept, .ref a_t_isKept, .int v_t_keptAt, .int v_t_isWriting])), (a_t_row, .inl (I, 4, .inl v_t_row))] (PoV D [(a_t, .inr (10, [.int v_t_numbers, .int v_t_onTicket, .int v_t_drawn, .int v_t_due, .ref a_t_tickets, .int v_t_ticketMany, .int v_t_fond, .ref a_t_prizes, .ref a_t_sightTicket, .ref a_t_sightRight, .ref a_t_sightHow, .int v_t_sights, .ref a_t_draws, .int v_t_drawMany, .ref a_t_sets, .int v_t_setMany, .ref a_t_winsLow, .ref a_t_winsHigh, .ref a_t_pad, .int v_t_padMany, .long v_t_low, .long v_t_high, .ref a_t_could, .int v_t_couldMany, .ref a_t_row, .ref a_t_best, .ref a_t_kept, .ref a_t_isKept, .int v_t_keptAt, .int v_t_isWriting])), (a_t_row, .inl (I, 4, .inl out))]) := by
  unfold f_Model_layRow at h
  refine CT_of R_Model (by decide +kernel) rfl (Nat.le_of_ble_eq_true rfl) ?_
  intro p e R s m args below meth c A ls Q hR1 hR2 hQ hC hr hW hA hl
  have hx := hC.1
  have hb := hC.2.1
  have hl : lv_has ls 3 [(0, .ref a_t), (1, .int p0)] := hl
  have lp2 : ∀ (n : Nat) (x1 : Int32) (x2 : Int32) (v_t_row : Nat → Int32) (yx2 : Int32) (y_t_row : Nat → Int32), L_Model_layRow_2 x1 n x2 v_t_row = some (yx2, y_t_row) →
    (∀ H locs, Wd D A s.heap [(a_t, .inr (10, [.int v_t_numbers, .int v_t_onTicket, .int v_t_drawn, .int v_t_due, .ref a_t_tickets, .int v_t_ticketMany, .int v_t_fond, .ref a_t_prizes, .ref a_t_sightTicket, .ref a_t_sightRight, .ref a_t_sightHow, .int v_t_sights, .ref a_t_draws, .int v_t_drawMany, .ref a_t_sets, .int v_t_setMany, .ref a_t_winsLow, .ref a_t_winsHigh, .ref a_t_pad, .int v_t_padMany, .long v_t_low, .long v_t_high, .ref a_t_could, .int v_t_couldMany, .ref a_t_row, .ref a_t_best, .ref a_t_kept, .ref a_t_isKept, .int v_t_keptAt, .int v_t_isWriting])), (a_t_row, .inl (I, 4, .inl y_t_row))] H locs → ∀ ls, lv_has ls 3 [(0, .ref a_t), (1, .int x1), (2, .int yx2)] → W p l e R s m args below meth c H locs 0 0 Q (F0 m 20 ls [])) →
    ∀ H locs, Wd D A s.heap [(a_t, .inr (10, [.int v_t_numbers, .int v_t_onTicket, .int v_t_drawn, .int v_t_due, .ref a_t_tickets, .int v_t_ticketMany, .int v_t_fond, .ref a_t_prizes, .ref a_t_sightTicket, .ref a_t_sightRight, .ref a_t_sightHow, .int v_t_sights, .ref a_t_draws, .int v_t_drawMany, .ref a_t_sets, .int v_t_setMany, .ref a_t_winsLow, .ref a_t_winsHigh, .ref a_t_pad, .int v_t_padMany, .long v_t_low, .long v_t_high, .ref a_t_could, .int v_t_couldMany, .ref a_t_row, .ref a_t_best, .ref a_t_kept, .ref a_t_isKept, .int v_t_keptAt, .int v_t_isWriting])), (a_t_row, .inl (I, 4, .inl v_t_row))] H locs → ∀ ls, lv_has ls 3 [(0, .ref a_t), (1, .int x1), (2, .int x2)] → W p l e R s m args below meth c H locs 0 0 Q (F0 m 2 ls []) := by
    intro n
    induction n with
    | zero =>
      intro x1 x2 v_t_row yx2 y_t_row h
      exact no_e h
    | succ n ih =>
      intro x1 x2 v_t_row yx2 y_t_row h K H locs hW ls hl
      rw [L_Model_layRow_2] at h
      refine lv_iload_n hx hb d_Model_layRow_2 rfl (lv_at hl 2 rfl) ?_
      refine lv_iload_n hx hb d_Model_layRow_3 rfl (lv_at hl 1 rfl) ?_
      refine lv_icmp_ge (tgt := 20) hx hb d_Model_layRow_4 (by decide) (fun c_1 => ?_) (fun c_1 => ?_)
      · have h := it_e c_1 h
        cases h
        exact K _ _ hW ls (lv_sub hl [0, 1, 2] rfl)
      · have h := ie_e c_1 h
        refine lv_aload_n hx hb d_Model_layRow_7 rfl (lv_at hl 0 rfl) ?_
        refine x_get hC hW 0 rfl fl_Model_44 rfl d_Model_layRow_8 ?_
        refine lv_iload_n hx hb d_Model_layRow_11 rfl (lv_at hl 2 rfl) ?_
        refine lv_iload_n hx hb d_Model_layRow_12 rfl (lv_at hl 2 rfl) ?_
        obtain ⟨hi_2, h⟩ := gd_e h
        refine x_iast (ws' := [(a_t, .inr (10, [.int v_t_numbers, .int v_t_onTicket, .int v_t_drawn, .int v_t_due, .ref a_t_tickets, .int v_t_ticketMany, .int v_t_fond, .ref a_t_prizes, .ref a_t_sightTicket, .ref a_t_sightRight, .ref a_t_sightHow, .int v_t_sights, .ref a_t_draws, .int v_t_drawMany, .ref a_t_sets, .int v_t_setMany, .ref a_t_winsLow, .ref a_t_winsHigh, .ref a_t_pad, .int v_t_padMany, .long v_t_low, .long v_t_high, .ref a_t_could, .int v_t_couldMany, .ref a_t_row, .ref a_t_best, .ref a_t_kept, .ref a_t_isKept, .int v_t_keptAt, .int v_t_isWriting])), (a_t_row, .inl (I, 4, .inl (upd v_t_row x2.toNatClampNeg x2)))]) hC hW 1 rfl hi_2 d_Model_layRow_13 rfl (fun H locs hW => ?_)
        refine lv_iinc (v := (x2 + (1 : Int32))) (lv' := [(2, .int (x2 + (1 : Int32))), (0, .ref a_t), (1, .int x1)]) hx hb d_Model_layRow_14 hl (k := 2) rfl (iinc_e (by decide)) (by decide) rfl (fun ls hl => ?_)
        refine lv_goto (tgt := 2) hx hb d_Model_layRow_17 (by decide) ?_
        exact ih x1 (x2 + (1 : Int32)) (upd v_t_row x2.toNatClampNeg x2) _ _ h K _ _ hW ls (lv_sub hl [1, 2, 0] rfl)
  refine lv_iconst (v := (0 : Int32)) hx hb d_Model_layRow_0 (by decide) ?_
  refine lv_istore_n (lv' := [(2, .int (0 : Int32)), (0, .ref a_t), (1, .int p0)]) hx hb d_Model_layRow_1 rfl hl (by decide) rfl (fun ls hl => ?_)
  obtain ⟨yx2_3, y_t_row_3, hv_3, h⟩ := bk2_e h
  refine lp2 _ p0 (0 : Int32) v_t_row yx2_3 y_t_row_3 hv_3 (fun H locs hW ls hl => ?_) _ _ hW ls (lv_sub hl [1, 2, 0] rfl)
  cases h
  rw [hQ]
  exact x_vret hC hr hW d_Model_layRow_20

def L_Model_wonByRow_12 (x1 : Int32) (v_t_could : Nat → Int32) (v_t_row : Nat → Int32) (v_t_winsHigh : Nat → Int64) (v_t_winsLow : Nat → Int64) : Nat → Int32 → Int64 → Int64 → Option (Int32 × Int64 × Int64)
  | 0, _, _, _ => none
  | n + 1, x2, v_t_high, v_t_low => if x1 ≤ x2 then some (x2, v_t_high, v_t_low) else gd x2 4 (gd (v_t_row x2.toNatClampNeg) 70 (gd (v_t_could (v_t_row x2.toNatClampNeg).toNatClampNeg) 70 (gd x2 4 (gd (v_t_row x2.toNatClampNeg) 70 (gd (v_t_could (v_t_row x2.toNatClampNeg).toNatClampNeg) 70 (L_Model_wonByRow_12 x1 v_t_could v_t_row v_t_winsHigh v_t_winsLow n (x2 + (1 : Int32)) (v_t_high ||| (v_t_winsHigh (v_t_could (v_t_row x2.toNatClampNeg).toNatClampNeg).toNatClampNeg)) (v_t_low ||| (v_t_winsLow (v_t_could (v_t_row x2.toNatClampNeg).toNatClampNeg).toNatClampNeg))))))))
def f_Model_wonByRow (v_t_could : Nat → Int32) (v_t_row : Nat → Int32) (v_t_winsHigh : Nat → Int64) (v_t_winsLow : Nat → Int64) (p0 : Int32) : Option (Int32 × Int64 × Int64) :=
  bk3 (L_Model_wonByRow_12 p0 v_t_could v_t_row v_t_winsHigh v_t_winsLow 300 (0 : Int32) (0 : Int64) (0 : Int64)) fun yx2_8 y_t_high_8 y_t_low_8 => bk1 (f_Model_flagged y_t_high_8 y_t_low_8) fun r_9 => some (r_9, y_t_high_8, y_t_low_8)
set_option maxHeartbeats 4000000 in
set_option maxRecDepth 100000 in
theorem c_Model_wonByRow (l : Launch) (D : va_G) (I J Z : ClassId) (a_t : Nat) (a_t_could : Nat) (a_t_row : Nat) (a_t_winsHigh : Nat) (a_t_winsLow : Nat) (a_t_tickets : Nat) (a_t_prizes : Nat) (a_t_sightTicket : Nat) (a_t_sightRight : Nat) (a_t_sightHow : Nat) (a_t_draws : Nat) (a_t_sets : Nat) (a_t_pad : Nat) (a_t_best : Nat) (a_t_kept : Nat) (a_t_isKept : Nat)  (v_t_numbers : Int32) (v_t_onTicket : Int32) (v_t_drawn : Int32) (v_t_due : Int32) (v_t_ticketMany : Int32) (v_t_fond : Int32) (v_t_sights : Int32) (v_t_drawMany : Int32) (v_t_setMany : Int32) (v_t_padMany : Int32) (v_t_low : Int64) (v_t_high : Int64) (v_t_couldMany : Int32) (v_t_keptAt : Int32) (v_t_isWriting : Int32) (v_t_could : Nat → Int32) (v_t_row : Nat → Int32) (v_t_winsHigh : Nat → Int64) (v_t_winsLow : Nat → Int64) (p0 : Int32) (out : (Int32 × Int64 × Int64)) (h : f_Model_wonByRow v_t_could v_t_row v_t_winsHigh v_t_winsLow p0 = some out) : CT l D I J Z y_Model_wonByRow b_Model_wonByRow 3 (some .int) 3 [.ref a_t, .int p0] [(a_t, .inr (10, [.int v_t_numbers, .int v_t_onTicket, .int v_t_drawn, .int v_t_due, .ref a_t_tickets, .int v_t_ticketMany, .int v_t_fond, .ref a_t_prizes, .ref a_t_sightTicket, .ref a_t_sightRight, .ref a_t_sightHow, .int v_t_sights, .ref a_t_draws, .int v_t_drawMany, .ref a_t_sets, .int v_t_setMany, .ref a_t_winsLow, .ref a_t_winsHigh, .ref a_t_pad, .int v_t_padMany, .long v_t_low, .long v_t_high, .ref a_t_could, .int v_t_couldMany, .ref a_t_row, .ref a_t_best, .ref a_t_kept, .ref a_t_isKept, .int v_t_keptAt, .int v_t_isWriting])), (a_t_could, .inl (I, 70, .inl v_t_could)), (a_t_row, .inl (I, 4, .inl v_t_row)), (a_t_winsHigh, .inl (J, 70, .inr (.inl v_t_winsHigh))), (a_t_winsLow, .inl (J, 70, .inr (.inl v_t_winsLow)))] (PoI out.1 D [(a_t, .inr (10, [.int v_t_numbers, .int v_t_onTicket, .int v_t_drawn, .int v_t_due, .ref a_t_tickets, .int v_t_ticketMany, .int v_t_fond, .ref a_t_prizes, .ref a_t_sightTicket, .ref a_t_sightRight, .ref a_t_sightHow, .int v_t_sights, .ref a_t_draws, .int v_t_drawMany, .ref a_t_sets, .int v_t_setMany, .ref a_t_winsLow, .ref a_t_winsHigh, .ref a_t_pad, .int v_t_padMany, .long out.2.2, .long out.2.1, .ref a_t_could, .int v_t_couldMany, .ref a_t_row, .ref a_t_best, .ref a_t_kept, .ref a_t_isKept, .int v_t_keptAt, .int v_t_isWriting])), (a_t_could, .inl (I, 70, .inl v_t_could)), (a_t_row, .inl (I, 4, .inl v_t_row)), (a_t_winsHigh, .inl (J, 70, .inr (.inl v_t_winsHigh))), (a_t_winsLow, .inl (J, 70, .inr (.inl v_t_winsLow)))]) := by
  unfold f_Model_wonByRow at h
  refine CT_of R_Model (by decide +kernel) rfl (Nat.le_of_ble_eq_true rfl) ?_
  intro p e R s m args below meth c A ls Q hR1 hR2 hQ hC hr hW hA hl
  have hx := hC.1
  have hb := hC.2.1
  have hl : lv_has ls 3 [(0, .ref a_t), (1, .int p0)] := hl
  have lp12 : ∀ (n : Nat) (x1 : Int32) (x2 : Int32) (v_t_high : Int64) (v_t_low : Int64) (yx2 : Int32) (y_t_high : Int64) (y_t_low : Int64), L_Model_wonByRow_12 x1 v_t_could v_t_row v_t_winsHigh v_t_winsLow n x2 v_t_high v_t_low = some (yx2, y_t_high, y_t_low) →
    (∀ H locs, Wd D A s.heap [(a_t, .inr (10, [.int v_t_numbers, .int v_t_onTicket, .int v_t_drawn, .int v_t_due, .ref a_t_tickets, .int v_t_ticketMany, .int v_t_fond, .ref a_t_prizes, .ref a_t_sightTicket, .ref a_t_sightRight, .ref a_t_sightHow, .int v_t_sights, .ref a_t_draws, .int v_t_drawMany, .ref a_t_sets, .int v_t_setMany, .ref a_t_winsLow, .ref a_t_winsHigh, .ref a_t_pad, .int v_t_padMany, .long y_t_low, .long y_t_high, .ref a_t_could, .int v_t_couldMany, .ref a_t_row, .ref a_t_best, .ref a_t_kept, .ref a_t_isKept, .int v_t_keptAt, .int v_t_isWriting])), (a_t_could, .inl (I, 70, .inl v_t_could)), (a_t_row, .inl (I, 4, .inl v_t_row)), (a_t_winsHigh, .inl (J, 70, .inr (.inl v_t_winsHigh))), (a_t_winsLow, .inl (J, 70, .inr (.inl v_t_winsLow)))] H locs → ∀ ls, lv_has ls 3 [(0, .ref a_t), (1, .int x1), (2, .int yx2)] → W p l e R s m args below meth c H locs 0 0 Q (F0 m 73 ls [])) →
    ∀ H locs, Wd D A s.heap [(a_t, .inr (10, [.int v_t_numbers, .int v_t_onTicket, .int v_t_drawn, .int v_t_due, .ref a_t_tickets, .int v_t_ticketMany, .int v_t_fond, .ref a_t_prizes, .ref a_t_sightTicket, .ref a_t_sightRight, .ref a_t_sightHow, .int v_t_sights, .ref a_t_draws, .int v_t_drawMany, .ref a_t_sets, .int v_t_setMany, .ref a_t_winsLow, .ref a_t_winsHigh, .ref a_t_pad, .int v_t_padMany, .long v_t_low, .long v_t_high, .ref a_t_could, .int v_t_couldMany, .ref a_t_row, .ref a_t_best, .ref a_t_kept, .ref a_t_isKept, .int v_t_keptAt, .int v_t_isWriting])), (a_t_could, .inl (I, 70, .inl v_t_could)), (a_t_row, .inl (I, 4, .inl v_t_row)), (a_t_winsHigh, .inl (J, 70, .inr (.inl v_t_winsHigh))), (a_t_winsLow, .inl (J, 70, .inr (.inl v_t_winsLow)))] H locs → ∀ ls, lv_has ls 3 [(0, .ref a_t), (1, .int x1), (2, .int x2)] → W p l e R s m args below meth c H locs 0 0 Q (F0 m 12 ls []) := by
    intro n
    induction n with
    | zero =>
      intro x1 x2 v_t_high v_t_low yx2 y_t_high y_t_low h
      exact no_e h
    | succ n ih =>
      intro x1 x2 v_t_high v_t_low yx2 y_t_high y_t_low h K H locs hW ls hl
      rw [L_Model_wonByRow_12] at h
      refine lv_iload_n hx hb d_Model_wonByRow_12 rfl (lv_at hl 2 rfl) ?_
      refine lv_iload_n hx hb d_Model_wonByRow_13 rfl (lv_at hl 1 rfl) ?_
      refine lv_icmp_ge (tgt := 73) hx hb d_Model_wonByRow_14 (by decide) (fun c_1 => ?_) (fun c_1 => ?_)
      · have h := it_e c_1 h
        cases h
        exact K _ _ hW ls (lv_sub hl [0, 1, 2] rfl)
      · have h := ie_e c_1 h
        refine lv_aload_n hx hb d_Model_wonByRow_17 rfl (lv_at hl 0 rfl) ?_
        refine lv_dup hx hb d_Model_wonByRow_18 rfl ?_
        refine x_get hC hW 0 rfl fl_Model_135 rfl d_Model_wonByRow_19 ?_
        refine lv_aload_n hx hb d_Model_wonByRow_22 rfl (lv_at hl 0 rfl) ?_
        refine x_get hC hW 0 rfl fl_Model_31 rfl d_Model_wonByRow_23 ?_
        refine lv_aload_n hx hb d_Model_wonByRow_26 rfl (lv_at hl 0 rfl) ?_
        refine x_get hC hW 0 rfl fl_Model_41 rfl d_Model_wonByRow_27 ?_
        refine lv_aload_n hx hb d_Model_wonByRow_30 rfl (lv_at hl 0 rfl) ?_
        refine x_get hC hW 0 rfl fl_Model_44 rfl d_Model_wonByRow_31 ?_
        refine lv_iload_n hx hb d_Model_wonByRow_34 rfl (lv_at hl 2 rfl) ?_
        obtain ⟨hi_2, h⟩ := gd_e h
        refine x_iald hC hW 2 rfl hi_2 d_Model_wonByRow_35 ?_
        obtain ⟨hi_3, h⟩ := gd_e h
        refine x_iald hC hW 1 rfl hi_3 d_Model_wonByRow_36 ?_
        obtain ⟨hi_4, h⟩ := gd_e h
        refine x_lald hC hW 4 rfl hi_4 d_Model_wonByRow_37 ?_
        refine lv_lor hx hb d_Model_wonByRow_38 ?_
        refine x_put (ws' := [(a_t, .inr (10, [.int v_t_numbers, .int v_t_onTicket, .int v_t_drawn, .int v_t_due, .ref a_t_tickets, .int v_t_ticketMany, .int v_t_fond, .ref a_t_prizes, .ref a_t_sightTicket, .ref a_t_sightRight, .ref a_t_sightHow, .int v_t_sights, .ref a_t_draws, .int v_t_drawMany, .ref a_t_sets, .int v_t_setMany, .ref a_t_winsLow, .ref a_t_winsHigh, .ref a_t_pad, .int v_t_padMany, .long (v_t_low ||| (v_t_winsLow (v_t_could (v_t_row x2.toNatClampNeg).toNatClampNeg).toNatClampNeg)), .long v_t_high, .ref a_t_could, .int v_t_couldMany, .ref a_t_row, .ref a_t_best, .ref a_t_kept, .ref a_t_isKept, .int v_t_keptAt, .int v_t_isWriting])), (a_t_could, .inl (I, 70, .inl v_t_could)), (a_t_row, .inl (I, 4, .inl v_t_row)), (a_t_winsHigh, .inl (J, 70, .inr (.inl v_t_winsHigh))), (a_t_winsLow, .inl (J, 70, .inr (.inl v_t_winsLow)))]) hC hW 0 rfl fp_Model_135 rfl rfl (Nat.le_of_ble_eq_true rfl) d_Model_wonByRow_39 rfl (fun H locs hW => ?_)
        refine lv_aload_n hx hb d_Model_wonByRow_42 rfl (lv_at hl 0 rfl) ?_
        refine lv_dup hx hb d_Model_wonByRow_43 rfl ?_
        refine x_get hC hW 0 rfl fl_Model_139 rfl d_Model_wonByRow_44 ?_
        refine lv_aload_n hx hb d_Model_wonByRow_47 rfl (lv_at hl 0 rfl) ?_
        refine x_get hC hW 0 rfl fl_Model_35 rfl d_Model_wonByRow_48 ?_
        refine lv_aload_n hx hb d_Model_wonByRow_51 rfl (lv_at hl 0 rfl) ?_
        refine x_get hC hW 0 rfl fl_Model_41 rfl d_Model_wonByRow_52 ?_
        refine lv_aload_n hx hb d_Model_wonByRow_55 rfl (lv_at hl 0 rfl) ?_
        refine x_get hC hW 0 rfl fl_Model_44 rfl d_Model_wonByRow_56 ?_
        refine lv_iload_n hx hb d_Model_wonByRow_59 rfl (lv_at hl 2 rfl) ?_
        obtain ⟨hi_5, h⟩ := gd_e h
        refine x_iald hC hW 2 rfl hi_5 d_Model_wonByRow_60 ?_
        obtain ⟨hi_6, h⟩ := gd_e h
        refine x_iald hC hW 1 rfl hi_6 d_Model_wonByRow_61 ?_
        obtain ⟨hi_7, h⟩ := gd_e h
        refine x_lald hC hW 3 rfl hi_7 d_Model_wonByRow_62 ?_
        refine lv_lor hx hb d_Model_wonByRow_63 ?_
        refine x_put (ws' := [(a_t, .inr (10, [.int v_t_numbers, .int v_t_onTicket, .int v_t_drawn, .int v_t_due, .ref a_t_tickets, .int v_t_ticketMany, .int v_t_fond, .ref a_t_prizes, .ref a_t_sightTicket, .ref a_t_sightRight, .ref a_t_sightHow, .int v_t_sights, .ref a_t_draws, .int v_t_drawMany, .ref a_t_sets, .int v_t_setMany, .ref a_t_winsLow, .ref a_t_winsHigh, .ref a_t_pad, .int v_t_padMany, .long (v_t_low ||| (v_t_winsLow (v_t_could (v_t_row x2.toNatClampNeg).toNatClampNeg).toNatClampNeg)), .long (v_t_high ||| (v_t_winsHigh (v_t_could (v_t_row x2.toNatClampNeg).toNatClampNeg).toNatClampNeg)), .ref a_t_could, .int v_t_couldMany, .ref a_t_row, .ref a_t_best, .ref a_t_kept, .ref a_t_isKept, .int v_t_keptAt, .int v_t_isWriting])), (a_t_could, .inl (I, 70, .inl v_t_could)), (a_t_row, .inl (I, 4, .inl v_t_row)), (a_t_winsHigh, .inl (J, 70, .inr (.inl v_t_winsHigh))), (a_t_winsLow, .inl (J, 70, .inr (.inl v_t_winsLow)))]) hC hW 0 rfl fp_Model_139 rfl rfl (Nat.le_of_ble_eq_true rfl) d_Model_wonByRow_64 rfl (fun H locs hW => ?_)
        refine lv_iinc (v := (x2 + (1 : Int32))) (lv' := [(2, .int (x2 + (1 : Int32))), (0, .ref a_t), (1, .int x1)]) hx hb d_Model_wonByRow_67 hl (k := 2) rfl (iinc_e (by decide)) (by decide) rfl (fun ls hl => ?_)
        refine lv_goto (tgt := 12) hx hb d_Model_wonByRow_70 (by decide) ?_
        exact ih x1 (x2 + (1 : Int32)) (v_t_high ||| (v_t_winsHigh (v_t_could (v_t_row x2.toNatClampNeg).toNatClampNeg).toNatClampNeg)) (v_t_low ||| (v_t_winsLow (v_t_could (v_t_row x2.toNatClampNeg).toNatClampNeg).toNatClampNeg)) _ _ _ h K _ _ hW ls (lv_sub hl [1, 2, 0] rfl)
  refine lv_aload_n hx hb d_Model_wonByRow_0 rfl (lv_at hl 0 rfl) ?_
  refine lv_lconst (v := (0 : Int64)) hx hb d_Model_wonByRow_1 (by decide) ?_
  refine x_put (ws' := [(a_t, .inr (10, [.int v_t_numbers, .int v_t_onTicket, .int v_t_drawn, .int v_t_due, .ref a_t_tickets, .int v_t_ticketMany, .int v_t_fond, .ref a_t_prizes, .ref a_t_sightTicket, .ref a_t_sightRight, .ref a_t_sightHow, .int v_t_sights, .ref a_t_draws, .int v_t_drawMany, .ref a_t_sets, .int v_t_setMany, .ref a_t_winsLow, .ref a_t_winsHigh, .ref a_t_pad, .int v_t_padMany, .long (0 : Int64), .long v_t_high, .ref a_t_could, .int v_t_couldMany, .ref a_t_row, .ref a_t_best, .ref a_t_kept, .ref a_t_isKept, .int v_t_keptAt, .int v_t_isWriting])), (a_t_could, .inl (I, 70, .inl v_t_could)), (a_t_row, .inl (I, 4, .inl v_t_row)), (a_t_winsHigh, .inl (J, 70, .inr (.inl v_t_winsHigh))), (a_t_winsLow, .inl (J, 70, .inr (.inl v_t_winsLow)))]) hC hW 0 rfl fp_Model_135 rfl rfl (Nat.le_of_ble_eq_true rfl) d_Model_wonByRow_2 rfl (fun H locs hW => ?_)
  refine lv_aload_n hx hb d_Model_wonByRow_5 rfl (lv_at hl 0 rfl) ?_
  refine lv_lconst (v := (0 : Int64)) hx hb d_Model_wonByRow_6 (by decide) ?_
  refine x_put (ws' := [(a_t, .inr (10, [.int v_t_numbers, .int v_t_onTicket, .int v_t_drawn, .int v_t_due, .ref a_t_tickets, .int v_t_ticketMany, .int v_t_fond, .ref a_t_prizes, .ref a_t_sightTicket, .ref a_t_sightRight, .ref a_t_sightHow, .int v_t_sights, .ref a_t_draws, .int v_t_drawMany, .ref a_t_sets, .int v_t_setMany, .ref a_t_winsLow, .ref a_t_winsHigh, .ref a_t_pad, .int v_t_padMany, .long (0 : Int64), .long (0 : Int64), .ref a_t_could, .int v_t_couldMany, .ref a_t_row, .ref a_t_best, .ref a_t_kept, .ref a_t_isKept, .int v_t_keptAt, .int v_t_isWriting])), (a_t_could, .inl (I, 70, .inl v_t_could)), (a_t_row, .inl (I, 4, .inl v_t_row)), (a_t_winsHigh, .inl (J, 70, .inr (.inl v_t_winsHigh))), (a_t_winsLow, .inl (J, 70, .inr (.inl v_t_winsLow)))]) hC hW 0 rfl fp_Model_139 rfl rfl (Nat.le_of_ble_eq_true rfl) d_Model_wonByRow_7 rfl (fun H locs hW => ?_)
  refine lv_iconst (v := (0 : Int32)) hx hb d_Model_wonByRow_10 (by decide) ?_
  refine lv_istore_n (lv' := [(2, .int (0 : Int32)), (0, .ref a_t), (1, .int p0)]) hx hb d_Model_wonByRow_11 rfl hl (by decide) rfl (fun ls hl => ?_)
  obtain ⟨yx2_8, y_t_high_8, y_t_low_8, hv_8, h⟩ := bk3_e h
  refine lp12 _ p0 (0 : Int32) (0 : Int64) (0 : Int64) yx2_8 y_t_high_8 y_t_low_8 hv_8 (fun H locs hW ls hl => ?_) _ _ hW ls (lv_sub hl [1, 2, 0] rfl)
  refine lv_aload_n hx hb d_Model_wonByRow_73 rfl (lv_at hl 0 rfl) ?_
  obtain ⟨r_9, hc_9, h⟩ := bk1_e h
  refine x_ci (ws' := [(a_t, .inr (10, [.int v_t_numbers, .int v_t_onTicket, .int v_t_drawn, .int v_t_due, .ref a_t_tickets, .int v_t_ticketMany, .int v_t_fond, .ref a_t_prizes, .ref a_t_sightTicket, .ref a_t_sightRight, .ref a_t_sightHow, .int v_t_sights, .ref a_t_draws, .int v_t_drawMany, .ref a_t_sets, .int v_t_setMany, .ref a_t_winsLow, .ref a_t_winsHigh, .ref a_t_pad, .int v_t_padMany, .long y_t_low_8, .long y_t_high_8, .ref a_t_could, .int v_t_couldMany, .ref a_t_row, .ref a_t_best, .ref a_t_kept, .ref a_t_isKept, .int v_t_keptAt, .int v_t_isWriting])), (a_t_could, .inl (I, 70, .inl v_t_could)), (a_t_row, .inl (I, 4, .inl v_t_row)), (a_t_winsHigh, .inl (J, 70, .inr (.inl v_t_winsHigh))), (a_t_winsLow, .inl (J, 70, .inr (.inl v_t_winsLow)))]) (x_runV (As := []) (rest := []) hC hW (c_Model_flagged l D I J Z a_t a_t_tickets a_t_prizes a_t_sightTicket a_t_sightRight a_t_sightHow a_t_draws a_t_sets a_t_winsLow a_t_winsHigh a_t_pad a_t_could a_t_row a_t_best a_t_kept a_t_isKept v_t_numbers v_t_onTicket v_t_drawn v_t_due v_t_ticketMany v_t_fond v_t_sights v_t_drawMany v_t_setMany v_t_padMany y_t_low_8 y_t_high_8 v_t_couldMany v_t_keptAt v_t_isWriting (r_9) hc_9) cl_Model_146 q_code_Model_flagged [0] rfl (by decide) 0 rfl rfl rfl rfl hl.1 (Nat.le_of_ble_eq_true rfl) (rm_ok hR1 hR2 (by decide) (by decide)) ⟨Nat.zero_le _, Nat.zero_le _⟩ d_Model_wonByRow_74) hW hA [0] rfl rfl (ps := [some 0, none, none, none, none]) (by decide +kernel) ⟨rfl, rfl, rfl, rfl, rfl, trivial⟩ (fun H locs hW => ?_)
  cases h
  rw [hQ]
  exact x_iret hC hr hW d_Model_wonByRow_77

def L_Model_nextRow_4 (x1 : Int32) (v_t_row : Nat → Int32) (v_t_couldMany : Int32) : Nat → Int32 → Option (Int32)
  | 0, _ => none
  | n + 1, x2 => if x2 < (0 : Int32) then some (x2) else gd x2 4 (if (v_t_row x2.toNatClampNeg) = ((v_t_couldMany - x1) + x2) then L_Model_nextRow_4 x1 v_t_row v_t_couldMany n (x2 + (-1 : Int32)) else some (x2))
def L_Model_nextRow_51 (x1 : Int32) : Nat → Int32 → (Nat → Int32) → Option (Int32 × (Nat → Int32))
  | 0, _, _ => none
  | n + 1, x3, v_t_row => if x1 ≤ x3 then some (x3, v_t_row) else gd (x3 - (1 : Int32)) 4 (gd x3 4 (L_Model_nextRow_51 x1 n (x3 + (1 : Int32)) (upd v_t_row x3.toNatClampNeg ((v_t_row (x3 - (1 : Int32)).toNatClampNeg) + (1 : Int32)))))
def f_Model_nextRow (v_t_couldMany : Int32) (v_t_row : Nat → Int32) (p0 : Int32) : Option (Int32 × (Nat → Int32)) :=
  bk1 (L_Model_nextRow_4 p0 v_t_row v_t_couldMany 300 (p0 - (1 : Int32))) fun yx2_4 => if (0 : Int32) ≤ yx2_4 then gd yx2_4 4 (gd yx2_4 4 (bk2 (L_Model_nextRow_51 p0 300 (yx2_4 + (1 : Int32)) (upd v_t_row yx2_4.toNatClampNeg ((v_t_row yx2_4.toNatClampNeg) + (1 : Int32)))) fun yx3_11 y_t_row_11 => some ((1 : Int32), y_t_row_11))) else some ((0 : Int32), v_t_row)
set_option maxHeartbeats 4000000 in
set_option maxRecDepth 100000 in
theorem c_Model_nextRow (l : Launch) (D : va_G) (I J Z : ClassId) (a_t : Nat) (a_t_row : Nat) (a_t_tickets : Nat) (a_t_prizes : Nat) (a_t_sightTicket : Nat) (a_t_sightRight : Nat) (a_t_sightHow : Nat) (a_t_draws : Nat) (a_t_sets : Nat) (a_t_winsLow : Nat) (a_t_winsHigh : Nat) (a_t_pad : Nat) (a_t_could : Nat) (a_t_best : Nat) (a_t_kept : Nat) (a_t_isKept : Nat)  (v_t_numbers : Int32) (v_t_onTicket : Int32) (v_t_drawn : Int32) (v_t_due : Int32) (v_t_ticketMany : Int32) (v_t_fond : Int32) (v_t_sights : Int32) (v_t_drawMany : Int32) (v_t_setMany : Int32) (v_t_padMany : Int32) (v_t_low : Int64) (v_t_high : Int64) (v_t_couldMany : Int32) (v_t_keptAt : Int32) (v_t_isWriting : Int32) (v_t_row : Nat → Int32) (p0 : Int32) (out : (Int32 × (Nat → Int32))) (h : f_Model_nextRow v_t_couldMany v_t_row p0 = some out) : CT l D I J Z y_Model_nextRow b_Model_nextRow 4 (some .boolean) 1 [.ref a_t, .int p0] [(a_t, .inr (10, [.int v_t_numbers, .int v_t_onTicket, .int v_t_drawn, .int v_t_due, .ref a_t_tickets, .int v_t_ticketMany, .int v_t_fond, .ref a_t_prizes, .ref a_t_sightTicket, .ref a_t_sightRight, .ref a_t_sightHow, .int v_t_sights, .ref a_t_draws, .int v_t_drawMany, .ref a_t_sets, .int v_t_setMany, .ref a_t_winsLow, .ref a_t_winsHigh, .ref a_t_pad, .int v_t_padMany, .long v_t_low, .long v_t_high, .ref a_t_could, .int v_t_couldMany, .ref a_t_row, .ref a_t_best, .ref a_t_kept, .ref a_t_isKept, .int v_t_keptAt, .int v_t_isWriting])), (a_t_row, .inl (I, 4, .inl v_t_row))] (PoI out.1 D [(a_t, .inr (10, [.int v_t_numbers, .int v_t_onTicket, .int v_t_drawn, .int v_t_due, .ref a_t_tickets, .int v_t_ticketMany, .int v_t_fond, .ref a_t_prizes, .ref a_t_sightTicket, .ref a_t_sightRight, .ref a_t_sightHow, .int v_t_sights, .ref a_t_draws, .int v_t_drawMany, .ref a_t_sets, .int v_t_setMany, .ref a_t_winsLow, .ref a_t_winsHigh, .ref a_t_pad, .int v_t_padMany, .long v_t_low, .long v_t_high, .ref a_t_could, .int v_t_couldMany, .ref a_t_row, .ref a_t_best, .ref a_t_kept, .ref a_t_isKept, .int v_t_keptAt, .int v_t_isWriting])), (a_t_row, .inl (I, 4, .inl out.2))]) := by
  unfold f_Model_nextRow at h
  refine CT_of R_Model (by decide +kernel) rfl (Nat.le_of_ble_eq_true rfl) ?_
  intro p e R s m args below meth c A ls Q hR1 hR2 hQ hC hr hW hA hl
  have hx := hC.1
  have hb := hC.2.1
  have hl : lv_has ls 4 [(0, .ref a_t), (1, .int p0)] := hl
  have lp4 : ∀ (n : Nat) (x1 : Int32) (x2 : Int32) (v_t_row : Nat → Int32) (yx2 : Int32), L_Model_nextRow_4 x1 v_t_row v_t_couldMany n x2 = some (yx2) →
    (∀ H locs, Wd D A s.heap [(a_t, .inr (10, [.int v_t_numbers, .int v_t_onTicket, .int v_t_drawn, .int v_t_due, .ref a_t_tickets, .int v_t_ticketMany, .int v_t_fond, .ref a_t_prizes, .ref a_t_sightTicket, .ref a_t_sightRight, .ref a_t_sightHow, .int v_t_sights, .ref a_t_draws, .int v_t_drawMany, .ref a_t_sets, .int v_t_setMany, .ref a_t_winsLow, .ref a_t_winsHigh, .ref a_t_pad, .int v_t_padMany, .long v_t_low, .long v_t_high, .ref a_t_could, .int v_t_couldMany, .ref a_t_row, .ref a_t_best, .ref a_t_kept, .ref a_t_isKept, .int v_t_keptAt, .int v_t_isWriting])), (a_t_row, .inl (I, 4, .inl v_t_row))] H locs → ∀ ls, lv_has ls 4 [(0, .ref a_t), (1, .int x1), (2, .int yx2)] → W p l e R s m args below meth c H locs 0 0 Q (F0 m 31 ls [])) →
    ∀ H locs, Wd D A s.heap [(a_t, .inr (10, [.int v_t_numbers, .int v_t_onTicket, .int v_t_drawn, .int v_t_due, .ref a_t_tickets, .int v_t_ticketMany, .int v_t_fond, .ref a_t_prizes, .ref a_t_sightTicket, .ref a_t_sightRight, .ref a_t_sightHow, .int v_t_sights, .ref a_t_draws, .int v_t_drawMany, .ref a_t_sets, .int v_t_setMany, .ref a_t_winsLow, .ref a_t_winsHigh, .ref a_t_pad, .int v_t_padMany, .long v_t_low, .long v_t_high, .ref a_t_could, .int v_t_couldMany, .ref a_t_row, .ref a_t_best, .ref a_t_kept, .ref a_t_isKept, .int v_t_keptAt, .int v_t_isWriting])), (a_t_row, .inl (I, 4, .inl v_t_row))] H locs → ∀ ls, lv_has ls 4 [(0, .ref a_t), (1, .int x1), (2, .int x2)] → W p l e R s m args below meth c H locs 0 0 Q (F0 m 4 ls []) := by
    intro n
    induction n with
    | zero =>
      intro x1 x2 v_t_row yx2 h
      exact no_e h
    | succ n ih =>
      intro x1 x2 v_t_row yx2 h K H locs hW ls hl
      rw [L_Model_nextRow_4] at h
      refine lv_iload_n hx hb d_Model_nextRow_4 rfl (lv_at hl 2 rfl) ?_
      refine lv_if_lt (tgt := 31) hx hb d_Model_nextRow_5 (by decide) (fun c_1 => ?_) (fun c_1 => ?_)
      · have h := it_e c_1 h
        cases h
        exact K _ _ hW ls (lv_sub hl [0, 1, 2] rfl)
      · have h := ie_e c_1 h
        refine lv_aload_n hx hb d_Model_nextRow_8 rfl (lv_at hl 0 rfl) ?_
        refine x_get hC hW 0 rfl fl_Model_44 rfl d_Model_nextRow_9 ?_
        refine lv_iload_n hx hb d_Model_nextRow_12 rfl (lv_at hl 2 rfl) ?_
        obtain ⟨hi_2, h⟩ := gd_e h
        refine x_iald hC hW 1 rfl hi_2 d_Model_nextRow_13 ?_
        refine lv_aload_n hx hb d_Model_nextRow_14 rfl (lv_at hl 0 rfl) ?_
        refine x_get hC hW 0 rfl fl_Model_164 rfl d_Model_nextRow_15 ?_
        refine lv_iload_n hx hb d_Model_nextRow_18 rfl (lv_at hl 1 rfl) ?_
        refine lv_isub hx hb d_Model_nextRow_19 ?_
        refine lv_iload_n hx hb d_Model_nextRow_20 rfl (lv_at hl 2 rfl) ?_
        refine lv_iadd hx hb d_Model_nextRow_21 ?_
        refine lv_icmp_ne (tgt := 31) hx hb d_Model_nextRow_22 (by decide) (fun c_3 => ?_) (fun c_3 => ?_)
        · have h := ie_e c_3 h
          cases h
          exact K _ _ hW ls (lv_sub hl [0, 1, 2] rfl)
        · have h := it_e c_3 h
          refine lv_iinc (v := (x2 + (-1 : Int32))) (lv' := [(2, .int (x2 + (-1 : Int32))), (0, .ref a_t), (1, .int x1)]) hx hb d_Model_nextRow_25 hl (k := 2) rfl (iinc_e (by decide)) (by decide) rfl (fun ls hl => ?_)
          refine lv_goto (tgt := 4) hx hb d_Model_nextRow_28 (by decide) ?_
          exact ih x1 (x2 + (-1 : Int32)) v_t_row _ h K _ _ hW ls (lv_sub hl [1, 2, 0] rfl)
  have lp51 : ∀ (n : Nat) (x1 : Int32) (x3 : Int32) (v_t_row : Nat → Int32) (yx3 : Int32) (y_t_row : Nat → Int32), L_Model_nextRow_51 x1 n x3 v_t_row = some (yx3, y_t_row) →
    (∀ H locs, Wd D A s.heap [(a_t, .inr (10, [.int v_t_numbers, .int v_t_onTicket, .int v_t_drawn, .int v_t_due, .ref a_t_tickets, .int v_t_ticketMany, .int v_t_fond, .ref a_t_prizes, .ref a_t_sightTicket, .ref a_t_sightRight, .ref a_t_sightHow, .int v_t_sights, .ref a_t_draws, .int v_t_drawMany, .ref a_t_sets, .int v_t_setMany, .ref a_t_winsLow, .ref a_t_winsHigh, .ref a_t_pad, .int v_t_padMany, .long v_t_low, .long v_t_high, .ref a_t_could, .int v_t_couldMany, .ref a_t_row, .ref a_t_best, .ref a_t_kept, .ref a_t_isKept, .int v_t_keptAt, .int v_t_isWriting])), (a_t_row, .inl (I, 4, .inl y_t_row))] H locs → ∀ ls, lv_has ls 4 [(0, .ref a_t), (1, .int x1), (3, .int yx3)] → W p l e R s m args below meth c H locs 0 0 Q (F0 m 78 ls [])) →
    ∀ H locs, Wd D A s.heap [(a_t, .inr (10, [.int v_t_numbers, .int v_t_onTicket, .int v_t_drawn, .int v_t_due, .ref a_t_tickets, .int v_t_ticketMany, .int v_t_fond, .ref a_t_prizes, .ref a_t_sightTicket, .ref a_t_sightRight, .ref a_t_sightHow, .int v_t_sights, .ref a_t_draws, .int v_t_drawMany, .ref a_t_sets, .int v_t_setMany, .ref a_t_winsLow, .ref a_t_winsHigh, .ref a_t_pad, .int v_t_padMany, .long v_t_low, .long v_t_high, .ref a_t_could, .int v_t_couldMany, .ref a_t_row, .ref a_t_best, .ref a_t_kept, .ref a_t_isKept, .int v_t_keptAt, .int v_t_isWriting])), (a_t_row, .inl (I, 4, .inl v_t_row))] H locs → ∀ ls, lv_has ls 4 [(0, .ref a_t), (1, .int x1), (3, .int x3)] → W p l e R s m args below meth c H locs 0 0 Q (F0 m 51 ls []) := by
    intro n
    induction n with
    | zero =>
      intro x1 x3 v_t_row yx3 y_t_row h
      exact no_e h
    | succ n ih =>
      intro x1 x3 v_t_row yx3 y_t_row h K H locs hW ls hl
      rw [L_Model_nextRow_51] at h
      refine lv_iload_n hx hb d_Model_nextRow_51 rfl (lv_at hl 2 rfl) ?_
      refine lv_iload_n hx hb d_Model_nextRow_52 rfl (lv_at hl 1 rfl) ?_
      refine lv_icmp_ge (tgt := 78) hx hb d_Model_nextRow_53 (by decide) (fun c_8 => ?_) (fun c_8 => ?_)
      · have h := it_e c_8 h
        cases h
        exact K _ _ hW ls (lv_sub hl [0, 1, 2] rfl)
      · have h := ie_e c_8 h
        refine lv_aload_n hx hb d_Model_nextRow_56 rfl (lv_at hl 0 rfl) ?_
        refine x_get hC hW 0 rfl fl_Model_44 rfl d_Model_nextRow_57 ?_
        refine lv_iload_n hx hb d_Model_nextRow_60 rfl (lv_at hl 2 rfl) ?_
        refine lv_aload_n hx hb d_Model_nextRow_61 rfl (lv_at hl 0 rfl) ?_
        refine x_get hC hW 0 rfl fl_Model_44 rfl d_Model_nextRow_62 ?_
        refine lv_iload_n hx hb d_Model_nextRow_65 rfl (lv_at hl 2 rfl) ?_
        refine lv_iconst (v := (1 : Int32)) hx hb d_Model_nextRow_66 (by decide) ?_
        refine lv_isub hx hb d_Model_nextRow_67 ?_
        obtain ⟨hi_9, h⟩ := gd_e h
        refine x_iald hC hW 1 rfl hi_9 d_Model_nextRow_68 ?_
        refine lv_iconst (v := (1 : Int32)) hx hb d_Model_nextRow_69 (by decide) ?_
        refine lv_iadd hx hb d_Model_nextRow_70 ?_
        obtain ⟨hi_10, h⟩ := gd_e h
        refine x_iast (ws' := [(a_t, .inr (10, [.int v_t_numbers, .int v_t_onTicket, .int v_t_drawn, .int v_t_due, .ref a_t_tickets, .int v_t_ticketMany, .int v_t_fond, .ref a_t_prizes, .ref a_t_sightTicket, .ref a_t_sightRight, .ref a_t_sightHow, .int v_t_sights, .ref a_t_draws, .int v_t_drawMany, .ref a_t_sets, .int v_t_setMany, .ref a_t_winsLow, .ref a_t_winsHigh, .ref a_t_pad, .int v_t_padMany, .long v_t_low, .long v_t_high, .ref a_t_could, .int v_t_couldMany, .ref a_t_row, .ref a_t_best, .ref a_t_kept, .ref a_t_isKept, .int v_t_keptAt, .int v_t_isWriting])), (a_t_row, .inl (I, 4, .inl (upd v_t_row x3.toNatClampNeg ((v_t_row (x3 - (1 : Int32)).toNatClampNeg) + (1 : Int32)))))]) hC hW 1 rfl hi_10 d_Model_nextRow_71 rfl (fun H locs hW => ?_)
        refine lv_iinc (v := (x3 + (1 : Int32))) (lv' := [(3, .int (x3 + (1 : Int32))), (0, .ref a_t), (1, .int x1)]) hx hb d_Model_nextRow_72 hl (k := 2) rfl (iinc_e (by decide)) (by decide) rfl (fun ls hl => ?_)
        refine lv_goto (tgt := 51) hx hb d_Model_nextRow_75 (by decide) ?_
        exact ih x1 (x3 + (1 : Int32)) (upd v_t_row x3.toNatClampNeg ((v_t_row (x3 - (1 : Int32)).toNatClampNeg) + (1 : Int32))) _ _ h K _ _ hW ls (lv_sub hl [1, 2, 0] rfl)
  refine lv_iload_n hx hb d_Model_nextRow_0 rfl (lv_at hl 1 rfl) ?_
  refine lv_iconst (v := (1 : Int32)) hx hb d_Model_nextRow_1 (by decide) ?_
  refine lv_isub hx hb d_Model_nextRow_2 ?_
  refine lv_istore_n (lv' := [(2, .int (p0 - (1 : Int32))), (0, .ref a_t), (1, .int p0)]) hx hb d_Model_nextRow_3 rfl hl (by decide) rfl (fun ls hl => ?_)
  obtain ⟨yx2_4, hv_4, h⟩ := bk1_e h
  refine lp4 _ p0 (p0 - (1 : Int32)) v_t_row yx2_4 hv_4 (fun H locs hW ls hl => ?_) _ _ hW ls (lv_sub hl [1, 2, 0] rfl)
  refine lv_iload_n hx hb d_Model_nextRow_31 rfl (lv_at hl 2 rfl) ?_
  refine lv_if_ge (tgt := 37) hx hb d_Model_nextRow_32 (by decide) (fun c_5 => ?_) (fun c_5 => ?_)
  · have h := it_e c_5 h
    refine lv_aload_n hx hb d_Model_nextRow_37 rfl (lv_at hl 0 rfl) ?_
    refine x_get hC hW 0 rfl fl_Model_44 rfl d_Model_nextRow_38 ?_
    refine lv_iload_n hx hb d_Model_nextRow_41 rfl (lv_at hl 2 rfl) ?_
    refine lv_dup2_11 hx hb d_Model_nextRow_42 rfl rfl ?_
    obtain ⟨hi_6, h⟩ := gd_e h
    refine x_iald hC hW 1 rfl hi_6 d_Model_nextRow_43 ?_
    refine lv_iconst (v := (1 : Int32)) hx hb d_Model_nextRow_44 (by decide) ?_
    refine lv_iadd hx hb d_Model_nextRow_45 ?_
    obtain ⟨hi_7, h⟩ := gd_e h
    refine x_iast (ws' := [(a_t, .inr (10, [.int v_t_numbers, .int v_t_onTicket, .int v_t_drawn, .int v_t_due, .ref a_t_tickets, .int v_t_ticketMany, .int v_t_fond, .ref a_t_prizes, .ref a_t_sightTicket, .ref a_t_sightRight, .ref a_t_sightHow, .int v_t_sights, .ref a_t_draws, .int v_t_drawMany, .ref a_t_sets, .int v_t_setMany, .ref a_t_winsLow, .ref a_t_winsHigh, .ref a_t_pad, .int v_t_padMany, .long v_t_low, .long v_t_high, .ref a_t_could, .int v_t_couldMany, .ref a_t_row, .ref a_t_best, .ref a_t_kept, .ref a_t_isKept, .int v_t_keptAt, .int v_t_isWriting])), (a_t_row, .inl (I, 4, .inl (upd v_t_row yx2_4.toNatClampNeg ((v_t_row yx2_4.toNatClampNeg) + (1 : Int32)))))]) hC hW 1 rfl hi_7 d_Model_nextRow_46 rfl (fun H locs hW => ?_)
    refine lv_iload_n hx hb d_Model_nextRow_47 rfl (lv_at hl 2 rfl) ?_
    refine lv_iconst (v := (1 : Int32)) hx hb d_Model_nextRow_48 (by decide) ?_
    refine lv_iadd hx hb d_Model_nextRow_49 ?_
    refine lv_istore_n (lv' := [(3, .int (yx2_4 + (1 : Int32))), (0, .ref a_t), (1, .int p0), (2, .int yx2_4)]) hx hb d_Model_nextRow_50 rfl hl (by decide) rfl (fun ls hl => ?_)
    obtain ⟨yx3_11, y_t_row_11, hv_11, h⟩ := bk2_e h
    refine lp51 _ p0 (yx2_4 + (1 : Int32)) (upd v_t_row yx2_4.toNatClampNeg ((v_t_row yx2_4.toNatClampNeg) + (1 : Int32))) yx3_11 y_t_row_11 hv_11 (fun H locs hW ls hl => ?_) _ _ hW ls (lv_sub hl [1, 2, 0] rfl)
    refine lv_iconst (v := (1 : Int32)) hx hb d_Model_nextRow_78 (by decide) ?_
    cases h
    rw [hQ]
    exact x_zret hC hr (show narrow .boolean (.int (1 : Int32)) = .int (1 : Int32) from rfl) hW d_Model_nextRow_79
  · have h := ie_e c_5 h
    refine lv_iconst (v := (0 : Int32)) hx hb d_Model_nextRow_35 (by decide) ?_
    cases h
    rw [hQ]
    exact x_zret hC hr (show narrow .boolean (.int (0 : Int32)) = .int (0 : Int32) from rfl) hW d_Model_nextRow_36

def L_Model_findMost_32 (x1 : Int32) (v_t_row : Nat → Int32) (v_t_could : Nat → Int32) (v_t_sets : Nat → Int32) : Nat → Int32 → (Nat → Int32) → Option (Int32 × (Nat → Int32))
  | 0, _, _ => none
  | n + 1, x5, v_t_best => if x1 ≤ x5 then some (x5, v_t_best) else gd x5 4 (gd (v_t_row x5.toNatClampNeg) 70 (gd (v_t_could (v_t_row x5.toNatClampNeg).toNatClampNeg) 70 (gd x5 4 (L_Model_findMost_32 x1 v_t_row v_t_could v_t_sets n (x5 + (1 : Int32)) (upd v_t_best x5.toNatClampNeg (v_t_sets (v_t_could (v_t_row x5.toNatClampNeg).toNatClampNeg).toNatClampNeg))))))
def L_Model_findMost_9 (x1 : Int32) (v_t_couldMany : Int32) (v_t_drawMany : Int32) (v_t_could : Nat → Int32) (v_t_sets : Nat → Int32) (v_t_winsHigh : Nat → Int64) (v_t_winsLow : Nat → Int64) : Nat → Int32 → Int32 → Int64 → Int64 → (Nat → Int32) → (Nat → Int32) → Option (Int32 × Int32 × Int64 × Int64 × (Nat → Int32) × (Nat → Int32))
  | 0, _, _, _, _, _, _ => none
  | n + 1, x2, x3, v_t_high, v_t_low, v_t_best, v_t_row => if x3 = (0 : Int32) then some (x2, x3, v_t_high, v_t_low, v_t_best, v_t_row) else bk3 (f_Model_wonByRow v_t_could v_t_row v_t_winsHigh v_t_winsLow x1) fun r_3 w_3_0 w_3_1 => if r_3 ≤ x2 then if v_t_drawMany ≤ x2 then L_Model_findMost_9 x1 v_t_couldMany v_t_drawMany v_t_could v_t_sets v_t_winsHigh v_t_winsLow n x2 (0 : Int32) w_3_0 w_3_1 v_t_best v_t_row else bk2 (f_Model_nextRow v_t_couldMany v_t_row x1) fun r_6 w_6_0 => if r_6 = (0 : Int32) then L_Model_findMost_9 x1 v_t_couldMany v_t_drawMany v_t_could v_t_sets v_t_winsHigh v_t_winsLow n x2 (0 : Int32) w_3_0 w_3_1 v_t_best w_6_0 else L_Model_findMost_9 x1 v_t_couldMany v_t_drawMany v_t_could v_t_sets v_t_winsHigh v_t_winsLow n x2 (1 : Int32) w_3_0 w_3_1 v_t_best w_6_0 else bk2 (L_Model_findMost_32 x1 v_t_row v_t_could v_t_sets 300 (0 : Int32) v_t_best) fun yx5_13 y_t_best_13 => if v_t_drawMany ≤ r_3 then L_Model_findMost_9 x1 v_t_couldMany v_t_drawMany v_t_could v_t_sets v_t_winsHigh v_t_winsLow n r_3 (0 : Int32) w_3_0 w_3_1 y_t_best_13 v_t_row else bk2 (f_Model_nextRow v_t_couldMany v_t_row x1) fun r_15 w_15_0 => if r_15 = (0 : Int32) then L_Model_findMost_9 x1 v_t_couldMany v_t_drawMany v_t_could v_t_sets v_t_winsHigh v_t_winsLow n r_3 (0 : Int32) w_3_0 w_3_1 y_t_best_13 w_15_0 else L_Model_findMost_9 x1 v_t_couldMany v_t_drawMany v_t_could v_t_sets v_t_winsHigh v_t_winsLow n r_3 (1 : Int32) w_3_0 w_3_1 y_t_best_13 w_15_0
def f_Model_findMost (v_t_couldMany : Int32) (v_t_drawMany : Int32) (v_t_high : Int64) (v_t_low : Int64) (v_t_best : Nat → Int32) (v_t_could : Nat → Int32) (v_t_row : Nat → Int32) (v_t_sets : Nat → Int32) (v_t_winsHigh : Nat → Int64) (v_t_winsLow : Nat → Int64) (p0 : Int32) : Option (Int32 × Int64 × Int64 × (Nat → Int32) × (Nat → Int32)) :=
  bk1 (f_Model_layRow v_t_row p0) fun w_1_0 => bk6 (L_Model_findMost_9 p0 v_t_couldMany v_t_drawMany v_t_could v_t_sets v_t_winsHigh v_t_winsLow 1000000 (-1 : Int32) (1 : Int32) v_t_high v_t_low v_t_best w_1_0) fun yx2_17 yx3_17 y_t_high_17 y_t_low_17 y_t_best_17 y_t_row_17 => some (yx2_17, y_t_high_17, y_t_low_17, y_t_best_17, y_t_row_17)
set_option maxHeartbeats 4000000 in
set_option maxRecDepth 100000 in
theorem c_Model_findMost (l : Launch) (D : va_G) (I J Z : ClassId) (a_t : Nat) (a_t_best : Nat) (a_t_could : Nat) (a_t_row : Nat) (a_t_sets : Nat) (a_t_winsHigh : Nat) (a_t_winsLow : Nat) (a_t_tickets : Nat) (a_t_prizes : Nat) (a_t_sightTicket : Nat) (a_t_sightRight : Nat) (a_t_sightHow : Nat) (a_t_draws : Nat) (a_t_pad : Nat) (a_t_kept : Nat) (a_t_isKept : Nat)  (v_t_numbers : Int32) (v_t_onTicket : Int32) (v_t_drawn : Int32) (v_t_due : Int32) (v_t_ticketMany : Int32) (v_t_fond : Int32) (v_t_sights : Int32) (v_t_drawMany : Int32) (v_t_setMany : Int32) (v_t_padMany : Int32) (v_t_low : Int64) (v_t_high : Int64) (v_t_couldMany : Int32) (v_t_keptAt : Int32) (v_t_isWriting : Int32) (v_t_best : Nat → Int32) (v_t_could : Nat → Int32) (v_t_row : Nat → Int32) (v_t_sets : Nat → Int32) (v_t_winsHigh : Nat → Int64) (v_t_winsLow : Nat → Int64) (p0 : Int32) (out : (Int32 × Int64 × Int64 × (Nat → Int32) × (Nat → Int32))) (h : f_Model_findMost v_t_couldMany v_t_drawMany v_t_high v_t_low v_t_best v_t_could v_t_row v_t_sets v_t_winsHigh v_t_winsLow p0 = some out) : CT l D I J Z y_Model_findMost b_Model_findMost 6 (some .int) 4 [.ref a_t, .int p0] [(a_t, .inr (10, [.int v_t_numbers, .int v_t_onTicket, .int v_t_drawn, .int v_t_due, .ref a_t_tickets, .int v_t_ticketMany, .int v_t_fond, .ref a_t_prizes, .ref a_t_sightTicket, .ref a_t_sightRight, .ref a_t_sightHow, .int v_t_sights, .ref a_t_draws, .int v_t_drawMany, .ref a_t_sets, .int v_t_setMany, .ref a_t_winsLow, .ref a_t_winsHigh, .ref a_t_pad, .int v_t_padMany, .long v_t_low, .long v_t_high, .ref a_t_could, .int v_t_couldMany, .ref a_t_row, .ref a_t_best, .ref a_t_kept, .ref a_t_isKept, .int v_t_keptAt, .int v_t_isWriting])), (a_t_best, .inl (I, 4, .inl v_t_best)), (a_t_could, .inl (I, 70, .inl v_t_could)), (a_t_row, .inl (I, 4, .inl v_t_row)), (a_t_sets, .inl (I, 70, .inl v_t_sets)), (a_t_winsHigh, .inl (J, 70, .inr (.inl v_t_winsHigh))), (a_t_winsLow, .inl (J, 70, .inr (.inl v_t_winsLow)))] (PoI out.1 D [(a_t, .inr (10, [.int v_t_numbers, .int v_t_onTicket, .int v_t_drawn, .int v_t_due, .ref a_t_tickets, .int v_t_ticketMany, .int v_t_fond, .ref a_t_prizes, .ref a_t_sightTicket, .ref a_t_sightRight, .ref a_t_sightHow, .int v_t_sights, .ref a_t_draws, .int v_t_drawMany, .ref a_t_sets, .int v_t_setMany, .ref a_t_winsLow, .ref a_t_winsHigh, .ref a_t_pad, .int v_t_padMany, .long out.2.2.1, .long out.2.1, .ref a_t_could, .int v_t_couldMany, .ref a_t_row, .ref a_t_best, .ref a_t_kept, .ref a_t_isKept, .int v_t_keptAt, .int v_t_isWriting])), (a_t_best, .inl (I, 4, .inl out.2.2.2.1)), (a_t_could, .inl (I, 70, .inl v_t_could)), (a_t_row, .inl (I, 4, .inl out.2.2.2.2)), (a_t_sets, .inl (I, 70, .inl v_t_sets)), (a_t_winsHigh, .inl (J, 70, .inr (.inl v_t_winsHigh))), (a_t_winsLow, .inl (J, 70, .inr (.inl v_t_winsLow)))]) := by
  unfold f_Model_findMost at h
  refine CT_of R_Model (by decide +kernel) rfl (Nat.le_of_ble_eq_true rfl) ?_
  intro p e R s m args below meth c A ls Q hR1 hR2 hQ hC hr hW hA hl
  have hx := hC.1
  have hb := hC.2.1
  have hl : lv_has ls 6 [(0, .ref a_t), (1, .int p0)] := hl
  have lp32 : ∀ (n : Nat) (x1 : Int32) (x2 : Int32) (x5 : Int32) (v_t_high : Int64) (v_t_low : Int64) (v_t_best : Nat → Int32) (v_t_row : Nat → Int32) (yx5 : Int32) (y_t_best : Nat → Int32), L_Model_findMost_32 x1 v_t_row v_t_could v_t_sets n x5 v_t_best = some (yx5, y_t_best) →
    (∀ H locs, Wd D A s.heap [(a_t, .inr (10, [.int v_t_numbers, .int v_t_onTicket, .int v_t_drawn, .int v_t_due, .ref a_t_tickets, .int v_t_ticketMany, .int v_t_fond, .ref a_t_prizes, .ref a_t_sightTicket, .ref a_t_sightRight, .ref a_t_sightHow, .int v_t_sights, .ref a_t_draws, .int v_t_drawMany, .ref a_t_sets, .int v_t_setMany, .ref a_t_winsLow, .ref a_t_winsHigh, .ref a_t_pad, .int v_t_padMany, .long v_t_low, .long v_t_high, .ref a_t_could, .int v_t_couldMany, .ref a_t_row, .ref a_t_best, .ref a_t_kept, .ref a_t_isKept, .int v_t_keptAt, .int v_t_isWriting])), (a_t_best, .inl (I, 4, .inl y_t_best)), (a_t_could, .inl (I, 70, .inl v_t_could)), (a_t_row, .inl (I, 4, .inl v_t_row)), (a_t_sets, .inl (I, 70, .inl v_t_sets)), (a_t_winsHigh, .inl (J, 70, .inr (.inl v_t_winsHigh))), (a_t_winsLow, .inl (J, 70, .inr (.inl v_t_winsLow)))] H locs → ∀ ls, lv_has ls 6 [(0, .ref a_t), (1, .int x1), (2, .int x2), (5, .int yx5)] → W p l e R s m args below meth c H locs 0 0 Q (F0 m 68 ls [])) →
    ∀ H locs, Wd D A s.heap [(a_t, .inr (10, [.int v_t_numbers, .int v_t_onTicket, .int v_t_drawn, .int v_t_due, .ref a_t_tickets, .int v_t_ticketMany, .int v_t_fond, .ref a_t_prizes, .ref a_t_sightTicket, .ref a_t_sightRight, .ref a_t_sightHow, .int v_t_sights, .ref a_t_draws, .int v_t_drawMany, .ref a_t_sets, .int v_t_setMany, .ref a_t_winsLow, .ref a_t_winsHigh, .ref a_t_pad, .int v_t_padMany, .long v_t_low, .long v_t_high, .ref a_t_could, .int v_t_couldMany, .ref a_t_row, .ref a_t_best, .ref a_t_kept, .ref a_t_isKept, .int v_t_keptAt, .int v_t_isWriting])), (a_t_best, .inl (I, 4, .inl v_t_best)), (a_t_could, .inl (I, 70, .inl v_t_could)), (a_t_row, .inl (I, 4, .inl v_t_row)), (a_t_sets, .inl (I, 70, .inl v_t_sets)), (a_t_winsHigh, .inl (J, 70, .inr (.inl v_t_winsHigh))), (a_t_winsLow, .inl (J, 70, .inr (.inl v_t_winsLow)))] H locs → ∀ ls, lv_has ls 6 [(0, .ref a_t), (1, .int x1), (2, .int x2), (5, .int x5)] → W p l e R s m args below meth c H locs 0 0 Q (F0 m 32 ls []) := by
    intro n
    induction n with
    | zero =>
      intro x1 x2 x5 v_t_high v_t_low v_t_best v_t_row yx5 y_t_best h
      exact no_e h
    | succ n ih =>
      intro x1 x2 x5 v_t_high v_t_low v_t_best v_t_row yx5 y_t_best h K H locs hW ls hl
      rw [L_Model_findMost_32] at h
      refine lv_iload hx hb d_Model_findMost_32 (lv_at hl 3 rfl) ?_
      refine lv_iload_n hx hb d_Model_findMost_34 rfl (lv_at hl 1 rfl) ?_
      refine lv_icmp_ge (tgt := 68) hx hb d_Model_findMost_35 (by decide) (fun c_8 => ?_) (fun c_8 => ?_)
      · have h := it_e c_8 h
        cases h
        exact K _ _ hW ls (lv_sub hl [0, 1, 2, 3] rfl)
      · have h := ie_e c_8 h
        refine lv_aload_n hx hb d_Model_findMost_38 rfl (lv_at hl 0 rfl) ?_
        refine x_get hC hW 0 rfl fl_Model_47 rfl d_Model_findMost_39 ?_
        refine lv_iload hx hb d_Model_findMost_42 (lv_at hl 3 rfl) ?_
        refine lv_aload_n hx hb d_Model_findMost_44 rfl (lv_at hl 0 rfl) ?_
        refine x_get hC hW 0 rfl fl_Model_28 rfl d_Model_findMost_45 ?_
        refine lv_aload_n hx hb d_Model_findMost_48 rfl (lv_at hl 0 rfl) ?_
        refine x_get hC hW 0 rfl fl_Model_41 rfl d_Model_findMost_49 ?_
        refine lv_aload_n hx hb d_Model_findMost_52 rfl (lv_at hl 0 rfl) ?_
        refine x_get hC hW 0 rfl fl_Model_44 rfl d_Model_findMost_53 ?_
        refine lv_iload hx hb d_Model_findMost_56 (lv_at hl 3 rfl) ?_
        obtain ⟨hi_9, h⟩ := gd_e h
        refine x_iald hC hW 3 rfl hi_9 d_Model_findMost_58 ?_
        obtain ⟨hi_10, h⟩ := gd_e h
        refine x_iald hC hW 2 rfl hi_10 d_Model_findMost_59 ?_
        obtain ⟨hi_11, h⟩ := gd_e h
        refine x_iald hC hW 4 rfl hi_11 d_Model_findMost_60 ?_
        obtain ⟨hi_12, h⟩ := gd_e h
        refine x_iast (ws' := [(a_t, .inr (10, [.int v_t_numbers, .int v_t_onTicket, .int v_t_drawn, .int v_t_due, .ref a_t_tickets, .int v_t_ticketMany, .int v_t_fond, .ref a_t_prizes, .ref a_t_sightTicket, .ref a_t_sightRight, .ref a_t_sightHow, .int v_t_sights, .ref a_t_draws, .int v_t_drawMany, .ref a_t_sets, .int v_t_setMany, .ref a_t_winsLow, .ref a_t_winsHigh, .ref a_t_pad, .int v_t_padMany, .long v_t_low, .long v_t_high, .ref a_t_could, .int v_t_couldMany, .ref a_t_row, .ref a_t_best, .ref a_t_kept, .ref a_t_isKept, .int v_t_keptAt, .int v_t_isWriting])), (a_t_best, .inl (I, 4, .inl (upd v_t_best x5.toNatClampNeg (v_t_sets (v_t_could (v_t_row x5.toNatClampNeg).toNatClampNeg).toNatClampNeg)))), (a_t_could, .inl (I, 70, .inl v_t_could)), (a_t_row, .inl (I, 4, .inl v_t_row)), (a_t_sets, .inl (I, 70, .inl v_t_sets)), (a_t_winsHigh, .inl (J, 70, .inr (.inl v_t_winsHigh))), (a_t_winsLow, .inl (J, 70, .inr (.inl v_t_winsLow)))]) hC hW 1 rfl hi_12 d_Model_findMost_61 rfl (fun H locs hW => ?_)
        refine lv_iinc (v := (x5 + (1 : Int32))) (lv' := [(5, .int (x5 + (1 : Int32))), (0, .ref a_t), (1, .int x1), (2, .int x2)]) hx hb d_Model_findMost_62 hl (k := 3) rfl (iinc_e (by decide)) (by decide) rfl (fun ls hl => ?_)
        refine lv_goto (tgt := 32) hx hb d_Model_findMost_65 (by decide) ?_
        exact ih x1 x2 (x5 + (1 : Int32)) v_t_high v_t_low (upd v_t_best x5.toNatClampNeg (v_t_sets (v_t_could (v_t_row x5.toNatClampNeg).toNatClampNeg).toNatClampNeg)) v_t_row _ _ h K _ _ hW ls (lv_sub hl [1, 2, 3, 0] rfl)
  have lp9 : ∀ (n : Nat) (x1 : Int32) (x2 : Int32) (x3 : Int32) (v_t_high : Int64) (v_t_low : Int64) (v_t_best : Nat → Int32) (v_t_row : Nat → Int32) (yx2 : Int32) (yx3 : Int32) (y_t_high : Int64) (y_t_low : Int64) (y_t_best : Nat → Int32) (y_t_row : Nat → Int32), L_Model_findMost_9 x1 v_t_couldMany v_t_drawMany v_t_could v_t_sets v_t_winsHigh v_t_winsLow n x2 x3 v_t_high v_t_low v_t_best v_t_row = some (yx2, yx3, y_t_high, y_t_low, y_t_best, y_t_row) →
    (∀ H locs, Wd D A s.heap [(a_t, .inr (10, [.int v_t_numbers, .int v_t_onTicket, .int v_t_drawn, .int v_t_due, .ref a_t_tickets, .int v_t_ticketMany, .int v_t_fond, .ref a_t_prizes, .ref a_t_sightTicket, .ref a_t_sightRight, .ref a_t_sightHow, .int v_t_sights, .ref a_t_draws, .int v_t_drawMany, .ref a_t_sets, .int v_t_setMany, .ref a_t_winsLow, .ref a_t_winsHigh, .ref a_t_pad, .int v_t_padMany, .long y_t_low, .long y_t_high, .ref a_t_could, .int v_t_couldMany, .ref a_t_row, .ref a_t_best, .ref a_t_kept, .ref a_t_isKept, .int v_t_keptAt, .int v_t_isWriting])), (a_t_best, .inl (I, 4, .inl y_t_best)), (a_t_could, .inl (I, 70, .inl v_t_could)), (a_t_row, .inl (I, 4, .inl y_t_row)), (a_t_sets, .inl (I, 70, .inl v_t_sets)), (a_t_winsHigh, .inl (J, 70, .inr (.inl v_t_winsHigh))), (a_t_winsLow, .inl (J, 70, .inr (.inl v_t_winsLow)))] H locs → ∀ ls, lv_has ls 6 [(0, .ref a_t), (1, .int x1), (2, .int yx2), (3, .int yx3)] → W p l e R s m args below meth c H locs 0 0 Q (F0 m 93 ls [])) →
    ∀ H locs, Wd D A s.heap [(a_t, .inr (10, [.int v_t_numbers, .int v_t_onTicket, .int v_t_drawn, .int v_t_due, .ref a_t_tickets, .int v_t_ticketMany, .int v_t_fond, .ref a_t_prizes, .ref a_t_sightTicket, .ref a_t_sightRight, .ref a_t_sightHow, .int v_t_sights, .ref a_t_draws, .int v_t_drawMany, .ref a_t_sets, .int v_t_setMany, .ref a_t_winsLow, .ref a_t_winsHigh, .ref a_t_pad, .int v_t_padMany, .long v_t_low, .long v_t_high, .ref a_t_could, .int v_t_couldMany, .ref a_t_row, .ref a_t_best, .ref a_t_kept, .ref a_t_isKept, .int v_t_keptAt, .int v_t_isWriting])), (a_t_best, .inl (I, 4, .inl v_t_best)), (a_t_could, .inl (I, 70, .inl v_t_could)), (a_t_row, .inl (I, 4, .inl v_t_row)), (a_t_sets, .inl (I, 70, .inl v_t_sets)), (a_t_winsHigh, .inl (J, 70, .inr (.inl v_t_winsHigh))), (a_t_winsLow, .inl (J, 70, .inr (.inl v_t_winsLow)))] H locs → ∀ ls, lv_has ls 6 [(0, .ref a_t), (1, .int x1), (2, .int x2), (3, .int x3)] → W p l e R s m args below meth c H locs 0 0 Q (F0 m 9 ls []) := by
    intro n
    induction n with
    | zero =>
      intro x1 x2 x3 v_t_high v_t_low v_t_best v_t_row yx2 yx3 y_t_high y_t_low y_t_best y_t_row h
      exact no_e h
    | succ n ih =>
      intro x1 x2 x3 v_t_high v_t_low v_t_best v_t_row yx2 yx3 y_t_high y_t_low y_t_best y_t_row h K H locs hW ls hl
      rw [L_Model_findMost_9] at h
      refine lv_iload_n hx hb d_Model_findMost_9 rfl (lv_at hl 3 rfl) ?_
      refine lv_if_eq (tgt := 93) hx hb d_Model_findMost_10 (by decide) (fun c_2 => ?_) (fun c_2 => ?_)
      · have h := it_e c_2 h
        cases h
        exact K _ _ hW ls (lv_sub hl [0, 1, 2, 3] rfl)
      · have h := ie_e c_2 h
        refine lv_aload_n hx hb d_Model_findMost_13 rfl (lv_at hl 0 rfl) ?_
        refine lv_iload_n hx hb d_Model_findMost_14 rfl (lv_at hl 1 rfl) ?_
        obtain ⟨r_3, w_3_0, w_3_1, hc_3, h⟩ := bk3_e h
        refine x_ci (ws' := [(a_t, .inr (10, [.int v_t_numbers, .int v_t_onTicket, .int v_t_drawn, .int v_t_due, .ref a_t_tickets, .int v_t_ticketMany, .int v_t_fond, .ref a_t_prizes, .ref a_t_sightTicket, .ref a_t_sightRight, .ref a_t_sightHow, .int v_t_sights, .ref a_t_draws, .int v_t_drawMany, .ref a_t_sets, .int v_t_setMany, .ref a_t_winsLow, .ref a_t_winsHigh, .ref a_t_pad, .int v_t_padMany, .long w_3_1, .long w_3_0, .ref a_t_could, .int v_t_couldMany, .ref a_t_row, .ref a_t_best, .ref a_t_kept, .ref a_t_isKept, .int v_t_keptAt, .int v_t_isWriting])), (a_t_best, .inl (I, 4, .inl v_t_best)), (a_t_could, .inl (I, 70, .inl v_t_could)), (a_t_row, .inl (I, 4, .inl v_t_row)), (a_t_sets, .inl (I, 70, .inl v_t_sets)), (a_t_winsHigh, .inl (J, 70, .inr (.inl v_t_winsHigh))), (a_t_winsLow, .inl (J, 70, .inr (.inl v_t_winsLow)))]) (x_runV (As := [.int x1]) (rest := []) hC hW (c_Model_wonByRow l D I J Z a_t a_t_could a_t_row a_t_winsHigh a_t_winsLow a_t_tickets a_t_prizes a_t_sightTicket a_t_sightRight a_t_sightHow a_t_draws a_t_sets a_t_pad a_t_best a_t_kept a_t_isKept v_t_numbers v_t_onTicket v_t_drawn v_t_due v_t_ticketMany v_t_fond v_t_sights v_t_drawMany v_t_setMany v_t_padMany v_t_low v_t_high v_t_couldMany v_t_keptAt v_t_isWriting v_t_could v_t_row v_t_winsHigh v_t_winsLow x1 (r_3, w_3_0, w_3_1) hc_3) cl_Model_170 q_code_Model_wonByRow [0, 2, 3, 5, 6] rfl (by decide) 0 rfl rfl rfl rfl hl.1 (Nat.le_of_ble_eq_true rfl) (rm_ok hR1 hR2 (by decide) (by decide)) ⟨Nat.zero_le _, Nat.zero_le _⟩ d_Model_findMost_15) hW hA [0, 2, 3, 5, 6] rfl rfl (ps := [some 0, none, some 1, some 2, none, some 3, some 4]) (by decide +kernel) ⟨rfl, rfl, rfl, rfl, rfl, rfl, rfl, trivial⟩ (fun H locs hW => ?_)
        refine lv_istore (lv' := [(4, .int r_3), (0, .ref a_t), (1, .int x1), (2, .int x2), (3, .int x3)]) hx hb d_Model_findMost_18 hl (by decide) rfl (fun ls hl => ?_)
        refine lv_iload hx hb d_Model_findMost_20 (lv_at hl 0 rfl) ?_
        refine lv_iload_n hx hb d_Model_findMost_22 rfl (lv_at hl 3 rfl) ?_
        refine lv_icmp_le (tgt := 68) hx hb d_Model_findMost_23 (by decide) (fun c_4 => ?_) (fun c_4 => ?_)
        · have h := it_e c_4 h
          refine lv_iload_n hx hb d_Model_findMost_68 rfl (lv_at hl 3 rfl) ?_
          refine lv_aload_n hx hb d_Model_findMost_69 rfl (lv_at hl 1 rfl) ?_
          refine x_get hC hW 0 rfl fl_Model_86 rfl d_Model_findMost_70 ?_
          refine lv_icmp_ge (tgt := 88) hx hb d_Model_findMost_73 (by decide) (fun c_5 => ?_) (fun c_5 => ?_)
          · have h := it_e c_5 h
            refine lv_iconst (v := (0 : Int32)) hx hb d_Model_findMost_88 (by decide) ?_
            refine lv_istore_n (lv' := [(3, .int (0 : Int32)), (4, .int r_3), (0, .ref a_t), (1, .int x1), (2, .int x2)]) hx hb d_Model_findMost_89 rfl hl (by decide) rfl (fun ls hl => ?_)
            refine lv_goto (tgt := 9) hx hb d_Model_findMost_90 (by decide) ?_
            exact ih x1 x2 (0 : Int32) w_3_0 w_3_1 v_t_best v_t_row _ _ _ _ _ _ h K _ _ hW ls (lv_sub hl [2, 3, 4, 0] rfl)
          · have h := ie_e c_5 h
            refine lv_aload_n hx hb d_Model_findMost_76 rfl (lv_at hl 1 rfl) ?_
            refine lv_iload_n hx hb d_Model_findMost_77 rfl (lv_at hl 2 rfl) ?_
            obtain ⟨r_6, w_6_0, hc_6, h⟩ := bk2_e h
            refine x_ci (ws' := [(a_t, .inr (10, [.int v_t_numbers, .int v_t_onTicket, .int v_t_drawn, .int v_t_due, .ref a_t_tickets, .int v_t_ticketMany, .int v_t_fond, .ref a_t_prizes, .ref a_t_sightTicket, .ref a_t_sightRight, .ref a_t_sightHow, .int v_t_sights, .ref a_t_draws, .int v_t_drawMany, .ref a_t_sets, .int v_t_setMany, .ref a_t_winsLow, .ref a_t_winsHigh, .ref a_t_pad, .int v_t_padMany, .long w_3_1, .long w_3_0, .ref a_t_could, .int v_t_couldMany, .ref a_t_row, .ref a_t_best, .ref a_t_kept, .ref a_t_isKept, .int v_t_keptAt, .int v_t_isWriting])), (a_t_best, .inl (I, 4, .inl v_t_best)), (a_t_could, .inl (I, 70, .inl v_t_could)), (a_t_row, .inl (I, 4, .inl w_6_0)), (a_t_sets, .inl (I, 70, .inl v_t_sets)), (a_t_winsHigh, .inl (J, 70, .inr (.inl v_t_winsHigh))), (a_t_winsLow, .inl (J, 70, .inr (.inl v_t_winsLow)))]) (x_runV (As := [.int x1]) (rest := []) hC hW (c_Model_nextRow l D I J Z a_t a_t_row a_t_tickets a_t_prizes a_t_sightTicket a_t_sightRight a_t_sightHow a_t_draws a_t_sets a_t_winsLow a_t_winsHigh a_t_pad a_t_could a_t_best a_t_kept a_t_isKept v_t_numbers v_t_onTicket v_t_drawn v_t_due v_t_ticketMany v_t_fond v_t_sights v_t_drawMany v_t_setMany v_t_padMany w_3_1 w_3_0 v_t_couldMany v_t_keptAt v_t_isWriting v_t_row x1 (r_6, w_6_0) hc_6) cl_Model_173 q_code_Model_nextRow [0, 3] rfl (by decide) 0 rfl rfl rfl rfl hl.1 (Nat.le_of_ble_eq_true rfl) (rm_ok hR1 hR2 (by decide) (by decide)) ⟨Nat.zero_le _, Nat.zero_le _⟩ d_Model_findMost_78) hW hA [0, 3] rfl rfl (ps := [some 0, none, none, some 1, none, none, none]) (by decide +kernel) ⟨rfl, rfl, rfl, rfl, rfl, rfl, rfl, trivial⟩ (fun H locs hW => ?_)
            refine lv_if_eq (tgt := 88) hx hb d_Model_findMost_81 (by decide) (fun c_7 => ?_) (fun c_7 => ?_)
            · have h := it_e c_7 h
              refine lv_iconst (v := (0 : Int32)) hx hb d_Model_findMost_88 (by decide) ?_
              refine lv_istore_n (lv' := [(3, .int (0 : Int32)), (4, .int r_3), (0, .ref a_t), (1, .int x1), (2, .int x2)]) hx hb d_Model_findMost_89 rfl hl (by decide) rfl (fun ls hl => ?_)
              refine lv_goto (tgt := 9) hx hb d_Model_findMost_90 (by decide) ?_
              exact ih x1 x2 (0 : Int32) w_3_0 w_3_1 v_t_best w_6_0 _ _ _ _ _ _ h K _ _ hW ls (lv_sub hl [2, 3, 4, 0] rfl)
            · have h := ie_e c_7 h
              refine lv_iconst (v := (1 : Int32)) hx hb d_Model_findMost_84 (by decide) ?_
              refine lv_goto (tgt := 89) hx hb d_Model_findMost_85 (by decide) ?_
              refine lv_istore_n (lv' := [(3, .int (1 : Int32)), (4, .int r_3), (0, .ref a_t), (1, .int x1), (2, .int x2)]) hx hb d_Model_findMost_89 rfl hl (by decide) rfl (fun ls hl => ?_)
              refine lv_goto (tgt := 9) hx hb d_Model_findMost_90 (by decide) ?_
              exact ih x1 x2 (1 : Int32) w_3_0 w_3_1 v_t_best w_6_0 _ _ _ _ _ _ h K _ _ hW ls (lv_sub hl [2, 3, 4, 0] rfl)
        · have h := ie_e c_4 h
          refine lv_iload hx hb d_Model_findMost_26 (lv_at hl 0 rfl) ?_
          refine lv_istore_n (lv' := [(2, .int r_3), (4, .int r_3), (0, .ref a_t), (1, .int x1), (3, .int x3)]) hx hb d_Model_findMost_28 rfl hl (by decide) rfl (fun ls hl => ?_)
          refine lv_iconst (v := (0 : Int32)) hx hb d_Model_findMost_29 (by decide) ?_
          refine lv_istore (lv' := [(5, .int (0 : Int32)), (2, .int r_3), (4, .int r_3), (0, .ref a_t), (1, .int x1), (3, .int x3)]) hx hb d_Model_findMost_30 hl (by decide) rfl (fun ls hl => ?_)
          obtain ⟨yx5_13, y_t_best_13, hv_13, h⟩ := bk2_e h
          refine lp32 _ x1 r_3 (0 : Int32) w_3_0 w_3_1 v_t_best v_t_row yx5_13 y_t_best_13 hv_13 (fun H locs hW ls hl => ?_) _ _ hW ls (lv_sub hl [3, 4, 1, 0] rfl)
          refine lv_iload_n hx hb d_Model_findMost_68 rfl (lv_at hl 2 rfl) ?_
          refine lv_aload_n hx hb d_Model_findMost_69 rfl (lv_at hl 0 rfl) ?_
          refine x_get hC hW 0 rfl fl_Model_86 rfl d_Model_findMost_70 ?_
          refine lv_icmp_ge (tgt := 88) hx hb d_Model_findMost_73 (by decide) (fun c_14 => ?_) (fun c_14 => ?_)
          · have h := it_e c_14 h
            refine lv_iconst (v := (0 : Int32)) hx hb d_Model_findMost_88 (by decide) ?_
            refine lv_istore_n (lv' := [(3, .int (0 : Int32)), (0, .ref a_t), (1, .int x1), (2, .int r_3), (5, .int yx5_13)]) hx hb d_Model_findMost_89 rfl hl (by decide) rfl (fun ls hl => ?_)
            refine lv_goto (tgt := 9) hx hb d_Model_findMost_90 (by decide) ?_
            exact ih x1 r_3 (0 : Int32) w_3_0 w_3_1 y_t_best_13 v_t_row _ _ _ _ _ _ h K _ _ hW ls (lv_sub hl [1, 2, 3, 0] rfl)
          · have h := ie_e c_14 h
            refine lv_aload_n hx hb d_Model_findMost_76 rfl (lv_at hl 0 rfl) ?_
            refine lv_iload_n hx hb d_Model_findMost_77 rfl (lv_at hl 1 rfl) ?_
            obtain ⟨r_15, w_15_0, hc_15, h⟩ := bk2_e h
            refine x_ci (ws' := [(a_t, .inr (10, [.int v_t_numbers, .int v_t_onTicket, .int v_t_drawn, .int v_t_due, .ref a_t_tickets, .int v_t_ticketMany, .int v_t_fond, .ref a_t_prizes, .ref a_t_sightTicket, .ref a_t_sightRight, .ref a_t_sightHow, .int v_t_sights, .ref a_t_draws, .int v_t_drawMany, .ref a_t_sets, .int v_t_setMany, .ref a_t_winsLow, .ref a_t_winsHigh, .ref a_t_pad, .int v_t_padMany, .long w_3_1, .long w_3_0, .ref a_t_could, .int v_t_couldMany, .ref a_t_row, .ref a_t_best, .ref a_t_kept, .ref a_t_isKept, .int v_t_keptAt, .int v_t_isWriting])), (a_t_best, .inl (I, 4, .inl y_t_best_13)), (a_t_could, .inl (I, 70, .inl v_t_could)), (a_t_row, .inl (I, 4, .inl w_15_0)), (a_t_sets, .inl (I, 70, .inl v_t_sets)), (a_t_winsHigh, .inl (J, 70, .inr (.inl v_t_winsHigh))), (a_t_winsLow, .inl (J, 70, .inr (.inl v_t_winsLow)))]) (x_runV (As := [.int x1]) (rest := []) hC hW (c_Model_nextRow l D I J Z a_t a_t_row a_t_tickets a_t_prizes a_t_sightTicket a_t_sightRight a_t_sightHow a_t_draws a_t_sets a_t_winsLow a_t_winsHigh a_t_pad a_t_could a_t_best a_t_kept a_t_isKept v_t_numbers v_t_onTicket v_t_drawn v_t_due v_t_ticketMany v_t_fond v_t_sights v_t_drawMany v_t_setMany v_t_padMany w_3_1 w_3_0 v_t_couldMany v_t_keptAt v_t_isWriting v_t_row x1 (r_15, w_15_0) hc_15) cl_Model_173 q_code_Model_nextRow [0, 3] rfl (by decide) 0 rfl rfl rfl rfl hl.1 (Nat.le_of_ble_eq_true rfl) (rm_ok hR1 hR2 (by decide) (by decide)) ⟨Nat.zero_le _, Nat.zero_le _⟩ d_Model_findMost_78) hW hA [0, 3] rfl rfl (ps := [some 0, none, none, some 1, none, none, none]) (by decide +kernel) ⟨rfl, rfl, rfl, rfl, rfl, rfl, rfl, trivial⟩ (fun H locs hW => ?_)
            refine lv_if_eq (tgt := 88) hx hb d_Model_findMost_81 (by decide) (fun c_16 => ?_) (fun c_16 => ?_)
            · have h := it_e c_16 h
              refine lv_iconst (v := (0 : Int32)) hx hb d_Model_findMost_88 (by decide) ?_
              refine lv_istore_n (lv' := [(3, .int (0 : Int32)), (0, .ref a_t), (1, .int x1), (2, .int r_3), (5, .int yx5_13)]) hx hb d_Model_findMost_89 rfl hl (by decide) rfl (fun ls hl => ?_)
              refine lv_goto (tgt := 9) hx hb d_Model_findMost_90 (by decide) ?_
              exact ih x1 r_3 (0 : Int32) w_3_0 w_3_1 y_t_best_13 w_15_0 _ _ _ _ _ _ h K _ _ hW ls (lv_sub hl [1, 2, 3, 0] rfl)
            · have h := ie_e c_16 h
              refine lv_iconst (v := (1 : Int32)) hx hb d_Model_findMost_84 (by decide) ?_
              refine lv_goto (tgt := 89) hx hb d_Model_findMost_85 (by decide) ?_
              refine lv_istore_n (lv' := [(3, .int (1 : Int32)), (0, .ref a_t), (1, .int x1), (2, .int r_3), (5, .int yx5_13)]) hx hb d_Model_findMost_89 rfl hl (by decide) rfl (fun ls hl => ?_)
              refine lv_goto (tgt := 9) hx hb d_Model_findMost_90 (by decide) ?_
              exact ih x1 r_3 (1 : Int32) w_3_0 w_3_1 y_t_best_13 w_15_0 _ _ _ _ _ _ h K _ _ hW ls (lv_sub hl [1, 2, 3, 0] rfl)
  refine lv_iconst (v := (-1 : Int32)) hx hb d_Model_findMost_0 (by decide) ?_
  refine lv_istore_n (lv' := [(2, .int (-1 : Int32)), (0, .ref a_t), (1, .int p0)]) hx hb d_Model_findMost_1 rfl hl (by decide) rfl (fun ls hl => ?_)
  refine lv_aload_n hx hb d_Model_findMost_2 rfl (lv_at hl 1 rfl) ?_
  refine lv_iload_n hx hb d_Model_findMost_3 rfl (lv_at hl 2 rfl) ?_
  obtain ⟨w_1_0, hc_1, h⟩ := bk1_e h
  refine x_cv (ws' := [(a_t, .inr (10, [.int v_t_numbers, .int v_t_onTicket, .int v_t_drawn, .int v_t_due, .ref a_t_tickets, .int v_t_ticketMany, .int v_t_fond, .ref a_t_prizes, .ref a_t_sightTicket, .ref a_t_sightRight, .ref a_t_sightHow, .int v_t_sights, .ref a_t_draws, .int v_t_drawMany, .ref a_t_sets, .int v_t_setMany, .ref a_t_winsLow, .ref a_t_winsHigh, .ref a_t_pad, .int v_t_padMany, .long v_t_low, .long v_t_high, .ref a_t_could, .int v_t_couldMany, .ref a_t_row, .ref a_t_best, .ref a_t_kept, .ref a_t_isKept, .int v_t_keptAt, .int v_t_isWriting])), (a_t_best, .inl (I, 4, .inl v_t_best)), (a_t_could, .inl (I, 70, .inl v_t_could)), (a_t_row, .inl (I, 4, .inl w_1_0)), (a_t_sets, .inl (I, 70, .inl v_t_sets)), (a_t_winsHigh, .inl (J, 70, .inr (.inl v_t_winsHigh))), (a_t_winsLow, .inl (J, 70, .inr (.inl v_t_winsLow)))]) (x_runV (As := [.int p0]) (rest := []) hC hW (c_Model_layRow l D I J Z a_t a_t_row a_t_tickets a_t_prizes a_t_sightTicket a_t_sightRight a_t_sightHow a_t_draws a_t_sets a_t_winsLow a_t_winsHigh a_t_pad a_t_could a_t_best a_t_kept a_t_isKept v_t_numbers v_t_onTicket v_t_drawn v_t_due v_t_ticketMany v_t_fond v_t_sights v_t_drawMany v_t_setMany v_t_padMany v_t_low v_t_high v_t_couldMany v_t_keptAt v_t_isWriting v_t_row p0 (w_1_0) hc_1) cl_Model_167 q_code_Model_layRow [0, 3] rfl (by decide) 0 rfl rfl rfl rfl hl.1 (Nat.le_of_ble_eq_true rfl) (rm_ok hR1 hR2 (by decide) (by decide)) ⟨Nat.zero_le _, Nat.zero_le _⟩ d_Model_findMost_4) hW hA [0, 3] rfl rfl (ps := [some 0, none, none, some 1, none, none, none]) (by decide +kernel) ⟨rfl, rfl, rfl, rfl, rfl, rfl, rfl, trivial⟩ (fun H locs hW => ?_)
  refine lv_iconst (v := (1 : Int32)) hx hb d_Model_findMost_7 (by decide) ?_
  refine lv_istore_n (lv' := [(3, .int (1 : Int32)), (2, .int (-1 : Int32)), (0, .ref a_t), (1, .int p0)]) hx hb d_Model_findMost_8 rfl hl (by decide) rfl (fun ls hl => ?_)
  obtain ⟨yx2_17, yx3_17, y_t_high_17, y_t_low_17, y_t_best_17, y_t_row_17, hv_17, h⟩ := bk6_e h
  refine lp9 _ p0 (-1 : Int32) (1 : Int32) v_t_high v_t_low v_t_best w_1_0 yx2_17 yx3_17 y_t_high_17 y_t_low_17 y_t_best_17 y_t_row_17 hv_17 (fun H locs hW ls hl => ?_) _ _ hW ls (lv_sub hl [2, 3, 1, 0] rfl)
  refine lv_iload_n hx hb d_Model_findMost_93 rfl (lv_at hl 2 rfl) ?_
  cases h
  rw [hQ]
  exact x_iret hC hr hW d_Model_findMost_94

def f_Model_most (v_t_couldMany : Int32) (v_t_drawMany : Int32) (v_t_fond : Int32) (v_t_high : Int64) (v_t_low : Int64) (v_t_setMany : Int32) (v_t_best : Nat → Int32) (v_t_could : Nat → Int32) (v_t_row : Nat → Int32) (v_t_sets : Nat → Int32) (v_t_winsHigh : Nat → Int64) (v_t_winsLow : Nat → Int64) (p0 : Int32) (p1 : Int32) : Option (Int32 × Int32 × Int64 × Int64 × (Nat → Int32) × (Nat → Int32) × (Nat → Int32)) :=
  bk1 (f_Model_in p0.toInt64 (1 : Int64) (3 : Int64)) fun r_1 => if r_1 = (0 : Int32) then some ((-2 : Int32), v_t_couldMany, v_t_high, v_t_low, v_t_best, v_t_could, v_t_row) else bk2 (f_Model_findCould v_t_fond v_t_setMany v_t_could v_t_sets) fun w_3_0 w_3_1 => if p0 ≤ w_3_0 then bk5 (f_Model_findMost w_3_0 v_t_drawMany v_t_high v_t_low v_t_best w_3_1 v_t_row v_t_sets v_t_winsHigh v_t_winsLow p0) fun r_5 w_5_0 w_5_1 w_5_2 w_5_3 => if p1 = (-1 : Int32) then some (r_5, w_3_0, w_5_0, w_5_1, w_5_2, w_3_1, w_5_3) else bk1 (f_Model_in p1.toInt64 (0 : Int64) (p0 - (1 : Int32)).toInt64) fun r_7 => if r_7 = (0 : Int32) then some ((-6 : Int32), w_3_0, w_5_0, w_5_1, w_5_2, w_3_1, w_5_3) else gd p1 4 (some ((w_5_2 p1.toNatClampNeg), w_3_0, w_5_0, w_5_1, w_5_2, w_3_1, w_5_3)) else some ((-6 : Int32), w_3_0, v_t_high, v_t_low, v_t_best, w_3_1, v_t_row)
set_option maxHeartbeats 4000000 in
set_option maxRecDepth 100000 in
theorem c_Model_most (l : Launch) (D : va_G) (I J Z : ClassId) (a_t : Nat) (a_t_best : Nat) (a_t_could : Nat) (a_t_row : Nat) (a_t_sets : Nat) (a_t_winsHigh : Nat) (a_t_winsLow : Nat) (a_t_tickets : Nat) (a_t_prizes : Nat) (a_t_sightTicket : Nat) (a_t_sightRight : Nat) (a_t_sightHow : Nat) (a_t_draws : Nat) (a_t_pad : Nat) (a_t_kept : Nat) (a_t_isKept : Nat)  (v_t_numbers : Int32) (v_t_onTicket : Int32) (v_t_drawn : Int32) (v_t_due : Int32) (v_t_ticketMany : Int32) (v_t_fond : Int32) (v_t_sights : Int32) (v_t_drawMany : Int32) (v_t_setMany : Int32) (v_t_padMany : Int32) (v_t_low : Int64) (v_t_high : Int64) (v_t_couldMany : Int32) (v_t_keptAt : Int32) (v_t_isWriting : Int32) (v_t_best : Nat → Int32) (v_t_could : Nat → Int32) (v_t_row : Nat → Int32) (v_t_sets : Nat → Int32) (v_t_winsHigh : Nat → Int64) (v_t_winsLow : Nat → Int64) (p0 : Int32) (p1 : Int32) (out : (Int32 × Int32 × Int64 × Int64 × (Nat → Int32) × (Nat → Int32) × (Nat → Int32))) (h : f_Model_most v_t_couldMany v_t_drawMany v_t_fond v_t_high v_t_low v_t_setMany v_t_best v_t_could v_t_row v_t_sets v_t_winsHigh v_t_winsLow p0 p1 = some out) : CT l D I J Z y_Model_most b_Model_most 4 (some .int) 5 [.ref a_t, .int p0, .int p1] [(a_t, .inr (10, [.int v_t_numbers, .int v_t_onTicket, .int v_t_drawn, .int v_t_due, .ref a_t_tickets, .int v_t_ticketMany, .int v_t_fond, .ref a_t_prizes, .ref a_t_sightTicket, .ref a_t_sightRight, .ref a_t_sightHow, .int v_t_sights, .ref a_t_draws, .int v_t_drawMany, .ref a_t_sets, .int v_t_setMany, .ref a_t_winsLow, .ref a_t_winsHigh, .ref a_t_pad, .int v_t_padMany, .long v_t_low, .long v_t_high, .ref a_t_could, .int v_t_couldMany, .ref a_t_row, .ref a_t_best, .ref a_t_kept, .ref a_t_isKept, .int v_t_keptAt, .int v_t_isWriting])), (a_t_best, .inl (I, 4, .inl v_t_best)), (a_t_could, .inl (I, 70, .inl v_t_could)), (a_t_row, .inl (I, 4, .inl v_t_row)), (a_t_sets, .inl (I, 70, .inl v_t_sets)), (a_t_winsHigh, .inl (J, 70, .inr (.inl v_t_winsHigh))), (a_t_winsLow, .inl (J, 70, .inr (.inl v_t_winsLow)))] (PoI out.1 D [(a_t, .inr (10, [.int v_t_numbers, .int v_t_onTicket, .int v_t_drawn, .int v_t_due, .ref a_t_tickets, .int v_t_ticketMany, .int v_t_fond, .ref a_t_prizes, .ref a_t_sightTicket, .ref a_t_sightRight, .ref a_t_sightHow, .int v_t_sights, .ref a_t_draws, .int v_t_drawMany, .ref a_t_sets, .int v_t_setMany, .ref a_t_winsLow, .ref a_t_winsHigh, .ref a_t_pad, .int v_t_padMany, .long out.2.2.2.1, .long out.2.2.1, .ref a_t_could, .int out.2.1, .ref a_t_row, .ref a_t_best, .ref a_t_kept, .ref a_t_isKept, .int v_t_keptAt, .int v_t_isWriting])), (a_t_best, .inl (I, 4, .inl out.2.2.2.2.1)), (a_t_could, .inl (I, 70, .inl out.2.2.2.2.2.1)), (a_t_row, .inl (I, 4, .inl out.2.2.2.2.2.2)), (a_t_sets, .inl (I, 70, .inl v_t_sets)), (a_t_winsHigh, .inl (J, 70, .inr (.inl v_t_winsHigh))), (a_t_winsLow, .inl (J, 70, .inr (.inl v_t_winsLow)))]) := by
  unfold f_Model_most at h
  refine CT_of R_Model (by decide +kernel) rfl (Nat.le_of_ble_eq_true rfl) ?_
  intro p e R s m args below meth c A ls Q hR1 hR2 hQ hC hr hW hA hl
  have hx := hC.1
  have hb := hC.2.1
  have hl : lv_has ls 4 [(0, .ref a_t), (1, .int p0), (2, .int p1)] := hl
  refine lv_iload_n hx hb d_Model_most_0 rfl (lv_at hl 1 rfl) ?_
  refine lv_i2l hx hb d_Model_most_1 rfl ?_
  refine lv_lconst (v := (1 : Int64)) hx hb d_Model_most_2 (by decide) ?_
  refine x_ldc2 hC q_con_Model_107 d_Model_most_3 ?_
  obtain ⟨r_1, hc_1, h⟩ := bk1_e h
  refine x_ci (ws' := [(a_t, .inr (10, [.int v_t_numbers, .int v_t_onTicket, .int v_t_drawn, .int v_t_due, .ref a_t_tickets, .int v_t_ticketMany, .int v_t_fond, .ref a_t_prizes, .ref a_t_sightTicket, .ref a_t_sightRight, .ref a_t_sightHow, .int v_t_sights, .ref a_t_draws, .int v_t_drawMany, .ref a_t_sets, .int v_t_setMany, .ref a_t_winsLow, .ref a_t_winsHigh, .ref a_t_pad, .int v_t_padMany, .long v_t_low, .long v_t_high, .ref a_t_could, .int v_t_couldMany, .ref a_t_row, .ref a_t_best, .ref a_t_kept, .ref a_t_isKept, .int v_t_keptAt, .int v_t_isWriting])), (a_t_best, .inl (I, 4, .inl v_t_best)), (a_t_could, .inl (I, 70, .inl v_t_could)), (a_t_row, .inl (I, 4, .inl v_t_row)), (a_t_sets, .inl (I, 70, .inl v_t_sets)), (a_t_winsHigh, .inl (J, 70, .inr (.inl v_t_winsHigh))), (a_t_winsLow, .inl (J, 70, .inr (.inl v_t_winsLow)))]) (x_runS (rest := []) hC hW (c_Model_in l D I J Z p0.toInt64 (1 : Int64) (3 : Int64) (r_1) hc_1) cl_Model_111 q_code_Model_in [] rfl (by decide) rfl hl.1 (Nat.le_of_ble_eq_true rfl) (rm_ok hR1 hR2 (by decide) (by decide)) ⟨Nat.zero_le _, Nat.zero_le _⟩ d_Model_most_6) hW hA [] rfl rfl (ps := [none, none, none, none, none, none, none]) (by decide +kernel) ⟨rfl, rfl, rfl, rfl, rfl, rfl, rfl, trivial⟩ (fun H locs hW => ?_)
  refine lv_if_ne (tgt := 15) hx hb d_Model_most_9 (by decide) (fun c_2 => ?_) (fun c_2 => ?_)
  · have h := ie_e c_2 h
    refine lv_aload_n hx hb d_Model_most_15 rfl (lv_at hl 0 rfl) ?_
    obtain ⟨w_3_0, w_3_1, hc_3, h⟩ := bk2_e h
    refine x_cv (ws' := [(a_t, .inr (10, [.int v_t_numbers, .int v_t_onTicket, .int v_t_drawn, .int v_t_due, .ref a_t_tickets, .int v_t_ticketMany, .int v_t_fond, .ref a_t_prizes, .ref a_t_sightTicket, .ref a_t_sightRight, .ref a_t_sightHow, .int v_t_sights, .ref a_t_draws, .int v_t_drawMany, .ref a_t_sets, .int v_t_setMany, .ref a_t_winsLow, .ref a_t_winsHigh, .ref a_t_pad, .int v_t_padMany, .long v_t_low, .long v_t_high, .ref a_t_could, .int w_3_0, .ref a_t_row, .ref a_t_best, .ref a_t_kept, .ref a_t_isKept, .int v_t_keptAt, .int v_t_isWriting])), (a_t_best, .inl (I, 4, .inl v_t_best)), (a_t_could, .inl (I, 70, .inl w_3_1)), (a_t_row, .inl (I, 4, .inl v_t_row)), (a_t_sets, .inl (I, 70, .inl v_t_sets)), (a_t_winsHigh, .inl (J, 70, .inr (.inl v_t_winsHigh))), (a_t_winsLow, .inl (J, 70, .inr (.inl v_t_winsLow)))]) (x_runV (As := []) (rest := []) hC hW (c_Model_findCould l D I J Z a_t a_t_could a_t_sets a_t_tickets a_t_prizes a_t_sightTicket a_t_sightRight a_t_sightHow a_t_draws a_t_winsLow a_t_winsHigh a_t_pad a_t_row a_t_best a_t_kept a_t_isKept v_t_numbers v_t_onTicket v_t_drawn v_t_due v_t_ticketMany v_t_fond v_t_sights v_t_drawMany v_t_setMany v_t_padMany v_t_low v_t_high v_t_couldMany v_t_keptAt v_t_isWriting v_t_could v_t_sets (w_3_0, w_3_1) hc_3) cl_Model_176 q_code_Model_findCould [0, 2, 4] rfl (by decide) 0 rfl rfl rfl rfl hl.1 (Nat.le_of_ble_eq_true rfl) (rm_ok hR1 hR2 (by decide) (by decide)) ⟨Nat.zero_le _, Nat.zero_le _⟩ d_Model_most_16) hW hA [0, 2, 4] rfl rfl (ps := [some 0, none, some 1, none, some 2, none, none]) (by decide +kernel) ⟨rfl, rfl, rfl, rfl, rfl, rfl, rfl, trivial⟩ (fun H locs hW => ?_)
    refine lv_aload_n hx hb d_Model_most_19 rfl (lv_at hl 0 rfl) ?_
    refine x_get hC hW 0 rfl fl_Model_164 rfl d_Model_most_20 ?_
    refine lv_iload_n hx hb d_Model_most_23 rfl (lv_at hl 1 rfl) ?_
    refine lv_icmp_ge (tgt := 30) hx hb d_Model_most_24 (by decide) (fun c_4 => ?_) (fun c_4 => ?_)
    · have h := it_e c_4 h
      refine lv_aload_n hx hb d_Model_most_30 rfl (lv_at hl 0 rfl) ?_
      refine lv_iload_n hx hb d_Model_most_31 rfl (lv_at hl 1 rfl) ?_
      obtain ⟨r_5, w_5_0, w_5_1, w_5_2, w_5_3, hc_5, h⟩ := bk5_e h
      refine x_ci (ws' := [(a_t, .inr (10, [.int v_t_numbers, .int v_t_onTicket, .int v_t_drawn, .int v_t_due, .ref a_t_tickets, .int v_t_ticketMany, .int v_t_fond, .ref a_t_prizes, .ref a_t_sightTicket, .ref a_t_sightRight, .ref a_t_sightHow, .int v_t_sights, .ref a_t_draws, .int v_t_drawMany, .ref a_t_sets, .int v_t_setMany, .ref a_t_winsLow, .ref a_t_winsHigh, .ref a_t_pad, .int v_t_padMany, .long w_5_1, .long w_5_0, .ref a_t_could, .int w_3_0, .ref a_t_row, .ref a_t_best, .ref a_t_kept, .ref a_t_isKept, .int v_t_keptAt, .int v_t_isWriting])), (a_t_best, .inl (I, 4, .inl w_5_2)), (a_t_could, .inl (I, 70, .inl w_3_1)), (a_t_row, .inl (I, 4, .inl w_5_3)), (a_t_sets, .inl (I, 70, .inl v_t_sets)), (a_t_winsHigh, .inl (J, 70, .inr (.inl v_t_winsHigh))), (a_t_winsLow, .inl (J, 70, .inr (.inl v_t_winsLow)))]) (x_runV (As := [.int p0]) (rest := []) hC hW (c_Model_findMost l D I J Z a_t a_t_best a_t_could a_t_row a_t_sets a_t_winsHigh a_t_winsLow a_t_tickets a_t_prizes a_t_sightTicket a_t_sightRight a_t_sightHow a_t_draws a_t_pad a_t_kept a_t_isKept v_t_numbers v_t_onTicket v_t_drawn v_t_due v_t_ticketMany v_t_fond v_t_sights v_t_drawMany v_t_setMany v_t_padMany v_t_low v_t_high w_3_0 v_t_keptAt v_t_isWriting v_t_best w_3_1 v_t_row v_t_sets v_t_winsHigh v_t_winsLow p0 (r_5, w_5_0, w_5_1, w_5_2, w_5_3) hc_5) cl_Model_179 q_code_Model_findMost [0, 1, 2, 3, 4, 5, 6] rfl (by decide) 0 rfl rfl rfl rfl hl.1 (Nat.le_of_ble_eq_true rfl) (rm_ok hR1 hR2 (by decide) (by decide)) ⟨Nat.zero_le _, Nat.zero_le _⟩ d_Model_most_32) hW hA [0, 1, 2, 3, 4, 5, 6] rfl rfl (ps := [some 0, some 1, some 2, some 3, some 4, some 5, some 6]) (by decide +kernel) ⟨rfl, rfl, rfl, rfl, rfl, rfl, rfl, trivial⟩ (fun H locs hW => ?_)
      refine lv_istore_n (lv' := [(3, .int r_5), (0, .ref a_t), (1, .int p0), (2, .int p1)]) hx hb d_Model_most_35 rfl hl (by decide) rfl (fun ls hl => ?_)
      refine lv_iload_n hx hb d_Model_most_36 rfl (lv_at hl 3 rfl) ?_
      refine lv_iconst (v := (-1 : Int32)) hx hb d_Model_most_37 (by decide) ?_
      refine lv_icmp_ne (tgt := 45) hx hb d_Model_most_38 (by decide) (fun c_6 => ?_) (fun c_6 => ?_)
      · have h := ie_e c_6 h
        refine lv_iload_n hx hb d_Model_most_45 rfl (lv_at hl 3 rfl) ?_
        refine lv_i2l hx hb d_Model_most_46 rfl ?_
        refine lv_lconst (v := (0 : Int64)) hx hb d_Model_most_47 (by decide) ?_
        refine lv_iload_n hx hb d_Model_most_48 rfl (lv_at hl 2 rfl) ?_
        refine lv_iconst (v := (1 : Int32)) hx hb d_Model_most_49 (by decide) ?_
        refine lv_isub hx hb d_Model_most_50 ?_
        refine lv_i2l hx hb d_Model_most_51 rfl ?_
        obtain ⟨r_7, hc_7, h⟩ := bk1_e h
        refine x_ci (ws' := [(a_t, .inr (10, [.int v_t_numbers, .int v_t_onTicket, .int v_t_drawn, .int v_t_due, .ref a_t_tickets, .int v_t_ticketMany, .int v_t_fond, .ref a_t_prizes, .ref a_t_sightTicket, .ref a_t_sightRight, .ref a_t_sightHow, .int v_t_sights, .ref a_t_draws, .int v_t_drawMany, .ref a_t_sets, .int v_t_setMany, .ref a_t_winsLow, .ref a_t_winsHigh, .ref a_t_pad, .int v_t_padMany, .long w_5_1, .long w_5_0, .ref a_t_could, .int w_3_0, .ref a_t_row, .ref a_t_best, .ref a_t_kept, .ref a_t_isKept, .int v_t_keptAt, .int v_t_isWriting])), (a_t_best, .inl (I, 4, .inl w_5_2)), (a_t_could, .inl (I, 70, .inl w_3_1)), (a_t_row, .inl (I, 4, .inl w_5_3)), (a_t_sets, .inl (I, 70, .inl v_t_sets)), (a_t_winsHigh, .inl (J, 70, .inr (.inl v_t_winsHigh))), (a_t_winsLow, .inl (J, 70, .inr (.inl v_t_winsLow)))]) (x_runS (rest := []) hC hW (c_Model_in l D I J Z p1.toInt64 (0 : Int64) (p0 - (1 : Int32)).toInt64 (r_7) hc_7) cl_Model_111 q_code_Model_in [] rfl (by decide) rfl hl.1 (Nat.le_of_ble_eq_true rfl) (rm_ok hR1 hR2 (by decide) (by decide)) ⟨Nat.zero_le _, Nat.zero_le _⟩ d_Model_most_52) hW hA [] rfl rfl (ps := [none, none, none, none, none, none, none]) (by decide +kernel) ⟨rfl, rfl, rfl, rfl, rfl, rfl, rfl, trivial⟩ (fun H locs hW => ?_)
        refine lv_if_eq (tgt := 67) hx hb d_Model_most_55 (by decide) (fun c_8 => ?_) (fun c_8 => ?_)
        · have h := it_e c_8 h
          refine lv_bipush (v := (-6 : Int32)) hx hb d_Model_most_67 (by decide) ?_
          cases h
          rw [hQ]
          exact x_iret hC hr hW d_Model_most_69
        · have h := ie_e c_8 h
          refine lv_aload_n hx hb d_Model_most_58 rfl (lv_at hl 1 rfl) ?_
          refine x_get hC hW 0 rfl fl_Model_47 rfl d_Model_most_59 ?_
          refine lv_iload_n hx hb d_Model_most_62 rfl (lv_at hl 3 rfl) ?_
          obtain ⟨hi_9, h⟩ := gd_e h
          refine x_iald hC hW 1 rfl hi_9 d_Model_most_63 ?_
          refine lv_goto (tgt := 69) hx hb d_Model_most_64 (by decide) ?_
          cases h
          rw [hQ]
          exact x_iret hC hr hW d_Model_most_69
      · have h := it_e c_6 h
        refine lv_iload_n hx hb d_Model_most_41 rfl (lv_at hl 0 rfl) ?_
        refine lv_goto (tgt := 69) hx hb d_Model_most_42 (by decide) ?_
        cases h
        rw [hQ]
        exact x_iret hC hr hW d_Model_most_69
    · have h := ie_e c_4 h
      refine lv_bipush (v := (-6 : Int32)) hx hb d_Model_most_27 (by decide) ?_
      cases h
      rw [hQ]
      exact x_iret hC hr hW d_Model_most_29
  · have h := it_e c_2 h
    refine lv_bipush (v := (-2 : Int32)) hx hb d_Model_most_12 (by decide) ?_
    cases h
    rw [hQ]
    exact x_iret hC hr hW d_Model_most_14

def L_Model_sure_6 (x1 : Int32) (v_t_couldMany : Int32) (v_t_could : Nat → Int32) (v_t_drawMany : Int32) (v_t_sets : Nat → Int32) (v_t_winsHigh : Nat → Int64) (v_t_winsLow : Nat → Int64) : Nat → Int32 → Int64 → Int64 → (Nat → Int32) → (Nat → Int32) → Option (Except (Int32 × Int32 × Int64 × Int64 × (Nat → Int32) × (Nat → Int32) × (Nat → Int32)) (Int32 × Int64 × Int64 × (Nat → Int32) × (Nat → Int32)))
  | 0, _, _, _, _, _ => none
  | n + 1, x2, v_t_high, v_t_low, v_t_best, v_t_row => if (5 : Int32) ≤ x2 then some (.ok (x2, v_t_high, v_t_low, v_t_best, v_t_row)) else if v_t_couldMany < x2 then some (.ok (x2, v_t_high, v_t_low, v_t_best, v_t_row)) else bk5 (f_Model_findMost v_t_couldMany v_t_drawMany v_t_high v_t_low v_t_best v_t_could v_t_row v_t_sets v_t_winsHigh v_t_winsLow x2) fun r_4 w_4_0 w_4_1 w_4_2 w_4_3 => if r_4 = v_t_drawMany then if x1 = (-1 : Int32) then some (.error (x2, v_t_couldMany, w_4_0, w_4_1, w_4_2, v_t_could, w_4_3)) else bk1 (f_Model_in x1.toInt64 (0 : Int64) (x2 - (1 : Int32)).toInt64) fun r_7 => if r_7 = (0 : Int32) then some (.error ((-6 : Int32), v_t_couldMany, w_4_0, w_4_1, w_4_2, v_t_could, w_4_3)) else gd x1 4 (some (.error ((w_4_2 x1.toNatClampNeg), v_t_couldMany, w_4_0, w_4_1, w_4_2, v_t_could, w_4_3))) else L_Model_sure_6 x1 v_t_couldMany v_t_could v_t_drawMany v_t_sets v_t_winsHigh v_t_winsLow n (x2 + (1 : Int32)) w_4_0 w_4_1 w_4_2 w_4_3
def f_Model_sure (v_t_drawMany : Int32) (v_t_fond : Int32) (v_t_high : Int64) (v_t_low : Int64) (v_t_setMany : Int32) (v_t_best : Nat → Int32) (v_t_could : Nat → Int32) (v_t_row : Nat → Int32) (v_t_sets : Nat → Int32) (v_t_winsHigh : Nat → Int64) (v_t_winsLow : Nat → Int64) (p0 : Int32) : Option (Int32 × Int32 × Int64 × Int64 × (Nat → Int32) × (Nat → Int32) × (Nat → Int32)) :=
  bk2 (f_Model_findCould v_t_fond v_t_setMany v_t_could v_t_sets) fun w_1_0 w_1_1 => lm5 (L_Model_sure_6 p0 w_1_0 w_1_1 v_t_drawMany v_t_sets v_t_winsHigh v_t_winsLow 300 (1 : Int32) v_t_high v_t_low v_t_best v_t_row) fun yx2_10 y_t_high_10 y_t_low_10 y_t_best_10 y_t_row_10 => some ((-6 : Int32), w_1_0, y_t_high_10, y_t_low_10, y_t_best_10, w_1_1, y_t_row_10)
set_option maxHeartbeats 4000000 in
set_option maxRecDepth 100000 in
theorem c_Model_sure (l : Launch) (D : va_G) (I J Z : ClassId) (a_t : Nat) (a_t_best : Nat) (a_t_could : Nat) (a_t_row : Nat) (a_t_sets : Nat) (a_t_winsHigh : Nat) (a_t_winsLow : Nat) (a_t_tickets : Nat) (a_t_prizes : Nat) (a_t_sightTicket : Nat) (a_t_sightRight : Nat) (a_t_sightHow : Nat) (a_t_draws : Nat) (a_t_pad : Nat) (a_t_kept : Nat) (a_t_isKept : Nat)  (v_t_numbers : Int32) (v_t_onTicket : Int32) (v_t_drawn : Int32) (v_t_due : Int32) (v_t_ticketMany : Int32) (v_t_fond : Int32) (v_t_sights : Int32) (v_t_drawMany : Int32) (v_t_setMany : Int32) (v_t_padMany : Int32) (v_t_low : Int64) (v_t_high : Int64) (v_t_couldMany : Int32) (v_t_keptAt : Int32) (v_t_isWriting : Int32) (v_t_best : Nat → Int32) (v_t_could : Nat → Int32) (v_t_row : Nat → Int32) (v_t_sets : Nat → Int32) (v_t_winsHigh : Nat → Int64) (v_t_winsLow : Nat → Int64) (p0 : Int32) (out : (Int32 × Int32 × Int64 × Int64 × (Nat → Int32) × (Nat → Int32) × (Nat → Int32))) (h : f_Model_sure v_t_drawMany v_t_fond v_t_high v_t_low v_t_setMany v_t_best v_t_could v_t_row v_t_sets v_t_winsHigh v_t_winsLow p0 = some out) : CT l D I J Z y_Model_sure b_Model_sure 3 (some .int) 5 [.ref a_t, .int p0] [(a_t, .inr (10, [.int v_t_numbers, .int v_t_onTicket, .int v_t_drawn, .int v_t_due, .ref a_t_tickets, .int v_t_ticketMany, .int v_t_fond, .ref a_t_prizes, .ref a_t_sightTicket, .ref a_t_sightRight, .ref a_t_sightHow, .int v_t_sights, .ref a_t_draws, .int v_t_drawMany, .ref a_t_sets, .int v_t_setMany, .ref a_t_winsLow, .ref a_t_winsHigh, .ref a_t_pad, .int v_t_padMany, .long v_t_low, .long v_t_high, .ref a_t_could, .int v_t_couldMany, .ref a_t_row, .ref a_t_best, .ref a_t_kept, .ref a_t_isKept, .int v_t_keptAt, .int v_t_isWriting])), (a_t_best, .inl (I, 4, .inl v_t_best)), (a_t_could, .inl (I, 70, .inl v_t_could)), (a_t_row, .inl (I, 4, .inl v_t_row)), (a_t_sets, .inl (I, 70, .inl v_t_sets)), (a_t_winsHigh, .inl (J, 70, .inr (.inl v_t_winsHigh))), (a_t_winsLow, .inl (J, 70, .inr (.inl v_t_winsLow)))] (PoI out.1 D [(a_t, .inr (10, [.int v_t_numbers, .int v_t_onTicket, .int v_t_drawn, .int v_t_due, .ref a_t_tickets, .int v_t_ticketMany, .int v_t_fond, .ref a_t_prizes, .ref a_t_sightTicket, .ref a_t_sightRight, .ref a_t_sightHow, .int v_t_sights, .ref a_t_draws, .int v_t_drawMany, .ref a_t_sets, .int v_t_setMany, .ref a_t_winsLow, .ref a_t_winsHigh, .ref a_t_pad, .int v_t_padMany, .long out.2.2.2.1, .long out.2.2.1, .ref a_t_could, .int out.2.1, .ref a_t_row, .ref a_t_best, .ref a_t_kept, .ref a_t_isKept, .int v_t_keptAt, .int v_t_isWriting])), (a_t_best, .inl (I, 4, .inl out.2.2.2.2.1)), (a_t_could, .inl (I, 70, .inl out.2.2.2.2.2.1)), (a_t_row, .inl (I, 4, .inl out.2.2.2.2.2.2)), (a_t_sets, .inl (I, 70, .inl v_t_sets)), (a_t_winsHigh, .inl (J, 70, .inr (.inl v_t_winsHigh))), (a_t_winsLow, .inl (J, 70, .inr (.inl v_t_winsLow)))]) := by
  unfold f_Model_sure at h
  refine CT_of R_Model (by decide +kernel) rfl (Nat.le_of_ble_eq_true rfl) ?_
  intro p e R s m args below meth c A ls Q hR1 hR2 hQ hC hr hW hA hl
  have hx := hC.1
  have hb := hC.2.1
  have hl : lv_has ls 3 [(0, .ref a_t), (1, .int p0)] := hl
  have lp6 : ∀ (n : Nat) (x1 : Int32) (x2 : Int32) (v_t_couldMany : Int32) (v_t_high : Int64) (v_t_low : Int64) (v_t_best : Nat → Int32) (v_t_could : Nat → Int32) (v_t_row : Nat → Int32) (res : Except (Int32 × Int32 × Int64 × Int64 × (Nat → Int32) × (Nat → Int32) × (Nat → Int32)) (Int32 × Int64 × Int64 × (Nat → Int32) × (Nat → Int32))), L_Model_sure_6 x1 v_t_couldMany v_t_could v_t_drawMany v_t_sets v_t_winsHigh v_t_winsLow n x2 v_t_high v_t_low v_t_best v_t_row = some res → (∀ r, res = .error r → r = out) →
    (∀ (yx2 : Int32) (y_t_high : Int64) (y_t_low : Int64) (y_t_best : Nat → Int32) (y_t_row : Nat → Int32), res = .ok (yx2, y_t_high, y_t_low, y_t_best, y_t_row) → ∀ H locs, Wd D A s.heap [(a_t, .inr (10, [.int v_t_numbers, .int v_t_onTicket, .int v_t_drawn, .int v_t_due, .ref a_t_tickets, .int v_t_ticketMany, .int v_t_fond, .ref a_t_prizes, .ref a_t_sightTicket, .ref a_t_sightRight, .ref a_t_sightHow, .int v_t_sights, .ref a_t_draws, .int v_t_drawMany, .ref a_t_sets, .int v_t_setMany, .ref a_t_winsLow, .ref a_t_winsHigh, .ref a_t_pad, .int v_t_padMany, .long y_t_low, .long y_t_high, .ref a_t_could, .int v_t_couldMany, .ref a_t_row, .ref a_t_best, .ref a_t_kept, .ref a_t_isKept, .int v_t_keptAt, .int v_t_isWriting])), (a_t_best, .inl (I, 4, .inl y_t_best)), (a_t_could, .inl (I, 70, .inl v_t_could)), (a_t_row, .inl (I, 4, .inl y_t_row)), (a_t_sets, .inl (I, 70, .inl v_t_sets)), (a_t_winsHigh, .inl (J, 70, .inr (.inl v_t_winsHigh))), (a_t_winsLow, .inl (J, 70, .inr (.inl v_t_winsLow)))] H locs → ∀ ls, lv_has ls 3 [(0, .ref a_t), (1, .int x1), (2, .int yx2)] → W p l e R s m args below meth c H locs 0 0 Q (F0 m 71 ls [])) →
    ∀ H locs, Wd D A s.heap [(a_t, .inr (10, [.int v_t_numbers, .int v_t_onTicket, .int v_t_drawn, .int v_t_due, .ref a_t_tickets, .int v_t_ticketMany, .int v_t_fond, .ref a_t_prizes, .ref a_t_sightTicket, .ref a_t_sightRight, .ref a_t_sightHow, .int v_t_sights, .ref a_t_draws, .int v_t_drawMany, .ref a_t_sets, .int v_t_setMany, .ref a_t_winsLow, .ref a_t_winsHigh, .ref a_t_pad, .int v_t_padMany, .long v_t_low, .long v_t_high, .ref a_t_could, .int v_t_couldMany, .ref a_t_row, .ref a_t_best, .ref a_t_kept, .ref a_t_isKept, .int v_t_keptAt, .int v_t_isWriting])), (a_t_best, .inl (I, 4, .inl v_t_best)), (a_t_could, .inl (I, 70, .inl v_t_could)), (a_t_row, .inl (I, 4, .inl v_t_row)), (a_t_sets, .inl (I, 70, .inl v_t_sets)), (a_t_winsHigh, .inl (J, 70, .inr (.inl v_t_winsHigh))), (a_t_winsLow, .inl (J, 70, .inr (.inl v_t_winsLow)))] H locs → ∀ ls, lv_has ls 3 [(0, .ref a_t), (1, .int x1), (2, .int x2)] → W p l e R s m args below meth c H locs 0 0 Q (F0 m 6 ls []) := by
    intro n
    induction n with
    | zero =>
      intro x1 x2 v_t_couldMany v_t_high v_t_low v_t_best v_t_could v_t_row res h
      exact no_e h
    | succ n ih =>
      intro x1 x2 v_t_couldMany v_t_high v_t_low v_t_best v_t_could v_t_row res h hret K H locs hW ls hl
      rw [L_Model_sure_6] at h
      refine lv_iload_n hx hb d_Model_sure_6 rfl (lv_at hl 2 rfl) ?_
      refine lv_iconst (v := (5 : Int32)) hx hb d_Model_sure_7 (by decide) ?_
      refine lv_icmp_ge (tgt := 71) hx hb d_Model_sure_8 (by decide) (fun c_2 => ?_) (fun c_2 => ?_)
      · have h := it_e c_2 h
        cases h
        exact K _ _ _ _ _ rfl _ _ hW ls (lv_sub hl [0, 1, 2] rfl)
      · have h := ie_e c_2 h
        refine lv_iload_n hx hb d_Model_sure_11 rfl (lv_at hl 2 rfl) ?_
        refine lv_aload_n hx hb d_Model_sure_12 rfl (lv_at hl 0 rfl) ?_
        refine x_get hC hW 0 rfl fl_Model_164 rfl d_Model_sure_13 ?_
        refine lv_icmp_gt (tgt := 71) hx hb d_Model_sure_16 (by decide) (fun c_3 => ?_) (fun c_3 => ?_)
        · have h := it_e c_3 h
          cases h
          exact K _ _ _ _ _ rfl _ _ hW ls (lv_sub hl [0, 1, 2] rfl)
        · have h := ie_e c_3 h
          refine lv_aload_n hx hb d_Model_sure_19 rfl (lv_at hl 0 rfl) ?_
          refine lv_iload_n hx hb d_Model_sure_20 rfl (lv_at hl 2 rfl) ?_
          obtain ⟨r_4, w_4_0, w_4_1, w_4_2, w_4_3, hc_4, h⟩ := bk5_e h
          refine x_ci (ws' := [(a_t, .inr (10, [.int v_t_numbers, .int v_t_onTicket, .int v_t_drawn, .int v_t_due, .ref a_t_tickets, .int v_t_ticketMany, .int v_t_fond, .ref a_t_prizes, .ref a_t_sightTicket, .ref a_t_sightRight, .ref a_t_sightHow, .int v_t_sights, .ref a_t_draws, .int v_t_drawMany, .ref a_t_sets, .int v_t_setMany, .ref a_t_winsLow, .ref a_t_winsHigh, .ref a_t_pad, .int v_t_padMany, .long w_4_1, .long w_4_0, .ref a_t_could, .int v_t_couldMany, .ref a_t_row, .ref a_t_best, .ref a_t_kept, .ref a_t_isKept, .int v_t_keptAt, .int v_t_isWriting])), (a_t_best, .inl (I, 4, .inl w_4_2)), (a_t_could, .inl (I, 70, .inl v_t_could)), (a_t_row, .inl (I, 4, .inl w_4_3)), (a_t_sets, .inl (I, 70, .inl v_t_sets)), (a_t_winsHigh, .inl (J, 70, .inr (.inl v_t_winsHigh))), (a_t_winsLow, .inl (J, 70, .inr (.inl v_t_winsLow)))]) (x_runV (As := [.int x2]) (rest := []) hC hW (c_Model_findMost l D I J Z a_t a_t_best a_t_could a_t_row a_t_sets a_t_winsHigh a_t_winsLow a_t_tickets a_t_prizes a_t_sightTicket a_t_sightRight a_t_sightHow a_t_draws a_t_pad a_t_kept a_t_isKept v_t_numbers v_t_onTicket v_t_drawn v_t_due v_t_ticketMany v_t_fond v_t_sights v_t_drawMany v_t_setMany v_t_padMany v_t_low v_t_high v_t_couldMany v_t_keptAt v_t_isWriting v_t_best v_t_could v_t_row v_t_sets v_t_winsHigh v_t_winsLow x2 (r_4, w_4_0, w_4_1, w_4_2, w_4_3) hc_4) cl_Model_179 q_code_Model_findMost [0, 1, 2, 3, 4, 5, 6] rfl (by decide) 0 rfl rfl rfl rfl hl.1 (Nat.le_of_ble_eq_true rfl) (rm_ok hR1 hR2 (by decide) (by decide)) ⟨Nat.zero_le _, Nat.zero_le _⟩ d_Model_sure_21) hW hA [0, 1, 2, 3, 4, 5, 6] rfl rfl (ps := [some 0, some 1, some 2, some 3, some 4, some 5, some 6]) (by decide +kernel) ⟨rfl, rfl, rfl, rfl, rfl, rfl, rfl, trivial⟩ (fun H locs hW => ?_)
          refine lv_aload_n hx hb d_Model_sure_24 rfl (lv_at hl 0 rfl) ?_
          refine x_get hC hW 0 rfl fl_Model_86 rfl d_Model_sure_25 ?_
          refine lv_icmp_ne (tgt := 65) hx hb d_Model_sure_28 (by decide) (fun c_5 => ?_) (fun c_5 => ?_)
          · have h := ie_e c_5 h
            refine lv_iinc (v := (x2 + (1 : Int32))) (lv' := [(2, .int (x2 + (1 : Int32))), (0, .ref a_t), (1, .int x1)]) hx hb d_Model_sure_65 hl (k := 2) rfl (iinc_e (by decide)) (by decide) rfl (fun ls hl => ?_)
            refine lv_goto (tgt := 6) hx hb d_Model_sure_68 (by decide) ?_
            exact ih x1 (x2 + (1 : Int32)) v_t_couldMany w_4_0 w_4_1 w_4_2 v_t_could w_4_3 _ h hret K _ _ hW ls (lv_sub hl [1, 2, 0] rfl)
          · have h := it_e c_5 h
            refine lv_iload_n hx hb d_Model_sure_31 rfl (lv_at hl 1 rfl) ?_
            refine lv_iconst (v := (-1 : Int32)) hx hb d_Model_sure_32 (by decide) ?_
            refine lv_icmp_ne (tgt := 40) hx hb d_Model_sure_33 (by decide) (fun c_6 => ?_) (fun c_6 => ?_)
            · have h := ie_e c_6 h
              refine lv_iload_n hx hb d_Model_sure_40 rfl (lv_at hl 1 rfl) ?_
              refine lv_i2l hx hb d_Model_sure_41 rfl ?_
              refine lv_lconst (v := (0 : Int64)) hx hb d_Model_sure_42 (by decide) ?_
              refine lv_iload_n hx hb d_Model_sure_43 rfl (lv_at hl 2 rfl) ?_
              refine lv_iconst (v := (1 : Int32)) hx hb d_Model_sure_44 (by decide) ?_
              refine lv_isub hx hb d_Model_sure_45 ?_
              refine lv_i2l hx hb d_Model_sure_46 rfl ?_
              obtain ⟨r_7, hc_7, h⟩ := bk1_e h
              refine x_ci (ws' := [(a_t, .inr (10, [.int v_t_numbers, .int v_t_onTicket, .int v_t_drawn, .int v_t_due, .ref a_t_tickets, .int v_t_ticketMany, .int v_t_fond, .ref a_t_prizes, .ref a_t_sightTicket, .ref a_t_sightRight, .ref a_t_sightHow, .int v_t_sights, .ref a_t_draws, .int v_t_drawMany, .ref a_t_sets, .int v_t_setMany, .ref a_t_winsLow, .ref a_t_winsHigh, .ref a_t_pad, .int v_t_padMany, .long w_4_1, .long w_4_0, .ref a_t_could, .int v_t_couldMany, .ref a_t_row, .ref a_t_best, .ref a_t_kept, .ref a_t_isKept, .int v_t_keptAt, .int v_t_isWriting])), (a_t_best, .inl (I, 4, .inl w_4_2)), (a_t_could, .inl (I, 70, .inl v_t_could)), (a_t_row, .inl (I, 4, .inl w_4_3)), (a_t_sets, .inl (I, 70, .inl v_t_sets)), (a_t_winsHigh, .inl (J, 70, .inr (.inl v_t_winsHigh))), (a_t_winsLow, .inl (J, 70, .inr (.inl v_t_winsLow)))]) (x_runS (rest := []) hC hW (c_Model_in l D I J Z x1.toInt64 (0 : Int64) (x2 - (1 : Int32)).toInt64 (r_7) hc_7) cl_Model_111 q_code_Model_in [] rfl (by decide) rfl hl.1 (Nat.le_of_ble_eq_true rfl) (rm_ok hR1 hR2 (by decide) (by decide)) ⟨Nat.zero_le _, Nat.zero_le _⟩ d_Model_sure_47) hW hA [] rfl rfl (ps := [none, none, none, none, none, none, none]) (by decide +kernel) ⟨rfl, rfl, rfl, rfl, rfl, rfl, rfl, trivial⟩ (fun H locs hW => ?_)
              refine lv_if_eq (tgt := 62) hx hb d_Model_sure_50 (by decide) (fun c_8 => ?_) (fun c_8 => ?_)
              · have h := it_e c_8 h
                refine lv_bipush (v := (-6 : Int32)) hx hb d_Model_sure_62 (by decide) ?_
                cases h
                cases hret _ rfl
                rw [hQ]
                exact x_iret hC hr hW d_Model_sure_64
              · have h := ie_e c_8 h
                refine lv_aload_n hx hb d_Model_sure_53 rfl (lv_at hl 0 rfl) ?_
                refine x_get hC hW 0 rfl fl_Model_47 rfl d_Model_sure_54 ?_
                refine lv_iload_n hx hb d_Model_sure_57 rfl (lv_at hl 1 rfl) ?_
                obtain ⟨hi_9, h⟩ := gd_e h
                refine x_iald hC hW 1 rfl hi_9 d_Model_sure_58 ?_
                refine lv_goto (tgt := 64) hx hb d_Model_sure_59 (by decide) ?_
                cases h
                cases hret _ rfl
                rw [hQ]
                exact x_iret hC hr hW d_Model_sure_64
            · have h := it_e c_6 h
              refine lv_iload_n hx hb d_Model_sure_36 rfl (lv_at hl 2 rfl) ?_
              refine lv_goto (tgt := 64) hx hb d_Model_sure_37 (by decide) ?_
              cases h
              cases hret _ rfl
              rw [hQ]
              exact x_iret hC hr hW d_Model_sure_64
  refine lv_aload_n hx hb d_Model_sure_0 rfl (lv_at hl 0 rfl) ?_
  obtain ⟨w_1_0, w_1_1, hc_1, h⟩ := bk2_e h
  refine x_cv (ws' := [(a_t, .inr (10, [.int v_t_numbers, .int v_t_onTicket, .int v_t_drawn, .int v_t_due, .ref a_t_tickets, .int v_t_ticketMany, .int v_t_fond, .ref a_t_prizes, .ref a_t_sightTicket, .ref a_t_sightRight, .ref a_t_sightHow, .int v_t_sights, .ref a_t_draws, .int v_t_drawMany, .ref a_t_sets, .int v_t_setMany, .ref a_t_winsLow, .ref a_t_winsHigh, .ref a_t_pad, .int v_t_padMany, .long v_t_low, .long v_t_high, .ref a_t_could, .int w_1_0, .ref a_t_row, .ref a_t_best, .ref a_t_kept, .ref a_t_isKept, .int v_t_keptAt, .int v_t_isWriting])), (a_t_best, .inl (I, 4, .inl v_t_best)), (a_t_could, .inl (I, 70, .inl w_1_1)), (a_t_row, .inl (I, 4, .inl v_t_row)), (a_t_sets, .inl (I, 70, .inl v_t_sets)), (a_t_winsHigh, .inl (J, 70, .inr (.inl v_t_winsHigh))), (a_t_winsLow, .inl (J, 70, .inr (.inl v_t_winsLow)))]) (x_runV (As := []) (rest := []) hC hW (c_Model_findCould l D I J Z a_t a_t_could a_t_sets a_t_tickets a_t_prizes a_t_sightTicket a_t_sightRight a_t_sightHow a_t_draws a_t_winsLow a_t_winsHigh a_t_pad a_t_row a_t_best a_t_kept a_t_isKept v_t_numbers v_t_onTicket v_t_drawn v_t_due v_t_ticketMany v_t_fond v_t_sights v_t_drawMany v_t_setMany v_t_padMany v_t_low v_t_high v_t_couldMany v_t_keptAt v_t_isWriting v_t_could v_t_sets (w_1_0, w_1_1) hc_1) cl_Model_176 q_code_Model_findCould [0, 2, 4] rfl (by decide) 0 rfl rfl rfl rfl hl.1 (Nat.le_of_ble_eq_true rfl) (rm_ok hR1 hR2 (by decide) (by decide)) ⟨Nat.zero_le _, Nat.zero_le _⟩ d_Model_sure_1) hW hA [0, 2, 4] rfl rfl (ps := [some 0, none, some 1, none, some 2, none, none]) (by decide +kernel) ⟨rfl, rfl, rfl, rfl, rfl, rfl, rfl, trivial⟩ (fun H locs hW => ?_)
  refine lv_iconst (v := (1 : Int32)) hx hb d_Model_sure_4 (by decide) ?_
  refine lv_istore_n (lv' := [(2, .int (1 : Int32)), (0, .ref a_t), (1, .int p0)]) hx hb d_Model_sure_5 rfl hl (by decide) rfl (fun ls hl => ?_)
  obtain ⟨res_10, hv_10, he_10, hk_10⟩ := lm5_e h
  refine lp6 _ p0 (1 : Int32) w_1_0 v_t_high v_t_low v_t_best w_1_1 v_t_row res_10 hv_10 he_10 (fun yx2_10 y_t_high_10 y_t_low_10 y_t_best_10 y_t_row_10 hs_10 H locs hW ls hl => ?_) _ _ hW ls (lv_sub hl [1, 2, 0] rfl)
  have h := hk_10 yx2_10 y_t_high_10 y_t_low_10 y_t_best_10 y_t_row_10 hs_10
  refine lv_bipush (v := (-6 : Int32)) hx hb d_Model_sure_71 (by decide) ?_
  cases h
  rw [hQ]
  exact x_iret hC hr hW d_Model_sure_73

def f_Model_bound (v_t_drawMany : Int32) (v_t_winsHigh : Nat → Int64) (v_t_winsLow : Nat → Int64) : Option (Int32) :=
  gd (0 : Int32) 70 (bk1 (f_Model_ones (v_t_winsLow (0 : Int32).toNatClampNeg)) fun r_2 => gd (0 : Int32) 70 (bk1 (f_Model_ones (v_t_winsHigh (0 : Int32).toNatClampNeg)) fun r_4 => dz (r_2 + r_4) (some ((((v_t_drawMany + (r_2 + r_4)) - (1 : Int32)) / (r_2 + r_4))))))
set_option maxHeartbeats 4000000 in
set_option maxRecDepth 100000 in
theorem c_Model_bound (l : Launch) (D : va_G) (I J Z : ClassId) (a_t : Nat) (a_t_winsHigh : Nat) (a_t_winsLow : Nat) (a_t_tickets : Nat) (a_t_prizes : Nat) (a_t_sightTicket : Nat) (a_t_sightRight : Nat) (a_t_sightHow : Nat) (a_t_draws : Nat) (a_t_sets : Nat) (a_t_pad : Nat) (a_t_could : Nat) (a_t_row : Nat) (a_t_best : Nat) (a_t_kept : Nat) (a_t_isKept : Nat)  (v_t_numbers : Int32) (v_t_onTicket : Int32) (v_t_drawn : Int32) (v_t_due : Int32) (v_t_ticketMany : Int32) (v_t_fond : Int32) (v_t_sights : Int32) (v_t_drawMany : Int32) (v_t_setMany : Int32) (v_t_padMany : Int32) (v_t_low : Int64) (v_t_high : Int64) (v_t_couldMany : Int32) (v_t_keptAt : Int32) (v_t_isWriting : Int32) (v_t_winsHigh : Nat → Int64) (v_t_winsLow : Nat → Int64)  (out : (Int32)) (h : f_Model_bound v_t_drawMany v_t_winsHigh v_t_winsLow = some out) : CT l D I J Z y_Model_bound b_Model_bound 2 (some .int) 2 [.ref a_t] [(a_t, .inr (10, [.int v_t_numbers, .int v_t_onTicket, .int v_t_drawn, .int v_t_due, .ref a_t_tickets, .int v_t_ticketMany, .int v_t_fond, .ref a_t_prizes, .ref a_t_sightTicket, .ref a_t_sightRight, .ref a_t_sightHow, .int v_t_sights, .ref a_t_draws, .int v_t_drawMany, .ref a_t_sets, .int v_t_setMany, .ref a_t_winsLow, .ref a_t_winsHigh, .ref a_t_pad, .int v_t_padMany, .long v_t_low, .long v_t_high, .ref a_t_could, .int v_t_couldMany, .ref a_t_row, .ref a_t_best, .ref a_t_kept, .ref a_t_isKept, .int v_t_keptAt, .int v_t_isWriting])), (a_t_winsHigh, .inl (J, 70, .inr (.inl v_t_winsHigh))), (a_t_winsLow, .inl (J, 70, .inr (.inl v_t_winsLow)))] (PoI out D [(a_t, .inr (10, [.int v_t_numbers, .int v_t_onTicket, .int v_t_drawn, .int v_t_due, .ref a_t_tickets, .int v_t_ticketMany, .int v_t_fond, .ref a_t_prizes, .ref a_t_sightTicket, .ref a_t_sightRight, .ref a_t_sightHow, .int v_t_sights, .ref a_t_draws, .int v_t_drawMany, .ref a_t_sets, .int v_t_setMany, .ref a_t_winsLow, .ref a_t_winsHigh, .ref a_t_pad, .int v_t_padMany, .long v_t_low, .long v_t_high, .ref a_t_could, .int v_t_couldMany, .ref a_t_row, .ref a_t_best, .ref a_t_kept, .ref a_t_isKept, .int v_t_keptAt, .int v_t_isWriting])), (a_t_winsHigh, .inl (J, 70, .inr (.inl v_t_winsHigh))), (a_t_winsLow, .inl (J, 70, .inr (.inl v_t_winsLow)))]) := by
  unfold f_Model_bound at h
  refine CT_of R_Model (by decide +kernel) rfl (Nat.le_of_ble_eq_true rfl) ?_
  intro p e R s m args below meth c A ls Q hR1 hR2 hQ hC hr hW hA hl
  have hx := hC.1
  have hb := hC.2.1
  have hl : lv_has ls 2 [(0, .ref a_t)] := hl
  refine lv_aload_n hx hb d_Model_bound_0 rfl (lv_at hl 0 rfl) ?_
  refine x_get hC hW 0 rfl fl_Model_31 rfl d_Model_bound_1 ?_
  refine lv_iconst (v := (0 : Int32)) hx hb d_Model_bound_4 (by decide) ?_
  obtain ⟨hi_1, h⟩ := gd_e h
  refine x_lald hC hW 2 rfl hi_1 d_Model_bound_5 ?_
  obtain ⟨r_2, hc_2, h⟩ := bk1_e h
  refine x_ci (ws' := [(a_t, .inr (10, [.int v_t_numbers, .int v_t_onTicket, .int v_t_drawn, .int v_t_due, .ref a_t_tickets, .int v_t_ticketMany, .int v_t_fond, .ref a_t_prizes, .ref a_t_sightTicket, .ref a_t_sightRight, .ref a_t_sightHow, .int v_t_sights, .ref a_t_draws, .int v_t_drawMany, .ref a_t_sets, .int v_t_setMany, .ref a_t_winsLow, .ref a_t_winsHigh, .ref a_t_pad, .int v_t_padMany, .long v_t_low, .long v_t_high, .ref a_t_could, .int v_t_couldMany, .ref a_t_row, .ref a_t_best, .ref a_t_kept, .ref a_t_isKept, .int v_t_keptAt, .int v_t_isWriting])), (a_t_winsHigh, .inl (J, 70, .inr (.inl v_t_winsHigh))), (a_t_winsLow, .inl (J, 70, .inr (.inl v_t_winsLow)))]) (x_runS (rest := []) hC hW (c_Model_ones l D I J Z (v_t_winsLow (0 : Int32).toNatClampNeg) (r_2) hc_2) cl_Model_92 q_code_Model_ones [] rfl (by decide) rfl hl.1 (Nat.le_of_ble_eq_true rfl) (rm_ok hR1 hR2 (by decide) (by decide)) ⟨Nat.zero_le _, Nat.zero_le _⟩ d_Model_bound_6) hW hA [] rfl rfl (ps := [none, none, none]) (by decide +kernel) ⟨rfl, rfl, rfl, trivial⟩ (fun H locs hW => ?_)
  refine lv_aload_n hx hb d_Model_bound_9 rfl (lv_at hl 0 rfl) ?_
  refine x_get hC hW 0 rfl fl_Model_35 rfl d_Model_bound_10 ?_
  refine lv_iconst (v := (0 : Int32)) hx hb d_Model_bound_13 (by decide) ?_
  obtain ⟨hi_3, h⟩ := gd_e h
  refine x_lald hC hW 1 rfl hi_3 d_Model_bound_14 ?_
  obtain ⟨r_4, hc_4, h⟩ := bk1_e h
  refine x_ci (ws' := [(a_t, .inr (10, [.int v_t_numbers, .int v_t_onTicket, .int v_t_drawn, .int v_t_due, .ref a_t_tickets, .int v_t_ticketMany, .int v_t_fond, .ref a_t_prizes, .ref a_t_sightTicket, .ref a_t_sightRight, .ref a_t_sightHow, .int v_t_sights, .ref a_t_draws, .int v_t_drawMany, .ref a_t_sets, .int v_t_setMany, .ref a_t_winsLow, .ref a_t_winsHigh, .ref a_t_pad, .int v_t_padMany, .long v_t_low, .long v_t_high, .ref a_t_could, .int v_t_couldMany, .ref a_t_row, .ref a_t_best, .ref a_t_kept, .ref a_t_isKept, .int v_t_keptAt, .int v_t_isWriting])), (a_t_winsHigh, .inl (J, 70, .inr (.inl v_t_winsHigh))), (a_t_winsLow, .inl (J, 70, .inr (.inl v_t_winsLow)))]) (x_runS (rest := [.int r_2]) hC hW (c_Model_ones l D I J Z (v_t_winsHigh (0 : Int32).toNatClampNeg) (r_4) hc_4) cl_Model_92 q_code_Model_ones [] rfl (by decide) rfl hl.1 (Nat.le_of_ble_eq_true rfl) (rm_ok hR1 hR2 (by decide) (by decide)) ⟨Nat.zero_le _, Nat.zero_le _⟩ d_Model_bound_15) hW hA [] rfl rfl (ps := [none, none, none]) (by decide +kernel) ⟨rfl, rfl, rfl, trivial⟩ (fun H locs hW => ?_)
  refine lv_iadd hx hb d_Model_bound_18 ?_
  refine lv_istore_n (lv' := [(1, .int (r_2 + r_4)), (0, .ref a_t)]) hx hb d_Model_bound_19 rfl hl (by decide) rfl (fun ls hl => ?_)
  refine lv_aload_n hx hb d_Model_bound_20 rfl (lv_at hl 1 rfl) ?_
  refine x_get hC hW 0 rfl fl_Model_86 rfl d_Model_bound_21 ?_
  refine lv_iload_n hx hb d_Model_bound_24 rfl (lv_at hl 0 rfl) ?_
  refine lv_iadd hx hb d_Model_bound_25 ?_
  refine lv_iconst (v := (1 : Int32)) hx hb d_Model_bound_26 (by decide) ?_
  refine lv_isub hx hb d_Model_bound_27 ?_
  refine lv_iload_n hx hb d_Model_bound_28 rfl (lv_at hl 0 rfl) ?_
  obtain ⟨hz_5, h⟩ := dz_e h
  refine lv_idiv hx hb d_Model_bound_29 hz_5 ?_
  cases h
  rw [hQ]
  exact x_iret hC hr hW d_Model_bound_30

def f_Model_wonWith (v_t_winsHigh : Nat → Int64) (v_t_winsLow : Nat → Int64) (p0 : Int32) (p1 : Int64) (p2 : Int64) : Option (Int32) :=
  gd p0 70 (bk1 (f_Model_ones (p1 ||| (v_t_winsLow p0.toNatClampNeg))) fun r_2 => gd p0 70 (bk1 (f_Model_ones (p2 ||| (v_t_winsHigh p0.toNatClampNeg))) fun r_4 => some ((r_2 + r_4))))
set_option maxHeartbeats 4000000 in
set_option maxRecDepth 100000 in
theorem c_Model_wonWith (l : Launch) (D : va_G) (I J Z : ClassId) (a_t : Nat) (a_t_winsHigh : Nat) (a_t_winsLow : Nat) (a_t_tickets : Nat) (a_t_prizes : Nat) (a_t_sightTicket : Nat) (a_t_sightRight : Nat) (a_t_sightHow : Nat) (a_t_draws : Nat) (a_t_sets : Nat) (a_t_pad : Nat) (a_t_could : Nat) (a_t_row : Nat) (a_t_best : Nat) (a_t_kept : Nat) (a_t_isKept : Nat)  (v_t_numbers : Int32) (v_t_onTicket : Int32) (v_t_drawn : Int32) (v_t_due : Int32) (v_t_ticketMany : Int32) (v_t_fond : Int32) (v_t_sights : Int32) (v_t_drawMany : Int32) (v_t_setMany : Int32) (v_t_padMany : Int32) (v_t_low : Int64) (v_t_high : Int64) (v_t_couldMany : Int32) (v_t_keptAt : Int32) (v_t_isWriting : Int32) (v_t_winsHigh : Nat → Int64) (v_t_winsLow : Nat → Int64) (p0 : Int32) (p1 : Int64) (p2 : Int64) (out : (Int32)) (h : f_Model_wonWith v_t_winsHigh v_t_winsLow p0 p1 p2 = some out) : CT l D I J Z y_Model_wonWith b_Model_wonWith 6 (some .int) 2 [.ref a_t, .int p0, .long p1, .long p2] [(a_t, .inr (10, [.int v_t_numbers, .int v_t_onTicket, .int v_t_drawn, .int v_t_due, .ref a_t_tickets, .int v_t_ticketMany, .int v_t_fond, .ref a_t_prizes, .ref a_t_sightTicket, .ref a_t_sightRight, .ref a_t_sightHow, .int v_t_sights, .ref a_t_draws, .int v_t_drawMany, .ref a_t_sets, .int v_t_setMany, .ref a_t_winsLow, .ref a_t_winsHigh, .ref a_t_pad, .int v_t_padMany, .long v_t_low, .long v_t_high, .ref a_t_could, .int v_t_couldMany, .ref a_t_row, .ref a_t_best, .ref a_t_kept, .ref a_t_isKept, .int v_t_keptAt, .int v_t_isWriting])), (a_t_winsHigh, .inl (J, 70, .inr (.inl v_t_winsHigh))), (a_t_winsLow, .inl (J, 70, .inr (.inl v_t_winsLow)))] (PoI out D [(a_t, .inr (10, [.int v_t_numbers, .int v_t_onTicket, .int v_t_drawn, .int v_t_due, .ref a_t_tickets, .int v_t_ticketMany, .int v_t_fond, .ref a_t_prizes, .ref a_t_sightTicket, .ref a_t_sightRight, .ref a_t_sightHow, .int v_t_sights, .ref a_t_draws, .int v_t_drawMany, .ref a_t_sets, .int v_t_setMany, .ref a_t_winsLow, .ref a_t_winsHigh, .ref a_t_pad, .int v_t_padMany, .long v_t_low, .long v_t_high, .ref a_t_could, .int v_t_couldMany, .ref a_t_row, .ref a_t_best, .ref a_t_kept, .ref a_t_isKept, .int v_t_keptAt, .int v_t_isWriting])), (a_t_winsHigh, .inl (J, 70, .inr (.inl v_t_winsHigh))), (a_t_winsLow, .inl (J, 70, .inr (.inl v_t_winsLow)))]) := by
  unfold f_Model_wonWith at h
  refine CT_of R_Model (by decide +kernel) rfl (Nat.le_of_ble_eq_true rfl) ?_
  intro p e R s m args below meth c A ls Q hR1 hR2 hQ hC hr hW hA hl
  have hx := hC.1
  have hb := hC.2.1
  have hl : lv_has ls 6 [(0, .ref a_t), (1, .int p0), (2, .long p1), (4, .long p2)] := hl
  refine lv_lload_n hx hb d_Model_wonWith_0 rfl (lv_at hl 2 rfl) ?_
  refine lv_aload_n hx hb d_Model_wonWith_1 rfl (lv_at hl 0 rfl) ?_
  refine x_get hC hW 0 rfl fl_Model_31 rfl d_Model_wonWith_2 ?_
  refine lv_iload_n hx hb d_Model_wonWith_5 rfl (lv_at hl 1 rfl) ?_
  obtain ⟨hi_1, h⟩ := gd_e h
  refine x_lald hC hW 2 rfl hi_1 d_Model_wonWith_6 ?_
  refine lv_lor hx hb d_Model_wonWith_7 ?_
  obtain ⟨r_2, hc_2, h⟩ := bk1_e h
  refine x_ci (ws' := [(a_t, .inr (10, [.int v_t_numbers, .int v_t_onTicket, .int v_t_drawn, .int v_t_due, .ref a_t_tickets, .int v_t_ticketMany, .int v_t_fond, .ref a_t_prizes, .ref a_t_sightTicket, .ref a_t_sightRight, .ref a_t_sightHow, .int v_t_sights, .ref a_t_draws, .int v_t_drawMany, .ref a_t_sets, .int v_t_setMany, .ref a_t_winsLow, .ref a_t_winsHigh, .ref a_t_pad, .int v_t_padMany, .long v_t_low, .long v_t_high, .ref a_t_could, .int v_t_couldMany, .ref a_t_row, .ref a_t_best, .ref a_t_kept, .ref a_t_isKept, .int v_t_keptAt, .int v_t_isWriting])), (a_t_winsHigh, .inl (J, 70, .inr (.inl v_t_winsHigh))), (a_t_winsLow, .inl (J, 70, .inr (.inl v_t_winsLow)))]) (x_runS (rest := []) hC hW (c_Model_ones l D I J Z (p1 ||| (v_t_winsLow p0.toNatClampNeg)) (r_2) hc_2) cl_Model_92 q_code_Model_ones [] rfl (by decide) rfl hl.1 (Nat.le_of_ble_eq_true rfl) (rm_ok hR1 hR2 (by decide) (by decide)) ⟨Nat.zero_le _, Nat.zero_le _⟩ d_Model_wonWith_8) hW hA [] rfl rfl (ps := [none, none, none]) (by decide +kernel) ⟨rfl, rfl, rfl, trivial⟩ (fun H locs hW => ?_)
  refine lv_lload hx hb d_Model_wonWith_11 (lv_at hl 3 rfl) ?_
  refine lv_aload_n hx hb d_Model_wonWith_13 rfl (lv_at hl 0 rfl) ?_
  refine x_get hC hW 0 rfl fl_Model_35 rfl d_Model_wonWith_14 ?_
  refine lv_iload_n hx hb d_Model_wonWith_17 rfl (lv_at hl 1 rfl) ?_
  obtain ⟨hi_3, h⟩ := gd_e h
  refine x_lald hC hW 1 rfl hi_3 d_Model_wonWith_18 ?_
  refine lv_lor hx hb d_Model_wonWith_19 ?_
  obtain ⟨r_4, hc_4, h⟩ := bk1_e h
  refine x_ci (ws' := [(a_t, .inr (10, [.int v_t_numbers, .int v_t_onTicket, .int v_t_drawn, .int v_t_due, .ref a_t_tickets, .int v_t_ticketMany, .int v_t_fond, .ref a_t_prizes, .ref a_t_sightTicket, .ref a_t_sightRight, .ref a_t_sightHow, .int v_t_sights, .ref a_t_draws, .int v_t_drawMany, .ref a_t_sets, .int v_t_setMany, .ref a_t_winsLow, .ref a_t_winsHigh, .ref a_t_pad, .int v_t_padMany, .long v_t_low, .long v_t_high, .ref a_t_could, .int v_t_couldMany, .ref a_t_row, .ref a_t_best, .ref a_t_kept, .ref a_t_isKept, .int v_t_keptAt, .int v_t_isWriting])), (a_t_winsHigh, .inl (J, 70, .inr (.inl v_t_winsHigh))), (a_t_winsLow, .inl (J, 70, .inr (.inl v_t_winsLow)))]) (x_runS (rest := [.int r_2]) hC hW (c_Model_ones l D I J Z (p2 ||| (v_t_winsHigh p0.toNatClampNeg)) (r_4) hc_4) cl_Model_92 q_code_Model_ones [] rfl (by decide) rfl hl.1 (Nat.le_of_ble_eq_true rfl) (rm_ok hR1 hR2 (by decide) (by decide)) ⟨Nat.zero_le _, Nat.zero_le _⟩ d_Model_wonWith_20) hW hA [] rfl rfl (ps := [none, none, none]) (by decide +kernel) ⟨rfl, rfl, rfl, trivial⟩ (fun H locs hW => ?_)
  refine lv_iadd hx hb d_Model_wonWith_23 ?_
  cases h
  rw [hQ]
  exact x_iret hC hr hW d_Model_wonWith_24

def L_Model_more_31 (v_t_couldMany : Int32) (v_t_high : Int64) (v_t_low : Int64) (v_t_could : Nat → Int32) (v_t_sets : Nat → Int32) (v_t_winsHigh : Nat → Int64) (v_t_winsLow : Nat → Int64) : Nat → Int32 → Int32 → Int32 → Option (Int32 × Int32 × Int32)
  | 0, _, _, _ => none
  | n + 1, x2, x3, x4 => if v_t_couldMany ≤ x4 then some (x2, x3, x4) else gd x4 70 (bk1 (f_Model_wonWith v_t_winsHigh v_t_winsLow (v_t_could x4.toNatClampNeg) v_t_low v_t_high) fun r_7 => if r_7 ≤ x3 then if r_7 ≤ x3 then L_Model_more_31 v_t_couldMany v_t_high v_t_low v_t_could v_t_sets v_t_winsHigh v_t_winsLow n x2 x3 (x4 + (1 : Int32)) else L_Model_more_31 v_t_couldMany v_t_high v_t_low v_t_could v_t_sets v_t_winsHigh v_t_winsLow n x2 r_7 (x4 + (1 : Int32)) else gd x4 70 (gd (v_t_could x4.toNatClampNeg) 70 (if r_7 ≤ x3 then L_Model_more_31 v_t_couldMany v_t_high v_t_low v_t_could v_t_sets v_t_winsHigh v_t_winsLow n (v_t_sets (v_t_could x4.toNatClampNeg).toNatClampNeg) x3 (x4 + (1 : Int32)) else L_Model_more_31 v_t_couldMany v_t_high v_t_low v_t_could v_t_sets v_t_winsHigh v_t_winsLow n (v_t_sets (v_t_could x4.toNatClampNeg).toNatClampNeg) r_7 (x4 + (1 : Int32)))))
def f_Model_more (v_t_couldMany : Int32) (v_t_drawMany : Int32) (v_t_due : Int32) (v_t_fond : Int32) (v_t_high : Int64) (v_t_low : Int64) (v_t_setMany : Int32) (v_t_ticketMany : Int32) (v_t_could : Nat → Int32) (v_t_draws : Nat → Int32) (v_t_sets : Nat → Int32) (v_t_tickets : Nat → Int32) (v_t_winsHigh : Nat → Int64) (v_t_winsLow : Nat → Int64) (p0 : Int32) : Option (Int32 × Int32 × Int64 × Int64 × (Nat → Int32)) :=
  bk1 (f_Model_in p0.toInt64 (0 : Int64) (1 : Int64)) fun r_1 => if r_1 = (0 : Int32) then some ((-2 : Int32), v_t_couldMany, v_t_high, v_t_low, v_t_could) else bk2 (f_Model_findCould v_t_fond v_t_setMany v_t_could v_t_sets) fun w_3_0 w_3_1 => bk2 (f_Model_flagsBut v_t_drawMany v_t_due v_t_ticketMany v_t_draws v_t_tickets (-6 : Int32)) fun w_4_0 w_4_1 => bk3 (L_Model_more_31 w_3_0 w_4_0 w_4_1 w_3_1 v_t_sets v_t_winsHigh v_t_winsLow 300 (-6 : Int32) (-1 : Int32) (0 : Int32)) fun yx2_13 yx3_13 yx4_13 => if p0 = (0 : Int32) then some (yx2_13, w_3_0, w_4_0, w_4_1, w_3_1) else some (yx3_13, w_3_0, w_4_0, w_4_1, w_3_1)
set_option maxHeartbeats 4000000 in
set_option maxRecDepth 100000 in
theorem c_Model_more (l : Launch) (D : va_G) (I J Z : ClassId) (a_t : Nat) (a_t_could : Nat) (a_t_draws : Nat) (a_t_sets : Nat) (a_t_tickets : Nat) (a_t_winsHigh : Nat) (a_t_winsLow : Nat) (a_t_prizes : Nat) (a_t_sightTicket : Nat) (a_t_sightRight : Nat) (a_t_sightHow : Nat) (a_t_pad : Nat) (a_t_row : Nat) (a_t_best : Nat) (a_t_kept : Nat) (a_t_isKept : Nat)  (v_t_numbers : Int32) (v_t_onTicket : Int32) (v_t_drawn : Int32) (v_t_due : Int32) (v_t_ticketMany : Int32) (v_t_fond : Int32) (v_t_sights : Int32) (v_t_drawMany : Int32) (v_t_setMany : Int32) (v_t_padMany : Int32) (v_t_low : Int64) (v_t_high : Int64) (v_t_couldMany : Int32) (v_t_keptAt : Int32) (v_t_isWriting : Int32) (v_t_could : Nat → Int32) (v_t_draws : Nat → Int32) (v_t_sets : Nat → Int32) (v_t_tickets : Nat → Int32) (v_t_winsHigh : Nat → Int64) (v_t_winsLow : Nat → Int64) (p0 : Int32) (out : (Int32 × Int32 × Int64 × Int64 × (Nat → Int32))) (h : f_Model_more v_t_couldMany v_t_drawMany v_t_due v_t_fond v_t_high v_t_low v_t_setMany v_t_ticketMany v_t_could v_t_draws v_t_sets v_t_tickets v_t_winsHigh v_t_winsLow p0 = some out) : CT l D I J Z y_Model_more b_Model_more 6 (some .int) 5 [.ref a_t, .int p0] [(a_t, .inr (10, [.int v_t_numbers, .int v_t_onTicket, .int v_t_drawn, .int v_t_due, .ref a_t_tickets, .int v_t_ticketMany, .int v_t_fond, .ref a_t_prizes, .ref a_t_sightTicket, .ref a_t_sightRight, .ref a_t_sightHow, .int v_t_sights, .ref a_t_draws, .int v_t_drawMany, .ref a_t_sets, .int v_t_setMany, .ref a_t_winsLow, .ref a_t_winsHigh, .ref a_t_pad, .int v_t_padMany, .long v_t_low, .long v_t_high, .ref a_t_could, .int v_t_couldMany, .ref a_t_row, .ref a_t_best, .ref a_t_kept, .ref a_t_isKept, .int v_t_keptAt, .int v_t_isWriting])), (a_t_could, .inl (I, 70, .inl v_t_could)), (a_t_draws, .inl (I, 70, .inl v_t_draws)), (a_t_sets, .inl (I, 70, .inl v_t_sets)), (a_t_tickets, .inl (I, 6, .inl v_t_tickets)), (a_t_winsHigh, .inl (J, 70, .inr (.inl v_t_winsHigh))), (a_t_winsLow, .inl (J, 70, .inr (.inl v_t_winsLow)))] (PoI out.1 D [(a_t, .inr (10, [.int v_t_numbers, .int v_t_onTicket, .int v_t_drawn, .int v_t_due, .ref a_t_tickets, .int v_t_ticketMany, .int v_t_fond, .ref a_t_prizes, .ref a_t_sightTicket, .ref a_t_sightRight, .ref a_t_sightHow, .int v_t_sights, .ref a_t_draws, .int v_t_drawMany, .ref a_t_sets, .int v_t_setMany, .ref a_t_winsLow, .ref a_t_winsHigh, .ref a_t_pad, .int v_t_padMany, .long out.2.2.2.1, .long out.2.2.1, .ref a_t_could, .int out.2.1, .ref a_t_row, .ref a_t_best, .ref a_t_kept, .ref a_t_isKept, .int v_t_keptAt, .int v_t_isWriting])), (a_t_could, .inl (I, 70, .inl out.2.2.2.2)), (a_t_draws, .inl (I, 70, .inl v_t_draws)), (a_t_sets, .inl (I, 70, .inl v_t_sets)), (a_t_tickets, .inl (I, 6, .inl v_t_tickets)), (a_t_winsHigh, .inl (J, 70, .inr (.inl v_t_winsHigh))), (a_t_winsLow, .inl (J, 70, .inr (.inl v_t_winsLow)))]) := by
  unfold f_Model_more at h
  refine CT_of R_Model (by decide +kernel) rfl (Nat.le_of_ble_eq_true rfl) ?_
  intro p e R s m args below meth c A ls Q hR1 hR2 hQ hC hr hW hA hl
  have hx := hC.1
  have hb := hC.2.1
  have hl : lv_has ls 6 [(0, .ref a_t), (1, .int p0)] := hl
  have lp31 : ∀ (n : Nat) (x1 : Int32) (x2 : Int32) (x3 : Int32) (x4 : Int32) (v_t_couldMany : Int32) (v_t_high : Int64) (v_t_low : Int64) (v_t_could : Nat → Int32) (yx2 : Int32) (yx3 : Int32) (yx4 : Int32), L_Model_more_31 v_t_couldMany v_t_high v_t_low v_t_could v_t_sets v_t_winsHigh v_t_winsLow n x2 x3 x4 = some (yx2, yx3, yx4) →
    (∀ H locs, Wd D A s.heap [(a_t, .inr (10, [.int v_t_numbers, .int v_t_onTicket, .int v_t_drawn, .int v_t_due, .ref a_t_tickets, .int v_t_ticketMany, .int v_t_fond, .ref a_t_prizes, .ref a_t_sightTicket, .ref a_t_sightRight, .ref a_t_sightHow, .int v_t_sights, .ref a_t_draws, .int v_t_drawMany, .ref a_t_sets, .int v_t_setMany, .ref a_t_winsLow, .ref a_t_winsHigh, .ref a_t_pad, .int v_t_padMany, .long v_t_low, .long v_t_high, .ref a_t_could, .int v_t_couldMany, .ref a_t_row, .ref a_t_best, .ref a_t_kept, .ref a_t_isKept, .int v_t_keptAt, .int v_t_isWriting])), (a_t_could, .inl (I, 70, .inl v_t_could)), (a_t_draws, .inl (I, 70, .inl v_t_draws)), (a_t_sets, .inl (I, 70, .inl v_t_sets)), (a_t_tickets, .inl (I, 6, .inl v_t_tickets)), (a_t_winsHigh, .inl (J, 70, .inr (.inl v_t_winsHigh))), (a_t_winsLow, .inl (J, 70, .inr (.inl v_t_winsLow)))] H locs → ∀ ls, lv_has ls 6 [(0, .ref a_t), (1, .int x1), (2, .int yx2), (3, .int yx3), (4, .int yx4)] → W p l e R s m args below meth c H locs 0 0 Q (F0 m 103 ls [])) →
    ∀ H locs, Wd D A s.heap [(a_t, .inr (10, [.int v_t_numbers, .int v_t_onTicket, .int v_t_drawn, .int v_t_due, .ref a_t_tickets, .int v_t_ticketMany, .int v_t_fond, .ref a_t_prizes, .ref a_t_sightTicket, .ref a_t_sightRight, .ref a_t_sightHow, .int v_t_sights, .ref a_t_draws, .int v_t_drawMany, .ref a_t_sets, .int v_t_setMany, .ref a_t_winsLow, .ref a_t_winsHigh, .ref a_t_pad, .int v_t_padMany, .long v_t_low, .long v_t_high, .ref a_t_could, .int v_t_couldMany, .ref a_t_row, .ref a_t_best, .ref a_t_kept, .ref a_t_isKept, .int v_t_keptAt, .int v_t_isWriting])), (a_t_could, .inl (I, 70, .inl v_t_could)), (a_t_draws, .inl (I, 70, .inl v_t_draws)), (a_t_sets, .inl (I, 70, .inl v_t_sets)), (a_t_tickets, .inl (I, 6, .inl v_t_tickets)), (a_t_winsHigh, .inl (J, 70, .inr (.inl v_t_winsHigh))), (a_t_winsLow, .inl (J, 70, .inr (.inl v_t_winsLow)))] H locs → ∀ ls, lv_has ls 6 [(0, .ref a_t), (1, .int x1), (2, .int x2), (3, .int x3), (4, .int x4)] → W p l e R s m args below meth c H locs 0 0 Q (F0 m 31 ls []) := by
    intro n
    induction n with
    | zero =>
      intro x1 x2 x3 x4 v_t_couldMany v_t_high v_t_low v_t_could yx2 yx3 yx4 h
      exact no_e h
    | succ n ih =>
      intro x1 x2 x3 x4 v_t_couldMany v_t_high v_t_low v_t_could yx2 yx3 yx4 h K H locs hW ls hl
      rw [L_Model_more_31] at h
      refine lv_iload hx hb d_Model_more_31 (lv_at hl 4 rfl) ?_
      refine lv_aload_n hx hb d_Model_more_33 rfl (lv_at hl 0 rfl) ?_
      refine x_get hC hW 0 rfl fl_Model_164 rfl d_Model_more_34 ?_
      refine lv_icmp_ge (tgt := 103) hx hb d_Model_more_37 (by decide) (fun c_5 => ?_) (fun c_5 => ?_)
      · have h := it_e c_5 h
        cases h
        exact K _ _ hW ls (lv_sub hl [0, 1, 2, 3, 4] rfl)
      · have h := ie_e c_5 h
        refine lv_aload_n hx hb d_Model_more_40 rfl (lv_at hl 0 rfl) ?_
        refine lv_aload_n hx hb d_Model_more_41 rfl (lv_at hl 0 rfl) ?_
        refine x_get hC hW 0 rfl fl_Model_41 rfl d_Model_more_42 ?_
        refine lv_iload hx hb d_Model_more_45 (lv_at hl 4 rfl) ?_
        obtain ⟨hi_6, h⟩ := gd_e h
        refine x_iald hC hW 1 rfl hi_6 d_Model_more_47 ?_
        refine lv_aload_n hx hb d_Model_more_48 rfl (lv_at hl 0 rfl) ?_
        refine x_get hC hW 0 rfl fl_Model_135 rfl d_Model_more_49 ?_
        refine lv_aload_n hx hb d_Model_more_52 rfl (lv_at hl 0 rfl) ?_
        refine x_get hC hW 0 rfl fl_Model_139 rfl d_Model_more_53 ?_
        obtain ⟨r_7, hc_7, h⟩ := bk1_e h
        refine x_ci (ws' := [(a_t, .inr (10, [.int v_t_numbers, .int v_t_onTicket, .int v_t_drawn, .int v_t_due, .ref a_t_tickets, .int v_t_ticketMany, .int v_t_fond, .ref a_t_prizes, .ref a_t_sightTicket, .ref a_t_sightRight, .ref a_t_sightHow, .int v_t_sights, .ref a_t_draws, .int v_t_drawMany, .ref a_t_sets, .int v_t_setMany, .ref a_t_winsLow, .ref a_t_winsHigh, .ref a_t_pad, .int v_t_padMany, .long v_t_low, .long v_t_high, .ref a_t_could, .int v_t_couldMany, .ref a_t_row, .ref a_t_best, .ref a_t_kept, .ref a_t_isKept, .int v_t_keptAt, .int v_t_isWriting])), (a_t_could, .inl (I, 70, .inl v_t_could)), (a_t_draws, .inl (I, 70, .inl v_t_draws)), (a_t_sets, .inl (I, 70, .inl v_t_sets)), (a_t_tickets, .inl (I, 6, .inl v_t_tickets)), (a_t_winsHigh, .inl (J, 70, .inr (.inl v_t_winsHigh))), (a_t_winsLow, .inl (J, 70, .inr (.inl v_t_winsLow)))]) (x_runV (As := [.int (v_t_could x4.toNatClampNeg), .long v_t_low, .long v_t_high]) (rest := []) hC hW (c_Model_wonWith l D I J Z a_t a_t_winsHigh a_t_winsLow a_t_tickets a_t_prizes a_t_sightTicket a_t_sightRight a_t_sightHow a_t_draws a_t_sets a_t_pad a_t_could a_t_row a_t_best a_t_kept a_t_isKept v_t_numbers v_t_onTicket v_t_drawn v_t_due v_t_ticketMany v_t_fond v_t_sights v_t_drawMany v_t_setMany v_t_padMany v_t_low v_t_high v_t_couldMany v_t_keptAt v_t_isWriting v_t_winsHigh v_t_winsLow (v_t_could x4.toNatClampNeg) v_t_low v_t_high (r_7) hc_7) cl_Model_182 q_code_Model_wonWith [0, 5, 6] rfl (by decide) 0 rfl rfl rfl rfl hl.1 (Nat.le_of_ble_eq_true rfl) (rm_ok hR1 hR2 (by decide) (by decide)) ⟨Nat.zero_le _, Nat.zero_le _⟩ d_Model_more_56) hW hA [0, 5, 6] rfl rfl (ps := [some 0, none, none, none, none, some 1, some 2]) (by decide +kernel) ⟨rfl, rfl, rfl, rfl, rfl, rfl, rfl, trivial⟩ (fun H locs hW => ?_)
        refine lv_istore (lv' := [(5, .int r_7), (0, .ref a_t), (1, .int x1), (2, .int x2), (3, .int x3), (4, .int x4)]) hx hb d_Model_more_59 hl (by decide) rfl (fun ls hl => ?_)
        refine lv_iload hx hb d_Model_more_61 (lv_at hl 0 rfl) ?_
        refine lv_iload_n hx hb d_Model_more_63 rfl (lv_at hl 4 rfl) ?_
        refine lv_icmp_le (tgt := 82) hx hb d_Model_more_64 (by decide) (fun c_8 => ?_) (fun c_8 => ?_)
        · have h := it_e c_8 h
          refine lv_iload_n hx hb d_Model_more_82 rfl (lv_at hl 3 rfl) ?_
          refine lv_istore_n (lv' := [(2, .int x2), (5, .int r_7), (0, .ref a_t), (1, .int x1), (3, .int x3), (4, .int x4)]) hx hb d_Model_more_83 rfl hl (by decide) rfl (fun ls hl => ?_)
          refine lv_iload hx hb d_Model_more_84 (lv_at hl 1 rfl) ?_
          refine lv_iload_n hx hb d_Model_more_86 rfl (lv_at hl 4 rfl) ?_
          refine lv_icmp_le (tgt := 95) hx hb d_Model_more_87 (by decide) (fun c_9 => ?_) (fun c_9 => ?_)
          · have h := it_e c_9 h
            refine lv_iload_n hx hb d_Model_more_95 rfl (lv_at hl 4 rfl) ?_
            refine lv_istore_n (lv' := [(3, .int x3), (2, .int x2), (5, .int r_7), (0, .ref a_t), (1, .int x1), (4, .int x4)]) hx hb d_Model_more_96 rfl hl (by decide) rfl (fun ls hl => ?_)
            refine lv_iinc (v := (x4 + (1 : Int32))) (lv' := [(4, .int (x4 + (1 : Int32))), (3, .int x3), (2, .int x2), (5, .int r_7), (0, .ref a_t), (1, .int x1)]) hx hb d_Model_more_97 hl (k := 5) rfl (iinc_e (by decide)) (by decide) rfl (fun ls hl => ?_)
            refine lv_goto (tgt := 31) hx hb d_Model_more_100 (by decide) ?_
            exact ih x1 x2 x3 (x4 + (1 : Int32)) v_t_couldMany v_t_high v_t_low v_t_could _ _ _ h K _ _ hW ls (lv_sub hl [4, 5, 2, 1, 0] rfl)
          · have h := ie_e c_9 h
            refine lv_iload hx hb d_Model_more_90 (lv_at hl 1 rfl) ?_
            refine lv_goto (tgt := 96) hx hb d_Model_more_92 (by decide) ?_
            refine lv_istore_n (lv' := [(3, .int r_7), (2, .int x2), (5, .int r_7), (0, .ref a_t), (1, .int x1), (4, .int x4)]) hx hb d_Model_more_96 rfl hl (by decide) rfl (fun ls hl => ?_)
            refine lv_iinc (v := (x4 + (1 : Int32))) (lv' := [(4, .int (x4 + (1 : Int32))), (3, .int r_7), (2, .int x2), (5, .int r_7), (0, .ref a_t), (1, .int x1)]) hx hb d_Model_more_97 hl (k := 5) rfl (iinc_e (by decide)) (by decide) rfl (fun ls hl => ?_)
            refine lv_goto (tgt := 31) hx hb d_Model_more_100 (by decide) ?_
            exact ih x1 x2 r_7 (x4 + (1 : Int32)) v_t_couldMany v_t_high v_t_low v_t_could _ _ _ h K _ _ hW ls (lv_sub hl [4, 5, 2, 1, 0] rfl)
        · have h := ie_e c_8 h
          refine lv_aload_n hx hb d_Model_more_67 rfl (lv_at hl 1 rfl) ?_
          refine x_get hC hW 0 rfl fl_Model_28 rfl d_Model_more_68 ?_
          refine lv_aload_n hx hb d_Model_more_71 rfl (lv_at hl 1 rfl) ?_
          refine x_get hC hW 0 rfl fl_Model_41 rfl d_Model_more_72 ?_
          refine lv_iload hx hb d_Model_more_75 (lv_at hl 5 rfl) ?_
          obtain ⟨hi_10, h⟩ := gd_e h
          refine x_iald hC hW 1 rfl hi_10 d_Model_more_77 ?_
          obtain ⟨hi_11, h⟩ := gd_e h
          refine x_iald hC hW 3 rfl hi_11 d_Model_more_78 ?_
          refine lv_goto (tgt := 83) hx hb d_Model_more_79 (by decide) ?_
          refine lv_istore_n (lv' := [(2, .int (v_t_sets (v_t_could x4.toNatClampNeg).toNatClampNeg)), (5, .int r_7), (0, .ref a_t), (1, .int x1), (3, .int x3), (4, .int x4)]) hx hb d_Model_more_83 rfl hl (by decide) rfl (fun ls hl => ?_)
          refine lv_iload hx hb d_Model_more_84 (lv_at hl 1 rfl) ?_
          refine lv_iload_n hx hb d_Model_more_86 rfl (lv_at hl 4 rfl) ?_
          refine lv_icmp_le (tgt := 95) hx hb d_Model_more_87 (by decide) (fun c_12 => ?_) (fun c_12 => ?_)
          · have h := it_e c_12 h
            refine lv_iload_n hx hb d_Model_more_95 rfl (lv_at hl 4 rfl) ?_
            refine lv_istore_n (lv' := [(3, .int x3), (2, .int (v_t_sets (v_t_could x4.toNatClampNeg).toNatClampNeg)), (5, .int r_7), (0, .ref a_t), (1, .int x1), (4, .int x4)]) hx hb d_Model_more_96 rfl hl (by decide) rfl (fun ls hl => ?_)
            refine lv_iinc (v := (x4 + (1 : Int32))) (lv' := [(4, .int (x4 + (1 : Int32))), (3, .int x3), (2, .int (v_t_sets (v_t_could x4.toNatClampNeg).toNatClampNeg)), (5, .int r_7), (0, .ref a_t), (1, .int x1)]) hx hb d_Model_more_97 hl (k := 5) rfl (iinc_e (by decide)) (by decide) rfl (fun ls hl => ?_)
            refine lv_goto (tgt := 31) hx hb d_Model_more_100 (by decide) ?_
            exact ih x1 (v_t_sets (v_t_could x4.toNatClampNeg).toNatClampNeg) x3 (x4 + (1 : Int32)) v_t_couldMany v_t_high v_t_low v_t_could _ _ _ h K _ _ hW ls (lv_sub hl [4, 5, 2, 1, 0] rfl)
          · have h := ie_e c_12 h
            refine lv_iload hx hb d_Model_more_90 (lv_at hl 1 rfl) ?_
            refine lv_goto (tgt := 96) hx hb d_Model_more_92 (by decide) ?_
            refine lv_istore_n (lv' := [(3, .int r_7), (2, .int (v_t_sets (v_t_could x4.toNatClampNeg).toNatClampNeg)), (5, .int r_7), (0, .ref a_t), (1, .int x1), (4, .int x4)]) hx hb d_Model_more_96 rfl hl (by decide) rfl (fun ls hl => ?_)
            refine lv_iinc (v := (x4 + (1 : Int32))) (lv' := [(4, .int (x4 + (1 : Int32))), (3, .int r_7), (2, .int (v_t_sets (v_t_could x4.toNatClampNeg).toNatClampNeg)), (5, .int r_7), (0, .ref a_t), (1, .int x1)]) hx hb d_Model_more_97 hl (k := 5) rfl (iinc_e (by decide)) (by decide) rfl (fun ls hl => ?_)
            refine lv_goto (tgt := 31) hx hb d_Model_more_100 (by decide) ?_
            exact ih x1 (v_t_sets (v_t_could x4.toNatClampNeg).toNatClampNeg) r_7 (x4 + (1 : Int32)) v_t_couldMany v_t_high v_t_low v_t_could _ _ _ h K _ _ hW ls (lv_sub hl [4, 5, 2, 1, 0] rfl)
  refine lv_iload_n hx hb d_Model_more_0 rfl (lv_at hl 1 rfl) ?_
  refine lv_i2l hx hb d_Model_more_1 rfl ?_
  refine lv_lconst (v := (0 : Int64)) hx hb d_Model_more_2 (by decide) ?_
  refine lv_lconst (v := (1 : Int64)) hx hb d_Model_more_3 (by decide) ?_
  obtain ⟨r_1, hc_1, h⟩ := bk1_e h
  refine x_ci (ws' := [(a_t, .inr (10, [.int v_t_numbers, .int v_t_onTicket, .int v_t_drawn, .int v_t_due, .ref a_t_tickets, .int v_t_ticketMany, .int v_t_fond, .ref a_t_prizes, .ref a_t_sightTicket, .ref a_t_sightRight, .ref a_t_sightHow, .int v_t_sights, .ref a_t_draws, .int v_t_drawMany, .ref a_t_sets, .int v_t_setMany, .ref a_t_winsLow, .ref a_t_winsHigh, .ref a_t_pad, .int v_t_padMany, .long v_t_low, .long v_t_high, .ref a_t_could, .int v_t_couldMany, .ref a_t_row, .ref a_t_best, .ref a_t_kept, .ref a_t_isKept, .int v_t_keptAt, .int v_t_isWriting])), (a_t_could, .inl (I, 70, .inl v_t_could)), (a_t_draws, .inl (I, 70, .inl v_t_draws)), (a_t_sets, .inl (I, 70, .inl v_t_sets)), (a_t_tickets, .inl (I, 6, .inl v_t_tickets)), (a_t_winsHigh, .inl (J, 70, .inr (.inl v_t_winsHigh))), (a_t_winsLow, .inl (J, 70, .inr (.inl v_t_winsLow)))]) (x_runS (rest := []) hC hW (c_Model_in l D I J Z p0.toInt64 (0 : Int64) (1 : Int64) (r_1) hc_1) cl_Model_111 q_code_Model_in [] rfl (by decide) rfl hl.1 (Nat.le_of_ble_eq_true rfl) (rm_ok hR1 hR2 (by decide) (by decide)) ⟨Nat.zero_le _, Nat.zero_le _⟩ d_Model_more_4) hW hA [] rfl rfl (ps := [none, none, none, none, none, none, none]) (by decide +kernel) ⟨rfl, rfl, rfl, rfl, rfl, rfl, rfl, trivial⟩ (fun H locs hW => ?_)
  refine lv_if_ne (tgt := 13) hx hb d_Model_more_7 (by decide) (fun c_2 => ?_) (fun c_2 => ?_)
  · have h := ie_e c_2 h
    refine lv_aload_n hx hb d_Model_more_13 rfl (lv_at hl 0 rfl) ?_
    obtain ⟨w_3_0, w_3_1, hc_3, h⟩ := bk2_e h
    refine x_cv (ws' := [(a_t, .inr (10, [.int v_t_numbers, .int v_t_onTicket, .int v_t_drawn, .int v_t_due, .ref a_t_tickets, .int v_t_ticketMany, .int v_t_fond, .ref a_t_prizes, .ref a_t_sightTicket, .ref a_t_sightRight, .ref a_t_sightHow, .int v_t_sights, .ref a_t_draws, .int v_t_drawMany, .ref a_t_sets, .int v_t_setMany, .ref a_t_winsLow, .ref a_t_winsHigh, .ref a_t_pad, .int v_t_padMany, .long v_t_low, .long v_t_high, .ref a_t_could, .int w_3_0, .ref a_t_row, .ref a_t_best, .ref a_t_kept, .ref a_t_isKept, .int v_t_keptAt, .int v_t_isWriting])), (a_t_could, .inl (I, 70, .inl w_3_1)), (a_t_draws, .inl (I, 70, .inl v_t_draws)), (a_t_sets, .inl (I, 70, .inl v_t_sets)), (a_t_tickets, .inl (I, 6, .inl v_t_tickets)), (a_t_winsHigh, .inl (J, 70, .inr (.inl v_t_winsHigh))), (a_t_winsLow, .inl (J, 70, .inr (.inl v_t_winsLow)))]) (x_runV (As := []) (rest := []) hC hW (c_Model_findCould l D I J Z a_t a_t_could a_t_sets a_t_tickets a_t_prizes a_t_sightTicket a_t_sightRight a_t_sightHow a_t_draws a_t_winsLow a_t_winsHigh a_t_pad a_t_row a_t_best a_t_kept a_t_isKept v_t_numbers v_t_onTicket v_t_drawn v_t_due v_t_ticketMany v_t_fond v_t_sights v_t_drawMany v_t_setMany v_t_padMany v_t_low v_t_high v_t_couldMany v_t_keptAt v_t_isWriting v_t_could v_t_sets (w_3_0, w_3_1) hc_3) cl_Model_176 q_code_Model_findCould [0, 1, 3] rfl (by decide) 0 rfl rfl rfl rfl hl.1 (Nat.le_of_ble_eq_true rfl) (rm_ok hR1 hR2 (by decide) (by decide)) ⟨Nat.zero_le _, Nat.zero_le _⟩ d_Model_more_14) hW hA [0, 1, 3] rfl rfl (ps := [some 0, some 1, none, some 2, none, none, none]) (by decide +kernel) ⟨rfl, rfl, rfl, rfl, rfl, rfl, rfl, trivial⟩ (fun H locs hW => ?_)
    refine lv_aload_n hx hb d_Model_more_17 rfl (lv_at hl 0 rfl) ?_
    refine lv_bipush (v := (-6 : Int32)) hx hb d_Model_more_18 (by decide) ?_
    obtain ⟨w_4_0, w_4_1, hc_4, h⟩ := bk2_e h
    refine x_cv (ws' := [(a_t, .inr (10, [.int v_t_numbers, .int v_t_onTicket, .int v_t_drawn, .int v_t_due, .ref a_t_tickets, .int v_t_ticketMany, .int v_t_fond, .ref a_t_prizes, .ref a_t_sightTicket, .ref a_t_sightRight, .ref a_t_sightHow, .int v_t_sights, .ref a_t_draws, .int v_t_drawMany, .ref a_t_sets, .int v_t_setMany, .ref a_t_winsLow, .ref a_t_winsHigh, .ref a_t_pad, .int v_t_padMany, .long w_4_1, .long w_4_0, .ref a_t_could, .int w_3_0, .ref a_t_row, .ref a_t_best, .ref a_t_kept, .ref a_t_isKept, .int v_t_keptAt, .int v_t_isWriting])), (a_t_could, .inl (I, 70, .inl w_3_1)), (a_t_draws, .inl (I, 70, .inl v_t_draws)), (a_t_sets, .inl (I, 70, .inl v_t_sets)), (a_t_tickets, .inl (I, 6, .inl v_t_tickets)), (a_t_winsHigh, .inl (J, 70, .inr (.inl v_t_winsHigh))), (a_t_winsLow, .inl (J, 70, .inr (.inl v_t_winsLow)))]) (x_runV (As := [.int (-6 : Int32)]) (rest := []) hC hW (c_Model_flagsBut l D I J Z a_t a_t_draws a_t_tickets a_t_prizes a_t_sightTicket a_t_sightRight a_t_sightHow a_t_sets a_t_winsLow a_t_winsHigh a_t_pad a_t_could a_t_row a_t_best a_t_kept a_t_isKept v_t_numbers v_t_onTicket v_t_drawn v_t_due v_t_ticketMany v_t_fond v_t_sights v_t_drawMany v_t_setMany v_t_padMany v_t_low v_t_high w_3_0 v_t_keptAt v_t_isWriting v_t_draws v_t_tickets (-6 : Int32) (w_4_0, w_4_1) hc_4) cl_Model_142 q_code_Model_flagsBut [0, 2, 4] rfl (by decide) 0 rfl rfl rfl rfl hl.1 (Nat.le_of_ble_eq_true rfl) (rm_ok hR1 hR2 (by decide) (by decide)) ⟨Nat.zero_le _, Nat.zero_le _⟩ d_Model_more_20) hW hA [0, 2, 4] rfl rfl (ps := [some 0, none, some 1, none, some 2, none, none]) (by decide +kernel) ⟨rfl, rfl, rfl, rfl, rfl, rfl, rfl, trivial⟩ (fun H locs hW => ?_)
    refine lv_bipush (v := (-6 : Int32)) hx hb d_Model_more_23 (by decide) ?_
    refine lv_istore_n (lv' := [(2, .int (-6 : Int32)), (0, .ref a_t), (1, .int p0)]) hx hb d_Model_more_25 rfl hl (by decide) rfl (fun ls hl => ?_)
    refine lv_iconst (v := (-1 : Int32)) hx hb d_Model_more_26 (by decide) ?_
    refine lv_istore_n (lv' := [(3, .int (-1 : Int32)), (2, .int (-6 : Int32)), (0, .ref a_t), (1, .int p0)]) hx hb d_Model_more_27 rfl hl (by decide) rfl (fun ls hl => ?_)
    refine lv_iconst (v := (0 : Int32)) hx hb d_Model_more_28 (by decide) ?_
    refine lv_istore (lv' := [(4, .int (0 : Int32)), (3, .int (-1 : Int32)), (2, .int (-6 : Int32)), (0, .ref a_t), (1, .int p0)]) hx hb d_Model_more_29 hl (by decide) rfl (fun ls hl => ?_)
    obtain ⟨yx2_13, yx3_13, yx4_13, hv_13, h⟩ := bk3_e h
    refine lp31 _ p0 (-6 : Int32) (-1 : Int32) (0 : Int32) w_3_0 w_4_0 w_4_1 w_3_1 yx2_13 yx3_13 yx4_13 hv_13 (fun H locs hW ls hl => ?_) _ _ hW ls (lv_sub hl [3, 4, 2, 1, 0] rfl)
    refine lv_iload_n hx hb d_Model_more_103 rfl (lv_at hl 1 rfl) ?_
    refine lv_if_ne (tgt := 111) hx hb d_Model_more_104 (by decide) (fun c_14 => ?_) (fun c_14 => ?_)
    · have h := ie_e c_14 h
      refine lv_iload_n hx hb d_Model_more_111 rfl (lv_at hl 3 rfl) ?_
      cases h
      rw [hQ]
      exact x_iret hC hr hW d_Model_more_112
    · have h := it_e c_14 h
      refine lv_iload_n hx hb d_Model_more_107 rfl (lv_at hl 2 rfl) ?_
      refine lv_goto (tgt := 112) hx hb d_Model_more_108 (by decide) ?_
      cases h
      rw [hQ]
      exact x_iret hC hr hW d_Model_more_112
  · have h := it_e c_2 h
    refine lv_bipush (v := (-2 : Int32)) hx hb d_Model_more_10 (by decide) ?_
    cases h
    rw [hQ]
    exact x_iret hC hr hW d_Model_more_12

def L_Model_changed_59 (x5 : Int32) (v_t_couldMany : Int32) (v_t_high : Int64) (v_t_low : Int64) (v_t_could : Nat → Int32) (v_t_sets : Nat → Int32) (v_t_winsHigh : Nat → Int64) (v_t_winsLow : Nat → Int64) : Nat → Int32 → Int32 → Int32 → Int32 → Option (Int32 × Int32 × Int32 × Int32)
  | 0, _, _, _, _ => none
  | n + 1, x2, x3, x4, x6 => if v_t_couldMany ≤ x6 then some (x2, x3, x4, x6) else gd x6 70 (bk1 (f_Model_wonWith v_t_winsHigh v_t_winsLow (v_t_could x6.toNatClampNeg) v_t_low v_t_high) fun r_9 => if r_9 ≤ x4 then L_Model_changed_59 x5 v_t_couldMany v_t_high v_t_low v_t_could v_t_sets v_t_winsHigh v_t_winsLow n x2 x3 x4 (x6 + (1 : Int32)) else gd x6 70 (gd (v_t_could x6.toNatClampNeg) 70 (L_Model_changed_59 x5 v_t_couldMany v_t_high v_t_low v_t_could v_t_sets v_t_winsHigh v_t_winsLow n x5 (v_t_sets (v_t_could x6.toNatClampNeg).toNatClampNeg) r_9 (x6 + (1 : Int32)))))
def L_Model_changed_41 (v_t_couldMany : Int32) (v_t_could : Nat → Int32) (v_t_drawMany : Int32) (v_t_due : Int32) (v_t_ticketMany : Int32) (v_t_draws : Nat → Int32) (v_t_sets : Nat → Int32) (v_t_tickets : Nat → Int32) (v_t_winsHigh : Nat → Int64) (v_t_winsLow : Nat → Int64) : Nat → Int32 → Int32 → Int32 → Int32 → Int64 → Int64 → Option (Int32 × Int32 × Int32 × Int32 × Int64 × Int64)
  | 0, _, _, _, _, _, _ => none
  | n + 1, x2, x3, x4, x5, v_t_high, v_t_low => if v_t_ticketMany ≤ x5 then some (x2, x3, x4, x5, v_t_high, v_t_low) else bk2 (f_Model_flagsBut v_t_drawMany v_t_due v_t_ticketMany v_t_draws v_t_tickets x5) fun w_6_0 w_6_1 => bk4 (L_Model_changed_59 x5 v_t_couldMany w_6_0 w_6_1 v_t_could v_t_sets v_t_winsHigh v_t_winsLow 300 x2 x3 x4 (0 : Int32)) fun yx2_13 yx3_13 yx4_13 yx6_13 => L_Model_changed_41 v_t_couldMany v_t_could v_t_drawMany v_t_due v_t_ticketMany v_t_draws v_t_sets v_t_tickets v_t_winsHigh v_t_winsLow n yx2_13 yx3_13 yx4_13 (x5 + (1 : Int32)) w_6_0 w_6_1
def f_Model_changed (v_t_couldMany : Int32) (v_t_drawMany : Int32) (v_t_due : Int32) (v_t_fond : Int32) (v_t_high : Int64) (v_t_low : Int64) (v_t_setMany : Int32) (v_t_ticketMany : Int32) (v_t_could : Nat → Int32) (v_t_draws : Nat → Int32) (v_t_sets : Nat → Int32) (v_t_tickets : Nat → Int32) (v_t_winsHigh : Nat → Int64) (v_t_winsLow : Nat → Int64) (p0 : Int32) : Option (Int32 × Int32 × Int64 × Int64 × (Nat → Int32)) :=
  bk1 (f_Model_in p0.toInt64 (0 : Int64) (2 : Int64)) fun r_1 => if r_1 = (0 : Int32) then some ((-2 : Int32), v_t_couldMany, v_t_high, v_t_low, v_t_could) else if v_t_ticketMany = (0 : Int32) then some ((-3 : Int32), v_t_couldMany, v_t_high, v_t_low, v_t_could) else bk2 (f_Model_findCould v_t_fond v_t_setMany v_t_could v_t_sets) fun w_4_0 w_4_1 => bk6 (L_Model_changed_41 w_4_0 w_4_1 v_t_drawMany v_t_due v_t_ticketMany v_t_draws v_t_sets v_t_tickets v_t_winsHigh v_t_winsLow 300 (-6 : Int32) (-6 : Int32) (-1 : Int32) (0 : Int32) v_t_high v_t_low) fun yx2_14 yx3_14 yx4_14 yx5_14 y_t_high_14 y_t_low_14 => if p0 = (0 : Int32) then some (yx2_14, w_4_0, y_t_high_14, y_t_low_14, w_4_1) else if p0 = (1 : Int32) then some (yx3_14, w_4_0, y_t_high_14, y_t_low_14, w_4_1) else some (yx4_14, w_4_0, y_t_high_14, y_t_low_14, w_4_1)
set_option maxHeartbeats 4000000 in
set_option maxRecDepth 100000 in
theorem c_Model_changed (l : Launch) (D : va_G) (I J Z : ClassId) (a_t : Nat) (a_t_could : Nat) (a_t_draws : Nat) (a_t_sets : Nat) (a_t_tickets : Nat) (a_t_winsHigh : Nat) (a_t_winsLow : Nat) (a_t_prizes : Nat) (a_t_sightTicket : Nat) (a_t_sightRight : Nat) (a_t_sightHow : Nat) (a_t_pad : Nat) (a_t_row : Nat) (a_t_best : Nat) (a_t_kept : Nat) (a_t_isKept : Nat)  (v_t_numbers : Int32) (v_t_onTicket : Int32) (v_t_drawn : Int32) (v_t_due : Int32) (v_t_ticketMany : Int32) (v_t_fond : Int32) (v_t_sights : Int32) (v_t_drawMany : Int32) (v_t_setMany : Int32) (v_t_padMany : Int32) (v_t_low : Int64) (v_t_high : Int64) (v_t_couldMany : Int32) (v_t_keptAt : Int32) (v_t_isWriting : Int32) (v_t_could : Nat → Int32) (v_t_draws : Nat → Int32) (v_t_sets : Nat → Int32) (v_t_tickets : Nat → Int32) (v_t_winsHigh : Nat → Int64) (v_t_winsLow : Nat → Int64) (p0 : Int32) (out : (Int32 × Int32 × Int64 × Int64 × (Nat → Int32))) (h : f_Model_changed v_t_couldMany v_t_drawMany v_t_due v_t_fond v_t_high v_t_low v_t_setMany v_t_ticketMany v_t_could v_t_draws v_t_sets v_t_tickets v_t_winsHigh v_t_winsLow p0 = some out) : CT l D I J Z y_Model_changed b_Model_changed 8 (some .int) 5 [.ref a_t, .int p0] [(a_t, .inr (10, [.int v_t_numbers, .int v_t_onTicket, .int v_t_drawn, .int v_t_due, .ref a_t_tickets, .int v_t_ticketMany, .int v_t_fond, .ref a_t_prizes, .ref a_t_sightTicket, .ref a_t_sightRight, .ref a_t_sightHow, .int v_t_sights, .ref a_t_draws, .int v_t_drawMany, .ref a_t_sets, .int v_t_setMany, .ref a_t_winsLow, .ref a_t_winsHigh, .ref a_t_pad, .int v_t_padMany, .long v_t_low, .long v_t_high, .ref a_t_could, .int v_t_couldMany, .ref a_t_row, .ref a_t_best, .ref a_t_kept, .ref a_t_isKept, .int v_t_keptAt, .int v_t_isWriting])), (a_t_could, .inl (I, 70, .inl v_t_could)), (a_t_draws, .inl (I, 70, .inl v_t_draws)), (a_t_sets, .inl (I, 70, .inl v_t_sets)), (a_t_tickets, .inl (I, 6, .inl v_t_tickets)), (a_t_winsHigh, .inl (J, 70, .inr (.inl v_t_winsHigh))), (a_t_winsLow, .inl (J, 70, .inr (.inl v_t_winsLow)))] (PoI out.1 D [(a_t, .inr (10, [.int v_t_numbers, .int v_t_onTicket, .int v_t_drawn, .int v_t_due, .ref a_t_tickets, .int v_t_ticketMany, .int v_t_fond, .ref a_t_prizes, .ref a_t_sightTicket, .ref a_t_sightRight, .ref a_t_sightHow, .int v_t_sights, .ref a_t_draws, .int v_t_drawMany, .ref a_t_sets, .int v_t_setMany, .ref a_t_winsLow, .ref a_t_winsHigh, .ref a_t_pad, .int v_t_padMany, .long out.2.2.2.1, .long out.2.2.1, .ref a_t_could, .int out.2.1, .ref a_t_row, .ref a_t_best, .ref a_t_kept, .ref a_t_isKept, .int v_t_keptAt, .int v_t_isWriting])), (a_t_could, .inl (I, 70, .inl out.2.2.2.2)), (a_t_draws, .inl (I, 70, .inl v_t_draws)), (a_t_sets, .inl (I, 70, .inl v_t_sets)), (a_t_tickets, .inl (I, 6, .inl v_t_tickets)), (a_t_winsHigh, .inl (J, 70, .inr (.inl v_t_winsHigh))), (a_t_winsLow, .inl (J, 70, .inr (.inl v_t_winsLow)))]) := by
  unfold f_Model_changed at h
  refine CT_of R_Model (by decide +kernel) rfl (Nat.le_of_ble_eq_true rfl) ?_
  intro p e R s m args below meth c A ls Q hR1 hR2 hQ hC hr hW hA hl
  have hx := hC.1
  have hb := hC.2.1
  have hl : lv_has ls 8 [(0, .ref a_t), (1, .int p0)] := hl
  have lp59 : ∀ (n : Nat) (x1 : Int32) (x2 : Int32) (x3 : Int32) (x4 : Int32) (x5 : Int32) (x6 : Int32) (v_t_couldMany : Int32) (v_t_high : Int64) (v_t_low : Int64) (v_t_could : Nat → Int32) (yx2 : Int32) (yx3 : Int32) (yx4 : Int32) (yx6 : Int32), L_Model_changed_59 x5 v_t_couldMany v_t_high v_t_low v_t_could v_t_sets v_t_winsHigh v_t_winsLow n x2 x3 x4 x6 = some (yx2, yx3, yx4, yx6) →
    (∀ H locs, Wd D A s.heap [(a_t, .inr (10, [.int v_t_numbers, .int v_t_onTicket, .int v_t_drawn, .int v_t_due, .ref a_t_tickets, .int v_t_ticketMany, .int v_t_fond, .ref a_t_prizes, .ref a_t_sightTicket, .ref a_t_sightRight, .ref a_t_sightHow, .int v_t_sights, .ref a_t_draws, .int v_t_drawMany, .ref a_t_sets, .int v_t_setMany, .ref a_t_winsLow, .ref a_t_winsHigh, .ref a_t_pad, .int v_t_padMany, .long v_t_low, .long v_t_high, .ref a_t_could, .int v_t_couldMany, .ref a_t_row, .ref a_t_best, .ref a_t_kept, .ref a_t_isKept, .int v_t_keptAt, .int v_t_isWriting])), (a_t_could, .inl (I, 70, .inl v_t_could)), (a_t_draws, .inl (I, 70, .inl v_t_draws)), (a_t_sets, .inl (I, 70, .inl v_t_sets)), (a_t_tickets, .inl (I, 6, .inl v_t_tickets)), (a_t_winsHigh, .inl (J, 70, .inr (.inl v_t_winsHigh))), (a_t_winsLow, .inl (J, 70, .inr (.inl v_t_winsLow)))] H locs → ∀ ls, lv_has ls 8 [(0, .ref a_t), (1, .int x1), (2, .int yx2), (3, .int yx3), (4, .int yx4), (5, .int x5), (6, .int yx6)] → W p l e R s m args below meth c H locs 0 0 Q (F0 m 122 ls [])) →
    ∀ H locs, Wd D A s.heap [(a_t, .inr (10, [.int v_t_numbers, .int v_t_onTicket, .int v_t_drawn, .int v_t_due, .ref a_t_tickets, .int v_t_ticketMany, .int v_t_fond, .ref a_t_prizes, .ref a_t_sightTicket, .ref a_t_sightRight, .ref a_t_sightHow, .int v_t_sights, .ref a_t_draws, .int v_t_drawMany, .ref a_t_sets, .int v_t_setMany, .ref a_t_winsLow, .ref a_t_winsHigh, .ref a_t_pad, .int v_t_padMany, .long v_t_low, .long v_t_high, .ref a_t_could, .int v_t_couldMany, .ref a_t_row, .ref a_t_best, .ref a_t_kept, .ref a_t_isKept, .int v_t_keptAt, .int v_t_isWriting])), (a_t_could, .inl (I, 70, .inl v_t_could)), (a_t_draws, .inl (I, 70, .inl v_t_draws)), (a_t_sets, .inl (I, 70, .inl v_t_sets)), (a_t_tickets, .inl (I, 6, .inl v_t_tickets)), (a_t_winsHigh, .inl (J, 70, .inr (.inl v_t_winsHigh))), (a_t_winsLow, .inl (J, 70, .inr (.inl v_t_winsLow)))] H locs → ∀ ls, lv_has ls 8 [(0, .ref a_t), (1, .int x1), (2, .int x2), (3, .int x3), (4, .int x4), (5, .int x5), (6, .int x6)] → W p l e R s m args below meth c H locs 0 0 Q (F0 m 59 ls []) := by
    intro n
    induction n with
    | zero =>
      intro x1 x2 x3 x4 x5 x6 v_t_couldMany v_t_high v_t_low v_t_could yx2 yx3 yx4 yx6 h
      exact no_e h
    | succ n ih =>
      intro x1 x2 x3 x4 x5 x6 v_t_couldMany v_t_high v_t_low v_t_could yx2 yx3 yx4 yx6 h K H locs hW ls hl
      rw [L_Model_changed_59] at h
      refine lv_iload hx hb d_Model_changed_59 (lv_at hl 6 rfl) ?_
      refine lv_aload_n hx hb d_Model_changed_61 rfl (lv_at hl 0 rfl) ?_
      refine x_get hC hW 0 rfl fl_Model_164 rfl d_Model_changed_62 ?_
      refine lv_icmp_ge (tgt := 122) hx hb d_Model_changed_65 (by decide) (fun c_7 => ?_) (fun c_7 => ?_)
      · have h := it_e c_7 h
        cases h
        exact K _ _ hW ls (lv_sub hl [0, 1, 2, 3, 4, 5, 6] rfl)
      · have h := ie_e c_7 h
        refine lv_aload_n hx hb d_Model_changed_68 rfl (lv_at hl 0 rfl) ?_
        refine lv_aload_n hx hb d_Model_changed_69 rfl (lv_at hl 0 rfl) ?_
        refine x_get hC hW 0 rfl fl_Model_41 rfl d_Model_changed_70 ?_
        refine lv_iload hx hb d_Model_changed_73 (lv_at hl 6 rfl) ?_
        obtain ⟨hi_8, h⟩ := gd_e h
        refine x_iald hC hW 1 rfl hi_8 d_Model_changed_75 ?_
        refine lv_aload_n hx hb d_Model_changed_76 rfl (lv_at hl 0 rfl) ?_
        refine x_get hC hW 0 rfl fl_Model_135 rfl d_Model_changed_77 ?_
        refine lv_aload_n hx hb d_Model_changed_80 rfl (lv_at hl 0 rfl) ?_
        refine x_get hC hW 0 rfl fl_Model_139 rfl d_Model_changed_81 ?_
        obtain ⟨r_9, hc_9, h⟩ := bk1_e h
        refine x_ci (ws' := [(a_t, .inr (10, [.int v_t_numbers, .int v_t_onTicket, .int v_t_drawn, .int v_t_due, .ref a_t_tickets, .int v_t_ticketMany, .int v_t_fond, .ref a_t_prizes, .ref a_t_sightTicket, .ref a_t_sightRight, .ref a_t_sightHow, .int v_t_sights, .ref a_t_draws, .int v_t_drawMany, .ref a_t_sets, .int v_t_setMany, .ref a_t_winsLow, .ref a_t_winsHigh, .ref a_t_pad, .int v_t_padMany, .long v_t_low, .long v_t_high, .ref a_t_could, .int v_t_couldMany, .ref a_t_row, .ref a_t_best, .ref a_t_kept, .ref a_t_isKept, .int v_t_keptAt, .int v_t_isWriting])), (a_t_could, .inl (I, 70, .inl v_t_could)), (a_t_draws, .inl (I, 70, .inl v_t_draws)), (a_t_sets, .inl (I, 70, .inl v_t_sets)), (a_t_tickets, .inl (I, 6, .inl v_t_tickets)), (a_t_winsHigh, .inl (J, 70, .inr (.inl v_t_winsHigh))), (a_t_winsLow, .inl (J, 70, .inr (.inl v_t_winsLow)))]) (x_runV (As := [.int (v_t_could x6.toNatClampNeg), .long v_t_low, .long v_t_high]) (rest := []) hC hW (c_Model_wonWith l D I J Z a_t a_t_winsHigh a_t_winsLow a_t_tickets a_t_prizes a_t_sightTicket a_t_sightRight a_t_sightHow a_t_draws a_t_sets a_t_pad a_t_could a_t_row a_t_best a_t_kept a_t_isKept v_t_numbers v_t_onTicket v_t_drawn v_t_due v_t_ticketMany v_t_fond v_t_sights v_t_drawMany v_t_setMany v_t_padMany v_t_low v_t_high v_t_couldMany v_t_keptAt v_t_isWriting v_t_winsHigh v_t_winsLow (v_t_could x6.toNatClampNeg) v_t_low v_t_high (r_9) hc_9) cl_Model_182 q_code_Model_wonWith [0, 5, 6] rfl (by decide) 0 rfl rfl rfl rfl hl.1 (Nat.le_of_ble_eq_true rfl) (rm_ok hR1 hR2 (by decide) (by decide)) ⟨Nat.zero_le _, Nat.zero_le _⟩ d_Model_changed_84) hW hA [0, 5, 6] rfl rfl (ps := [some 0, none, none, none, none, some 1, some 2]) (by decide +kernel) ⟨rfl, rfl, rfl, rfl, rfl, rfl, rfl, trivial⟩ (fun H locs hW => ?_)
        refine lv_istore (lv' := [(7, .int r_9), (0, .ref a_t), (1, .int x1), (2, .int x2), (3, .int x3), (4, .int x4), (5, .int x5), (6, .int x6)]) hx hb d_Model_changed_87 hl (by decide) rfl (fun ls hl => ?_)
        refine lv_iload hx hb d_Model_changed_89 (lv_at hl 0 rfl) ?_
        refine lv_iload hx hb d_Model_changed_91 (lv_at hl 5 rfl) ?_
        refine lv_icmp_le (tgt := 116) hx hb d_Model_changed_93 (by decide) (fun c_10 => ?_) (fun c_10 => ?_)
        · have h := it_e c_10 h
          refine lv_iinc (v := (x6 + (1 : Int32))) (lv' := [(6, .int (x6 + (1 : Int32))), (7, .int r_9), (0, .ref a_t), (1, .int x1), (2, .int x2), (3, .int x3), (4, .int x4), (5, .int x5)]) hx hb d_Model_changed_116 hl (k := 7) rfl (iinc_e (by decide)) (by decide) rfl (fun ls hl => ?_)
          refine lv_goto (tgt := 59) hx hb d_Model_changed_119 (by decide) ?_
          exact ih x1 x2 x3 x4 x5 (x6 + (1 : Int32)) v_t_couldMany v_t_high v_t_low v_t_could _ _ _ _ h K _ _ hW ls (lv_sub hl [2, 3, 4, 5, 6, 7, 0] rfl)
        · have h := ie_e c_10 h
          refine lv_iload hx hb d_Model_changed_96 (lv_at hl 6 rfl) ?_
          refine lv_istore_n (lv' := [(2, .int x5), (7, .int r_9), (0, .ref a_t), (1, .int x1), (3, .int x3), (4, .int x4), (5, .int x5), (6, .int x6)]) hx hb d_Model_changed_98 rfl hl (by decide) rfl (fun ls hl => ?_)
          refine lv_aload_n hx hb d_Model_changed_99 rfl (lv_at hl 2 rfl) ?_
          refine x_get hC hW 0 rfl fl_Model_28 rfl d_Model_changed_100 ?_
          refine lv_aload_n hx hb d_Model_changed_103 rfl (lv_at hl 2 rfl) ?_
          refine x_get hC hW 0 rfl fl_Model_41 rfl d_Model_changed_104 ?_
          refine lv_iload hx hb d_Model_changed_107 (lv_at hl 7 rfl) ?_
          obtain ⟨hi_11, h⟩ := gd_e h
          refine x_iald hC hW 1 rfl hi_11 d_Model_changed_109 ?_
          obtain ⟨hi_12, h⟩ := gd_e h
          refine x_iald hC hW 3 rfl hi_12 d_Model_changed_110 ?_
          refine lv_istore_n (lv' := [(3, .int (v_t_sets (v_t_could x6.toNatClampNeg).toNatClampNeg)), (2, .int x5), (7, .int r_9), (0, .ref a_t), (1, .int x1), (4, .int x4), (5, .int x5), (6, .int x6)]) hx hb d_Model_changed_111 rfl hl (by decide) rfl (fun ls hl => ?_)
          refine lv_iload hx hb d_Model_changed_112 (lv_at hl 2 rfl) ?_
          refine lv_istore (lv' := [(4, .int r_9), (3, .int (v_t_sets (v_t_could x6.toNatClampNeg).toNatClampNeg)), (2, .int x5), (7, .int r_9), (0, .ref a_t), (1, .int x1), (5, .int x5), (6, .int x6)]) hx hb d_Model_changed_114 hl (by decide) rfl (fun ls hl => ?_)
          refine lv_iinc (v := (x6 + (1 : Int32))) (lv' := [(6, .int (x6 + (1 : Int32))), (4, .int r_9), (3, .int (v_t_sets (v_t_could x6.toNatClampNeg).toNatClampNeg)), (2, .int x5), (7, .int r_9), (0, .ref a_t), (1, .int x1), (5, .int x5)]) hx hb d_Model_changed_116 hl (k := 7) rfl (iinc_e (by decide)) (by decide) rfl (fun ls hl => ?_)
          refine lv_goto (tgt := 59) hx hb d_Model_changed_119 (by decide) ?_
          exact ih x1 x5 (v_t_sets (v_t_could x6.toNatClampNeg).toNatClampNeg) r_9 x5 (x6 + (1 : Int32)) v_t_couldMany v_t_high v_t_low v_t_could _ _ _ _ h K _ _ hW ls (lv_sub hl [5, 6, 3, 2, 1, 7, 0] rfl)
  have lp41 : ∀ (n : Nat) (x1 : Int32) (x2 : Int32) (x3 : Int32) (x4 : Int32) (x5 : Int32) (v_t_couldMany : Int32) (v_t_high : Int64) (v_t_low : Int64) (v_t_could : Nat → Int32) (yx2 : Int32) (yx3 : Int32) (yx4 : Int32) (yx5 : Int32) (y_t_high : Int64) (y_t_low : Int64), L_Model_changed_41 v_t_couldMany v_t_could v_t_drawMany v_t_due v_t_ticketMany v_t_draws v_t_sets v_t_tickets v_t_winsHigh v_t_winsLow n x2 x3 x4 x5 v_t_high v_t_low = some (yx2, yx3, yx4, yx5, y_t_high, y_t_low) →
    (∀ H locs, Wd D A s.heap [(a_t, .inr (10, [.int v_t_numbers, .int v_t_onTicket, .int v_t_drawn, .int v_t_due, .ref a_t_tickets, .int v_t_ticketMany, .int v_t_fond, .ref a_t_prizes, .ref a_t_sightTicket, .ref a_t_sightRight, .ref a_t_sightHow, .int v_t_sights, .ref a_t_draws, .int v_t_drawMany, .ref a_t_sets, .int v_t_setMany, .ref a_t_winsLow, .ref a_t_winsHigh, .ref a_t_pad, .int v_t_padMany, .long y_t_low, .long y_t_high, .ref a_t_could, .int v_t_couldMany, .ref a_t_row, .ref a_t_best, .ref a_t_kept, .ref a_t_isKept, .int v_t_keptAt, .int v_t_isWriting])), (a_t_could, .inl (I, 70, .inl v_t_could)), (a_t_draws, .inl (I, 70, .inl v_t_draws)), (a_t_sets, .inl (I, 70, .inl v_t_sets)), (a_t_tickets, .inl (I, 6, .inl v_t_tickets)), (a_t_winsHigh, .inl (J, 70, .inr (.inl v_t_winsHigh))), (a_t_winsLow, .inl (J, 70, .inr (.inl v_t_winsLow)))] H locs → ∀ ls, lv_has ls 8 [(0, .ref a_t), (1, .int x1), (2, .int yx2), (3, .int yx3), (4, .int yx4), (5, .int yx5)] → W p l e R s m args below meth c H locs 0 0 Q (F0 m 128 ls [])) →
    ∀ H locs, Wd D A s.heap [(a_t, .inr (10, [.int v_t_numbers, .int v_t_onTicket, .int v_t_drawn, .int v_t_due, .ref a_t_tickets, .int v_t_ticketMany, .int v_t_fond, .ref a_t_prizes, .ref a_t_sightTicket, .ref a_t_sightRight, .ref a_t_sightHow, .int v_t_sights, .ref a_t_draws, .int v_t_drawMany, .ref a_t_sets, .int v_t_setMany, .ref a_t_winsLow, .ref a_t_winsHigh, .ref a_t_pad, .int v_t_padMany, .long v_t_low, .long v_t_high, .ref a_t_could, .int v_t_couldMany, .ref a_t_row, .ref a_t_best, .ref a_t_kept, .ref a_t_isKept, .int v_t_keptAt, .int v_t_isWriting])), (a_t_could, .inl (I, 70, .inl v_t_could)), (a_t_draws, .inl (I, 70, .inl v_t_draws)), (a_t_sets, .inl (I, 70, .inl v_t_sets)), (a_t_tickets, .inl (I, 6, .inl v_t_tickets)), (a_t_winsHigh, .inl (J, 70, .inr (.inl v_t_winsHigh))), (a_t_winsLow, .inl (J, 70, .inr (.inl v_t_winsLow)))] H locs → ∀ ls, lv_has ls 8 [(0, .ref a_t), (1, .int x1), (2, .int x2), (3, .int x3), (4, .int x4), (5, .int x5)] → W p l e R s m args below meth c H locs 0 0 Q (F0 m 41 ls []) := by
    intro n
    induction n with
    | zero =>
      intro x1 x2 x3 x4 x5 v_t_couldMany v_t_high v_t_low v_t_could yx2 yx3 yx4 yx5 y_t_high y_t_low h
      exact no_e h
    | succ n ih =>
      intro x1 x2 x3 x4 x5 v_t_couldMany v_t_high v_t_low v_t_could yx2 yx3 yx4 yx5 y_t_high y_t_low h K H locs hW ls hl
      rw [L_Model_changed_41] at h
      refine lv_iload hx hb d_Model_changed_41 (lv_at hl 5 rfl) ?_
      refine lv_aload_n hx hb d_Model_changed_43 rfl (lv_at hl 0 rfl) ?_
      refine x_get hC hW 0 rfl fl_Model_74 rfl d_Model_changed_44 ?_
      refine lv_icmp_ge (tgt := 128) hx hb d_Model_changed_47 (by decide) (fun c_5 => ?_) (fun c_5 => ?_)
      · have h := it_e c_5 h
        cases h
        exact K _ _ hW ls (lv_sub hl [0, 1, 2, 3, 4, 5] rfl)
      · have h := ie_e c_5 h
        refine lv_aload_n hx hb d_Model_changed_50 rfl (lv_at hl 0 rfl) ?_
        refine lv_iload hx hb d_Model_changed_51 (lv_at hl 5 rfl) ?_
        obtain ⟨w_6_0, w_6_1, hc_6, h⟩ := bk2_e h
        refine x_cv (ws' := [(a_t, .inr (10, [.int v_t_numbers, .int v_t_onTicket, .int v_t_drawn, .int v_t_due, .ref a_t_tickets, .int v_t_ticketMany, .int v_t_fond, .ref a_t_prizes, .ref a_t_sightTicket, .ref a_t_sightRight, .ref a_t_sightHow, .int v_t_sights, .ref a_t_draws, .int v_t_drawMany, .ref a_t_sets, .int v_t_setMany, .ref a_t_winsLow, .ref a_t_winsHigh, .ref a_t_pad, .int v_t_padMany, .long w_6_1, .long w_6_0, .ref a_t_could, .int v_t_couldMany, .ref a_t_row, .ref a_t_best, .ref a_t_kept, .ref a_t_isKept, .int v_t_keptAt, .int v_t_isWriting])), (a_t_could, .inl (I, 70, .inl v_t_could)), (a_t_draws, .inl (I, 70, .inl v_t_draws)), (a_t_sets, .inl (I, 70, .inl v_t_sets)), (a_t_tickets, .inl (I, 6, .inl v_t_tickets)), (a_t_winsHigh, .inl (J, 70, .inr (.inl v_t_winsHigh))), (a_t_winsLow, .inl (J, 70, .inr (.inl v_t_winsLow)))]) (x_runV (As := [.int x5]) (rest := []) hC hW (c_Model_flagsBut l D I J Z a_t a_t_draws a_t_tickets a_t_prizes a_t_sightTicket a_t_sightRight a_t_sightHow a_t_sets a_t_winsLow a_t_winsHigh a_t_pad a_t_could a_t_row a_t_best a_t_kept a_t_isKept v_t_numbers v_t_onTicket v_t_drawn v_t_due v_t_ticketMany v_t_fond v_t_sights v_t_drawMany v_t_setMany v_t_padMany v_t_low v_t_high v_t_couldMany v_t_keptAt v_t_isWriting v_t_draws v_t_tickets x5 (w_6_0, w_6_1) hc_6) cl_Model_142 q_code_Model_flagsBut [0, 2, 4] rfl (by decide) 0 rfl rfl rfl rfl hl.1 (Nat.le_of_ble_eq_true rfl) (rm_ok hR1 hR2 (by decide) (by decide)) ⟨Nat.zero_le _, Nat.zero_le _⟩ d_Model_changed_53) hW hA [0, 2, 4] rfl rfl (ps := [some 0, none, some 1, none, some 2, none, none]) (by decide +kernel) ⟨rfl, rfl, rfl, rfl, rfl, rfl, rfl, trivial⟩ (fun H locs hW => ?_)
        refine lv_iconst (v := (0 : Int32)) hx hb d_Model_changed_56 (by decide) ?_
        refine lv_istore (lv' := [(6, .int (0 : Int32)), (0, .ref a_t), (1, .int x1), (2, .int x2), (3, .int x3), (4, .int x4), (5, .int x5)]) hx hb d_Model_changed_57 hl (by decide) rfl (fun ls hl => ?_)
        obtain ⟨yx2_13, yx3_13, yx4_13, yx6_13, hv_13, h⟩ := bk4_e h
        refine lp59 _ x1 x2 x3 x4 x5 (0 : Int32) v_t_couldMany w_6_0 w_6_1 v_t_could yx2_13 yx3_13 yx4_13 yx6_13 hv_13 (fun H locs hW ls hl => ?_) _ _ hW ls (lv_sub hl [1, 2, 3, 4, 5, 6, 0] rfl)
        refine lv_iinc (v := (x5 + (1 : Int32))) (lv' := [(5, .int (x5 + (1 : Int32))), (0, .ref a_t), (1, .int x1), (2, .int yx2_13), (3, .int yx3_13), (4, .int yx4_13), (6, .int yx6_13)]) hx hb d_Model_changed_122 hl (k := 5) rfl (iinc_e (by decide)) (by decide) rfl (fun ls hl => ?_)
        refine lv_goto (tgt := 41) hx hb d_Model_changed_125 (by decide) ?_
        exact ih x1 yx2_13 yx3_13 yx4_13 (x5 + (1 : Int32)) v_t_couldMany w_6_0 w_6_1 v_t_could _ _ _ _ _ _ h K _ _ hW ls (lv_sub hl [1, 2, 3, 4, 5, 0] rfl)
  refine lv_iload_n hx hb d_Model_changed_0 rfl (lv_at hl 1 rfl) ?_
  refine lv_i2l hx hb d_Model_changed_1 rfl ?_
  refine lv_lconst (v := (0 : Int64)) hx hb d_Model_changed_2 (by decide) ?_
  refine x_ldc2 hC q_con_Model_115 d_Model_changed_3 ?_
  obtain ⟨r_1, hc_1, h⟩ := bk1_e h
  refine x_ci (ws' := [(a_t, .inr (10, [.int v_t_numbers, .int v_t_onTicket, .int v_t_drawn, .int v_t_due, .ref a_t_tickets, .int v_t_ticketMany, .int v_t_fond, .ref a_t_prizes, .ref a_t_sightTicket, .ref a_t_sightRight, .ref a_t_sightHow, .int v_t_sights, .ref a_t_draws, .int v_t_drawMany, .ref a_t_sets, .int v_t_setMany, .ref a_t_winsLow, .ref a_t_winsHigh, .ref a_t_pad, .int v_t_padMany, .long v_t_low, .long v_t_high, .ref a_t_could, .int v_t_couldMany, .ref a_t_row, .ref a_t_best, .ref a_t_kept, .ref a_t_isKept, .int v_t_keptAt, .int v_t_isWriting])), (a_t_could, .inl (I, 70, .inl v_t_could)), (a_t_draws, .inl (I, 70, .inl v_t_draws)), (a_t_sets, .inl (I, 70, .inl v_t_sets)), (a_t_tickets, .inl (I, 6, .inl v_t_tickets)), (a_t_winsHigh, .inl (J, 70, .inr (.inl v_t_winsHigh))), (a_t_winsLow, .inl (J, 70, .inr (.inl v_t_winsLow)))]) (x_runS (rest := []) hC hW (c_Model_in l D I J Z p0.toInt64 (0 : Int64) (2 : Int64) (r_1) hc_1) cl_Model_111 q_code_Model_in [] rfl (by decide) rfl hl.1 (Nat.le_of_ble_eq_true rfl) (rm_ok hR1 hR2 (by decide) (by decide)) ⟨Nat.zero_le _, Nat.zero_le _⟩ d_Model_changed_6) hW hA [] rfl rfl (ps := [none, none, none, none, none, none, none]) (by decide +kernel) ⟨rfl, rfl, rfl, rfl, rfl, rfl, rfl, trivial⟩ (fun H locs hW => ?_)
  refine lv_if_ne (tgt := 15) hx hb d_Model_changed_9 (by decide) (fun c_2 => ?_) (fun c_2 => ?_)
  · have h := ie_e c_2 h
    refine lv_aload_n hx hb d_Model_changed_15 rfl (lv_at hl 0 rfl) ?_
    refine x_get hC hW 0 rfl fl_Model_74 rfl d_Model_changed_16 ?_
    refine lv_if_ne (tgt := 25) hx hb d_Model_changed_19 (by decide) (fun c_3 => ?_) (fun c_3 => ?_)
    · have h := ie_e c_3 h
      refine lv_aload_n hx hb d_Model_changed_25 rfl (lv_at hl 0 rfl) ?_
      obtain ⟨w_4_0, w_4_1, hc_4, h⟩ := bk2_e h
      refine x_cv (ws' := [(a_t, .inr (10, [.int v_t_numbers, .int v_t_onTicket, .int v_t_drawn, .int v_t_due, .ref a_t_tickets, .int v_t_ticketMany, .int v_t_fond, .ref a_t_prizes, .ref a_t_sightTicket, .ref a_t_sightRight, .ref a_t_sightHow, .int v_t_sights, .ref a_t_draws, .int v_t_drawMany, .ref a_t_sets, .int v_t_setMany, .ref a_t_winsLow, .ref a_t_winsHigh, .ref a_t_pad, .int v_t_padMany, .long v_t_low, .long v_t_high, .ref a_t_could, .int w_4_0, .ref a_t_row, .ref a_t_best, .ref a_t_kept, .ref a_t_isKept, .int v_t_keptAt, .int v_t_isWriting])), (a_t_could, .inl (I, 70, .inl w_4_1)), (a_t_draws, .inl (I, 70, .inl v_t_draws)), (a_t_sets, .inl (I, 70, .inl v_t_sets)), (a_t_tickets, .inl (I, 6, .inl v_t_tickets)), (a_t_winsHigh, .inl (J, 70, .inr (.inl v_t_winsHigh))), (a_t_winsLow, .inl (J, 70, .inr (.inl v_t_winsLow)))]) (x_runV (As := []) (rest := []) hC hW (c_Model_findCould l D I J Z a_t a_t_could a_t_sets a_t_tickets a_t_prizes a_t_sightTicket a_t_sightRight a_t_sightHow a_t_draws a_t_winsLow a_t_winsHigh a_t_pad a_t_row a_t_best a_t_kept a_t_isKept v_t_numbers v_t_onTicket v_t_drawn v_t_due v_t_ticketMany v_t_fond v_t_sights v_t_drawMany v_t_setMany v_t_padMany v_t_low v_t_high v_t_couldMany v_t_keptAt v_t_isWriting v_t_could v_t_sets (w_4_0, w_4_1) hc_4) cl_Model_176 q_code_Model_findCould [0, 1, 3] rfl (by decide) 0 rfl rfl rfl rfl hl.1 (Nat.le_of_ble_eq_true rfl) (rm_ok hR1 hR2 (by decide) (by decide)) ⟨Nat.zero_le _, Nat.zero_le _⟩ d_Model_changed_26) hW hA [0, 1, 3] rfl rfl (ps := [some 0, some 1, none, some 2, none, none, none]) (by decide +kernel) ⟨rfl, rfl, rfl, rfl, rfl, rfl, rfl, trivial⟩ (fun H locs hW => ?_)
      refine lv_bipush (v := (-6 : Int32)) hx hb d_Model_changed_29 (by decide) ?_
      refine lv_istore_n (lv' := [(2, .int (-6 : Int32)), (0, .ref a_t), (1, .int p0)]) hx hb d_Model_changed_31 rfl hl (by decide) rfl (fun ls hl => ?_)
      refine lv_bipush (v := (-6 : Int32)) hx hb d_Model_changed_32 (by decide) ?_
      refine lv_istore_n (lv' := [(3, .int (-6 : Int32)), (2, .int (-6 : Int32)), (0, .ref a_t), (1, .int p0)]) hx hb d_Model_changed_34 rfl hl (by decide) rfl (fun ls hl => ?_)
      refine lv_iconst (v := (-1 : Int32)) hx hb d_Model_changed_35 (by decide) ?_
      refine lv_istore (lv' := [(4, .int (-1 : Int32)), (3, .int (-6 : Int32)), (2, .int (-6 : Int32)), (0, .ref a_t), (1, .int p0)]) hx hb d_Model_changed_36 hl (by decide) rfl (fun ls hl => ?_)
      refine lv_iconst (v := (0 : Int32)) hx hb d_Model_changed_38 (by decide) ?_
      refine lv_istore (lv' := [(5, .int (0 : Int32)), (4, .int (-1 : Int32)), (3, .int (-6 : Int32)), (2, .int (-6 : Int32)), (0, .ref a_t), (1, .int p0)]) hx hb d_Model_changed_39 hl (by decide) rfl (fun ls hl => ?_)
      obtain ⟨yx2_14, yx3_14, yx4_14, yx5_14, y_t_high_14, y_t_low_14, hv_14, h⟩ := bk6_e h
      refine lp41 _ p0 (-6 : Int32) (-6 : Int32) (-1 : Int32) (0 : Int32) w_4_0 v_t_high v_t_low w_4_1 yx2_14 yx3_14 yx4_14 yx5_14 y_t_high_14 y_t_low_14 hv_14 (fun H locs hW ls hl => ?_) _ _ hW ls (lv_sub hl [4, 5, 3, 2, 1, 0] rfl)
      refine lv_iload_n hx hb d_Model_changed_128 rfl (lv_at hl 1 rfl) ?_
      refine lv_if_ne (tgt := 136) hx hb d_Model_changed_129 (by decide) (fun c_15 => ?_) (fun c_15 => ?_)
      · have h := ie_e c_15 h
        refine lv_iload_n hx hb d_Model_changed_136 rfl (lv_at hl 1 rfl) ?_
        refine lv_iconst (v := (1 : Int32)) hx hb d_Model_changed_137 (by decide) ?_
        refine lv_icmp_ne (tgt := 145) hx hb d_Model_changed_138 (by decide) (fun c_16 => ?_) (fun c_16 => ?_)
        · have h := ie_e c_16 h
          refine lv_iload hx hb d_Model_changed_145 (lv_at hl 4 rfl) ?_
          cases h
          rw [hQ]
          exact x_iret hC hr hW d_Model_changed_147
        · have h := it_e c_16 h
          refine lv_iload_n hx hb d_Model_changed_141 rfl (lv_at hl 3 rfl) ?_
          refine lv_goto (tgt := 147) hx hb d_Model_changed_142 (by decide) ?_
          cases h
          rw [hQ]
          exact x_iret hC hr hW d_Model_changed_147
      · have h := it_e c_15 h
        refine lv_iload_n hx hb d_Model_changed_132 rfl (lv_at hl 2 rfl) ?_
        refine lv_goto (tgt := 147) hx hb d_Model_changed_133 (by decide) ?_
        cases h
        rw [hQ]
        exact x_iret hC hr hW d_Model_changed_147
    · have h := it_e c_3 h
      refine lv_bipush (v := (-3 : Int32)) hx hb d_Model_changed_22 (by decide) ?_
      cases h
      rw [hQ]
      exact x_iret hC hr hW d_Model_changed_24
  · have h := it_e c_2 h
    refine lv_bipush (v := (-2 : Int32)) hx hb d_Model_changed_12 (by decide) ?_
    cases h
    rw [hQ]
    exact x_iret hC hr hW d_Model_changed_14

def f_Model_seen (v_t_sights : Int32) (v_t_ticketMany : Int32) (v_t_sightHow : Nat → Int32) (v_t_sightRight : Nat → Int32) (v_t_sightTicket : Nat → Int32) (p0 : Int32) (p1 : Int32) (p2 : Int32) : Option (Int32 × Int32 × (Nat → Int32) × (Nat → Int32) × (Nat → Int32)) :=
  bk1 (f_Model_isTicket v_t_ticketMany p0) fun r_1 => if r_1 = (0 : Int32) then some ((-1 : Int32), v_t_sights, v_t_sightHow, v_t_sightRight, v_t_sightTicket) else bk1 (f_Model_in p1.toInt64 (0 : Int64) (8 : Int64)) fun r_3 => if r_3 = (0 : Int32) then some ((-2 : Int32), v_t_sights, v_t_sightHow, v_t_sightRight, v_t_sightTicket) else bk1 (f_Model_in p2.toInt64 (0 : Int64) (2 : Int64)) fun r_5 => if r_5 = (0 : Int32) then some ((-2 : Int32), v_t_sights, v_t_sightHow, v_t_sightRight, v_t_sightTicket) else if v_t_sights = (6 : Int32) then some ((-4 : Int32), v_t_sights, v_t_sightHow, v_t_sightRight, v_t_sightTicket) else gd v_t_sights 6 (gd v_t_sights 6 (gd v_t_sights 6 (some ((v_t_sights + (1 : Int32)), (v_t_sights + (1 : Int32)), (upd v_t_sightHow v_t_sights.toNatClampNeg p2), (upd v_t_sightRight v_t_sights.toNatClampNeg p1), (upd v_t_sightTicket v_t_sights.toNatClampNeg p0)))))
set_option maxHeartbeats 4000000 in
set_option maxRecDepth 100000 in
theorem c_Model_seen (l : Launch) (D : va_G) (I J Z : ClassId) (a_t : Nat) (a_t_sightHow : Nat) (a_t_sightRight : Nat) (a_t_sightTicket : Nat) (a_t_tickets : Nat) (a_t_prizes : Nat) (a_t_draws : Nat) (a_t_sets : Nat) (a_t_winsLow : Nat) (a_t_winsHigh : Nat) (a_t_pad : Nat) (a_t_could : Nat) (a_t_row : Nat) (a_t_best : Nat) (a_t_kept : Nat) (a_t_isKept : Nat)  (v_t_numbers : Int32) (v_t_onTicket : Int32) (v_t_drawn : Int32) (v_t_due : Int32) (v_t_ticketMany : Int32) (v_t_fond : Int32) (v_t_sights : Int32) (v_t_drawMany : Int32) (v_t_setMany : Int32) (v_t_padMany : Int32) (v_t_low : Int64) (v_t_high : Int64) (v_t_couldMany : Int32) (v_t_keptAt : Int32) (v_t_isWriting : Int32) (v_t_sightHow : Nat → Int32) (v_t_sightRight : Nat → Int32) (v_t_sightTicket : Nat → Int32) (p0 : Int32) (p1 : Int32) (p2 : Int32) (out : (Int32 × Int32 × (Nat → Int32) × (Nat → Int32) × (Nat → Int32))) (h : f_Model_seen v_t_sights v_t_ticketMany v_t_sightHow v_t_sightRight v_t_sightTicket p0 p1 p2 = some out) : CT l D I J Z y_Model_seen b_Model_seen 4 (some .int) 3 [.ref a_t, .int p0, .int p1, .int p2] [(a_t, .inr (10, [.int v_t_numbers, .int v_t_onTicket, .int v_t_drawn, .int v_t_due, .ref a_t_tickets, .int v_t_ticketMany, .int v_t_fond, .ref a_t_prizes, .ref a_t_sightTicket, .ref a_t_sightRight, .ref a_t_sightHow, .int v_t_sights, .ref a_t_draws, .int v_t_drawMany, .ref a_t_sets, .int v_t_setMany, .ref a_t_winsLow, .ref a_t_winsHigh, .ref a_t_pad, .int v_t_padMany, .long v_t_low, .long v_t_high, .ref a_t_could, .int v_t_couldMany, .ref a_t_row, .ref a_t_best, .ref a_t_kept, .ref a_t_isKept, .int v_t_keptAt, .int v_t_isWriting])), (a_t_sightHow, .inl (I, 6, .inl v_t_sightHow)), (a_t_sightRight, .inl (I, 6, .inl v_t_sightRight)), (a_t_sightTicket, .inl (I, 6, .inl v_t_sightTicket))] (PoI out.1 D [(a_t, .inr (10, [.int v_t_numbers, .int v_t_onTicket, .int v_t_drawn, .int v_t_due, .ref a_t_tickets, .int v_t_ticketMany, .int v_t_fond, .ref a_t_prizes, .ref a_t_sightTicket, .ref a_t_sightRight, .ref a_t_sightHow, .int out.2.1, .ref a_t_draws, .int v_t_drawMany, .ref a_t_sets, .int v_t_setMany, .ref a_t_winsLow, .ref a_t_winsHigh, .ref a_t_pad, .int v_t_padMany, .long v_t_low, .long v_t_high, .ref a_t_could, .int v_t_couldMany, .ref a_t_row, .ref a_t_best, .ref a_t_kept, .ref a_t_isKept, .int v_t_keptAt, .int v_t_isWriting])), (a_t_sightHow, .inl (I, 6, .inl out.2.2.1)), (a_t_sightRight, .inl (I, 6, .inl out.2.2.2.1)), (a_t_sightTicket, .inl (I, 6, .inl out.2.2.2.2))]) := by
  unfold f_Model_seen at h
  refine CT_of R_Model (by decide +kernel) rfl (Nat.le_of_ble_eq_true rfl) ?_
  intro p e R s m args below meth c A ls Q hR1 hR2 hQ hC hr hW hA hl
  have hx := hC.1
  have hb := hC.2.1
  have hl : lv_has ls 4 [(0, .ref a_t), (1, .int p0), (2, .int p1), (3, .int p2)] := hl
  refine lv_aload_n hx hb d_Model_seen_0 rfl (lv_at hl 0 rfl) ?_
  refine lv_iload_n hx hb d_Model_seen_1 rfl (lv_at hl 1 rfl) ?_
  obtain ⟨r_1, hc_1, h⟩ := bk1_e h
  refine x_ci (ws' := [(a_t, .inr (10, [.int v_t_numbers, .int v_t_onTicket, .int v_t_drawn, .int v_t_due, .ref a_t_tickets, .int v_t_ticketMany, .int v_t_fond, .ref a_t_prizes, .ref a_t_sightTicket, .ref a_t_sightRight, .ref a_t_sightHow, .int v_t_sights, .ref a_t_draws, .int v_t_drawMany, .ref a_t_sets, .int v_t_setMany, .ref a_t_winsLow, .ref a_t_winsHigh, .ref a_t_pad, .int v_t_padMany, .long v_t_low, .long v_t_high, .ref a_t_could, .int v_t_couldMany, .ref a_t_row, .ref a_t_best, .ref a_t_kept, .ref a_t_isKept, .int v_t_keptAt, .int v_t_isWriting])), (a_t_sightHow, .inl (I, 6, .inl v_t_sightHow)), (a_t_sightRight, .inl (I, 6, .inl v_t_sightRight)), (a_t_sightTicket, .inl (I, 6, .inl v_t_sightTicket))]) (x_runV (As := [.int p0]) (rest := []) hC hW (c_Model_isTicket l D I J Z a_t a_t_tickets a_t_prizes a_t_sightTicket a_t_sightRight a_t_sightHow a_t_draws a_t_sets a_t_winsLow a_t_winsHigh a_t_pad a_t_could a_t_row a_t_best a_t_kept a_t_isKept v_t_numbers v_t_onTicket v_t_drawn v_t_due v_t_ticketMany v_t_fond v_t_sights v_t_drawMany v_t_setMany v_t_padMany v_t_low v_t_high v_t_couldMany v_t_keptAt v_t_isWriting p0 (r_1) hc_1) cl_Model_128 q_code_Model_isTicket [0] rfl (by decide) 0 rfl rfl rfl rfl hl.1 (Nat.le_of_ble_eq_true rfl) (rm_ok hR1 hR2 (by decide) (by decide)) ⟨Nat.zero_le _, Nat.zero_le _⟩ d_Model_seen_2) hW hA [0] rfl rfl (ps := [some 0, none, none, none]) (by decide +kernel) ⟨rfl, rfl, rfl, rfl, trivial⟩ (fun H locs hW => ?_)
  refine lv_if_ne (tgt := 10) hx hb d_Model_seen_5 (by decide) (fun c_2 => ?_) (fun c_2 => ?_)
  · have h := ie_e c_2 h
    refine lv_iload_n hx hb d_Model_seen_10 rfl (lv_at hl 2 rfl) ?_
    refine lv_i2l hx hb d_Model_seen_11 rfl ?_
    refine lv_lconst (v := (0 : Int64)) hx hb d_Model_seen_12 (by decide) ?_
    refine x_ldc2 hC q_con_Model_109 d_Model_seen_13 ?_
    obtain ⟨r_3, hc_3, h⟩ := bk1_e h
    refine x_ci (ws' := [(a_t, .inr (10, [.int v_t_numbers, .int v_t_onTicket, .int v_t_drawn, .int v_t_due, .ref a_t_tickets, .int v_t_ticketMany, .int v_t_fond, .ref a_t_prizes, .ref a_t_sightTicket, .ref a_t_sightRight, .ref a_t_sightHow, .int v_t_sights, .ref a_t_draws, .int v_t_drawMany, .ref a_t_sets, .int v_t_setMany, .ref a_t_winsLow, .ref a_t_winsHigh, .ref a_t_pad, .int v_t_padMany, .long v_t_low, .long v_t_high, .ref a_t_could, .int v_t_couldMany, .ref a_t_row, .ref a_t_best, .ref a_t_kept, .ref a_t_isKept, .int v_t_keptAt, .int v_t_isWriting])), (a_t_sightHow, .inl (I, 6, .inl v_t_sightHow)), (a_t_sightRight, .inl (I, 6, .inl v_t_sightRight)), (a_t_sightTicket, .inl (I, 6, .inl v_t_sightTicket))]) (x_runS (rest := []) hC hW (c_Model_in l D I J Z p1.toInt64 (0 : Int64) (8 : Int64) (r_3) hc_3) cl_Model_111 q_code_Model_in [] rfl (by decide) rfl hl.1 (Nat.le_of_ble_eq_true rfl) (rm_ok hR1 hR2 (by decide) (by decide)) ⟨Nat.zero_le _, Nat.zero_le _⟩ d_Model_seen_16) hW hA [] rfl rfl (ps := [none, none, none, none]) (by decide +kernel) ⟨rfl, rfl, rfl, rfl, trivial⟩ (fun H locs hW => ?_)
    refine lv_if_eq (tgt := 34) hx hb d_Model_seen_19 (by decide) (fun c_4 => ?_) (fun c_4 => ?_)
    · have h := it_e c_4 h
      refine lv_bipush (v := (-2 : Int32)) hx hb d_Model_seen_34 (by decide) ?_
      cases h
      rw [hQ]
      exact x_iret hC hr hW d_Model_seen_36
    · have h := ie_e c_4 h
      refine lv_iload_n hx hb d_Model_seen_22 rfl (lv_at hl 3 rfl) ?_
      refine lv_i2l hx hb d_Model_seen_23 rfl ?_
      refine lv_lconst (v := (0 : Int64)) hx hb d_Model_seen_24 (by decide) ?_
      refine x_ldc2 hC q_con_Model_115 d_Model_seen_25 ?_
      obtain ⟨r_5, hc_5, h⟩ := bk1_e h
      refine x_ci (ws' := [(a_t, .inr (10, [.int v_t_numbers, .int v_t_onTicket, .int v_t_drawn, .int v_t_due, .ref a_t_tickets, .int v_t_ticketMany, .int v_t_fond, .ref a_t_prizes, .ref a_t_sightTicket, .ref a_t_sightRight, .ref a_t_sightHow, .int v_t_sights, .ref a_t_draws, .int v_t_drawMany, .ref a_t_sets, .int v_t_setMany, .ref a_t_winsLow, .ref a_t_winsHigh, .ref a_t_pad, .int v_t_padMany, .long v_t_low, .long v_t_high, .ref a_t_could, .int v_t_couldMany, .ref a_t_row, .ref a_t_best, .ref a_t_kept, .ref a_t_isKept, .int v_t_keptAt, .int v_t_isWriting])), (a_t_sightHow, .inl (I, 6, .inl v_t_sightHow)), (a_t_sightRight, .inl (I, 6, .inl v_t_sightRight)), (a_t_sightTicket, .inl (I, 6, .inl v_t_sightTicket))]) (x_runS (rest := []) hC hW (c_Model_in l D I J Z p2.toInt64 (0 : Int64) (2 : Int64) (r_5) hc_5) cl_Model_111 q_code_Model_in [] rfl (by decide) rfl hl.1 (Nat.le_of_ble_eq_true rfl) (rm_ok hR1 hR2 (by decide) (by decide)) ⟨Nat.zero_le _, Nat.zero_le _⟩ d_Model_seen_28) hW hA [] rfl rfl (ps := [none, none, none, none]) (by decide +kernel) ⟨rfl, rfl, rfl, rfl, trivial⟩ (fun H locs hW => ?_)
      refine lv_if_ne (tgt := 37) hx hb d_Model_seen_31 (by decide) (fun c_6 => ?_) (fun c_6 => ?_)
      · have h := ie_e c_6 h
        refine lv_aload_n hx hb d_Model_seen_37 rfl (lv_at hl 0 rfl) ?_
        refine x_get hC hW 0 rfl fl_Model_80 rfl d_Model_seen_38 ?_
        refine lv_bipush (v := (6 : Int32)) hx hb d_Model_seen_41 (by decide) ?_
        refine lv_icmp_ne (tgt := 49) hx hb d_Model_seen_43 (by decide) (fun c_7 => ?_) (fun c_7 => ?_)
        · have h := ie_e c_7 h
          refine lv_aload_n hx hb d_Model_seen_49 rfl (lv_at hl 0 rfl) ?_
          refine x_get hC hW 0 rfl fl_Model_16 rfl d_Model_seen_50 ?_
          refine lv_aload_n hx hb d_Model_seen_53 rfl (lv_at hl 0 rfl) ?_
          refine x_get hC hW 0 rfl fl_Model_80 rfl d_Model_seen_54 ?_
          refine lv_iload_n hx hb d_Model_seen_57 rfl (lv_at hl 1 rfl) ?_
          obtain ⟨hi_8, h⟩ := gd_e h
          refine x_iast (ws' := [(a_t, .inr (10, [.int v_t_numbers, .int v_t_onTicket, .int v_t_drawn, .int v_t_due, .ref a_t_tickets, .int v_t_ticketMany, .int v_t_fond, .ref a_t_prizes, .ref a_t_sightTicket, .ref a_t_sightRight, .ref a_t_sightHow, .int v_t_sights, .ref a_t_draws, .int v_t_drawMany, .ref a_t_sets, .int v_t_setMany, .ref a_t_winsLow, .ref a_t_winsHigh, .ref a_t_pad, .int v_t_padMany, .long v_t_low, .long v_t_high, .ref a_t_could, .int v_t_couldMany, .ref a_t_row, .ref a_t_best, .ref a_t_kept, .ref a_t_isKept, .int v_t_keptAt, .int v_t_isWriting])), (a_t_sightHow, .inl (I, 6, .inl v_t_sightHow)), (a_t_sightRight, .inl (I, 6, .inl v_t_sightRight)), (a_t_sightTicket, .inl (I, 6, .inl (upd v_t_sightTicket v_t_sights.toNatClampNeg p0)))]) hC hW 3 rfl hi_8 d_Model_seen_58 rfl (fun H locs hW => ?_)
          refine lv_aload_n hx hb d_Model_seen_59 rfl (lv_at hl 0 rfl) ?_
          refine x_get hC hW 0 rfl fl_Model_19 rfl d_Model_seen_60 ?_
          refine lv_aload_n hx hb d_Model_seen_63 rfl (lv_at hl 0 rfl) ?_
          refine x_get hC hW 0 rfl fl_Model_80 rfl d_Model_seen_64 ?_
          refine lv_iload_n hx hb d_Model_seen_67 rfl (lv_at hl 2 rfl) ?_
          obtain ⟨hi_9, h⟩ := gd_e h
          refine x_iast (ws' := [(a_t, .inr (10, [.int v_t_numbers, .int v_t_onTicket, .int v_t_drawn, .int v_t_due, .ref a_t_tickets, .int v_t_ticketMany, .int v_t_fond, .ref a_t_prizes, .ref a_t_sightTicket, .ref a_t_sightRight, .ref a_t_sightHow, .int v_t_sights, .ref a_t_draws, .int v_t_drawMany, .ref a_t_sets, .int v_t_setMany, .ref a_t_winsLow, .ref a_t_winsHigh, .ref a_t_pad, .int v_t_padMany, .long v_t_low, .long v_t_high, .ref a_t_could, .int v_t_couldMany, .ref a_t_row, .ref a_t_best, .ref a_t_kept, .ref a_t_isKept, .int v_t_keptAt, .int v_t_isWriting])), (a_t_sightHow, .inl (I, 6, .inl v_t_sightHow)), (a_t_sightRight, .inl (I, 6, .inl (upd v_t_sightRight v_t_sights.toNatClampNeg p1))), (a_t_sightTicket, .inl (I, 6, .inl (upd v_t_sightTicket v_t_sights.toNatClampNeg p0)))]) hC hW 2 rfl hi_9 d_Model_seen_68 rfl (fun H locs hW => ?_)
          refine lv_aload_n hx hb d_Model_seen_69 rfl (lv_at hl 0 rfl) ?_
          refine x_get hC hW 0 rfl fl_Model_22 rfl d_Model_seen_70 ?_
          refine lv_aload_n hx hb d_Model_seen_73 rfl (lv_at hl 0 rfl) ?_
          refine x_get hC hW 0 rfl fl_Model_80 rfl d_Model_seen_74 ?_
          refine lv_iload_n hx hb d_Model_seen_77 rfl (lv_at hl 3 rfl) ?_
          obtain ⟨hi_10, h⟩ := gd_e h
          refine x_iast (ws' := [(a_t, .inr (10, [.int v_t_numbers, .int v_t_onTicket, .int v_t_drawn, .int v_t_due, .ref a_t_tickets, .int v_t_ticketMany, .int v_t_fond, .ref a_t_prizes, .ref a_t_sightTicket, .ref a_t_sightRight, .ref a_t_sightHow, .int v_t_sights, .ref a_t_draws, .int v_t_drawMany, .ref a_t_sets, .int v_t_setMany, .ref a_t_winsLow, .ref a_t_winsHigh, .ref a_t_pad, .int v_t_padMany, .long v_t_low, .long v_t_high, .ref a_t_could, .int v_t_couldMany, .ref a_t_row, .ref a_t_best, .ref a_t_kept, .ref a_t_isKept, .int v_t_keptAt, .int v_t_isWriting])), (a_t_sightHow, .inl (I, 6, .inl (upd v_t_sightHow v_t_sights.toNatClampNeg p2))), (a_t_sightRight, .inl (I, 6, .inl (upd v_t_sightRight v_t_sights.toNatClampNeg p1))), (a_t_sightTicket, .inl (I, 6, .inl (upd v_t_sightTicket v_t_sights.toNatClampNeg p0)))]) hC hW 1 rfl hi_10 d_Model_seen_78 rfl (fun H locs hW => ?_)
          refine lv_aload_n hx hb d_Model_seen_79 rfl (lv_at hl 0 rfl) ?_
          refine lv_dup hx hb d_Model_seen_80 rfl ?_
          refine x_get hC hW 0 rfl fl_Model_80 rfl d_Model_seen_81 ?_
          refine lv_iconst (v := (1 : Int32)) hx hb d_Model_seen_84 (by decide) ?_
          refine lv_iadd hx hb d_Model_seen_85 ?_
          refine x_put (ws' := [(a_t, .inr (10, [.int v_t_numbers, .int v_t_onTicket, .int v_t_drawn, .int v_t_due, .ref a_t_tickets, .int v_t_ticketMany, .int v_t_fond, .ref a_t_prizes, .ref a_t_sightTicket, .ref a_t_sightRight, .ref a_t_sightHow, .int (v_t_sights + (1 : Int32)), .ref a_t_draws, .int v_t_drawMany, .ref a_t_sets, .int v_t_setMany, .ref a_t_winsLow, .ref a_t_winsHigh, .ref a_t_pad, .int v_t_padMany, .long v_t_low, .long v_t_high, .ref a_t_could, .int v_t_couldMany, .ref a_t_row, .ref a_t_best, .ref a_t_kept, .ref a_t_isKept, .int v_t_keptAt, .int v_t_isWriting])), (a_t_sightHow, .inl (I, 6, .inl (upd v_t_sightHow v_t_sights.toNatClampNeg p2))), (a_t_sightRight, .inl (I, 6, .inl (upd v_t_sightRight v_t_sights.toNatClampNeg p1))), (a_t_sightTicket, .inl (I, 6, .inl (upd v_t_sightTicket v_t_sights.toNatClampNeg p0)))]) hC hW 0 rfl fp_Model_80 rfl rfl (Nat.le_of_ble_eq_true rfl) d_Model_seen_86 rfl (fun H locs hW => ?_)
          refine lv_aload_n hx hb d_Model_seen_89 rfl (lv_at hl 0 rfl) ?_
          refine x_get hC hW 0 rfl fl_Model_80 rfl d_Model_seen_90 ?_
          cases h
          rw [hQ]
          exact x_iret hC hr hW d_Model_seen_93
        · have h := it_e c_7 h
          refine lv_bipush (v := (-4 : Int32)) hx hb d_Model_seen_46 (by decide) ?_
          cases h
          rw [hQ]
          exact x_iret hC hr hW d_Model_seen_48
      · have h := it_e c_6 h
        refine lv_bipush (v := (-2 : Int32)) hx hb d_Model_seen_34 (by decide) ?_
        cases h
        rw [hQ]
        exact x_iret hC hr hW d_Model_seen_36
  · have h := it_e c_2 h
    refine lv_iconst (v := (-1 : Int32)) hx hb d_Model_seen_8 (by decide) ?_
    cases h
    rw [hQ]
    exact x_iret hC hr hW d_Model_seen_9

def f_Model_forget (v_t_sights : Int32) : Option (Int32 × Int32) :=
  some (v_t_sights, (0 : Int32))
set_option maxHeartbeats 4000000 in
set_option maxRecDepth 100000 in
theorem c_Model_forget (l : Launch) (D : va_G) (I J Z : ClassId) (a_t : Nat) (a_t_tickets : Nat) (a_t_prizes : Nat) (a_t_sightTicket : Nat) (a_t_sightRight : Nat) (a_t_sightHow : Nat) (a_t_draws : Nat) (a_t_sets : Nat) (a_t_winsLow : Nat) (a_t_winsHigh : Nat) (a_t_pad : Nat) (a_t_could : Nat) (a_t_row : Nat) (a_t_best : Nat) (a_t_kept : Nat) (a_t_isKept : Nat)  (v_t_numbers : Int32) (v_t_onTicket : Int32) (v_t_drawn : Int32) (v_t_due : Int32) (v_t_ticketMany : Int32) (v_t_fond : Int32) (v_t_sights : Int32) (v_t_drawMany : Int32) (v_t_setMany : Int32) (v_t_padMany : Int32) (v_t_low : Int64) (v_t_high : Int64) (v_t_couldMany : Int32) (v_t_keptAt : Int32) (v_t_isWriting : Int32)  (out : (Int32 × Int32)) (h : f_Model_forget v_t_sights = some out) : CT l D I J Z y_Model_forget b_Model_forget 2 (some .int) 1 [.ref a_t] [(a_t, .inr (10, [.int v_t_numbers, .int v_t_onTicket, .int v_t_drawn, .int v_t_due, .ref a_t_tickets, .int v_t_ticketMany, .int v_t_fond, .ref a_t_prizes, .ref a_t_sightTicket, .ref a_t_sightRight, .ref a_t_sightHow, .int v_t_sights, .ref a_t_draws, .int v_t_drawMany, .ref a_t_sets, .int v_t_setMany, .ref a_t_winsLow, .ref a_t_winsHigh, .ref a_t_pad, .int v_t_padMany, .long v_t_low, .long v_t_high, .ref a_t_could, .int v_t_couldMany, .ref a_t_row, .ref a_t_best, .ref a_t_kept, .ref a_t_isKept, .int v_t_keptAt, .int v_t_isWriting]))] (PoI out.1 D [(a_t, .inr (10, [.int v_t_numbers, .int v_t_onTicket, .int v_t_drawn, .int v_t_due, .ref a_t_tickets, .int v_t_ticketMany, .int v_t_fond, .ref a_t_prizes, .ref a_t_sightTicket, .ref a_t_sightRight, .ref a_t_sightHow, .int out.2, .ref a_t_draws, .int v_t_drawMany, .ref a_t_sets, .int v_t_setMany, .ref a_t_winsLow, .ref a_t_winsHigh, .ref a_t_pad, .int v_t_padMany, .long v_t_low, .long v_t_high, .ref a_t_could, .int v_t_couldMany, .ref a_t_row, .ref a_t_best, .ref a_t_kept, .ref a_t_isKept, .int v_t_keptAt, .int v_t_isWriting]))]) := by
  unfold f_Model_forget at h
  refine CT_of R_Model (by decide +kernel) rfl (Nat.le_of_ble_eq_true rfl) ?_
  intro p e R s m args below meth c A ls Q hR1 hR2 hQ hC hr hW hA hl
  have hx := hC.1
  have hb := hC.2.1
  have hl : lv_has ls 2 [(0, .ref a_t)] := hl
  refine lv_aload_n hx hb d_Model_forget_0 rfl (lv_at hl 0 rfl) ?_
  refine x_get hC hW 0 rfl fl_Model_80 rfl d_Model_forget_1 ?_
  refine lv_istore_n (lv' := [(1, .int v_t_sights), (0, .ref a_t)]) hx hb d_Model_forget_4 rfl hl (by decide) rfl (fun ls hl => ?_)
  refine lv_aload_n hx hb d_Model_forget_5 rfl (lv_at hl 1 rfl) ?_
  refine lv_iconst (v := (0 : Int32)) hx hb d_Model_forget_6 (by decide) ?_
  refine x_put (ws' := [(a_t, .inr (10, [.int v_t_numbers, .int v_t_onTicket, .int v_t_drawn, .int v_t_due, .ref a_t_tickets, .int v_t_ticketMany, .int v_t_fond, .ref a_t_prizes, .ref a_t_sightTicket, .ref a_t_sightRight, .ref a_t_sightHow, .int (0 : Int32), .ref a_t_draws, .int v_t_drawMany, .ref a_t_sets, .int v_t_setMany, .ref a_t_winsLow, .ref a_t_winsHigh, .ref a_t_pad, .int v_t_padMany, .long v_t_low, .long v_t_high, .ref a_t_could, .int v_t_couldMany, .ref a_t_row, .ref a_t_best, .ref a_t_kept, .ref a_t_isKept, .int v_t_keptAt, .int v_t_isWriting]))]) hC hW 0 rfl fp_Model_80 rfl rfl (Nat.le_of_ble_eq_true rfl) d_Model_forget_7 rfl (fun H locs hW => ?_)
  refine lv_iload_n hx hb d_Model_forget_10 rfl (lv_at hl 0 rfl) ?_
  cases h
  rw [hQ]
  exact x_iret hC hr hW d_Model_forget_11

def L_Model_holds_4 (x1 : Int32) (v_t_sights : Int32) (v_t_sightHow : Nat → Int32) (v_t_sightRight : Nat → Int32) (v_t_sightTicket : Nat → Int32) (v_t_tickets : Nat → Int32) : Nat → Int32 → Int32 → Option (Int32 × Int32)
  | 0, _, _ => none
  | n + 1, x2, x3 => if v_t_sights ≤ x3 then some (x2, x3) else gd x3 6 (gd (v_t_sightTicket x3.toNatClampNeg) 6 (bk1 (f_Model_ones ((v_t_tickets (v_t_sightTicket x3.toNatClampNeg).toNatClampNeg) &&& x1).toInt64) fun r_4 => gd x3 6 (if x2 = (0 : Int32) then L_Model_holds_4 x1 v_t_sights v_t_sightHow v_t_sightRight v_t_sightTicket v_t_tickets n (0 : Int32) (x3 + (1 : Int32)) else gd x3 6 (if (v_t_sightHow x3.toNatClampNeg) = (0 : Int32) then if r_4 = (v_t_sightRight x3.toNatClampNeg) then L_Model_holds_4 x1 v_t_sights v_t_sightHow v_t_sightRight v_t_sightTicket v_t_tickets n (1 : Int32) (x3 + (1 : Int32)) else L_Model_holds_4 x1 v_t_sights v_t_sightHow v_t_sightRight v_t_sightTicket v_t_tickets n (0 : Int32) (x3 + (1 : Int32)) else gd x3 6 (if (v_t_sightHow x3.toNatClampNeg) = (1 : Int32) then if r_4 < (v_t_sightRight x3.toNatClampNeg) then L_Model_holds_4 x1 v_t_sights v_t_sightHow v_t_sightRight v_t_sightTicket v_t_tickets n (0 : Int32) (x3 + (1 : Int32)) else L_Model_holds_4 x1 v_t_sights v_t_sightHow v_t_sightRight v_t_sightTicket v_t_tickets n (1 : Int32) (x3 + (1 : Int32)) else if (v_t_sightRight x3.toNatClampNeg) ≤ r_4 then L_Model_holds_4 x1 v_t_sights v_t_sightHow v_t_sightRight v_t_sightTicket v_t_tickets n (0 : Int32) (x3 + (1 : Int32)) else L_Model_holds_4 x1 v_t_sights v_t_sightHow v_t_sightRight v_t_sightTicket v_t_tickets n (1 : Int32) (x3 + (1 : Int32)))))))
def f_Model_holds (v_t_sights : Int32) (v_t_sightHow : Nat → Int32) (v_t_sightRight : Nat → Int32) (v_t_sightTicket : Nat → Int32) (v_t_tickets : Nat → Int32) (p0 : Int32) : Option (Int32) :=
  bk2 (L_Model_holds_4 p0 v_t_sights v_t_sightHow v_t_sightRight v_t_sightTicket v_t_tickets 300 (1 : Int32) (0 : Int32)) fun yx2_14 yx3_14 => bz yx2_14 (some (yx2_14))
set_option maxHeartbeats 4000000 in
set_option maxRecDepth 100000 in
theorem c_Model_holds (l : Launch) (D : va_G) (I J Z : ClassId) (a_t : Nat) (a_t_sightHow : Nat) (a_t_sightRight : Nat) (a_t_sightTicket : Nat) (a_t_tickets : Nat) (a_t_prizes : Nat) (a_t_draws : Nat) (a_t_sets : Nat) (a_t_winsLow : Nat) (a_t_winsHigh : Nat) (a_t_pad : Nat) (a_t_could : Nat) (a_t_row : Nat) (a_t_best : Nat) (a_t_kept : Nat) (a_t_isKept : Nat)  (v_t_numbers : Int32) (v_t_onTicket : Int32) (v_t_drawn : Int32) (v_t_due : Int32) (v_t_ticketMany : Int32) (v_t_fond : Int32) (v_t_sights : Int32) (v_t_drawMany : Int32) (v_t_setMany : Int32) (v_t_padMany : Int32) (v_t_low : Int64) (v_t_high : Int64) (v_t_couldMany : Int32) (v_t_keptAt : Int32) (v_t_isWriting : Int32) (v_t_sightHow : Nat → Int32) (v_t_sightRight : Nat → Int32) (v_t_sightTicket : Nat → Int32) (v_t_tickets : Nat → Int32) (p0 : Int32) (out : (Int32)) (h : f_Model_holds v_t_sights v_t_sightHow v_t_sightRight v_t_sightTicket v_t_tickets p0 = some out) : CT l D I J Z y_Model_holds b_Model_holds 6 (some .boolean) 2 [.ref a_t, .int p0] [(a_t, .inr (10, [.int v_t_numbers, .int v_t_onTicket, .int v_t_drawn, .int v_t_due, .ref a_t_tickets, .int v_t_ticketMany, .int v_t_fond, .ref a_t_prizes, .ref a_t_sightTicket, .ref a_t_sightRight, .ref a_t_sightHow, .int v_t_sights, .ref a_t_draws, .int v_t_drawMany, .ref a_t_sets, .int v_t_setMany, .ref a_t_winsLow, .ref a_t_winsHigh, .ref a_t_pad, .int v_t_padMany, .long v_t_low, .long v_t_high, .ref a_t_could, .int v_t_couldMany, .ref a_t_row, .ref a_t_best, .ref a_t_kept, .ref a_t_isKept, .int v_t_keptAt, .int v_t_isWriting])), (a_t_sightHow, .inl (I, 6, .inl v_t_sightHow)), (a_t_sightRight, .inl (I, 6, .inl v_t_sightRight)), (a_t_sightTicket, .inl (I, 6, .inl v_t_sightTicket)), (a_t_tickets, .inl (I, 6, .inl v_t_tickets))] (PoI out D [(a_t, .inr (10, [.int v_t_numbers, .int v_t_onTicket, .int v_t_drawn, .int v_t_due, .ref a_t_tickets, .int v_t_ticketMany, .int v_t_fond, .ref a_t_prizes, .ref a_t_sightTicket, .ref a_t_sightRight, .ref a_t_sightHow, .int v_t_sights, .ref a_t_draws, .int v_t_drawMany, .ref a_t_sets, .int v_t_setMany, .ref a_t_winsLow, .ref a_t_winsHigh, .ref a_t_pad, .int v_t_padMany, .long v_t_low, .long v_t_high, .ref a_t_could, .int v_t_couldMany, .ref a_t_row, .ref a_t_best, .ref a_t_kept, .ref a_t_isKept, .int v_t_keptAt, .int v_t_isWriting])), (a_t_sightHow, .inl (I, 6, .inl v_t_sightHow)), (a_t_sightRight, .inl (I, 6, .inl v_t_sightRight)), (a_t_sightTicket, .inl (I, 6, .inl v_t_sightTicket)), (a_t_tickets, .inl (I, 6, .inl v_t_tickets))]) := by
  unfold f_Model_holds at h
  refine CT_of R_Model (by decide +kernel) rfl (Nat.le_of_ble_eq_true rfl) ?_
  intro p e R s m args below meth c A ls Q hR1 hR2 hQ hC hr hW hA hl
  have hx := hC.1
  have hb := hC.2.1
  have hl : lv_has ls 6 [(0, .ref a_t), (1, .int p0)] := hl
  have lp4 : ∀ (n : Nat) (x1 : Int32) (x2 : Int32) (x3 : Int32) (yx2 : Int32) (yx3 : Int32), L_Model_holds_4 x1 v_t_sights v_t_sightHow v_t_sightRight v_t_sightTicket v_t_tickets n x2 x3 = some (yx2, yx3) →
    (∀ H locs, Wd D A s.heap [(a_t, .inr (10, [.int v_t_numbers, .int v_t_onTicket, .int v_t_drawn, .int v_t_due, .ref a_t_tickets, .int v_t_ticketMany, .int v_t_fond, .ref a_t_prizes, .ref a_t_sightTicket, .ref a_t_sightRight, .ref a_t_sightHow, .int v_t_sights, .ref a_t_draws, .int v_t_drawMany, .ref a_t_sets, .int v_t_setMany, .ref a_t_winsLow, .ref a_t_winsHigh, .ref a_t_pad, .int v_t_padMany, .long v_t_low, .long v_t_high, .ref a_t_could, .int v_t_couldMany, .ref a_t_row, .ref a_t_best, .ref a_t_kept, .ref a_t_isKept, .int v_t_keptAt, .int v_t_isWriting])), (a_t_sightHow, .inl (I, 6, .inl v_t_sightHow)), (a_t_sightRight, .inl (I, 6, .inl v_t_sightRight)), (a_t_sightTicket, .inl (I, 6, .inl v_t_sightTicket)), (a_t_tickets, .inl (I, 6, .inl v_t_tickets))] H locs → ∀ ls, lv_has ls 6 [(0, .ref a_t), (1, .int x1), (2, .int yx2), (3, .int yx3)] → W p l e R s m args below meth c H locs 0 0 Q (F0 m 101 ls [])) →
    ∀ H locs, Wd D A s.heap [(a_t, .inr (10, [.int v_t_numbers, .int v_t_onTicket, .int v_t_drawn, .int v_t_due, .ref a_t_tickets, .int v_t_ticketMany, .int v_t_fond, .ref a_t_prizes, .ref a_t_sightTicket, .ref a_t_sightRight, .ref a_t_sightHow, .int v_t_sights, .ref a_t_draws, .int v_t_drawMany, .ref a_t_sets, .int v_t_setMany, .ref a_t_winsLow, .ref a_t_winsHigh, .ref a_t_pad, .int v_t_padMany, .long v_t_low, .long v_t_high, .ref a_t_could, .int v_t_couldMany, .ref a_t_row, .ref a_t_best, .ref a_t_kept, .ref a_t_isKept, .int v_t_keptAt, .int v_t_isWriting])), (a_t_sightHow, .inl (I, 6, .inl v_t_sightHow)), (a_t_sightRight, .inl (I, 6, .inl v_t_sightRight)), (a_t_sightTicket, .inl (I, 6, .inl v_t_sightTicket)), (a_t_tickets, .inl (I, 6, .inl v_t_tickets))] H locs → ∀ ls, lv_has ls 6 [(0, .ref a_t), (1, .int x1), (2, .int x2), (3, .int x3)] → W p l e R s m args below meth c H locs 0 0 Q (F0 m 4 ls []) := by
    intro n
    induction n with
    | zero =>
      intro x1 x2 x3 yx2 yx3 h
      exact no_e h
    | succ n ih =>
      intro x1 x2 x3 yx2 yx3 h K H locs hW ls hl
      rw [L_Model_holds_4] at h
      refine lv_iload_n hx hb d_Model_holds_4 rfl (lv_at hl 3 rfl) ?_
      refine lv_aload_n hx hb d_Model_holds_5 rfl (lv_at hl 0 rfl) ?_
      refine x_get hC hW 0 rfl fl_Model_80 rfl d_Model_holds_6 ?_
      refine lv_icmp_ge (tgt := 101) hx hb d_Model_holds_9 (by decide) (fun c_1 => ?_) (fun c_1 => ?_)
      · have h := it_e c_1 h
        cases h
        exact K _ _ hW ls (lv_sub hl [0, 1, 2, 3] rfl)
      · have h := ie_e c_1 h
        refine lv_aload_n hx hb d_Model_holds_12 rfl (lv_at hl 0 rfl) ?_
        refine x_get hC hW 0 rfl fl_Model_7 rfl d_Model_holds_13 ?_
        refine lv_aload_n hx hb d_Model_holds_16 rfl (lv_at hl 0 rfl) ?_
        refine x_get hC hW 0 rfl fl_Model_16 rfl d_Model_holds_17 ?_
        refine lv_iload_n hx hb d_Model_holds_20 rfl (lv_at hl 3 rfl) ?_
        obtain ⟨hi_2, h⟩ := gd_e h
        refine x_iald hC hW 3 rfl hi_2 d_Model_holds_21 ?_
        obtain ⟨hi_3, h⟩ := gd_e h
        refine x_iald hC hW 4 rfl hi_3 d_Model_holds_22 ?_
        refine lv_iload_n hx hb d_Model_holds_23 rfl (lv_at hl 1 rfl) ?_
        refine lv_iand hx hb d_Model_holds_24 ?_
        refine lv_i2l hx hb d_Model_holds_25 rfl ?_
        obtain ⟨r_4, hc_4, h⟩ := bk1_e h
        refine x_ci (ws' := [(a_t, .inr (10, [.int v_t_numbers, .int v_t_onTicket, .int v_t_drawn, .int v_t_due, .ref a_t_tickets, .int v_t_ticketMany, .int v_t_fond, .ref a_t_prizes, .ref a_t_sightTicket, .ref a_t_sightRight, .ref a_t_sightHow, .int v_t_sights, .ref a_t_draws, .int v_t_drawMany, .ref a_t_sets, .int v_t_setMany, .ref a_t_winsLow, .ref a_t_winsHigh, .ref a_t_pad, .int v_t_padMany, .long v_t_low, .long v_t_high, .ref a_t_could, .int v_t_couldMany, .ref a_t_row, .ref a_t_best, .ref a_t_kept, .ref a_t_isKept, .int v_t_keptAt, .int v_t_isWriting])), (a_t_sightHow, .inl (I, 6, .inl v_t_sightHow)), (a_t_sightRight, .inl (I, 6, .inl v_t_sightRight)), (a_t_sightTicket, .inl (I, 6, .inl v_t_sightTicket)), (a_t_tickets, .inl (I, 6, .inl v_t_tickets))]) (x_runS (rest := []) hC hW (c_Model_ones l D I J Z ((v_t_tickets (v_t_sightTicket x3.toNatClampNeg).toNatClampNeg) &&& x1).toInt64 (r_4) hc_4) cl_Model_92 q_code_Model_ones [] rfl (by decide) rfl hl.1 (Nat.le_of_ble_eq_true rfl) (rm_ok hR1 hR2 (by decide) (by decide)) ⟨Nat.zero_le _, Nat.zero_le _⟩ d_Model_holds_26) hW hA [] rfl rfl (ps := [none, none, none, none, none]) (by decide +kernel) ⟨rfl, rfl, rfl, rfl, rfl, trivial⟩ (fun H locs hW => ?_)
        refine lv_istore (lv' := [(4, .int r_4), (0, .ref a_t), (1, .int x1), (2, .int x2), (3, .int x3)]) hx hb d_Model_holds_29 hl (by decide) rfl (fun ls hl => ?_)
        refine lv_aload_n hx hb d_Model_holds_31 rfl (lv_at hl 1 rfl) ?_
        refine x_get hC hW 0 rfl fl_Model_19 rfl d_Model_holds_32 ?_
        refine lv_iload_n hx hb d_Model_holds_35 rfl (lv_at hl 4 rfl) ?_
        obtain ⟨hi_5, h⟩ := gd_e h
        refine x_iald hC hW 2 rfl hi_5 d_Model_holds_36 ?_
        refine lv_istore (lv' := [(5, .int (v_t_sightRight x3.toNatClampNeg)), (4, .int r_4), (0, .ref a_t), (1, .int x1), (2, .int x2), (3, .int x3)]) hx hb d_Model_holds_37 hl (by decide) rfl (fun ls hl => ?_)
        refine lv_iload_n hx hb d_Model_holds_39 rfl (lv_at hl 4 rfl) ?_
        refine lv_if_eq (tgt := 93) hx hb d_Model_holds_40 (by decide) (fun c_6 => ?_) (fun c_6 => ?_)
        · have h := it_e c_6 h
          refine lv_iconst (v := (0 : Int32)) hx hb d_Model_holds_93 (by decide) ?_
          refine lv_istore_n (lv' := [(2, .int (0 : Int32)), (5, .int (v_t_sightRight x3.toNatClampNeg)), (4, .int r_4), (0, .ref a_t), (1, .int x1), (3, .int x3)]) hx hb d_Model_holds_94 rfl hl (by decide) rfl (fun ls hl => ?_)
          refine lv_iinc (v := (x3 + (1 : Int32))) (lv' := [(3, .int (x3 + (1 : Int32))), (2, .int (0 : Int32)), (5, .int (v_t_sightRight x3.toNatClampNeg)), (4, .int r_4), (0, .ref a_t), (1, .int x1)]) hx hb d_Model_holds_95 hl (k := 5) rfl (iinc_e (by decide)) (by decide) rfl (fun ls hl => ?_)
          refine lv_goto (tgt := 4) hx hb d_Model_holds_98 (by decide) ?_
          exact ih x1 (0 : Int32) (x3 + (1 : Int32)) _ _ h K _ _ hW ls (lv_sub hl [4, 5, 1, 0] rfl)
        · have h := ie_e c_6 h
          refine lv_aload_n hx hb d_Model_holds_43 rfl (lv_at hl 2 rfl) ?_
          refine x_get hC hW 0 rfl fl_Model_22 rfl d_Model_holds_44 ?_
          refine lv_iload_n hx hb d_Model_holds_47 rfl (lv_at hl 5 rfl) ?_
          obtain ⟨hi_7, h⟩ := gd_e h
          refine x_iald hC hW 1 rfl hi_7 d_Model_holds_48 ?_
          refine lv_if_ne (tgt := 62) hx hb d_Model_holds_49 (by decide) (fun c_8 => ?_) (fun c_8 => ?_)
          · have h := ie_e c_8 h
            refine lv_aload_n hx hb d_Model_holds_62 rfl (lv_at hl 2 rfl) ?_
            refine x_get hC hW 0 rfl fl_Model_22 rfl d_Model_holds_63 ?_
            refine lv_iload_n hx hb d_Model_holds_66 rfl (lv_at hl 5 rfl) ?_
            obtain ⟨hi_9, h⟩ := gd_e h
            refine x_iald hC hW 1 rfl hi_9 d_Model_holds_67 ?_
            refine lv_iconst (v := (1 : Int32)) hx hb d_Model_holds_68 (by decide) ?_
            refine lv_icmp_ne (tgt := 82) hx hb d_Model_holds_69 (by decide) (fun c_10 => ?_) (fun c_10 => ?_)
            · have h := ie_e c_10 h
              refine lv_iload hx hb d_Model_holds_82 (lv_at hl 1 rfl) ?_
              refine lv_iload hx hb d_Model_holds_84 (lv_at hl 0 rfl) ?_
              refine lv_icmp_ge (tgt := 93) hx hb d_Model_holds_86 (by decide) (fun c_11 => ?_) (fun c_11 => ?_)
              · have h := it_e c_11 h
                refine lv_iconst (v := (0 : Int32)) hx hb d_Model_holds_93 (by decide) ?_
                refine lv_istore_n (lv' := [(2, .int (0 : Int32)), (5, .int (v_t_sightRight x3.toNatClampNeg)), (4, .int r_4), (0, .ref a_t), (1, .int x1), (3, .int x3)]) hx hb d_Model_holds_94 rfl hl (by decide) rfl (fun ls hl => ?_)
                refine lv_iinc (v := (x3 + (1 : Int32))) (lv' := [(3, .int (x3 + (1 : Int32))), (2, .int (0 : Int32)), (5, .int (v_t_sightRight x3.toNatClampNeg)), (4, .int r_4), (0, .ref a_t), (1, .int x1)]) hx hb d_Model_holds_95 hl (k := 5) rfl (iinc_e (by decide)) (by decide) rfl (fun ls hl => ?_)
                refine lv_goto (tgt := 4) hx hb d_Model_holds_98 (by decide) ?_
                exact ih x1 (0 : Int32) (x3 + (1 : Int32)) _ _ h K _ _ hW ls (lv_sub hl [4, 5, 1, 0] rfl)
              · have h := ie_e c_11 h
                refine lv_iconst (v := (1 : Int32)) hx hb d_Model_holds_89 (by decide) ?_
                refine lv_goto (tgt := 94) hx hb d_Model_holds_90 (by decide) ?_
                refine lv_istore_n (lv' := [(2, .int (1 : Int32)), (5, .int (v_t_sightRight x3.toNatClampNeg)), (4, .int r_4), (0, .ref a_t), (1, .int x1), (3, .int x3)]) hx hb d_Model_holds_94 rfl hl (by decide) rfl (fun ls hl => ?_)
                refine lv_iinc (v := (x3 + (1 : Int32))) (lv' := [(3, .int (x3 + (1 : Int32))), (2, .int (1 : Int32)), (5, .int (v_t_sightRight x3.toNatClampNeg)), (4, .int r_4), (0, .ref a_t), (1, .int x1)]) hx hb d_Model_holds_95 hl (k := 5) rfl (iinc_e (by decide)) (by decide) rfl (fun ls hl => ?_)
                refine lv_goto (tgt := 4) hx hb d_Model_holds_98 (by decide) ?_
                exact ih x1 (1 : Int32) (x3 + (1 : Int32)) _ _ h K _ _ hW ls (lv_sub hl [4, 5, 1, 0] rfl)
            · have h := it_e c_10 h
              refine lv_iload hx hb d_Model_holds_72 (lv_at hl 1 rfl) ?_
              refine lv_iload hx hb d_Model_holds_74 (lv_at hl 0 rfl) ?_
              refine lv_icmp_lt (tgt := 93) hx hb d_Model_holds_76 (by decide) (fun c_12 => ?_) (fun c_12 => ?_)
              · have h := it_e c_12 h
                refine lv_iconst (v := (0 : Int32)) hx hb d_Model_holds_93 (by decide) ?_
                refine lv_istore_n (lv' := [(2, .int (0 : Int32)), (5, .int (v_t_sightRight x3.toNatClampNeg)), (4, .int r_4), (0, .ref a_t), (1, .int x1), (3, .int x3)]) hx hb d_Model_holds_94 rfl hl (by decide) rfl (fun ls hl => ?_)
                refine lv_iinc (v := (x3 + (1 : Int32))) (lv' := [(3, .int (x3 + (1 : Int32))), (2, .int (0 : Int32)), (5, .int (v_t_sightRight x3.toNatClampNeg)), (4, .int r_4), (0, .ref a_t), (1, .int x1)]) hx hb d_Model_holds_95 hl (k := 5) rfl (iinc_e (by decide)) (by decide) rfl (fun ls hl => ?_)
                refine lv_goto (tgt := 4) hx hb d_Model_holds_98 (by decide) ?_
                exact ih x1 (0 : Int32) (x3 + (1 : Int32)) _ _ h K _ _ hW ls (lv_sub hl [4, 5, 1, 0] rfl)
              · have h := ie_e c_12 h
                refine lv_goto (tgt := 89) hx hb d_Model_holds_79 (by decide) ?_
                refine lv_iconst (v := (1 : Int32)) hx hb d_Model_holds_89 (by decide) ?_
                refine lv_goto (tgt := 94) hx hb d_Model_holds_90 (by decide) ?_
                refine lv_istore_n (lv' := [(2, .int (1 : Int32)), (5, .int (v_t_sightRight x3.toNatClampNeg)), (4, .int r_4), (0, .ref a_t), (1, .int x1), (3, .int x3)]) hx hb d_Model_holds_94 rfl hl (by decide) rfl (fun ls hl => ?_)
                refine lv_iinc (v := (x3 + (1 : Int32))) (lv' := [(3, .int (x3 + (1 : Int32))), (2, .int (1 : Int32)), (5, .int (v_t_sightRight x3.toNatClampNeg)), (4, .int r_4), (0, .ref a_t), (1, .int x1)]) hx hb d_Model_holds_95 hl (k := 5) rfl (iinc_e (by decide)) (by decide) rfl (fun ls hl => ?_)
                refine lv_goto (tgt := 4) hx hb d_Model_holds_98 (by decide) ?_
                exact ih x1 (1 : Int32) (x3 + (1 : Int32)) _ _ h K _ _ hW ls (lv_sub hl [4, 5, 1, 0] rfl)
          · have h := it_e c_8 h
            refine lv_iload hx hb d_Model_holds_52 (lv_at hl 1 rfl) ?_
            refine lv_iload hx hb d_Model_holds_54 (lv_at hl 0 rfl) ?_
            refine lv_icmp_ne (tgt := 93) hx hb d_Model_holds_56 (by decide) (fun c_13 => ?_) (fun c_13 => ?_)
            · have h := ie_e c_13 h
              refine lv_iconst (v := (0 : Int32)) hx hb d_Model_holds_93 (by decide) ?_
              refine lv_istore_n (lv' := [(2, .int (0 : Int32)), (5, .int (v_t_sightRight x3.toNatClampNeg)), (4, .int r_4), (0, .ref a_t), (1, .int x1), (3, .int x3)]) hx hb d_Model_holds_94 rfl hl (by decide) rfl (fun ls hl => ?_)
              refine lv_iinc (v := (x3 + (1 : Int32))) (lv' := [(3, .int (x3 + (1 : Int32))), (2, .int (0 : Int32)), (5, .int (v_t_sightRight x3.toNatClampNeg)), (4, .int r_4), (0, .ref a_t), (1, .int x1)]) hx hb d_Model_holds_95 hl (k := 5) rfl (iinc_e (by decide)) (by decide) rfl (fun ls hl => ?_)
              refine lv_goto (tgt := 4) hx hb d_Model_holds_98 (by decide) ?_
              exact ih x1 (0 : Int32) (x3 + (1 : Int32)) _ _ h K _ _ hW ls (lv_sub hl [4, 5, 1, 0] rfl)
            · have h := it_e c_13 h
              refine lv_goto (tgt := 89) hx hb d_Model_holds_59 (by decide) ?_
              refine lv_iconst (v := (1 : Int32)) hx hb d_Model_holds_89 (by decide) ?_
              refine lv_goto (tgt := 94) hx hb d_Model_holds_90 (by decide) ?_
              refine lv_istore_n (lv' := [(2, .int (1 : Int32)), (5, .int (v_t_sightRight x3.toNatClampNeg)), (4, .int r_4), (0, .ref a_t), (1, .int x1), (3, .int x3)]) hx hb d_Model_holds_94 rfl hl (by decide) rfl (fun ls hl => ?_)
              refine lv_iinc (v := (x3 + (1 : Int32))) (lv' := [(3, .int (x3 + (1 : Int32))), (2, .int (1 : Int32)), (5, .int (v_t_sightRight x3.toNatClampNeg)), (4, .int r_4), (0, .ref a_t), (1, .int x1)]) hx hb d_Model_holds_95 hl (k := 5) rfl (iinc_e (by decide)) (by decide) rfl (fun ls hl => ?_)
              refine lv_goto (tgt := 4) hx hb d_Model_holds_98 (by decide) ?_
              exact ih x1 (1 : Int32) (x3 + (1 : Int32)) _ _ h K _ _ hW ls (lv_sub hl [4, 5, 1, 0] rfl)
  refine lv_iconst (v := (1 : Int32)) hx hb d_Model_holds_0 (by decide) ?_
  refine lv_istore_n (lv' := [(2, .int (1 : Int32)), (0, .ref a_t), (1, .int p0)]) hx hb d_Model_holds_1 rfl hl (by decide) rfl (fun ls hl => ?_)
  refine lv_iconst (v := (0 : Int32)) hx hb d_Model_holds_2 (by decide) ?_
  refine lv_istore_n (lv' := [(3, .int (0 : Int32)), (2, .int (1 : Int32)), (0, .ref a_t), (1, .int p0)]) hx hb d_Model_holds_3 rfl hl (by decide) rfl (fun ls hl => ?_)
  obtain ⟨yx2_14, yx3_14, hv_14, h⟩ := bk2_e h
  refine lp4 _ p0 (1 : Int32) (0 : Int32) yx2_14 yx3_14 hv_14 (fun H locs hW ls hl => ?_) _ _ hW ls (lv_sub hl [2, 3, 1, 0] rfl)
  refine lv_iload_n hx hb d_Model_holds_101 rfl (lv_at hl 2 rfl) ?_
  obtain ⟨hn_15, h⟩ := bz_e h
  cases h
  rw [hQ]
  exact x_zret hC hr hn_15 hW d_Model_holds_102

def L_Model_fits_4 (x1 : Int32) (v_t_drawMany : Int32) (v_t_sights : Int32) (v_t_draws : Nat → Int32) (v_t_sightHow : Nat → Int32) (v_t_sightRight : Nat → Int32) (v_t_sightTicket : Nat → Int32) (v_t_tickets : Nat → Int32) : Nat → Int32 → Int32 → Option (Except (Int32) (Int32 × Int32))
  | 0, _, _ => none
  | n + 1, x2, x3 => if v_t_drawMany ≤ x3 then some (.ok (x2, x3)) else gd x3 70 (bk1 (f_Model_holds v_t_sights v_t_sightHow v_t_sightRight v_t_sightTicket v_t_tickets (v_t_draws x3.toNatClampNeg)) fun r_3 => if r_3 = (0 : Int32) then L_Model_fits_4 x1 v_t_drawMany v_t_sights v_t_draws v_t_sightHow v_t_sightRight v_t_sightTicket v_t_tickets n x2 (x3 + (1 : Int32)) else if x2 = x1 then gd x3 70 (some (.error ((v_t_draws x3.toNatClampNeg)))) else L_Model_fits_4 x1 v_t_drawMany v_t_sights v_t_draws v_t_sightHow v_t_sightRight v_t_sightTicket v_t_tickets n (x2 + (1 : Int32)) (x3 + (1 : Int32)))
def f_Model_fits (v_t_drawMany : Int32) (v_t_sights : Int32) (v_t_draws : Nat → Int32) (v_t_sightHow : Nat → Int32) (v_t_sightRight : Nat → Int32) (v_t_sightTicket : Nat → Int32) (v_t_tickets : Nat → Int32) (p0 : Int32) : Option (Int32) :=
  lm2 (L_Model_fits_4 p0 v_t_drawMany v_t_sights v_t_draws v_t_sightHow v_t_sightRight v_t_sightTicket v_t_tickets 300 (0 : Int32) (0 : Int32)) fun yx2_7 yx3_7 => if p0 = (-1 : Int32) then some (yx2_7) else some ((-6 : Int32))
set_option maxHeartbeats 4000000 in
set_option maxRecDepth 100000 in
theorem c_Model_fits (l : Launch) (D : va_G) (I J Z : ClassId) (a_t : Nat) (a_t_draws : Nat) (a_t_sightHow : Nat) (a_t_sightRight : Nat) (a_t_sightTicket : Nat) (a_t_tickets : Nat) (a_t_prizes : Nat) (a_t_sets : Nat) (a_t_winsLow : Nat) (a_t_winsHigh : Nat) (a_t_pad : Nat) (a_t_could : Nat) (a_t_row : Nat) (a_t_best : Nat) (a_t_kept : Nat) (a_t_isKept : Nat)  (v_t_numbers : Int32) (v_t_onTicket : Int32) (v_t_drawn : Int32) (v_t_due : Int32) (v_t_ticketMany : Int32) (v_t_fond : Int32) (v_t_sights : Int32) (v_t_drawMany : Int32) (v_t_setMany : Int32) (v_t_padMany : Int32) (v_t_low : Int64) (v_t_high : Int64) (v_t_couldMany : Int32) (v_t_keptAt : Int32) (v_t_isWriting : Int32) (v_t_draws : Nat → Int32) (v_t_sightHow : Nat → Int32) (v_t_sightRight : Nat → Int32) (v_t_sightTicket : Nat → Int32) (v_t_tickets : Nat → Int32) (p0 : Int32) (out : (Int32)) (h : f_Model_fits v_t_drawMany v_t_sights v_t_draws v_t_sightHow v_t_sightRight v_t_sightTicket v_t_tickets p0 = some out) : CT l D I J Z y_Model_fits b_Model_fits 4 (some .int) 3 [.ref a_t, .int p0] [(a_t, .inr (10, [.int v_t_numbers, .int v_t_onTicket, .int v_t_drawn, .int v_t_due, .ref a_t_tickets, .int v_t_ticketMany, .int v_t_fond, .ref a_t_prizes, .ref a_t_sightTicket, .ref a_t_sightRight, .ref a_t_sightHow, .int v_t_sights, .ref a_t_draws, .int v_t_drawMany, .ref a_t_sets, .int v_t_setMany, .ref a_t_winsLow, .ref a_t_winsHigh, .ref a_t_pad, .int v_t_padMany, .long v_t_low, .long v_t_high, .ref a_t_could, .int v_t_couldMany, .ref a_t_row, .ref a_t_best, .ref a_t_kept, .ref a_t_isKept, .int v_t_keptAt, .int v_t_isWriting])), (a_t_draws, .inl (I, 70, .inl v_t_draws)), (a_t_sightHow, .inl (I, 6, .inl v_t_sightHow)), (a_t_sightRight, .inl (I, 6, .inl v_t_sightRight)), (a_t_sightTicket, .inl (I, 6, .inl v_t_sightTicket)), (a_t_tickets, .inl (I, 6, .inl v_t_tickets))] (PoI out D [(a_t, .inr (10, [.int v_t_numbers, .int v_t_onTicket, .int v_t_drawn, .int v_t_due, .ref a_t_tickets, .int v_t_ticketMany, .int v_t_fond, .ref a_t_prizes, .ref a_t_sightTicket, .ref a_t_sightRight, .ref a_t_sightHow, .int v_t_sights, .ref a_t_draws, .int v_t_drawMany, .ref a_t_sets, .int v_t_setMany, .ref a_t_winsLow, .ref a_t_winsHigh, .ref a_t_pad, .int v_t_padMany, .long v_t_low, .long v_t_high, .ref a_t_could, .int v_t_couldMany, .ref a_t_row, .ref a_t_best, .ref a_t_kept, .ref a_t_isKept, .int v_t_keptAt, .int v_t_isWriting])), (a_t_draws, .inl (I, 70, .inl v_t_draws)), (a_t_sightHow, .inl (I, 6, .inl v_t_sightHow)), (a_t_sightRight, .inl (I, 6, .inl v_t_sightRight)), (a_t_sightTicket, .inl (I, 6, .inl v_t_sightTicket)), (a_t_tickets, .inl (I, 6, .inl v_t_tickets))]) := by
  unfold f_Model_fits at h
  refine CT_of R_Model (by decide +kernel) rfl (Nat.le_of_ble_eq_true rfl) ?_
  intro p e R s m args below meth c A ls Q hR1 hR2 hQ hC hr hW hA hl
  have hx := hC.1
  have hb := hC.2.1
  have hl : lv_has ls 4 [(0, .ref a_t), (1, .int p0)] := hl
  have lp4 : ∀ (n : Nat) (x1 : Int32) (x2 : Int32) (x3 : Int32) (res : Except (Int32) (Int32 × Int32)), L_Model_fits_4 x1 v_t_drawMany v_t_sights v_t_draws v_t_sightHow v_t_sightRight v_t_sightTicket v_t_tickets n x2 x3 = some res → (∀ r, res = .error r → r = out) →
    (∀ (yx2 : Int32) (yx3 : Int32), res = .ok (yx2, yx3) → ∀ H locs, Wd D A s.heap [(a_t, .inr (10, [.int v_t_numbers, .int v_t_onTicket, .int v_t_drawn, .int v_t_due, .ref a_t_tickets, .int v_t_ticketMany, .int v_t_fond, .ref a_t_prizes, .ref a_t_sightTicket, .ref a_t_sightRight, .ref a_t_sightHow, .int v_t_sights, .ref a_t_draws, .int v_t_drawMany, .ref a_t_sets, .int v_t_setMany, .ref a_t_winsLow, .ref a_t_winsHigh, .ref a_t_pad, .int v_t_padMany, .long v_t_low, .long v_t_high, .ref a_t_could, .int v_t_couldMany, .ref a_t_row, .ref a_t_best, .ref a_t_kept, .ref a_t_isKept, .int v_t_keptAt, .int v_t_isWriting])), (a_t_draws, .inl (I, 70, .inl v_t_draws)), (a_t_sightHow, .inl (I, 6, .inl v_t_sightHow)), (a_t_sightRight, .inl (I, 6, .inl v_t_sightRight)), (a_t_sightTicket, .inl (I, 6, .inl v_t_sightTicket)), (a_t_tickets, .inl (I, 6, .inl v_t_tickets))] H locs → ∀ ls, lv_has ls 4 [(0, .ref a_t), (1, .int x1), (2, .int yx2), (3, .int yx3)] → W p l e R s m args below meth c H locs 0 0 Q (F0 m 46 ls [])) →
    ∀ H locs, Wd D A s.heap [(a_t, .inr (10, [.int v_t_numbers, .int v_t_onTicket, .int v_t_drawn, .int v_t_due, .ref a_t_tickets, .int v_t_ticketMany, .int v_t_fond, .ref a_t_prizes, .ref a_t_sightTicket, .ref a_t_sightRight, .ref a_t_sightHow, .int v_t_sights, .ref a_t_draws, .int v_t_drawMany, .ref a_t_sets, .int v_t_setMany, .ref a_t_winsLow, .ref a_t_winsHigh, .ref a_t_pad, .int v_t_padMany, .long v_t_low, .long v_t_high, .ref a_t_could, .int v_t_couldMany, .ref a_t_row, .ref a_t_best, .ref a_t_kept, .ref a_t_isKept, .int v_t_keptAt, .int v_t_isWriting])), (a_t_draws, .inl (I, 70, .inl v_t_draws)), (a_t_sightHow, .inl (I, 6, .inl v_t_sightHow)), (a_t_sightRight, .inl (I, 6, .inl v_t_sightRight)), (a_t_sightTicket, .inl (I, 6, .inl v_t_sightTicket)), (a_t_tickets, .inl (I, 6, .inl v_t_tickets))] H locs → ∀ ls, lv_has ls 4 [(0, .ref a_t), (1, .int x1), (2, .int x2), (3, .int x3)] → W p l e R s m args below meth c H locs 0 0 Q (F0 m 4 ls []) := by
    intro n
    induction n with
    | zero =>
      intro x1 x2 x3 res h
      exact no_e h
    | succ n ih =>
      intro x1 x2 x3 res h hret K H locs hW ls hl
      rw [L_Model_fits_4] at h
      refine lv_iload_n hx hb d_Model_fits_4 rfl (lv_at hl 3 rfl) ?_
      refine lv_aload_n hx hb d_Model_fits_5 rfl (lv_at hl 0 rfl) ?_
      refine x_get hC hW 0 rfl fl_Model_86 rfl d_Model_fits_6 ?_
      refine lv_icmp_ge (tgt := 46) hx hb d_Model_fits_9 (by decide) (fun c_1 => ?_) (fun c_1 => ?_)
      · have h := it_e c_1 h
        cases h
        exact K _ _ rfl _ _ hW ls (lv_sub hl [0, 1, 2, 3] rfl)
      · have h := ie_e c_1 h
        refine lv_aload_n hx hb d_Model_fits_12 rfl (lv_at hl 0 rfl) ?_
        refine lv_aload_n hx hb d_Model_fits_13 rfl (lv_at hl 0 rfl) ?_
        refine x_get hC hW 0 rfl fl_Model_25 rfl d_Model_fits_14 ?_
        refine lv_iload_n hx hb d_Model_fits_17 rfl (lv_at hl 3 rfl) ?_
        obtain ⟨hi_2, h⟩ := gd_e h
        refine x_iald hC hW 1 rfl hi_2 d_Model_fits_18 ?_
        obtain ⟨r_3, hc_3, h⟩ := bk1_e h
        refine x_ci (ws' := [(a_t, .inr (10, [.int v_t_numbers, .int v_t_onTicket, .int v_t_drawn, .int v_t_due, .ref a_t_tickets, .int v_t_ticketMany, .int v_t_fond, .ref a_t_prizes, .ref a_t_sightTicket, .ref a_t_sightRight, .ref a_t_sightHow, .int v_t_sights, .ref a_t_draws, .int v_t_drawMany, .ref a_t_sets, .int v_t_setMany, .ref a_t_winsLow, .ref a_t_winsHigh, .ref a_t_pad, .int v_t_padMany, .long v_t_low, .long v_t_high, .ref a_t_could, .int v_t_couldMany, .ref a_t_row, .ref a_t_best, .ref a_t_kept, .ref a_t_isKept, .int v_t_keptAt, .int v_t_isWriting])), (a_t_draws, .inl (I, 70, .inl v_t_draws)), (a_t_sightHow, .inl (I, 6, .inl v_t_sightHow)), (a_t_sightRight, .inl (I, 6, .inl v_t_sightRight)), (a_t_sightTicket, .inl (I, 6, .inl v_t_sightTicket)), (a_t_tickets, .inl (I, 6, .inl v_t_tickets))]) (x_runV (As := [.int (v_t_draws x3.toNatClampNeg)]) (rest := []) hC hW (c_Model_holds l D I J Z a_t a_t_sightHow a_t_sightRight a_t_sightTicket a_t_tickets a_t_prizes a_t_draws a_t_sets a_t_winsLow a_t_winsHigh a_t_pad a_t_could a_t_row a_t_best a_t_kept a_t_isKept v_t_numbers v_t_onTicket v_t_drawn v_t_due v_t_ticketMany v_t_fond v_t_sights v_t_drawMany v_t_setMany v_t_padMany v_t_low v_t_high v_t_couldMany v_t_keptAt v_t_isWriting v_t_sightHow v_t_sightRight v_t_sightTicket v_t_tickets (v_t_draws x3.toNatClampNeg) (r_3) hc_3) cl_Model_186 q_code_Model_holds [0, 2, 3, 4, 5] rfl (by decide) 0 rfl rfl rfl rfl hl.1 (Nat.le_of_ble_eq_true rfl) (rm_ok hR1 hR2 (by decide) (by decide)) ⟨Nat.zero_le _, Nat.zero_le _⟩ d_Model_fits_19) hW hA [0, 2, 3, 4, 5] rfl rfl (ps := [some 0, none, some 1, some 2, some 3, some 4]) (by decide +kernel) ⟨rfl, rfl, rfl, rfl, rfl, rfl, trivial⟩ (fun H locs hW => ?_)
        refine lv_if_eq (tgt := 40) hx hb d_Model_fits_22 (by decide) (fun c_4 => ?_) (fun c_4 => ?_)
        · have h := it_e c_4 h
          refine lv_iinc (v := (x3 + (1 : Int32))) (lv' := [(3, .int (x3 + (1 : Int32))), (0, .ref a_t), (1, .int x1), (2, .int x2)]) hx hb d_Model_fits_40 hl (k := 3) rfl (iinc_e (by decide)) (by decide) rfl (fun ls hl => ?_)
          refine lv_goto (tgt := 4) hx hb d_Model_fits_43 (by decide) ?_
          exact ih x1 x2 (x3 + (1 : Int32)) _ h hret K _ _ hW ls (lv_sub hl [1, 2, 3, 0] rfl)
        · have h := ie_e c_4 h
          refine lv_iload_n hx hb d_Model_fits_25 rfl (lv_at hl 2 rfl) ?_
          refine lv_iload_n hx hb d_Model_fits_26 rfl (lv_at hl 1 rfl) ?_
          refine lv_icmp_ne (tgt := 37) hx hb d_Model_fits_27 (by decide) (fun c_5 => ?_) (fun c_5 => ?_)
          · have h := ie_e c_5 h
            refine lv_iinc (v := (x2 + (1 : Int32))) (lv' := [(2, .int (x2 + (1 : Int32))), (0, .ref a_t), (1, .int x1), (3, .int x3)]) hx hb d_Model_fits_37 hl (k := 2) rfl (iinc_e (by decide)) (by decide) rfl (fun ls hl => ?_)
            refine lv_iinc (v := (x3 + (1 : Int32))) (lv' := [(3, .int (x3 + (1 : Int32))), (2, .int (x2 + (1 : Int32))), (0, .ref a_t), (1, .int x1)]) hx hb d_Model_fits_40 hl (k := 3) rfl (iinc_e (by decide)) (by decide) rfl (fun ls hl => ?_)
            refine lv_goto (tgt := 4) hx hb d_Model_fits_43 (by decide) ?_
            exact ih x1 (x2 + (1 : Int32)) (x3 + (1 : Int32)) _ h hret K _ _ hW ls (lv_sub hl [2, 3, 1, 0] rfl)
          · have h := it_e c_5 h
            refine lv_aload_n hx hb d_Model_fits_30 rfl (lv_at hl 0 rfl) ?_
            refine x_get hC hW 0 rfl fl_Model_25 rfl d_Model_fits_31 ?_
            refine lv_iload_n hx hb d_Model_fits_34 rfl (lv_at hl 3 rfl) ?_
            obtain ⟨hi_6, h⟩ := gd_e h
            refine x_iald hC hW 1 rfl hi_6 d_Model_fits_35 ?_
            cases h
            cases hret _ rfl
            rw [hQ]
            exact x_iret hC hr hW d_Model_fits_36
  refine lv_iconst (v := (0 : Int32)) hx hb d_Model_fits_0 (by decide) ?_
  refine lv_istore_n (lv' := [(2, .int (0 : Int32)), (0, .ref a_t), (1, .int p0)]) hx hb d_Model_fits_1 rfl hl (by decide) rfl (fun ls hl => ?_)
  refine lv_iconst (v := (0 : Int32)) hx hb d_Model_fits_2 (by decide) ?_
  refine lv_istore_n (lv' := [(3, .int (0 : Int32)), (2, .int (0 : Int32)), (0, .ref a_t), (1, .int p0)]) hx hb d_Model_fits_3 rfl hl (by decide) rfl (fun ls hl => ?_)
  obtain ⟨res_7, hv_7, he_7, hk_7⟩ := lm2_e h
  refine lp4 _ p0 (0 : Int32) (0 : Int32) res_7 hv_7 he_7 (fun yx2_7 yx3_7 hs_7 H locs hW ls hl => ?_) _ _ hW ls (lv_sub hl [2, 3, 1, 0] rfl)
  have h := hk_7 yx2_7 yx3_7 hs_7
  refine lv_iload_n hx hb d_Model_fits_46 rfl (lv_at hl 1 rfl) ?_
  refine lv_iconst (v := (-1 : Int32)) hx hb d_Model_fits_47 (by decide) ?_
  refine lv_icmp_ne (tgt := 55) hx hb d_Model_fits_48 (by decide) (fun c_8 => ?_) (fun c_8 => ?_)
  · have h := ie_e c_8 h
    refine lv_bipush (v := (-6 : Int32)) hx hb d_Model_fits_55 (by decide) ?_
    cases h
    rw [hQ]
    exact x_iret hC hr hW d_Model_fits_57
  · have h := it_e c_8 h
    refine lv_iload_n hx hb d_Model_fits_51 rfl (lv_at hl 2 rfl) ?_
    refine lv_goto (tgt := 57) hx hb d_Model_fits_52 (by decide) ?_
    cases h
    rw [hQ]
    exact x_iret hC hr hW d_Model_fits_57

def L_Model_surely_33 (v_t_drawMany : Int32) (v_t_sights : Int32) (v_t_draws : Nat → Int32) (v_t_sightHow : Nat → Int32) (v_t_sightRight : Nat → Int32) (v_t_sightTicket : Nat → Int32) (v_t_tickets : Nat → Int32) : Nat → Int32 → Int32 → Int32 → Int32 → Option (Int32 × Int32 × Int32 × Int32)
  | 0, _, _, _, _ => none
  | n + 1, x2, x4, x5, x6 => if v_t_drawMany ≤ x6 then some (x2, x4, x5, x6) else gd x6 70 (bk1 (f_Model_holds v_t_sights v_t_sightHow v_t_sightRight v_t_sightTicket v_t_tickets (v_t_draws x6.toNatClampNeg)) fun r_5 => if r_5 = (0 : Int32) then L_Model_surely_33 v_t_drawMany v_t_sights v_t_draws v_t_sightHow v_t_sightRight v_t_sightTicket v_t_tickets n x2 x4 x5 (x6 + (1 : Int32)) else gd x6 70 (gd x6 70 (L_Model_surely_33 v_t_drawMany v_t_sights v_t_draws v_t_sightHow v_t_sightRight v_t_sightTicket v_t_tickets n (x2 + (1 : Int32)) (x4 &&& (v_t_draws x6.toNatClampNeg)) (x5 ||| (v_t_draws x6.toNatClampNeg)) (x6 + (1 : Int32)))))
def f_Model_surely (v_t_drawMany : Int32) (v_t_numbers : Int32) (v_t_sights : Int32) (v_t_draws : Nat → Int32) (v_t_sightHow : Nat → Int32) (v_t_sightRight : Nat → Int32) (v_t_sightTicket : Nat → Int32) (v_t_tickets : Nat → Int32) (p0 : Int32) : Option (Int32) :=
  bk1 (f_Model_in p0.toInt64 (0 : Int64) (1 : Int64)) fun r_1 => if r_1 = (0 : Int32) then some ((-2 : Int32)) else bk4 (L_Model_surely_33 v_t_drawMany v_t_sights v_t_draws v_t_sightHow v_t_sightRight v_t_sightTicket v_t_tickets 300 (0 : Int32) (((1 : Int32) <<< (v_t_numbers &&& 31)) - (1 : Int32)) (0 : Int32) (0 : Int32)) fun yx2_9 yx4_9 yx5_9 yx6_9 => if yx2_9 = (0 : Int32) then some ((-5 : Int32)) else if p0 = (0 : Int32) then some (yx4_9) else some (((((1 : Int32) <<< (v_t_numbers &&& 31)) - (1 : Int32)) &&& (yx5_9 ^^^ (-1 : Int32))))
set_option maxHeartbeats 4000000 in
set_option maxRecDepth 100000 in
theorem c_Model_surely (l : Launch) (D : va_G) (I J Z : ClassId) (a_t : Nat) (a_t_draws : Nat) (a_t_sightHow : Nat) (a_t_sightRight : Nat) (a_t_sightTicket : Nat) (a_t_tickets : Nat) (a_t_prizes : Nat) (a_t_sets : Nat) (a_t_winsLow : Nat) (a_t_winsHigh : Nat) (a_t_pad : Nat) (a_t_could : Nat) (a_t_row : Nat) (a_t_best : Nat) (a_t_kept : Nat) (a_t_isKept : Nat)  (v_t_numbers : Int32) (v_t_onTicket : Int32) (v_t_drawn : Int32) (v_t_due : Int32) (v_t_ticketMany : Int32) (v_t_fond : Int32) (v_t_sights : Int32) (v_t_drawMany : Int32) (v_t_setMany : Int32) (v_t_padMany : Int32) (v_t_low : Int64) (v_t_high : Int64) (v_t_couldMany : Int32) (v_t_keptAt : Int32) (v_t_isWriting : Int32) (v_t_draws : Nat → Int32) (v_t_sightHow : Nat → Int32) (v_t_sightRight : Nat → Int32) (v_t_sightTicket : Nat → Int32) (v_t_tickets : Nat → Int32) (p0 : Int32) (out : (Int32)) (h : f_Model_surely v_t_drawMany v_t_numbers v_t_sights v_t_draws v_t_sightHow v_t_sightRight v_t_sightTicket v_t_tickets p0 = some out) : CT l D I J Z y_Model_surely b_Model_surely 7 (some .int) 3 [.ref a_t, .int p0] [(a_t, .inr (10, [.int v_t_numbers, .int v_t_onTicket, .int v_t_drawn, .int v_t_due, .ref a_t_tickets, .int v_t_ticketMany, .int v_t_fond, .ref a_t_prizes, .ref a_t_sightTicket, .ref a_t_sightRight, .ref a_t_sightHow, .int v_t_sights, .ref a_t_draws, .int v_t_drawMany, .ref a_t_sets, .int v_t_setMany, .ref a_t_winsLow, .ref a_t_winsHigh, .ref a_t_pad, .int v_t_padMany, .long v_t_low, .long v_t_high, .ref a_t_could, .int v_t_couldMany, .ref a_t_row, .ref a_t_best, .ref a_t_kept, .ref a_t_isKept, .int v_t_keptAt, .int v_t_isWriting])), (a_t_draws, .inl (I, 70, .inl v_t_draws)), (a_t_sightHow, .inl (I, 6, .inl v_t_sightHow)), (a_t_sightRight, .inl (I, 6, .inl v_t_sightRight)), (a_t_sightTicket, .inl (I, 6, .inl v_t_sightTicket)), (a_t_tickets, .inl (I, 6, .inl v_t_tickets))] (PoI out D [(a_t, .inr (10, [.int v_t_numbers, .int v_t_onTicket, .int v_t_drawn, .int v_t_due, .ref a_t_tickets, .int v_t_ticketMany, .int v_t_fond, .ref a_t_prizes, .ref a_t_sightTicket, .ref a_t_sightRight, .ref a_t_sightHow, .int v_t_sights, .ref a_t_draws, .int v_t_drawMany, .ref a_t_sets, .int v_t_setMany, .ref a_t_winsLow, .ref a_t_winsHigh, .ref a_t_pad, .int v_t_padMany, .long v_t_low, .long v_t_high, .ref a_t_could, .int v_t_couldMany, .ref a_t_row, .ref a_t_best, .ref a_t_kept, .ref a_t_isKept, .int v_t_keptAt, .int v_t_isWriting])), (a_t_draws, .inl (I, 70, .inl v_t_draws)), (a_t_sightHow, .inl (I, 6, .inl v_t_sightHow)), (a_t_sightRight, .inl (I, 6, .inl v_t_sightRight)), (a_t_sightTicket, .inl (I, 6, .inl v_t_sightTicket)), (a_t_tickets, .inl (I, 6, .inl v_t_tickets))]) := by
  unfold f_Model_surely at h
  refine CT_of R_Model (by decide +kernel) rfl (Nat.le_of_ble_eq_true rfl) ?_
  intro p e R s m args below meth c A ls Q hR1 hR2 hQ hC hr hW hA hl
  have hx := hC.1
  have hb := hC.2.1
  have hl : lv_has ls 7 [(0, .ref a_t), (1, .int p0)] := hl
  have lp33 : ∀ (n : Nat) (x1 : Int32) (x2 : Int32) (x3 : Int32) (x4 : Int32) (x5 : Int32) (x6 : Int32) (yx2 : Int32) (yx4 : Int32) (yx5 : Int32) (yx6 : Int32), L_Model_surely_33 v_t_drawMany v_t_sights v_t_draws v_t_sightHow v_t_sightRight v_t_sightTicket v_t_tickets n x2 x4 x5 x6 = some (yx2, yx4, yx5, yx6) →
    (∀ H locs, Wd D A s.heap [(a_t, .inr (10, [.int v_t_numbers, .int v_t_onTicket, .int v_t_drawn, .int v_t_due, .ref a_t_tickets, .int v_t_ticketMany, .int v_t_fond, .ref a_t_prizes, .ref a_t_sightTicket, .ref a_t_sightRight, .ref a_t_sightHow, .int v_t_sights, .ref a_t_draws, .int v_t_drawMany, .ref a_t_sets, .int v_t_setMany, .ref a_t_winsLow, .ref a_t_winsHigh, .ref a_t_pad, .int v_t_padMany, .long v_t_low, .long v_t_high, .ref a_t_could, .int v_t_couldMany, .ref a_t_row, .ref a_t_best, .ref a_t_kept, .ref a_t_isKept, .int v_t_keptAt, .int v_t_isWriting])), (a_t_draws, .inl (I, 70, .inl v_t_draws)), (a_t_sightHow, .inl (I, 6, .inl v_t_sightHow)), (a_t_sightRight, .inl (I, 6, .inl v_t_sightRight)), (a_t_sightTicket, .inl (I, 6, .inl v_t_sightTicket)), (a_t_tickets, .inl (I, 6, .inl v_t_tickets))] H locs → ∀ ls, lv_has ls 7 [(0, .ref a_t), (1, .int x1), (2, .int yx2), (3, .int x3), (4, .int yx4), (5, .int yx5), (6, .int yx6)] → W p l e R s m args below meth c H locs 0 0 Q (F0 m 89 ls [])) →
    ∀ H locs, Wd D A s.heap [(a_t, .inr (10, [.int v_t_numbers, .int v_t_onTicket, .int v_t_drawn, .int v_t_due, .ref a_t_tickets, .int v_t_ticketMany, .int v_t_fond, .ref a_t_prizes, .ref a_t_sightTicket, .ref a_t_sightRight, .ref a_t_sightHow, .int v_t_sights, .ref a_t_draws, .int v_t_drawMany, .ref a_t_sets, .int v_t_setMany, .ref a_t_winsLow, .ref a_t_winsHigh, .ref a_t_pad, .int v_t_padMany, .long v_t_low, .long v_t_high, .ref a_t_could, .int v_t_couldMany, .ref a_t_row, .ref a_t_best, .ref a_t_kept, .ref a_t_isKept, .int v_t_keptAt, .int v_t_isWriting])), (a_t_draws, .inl (I, 70, .inl v_t_draws)), (a_t_sightHow, .inl (I, 6, .inl v_t_sightHow)), (a_t_sightRight, .inl (I, 6, .inl v_t_sightRight)), (a_t_sightTicket, .inl (I, 6, .inl v_t_sightTicket)), (a_t_tickets, .inl (I, 6, .inl v_t_tickets))] H locs → ∀ ls, lv_has ls 7 [(0, .ref a_t), (1, .int x1), (2, .int x2), (3, .int x3), (4, .int x4), (5, .int x5), (6, .int x6)] → W p l e R s m args below meth c H locs 0 0 Q (F0 m 33 ls []) := by
    intro n
    induction n with
    | zero =>
      intro x1 x2 x3 x4 x5 x6 yx2 yx4 yx5 yx6 h
      exact no_e h
    | succ n ih =>
      intro x1 x2 x3 x4 x5 x6 yx2 yx4 yx5 yx6 h K H locs hW ls hl
      rw [L_Model_surely_33] at h
      refine lv_iload hx hb d_Model_surely_33 (lv_at hl 6 rfl) ?_
      refine lv_aload_n hx hb d_Model_surely_35 rfl (lv_at hl 0 rfl) ?_
      refine x_get hC hW 0 rfl fl_Model_86 rfl d_Model_surely_36 ?_
      refine lv_icmp_ge (tgt := 89) hx hb d_Model_surely_39 (by decide) (fun c_3 => ?_) (fun c_3 => ?_)
      · have h := it_e c_3 h
        cases h
        exact K _ _ hW ls (lv_sub hl [0, 1, 2, 3, 4, 5, 6] rfl)
      · have h := ie_e c_3 h
        refine lv_aload_n hx hb d_Model_surely_42 rfl (lv_at hl 0 rfl) ?_
        refine lv_aload_n hx hb d_Model_surely_43 rfl (lv_at hl 0 rfl) ?_
        refine x_get hC hW 0 rfl fl_Model_25 rfl d_Model_surely_44 ?_
        refine lv_iload hx hb d_Model_surely_47 (lv_at hl 6 rfl) ?_
        obtain ⟨hi_4, h⟩ := gd_e h
        refine x_iald hC hW 1 rfl hi_4 d_Model_surely_49 ?_
        obtain ⟨r_5, hc_5, h⟩ := bk1_e h
        refine x_ci (ws' := [(a_t, .inr (10, [.int v_t_numbers, .int v_t_onTicket, .int v_t_drawn, .int v_t_due, .ref a_t_tickets, .int v_t_ticketMany, .int v_t_fond, .ref a_t_prizes, .ref a_t_sightTicket, .ref a_t_sightRight, .ref a_t_sightHow, .int v_t_sights, .ref a_t_draws, .int v_t_drawMany, .ref a_t_sets, .int v_t_setMany, .ref a_t_winsLow, .ref a_t_winsHigh, .ref a_t_pad, .int v_t_padMany, .long v_t_low, .long v_t_high, .ref a_t_could, .int v_t_couldMany, .ref a_t_row, .ref a_t_best, .ref a_t_kept, .ref a_t_isKept, .int v_t_keptAt, .int v_t_isWriting])), (a_t_draws, .inl (I, 70, .inl v_t_draws)), (a_t_sightHow, .inl (I, 6, .inl v_t_sightHow)), (a_t_sightRight, .inl (I, 6, .inl v_t_sightRight)), (a_t_sightTicket, .inl (I, 6, .inl v_t_sightTicket)), (a_t_tickets, .inl (I, 6, .inl v_t_tickets))]) (x_runV (As := [.int (v_t_draws x6.toNatClampNeg)]) (rest := []) hC hW (c_Model_holds l D I J Z a_t a_t_sightHow a_t_sightRight a_t_sightTicket a_t_tickets a_t_prizes a_t_draws a_t_sets a_t_winsLow a_t_winsHigh a_t_pad a_t_could a_t_row a_t_best a_t_kept a_t_isKept v_t_numbers v_t_onTicket v_t_drawn v_t_due v_t_ticketMany v_t_fond v_t_sights v_t_drawMany v_t_setMany v_t_padMany v_t_low v_t_high v_t_couldMany v_t_keptAt v_t_isWriting v_t_sightHow v_t_sightRight v_t_sightTicket v_t_tickets (v_t_draws x6.toNatClampNeg) (r_5) hc_5) cl_Model_186 q_code_Model_holds [0, 2, 3, 4, 5] rfl (by decide) 0 rfl rfl rfl rfl hl.1 (Nat.le_of_ble_eq_true rfl) (rm_ok hR1 hR2 (by decide) (by decide)) ⟨Nat.zero_le _, Nat.zero_le _⟩ d_Model_surely_50) hW hA [0, 2, 3, 4, 5] rfl rfl (ps := [some 0, none, some 1, some 2, some 3, some 4]) (by decide +kernel) ⟨rfl, rfl, rfl, rfl, rfl, rfl, trivial⟩ (fun H locs hW => ?_)
        refine lv_if_eq (tgt := 83) hx hb d_Model_surely_53 (by decide) (fun c_6 => ?_) (fun c_6 => ?_)
        · have h := it_e c_6 h
          refine lv_iinc (v := (x6 + (1 : Int32))) (lv' := [(6, .int (x6 + (1 : Int32))), (0, .ref a_t), (1, .int x1), (2, .int x2), (3, .int x3), (4, .int x4), (5, .int x5)]) hx hb d_Model_surely_83 hl (k := 6) rfl (iinc_e (by decide)) (by decide) rfl (fun ls hl => ?_)
          refine lv_goto (tgt := 33) hx hb d_Model_surely_86 (by decide) ?_
          exact ih x1 x2 x3 x4 x5 (x6 + (1 : Int32)) _ _ _ _ h K _ _ hW ls (lv_sub hl [1, 2, 3, 4, 5, 6, 0] rfl)
        · have h := ie_e c_6 h
          refine lv_iinc (v := (x2 + (1 : Int32))) (lv' := [(2, .int (x2 + (1 : Int32))), (0, .ref a_t), (1, .int x1), (3, .int x3), (4, .int x4), (5, .int x5), (6, .int x6)]) hx hb d_Model_surely_56 hl (k := 2) rfl (iinc_e (by decide)) (by decide) rfl (fun ls hl => ?_)
          refine lv_iload hx hb d_Model_surely_59 (lv_at hl 4 rfl) ?_
          refine lv_aload_n hx hb d_Model_surely_61 rfl (lv_at hl 1 rfl) ?_
          refine x_get hC hW 0 rfl fl_Model_25 rfl d_Model_surely_62 ?_
          refine lv_iload hx hb d_Model_surely_65 (lv_at hl 6 rfl) ?_
          obtain ⟨hi_7, h⟩ := gd_e h
          refine x_iald hC hW 1 rfl hi_7 d_Model_surely_67 ?_
          refine lv_iand hx hb d_Model_surely_68 ?_
          refine lv_istore (lv' := [(4, .int (x4 &&& (v_t_draws x6.toNatClampNeg))), (2, .int (x2 + (1 : Int32))), (0, .ref a_t), (1, .int x1), (3, .int x3), (5, .int x5), (6, .int x6)]) hx hb d_Model_surely_69 hl (by decide) rfl (fun ls hl => ?_)
          refine lv_iload hx hb d_Model_surely_71 (lv_at hl 5 rfl) ?_
          refine lv_aload_n hx hb d_Model_surely_73 rfl (lv_at hl 2 rfl) ?_
          refine x_get hC hW 0 rfl fl_Model_25 rfl d_Model_surely_74 ?_
          refine lv_iload hx hb d_Model_surely_77 (lv_at hl 6 rfl) ?_
          obtain ⟨hi_8, h⟩ := gd_e h
          refine x_iald hC hW 1 rfl hi_8 d_Model_surely_79 ?_
          refine lv_ior hx hb d_Model_surely_80 ?_
          refine lv_istore (lv' := [(5, .int (x5 ||| (v_t_draws x6.toNatClampNeg))), (4, .int (x4 &&& (v_t_draws x6.toNatClampNeg))), (2, .int (x2 + (1 : Int32))), (0, .ref a_t), (1, .int x1), (3, .int x3), (6, .int x6)]) hx hb d_Model_surely_81 hl (by decide) rfl (fun ls hl => ?_)
          refine lv_iinc (v := (x6 + (1 : Int32))) (lv' := [(6, .int (x6 + (1 : Int32))), (5, .int (x5 ||| (v_t_draws x6.toNatClampNeg))), (4, .int (x4 &&& (v_t_draws x6.toNatClampNeg))), (2, .int (x2 + (1 : Int32))), (0, .ref a_t), (1, .int x1), (3, .int x3)]) hx hb d_Model_surely_83 hl (k := 6) rfl (iinc_e (by decide)) (by decide) rfl (fun ls hl => ?_)
          refine lv_goto (tgt := 33) hx hb d_Model_surely_86 (by decide) ?_
          exact ih x1 (x2 + (1 : Int32)) x3 (x4 &&& (v_t_draws x6.toNatClampNeg)) (x5 ||| (v_t_draws x6.toNatClampNeg)) (x6 + (1 : Int32)) _ _ _ _ h K _ _ hW ls (lv_sub hl [4, 5, 3, 6, 2, 1, 0] rfl)
  refine lv_iload_n hx hb d_Model_surely_0 rfl (lv_at hl 1 rfl) ?_
  refine lv_i2l hx hb d_Model_surely_1 rfl ?_
  refine lv_lconst (v := (0 : Int64)) hx hb d_Model_surely_2 (by decide) ?_
  refine lv_lconst (v := (1 : Int64)) hx hb d_Model_surely_3 (by decide) ?_
  obtain ⟨r_1, hc_1, h⟩ := bk1_e h
  refine x_ci (ws' := [(a_t, .inr (10, [.int v_t_numbers, .int v_t_onTicket, .int v_t_drawn, .int v_t_due, .ref a_t_tickets, .int v_t_ticketMany, .int v_t_fond, .ref a_t_prizes, .ref a_t_sightTicket, .ref a_t_sightRight, .ref a_t_sightHow, .int v_t_sights, .ref a_t_draws, .int v_t_drawMany, .ref a_t_sets, .int v_t_setMany, .ref a_t_winsLow, .ref a_t_winsHigh, .ref a_t_pad, .int v_t_padMany, .long v_t_low, .long v_t_high, .ref a_t_could, .int v_t_couldMany, .ref a_t_row, .ref a_t_best, .ref a_t_kept, .ref a_t_isKept, .int v_t_keptAt, .int v_t_isWriting])), (a_t_draws, .inl (I, 70, .inl v_t_draws)), (a_t_sightHow, .inl (I, 6, .inl v_t_sightHow)), (a_t_sightRight, .inl (I, 6, .inl v_t_sightRight)), (a_t_sightTicket, .inl (I, 6, .inl v_t_sightTicket)), (a_t_tickets, .inl (I, 6, .inl v_t_tickets))]) (x_runS (rest := []) hC hW (c_Model_in l D I J Z p0.toInt64 (0 : Int64) (1 : Int64) (r_1) hc_1) cl_Model_111 q_code_Model_in [] rfl (by decide) rfl hl.1 (Nat.le_of_ble_eq_true rfl) (rm_ok hR1 hR2 (by decide) (by decide)) ⟨Nat.zero_le _, Nat.zero_le _⟩ d_Model_surely_4) hW hA [] rfl rfl (ps := [none, none, none, none, none, none]) (by decide +kernel) ⟨rfl, rfl, rfl, rfl, rfl, rfl, trivial⟩ (fun H locs hW => ?_)
  refine lv_if_ne (tgt := 13) hx hb d_Model_surely_7 (by decide) (fun c_2 => ?_) (fun c_2 => ?_)
  · have h := ie_e c_2 h
    refine lv_iconst (v := (0 : Int32)) hx hb d_Model_surely_13 (by decide) ?_
    refine lv_istore_n (lv' := [(2, .int (0 : Int32)), (0, .ref a_t), (1, .int p0)]) hx hb d_Model_surely_14 rfl hl (by decide) rfl (fun ls hl => ?_)
    refine lv_iconst (v := (1 : Int32)) hx hb d_Model_surely_15 (by decide) ?_
    refine lv_aload_n hx hb d_Model_surely_16 rfl (lv_at hl 1 rfl) ?_
    refine x_get hC hW 0 rfl fl_Model_61 rfl d_Model_surely_17 ?_
    refine lv_ishl hx hb d_Model_surely_20 ?_
    refine lv_iconst (v := (1 : Int32)) hx hb d_Model_surely_21 (by decide) ?_
    refine lv_isub hx hb d_Model_surely_22 ?_
    refine lv_istore_n (lv' := [(3, .int (((1 : Int32) <<< (v_t_numbers &&& 31)) - (1 : Int32))), (2, .int (0 : Int32)), (0, .ref a_t), (1, .int p0)]) hx hb d_Model_surely_23 rfl hl (by decide) rfl (fun ls hl => ?_)
    refine lv_iload_n hx hb d_Model_surely_24 rfl (lv_at hl 0 rfl) ?_
    refine lv_istore (lv' := [(4, .int (((1 : Int32) <<< (v_t_numbers &&& 31)) - (1 : Int32))), (3, .int (((1 : Int32) <<< (v_t_numbers &&& 31)) - (1 : Int32))), (2, .int (0 : Int32)), (0, .ref a_t), (1, .int p0)]) hx hb d_Model_surely_25 hl (by decide) rfl (fun ls hl => ?_)
    refine lv_iconst (v := (0 : Int32)) hx hb d_Model_surely_27 (by decide) ?_
    refine lv_istore (lv' := [(5, .int (0 : Int32)), (4, .int (((1 : Int32) <<< (v_t_numbers &&& 31)) - (1 : Int32))), (3, .int (((1 : Int32) <<< (v_t_numbers &&& 31)) - (1 : Int32))), (2, .int (0 : Int32)), (0, .ref a_t), (1, .int p0)]) hx hb d_Model_surely_28 hl (by decide) rfl (fun ls hl => ?_)
    refine lv_iconst (v := (0 : Int32)) hx hb d_Model_surely_30 (by decide) ?_
    refine lv_istore (lv' := [(6, .int (0 : Int32)), (5, .int (0 : Int32)), (4, .int (((1 : Int32) <<< (v_t_numbers &&& 31)) - (1 : Int32))), (3, .int (((1 : Int32) <<< (v_t_numbers &&& 31)) - (1 : Int32))), (2, .int (0 : Int32)), (0, .ref a_t), (1, .int p0)]) hx hb d_Model_surely_31 hl (by decide) rfl (fun ls hl => ?_)
    obtain ⟨yx2_9, yx4_9, yx5_9, yx6_9, hv_9, h⟩ := bk4_e h
    refine lp33 _ p0 (0 : Int32) (((1 : Int32) <<< (v_t_numbers &&& 31)) - (1 : Int32)) (((1 : Int32) <<< (v_t_numbers &&& 31)) - (1 : Int32)) (0 : Int32) (0 : Int32) yx2_9 yx4_9 yx5_9 yx6_9 hv_9 (fun H locs hW ls hl => ?_) _ _ hW ls (lv_sub hl [5, 6, 4, 3, 2, 1, 0] rfl)
    refine lv_iload_n hx hb d_Model_surely_89 rfl (lv_at hl 2 rfl) ?_
    refine lv_if_ne (tgt := 98) hx hb d_Model_surely_90 (by decide) (fun c_10 => ?_) (fun c_10 => ?_)
    · have h := ie_e c_10 h
      refine lv_iload_n hx hb d_Model_surely_98 rfl (lv_at hl 1 rfl) ?_
      refine lv_if_ne (tgt := 107) hx hb d_Model_surely_99 (by decide) (fun c_11 => ?_) (fun c_11 => ?_)
      · have h := ie_e c_11 h
        refine lv_iload_n hx hb d_Model_surely_107 rfl (lv_at hl 3 rfl) ?_
        refine lv_iload hx hb d_Model_surely_108 (lv_at hl 5 rfl) ?_
        refine lv_iconst (v := (-1 : Int32)) hx hb d_Model_surely_110 (by decide) ?_
        refine lv_ixor hx hb d_Model_surely_111 ?_
        refine lv_iand hx hb d_Model_surely_112 ?_
        cases h
        rw [hQ]
        exact x_iret hC hr hW d_Model_surely_113
      · have h := it_e c_11 h
        refine lv_iload hx hb d_Model_surely_102 (lv_at hl 4 rfl) ?_
        refine lv_goto (tgt := 113) hx hb d_Model_surely_104 (by decide) ?_
        cases h
        rw [hQ]
        exact x_iret hC hr hW d_Model_surely_113
    · have h := it_e c_10 h
      refine lv_bipush (v := (-5 : Int32)) hx hb d_Model_surely_93 (by decide) ?_
      refine lv_goto (tgt := 113) hx hb d_Model_surely_95 (by decide) ?_
      cases h
      rw [hQ]
      exact x_iret hC hr hW d_Model_surely_113
  · have h := it_e c_2 h
    refine lv_bipush (v := (-2 : Int32)) hx hb d_Model_surely_10 (by decide) ?_
    cases h
    rw [hQ]
    exact x_iret hC hr hW d_Model_surely_12

def L_Model_anyWins_5 (x1 : Int32) (x2 : Int32) (v_t_due : Int32) (v_t_ticketMany : Int32) (v_t_tickets : Nat → Int32) : Nat → Int32 → Int32 → Option (Int32 × Int32)
  | 0, _, _ => none
  | n + 1, x3, x4 => if v_t_ticketMany ≤ x4 then some (x3, x4) else if x3 = (0 : Int32) then if ((x1 >>> (x4 &&& 31)) &&& (1 : Int32)) = (1 : Int32) then gd x4 6 (bk1 (f_Model_wins v_t_due (v_t_tickets x4.toNatClampNeg) x2) fun r_5 => if r_5 = (0 : Int32) then L_Model_anyWins_5 x1 x2 v_t_due v_t_ticketMany v_t_tickets n (0 : Int32) (x4 + (1 : Int32)) else L_Model_anyWins_5 x1 x2 v_t_due v_t_ticketMany v_t_tickets n (1 : Int32) (x4 + (1 : Int32))) else L_Model_anyWins_5 x1 x2 v_t_due v_t_ticketMany v_t_tickets n (0 : Int32) (x4 + (1 : Int32)) else L_Model_anyWins_5 x1 x2 v_t_due v_t_ticketMany v_t_tickets n (1 : Int32) (x4 + (1 : Int32))
def f_Model_anyWins (v_t_due : Int32) (v_t_ticketMany : Int32) (v_t_tickets : Nat → Int32) (p0 : Int32) (p1 : Int32) : Option (Int32) :=
  bk2 (L_Model_anyWins_5 p0 p1 v_t_due v_t_ticketMany v_t_tickets 300 (0 : Int32) (0 : Int32)) fun yx3_7 yx4_7 => bz yx3_7 (some (yx3_7))
set_option maxHeartbeats 4000000 in
set_option maxRecDepth 100000 in
theorem c_Model_anyWins (l : Launch) (D : va_G) (I J Z : ClassId) (a_t : Nat) (a_t_tickets : Nat) (a_t_prizes : Nat) (a_t_sightTicket : Nat) (a_t_sightRight : Nat) (a_t_sightHow : Nat) (a_t_draws : Nat) (a_t_sets : Nat) (a_t_winsLow : Nat) (a_t_winsHigh : Nat) (a_t_pad : Nat) (a_t_could : Nat) (a_t_row : Nat) (a_t_best : Nat) (a_t_kept : Nat) (a_t_isKept : Nat)  (v_t_numbers : Int32) (v_t_onTicket : Int32) (v_t_drawn : Int32) (v_t_due : Int32) (v_t_ticketMany : Int32) (v_t_fond : Int32) (v_t_sights : Int32) (v_t_drawMany : Int32) (v_t_setMany : Int32) (v_t_padMany : Int32) (v_t_low : Int64) (v_t_high : Int64) (v_t_couldMany : Int32) (v_t_keptAt : Int32) (v_t_isWriting : Int32) (v_t_tickets : Nat → Int32) (p0 : Int32) (p1 : Int32) (out : (Int32)) (h : f_Model_anyWins v_t_due v_t_ticketMany v_t_tickets p0 p1 = some out) : CT l D I J Z y_Model_anyWins b_Model_anyWins 5 (some .boolean) 3 [.ref a_t, .int p0, .int p1] [(a_t, .inr (10, [.int v_t_numbers, .int v_t_onTicket, .int v_t_drawn, .int v_t_due, .ref a_t_tickets, .int v_t_ticketMany, .int v_t_fond, .ref a_t_prizes, .ref a_t_sightTicket, .ref a_t_sightRight, .ref a_t_sightHow, .int v_t_sights, .ref a_t_draws, .int v_t_drawMany, .ref a_t_sets, .int v_t_setMany, .ref a_t_winsLow, .ref a_t_winsHigh, .ref a_t_pad, .int v_t_padMany, .long v_t_low, .long v_t_high, .ref a_t_could, .int v_t_couldMany, .ref a_t_row, .ref a_t_best, .ref a_t_kept, .ref a_t_isKept, .int v_t_keptAt, .int v_t_isWriting])), (a_t_tickets, .inl (I, 6, .inl v_t_tickets))] (PoI out D [(a_t, .inr (10, [.int v_t_numbers, .int v_t_onTicket, .int v_t_drawn, .int v_t_due, .ref a_t_tickets, .int v_t_ticketMany, .int v_t_fond, .ref a_t_prizes, .ref a_t_sightTicket, .ref a_t_sightRight, .ref a_t_sightHow, .int v_t_sights, .ref a_t_draws, .int v_t_drawMany, .ref a_t_sets, .int v_t_setMany, .ref a_t_winsLow, .ref a_t_winsHigh, .ref a_t_pad, .int v_t_padMany, .long v_t_low, .long v_t_high, .ref a_t_could, .int v_t_couldMany, .ref a_t_row, .ref a_t_best, .ref a_t_kept, .ref a_t_isKept, .int v_t_keptAt, .int v_t_isWriting])), (a_t_tickets, .inl (I, 6, .inl v_t_tickets))]) := by
  unfold f_Model_anyWins at h
  refine CT_of R_Model (by decide +kernel) rfl (Nat.le_of_ble_eq_true rfl) ?_
  intro p e R s m args below meth c A ls Q hR1 hR2 hQ hC hr hW hA hl
  have hx := hC.1
  have hb := hC.2.1
  have hl : lv_has ls 5 [(0, .ref a_t), (1, .int p0), (2, .int p1)] := hl
  have lp5 : ∀ (n : Nat) (x1 : Int32) (x2 : Int32) (x3 : Int32) (x4 : Int32) (yx3 : Int32) (yx4 : Int32), L_Model_anyWins_5 x1 x2 v_t_due v_t_ticketMany v_t_tickets n x3 x4 = some (yx3, yx4) →
    (∀ H locs, Wd D A s.heap [(a_t, .inr (10, [.int v_t_numbers, .int v_t_onTicket, .int v_t_drawn, .int v_t_due, .ref a_t_tickets, .int v_t_ticketMany, .int v_t_fond, .ref a_t_prizes, .ref a_t_sightTicket, .ref a_t_sightRight, .ref a_t_sightHow, .int v_t_sights, .ref a_t_draws, .int v_t_drawMany, .ref a_t_sets, .int v_t_setMany, .ref a_t_winsLow, .ref a_t_winsHigh, .ref a_t_pad, .int v_t_padMany, .long v_t_low, .long v_t_high, .ref a_t_could, .int v_t_couldMany, .ref a_t_row, .ref a_t_best, .ref a_t_kept, .ref a_t_isKept, .int v_t_keptAt, .int v_t_isWriting])), (a_t_tickets, .inl (I, 6, .inl v_t_tickets))] H locs → ∀ ls, lv_has ls 5 [(0, .ref a_t), (1, .int x1), (2, .int x2), (3, .int yx3), (4, .int yx4)] → W p l e R s m args below meth c H locs 0 0 Q (F0 m 55 ls [])) →
    ∀ H locs, Wd D A s.heap [(a_t, .inr (10, [.int v_t_numbers, .int v_t_onTicket, .int v_t_drawn, .int v_t_due, .ref a_t_tickets, .int v_t_ticketMany, .int v_t_fond, .ref a_t_prizes, .ref a_t_sightTicket, .ref a_t_sightRight, .ref a_t_sightHow, .int v_t_sights, .ref a_t_draws, .int v_t_drawMany, .ref a_t_sets, .int v_t_setMany, .ref a_t_winsLow, .ref a_t_winsHigh, .ref a_t_pad, .int v_t_padMany, .long v_t_low, .long v_t_high, .ref a_t_could, .int v_t_couldMany, .ref a_t_row, .ref a_t_best, .ref a_t_kept, .ref a_t_isKept, .int v_t_keptAt, .int v_t_isWriting])), (a_t_tickets, .inl (I, 6, .inl v_t_tickets))] H locs → ∀ ls, lv_has ls 5 [(0, .ref a_t), (1, .int x1), (2, .int x2), (3, .int x3), (4, .int x4)] → W p l e R s m args below meth c H locs 0 0 Q (F0 m 5 ls []) := by
    intro n
    induction n with
    | zero =>
      intro x1 x2 x3 x4 yx3 yx4 h
      exact no_e h
    | succ n ih =>
      intro x1 x2 x3 x4 yx3 yx4 h K H locs hW ls hl
      rw [L_Model_anyWins_5] at h
      refine lv_iload hx hb d_Model_anyWins_5 (lv_at hl 4 rfl) ?_
      refine lv_aload_n hx hb d_Model_anyWins_7 rfl (lv_at hl 0 rfl) ?_
      refine x_get hC hW 0 rfl fl_Model_74 rfl d_Model_anyWins_8 ?_
      refine lv_icmp_ge (tgt := 55) hx hb d_Model_anyWins_11 (by decide) (fun c_1 => ?_) (fun c_1 => ?_)
      · have h := it_e c_1 h
        cases h
        exact K _ _ hW ls (lv_sub hl [0, 1, 2, 3, 4] rfl)
      · have h := ie_e c_1 h
        refine lv_iload_n hx hb d_Model_anyWins_14 rfl (lv_at hl 3 rfl) ?_
        refine lv_if_ne (tgt := 43) hx hb d_Model_anyWins_15 (by decide) (fun c_2 => ?_) (fun c_2 => ?_)
        · have h := ie_e c_2 h
          refine lv_iconst (v := (1 : Int32)) hx hb d_Model_anyWins_43 (by decide) ?_
          refine lv_goto (tgt := 48) hx hb d_Model_anyWins_44 (by decide) ?_
          refine lv_istore_n (lv' := [(3, .int (1 : Int32)), (0, .ref a_t), (1, .int x1), (2, .int x2), (4, .int x4)]) hx hb d_Model_anyWins_48 rfl hl (by decide) rfl (fun ls hl => ?_)
          refine lv_iinc (v := (x4 + (1 : Int32))) (lv' := [(4, .int (x4 + (1 : Int32))), (3, .int (1 : Int32)), (0, .ref a_t), (1, .int x1), (2, .int x2)]) hx hb d_Model_anyWins_49 hl (k := 4) rfl (iinc_e (by decide)) (by decide) rfl (fun ls hl => ?_)
          refine lv_goto (tgt := 5) hx hb d_Model_anyWins_52 (by decide) ?_
          exact ih x1 x2 (1 : Int32) (x4 + (1 : Int32)) _ _ h K _ _ hW ls (lv_sub hl [2, 3, 4, 1, 0] rfl)
        · have h := it_e c_2 h
          refine lv_iload_n hx hb d_Model_anyWins_18 rfl (lv_at hl 1 rfl) ?_
          refine lv_iload hx hb d_Model_anyWins_19 (lv_at hl 4 rfl) ?_
          refine lv_ishr hx hb d_Model_anyWins_21 ?_
          refine lv_iconst (v := (1 : Int32)) hx hb d_Model_anyWins_22 (by decide) ?_
          refine lv_iand hx hb d_Model_anyWins_23 ?_
          refine lv_iconst (v := (1 : Int32)) hx hb d_Model_anyWins_24 (by decide) ?_
          refine lv_icmp_ne (tgt := 47) hx hb d_Model_anyWins_25 (by decide) (fun c_3 => ?_) (fun c_3 => ?_)
          · have h := ie_e c_3 h
            refine lv_iconst (v := (0 : Int32)) hx hb d_Model_anyWins_47 (by decide) ?_
            refine lv_istore_n (lv' := [(3, .int (0 : Int32)), (0, .ref a_t), (1, .int x1), (2, .int x2), (4, .int x4)]) hx hb d_Model_anyWins_48 rfl hl (by decide) rfl (fun ls hl => ?_)
            refine lv_iinc (v := (x4 + (1 : Int32))) (lv' := [(4, .int (x4 + (1 : Int32))), (3, .int (0 : Int32)), (0, .ref a_t), (1, .int x1), (2, .int x2)]) hx hb d_Model_anyWins_49 hl (k := 4) rfl (iinc_e (by decide)) (by decide) rfl (fun ls hl => ?_)
            refine lv_goto (tgt := 5) hx hb d_Model_anyWins_52 (by decide) ?_
            exact ih x1 x2 (0 : Int32) (x4 + (1 : Int32)) _ _ h K _ _ hW ls (lv_sub hl [2, 3, 4, 1, 0] rfl)
          · have h := it_e c_3 h
            refine lv_aload_n hx hb d_Model_anyWins_28 rfl (lv_at hl 0 rfl) ?_
            refine lv_aload_n hx hb d_Model_anyWins_29 rfl (lv_at hl 0 rfl) ?_
            refine x_get hC hW 0 rfl fl_Model_7 rfl d_Model_anyWins_30 ?_
            refine lv_iload hx hb d_Model_anyWins_33 (lv_at hl 4 rfl) ?_
            obtain ⟨hi_4, h⟩ := gd_e h
            refine x_iald hC hW 1 rfl hi_4 d_Model_anyWins_35 ?_
            refine lv_iload_n hx hb d_Model_anyWins_36 rfl (lv_at hl 2 rfl) ?_
            obtain ⟨r_5, hc_5, h⟩ := bk1_e h
            refine x_ci (ws' := [(a_t, .inr (10, [.int v_t_numbers, .int v_t_onTicket, .int v_t_drawn, .int v_t_due, .ref a_t_tickets, .int v_t_ticketMany, .int v_t_fond, .ref a_t_prizes, .ref a_t_sightTicket, .ref a_t_sightRight, .ref a_t_sightHow, .int v_t_sights, .ref a_t_draws, .int v_t_drawMany, .ref a_t_sets, .int v_t_setMany, .ref a_t_winsLow, .ref a_t_winsHigh, .ref a_t_pad, .int v_t_padMany, .long v_t_low, .long v_t_high, .ref a_t_could, .int v_t_couldMany, .ref a_t_row, .ref a_t_best, .ref a_t_kept, .ref a_t_isKept, .int v_t_keptAt, .int v_t_isWriting])), (a_t_tickets, .inl (I, 6, .inl v_t_tickets))]) (x_runV (As := [.int (v_t_tickets x4.toNatClampNeg), .int x2]) (rest := []) hC hW (c_Model_wins l D I J Z a_t a_t_tickets a_t_prizes a_t_sightTicket a_t_sightRight a_t_sightHow a_t_draws a_t_sets a_t_winsLow a_t_winsHigh a_t_pad a_t_could a_t_row a_t_best a_t_kept a_t_isKept v_t_numbers v_t_onTicket v_t_drawn v_t_due v_t_ticketMany v_t_fond v_t_sights v_t_drawMany v_t_setMany v_t_padMany v_t_low v_t_high v_t_couldMany v_t_keptAt v_t_isWriting (v_t_tickets x4.toNatClampNeg) x2 (r_5) hc_5) cl_Model_103 q_code_Model_wins [0] rfl (by decide) 0 rfl rfl rfl rfl hl.1 (Nat.le_of_ble_eq_true rfl) (rm_ok hR1 hR2 (by decide) (by decide)) ⟨Nat.zero_le _, Nat.zero_le _⟩ d_Model_anyWins_37) hW hA [0] rfl rfl (ps := [some 0, none]) (by decide +kernel) ⟨rfl, rfl, trivial⟩ (fun H locs hW => ?_)
            refine lv_if_eq (tgt := 47) hx hb d_Model_anyWins_40 (by decide) (fun c_6 => ?_) (fun c_6 => ?_)
            · have h := it_e c_6 h
              refine lv_iconst (v := (0 : Int32)) hx hb d_Model_anyWins_47 (by decide) ?_
              refine lv_istore_n (lv' := [(3, .int (0 : Int32)), (0, .ref a_t), (1, .int x1), (2, .int x2), (4, .int x4)]) hx hb d_Model_anyWins_48 rfl hl (by decide) rfl (fun ls hl => ?_)
              refine lv_iinc (v := (x4 + (1 : Int32))) (lv' := [(4, .int (x4 + (1 : Int32))), (3, .int (0 : Int32)), (0, .ref a_t), (1, .int x1), (2, .int x2)]) hx hb d_Model_anyWins_49 hl (k := 4) rfl (iinc_e (by decide)) (by decide) rfl (fun ls hl => ?_)
              refine lv_goto (tgt := 5) hx hb d_Model_anyWins_52 (by decide) ?_
              exact ih x1 x2 (0 : Int32) (x4 + (1 : Int32)) _ _ h K _ _ hW ls (lv_sub hl [2, 3, 4, 1, 0] rfl)
            · have h := ie_e c_6 h
              refine lv_iconst (v := (1 : Int32)) hx hb d_Model_anyWins_43 (by decide) ?_
              refine lv_goto (tgt := 48) hx hb d_Model_anyWins_44 (by decide) ?_
              refine lv_istore_n (lv' := [(3, .int (1 : Int32)), (0, .ref a_t), (1, .int x1), (2, .int x2), (4, .int x4)]) hx hb d_Model_anyWins_48 rfl hl (by decide) rfl (fun ls hl => ?_)
              refine lv_iinc (v := (x4 + (1 : Int32))) (lv' := [(4, .int (x4 + (1 : Int32))), (3, .int (1 : Int32)), (0, .ref a_t), (1, .int x1), (2, .int x2)]) hx hb d_Model_anyWins_49 hl (k := 4) rfl (iinc_e (by decide)) (by decide) rfl (fun ls hl => ?_)
              refine lv_goto (tgt := 5) hx hb d_Model_anyWins_52 (by decide) ?_
              exact ih x1 x2 (1 : Int32) (x4 + (1 : Int32)) _ _ h K _ _ hW ls (lv_sub hl [2, 3, 4, 1, 0] rfl)
  refine lv_iconst (v := (0 : Int32)) hx hb d_Model_anyWins_0 (by decide) ?_
  refine lv_istore_n (lv' := [(3, .int (0 : Int32)), (0, .ref a_t), (1, .int p0), (2, .int p1)]) hx hb d_Model_anyWins_1 rfl hl (by decide) rfl (fun ls hl => ?_)
  refine lv_iconst (v := (0 : Int32)) hx hb d_Model_anyWins_2 (by decide) ?_
  refine lv_istore (lv' := [(4, .int (0 : Int32)), (3, .int (0 : Int32)), (0, .ref a_t), (1, .int p0), (2, .int p1)]) hx hb d_Model_anyWins_3 hl (by decide) rfl (fun ls hl => ?_)
  obtain ⟨yx3_7, yx4_7, hv_7, h⟩ := bk2_e h
  refine lp5 _ p0 p1 (0 : Int32) (0 : Int32) yx3_7 yx4_7 hv_7 (fun H locs hW ls hl => ?_) _ _ hW ls (lv_sub hl [2, 3, 4, 1, 0] rfl)
  refine lv_iload_n hx hb d_Model_anyWins_55 rfl (lv_at hl 3 rfl) ?_
  obtain ⟨hn_8, h⟩ := bz_e h
  cases h
  rw [hQ]
  exact x_zret hC hr hn_8 hW d_Model_anyWins_56

def L_Model_alone_40 (x1 : Int32) (x2 : Int32) (v_t_drawMany : Int32) (v_t_due : Int32) (v_t_ticketMany : Int32) (v_t_draws : Nat → Int32) (v_t_tickets : Nat → Int32) : Nat → Int32 → Int32 → Option (Int32 × Int32)
  | 0, _, _ => none
  | n + 1, x4, x5 => if v_t_drawMany ≤ x5 then some (x4, x5) else gd x5 70 (bk1 (f_Model_anyWins v_t_due v_t_ticketMany v_t_tickets x1 (v_t_draws x5.toNatClampNeg)) fun r_7 => if r_7 = (0 : Int32) then L_Model_alone_40 x1 x2 v_t_drawMany v_t_due v_t_ticketMany v_t_draws v_t_tickets n (x4 + (0 : Int32)) (x5 + (1 : Int32)) else gd x5 70 (bk1 (f_Model_anyWins v_t_due v_t_ticketMany v_t_tickets x2 (v_t_draws x5.toNatClampNeg)) fun r_10 => if r_10 = (0 : Int32) then L_Model_alone_40 x1 x2 v_t_drawMany v_t_due v_t_ticketMany v_t_draws v_t_tickets n (x4 + (1 : Int32)) (x5 + (1 : Int32)) else L_Model_alone_40 x1 x2 v_t_drawMany v_t_due v_t_ticketMany v_t_draws v_t_tickets n (x4 + (0 : Int32)) (x5 + (1 : Int32))))
def f_Model_alone (v_t_drawMany : Int32) (v_t_due : Int32) (v_t_ticketMany : Int32) (v_t_draws : Nat → Int32) (v_t_tickets : Nat → Int32) (p0 : Int32) (p1 : Int32) : Option (Int32) :=
  bk1 (f_Model_in p0.toInt64 (0 : Int64) (((1 : Int32) <<< (v_t_ticketMany &&& 31)) - (1 : Int32)).toInt64) fun r_1 => if r_1 = (0 : Int32) then some ((-2 : Int32)) else bk1 (f_Model_in p1.toInt64 (0 : Int64) (((1 : Int32) <<< (v_t_ticketMany &&& 31)) - (1 : Int32)).toInt64) fun r_3 => if r_3 = (0 : Int32) then some ((-2 : Int32)) else bk2 (L_Model_alone_40 p0 p1 v_t_drawMany v_t_due v_t_ticketMany v_t_draws v_t_tickets 300 (0 : Int32) (0 : Int32)) fun yx4_12 yx5_12 => some (yx4_12)
set_option maxHeartbeats 4000000 in
set_option maxRecDepth 100000 in
theorem c_Model_alone (l : Launch) (D : va_G) (I J Z : ClassId) (a_t : Nat) (a_t_draws : Nat) (a_t_tickets : Nat) (a_t_prizes : Nat) (a_t_sightTicket : Nat) (a_t_sightRight : Nat) (a_t_sightHow : Nat) (a_t_sets : Nat) (a_t_winsLow : Nat) (a_t_winsHigh : Nat) (a_t_pad : Nat) (a_t_could : Nat) (a_t_row : Nat) (a_t_best : Nat) (a_t_kept : Nat) (a_t_isKept : Nat)  (v_t_numbers : Int32) (v_t_onTicket : Int32) (v_t_drawn : Int32) (v_t_due : Int32) (v_t_ticketMany : Int32) (v_t_fond : Int32) (v_t_sights : Int32) (v_t_drawMany : Int32) (v_t_setMany : Int32) (v_t_padMany : Int32) (v_t_low : Int64) (v_t_high : Int64) (v_t_couldMany : Int32) (v_t_keptAt : Int32) (v_t_isWriting : Int32) (v_t_draws : Nat → Int32) (v_t_tickets : Nat → Int32) (p0 : Int32) (p1 : Int32) (out : (Int32)) (h : f_Model_alone v_t_drawMany v_t_due v_t_ticketMany v_t_draws v_t_tickets p0 p1 = some out) : CT l D I J Z y_Model_alone b_Model_alone 6 (some .int) 4 [.ref a_t, .int p0, .int p1] [(a_t, .inr (10, [.int v_t_numbers, .int v_t_onTicket, .int v_t_drawn, .int v_t_due, .ref a_t_tickets, .int v_t_ticketMany, .int v_t_fond, .ref a_t_prizes, .ref a_t_sightTicket, .ref a_t_sightRight, .ref a_t_sightHow, .int v_t_sights, .ref a_t_draws, .int v_t_drawMany, .ref a_t_sets, .int v_t_setMany, .ref a_t_winsLow, .ref a_t_winsHigh, .ref a_t_pad, .int v_t_padMany, .long v_t_low, .long v_t_high, .ref a_t_could, .int v_t_couldMany, .ref a_t_row, .ref a_t_best, .ref a_t_kept, .ref a_t_isKept, .int v_t_keptAt, .int v_t_isWriting])), (a_t_draws, .inl (I, 70, .inl v_t_draws)), (a_t_tickets, .inl (I, 6, .inl v_t_tickets))] (PoI out D [(a_t, .inr (10, [.int v_t_numbers, .int v_t_onTicket, .int v_t_drawn, .int v_t_due, .ref a_t_tickets, .int v_t_ticketMany, .int v_t_fond, .ref a_t_prizes, .ref a_t_sightTicket, .ref a_t_sightRight, .ref a_t_sightHow, .int v_t_sights, .ref a_t_draws, .int v_t_drawMany, .ref a_t_sets, .int v_t_setMany, .ref a_t_winsLow, .ref a_t_winsHigh, .ref a_t_pad, .int v_t_padMany, .long v_t_low, .long v_t_high, .ref a_t_could, .int v_t_couldMany, .ref a_t_row, .ref a_t_best, .ref a_t_kept, .ref a_t_isKept, .int v_t_keptAt, .int v_t_isWriting])), (a_t_draws, .inl (I, 70, .inl v_t_draws)), (a_t_tickets, .inl (I, 6, .inl v_t_tickets))]) := by
  unfold f_Model_alone at h
  refine CT_of R_Model (by decide +kernel) rfl (Nat.le_of_ble_eq_true rfl) ?_
  intro p e R s m args below meth c A ls Q hR1 hR2 hQ hC hr hW hA hl
  have hx := hC.1
  have hb := hC.2.1
  have hl : lv_has ls 6 [(0, .ref a_t), (1, .int p0), (2, .int p1)] := hl
  have lp40 : ∀ (n : Nat) (x1 : Int32) (x2 : Int32) (x4 : Int32) (x5 : Int32) (yx4 : Int32) (yx5 : Int32), L_Model_alone_40 x1 x2 v_t_drawMany v_t_due v_t_ticketMany v_t_draws v_t_tickets n x4 x5 = some (yx4, yx5) →
    (∀ H locs, Wd D A s.heap [(a_t, .inr (10, [.int v_t_numbers, .int v_t_onTicket, .int v_t_drawn, .int v_t_due, .ref a_t_tickets, .int v_t_ticketMany, .int v_t_fond, .ref a_t_prizes, .ref a_t_sightTicket, .ref a_t_sightRight, .ref a_t_sightHow, .int v_t_sights, .ref a_t_draws, .int v_t_drawMany, .ref a_t_sets, .int v_t_setMany, .ref a_t_winsLow, .ref a_t_winsHigh, .ref a_t_pad, .int v_t_padMany, .long v_t_low, .long v_t_high, .ref a_t_could, .int v_t_couldMany, .ref a_t_row, .ref a_t_best, .ref a_t_kept, .ref a_t_isKept, .int v_t_keptAt, .int v_t_isWriting])), (a_t_draws, .inl (I, 70, .inl v_t_draws)), (a_t_tickets, .inl (I, 6, .inl v_t_tickets))] H locs → ∀ ls, lv_has ls 6 [(0, .ref a_t), (1, .int x1), (2, .int x2), (4, .int yx4), (5, .int yx5)] → W p l e R s m args below meth c H locs 0 0 Q (F0 m 95 ls [])) →
    ∀ H locs, Wd D A s.heap [(a_t, .inr (10, [.int v_t_numbers, .int v_t_onTicket, .int v_t_drawn, .int v_t_due, .ref a_t_tickets, .int v_t_ticketMany, .int v_t_fond, .ref a_t_prizes, .ref a_t_sightTicket, .ref a_t_sightRight, .ref a_t_sightHow, .int v_t_sights, .ref a_t_draws, .int v_t_drawMany, .ref a_t_sets, .int v_t_setMany, .ref a_t_winsLow, .ref a_t_winsHigh, .ref a_t_pad, .int v_t_padMany, .long v_t_low, .long v_t_high, .ref a_t_could, .int v_t_couldMany, .ref a_t_row, .ref a_t_best, .ref a_t_kept, .ref a_t_isKept, .int v_t_keptAt, .int v_t_isWriting])), (a_t_draws, .inl (I, 70, .inl v_t_draws)), (a_t_tickets, .inl (I, 6, .inl v_t_tickets))] H locs → ∀ ls, lv_has ls 6 [(0, .ref a_t), (1, .int x1), (2, .int x2), (4, .int x4), (5, .int x5)] → W p l e R s m args below meth c H locs 0 0 Q (F0 m 40 ls []) := by
    intro n
    induction n with
    | zero =>
      intro x1 x2 x4 x5 yx4 yx5 h
      exact no_e h
    | succ n ih =>
      intro x1 x2 x4 x5 yx4 yx5 h K H locs hW ls hl
      rw [L_Model_alone_40] at h
      refine lv_iload hx hb d_Model_alone_40 (lv_at hl 4 rfl) ?_
      refine lv_aload_n hx hb d_Model_alone_42 rfl (lv_at hl 0 rfl) ?_
      refine x_get hC hW 0 rfl fl_Model_86 rfl d_Model_alone_43 ?_
      refine lv_icmp_ge (tgt := 95) hx hb d_Model_alone_46 (by decide) (fun c_5 => ?_) (fun c_5 => ?_)
      · have h := it_e c_5 h
        cases h
        exact K _ _ hW ls (lv_sub hl [0, 1, 2, 3, 4] rfl)
      · have h := ie_e c_5 h
        refine lv_iload hx hb d_Model_alone_49 (lv_at hl 3 rfl) ?_
        refine lv_aload_n hx hb d_Model_alone_51 rfl (lv_at hl 0 rfl) ?_
        refine lv_iload_n hx hb d_Model_alone_52 rfl (lv_at hl 1 rfl) ?_
        refine lv_aload_n hx hb d_Model_alone_53 rfl (lv_at hl 0 rfl) ?_
        refine x_get hC hW 0 rfl fl_Model_25 rfl d_Model_alone_54 ?_
        refine lv_iload hx hb d_Model_alone_57 (lv_at hl 4 rfl) ?_
        obtain ⟨hi_6, h⟩ := gd_e h
        refine x_iald hC hW 1 rfl hi_6 d_Model_alone_59 ?_
        obtain ⟨r_7, hc_7, h⟩ := bk1_e h
        refine x_ci (ws' := [(a_t, .inr (10, [.int v_t_numbers, .int v_t_onTicket, .int v_t_drawn, .int v_t_due, .ref a_t_tickets, .int v_t_ticketMany, .int v_t_fond, .ref a_t_prizes, .ref a_t_sightTicket, .ref a_t_sightRight, .ref a_t_sightHow, .int v_t_sights, .ref a_t_draws, .int v_t_drawMany, .ref a_t_sets, .int v_t_setMany, .ref a_t_winsLow, .ref a_t_winsHigh, .ref a_t_pad, .int v_t_padMany, .long v_t_low, .long v_t_high, .ref a_t_could, .int v_t_couldMany, .ref a_t_row, .ref a_t_best, .ref a_t_kept, .ref a_t_isKept, .int v_t_keptAt, .int v_t_isWriting])), (a_t_draws, .inl (I, 70, .inl v_t_draws)), (a_t_tickets, .inl (I, 6, .inl v_t_tickets))]) (x_runV (As := [.int x1, .int (v_t_draws x5.toNatClampNeg)]) (rest := [.int x4]) hC hW (c_Model_anyWins l D I J Z a_t a_t_tickets a_t_prizes a_t_sightTicket a_t_sightRight a_t_sightHow a_t_draws a_t_sets a_t_winsLow a_t_winsHigh a_t_pad a_t_could a_t_row a_t_best a_t_kept a_t_isKept v_t_numbers v_t_onTicket v_t_drawn v_t_due v_t_ticketMany v_t_fond v_t_sights v_t_drawMany v_t_setMany v_t_padMany v_t_low v_t_high v_t_couldMany v_t_keptAt v_t_isWriting v_t_tickets x1 (v_t_draws x5.toNatClampNeg) (r_7) hc_7) cl_Model_189 q_code_Model_anyWins [0, 2] rfl (by decide) 0 rfl rfl rfl rfl hl.1 (Nat.le_of_ble_eq_true rfl) (rm_ok hR1 hR2 (by decide) (by decide)) ⟨Nat.zero_le _, Nat.zero_le _⟩ d_Model_alone_60) hW hA [0, 2] rfl rfl (ps := [some 0, none, some 1]) (by decide +kernel) ⟨rfl, rfl, rfl, trivial⟩ (fun H locs hW => ?_)
        refine lv_if_eq (tgt := 85) hx hb d_Model_alone_63 (by decide) (fun c_8 => ?_) (fun c_8 => ?_)
        · have h := it_e c_8 h
          refine lv_iconst (v := (0 : Int32)) hx hb d_Model_alone_85 (by decide) ?_
          refine lv_iadd hx hb d_Model_alone_86 ?_
          refine lv_istore (lv' := [(4, .int (x4 + (0 : Int32))), (0, .ref a_t), (1, .int x1), (2, .int x2), (5, .int x5)]) hx hb d_Model_alone_87 hl (by decide) rfl (fun ls hl => ?_)
          refine lv_iinc (v := (x5 + (1 : Int32))) (lv' := [(5, .int (x5 + (1 : Int32))), (4, .int (x4 + (0 : Int32))), (0, .ref a_t), (1, .int x1), (2, .int x2)]) hx hb d_Model_alone_89 hl (k := 4) rfl (iinc_e (by decide)) (by decide) rfl (fun ls hl => ?_)
          refine lv_goto (tgt := 40) hx hb d_Model_alone_92 (by decide) ?_
          exact ih x1 x2 (x4 + (0 : Int32)) (x5 + (1 : Int32)) _ _ h K _ _ hW ls (lv_sub hl [2, 3, 4, 1, 0] rfl)
        · have h := ie_e c_8 h
          refine lv_aload_n hx hb d_Model_alone_66 rfl (lv_at hl 0 rfl) ?_
          refine lv_iload_n hx hb d_Model_alone_67 rfl (lv_at hl 2 rfl) ?_
          refine lv_aload_n hx hb d_Model_alone_68 rfl (lv_at hl 0 rfl) ?_
          refine x_get hC hW 0 rfl fl_Model_25 rfl d_Model_alone_69 ?_
          refine lv_iload hx hb d_Model_alone_72 (lv_at hl 4 rfl) ?_
          obtain ⟨hi_9, h⟩ := gd_e h
          refine x_iald hC hW 1 rfl hi_9 d_Model_alone_74 ?_
          obtain ⟨r_10, hc_10, h⟩ := bk1_e h
          refine x_ci (ws' := [(a_t, .inr (10, [.int v_t_numbers, .int v_t_onTicket, .int v_t_drawn, .int v_t_due, .ref a_t_tickets, .int v_t_ticketMany, .int v_t_fond, .ref a_t_prizes, .ref a_t_sightTicket, .ref a_t_sightRight, .ref a_t_sightHow, .int v_t_sights, .ref a_t_draws, .int v_t_drawMany, .ref a_t_sets, .int v_t_setMany, .ref a_t_winsLow, .ref a_t_winsHigh, .ref a_t_pad, .int v_t_padMany, .long v_t_low, .long v_t_high, .ref a_t_could, .int v_t_couldMany, .ref a_t_row, .ref a_t_best, .ref a_t_kept, .ref a_t_isKept, .int v_t_keptAt, .int v_t_isWriting])), (a_t_draws, .inl (I, 70, .inl v_t_draws)), (a_t_tickets, .inl (I, 6, .inl v_t_tickets))]) (x_runV (As := [.int x2, .int (v_t_draws x5.toNatClampNeg)]) (rest := [.int x4]) hC hW (c_Model_anyWins l D I J Z a_t a_t_tickets a_t_prizes a_t_sightTicket a_t_sightRight a_t_sightHow a_t_draws a_t_sets a_t_winsLow a_t_winsHigh a_t_pad a_t_could a_t_row a_t_best a_t_kept a_t_isKept v_t_numbers v_t_onTicket v_t_drawn v_t_due v_t_ticketMany v_t_fond v_t_sights v_t_drawMany v_t_setMany v_t_padMany v_t_low v_t_high v_t_couldMany v_t_keptAt v_t_isWriting v_t_tickets x2 (v_t_draws x5.toNatClampNeg) (r_10) hc_10) cl_Model_189 q_code_Model_anyWins [0, 2] rfl (by decide) 0 rfl rfl rfl rfl hl.1 (Nat.le_of_ble_eq_true rfl) (rm_ok hR1 hR2 (by decide) (by decide)) ⟨Nat.zero_le _, Nat.zero_le _⟩ d_Model_alone_75) hW hA [0, 2] rfl rfl (ps := [some 0, none, some 1]) (by decide +kernel) ⟨rfl, rfl, rfl, trivial⟩ (fun H locs hW => ?_)
          refine lv_if_ne (tgt := 85) hx hb d_Model_alone_78 (by decide) (fun c_11 => ?_) (fun c_11 => ?_)
          · have h := ie_e c_11 h
            refine lv_iconst (v := (0 : Int32)) hx hb d_Model_alone_85 (by decide) ?_
            refine lv_iadd hx hb d_Model_alone_86 ?_
            refine lv_istore (lv' := [(4, .int (x4 + (0 : Int32))), (0, .ref a_t), (1, .int x1), (2, .int x2), (5, .int x5)]) hx hb d_Model_alone_87 hl (by decide) rfl (fun ls hl => ?_)
            refine lv_iinc (v := (x5 + (1 : Int32))) (lv' := [(5, .int (x5 + (1 : Int32))), (4, .int (x4 + (0 : Int32))), (0, .ref a_t), (1, .int x1), (2, .int x2)]) hx hb d_Model_alone_89 hl (k := 4) rfl (iinc_e (by decide)) (by decide) rfl (fun ls hl => ?_)
            refine lv_goto (tgt := 40) hx hb d_Model_alone_92 (by decide) ?_
            exact ih x1 x2 (x4 + (0 : Int32)) (x5 + (1 : Int32)) _ _ h K _ _ hW ls (lv_sub hl [2, 3, 4, 1, 0] rfl)
          · have h := it_e c_11 h
            refine lv_iconst (v := (1 : Int32)) hx hb d_Model_alone_81 (by decide) ?_
            refine lv_goto (tgt := 86) hx hb d_Model_alone_82 (by decide) ?_
            refine lv_iadd hx hb d_Model_alone_86 ?_
            refine lv_istore (lv' := [(4, .int (x4 + (1 : Int32))), (0, .ref a_t), (1, .int x1), (2, .int x2), (5, .int x5)]) hx hb d_Model_alone_87 hl (by decide) rfl (fun ls hl => ?_)
            refine lv_iinc (v := (x5 + (1 : Int32))) (lv' := [(5, .int (x5 + (1 : Int32))), (4, .int (x4 + (1 : Int32))), (0, .ref a_t), (1, .int x1), (2, .int x2)]) hx hb d_Model_alone_89 hl (k := 4) rfl (iinc_e (by decide)) (by decide) rfl (fun ls hl => ?_)
            refine lv_goto (tgt := 40) hx hb d_Model_alone_92 (by decide) ?_
            exact ih x1 x2 (x4 + (1 : Int32)) (x5 + (1 : Int32)) _ _ h K _ _ hW ls (lv_sub hl [2, 3, 4, 1, 0] rfl)
  refine lv_iconst (v := (1 : Int32)) hx hb d_Model_alone_0 (by decide) ?_
  refine lv_aload_n hx hb d_Model_alone_1 rfl (lv_at hl 0 rfl) ?_
  refine x_get hC hW 0 rfl fl_Model_74 rfl d_Model_alone_2 ?_
  refine lv_ishl hx hb d_Model_alone_5 ?_
  refine lv_iconst (v := (1 : Int32)) hx hb d_Model_alone_6 (by decide) ?_
  refine lv_isub hx hb d_Model_alone_7 ?_
  refine lv_istore_n (lv' := [(3, .int (((1 : Int32) <<< (v_t_ticketMany &&& 31)) - (1 : Int32))), (0, .ref a_t), (1, .int p0), (2, .int p1)]) hx hb d_Model_alone_8 rfl hl (by decide) rfl (fun ls hl => ?_)
  refine lv_iload_n hx hb d_Model_alone_9 rfl (lv_at hl 2 rfl) ?_
  refine lv_i2l hx hb d_Model_alone_10 rfl ?_
  refine lv_lconst (v := (0 : Int64)) hx hb d_Model_alone_11 (by decide) ?_
  refine lv_iload_n hx hb d_Model_alone_12 rfl (lv_at hl 0 rfl) ?_
  refine lv_i2l hx hb d_Model_alone_13 rfl ?_
  obtain ⟨r_1, hc_1, h⟩ := bk1_e h
  refine x_ci (ws' := [(a_t, .inr (10, [.int v_t_numbers, .int v_t_onTicket, .int v_t_drawn, .int v_t_due, .ref a_t_tickets, .int v_t_ticketMany, .int v_t_fond, .ref a_t_prizes, .ref a_t_sightTicket, .ref a_t_sightRight, .ref a_t_sightHow, .int v_t_sights, .ref a_t_draws, .int v_t_drawMany, .ref a_t_sets, .int v_t_setMany, .ref a_t_winsLow, .ref a_t_winsHigh, .ref a_t_pad, .int v_t_padMany, .long v_t_low, .long v_t_high, .ref a_t_could, .int v_t_couldMany, .ref a_t_row, .ref a_t_best, .ref a_t_kept, .ref a_t_isKept, .int v_t_keptAt, .int v_t_isWriting])), (a_t_draws, .inl (I, 70, .inl v_t_draws)), (a_t_tickets, .inl (I, 6, .inl v_t_tickets))]) (x_runS (rest := []) hC hW (c_Model_in l D I J Z p0.toInt64 (0 : Int64) (((1 : Int32) <<< (v_t_ticketMany &&& 31)) - (1 : Int32)).toInt64 (r_1) hc_1) cl_Model_111 q_code_Model_in [] rfl (by decide) rfl hl.1 (Nat.le_of_ble_eq_true rfl) (rm_ok hR1 hR2 (by decide) (by decide)) ⟨Nat.zero_le _, Nat.zero_le _⟩ d_Model_alone_14) hW hA [] rfl rfl (ps := [none, none, none]) (by decide +kernel) ⟨rfl, rfl, rfl, trivial⟩ (fun H locs hW => ?_)
  refine lv_if_eq (tgt := 31) hx hb d_Model_alone_17 (by decide) (fun c_2 => ?_) (fun c_2 => ?_)
  · have h := it_e c_2 h
    refine lv_bipush (v := (-2 : Int32)) hx hb d_Model_alone_31 (by decide) ?_
    cases h
    rw [hQ]
    exact x_iret hC hr hW d_Model_alone_33
  · have h := ie_e c_2 h
    refine lv_iload_n hx hb d_Model_alone_20 rfl (lv_at hl 3 rfl) ?_
    refine lv_i2l hx hb d_Model_alone_21 rfl ?_
    refine lv_lconst (v := (0 : Int64)) hx hb d_Model_alone_22 (by decide) ?_
    refine lv_iload_n hx hb d_Model_alone_23 rfl (lv_at hl 0 rfl) ?_
    refine lv_i2l hx hb d_Model_alone_24 rfl ?_
    obtain ⟨r_3, hc_3, h⟩ := bk1_e h
    refine x_ci (ws' := [(a_t, .inr (10, [.int v_t_numbers, .int v_t_onTicket, .int v_t_drawn, .int v_t_due, .ref a_t_tickets, .int v_t_ticketMany, .int v_t_fond, .ref a_t_prizes, .ref a_t_sightTicket, .ref a_t_sightRight, .ref a_t_sightHow, .int v_t_sights, .ref a_t_draws, .int v_t_drawMany, .ref a_t_sets, .int v_t_setMany, .ref a_t_winsLow, .ref a_t_winsHigh, .ref a_t_pad, .int v_t_padMany, .long v_t_low, .long v_t_high, .ref a_t_could, .int v_t_couldMany, .ref a_t_row, .ref a_t_best, .ref a_t_kept, .ref a_t_isKept, .int v_t_keptAt, .int v_t_isWriting])), (a_t_draws, .inl (I, 70, .inl v_t_draws)), (a_t_tickets, .inl (I, 6, .inl v_t_tickets))]) (x_runS (rest := []) hC hW (c_Model_in l D I J Z p1.toInt64 (0 : Int64) (((1 : Int32) <<< (v_t_ticketMany &&& 31)) - (1 : Int32)).toInt64 (r_3) hc_3) cl_Model_111 q_code_Model_in [] rfl (by decide) rfl hl.1 (Nat.le_of_ble_eq_true rfl) (rm_ok hR1 hR2 (by decide) (by decide)) ⟨Nat.zero_le _, Nat.zero_le _⟩ d_Model_alone_25) hW hA [] rfl rfl (ps := [none, none, none]) (by decide +kernel) ⟨rfl, rfl, rfl, trivial⟩ (fun H locs hW => ?_)
    refine lv_if_ne (tgt := 34) hx hb d_Model_alone_28 (by decide) (fun c_4 => ?_) (fun c_4 => ?_)
    · have h := ie_e c_4 h
      refine lv_iconst (v := (0 : Int32)) hx hb d_Model_alone_34 (by decide) ?_
      refine lv_istore (lv' := [(4, .int (0 : Int32)), (3, .int (((1 : Int32) <<< (v_t_ticketMany &&& 31)) - (1 : Int32))), (0, .ref a_t), (1, .int p0), (2, .int p1)]) hx hb d_Model_alone_35 hl (by decide) rfl (fun ls hl => ?_)
      refine lv_iconst (v := (0 : Int32)) hx hb d_Model_alone_37 (by decide) ?_
      refine lv_istore (lv' := [(5, .int (0 : Int32)), (4, .int (0 : Int32)), (3, .int (((1 : Int32) <<< (v_t_ticketMany &&& 31)) - (1 : Int32))), (0, .ref a_t), (1, .int p0), (2, .int p1)]) hx hb d_Model_alone_38 hl (by decide) rfl (fun ls hl => ?_)
      obtain ⟨yx4_12, yx5_12, hv_12, h⟩ := bk2_e h
      refine lp40 _ p0 p1 (0 : Int32) (0 : Int32) yx4_12 yx5_12 hv_12 (fun H locs hW ls hl => ?_) _ _ hW ls (lv_sub hl [3, 4, 5, 1, 0] rfl)
      refine lv_iload hx hb d_Model_alone_95 (lv_at hl 3 rfl) ?_
      cases h
      rw [hQ]
      exact x_iret hC hr hW d_Model_alone_97
    · have h := it_e c_4 h
      refine lv_bipush (v := (-2 : Int32)) hx hb d_Model_alone_31 (by decide) ?_
      cases h
      rw [hQ]
      exact x_iret hC hr hW d_Model_alone_33

def L_Model_year_49 (x2 : Int32) (v_t_drawMany : Int32) (v_t_due : Int32) (v_t_ticketMany : Int32) (v_t_draws : Nat → Int32) (v_t_prizes : Nat → Int32) (v_t_tickets : Nat → Int32) : Nat → Int32 → Int32 → Int32 → Int32 → Option (Int32 × Int32 × Int32 × Int32)
  | 0, _, _, _, _ => none
  | n + 1, x4, x5, x6, x7 => if x2 ≤ x7 then some (x4, x5, x6, x7) else dzL (65537 : Int64) (dz v_t_drawMany (gd (((((75 : Int64) * x4.toInt64) + (74 : Int64)) - (((75 : Int64) * x4.toInt64) + (74 : Int64)) / (65537 : Int64) * (65537 : Int64)).toInt32 - ((((75 : Int64) * x4.toInt64) + (74 : Int64)) - (((75 : Int64) * x4.toInt64) + (74 : Int64)) / (65537 : Int64) * (65537 : Int64)).toInt32 / v_t_drawMany * v_t_drawMany) 70 (bk1 (f_Model_anyWins v_t_due v_t_ticketMany v_t_tickets (63 : Int32) (v_t_draws (((((75 : Int64) * x4.toInt64) + (74 : Int64)) - (((75 : Int64) * x4.toInt64) + (74 : Int64)) / (65537 : Int64) * (65537 : Int64)).toInt32 - ((((75 : Int64) * x4.toInt64) + (74 : Int64)) - (((75 : Int64) * x4.toInt64) + (74 : Int64)) / (65537 : Int64) * (65537 : Int64)).toInt32 / v_t_drawMany * v_t_drawMany).toNatClampNeg)) fun r_11 => if r_11 = (0 : Int32) then bk1 (f_Model_penceBy v_t_ticketMany v_t_prizes v_t_tickets (v_t_draws (((((75 : Int64) * x4.toInt64) + (74 : Int64)) - (((75 : Int64) * x4.toInt64) + (74 : Int64)) / (65537 : Int64) * (65537 : Int64)).toInt32 - ((((75 : Int64) * x4.toInt64) + (74 : Int64)) - (((75 : Int64) * x4.toInt64) + (74 : Int64)) / (65537 : Int64) * (65537 : Int64)).toInt32 / v_t_drawMany * v_t_drawMany).toNatClampNeg)) fun r_13 => L_Model_year_49 x2 v_t_drawMany v_t_due v_t_ticketMany v_t_draws v_t_prizes v_t_tickets n ((((75 : Int64) * x4.toInt64) + (74 : Int64)) - (((75 : Int64) * x4.toInt64) + (74 : Int64)) / (65537 : Int64) * (65537 : Int64)).toInt32 (x5 + (0 : Int32)) (x6 + r_13) (x7 + (1 : Int32)) else bk1 (f_Model_penceBy v_t_ticketMany v_t_prizes v_t_tickets (v_t_draws (((((75 : Int64) * x4.toInt64) + (74 : Int64)) - (((75 : Int64) * x4.toInt64) + (74 : Int64)) / (65537 : Int64) * (65537 : Int64)).toInt32 - ((((75 : Int64) * x4.toInt64) + (74 : Int64)) - (((75 : Int64) * x4.toInt64) + (74 : Int64)) / (65537 : Int64) * (65537 : Int64)).toInt32 / v_t_drawMany * v_t_drawMany).toNatClampNeg)) fun r_14 => L_Model_year_49 x2 v_t_drawMany v_t_due v_t_ticketMany v_t_draws v_t_prizes v_t_tickets n ((((75 : Int64) * x4.toInt64) + (74 : Int64)) - (((75 : Int64) * x4.toInt64) + (74 : Int64)) / (65537 : Int64) * (65537 : Int64)).toInt32 (x5 + (1 : Int32)) (x6 + r_14) (x7 + (1 : Int32)))))
def f_Model_year (v_t_drawMany : Int32) (v_t_due : Int32) (v_t_ticketMany : Int32) (v_t_draws : Nat → Int32) (v_t_prizes : Nat → Int32) (v_t_tickets : Nat → Int32) (p0 : Int32) (p1 : Int32) (p2 : Int32) : Option (Int32) :=
  bk1 (f_Model_in p0.toInt64 (0 : Int64) (9999 : Int64)) fun r_1 => if r_1 = (0 : Int32) then some ((-2 : Int32)) else bk1 (f_Model_in p1.toInt64 (1 : Int64) (99 : Int64)) fun r_3 => if r_3 = (0 : Int32) then some ((-2 : Int32)) else bk1 (f_Model_in p2.toInt64 (0 : Int64) (1 : Int64)) fun r_5 => if r_5 = (0 : Int32) then some ((-2 : Int32)) else bk4 (L_Model_year_49 p1 v_t_drawMany v_t_due v_t_ticketMany v_t_draws v_t_prizes v_t_tickets 300 p0 (0 : Int32) (0 : Int32) (0 : Int32)) fun yx4_15 yx5_15 yx6_15 yx7_15 => if p2 = (0 : Int32) then some (yx5_15) else some (yx6_15)
set_option maxHeartbeats 4000000 in
set_option maxRecDepth 100000 in
theorem c_Model_year (l : Launch) (D : va_G) (I J Z : ClassId) (a_t : Nat) (a_t_draws : Nat) (a_t_prizes : Nat) (a_t_tickets : Nat) (a_t_sightTicket : Nat) (a_t_sightRight : Nat) (a_t_sightHow : Nat) (a_t_sets : Nat) (a_t_winsLow : Nat) (a_t_winsHigh : Nat) (a_t_pad : Nat) (a_t_could : Nat) (a_t_row : Nat) (a_t_best : Nat) (a_t_kept : Nat) (a_t_isKept : Nat)  (v_t_numbers : Int32) (v_t_onTicket : Int32) (v_t_drawn : Int32) (v_t_due : Int32) (v_t_ticketMany : Int32) (v_t_fond : Int32) (v_t_sights : Int32) (v_t_drawMany : Int32) (v_t_setMany : Int32) (v_t_padMany : Int32) (v_t_low : Int64) (v_t_high : Int64) (v_t_couldMany : Int32) (v_t_keptAt : Int32) (v_t_isWriting : Int32) (v_t_draws : Nat → Int32) (v_t_prizes : Nat → Int32) (v_t_tickets : Nat → Int32) (p0 : Int32) (p1 : Int32) (p2 : Int32) (out : (Int32)) (h : f_Model_year v_t_drawMany v_t_due v_t_ticketMany v_t_draws v_t_prizes v_t_tickets p0 p1 p2 = some out) : CT l D I J Z y_Model_year b_Model_year 9 (some .int) 4 [.ref a_t, .int p0, .int p1, .int p2] [(a_t, .inr (10, [.int v_t_numbers, .int v_t_onTicket, .int v_t_drawn, .int v_t_due, .ref a_t_tickets, .int v_t_ticketMany, .int v_t_fond, .ref a_t_prizes, .ref a_t_sightTicket, .ref a_t_sightRight, .ref a_t_sightHow, .int v_t_sights, .ref a_t_draws, .int v_t_drawMany, .ref a_t_sets, .int v_t_setMany, .ref a_t_winsLow, .ref a_t_winsHigh, .ref a_t_pad, .int v_t_padMany, .long v_t_low, .long v_t_high, .ref a_t_could, .int v_t_couldMany, .ref a_t_row, .ref a_t_best, .ref a_t_kept, .ref a_t_isKept, .int v_t_keptAt, .int v_t_isWriting])), (a_t_draws, .inl (I, 70, .inl v_t_draws)), (a_t_prizes, .inl (I, 9, .inl v_t_prizes)), (a_t_tickets, .inl (I, 6, .inl v_t_tickets))] (PoI out D [(a_t, .inr (10, [.int v_t_numbers, .int v_t_onTicket, .int v_t_drawn, .int v_t_due, .ref a_t_tickets, .int v_t_ticketMany, .int v_t_fond, .ref a_t_prizes, .ref a_t_sightTicket, .ref a_t_sightRight, .ref a_t_sightHow, .int v_t_sights, .ref a_t_draws, .int v_t_drawMany, .ref a_t_sets, .int v_t_setMany, .ref a_t_winsLow, .ref a_t_winsHigh, .ref a_t_pad, .int v_t_padMany, .long v_t_low, .long v_t_high, .ref a_t_could, .int v_t_couldMany, .ref a_t_row, .ref a_t_best, .ref a_t_kept, .ref a_t_isKept, .int v_t_keptAt, .int v_t_isWriting])), (a_t_draws, .inl (I, 70, .inl v_t_draws)), (a_t_prizes, .inl (I, 9, .inl v_t_prizes)), (a_t_tickets, .inl (I, 6, .inl v_t_tickets))]) := by
  unfold f_Model_year at h
  refine CT_of R_Model (by decide +kernel) rfl (Nat.le_of_ble_eq_true rfl) ?_
  intro p e R s m args below meth c A ls Q hR1 hR2 hQ hC hr hW hA hl
  have hx := hC.1
  have hb := hC.2.1
  have hl : lv_has ls 9 [(0, .ref a_t), (1, .int p0), (2, .int p1), (3, .int p2)] := hl
  have lp49 : ∀ (n : Nat) (x2 : Int32) (x3 : Int32) (x4 : Int32) (x5 : Int32) (x6 : Int32) (x7 : Int32) (yx4 : Int32) (yx5 : Int32) (yx6 : Int32) (yx7 : Int32), L_Model_year_49 x2 v_t_drawMany v_t_due v_t_ticketMany v_t_draws v_t_prizes v_t_tickets n x4 x5 x6 x7 = some (yx4, yx5, yx6, yx7) →
    (∀ H locs, Wd D A s.heap [(a_t, .inr (10, [.int v_t_numbers, .int v_t_onTicket, .int v_t_drawn, .int v_t_due, .ref a_t_tickets, .int v_t_ticketMany, .int v_t_fond, .ref a_t_prizes, .ref a_t_sightTicket, .ref a_t_sightRight, .ref a_t_sightHow, .int v_t_sights, .ref a_t_draws, .int v_t_drawMany, .ref a_t_sets, .int v_t_setMany, .ref a_t_winsLow, .ref a_t_winsHigh, .ref a_t_pad, .int v_t_padMany, .long v_t_low, .long v_t_high, .ref a_t_could, .int v_t_couldMany, .ref a_t_row, .ref a_t_best, .ref a_t_kept, .ref a_t_isKept, .int v_t_keptAt, .int v_t_isWriting])), (a_t_draws, .inl (I, 70, .inl v_t_draws)), (a_t_prizes, .inl (I, 9, .inl v_t_prizes)), (a_t_tickets, .inl (I, 6, .inl v_t_tickets))] H locs → ∀ ls, lv_has ls 9 [(0, .ref a_t), (2, .int x2), (3, .int x3), (4, .int yx4), (5, .int yx5), (6, .int yx6), (7, .int yx7)] → W p l e R s m args below meth c H locs 0 0 Q (F0 m 125 ls [])) →
    ∀ H locs, Wd D A s.heap [(a_t, .inr (10, [.int v_t_numbers, .int v_t_onTicket, .int v_t_drawn, .int v_t_due, .ref a_t_tickets, .int v_t_ticketMany, .int v_t_fond, .ref a_t_prizes, .ref a_t_sightTicket, .ref a_t_sightRight, .ref a_t_sightHow, .int v_t_sights, .ref a_t_draws, .int v_t_drawMany, .ref a_t_sets, .int v_t_setMany, .ref a_t_winsLow, .ref a_t_winsHigh, .ref a_t_pad, .int v_t_padMany, .long v_t_low, .long v_t_high, .ref a_t_could, .int v_t_couldMany, .ref a_t_row, .ref a_t_best, .ref a_t_kept, .ref a_t_isKept, .int v_t_keptAt, .int v_t_isWriting])), (a_t_draws, .inl (I, 70, .inl v_t_draws)), (a_t_prizes, .inl (I, 9, .inl v_t_prizes)), (a_t_tickets, .inl (I, 6, .inl v_t_tickets))] H locs → ∀ ls, lv_has ls 9 [(0, .ref a_t), (2, .int x2), (3, .int x3), (4, .int x4), (5, .int x5), (6, .int x6), (7, .int x7)] → W p l e R s m args below meth c H locs 0 0 Q (F0 m 49 ls []) := by
    intro n
    induction n with
    | zero =>
      intro x2 x3 x4 x5 x6 x7 yx4 yx5 yx6 yx7 h
      exact no_e h
    | succ n ih =>
      intro x2 x3 x4 x5 x6 x7 yx4 yx5 yx6 yx7 h K H locs hW ls hl
      rw [L_Model_year_49] at h
      refine lv_iload hx hb d_Model_year_49 (lv_at hl 6 rfl) ?_
      refine lv_iload_n hx hb d_Model_year_51 rfl (lv_at hl 1 rfl) ?_
      refine lv_icmp_ge (tgt := 125) hx hb d_Model_year_52 (by decide) (fun c_7 => ?_) (fun c_7 => ?_)
      · have h := it_e c_7 h
        cases h
        exact K _ _ hW ls (lv_sub hl [0, 1, 2, 3, 4, 5, 6] rfl)
      · have h := ie_e c_7 h
        refine x_ldc2 hC q_con_Model_196 d_Model_year_55 ?_
        refine lv_iload hx hb d_Model_year_58 (lv_at hl 3 rfl) ?_
        refine lv_i2l hx hb d_Model_year_60 rfl ?_
        refine lv_lmul hx hb d_Model_year_61 ?_
        refine x_ldc2 hC q_con_Model_198 d_Model_year_62 ?_
        refine lv_ladd hx hb d_Model_year_65 ?_
        refine x_ldc2 hC q_con_Model_200 d_Model_year_66 ?_
        obtain ⟨hz_8, h⟩ := dzL_e h
        refine lv_lrem hx hb d_Model_year_69 hz_8 ?_
        refine lv_l2i hx hb d_Model_year_70 rfl ?_
        refine lv_istore (lv' := [(4, .int ((((75 : Int64) * x4.toInt64) + (74 : Int64)) - (((75 : Int64) * x4.toInt64) + (74 : Int64)) / (65537 : Int64) * (65537 : Int64)).toInt32), (0, .ref a_t), (2, .int x2), (3, .int x3), (5, .int x5), (6, .int x6), (7, .int x7)]) hx hb d_Model_year_71 hl (by decide) rfl (fun ls hl => ?_)
        refine lv_aload_n hx hb d_Model_year_73 rfl (lv_at hl 1 rfl) ?_
        refine x_get hC hW 0 rfl fl_Model_25 rfl d_Model_year_74 ?_
        refine lv_iload hx hb d_Model_year_77 (lv_at hl 0 rfl) ?_
        refine lv_aload_n hx hb d_Model_year_79 rfl (lv_at hl 1 rfl) ?_
        refine x_get hC hW 0 rfl fl_Model_86 rfl d_Model_year_80 ?_
        obtain ⟨hz_9, h⟩ := dz_e h
        refine lv_irem hx hb d_Model_year_83 hz_9 ?_
        obtain ⟨hi_10, h⟩ := gd_e h
        refine x_iald hC hW 1 rfl hi_10 d_Model_year_84 ?_
        refine lv_istore (lv' := [(8, .int (v_t_draws (((((75 : Int64) * x4.toInt64) + (74 : Int64)) - (((75 : Int64) * x4.toInt64) + (74 : Int64)) / (65537 : Int64) * (65537 : Int64)).toInt32 - ((((75 : Int64) * x4.toInt64) + (74 : Int64)) - (((75 : Int64) * x4.toInt64) + (74 : Int64)) / (65537 : Int64) * (65537 : Int64)).toInt32 / v_t_drawMany * v_t_drawMany).toNatClampNeg)), (4, .int ((((75 : Int64) * x4.toInt64) + (74 : Int64)) - (((75 : Int64) * x4.toInt64) + (74 : Int64)) / (65537 : Int64) * (65537 : Int64)).toInt32), (0, .ref a_t), (2, .int x2), (3, .int x3), (5, .int x5), (6, .int x6), (7, .int x7)]) hx hb d_Model_year_85 hl (by decide) rfl (fun ls hl => ?_)
        refine lv_iload hx hb d_Model_year_87 (lv_at hl 5 rfl) ?_
        refine lv_aload_n hx hb d_Model_year_89 rfl (lv_at hl 2 rfl) ?_
        refine lv_bipush (v := (63 : Int32)) hx hb d_Model_year_90 (by decide) ?_
        refine lv_iload hx hb d_Model_year_92 (lv_at hl 0 rfl) ?_
        obtain ⟨r_11, hc_11, h⟩ := bk1_e h
        refine x_ci (ws' := [(a_t, .inr (10, [.int v_t_numbers, .int v_t_onTicket, .int v_t_drawn, .int v_t_due, .ref a_t_tickets, .int v_t_ticketMany, .int v_t_fond, .ref a_t_prizes, .ref a_t_sightTicket, .ref a_t_sightRight, .ref a_t_sightHow, .int v_t_sights, .ref a_t_draws, .int v_t_drawMany, .ref a_t_sets, .int v_t_setMany, .ref a_t_winsLow, .ref a_t_winsHigh, .ref a_t_pad, .int v_t_padMany, .long v_t_low, .long v_t_high, .ref a_t_could, .int v_t_couldMany, .ref a_t_row, .ref a_t_best, .ref a_t_kept, .ref a_t_isKept, .int v_t_keptAt, .int v_t_isWriting])), (a_t_draws, .inl (I, 70, .inl v_t_draws)), (a_t_prizes, .inl (I, 9, .inl v_t_prizes)), (a_t_tickets, .inl (I, 6, .inl v_t_tickets))]) (x_runV (As := [.int (63 : Int32), .int (v_t_draws (((((75 : Int64) * x4.toInt64) + (74 : Int64)) - (((75 : Int64) * x4.toInt64) + (74 : Int64)) / (65537 : Int64) * (65537 : Int64)).toInt32 - ((((75 : Int64) * x4.toInt64) + (74 : Int64)) - (((75 : Int64) * x4.toInt64) + (74 : Int64)) / (65537 : Int64) * (65537 : Int64)).toInt32 / v_t_drawMany * v_t_drawMany).toNatClampNeg)]) (rest := [.int x5]) hC hW (c_Model_anyWins l D I J Z a_t a_t_tickets a_t_prizes a_t_sightTicket a_t_sightRight a_t_sightHow a_t_draws a_t_sets a_t_winsLow a_t_winsHigh a_t_pad a_t_could a_t_row a_t_best a_t_kept a_t_isKept v_t_numbers v_t_onTicket v_t_drawn v_t_due v_t_ticketMany v_t_fond v_t_sights v_t_drawMany v_t_setMany v_t_padMany v_t_low v_t_high v_t_couldMany v_t_keptAt v_t_isWriting v_t_tickets (63 : Int32) (v_t_draws (((((75 : Int64) * x4.toInt64) + (74 : Int64)) - (((75 : Int64) * x4.toInt64) + (74 : Int64)) / (65537 : Int64) * (65537 : Int64)).toInt32 - ((((75 : Int64) * x4.toInt64) + (74 : Int64)) - (((75 : Int64) * x4.toInt64) + (74 : Int64)) / (65537 : Int64) * (65537 : Int64)).toInt32 / v_t_drawMany * v_t_drawMany).toNatClampNeg) (r_11) hc_11) cl_Model_189 q_code_Model_anyWins [0, 3] rfl (by decide) 0 rfl rfl rfl rfl hl.1 (Nat.le_of_ble_eq_true rfl) (rm_ok hR1 hR2 (by decide) (by decide)) ⟨Nat.zero_le _, Nat.zero_le _⟩ d_Model_year_94) hW hA [0, 3] rfl rfl (ps := [some 0, none, none, some 1]) (by decide +kernel) ⟨rfl, rfl, rfl, rfl, trivial⟩ (fun H locs hW => ?_)
        refine lv_if_eq (tgt := 104) hx hb d_Model_year_97 (by decide) (fun c_12 => ?_) (fun c_12 => ?_)
        · have h := it_e c_12 h
          refine lv_iconst (v := (0 : Int32)) hx hb d_Model_year_104 (by decide) ?_
          refine lv_iadd hx hb d_Model_year_105 ?_
          refine lv_istore (lv' := [(5, .int (x5 + (0 : Int32))), (8, .int (v_t_draws (((((75 : Int64) * x4.toInt64) + (74 : Int64)) - (((75 : Int64) * x4.toInt64) + (74 : Int64)) / (65537 : Int64) * (65537 : Int64)).toInt32 - ((((75 : Int64) * x4.toInt64) + (74 : Int64)) - (((75 : Int64) * x4.toInt64) + (74 : Int64)) / (65537 : Int64) * (65537 : Int64)).toInt32 / v_t_drawMany * v_t_drawMany).toNatClampNeg)), (4, .int ((((75 : Int64) * x4.toInt64) + (74 : Int64)) - (((75 : Int64) * x4.toInt64) + (74 : Int64)) / (65537 : Int64) * (65537 : Int64)).toInt32), (0, .ref a_t), (2, .int x2), (3, .int x3), (6, .int x6), (7, .int x7)]) hx hb d_Model_year_106 hl (by decide) rfl (fun ls hl => ?_)
          refine lv_iload hx hb d_Model_year_108 (lv_at hl 6 rfl) ?_
          refine lv_aload_n hx hb d_Model_year_110 rfl (lv_at hl 3 rfl) ?_
          refine lv_iload hx hb d_Model_year_111 (lv_at hl 1 rfl) ?_
          obtain ⟨r_13, hc_13, h⟩ := bk1_e h
          refine x_ci (ws' := [(a_t, .inr (10, [.int v_t_numbers, .int v_t_onTicket, .int v_t_drawn, .int v_t_due, .ref a_t_tickets, .int v_t_ticketMany, .int v_t_fond, .ref a_t_prizes, .ref a_t_sightTicket, .ref a_t_sightRight, .ref a_t_sightHow, .int v_t_sights, .ref a_t_draws, .int v_t_drawMany, .ref a_t_sets, .int v_t_setMany, .ref a_t_winsLow, .ref a_t_winsHigh, .ref a_t_pad, .int v_t_padMany, .long v_t_low, .long v_t_high, .ref a_t_could, .int v_t_couldMany, .ref a_t_row, .ref a_t_best, .ref a_t_kept, .ref a_t_isKept, .int v_t_keptAt, .int v_t_isWriting])), (a_t_draws, .inl (I, 70, .inl v_t_draws)), (a_t_prizes, .inl (I, 9, .inl v_t_prizes)), (a_t_tickets, .inl (I, 6, .inl v_t_tickets))]) (x_runV (As := [.int (v_t_draws (((((75 : Int64) * x4.toInt64) + (74 : Int64)) - (((75 : Int64) * x4.toInt64) + (74 : Int64)) / (65537 : Int64) * (65537 : Int64)).toInt32 - ((((75 : Int64) * x4.toInt64) + (74 : Int64)) - (((75 : Int64) * x4.toInt64) + (74 : Int64)) / (65537 : Int64) * (65537 : Int64)).toInt32 / v_t_drawMany * v_t_drawMany).toNatClampNeg)]) (rest := [.int x6]) hC hW (c_Model_penceBy l D I J Z a_t a_t_prizes a_t_tickets a_t_sightTicket a_t_sightRight a_t_sightHow a_t_draws a_t_sets a_t_winsLow a_t_winsHigh a_t_pad a_t_could a_t_row a_t_best a_t_kept a_t_isKept v_t_numbers v_t_onTicket v_t_drawn v_t_due v_t_ticketMany v_t_fond v_t_sights v_t_drawMany v_t_setMany v_t_padMany v_t_low v_t_high v_t_couldMany v_t_keptAt v_t_isWriting v_t_prizes v_t_tickets (v_t_draws (((((75 : Int64) * x4.toInt64) + (74 : Int64)) - (((75 : Int64) * x4.toInt64) + (74 : Int64)) / (65537 : Int64) * (65537 : Int64)).toInt32 - ((((75 : Int64) * x4.toInt64) + (74 : Int64)) - (((75 : Int64) * x4.toInt64) + (74 : Int64)) / (65537 : Int64) * (65537 : Int64)).toInt32 / v_t_drawMany * v_t_drawMany).toNatClampNeg) (r_13) hc_13) cl_Model_160 q_code_Model_penceBy [0, 2, 3] rfl (by decide) 0 rfl rfl rfl rfl hl.1 (Nat.le_of_ble_eq_true rfl) (rm_ok hR1 hR2 (by decide) (by decide)) ⟨Nat.zero_le _, Nat.zero_le _⟩ d_Model_year_113) hW hA [0, 2, 3] rfl rfl (ps := [some 0, none, some 1, some 2]) (by decide +kernel) ⟨rfl, rfl, rfl, rfl, trivial⟩ (fun H locs hW => ?_)
          refine lv_iadd hx hb d_Model_year_116 ?_
          refine lv_istore (lv' := [(6, .int (x6 + r_13)), (5, .int (x5 + (0 : Int32))), (8, .int (v_t_draws (((((75 : Int64) * x4.toInt64) + (74 : Int64)) - (((75 : Int64) * x4.toInt64) + (74 : Int64)) / (65537 : Int64) * (65537 : Int64)).toInt32 - ((((75 : Int64) * x4.toInt64) + (74 : Int64)) - (((75 : Int64) * x4.toInt64) + (74 : Int64)) / (65537 : Int64) * (65537 : Int64)).toInt32 / v_t_drawMany * v_t_drawMany).toNatClampNeg)), (4, .int ((((75 : Int64) * x4.toInt64) + (74 : Int64)) - (((75 : Int64) * x4.toInt64) + (74 : Int64)) / (65537 : Int64) * (65537 : Int64)).toInt32), (0, .ref a_t), (2, .int x2), (3, .int x3), (7, .int x7)]) hx hb d_Model_year_117 hl (by decide) rfl (fun ls hl => ?_)
          refine lv_iinc (v := (x7 + (1 : Int32))) (lv' := [(7, .int (x7 + (1 : Int32))), (6, .int (x6 + r_13)), (5, .int (x5 + (0 : Int32))), (8, .int (v_t_draws (((((75 : Int64) * x4.toInt64) + (74 : Int64)) - (((75 : Int64) * x4.toInt64) + (74 : Int64)) / (65537 : Int64) * (65537 : Int64)).toInt32 - ((((75 : Int64) * x4.toInt64) + (74 : Int64)) - (((75 : Int64) * x4.toInt64) + (74 : Int64)) / (65537 : Int64) * (65537 : Int64)).toInt32 / v_t_drawMany * v_t_drawMany).toNatClampNeg)), (4, .int ((((75 : Int64) * x4.toInt64) + (74 : Int64)) - (((75 : Int64) * x4.toInt64) + (74 : Int64)) / (65537 : Int64) * (65537 : Int64)).toInt32), (0, .ref a_t), (2, .int x2), (3, .int x3)]) hx hb d_Model_year_119 hl (k := 7) rfl (iinc_e (by decide)) (by decide) rfl (fun ls hl => ?_)
          refine lv_goto (tgt := 49) hx hb d_Model_year_122 (by decide) ?_
          exact ih x2 x3 ((((75 : Int64) * x4.toInt64) + (74 : Int64)) - (((75 : Int64) * x4.toInt64) + (74 : Int64)) / (65537 : Int64) * (65537 : Int64)).toInt32 (x5 + (0 : Int32)) (x6 + r_13) (x7 + (1 : Int32)) _ _ _ _ h K _ _ hW ls (lv_sub hl [5, 6, 7, 4, 2, 1, 0] rfl)
        · have h := ie_e c_12 h
          refine lv_iconst (v := (1 : Int32)) hx hb d_Model_year_100 (by decide) ?_
          refine lv_goto (tgt := 105) hx hb d_Model_year_101 (by decide) ?_
          refine lv_iadd hx hb d_Model_year_105 ?_
          refine lv_istore (lv' := [(5, .int (x5 + (1 : Int32))), (8, .int (v_t_draws (((((75 : Int64) * x4.toInt64) + (74 : Int64)) - (((75 : Int64) * x4.toInt64) + (74 : Int64)) / (65537 : Int64) * (65537 : Int64)).toInt32 - ((((75 : Int64) * x4.toInt64) + (74 : Int64)) - (((75 : Int64) * x4.toInt64) + (74 : Int64)) / (65537 : Int64) * (65537 : Int64)).toInt32 / v_t_drawMany * v_t_drawMany).toNatClampNeg)), (4, .int ((((75 : Int64) * x4.toInt64) + (74 : Int64)) - (((75 : Int64) * x4.toInt64) + (74 : Int64)) / (65537 : Int64) * (65537 : Int64)).toInt32), (0, .ref a_t), (2, .int x2), (3, .int x3), (6, .int x6), (7, .int x7)]) hx hb d_Model_year_106 hl (by decide) rfl (fun ls hl => ?_)
          refine lv_iload hx hb d_Model_year_108 (lv_at hl 6 rfl) ?_
          refine lv_aload_n hx hb d_Model_year_110 rfl (lv_at hl 3 rfl) ?_
          refine lv_iload hx hb d_Model_year_111 (lv_at hl 1 rfl) ?_
          obtain ⟨r_14, hc_14, h⟩ := bk1_e h
          refine x_ci (ws' := [(a_t, .inr (10, [.int v_t_numbers, .int v_t_onTicket, .int v_t_drawn, .int v_t_due, .ref a_t_tickets, .int v_t_ticketMany, .int v_t_fond, .ref a_t_prizes, .ref a_t_sightTicket, .ref a_t_sightRight, .ref a_t_sightHow, .int v_t_sights, .ref a_t_draws, .int v_t_drawMany, .ref a_t_sets, .int v_t_setMany, .ref a_t_winsLow, .ref a_t_winsHigh, .ref a_t_pad, .int v_t_padMany, .long v_t_low, .long v_t_high, .ref a_t_could, .int v_t_couldMany, .ref a_t_row, .ref a_t_best, .ref a_t_kept, .ref a_t_isKept, .int v_t_keptAt, .int v_t_isWriting])), (a_t_draws, .inl (I, 70, .inl v_t_draws)), (a_t_prizes, .inl (I, 9, .inl v_t_prizes)), (a_t_tickets, .inl (I, 6, .inl v_t_tickets))]) (x_runV (As := [.int (v_t_draws (((((75 : Int64) * x4.toInt64) + (74 : Int64)) - (((75 : Int64) * x4.toInt64) + (74 : Int64)) / (65537 : Int64) * (65537 : Int64)).toInt32 - ((((75 : Int64) * x4.toInt64) + (74 : Int64)) - (((75 : Int64) * x4.toInt64) + (74 : Int64)) / (65537 : Int64) * (65537 : Int64)).toInt32 / v_t_drawMany * v_t_drawMany).toNatClampNeg)]) (rest := [.int x6]) hC hW (c_Model_penceBy l D I J Z a_t a_t_prizes a_t_tickets a_t_sightTicket a_t_sightRight a_t_sightHow a_t_draws a_t_sets a_t_winsLow a_t_winsHigh a_t_pad a_t_could a_t_row a_t_best a_t_kept a_t_isKept v_t_numbers v_t_onTicket v_t_drawn v_t_due v_t_ticketMany v_t_fond v_t_sights v_t_drawMany v_t_setMany v_t_padMany v_t_low v_t_high v_t_couldMany v_t_keptAt v_t_isWriting v_t_prizes v_t_tickets (v_t_draws (((((75 : Int64) * x4.toInt64) + (74 : Int64)) - (((75 : Int64) * x4.toInt64) + (74 : Int64)) / (65537 : Int64) * (65537 : Int64)).toInt32 - ((((75 : Int64) * x4.toInt64) + (74 : Int64)) - (((75 : Int64) * x4.toInt64) + (74 : Int64)) / (65537 : Int64) * (65537 : Int64)).toInt32 / v_t_drawMany * v_t_drawMany).toNatClampNeg) (r_14) hc_14) cl_Model_160 q_code_Model_penceBy [0, 2, 3] rfl (by decide) 0 rfl rfl rfl rfl hl.1 (Nat.le_of_ble_eq_true rfl) (rm_ok hR1 hR2 (by decide) (by decide)) ⟨Nat.zero_le _, Nat.zero_le _⟩ d_Model_year_113) hW hA [0, 2, 3] rfl rfl (ps := [some 0, none, some 1, some 2]) (by decide +kernel) ⟨rfl, rfl, rfl, rfl, trivial⟩ (fun H locs hW => ?_)
          refine lv_iadd hx hb d_Model_year_116 ?_
          refine lv_istore (lv' := [(6, .int (x6 + r_14)), (5, .int (x5 + (1 : Int32))), (8, .int (v_t_draws (((((75 : Int64) * x4.toInt64) + (74 : Int64)) - (((75 : Int64) * x4.toInt64) + (74 : Int64)) / (65537 : Int64) * (65537 : Int64)).toInt32 - ((((75 : Int64) * x4.toInt64) + (74 : Int64)) - (((75 : Int64) * x4.toInt64) + (74 : Int64)) / (65537 : Int64) * (65537 : Int64)).toInt32 / v_t_drawMany * v_t_drawMany).toNatClampNeg)), (4, .int ((((75 : Int64) * x4.toInt64) + (74 : Int64)) - (((75 : Int64) * x4.toInt64) + (74 : Int64)) / (65537 : Int64) * (65537 : Int64)).toInt32), (0, .ref a_t), (2, .int x2), (3, .int x3), (7, .int x7)]) hx hb d_Model_year_117 hl (by decide) rfl (fun ls hl => ?_)
          refine lv_iinc (v := (x7 + (1 : Int32))) (lv' := [(7, .int (x7 + (1 : Int32))), (6, .int (x6 + r_14)), (5, .int (x5 + (1 : Int32))), (8, .int (v_t_draws (((((75 : Int64) * x4.toInt64) + (74 : Int64)) - (((75 : Int64) * x4.toInt64) + (74 : Int64)) / (65537 : Int64) * (65537 : Int64)).toInt32 - ((((75 : Int64) * x4.toInt64) + (74 : Int64)) - (((75 : Int64) * x4.toInt64) + (74 : Int64)) / (65537 : Int64) * (65537 : Int64)).toInt32 / v_t_drawMany * v_t_drawMany).toNatClampNeg)), (4, .int ((((75 : Int64) * x4.toInt64) + (74 : Int64)) - (((75 : Int64) * x4.toInt64) + (74 : Int64)) / (65537 : Int64) * (65537 : Int64)).toInt32), (0, .ref a_t), (2, .int x2), (3, .int x3)]) hx hb d_Model_year_119 hl (k := 7) rfl (iinc_e (by decide)) (by decide) rfl (fun ls hl => ?_)
          refine lv_goto (tgt := 49) hx hb d_Model_year_122 (by decide) ?_
          exact ih x2 x3 ((((75 : Int64) * x4.toInt64) + (74 : Int64)) - (((75 : Int64) * x4.toInt64) + (74 : Int64)) / (65537 : Int64) * (65537 : Int64)).toInt32 (x5 + (1 : Int32)) (x6 + r_14) (x7 + (1 : Int32)) _ _ _ _ h K _ _ hW ls (lv_sub hl [5, 6, 7, 4, 2, 1, 0] rfl)
  refine lv_iload_n hx hb d_Model_year_0 rfl (lv_at hl 1 rfl) ?_
  refine lv_i2l hx hb d_Model_year_1 rfl ?_
  refine lv_lconst (v := (0 : Int64)) hx hb d_Model_year_2 (by decide) ?_
  refine x_ldc2 hC q_con_Model_192 d_Model_year_3 ?_
  obtain ⟨r_1, hc_1, h⟩ := bk1_e h
  refine x_ci (ws' := [(a_t, .inr (10, [.int v_t_numbers, .int v_t_onTicket, .int v_t_drawn, .int v_t_due, .ref a_t_tickets, .int v_t_ticketMany, .int v_t_fond, .ref a_t_prizes, .ref a_t_sightTicket, .ref a_t_sightRight, .ref a_t_sightHow, .int v_t_sights, .ref a_t_draws, .int v_t_drawMany, .ref a_t_sets, .int v_t_setMany, .ref a_t_winsLow, .ref a_t_winsHigh, .ref a_t_pad, .int v_t_padMany, .long v_t_low, .long v_t_high, .ref a_t_could, .int v_t_couldMany, .ref a_t_row, .ref a_t_best, .ref a_t_kept, .ref a_t_isKept, .int v_t_keptAt, .int v_t_isWriting])), (a_t_draws, .inl (I, 70, .inl v_t_draws)), (a_t_prizes, .inl (I, 9, .inl v_t_prizes)), (a_t_tickets, .inl (I, 6, .inl v_t_tickets))]) (x_runS (rest := []) hC hW (c_Model_in l D I J Z p0.toInt64 (0 : Int64) (9999 : Int64) (r_1) hc_1) cl_Model_111 q_code_Model_in [] rfl (by decide) rfl hl.1 (Nat.le_of_ble_eq_true rfl) (rm_ok hR1 hR2 (by decide) (by decide)) ⟨Nat.zero_le _, Nat.zero_le _⟩ d_Model_year_6) hW hA [] rfl rfl (ps := [none, none, none, none]) (by decide +kernel) ⟨rfl, rfl, rfl, rfl, trivial⟩ (fun H locs hW => ?_)
  refine lv_if_eq (tgt := 34) hx hb d_Model_year_9 (by decide) (fun c_2 => ?_) (fun c_2 => ?_)
  · have h := it_e c_2 h
    refine lv_bipush (v := (-2 : Int32)) hx hb d_Model_year_34 (by decide) ?_
    cases h
    rw [hQ]
    exact x_iret hC hr hW d_Model_year_36
  · have h := ie_e c_2 h
    refine lv_iload_n hx hb d_Model_year_12 rfl (lv_at hl 2 rfl) ?_
    refine lv_i2l hx hb d_Model_year_13 rfl ?_
    refine lv_lconst (v := (1 : Int64)) hx hb d_Model_year_14 (by decide) ?_
    refine x_ldc2 hC q_con_Model_194 d_Model_year_15 ?_
    obtain ⟨r_3, hc_3, h⟩ := bk1_e h
    refine x_ci (ws' := [(a_t, .inr (10, [.int v_t_numbers, .int v_t_onTicket, .int v_t_drawn, .int v_t_due, .ref a_t_tickets, .int v_t_ticketMany, .int v_t_fond, .ref a_t_prizes, .ref a_t_sightTicket, .ref a_t_sightRight, .ref a_t_sightHow, .int v_t_sights, .ref a_t_draws, .int v_t_drawMany, .ref a_t_sets, .int v_t_setMany, .ref a_t_winsLow, .ref a_t_winsHigh, .ref a_t_pad, .int v_t_padMany, .long v_t_low, .long v_t_high, .ref a_t_could, .int v_t_couldMany, .ref a_t_row, .ref a_t_best, .ref a_t_kept, .ref a_t_isKept, .int v_t_keptAt, .int v_t_isWriting])), (a_t_draws, .inl (I, 70, .inl v_t_draws)), (a_t_prizes, .inl (I, 9, .inl v_t_prizes)), (a_t_tickets, .inl (I, 6, .inl v_t_tickets))]) (x_runS (rest := []) hC hW (c_Model_in l D I J Z p1.toInt64 (1 : Int64) (99 : Int64) (r_3) hc_3) cl_Model_111 q_code_Model_in [] rfl (by decide) rfl hl.1 (Nat.le_of_ble_eq_true rfl) (rm_ok hR1 hR2 (by decide) (by decide)) ⟨Nat.zero_le _, Nat.zero_le _⟩ d_Model_year_18) hW hA [] rfl rfl (ps := [none, none, none, none]) (by decide +kernel) ⟨rfl, rfl, rfl, rfl, trivial⟩ (fun H locs hW => ?_)
    refine lv_if_eq (tgt := 34) hx hb d_Model_year_21 (by decide) (fun c_4 => ?_) (fun c_4 => ?_)
    · have h := it_e c_4 h
      refine lv_bipush (v := (-2 : Int32)) hx hb d_Model_year_34 (by decide) ?_
      cases h
      rw [hQ]
      exact x_iret hC hr hW d_Model_year_36
    · have h := ie_e c_4 h
      refine lv_iload_n hx hb d_Model_year_24 rfl (lv_at hl 3 rfl) ?_
      refine lv_i2l hx hb d_Model_year_25 rfl ?_
      refine lv_lconst (v := (0 : Int64)) hx hb d_Model_year_26 (by decide) ?_
      refine lv_lconst (v := (1 : Int64)) hx hb d_Model_year_27 (by decide) ?_
      obtain ⟨r_5, hc_5, h⟩ := bk1_e h
      refine x_ci (ws' := [(a_t, .inr (10, [.int v_t_numbers, .int v_t_onTicket, .int v_t_drawn, .int v_t_due, .ref a_t_tickets, .int v_t_ticketMany, .int v_t_fond, .ref a_t_prizes, .ref a_t_sightTicket, .ref a_t_sightRight, .ref a_t_sightHow, .int v_t_sights, .ref a_t_draws, .int v_t_drawMany, .ref a_t_sets, .int v_t_setMany, .ref a_t_winsLow, .ref a_t_winsHigh, .ref a_t_pad, .int v_t_padMany, .long v_t_low, .long v_t_high, .ref a_t_could, .int v_t_couldMany, .ref a_t_row, .ref a_t_best, .ref a_t_kept, .ref a_t_isKept, .int v_t_keptAt, .int v_t_isWriting])), (a_t_draws, .inl (I, 70, .inl v_t_draws)), (a_t_prizes, .inl (I, 9, .inl v_t_prizes)), (a_t_tickets, .inl (I, 6, .inl v_t_tickets))]) (x_runS (rest := []) hC hW (c_Model_in l D I J Z p2.toInt64 (0 : Int64) (1 : Int64) (r_5) hc_5) cl_Model_111 q_code_Model_in [] rfl (by decide) rfl hl.1 (Nat.le_of_ble_eq_true rfl) (rm_ok hR1 hR2 (by decide) (by decide)) ⟨Nat.zero_le _, Nat.zero_le _⟩ d_Model_year_28) hW hA [] rfl rfl (ps := [none, none, none, none]) (by decide +kernel) ⟨rfl, rfl, rfl, rfl, trivial⟩ (fun H locs hW => ?_)
      refine lv_if_ne (tgt := 37) hx hb d_Model_year_31 (by decide) (fun c_6 => ?_) (fun c_6 => ?_)
      · have h := ie_e c_6 h
        refine lv_iload_n hx hb d_Model_year_37 rfl (lv_at hl 1 rfl) ?_
        refine lv_istore (lv' := [(4, .int p0), (0, .ref a_t), (1, .int p0), (2, .int p1), (3, .int p2)]) hx hb d_Model_year_38 hl (by decide) rfl (fun ls hl => ?_)
        refine lv_iconst (v := (0 : Int32)) hx hb d_Model_year_40 (by decide) ?_
        refine lv_istore (lv' := [(5, .int (0 : Int32)), (4, .int p0), (0, .ref a_t), (1, .int p0), (2, .int p1), (3, .int p2)]) hx hb d_Model_year_41 hl (by decide) rfl (fun ls hl => ?_)
        refine lv_iconst (v := (0 : Int32)) hx hb d_Model_year_43 (by decide) ?_
        refine lv_istore (lv' := [(6, .int (0 : Int32)), (5, .int (0 : Int32)), (4, .int p0), (0, .ref a_t), (1, .int p0), (2, .int p1), (3, .int p2)]) hx hb d_Model_year_44 hl (by decide) rfl (fun ls hl => ?_)
        refine lv_iconst (v := (0 : Int32)) hx hb d_Model_year_46 (by decide) ?_
        refine lv_istore (lv' := [(7, .int (0 : Int32)), (6, .int (0 : Int32)), (5, .int (0 : Int32)), (4, .int p0), (0, .ref a_t), (1, .int p0), (2, .int p1), (3, .int p2)]) hx hb d_Model_year_47 hl (by decide) rfl (fun ls hl => ?_)
        obtain ⟨yx4_15, yx5_15, yx6_15, yx7_15, hv_15, h⟩ := bk4_e h
        refine lp49 _ p1 p2 p0 (0 : Int32) (0 : Int32) (0 : Int32) yx4_15 yx5_15 yx6_15 yx7_15 hv_15 (fun H locs hW ls hl => ?_) _ _ hW ls (lv_sub hl [4, 6, 7, 3, 2, 1, 0] rfl)
        refine lv_iload_n hx hb d_Model_year_125 rfl (lv_at hl 2 rfl) ?_
        refine lv_if_ne (tgt := 134) hx hb d_Model_year_126 (by decide) (fun c_16 => ?_) (fun c_16 => ?_)
        · have h := ie_e c_16 h
          refine lv_iload hx hb d_Model_year_134 (lv_at hl 5 rfl) ?_
          cases h
          rw [hQ]
          exact x_iret hC hr hW d_Model_year_136
        · have h := it_e c_16 h
          refine lv_iload hx hb d_Model_year_129 (lv_at hl 4 rfl) ?_
          refine lv_goto (tgt := 136) hx hb d_Model_year_131 (by decide) ?_
          cases h
          rw [hQ]
          exact x_iret hC hr hW d_Model_year_136
      · have h := it_e c_6 h
        refine lv_bipush (v := (-2 : Int32)) hx hb d_Model_year_34 (by decide) ?_
        cases h
        rw [hQ]
        exact x_iret hC hr hW d_Model_year_36

def f_Model_pass (v_t_isWriting : Int32) (v_t_keptAt : Int32) (v_t_kept : Nat → Int32) (p0 : Int32) : Option (Int32 × Int32 × (Nat → Int32)) :=
  if v_t_isWriting = (0 : Int32) then gd v_t_keptAt 120 (gd v_t_keptAt 120 (some ((v_t_kept v_t_keptAt.toNatClampNeg), (v_t_keptAt + (1 : Int32)), (upd v_t_kept v_t_keptAt.toNatClampNeg (v_t_kept v_t_keptAt.toNatClampNeg))))) else gd v_t_keptAt 120 (some (p0, (v_t_keptAt + (1 : Int32)), (upd v_t_kept v_t_keptAt.toNatClampNeg p0)))
set_option maxHeartbeats 4000000 in
set_option maxRecDepth 100000 in
theorem c_Model_pass (l : Launch) (D : va_G) (I J Z : ClassId) (a_t : Nat) (a_t_kept : Nat) (a_t_tickets : Nat) (a_t_prizes : Nat) (a_t_sightTicket : Nat) (a_t_sightRight : Nat) (a_t_sightHow : Nat) (a_t_draws : Nat) (a_t_sets : Nat) (a_t_winsLow : Nat) (a_t_winsHigh : Nat) (a_t_pad : Nat) (a_t_could : Nat) (a_t_row : Nat) (a_t_best : Nat) (a_t_isKept : Nat)  (v_t_numbers : Int32) (v_t_onTicket : Int32) (v_t_drawn : Int32) (v_t_due : Int32) (v_t_ticketMany : Int32) (v_t_fond : Int32) (v_t_sights : Int32) (v_t_drawMany : Int32) (v_t_setMany : Int32) (v_t_padMany : Int32) (v_t_low : Int64) (v_t_high : Int64) (v_t_couldMany : Int32) (v_t_keptAt : Int32) (v_t_isWriting : Int32) (v_t_kept : Nat → Int32) (p0 : Int32) (out : (Int32 × Int32 × (Nat → Int32))) (h : f_Model_pass v_t_isWriting v_t_keptAt v_t_kept p0 = some out) : CT l D I J Z y_Model_pass b_Model_pass 3 (some .int) 1 [.ref a_t, .int p0] [(a_t, .inr (10, [.int v_t_numbers, .int v_t_onTicket, .int v_t_drawn, .int v_t_due, .ref a_t_tickets, .int v_t_ticketMany, .int v_t_fond, .ref a_t_prizes, .ref a_t_sightTicket, .ref a_t_sightRight, .ref a_t_sightHow, .int v_t_sights, .ref a_t_draws, .int v_t_drawMany, .ref a_t_sets, .int v_t_setMany, .ref a_t_winsLow, .ref a_t_winsHigh, .ref a_t_pad, .int v_t_padMany, .long v_t_low, .long v_t_high, .ref a_t_could, .int v_t_couldMany, .ref a_t_row, .ref a_t_best, .ref a_t_kept, .ref a_t_isKept, .int v_t_keptAt, .int v_t_isWriting])), (a_t_kept, .inl (I, 120, .inl v_t_kept))] (PoI out.1 D [(a_t, .inr (10, [.int v_t_numbers, .int v_t_onTicket, .int v_t_drawn, .int v_t_due, .ref a_t_tickets, .int v_t_ticketMany, .int v_t_fond, .ref a_t_prizes, .ref a_t_sightTicket, .ref a_t_sightRight, .ref a_t_sightHow, .int v_t_sights, .ref a_t_draws, .int v_t_drawMany, .ref a_t_sets, .int v_t_setMany, .ref a_t_winsLow, .ref a_t_winsHigh, .ref a_t_pad, .int v_t_padMany, .long v_t_low, .long v_t_high, .ref a_t_could, .int v_t_couldMany, .ref a_t_row, .ref a_t_best, .ref a_t_kept, .ref a_t_isKept, .int out.2.1, .int v_t_isWriting])), (a_t_kept, .inl (I, 120, .inl out.2.2))]) := by
  unfold f_Model_pass at h
  refine CT_of R_Model (by decide +kernel) rfl (Nat.le_of_ble_eq_true rfl) ?_
  intro p e R s m args below meth c A ls Q hR1 hR2 hQ hC hr hW hA hl
  have hx := hC.1
  have hb := hC.2.1
  have hl : lv_has ls 3 [(0, .ref a_t), (1, .int p0)] := hl
  refine lv_aload_n hx hb d_Model_pass_0 rfl (lv_at hl 0 rfl) ?_
  refine x_get hC hW 0 rfl fl_Model_202 rfl d_Model_pass_1 ?_
  refine lv_if_eq (tgt := 11) hx hb d_Model_pass_4 (by decide) (fun c_1 => ?_) (fun c_1 => ?_)
  · have h := it_e c_1 h
    refine lv_aload_n hx hb d_Model_pass_11 rfl (lv_at hl 0 rfl) ?_
    refine x_get hC hW 0 rfl fl_Model_50 rfl d_Model_pass_12 ?_
    refine lv_aload_n hx hb d_Model_pass_15 rfl (lv_at hl 0 rfl) ?_
    refine x_get hC hW 0 rfl fl_Model_206 rfl d_Model_pass_16 ?_
    obtain ⟨hi_2, h⟩ := gd_e h
    refine x_iald hC hW 1 rfl hi_2 d_Model_pass_19 ?_
    refine lv_istore_n (lv' := [(2, .int (v_t_kept v_t_keptAt.toNatClampNeg)), (0, .ref a_t), (1, .int p0)]) hx hb d_Model_pass_20 rfl hl (by decide) rfl (fun ls hl => ?_)
    refine lv_aload_n hx hb d_Model_pass_21 rfl (lv_at hl 1 rfl) ?_
    refine x_get hC hW 0 rfl fl_Model_50 rfl d_Model_pass_22 ?_
    refine lv_aload_n hx hb d_Model_pass_25 rfl (lv_at hl 1 rfl) ?_
    refine x_get hC hW 0 rfl fl_Model_206 rfl d_Model_pass_26 ?_
    refine lv_iload_n hx hb d_Model_pass_29 rfl (lv_at hl 0 rfl) ?_
    obtain ⟨hi_3, h⟩ := gd_e h
    refine x_iast (ws' := [(a_t, .inr (10, [.int v_t_numbers, .int v_t_onTicket, .int v_t_drawn, .int v_t_due, .ref a_t_tickets, .int v_t_ticketMany, .int v_t_fond, .ref a_t_prizes, .ref a_t_sightTicket, .ref a_t_sightRight, .ref a_t_sightHow, .int v_t_sights, .ref a_t_draws, .int v_t_drawMany, .ref a_t_sets, .int v_t_setMany, .ref a_t_winsLow, .ref a_t_winsHigh, .ref a_t_pad, .int v_t_padMany, .long v_t_low, .long v_t_high, .ref a_t_could, .int v_t_couldMany, .ref a_t_row, .ref a_t_best, .ref a_t_kept, .ref a_t_isKept, .int v_t_keptAt, .int v_t_isWriting])), (a_t_kept, .inl (I, 120, .inl (upd v_t_kept v_t_keptAt.toNatClampNeg (v_t_kept v_t_keptAt.toNatClampNeg))))]) hC hW 1 rfl hi_3 d_Model_pass_30 rfl (fun H locs hW => ?_)
    refine lv_aload_n hx hb d_Model_pass_31 rfl (lv_at hl 1 rfl) ?_
    refine lv_dup hx hb d_Model_pass_32 rfl ?_
    refine x_get hC hW 0 rfl fl_Model_206 rfl d_Model_pass_33 ?_
    refine lv_iconst (v := (1 : Int32)) hx hb d_Model_pass_36 (by decide) ?_
    refine lv_iadd hx hb d_Model_pass_37 ?_
    refine x_put (ws' := [(a_t, .inr (10, [.int v_t_numbers, .int v_t_onTicket, .int v_t_drawn, .int v_t_due, .ref a_t_tickets, .int v_t_ticketMany, .int v_t_fond, .ref a_t_prizes, .ref a_t_sightTicket, .ref a_t_sightRight, .ref a_t_sightHow, .int v_t_sights, .ref a_t_draws, .int v_t_drawMany, .ref a_t_sets, .int v_t_setMany, .ref a_t_winsLow, .ref a_t_winsHigh, .ref a_t_pad, .int v_t_padMany, .long v_t_low, .long v_t_high, .ref a_t_could, .int v_t_couldMany, .ref a_t_row, .ref a_t_best, .ref a_t_kept, .ref a_t_isKept, .int (v_t_keptAt + (1 : Int32)), .int v_t_isWriting])), (a_t_kept, .inl (I, 120, .inl (upd v_t_kept v_t_keptAt.toNatClampNeg (v_t_kept v_t_keptAt.toNatClampNeg))))]) hC hW 0 rfl fp_Model_206 rfl rfl (Nat.le_of_ble_eq_true rfl) d_Model_pass_38 rfl (fun H locs hW => ?_)
    refine lv_iload_n hx hb d_Model_pass_41 rfl (lv_at hl 0 rfl) ?_
    cases h
    rw [hQ]
    exact x_iret hC hr hW d_Model_pass_42
  · have h := ie_e c_1 h
    refine lv_iload_n hx hb d_Model_pass_7 rfl (lv_at hl 1 rfl) ?_
    refine lv_goto (tgt := 20) hx hb d_Model_pass_8 (by decide) ?_
    refine lv_istore_n (lv' := [(2, .int p0), (0, .ref a_t), (1, .int p0)]) hx hb d_Model_pass_20 rfl hl (by decide) rfl (fun ls hl => ?_)
    refine lv_aload_n hx hb d_Model_pass_21 rfl (lv_at hl 1 rfl) ?_
    refine x_get hC hW 0 rfl fl_Model_50 rfl d_Model_pass_22 ?_
    refine lv_aload_n hx hb d_Model_pass_25 rfl (lv_at hl 1 rfl) ?_
    refine x_get hC hW 0 rfl fl_Model_206 rfl d_Model_pass_26 ?_
    refine lv_iload_n hx hb d_Model_pass_29 rfl (lv_at hl 0 rfl) ?_
    obtain ⟨hi_4, h⟩ := gd_e h
    refine x_iast (ws' := [(a_t, .inr (10, [.int v_t_numbers, .int v_t_onTicket, .int v_t_drawn, .int v_t_due, .ref a_t_tickets, .int v_t_ticketMany, .int v_t_fond, .ref a_t_prizes, .ref a_t_sightTicket, .ref a_t_sightRight, .ref a_t_sightHow, .int v_t_sights, .ref a_t_draws, .int v_t_drawMany, .ref a_t_sets, .int v_t_setMany, .ref a_t_winsLow, .ref a_t_winsHigh, .ref a_t_pad, .int v_t_padMany, .long v_t_low, .long v_t_high, .ref a_t_could, .int v_t_couldMany, .ref a_t_row, .ref a_t_best, .ref a_t_kept, .ref a_t_isKept, .int v_t_keptAt, .int v_t_isWriting])), (a_t_kept, .inl (I, 120, .inl (upd v_t_kept v_t_keptAt.toNatClampNeg p0)))]) hC hW 1 rfl hi_4 d_Model_pass_30 rfl (fun H locs hW => ?_)
    refine lv_aload_n hx hb d_Model_pass_31 rfl (lv_at hl 1 rfl) ?_
    refine lv_dup hx hb d_Model_pass_32 rfl ?_
    refine x_get hC hW 0 rfl fl_Model_206 rfl d_Model_pass_33 ?_
    refine lv_iconst (v := (1 : Int32)) hx hb d_Model_pass_36 (by decide) ?_
    refine lv_iadd hx hb d_Model_pass_37 ?_
    refine x_put (ws' := [(a_t, .inr (10, [.int v_t_numbers, .int v_t_onTicket, .int v_t_drawn, .int v_t_due, .ref a_t_tickets, .int v_t_ticketMany, .int v_t_fond, .ref a_t_prizes, .ref a_t_sightTicket, .ref a_t_sightRight, .ref a_t_sightHow, .int v_t_sights, .ref a_t_draws, .int v_t_drawMany, .ref a_t_sets, .int v_t_setMany, .ref a_t_winsLow, .ref a_t_winsHigh, .ref a_t_pad, .int v_t_padMany, .long v_t_low, .long v_t_high, .ref a_t_could, .int v_t_couldMany, .ref a_t_row, .ref a_t_best, .ref a_t_kept, .ref a_t_isKept, .int (v_t_keptAt + (1 : Int32)), .int v_t_isWriting])), (a_t_kept, .inl (I, 120, .inl (upd v_t_kept v_t_keptAt.toNatClampNeg p0)))]) hC hW 0 rfl fp_Model_206 rfl rfl (Nat.le_of_ble_eq_true rfl) d_Model_pass_38 rfl (fun H locs hW => ?_)
    refine lv_iload_n hx hb d_Model_pass_41 rfl (lv_at hl 0 rfl) ?_
    cases h
    rw [hQ]
    exact x_iret hC hr hW d_Model_pass_42

def L_Model_passAll_86 (v_t_isWriting : Int32) : Nat → Int32 → Int32 → (Nat → Int32) → (Nat → Int32) → (Nat → Int32) → (Nat → Int32) → (Nat → Int32) → Option (Int32 × Int32 × (Nat → Int32) × (Nat → Int32) × (Nat → Int32) × (Nat → Int32) × (Nat → Int32))
  | 0, _, _, _, _, _, _, _ => none
  | n + 1, x1, v_t_keptAt, v_t_kept, v_t_sightHow, v_t_sightRight, v_t_sightTicket, v_t_tickets => if (6 : Int32) ≤ x1 then some (x1, v_t_keptAt, v_t_kept, v_t_sightHow, v_t_sightRight, v_t_sightTicket, v_t_tickets) else gd x1 6 (bk3 (f_Model_pass v_t_isWriting v_t_keptAt v_t_kept (v_t_tickets x1.toNatClampNeg)) fun r_10 w_10_0 w_10_1 => gd x1 6 (gd x1 6 (bk3 (f_Model_pass v_t_isWriting w_10_0 w_10_1 (v_t_sightTicket x1.toNatClampNeg)) fun r_13 w_13_0 w_13_1 => gd x1 6 (gd x1 6 (bk3 (f_Model_pass v_t_isWriting w_13_0 w_13_1 (v_t_sightRight x1.toNatClampNeg)) fun r_16 w_16_0 w_16_1 => gd x1 6 (gd x1 6 (bk3 (f_Model_pass v_t_isWriting w_16_0 w_16_1 (v_t_sightHow x1.toNatClampNeg)) fun r_19 w_19_0 w_19_1 => gd x1 6 (L_Model_passAll_86 v_t_isWriting n (x1 + (1 : Int32)) w_19_0 w_19_1 (upd v_t_sightHow x1.toNatClampNeg r_19) (upd v_t_sightRight x1.toNatClampNeg r_16) (upd v_t_sightTicket x1.toNatClampNeg r_13) (upd v_t_tickets x1.toNatClampNeg r_10)))))))))
def L_Model_passAll_164 (v_t_isWriting : Int32) : Nat → Int32 → Int32 → (Nat → Int32) → (Nat → Int32) → Option (Int32 × Int32 × (Nat → Int32) × (Nat → Int32))
  | 0, _, _, _, _ => none
  | n + 1, x1, v_t_keptAt, v_t_kept, v_t_prizes => if (9 : Int32) ≤ x1 then some (x1, v_t_keptAt, v_t_kept, v_t_prizes) else gd x1 9 (bk3 (f_Model_pass v_t_isWriting v_t_keptAt v_t_kept (v_t_prizes x1.toNatClampNeg)) fun r_24 w_24_0 w_24_1 => gd x1 9 (L_Model_passAll_164 v_t_isWriting n (x1 + (1 : Int32)) w_24_0 w_24_1 (upd v_t_prizes x1.toNatClampNeg r_24)))
def f_Model_passAll (v_t_drawn : Int32) (v_t_due : Int32) (v_t_fond : Int32) (v_t_isWriting : Int32) (v_t_keptAt : Int32) (v_t_numbers : Int32) (v_t_onTicket : Int32) (v_t_sights : Int32) (v_t_ticketMany : Int32) (v_t_draws : Nat → Int32) (v_t_kept : Nat → Int32) (v_t_prizes : Nat → Int32) (v_t_sets : Nat → Int32) (v_t_sightHow : Nat → Int32) (v_t_sightRight : Nat → Int32) (v_t_sightTicket : Nat → Int32) (v_t_tickets : Nat → Int32) (v_t_winsHigh : Nat → Int64) (v_t_winsLow : Nat → Int64) : Option (Int32 × Int32 × Int32 × Int32 × Int32 × Int32 × Int32 × Int32 × Int32 × Int32 × (Nat → Int32) × (Nat → Int32) × (Nat → Int32) × (Nat → Int32) × (Nat → Int32) × (Nat → Int32) × (Nat → Int32) × (Nat → Int32) × (Nat → Int64) × (Nat → Int64)) :=
  bk3 (f_Model_pass v_t_isWriting v_t_keptAt v_t_kept v_t_numbers) fun r_1 w_1_0 w_1_1 => bk3 (f_Model_pass v_t_isWriting w_1_0 w_1_1 v_t_onTicket) fun r_2 w_2_0 w_2_1 => bk3 (f_Model_pass v_t_isWriting w_2_0 w_2_1 v_t_drawn) fun r_3 w_3_0 w_3_1 => bk3 (f_Model_pass v_t_isWriting w_3_0 w_3_1 v_t_due) fun r_4 w_4_0 w_4_1 => bk3 (f_Model_pass v_t_isWriting w_4_0 w_4_1 v_t_ticketMany) fun r_5 w_5_0 w_5_1 => bk3 (f_Model_pass v_t_isWriting w_5_0 w_5_1 v_t_fond) fun r_6 w_6_0 w_6_1 => bk3 (f_Model_pass v_t_isWriting w_6_0 w_6_1 v_t_sights) fun r_7 w_7_0 w_7_1 => bk7 (L_Model_passAll_86 v_t_isWriting 300 (0 : Int32) w_7_0 w_7_1 v_t_sightHow v_t_sightRight v_t_sightTicket v_t_tickets) fun yx1_21 y_t_keptAt_21 y_t_kept_21 y_t_sightHow_21 y_t_sightRight_21 y_t_sightTicket_21 y_t_tickets_21 => bk4 (L_Model_passAll_164 v_t_isWriting 300 (0 : Int32) y_t_keptAt_21 y_t_kept_21 v_t_prizes) fun yx1_26 y_t_keptAt_26 y_t_kept_26 y_t_prizes_26 => bk6 (f_Model_findAll r_3 r_4 r_1 r_2 v_t_draws v_t_sets v_t_winsHigh v_t_winsLow) fun w_27_0 w_27_1 w_27_2 w_27_3 w_27_4 w_27_5 => some (w_27_0, r_3, r_4, r_6, y_t_keptAt_26, r_1, r_2, w_27_1, r_7, r_5, w_27_2, y_t_kept_26, y_t_prizes_26, w_27_3, y_t_sightHow_21, y_t_sightRight_21, y_t_sightTicket_21, y_t_tickets_21, w_27_4, w_27_5)
set_option maxHeartbeats 4000000 in
set_option maxRecDepth 100000 in
theorem c_Model_passAll (l : Launch) (D : va_G) (I J Z : ClassId) (a_t : Nat) (a_t_draws : Nat) (a_t_kept : Nat) (a_t_prizes : Nat) (a_t_sets : Nat) (a_t_sightHow : Nat) (a_t_sightRight : Nat) (a_t_sightTicket : Nat) (a_t_tickets : Nat) (a_t_winsHigh : Nat) (a_t_winsLow : Nat) (a_t_pad : Nat) (a_t_could : Nat) (a_t_row : Nat) (a_t_best : Nat) (a_t_isKept : Nat)  (v_t_numbers : Int32) (v_t_onTicket : Int32) (v_t_drawn : Int32) (v_t_due : Int32) (v_t_ticketMany : Int32) (v_t_fond : Int32) (v_t_sights : Int32) (v_t_drawMany : Int32) (v_t_setMany : Int32) (v_t_padMany : Int32) (v_t_low : Int64) (v_t_high : Int64) (v_t_couldMany : Int32) (v_t_keptAt : Int32) (v_t_isWriting : Int32) (v_t_draws : Nat → Int32) (v_t_kept : Nat → Int32) (v_t_prizes : Nat → Int32) (v_t_sets : Nat → Int32) (v_t_sightHow : Nat → Int32) (v_t_sightRight : Nat → Int32) (v_t_sightTicket : Nat → Int32) (v_t_tickets : Nat → Int32) (v_t_winsHigh : Nat → Int64) (v_t_winsLow : Nat → Int64)  (out : (Int32 × Int32 × Int32 × Int32 × Int32 × Int32 × Int32 × Int32 × Int32 × Int32 × (Nat → Int32) × (Nat → Int32) × (Nat → Int32) × (Nat → Int32) × (Nat → Int32) × (Nat → Int32) × (Nat → Int32) × (Nat → Int32) × (Nat → Int64) × (Nat → Int64))) (h : f_Model_passAll v_t_drawn v_t_due v_t_fond v_t_isWriting v_t_keptAt v_t_numbers v_t_onTicket v_t_sights v_t_ticketMany v_t_draws v_t_kept v_t_prizes v_t_sets v_t_sightHow v_t_sightRight v_t_sightTicket v_t_tickets v_t_winsHigh v_t_winsLow = some out) : CT l D I J Z y_Model_passAll b_Model_passAll 2 none 5 [.ref a_t] [(a_t, .inr (10, [.int v_t_numbers, .int v_t_onTicket, .int v_t_drawn, .int v_t_due, .ref a_t_tickets, .int v_t_ticketMany, .int v_t_fond, .ref a_t_prizes, .ref a_t_sightTicket, .ref a_t_sightRight, .ref a_t_sightHow, .int v_t_sights, .ref a_t_draws, .int v_t_drawMany, .ref a_t_sets, .int v_t_setMany, .ref a_t_winsLow, .ref a_t_winsHigh, .ref a_t_pad, .int v_t_padMany, .long v_t_low, .long v_t_high, .ref a_t_could, .int v_t_couldMany, .ref a_t_row, .ref a_t_best, .ref a_t_kept, .ref a_t_isKept, .int v_t_keptAt, .int v_t_isWriting])), (a_t_draws, .inl (I, 70, .inl v_t_draws)), (a_t_kept, .inl (I, 120, .inl v_t_kept)), (a_t_prizes, .inl (I, 9, .inl v_t_prizes)), (a_t_sets, .inl (I, 70, .inl v_t_sets)), (a_t_sightHow, .inl (I, 6, .inl v_t_sightHow)), (a_t_sightRight, .inl (I, 6, .inl v_t_sightRight)), (a_t_sightTicket, .inl (I, 6, .inl v_t_sightTicket)), (a_t_tickets, .inl (I, 6, .inl v_t_tickets)), (a_t_winsHigh, .inl (J, 70, .inr (.inl v_t_winsHigh))), (a_t_winsLow, .inl (J, 70, .inr (.inl v_t_winsLow)))] (PoV D [(a_t, .inr (10, [.int out.2.2.2.2.2.1, .int out.2.2.2.2.2.2.1, .int out.2.1, .int out.2.2.1, .ref a_t_tickets, .int out.2.2.2.2.2.2.2.2.2.1, .int out.2.2.2.1, .ref a_t_prizes, .ref a_t_sightTicket, .ref a_t_sightRight, .ref a_t_sightHow, .int out.2.2.2.2.2.2.2.2.1, .ref a_t_draws, .int out.1, .ref a_t_sets, .int out.2.2.2.2.2.2.2.1, .ref a_t_winsLow, .ref a_t_winsHigh, .ref a_t_pad, .int v_t_padMany, .long v_t_low, .long v_t_high, .ref a_t_could, .int v_t_couldMany, .ref a_t_row, .ref a_t_best, .ref a_t_kept, .ref a_t_isKept, .int out.2.2.2.2.1, .int v_t_isWriting])), (a_t_draws, .inl (I, 70, .inl out.2.2.2.2.2.2.2.2.2.2.1)), (a_t_kept, .inl (I, 120, .inl out.2.2.2.2.2.2.2.2.2.2.2.1)), (a_t_prizes, .inl (I, 9, .inl out.2.2.2.2.2.2.2.2.2.2.2.2.1)), (a_t_sets, .inl (I, 70, .inl out.2.2.2.2.2.2.2.2.2.2.2.2.2.1)), (a_t_sightHow, .inl (I, 6, .inl out.2.2.2.2.2.2.2.2.2.2.2.2.2.2.1)), (a_t_sightRight, .inl (I, 6, .inl out.2.2.2.2.2.2.2.2.2.2.2.2.2.2.2.1)), (a_t_sightTicket, .inl (I, 6, .inl out.2.2.2.2.2.2.2.2.2.2.2.2.2.2.2.2.1)), (a_t_tickets, .inl (I, 6, .inl out.2.2.2.2.2.2.2.2.2.2.2.2.2.2.2.2.2.1)), (a_t_winsHigh, .inl (J, 70, .inr (.inl out.2.2.2.2.2.2.2.2.2.2.2.2.2.2.2.2.2.2.1))), (a_t_winsLow, .inl (J, 70, .inr (.inl out.2.2.2.2.2.2.2.2.2.2.2.2.2.2.2.2.2.2.2)))]) := by
  unfold f_Model_passAll at h
  refine CT_of R_Model (by decide +kernel) rfl (Nat.le_of_ble_eq_true rfl) ?_
  intro p e R s m args below meth c A ls Q hR1 hR2 hQ hC hr hW hA hl
  have hx := hC.1
  have hb := hC.2.1
  have hl : lv_has ls 2 [(0, .ref a_t)] := hl
  have lp86 : ∀ (n : Nat) (x1 : Int32) (v_t_drawMany : Int32) (v_t_drawn : Int32) (v_t_due : Int32) (v_t_fond : Int32) (v_t_keptAt : Int32) (v_t_numbers : Int32) (v_t_onTicket : Int32) (v_t_setMany : Int32) (v_t_sights : Int32) (v_t_ticketMany : Int32) (v_t_draws : Nat → Int32) (v_t_kept : Nat → Int32) (v_t_prizes : Nat → Int32) (v_t_sets : Nat → Int32) (v_t_sightHow : Nat → Int32) (v_t_sightRight : Nat → Int32) (v_t_sightTicket : Nat → Int32) (v_t_tickets : Nat → Int32) (v_t_winsHigh : Nat → Int64) (v_t_winsLow : Nat → Int64) (yx1 : Int32) (y_t_keptAt : Int32) (y_t_kept : Nat → Int32) (y_t_sightHow : Nat → Int32) (y_t_sightRight : Nat → Int32) (y_t_sightTicket : Nat → Int32) (y_t_tickets : Nat → Int32), L_Model_passAll_86 v_t_isWriting n x1 v_t_keptAt v_t_kept v_t_sightHow v_t_sightRight v_t_sightTicket v_t_tickets = some (yx1, y_t_keptAt, y_t_kept, y_t_sightHow, y_t_sightRight, y_t_sightTicket, y_t_tickets) →
    (∀ H locs, Wd D A s.heap [(a_t, .inr (10, [.int v_t_numbers, .int v_t_onTicket, .int v_t_drawn, .int v_t_due, .ref a_t_tickets, .int v_t_ticketMany, .int v_t_fond, .ref a_t_prizes, .ref a_t_sightTicket, .ref a_t_sightRight, .ref a_t_sightHow, .int v_t_sights, .ref a_t_draws, .int v_t_drawMany, .ref a_t_sets, .int v_t_setMany, .ref a_t_winsLow, .ref a_t_winsHigh, .ref a_t_pad, .int v_t_padMany, .long v_t_low, .long v_t_high, .ref a_t_could, .int v_t_couldMany, .ref a_t_row, .ref a_t_best, .ref a_t_kept, .ref a_t_isKept, .int y_t_keptAt, .int v_t_isWriting])), (a_t_draws, .inl (I, 70, .inl v_t_draws)), (a_t_kept, .inl (I, 120, .inl y_t_kept)), (a_t_prizes, .inl (I, 9, .inl v_t_prizes)), (a_t_sets, .inl (I, 70, .inl v_t_sets)), (a_t_sightHow, .inl (I, 6, .inl y_t_sightHow)), (a_t_sightRight, .inl (I, 6, .inl y_t_sightRight)), (a_t_sightTicket, .inl (I, 6, .inl y_t_sightTicket)), (a_t_tickets, .inl (I, 6, .inl y_t_tickets)), (a_t_winsHigh, .inl (J, 70, .inr (.inl v_t_winsHigh))), (a_t_winsLow, .inl (J, 70, .inr (.inl v_t_winsLow)))] H locs → ∀ ls, lv_has ls 2 [(0, .ref a_t), (1, .int yx1)] → W p l e R s m args below meth c H locs 0 0 Q (F0 m 162 ls [])) →
    ∀ H locs, Wd D A s.heap [(a_t, .inr (10, [.int v_t_numbers, .int v_t_onTicket, .int v_t_drawn, .int v_t_due, .ref a_t_tickets, .int v_t_ticketMany, .int v_t_fond, .ref a_t_prizes, .ref a_t_sightTicket, .ref a_t_sightRight, .ref a_t_sightHow, .int v_t_sights, .ref a_t_draws, .int v_t_drawMany, .ref a_t_sets, .int v_t_setMany, .ref a_t_winsLow, .ref a_t_winsHigh, .ref a_t_pad, .int v_t_padMany, .long v_t_low, .long v_t_high, .ref a_t_could, .int v_t_couldMany, .ref a_t_row, .ref a_t_best, .ref a_t_kept, .ref a_t_isKept, .int v_t_keptAt, .int v_t_isWriting])), (a_t_draws, .inl (I, 70, .inl v_t_draws)), (a_t_kept, .inl (I, 120, .inl v_t_kept)), (a_t_prizes, .inl (I, 9, .inl v_t_prizes)), (a_t_sets, .inl (I, 70, .inl v_t_sets)), (a_t_sightHow, .inl (I, 6, .inl v_t_sightHow)), (a_t_sightRight, .inl (I, 6, .inl v_t_sightRight)), (a_t_sightTicket, .inl (I, 6, .inl v_t_sightTicket)), (a_t_tickets, .inl (I, 6, .inl v_t_tickets)), (a_t_winsHigh, .inl (J, 70, .inr (.inl v_t_winsHigh))), (a_t_winsLow, .inl (J, 70, .inr (.inl v_t_winsLow)))] H locs → ∀ ls, lv_has ls 2 [(0, .ref a_t), (1, .int x1)] → W p l e R s m args below meth c H locs 0 0 Q (F0 m 86 ls []) := by
    intro n
    induction n with
    | zero =>
      intro x1 v_t_drawMany v_t_drawn v_t_due v_t_fond v_t_keptAt v_t_numbers v_t_onTicket v_t_setMany v_t_sights v_t_ticketMany v_t_draws v_t_kept v_t_prizes v_t_sets v_t_sightHow v_t_sightRight v_t_sightTicket v_t_tickets v_t_winsHigh v_t_winsLow yx1 y_t_keptAt y_t_kept y_t_sightHow y_t_sightRight y_t_sightTicket y_t_tickets h
      exact no_e h
    | succ n ih =>
      intro x1 v_t_drawMany v_t_drawn v_t_due v_t_fond v_t_keptAt v_t_numbers v_t_onTicket v_t_setMany v_t_sights v_t_ticketMany v_t_draws v_t_kept v_t_prizes v_t_sets v_t_sightHow v_t_sightRight v_t_sightTicket v_t_tickets v_t_winsHigh v_t_winsLow yx1 y_t_keptAt y_t_kept y_t_sightHow y_t_sightRight y_t_sightTicket y_t_tickets h K H locs hW ls hl
      rw [L_Model_passAll_86] at h
      refine lv_iload_n hx hb d_Model_passAll_86 rfl (lv_at hl 1 rfl) ?_
      refine lv_bipush (v := (6 : Int32)) hx hb d_Model_passAll_87 (by decide) ?_
      refine lv_icmp_ge (tgt := 162) hx hb d_Model_passAll_89 (by decide) (fun c_8 => ?_) (fun c_8 => ?_)
      · have h := it_e c_8 h
        cases h
        exact K _ _ hW ls (lv_sub hl [0, 1] rfl)
      · have h := ie_e c_8 h
        refine lv_aload_n hx hb d_Model_passAll_92 rfl (lv_at hl 0 rfl) ?_
        refine x_get hC hW 0 rfl fl_Model_7 rfl d_Model_passAll_93 ?_
        refine lv_iload_n hx hb d_Model_passAll_96 rfl (lv_at hl 1 rfl) ?_
        refine lv_aload_n hx hb d_Model_passAll_97 rfl (lv_at hl 0 rfl) ?_
        refine lv_aload_n hx hb d_Model_passAll_98 rfl (lv_at hl 0 rfl) ?_
        refine x_get hC hW 0 rfl fl_Model_7 rfl d_Model_passAll_99 ?_
        refine lv_iload_n hx hb d_Model_passAll_102 rfl (lv_at hl 1 rfl) ?_
        obtain ⟨hi_9, h⟩ := gd_e h
        refine x_iald hC hW 8 rfl hi_9 d_Model_passAll_103 ?_
        obtain ⟨r_10, w_10_0, w_10_1, hc_10, h⟩ := bk3_e h
        refine x_ci (ws' := [(a_t, .inr (10, [.int v_t_numbers, .int v_t_onTicket, .int v_t_drawn, .int v_t_due, .ref a_t_tickets, .int v_t_ticketMany, .int v_t_fond, .ref a_t_prizes, .ref a_t_sightTicket, .ref a_t_sightRight, .ref a_t_sightHow, .int v_t_sights, .ref a_t_draws, .int v_t_drawMany, .ref a_t_sets, .int v_t_setMany, .ref a_t_winsLow, .ref a_t_winsHigh, .ref a_t_pad, .int v_t_padMany, .long v_t_low, .long v_t_high, .ref a_t_could, .int v_t_couldMany, .ref a_t_row, .ref a_t_best, .ref a_t_kept, .ref a_t_isKept, .int w_10_0, .int v_t_isWriting])), (a_t_draws, .inl (I, 70, .inl v_t_draws)), (a_t_kept, .inl (I, 120, .inl w_10_1)), (a_t_prizes, .inl (I, 9, .inl v_t_prizes)), (a_t_sets, .inl (I, 70, .inl v_t_sets)), (a_t_sightHow, .inl (I, 6, .inl v_t_sightHow)), (a_t_sightRight, .inl (I, 6, .inl v_t_sightRight)), (a_t_sightTicket, .inl (I, 6, .inl v_t_sightTicket)), (a_t_tickets, .inl (I, 6, .inl v_t_tickets)), (a_t_winsHigh, .inl (J, 70, .inr (.inl v_t_winsHigh))), (a_t_winsLow, .inl (J, 70, .inr (.inl v_t_winsLow)))]) (x_runV (As := [.int (v_t_tickets x1.toNatClampNeg)]) (rest := [.int x1, .ref a_t_tickets]) hC hW (c_Model_pass l D I J Z a_t a_t_kept a_t_tickets a_t_prizes a_t_sightTicket a_t_sightRight a_t_sightHow a_t_draws a_t_sets a_t_winsLow a_t_winsHigh a_t_pad a_t_could a_t_row a_t_best a_t_isKept v_t_numbers v_t_onTicket v_t_drawn v_t_due v_t_ticketMany v_t_fond v_t_sights v_t_drawMany v_t_setMany v_t_padMany v_t_low v_t_high v_t_couldMany v_t_keptAt v_t_isWriting v_t_kept (v_t_tickets x1.toNatClampNeg) (r_10, w_10_0, w_10_1) hc_10) cl_Model_209 q_code_Model_pass [0, 2] rfl (by decide) 0 rfl rfl rfl rfl hl.1 (Nat.le_of_ble_eq_true rfl) (rm_ok hR1 hR2 (by decide) (by decide)) ⟨Nat.zero_le _, Nat.zero_le _⟩ d_Model_passAll_104) hW hA [0, 2] rfl rfl (ps := [some 0, none, some 1, none, none, none, none, none, none, none, none]) (by decide +kernel) ⟨rfl, rfl, rfl, rfl, rfl, rfl, rfl, rfl, rfl, rfl, rfl, trivial⟩ (fun H locs hW => ?_)
        obtain ⟨hi_11, h⟩ := gd_e h
        refine x_iast (ws' := [(a_t, .inr (10, [.int v_t_numbers, .int v_t_onTicket, .int v_t_drawn, .int v_t_due, .ref a_t_tickets, .int v_t_ticketMany, .int v_t_fond, .ref a_t_prizes, .ref a_t_sightTicket, .ref a_t_sightRight, .ref a_t_sightHow, .int v_t_sights, .ref a_t_draws, .int v_t_drawMany, .ref a_t_sets, .int v_t_setMany, .ref a_t_winsLow, .ref a_t_winsHigh, .ref a_t_pad, .int v_t_padMany, .long v_t_low, .long v_t_high, .ref a_t_could, .int v_t_couldMany, .ref a_t_row, .ref a_t_best, .ref a_t_kept, .ref a_t_isKept, .int w_10_0, .int v_t_isWriting])), (a_t_draws, .inl (I, 70, .inl v_t_draws)), (a_t_kept, .inl (I, 120, .inl w_10_1)), (a_t_prizes, .inl (I, 9, .inl v_t_prizes)), (a_t_sets, .inl (I, 70, .inl v_t_sets)), (a_t_sightHow, .inl (I, 6, .inl v_t_sightHow)), (a_t_sightRight, .inl (I, 6, .inl v_t_sightRight)), (a_t_sightTicket, .inl (I, 6, .inl v_t_sightTicket)), (a_t_tickets, .inl (I, 6, .inl (upd v_t_tickets x1.toNatClampNeg r_10))), (a_t_winsHigh, .inl (J, 70, .inr (.inl v_t_winsHigh))), (a_t_winsLow, .inl (J, 70, .inr (.inl v_t_winsLow)))]) hC hW 8 rfl hi_11 d_Model_passAll_107 rfl (fun H locs hW => ?_)
        refine lv_aload_n hx hb d_Model_passAll_108 rfl (lv_at hl 0 rfl) ?_
        refine x_get hC hW 0 rfl fl_Model_16 rfl d_Model_passAll_109 ?_
        refine lv_iload_n hx hb d_Model_passAll_112 rfl (lv_at hl 1 rfl) ?_
        refine lv_aload_n hx hb d_Model_passAll_113 rfl (lv_at hl 0 rfl) ?_
        refine lv_aload_n hx hb d_Model_passAll_114 rfl (lv_at hl 0 rfl) ?_
        refine x_get hC hW 0 rfl fl_Model_16 rfl d_Model_passAll_115 ?_
        refine lv_iload_n hx hb d_Model_passAll_118 rfl (lv_at hl 1 rfl) ?_
        obtain ⟨hi_12, h⟩ := gd_e h
        refine x_iald hC hW 7 rfl hi_12 d_Model_passAll_119 ?_
        obtain ⟨r_13, w_13_0, w_13_1, hc_13, h⟩ := bk3_e h
        refine x_ci (ws' := [(a_t, .inr (10, [.int v_t_numbers, .int v_t_onTicket, .int v_t_drawn, .int v_t_due, .ref a_t_tickets, .int v_t_ticketMany, .int v_t_fond, .ref a_t_prizes, .ref a_t_sightTicket, .ref a_t_sightRight, .ref a_t_sightHow, .int v_t_sights, .ref a_t_draws, .int v_t_drawMany, .ref a_t_sets, .int v_t_setMany, .ref a_t_winsLow, .ref a_t_winsHigh, .ref a_t_pad, .int v_t_padMany, .long v_t_low, .long v_t_high, .ref a_t_could, .int v_t_couldMany, .ref a_t_row, .ref a_t_best, .ref a_t_kept, .ref a_t_isKept, .int w_13_0, .int v_t_isWriting])), (a_t_draws, .inl (I, 70, .inl v_t_draws)), (a_t_kept, .inl (I, 120, .inl w_13_1)), (a_t_prizes, .inl (I, 9, .inl v_t_prizes)), (a_t_sets, .inl (I, 70, .inl v_t_sets)), (a_t_sightHow, .inl (I, 6, .inl v_t_sightHow)), (a_t_sightRight, .inl (I, 6, .inl v_t_sightRight)), (a_t_sightTicket, .inl (I, 6, .inl v_t_sightTicket)), (a_t_tickets, .inl (I, 6, .inl (upd v_t_tickets x1.toNatClampNeg r_10))), (a_t_winsHigh, .inl (J, 70, .inr (.inl v_t_winsHigh))), (a_t_winsLow, .inl (J, 70, .inr (.inl v_t_winsLow)))]) (x_runV (As := [.int (v_t_sightTicket x1.toNatClampNeg)]) (rest := [.int x1, .ref a_t_sightTicket]) hC hW (c_Model_pass l D I J Z a_t a_t_kept a_t_tickets a_t_prizes a_t_sightTicket a_t_sightRight a_t_sightHow a_t_draws a_t_sets a_t_winsLow a_t_winsHigh a_t_pad a_t_could a_t_row a_t_best a_t_isKept v_t_numbers v_t_onTicket v_t_drawn v_t_due v_t_ticketMany v_t_fond v_t_sights v_t_drawMany v_t_setMany v_t_padMany v_t_low v_t_high v_t_couldMany w_10_0 v_t_isWriting w_10_1 (v_t_sightTicket x1.toNatClampNeg) (r_13, w_13_0, w_13_1) hc_13) cl_Model_209 q_code_Model_pass [0, 2] rfl (by decide) 0 rfl rfl rfl rfl hl.1 (Nat.le_of_ble_eq_true rfl) (rm_ok hR1 hR2 (by decide) (by decide)) ⟨Nat.zero_le _, Nat.zero_le _⟩ d_Model_passAll_120) hW hA [0, 2] rfl rfl (ps := [some 0, none, some 1, none, none, none, none, none, none, none, none]) (by decide +kernel) ⟨rfl, rfl, rfl, rfl, rfl, rfl, rfl, rfl, rfl, rfl, rfl, trivial⟩ (fun H locs hW => ?_)
        obtain ⟨hi_14, h⟩ := gd_e h
        refine x_iast (ws' := [(a_t, .inr (10, [.int v_t_numbers, .int v_t_onTicket, .int v_t_drawn, .int v_t_due, .ref a_t_tickets, .int v_t_ticketMany, .int v_t_fond, .ref a_t_prizes, .ref a_t_sightTicket, .ref a_t_sightRight, .ref a_t_sightHow, .int v_t_sights, .ref a_t_draws, .int v_t_drawMany, .ref a_t_sets, .int v_t_setMany, .ref a_t_winsLow, .ref a_t_winsHigh, .ref a_t_pad, .int v_t_padMany, .long v_t_low, .long v_t_high, .ref a_t_could, .int v_t_couldMany, .ref a_t_row, .ref a_t_best, .ref a_t_kept, .ref a_t_isKept, .int w_13_0, .int v_t_isWriting])), (a_t_draws, .inl (I, 70, .inl v_t_draws)), (a_t_kept, .inl (I, 120, .inl w_13_1)), (a_t_prizes, .inl (I, 9, .inl v_t_prizes)), (a_t_sets, .inl (I, 70, .inl v_t_sets)), (a_t_sightHow, .inl (I, 6, .inl v_t_sightHow)), (a_t_sightRight, .inl (I, 6, .inl v_t_sightRight)), (a_t_sightTicket, .inl (I, 6, .inl (upd v_t_sightTicket x1.toNatClampNeg r_13))), (a_t_tickets, .inl (I, 6, .inl (upd v_t_tickets x1.toNatClampNeg r_10))), (a_t_winsHigh, .inl (J, 70, .inr (.inl v_t_winsHigh))), (a_t_winsLow, .inl (J, 70, .inr (.inl v_t_winsLow)))]) hC hW 7 rfl hi_14 d_Model_passAll_123 rfl (fun H locs hW => ?_)
        refine lv_aload_n hx hb d_Model_passAll_124 rfl (lv_at hl 0 rfl) ?_
        refine x_get hC hW 0 rfl fl_Model_19 rfl d_Model_passAll_125 ?_
        refine lv_iload_n hx hb d_Model_passAll_128 rfl (lv_at hl 1 rfl) ?_
        refine lv_aload_n hx hb d_Model_passAll_129 rfl (lv_at hl 0 rfl) ?_
        refine lv_aload_n hx hb d_Model_passAll_130 rfl (lv_at hl 0 rfl) ?_
        refine x_get hC hW 0 rfl fl_Model_19 rfl d_Model_passAll_131 ?_
        refine lv_iload_n hx hb d_Model_passAll_134 rfl (lv_at hl 1 rfl) ?_
        obtain ⟨hi_15, h⟩ := gd_e h
        refine x_iald hC hW 6 rfl hi_15 d_Model_passAll_135 ?_
        obtain ⟨r_16, w_16_0, w_16_1, hc_16, h⟩ := bk3_e h
        refine x_ci (ws' := [(a_t, .inr (10, [.int v_t_numbers, .int v_t_onTicket, .int v_t_drawn, .int v_t_due, .ref a_t_tickets, .int v_t_ticketMany, .int v_t_fond, .ref a_t_prizes, .ref a_t_sightTicket, .ref a_t_sightRight, .ref a_t_sightHow, .int v_t_sights, .ref a_t_draws, .int v_t_drawMany, .ref a_t_sets, .int v_t_setMany, .ref a_t_winsLow, .ref a_t_winsHigh, .ref a_t_pad, .int v_t_padMany, .long v_t_low, .long v_t_high, .ref a_t_could, .int v_t_couldMany, .ref a_t_row, .ref a_t_best, .ref a_t_kept, .ref a_t_isKept, .int w_16_0, .int v_t_isWriting])), (a_t_draws, .inl (I, 70, .inl v_t_draws)), (a_t_kept, .inl (I, 120, .inl w_16_1)), (a_t_prizes, .inl (I, 9, .inl v_t_prizes)), (a_t_sets, .inl (I, 70, .inl v_t_sets)), (a_t_sightHow, .inl (I, 6, .inl v_t_sightHow)), (a_t_sightRight, .inl (I, 6, .inl v_t_sightRight)), (a_t_sightTicket, .inl (I, 6, .inl (upd v_t_sightTicket x1.toNatClampNeg r_13))), (a_t_tickets, .inl (I, 6, .inl (upd v_t_tickets x1.toNatClampNeg r_10))), (a_t_winsHigh, .inl (J, 70, .inr (.inl v_t_winsHigh))), (a_t_winsLow, .inl (J, 70, .inr (.inl v_t_winsLow)))]) (x_runV (As := [.int (v_t_sightRight x1.toNatClampNeg)]) (rest := [.int x1, .ref a_t_sightRight]) hC hW (c_Model_pass l D I J Z a_t a_t_kept a_t_tickets a_t_prizes a_t_sightTicket a_t_sightRight a_t_sightHow a_t_draws a_t_sets a_t_winsLow a_t_winsHigh a_t_pad a_t_could a_t_row a_t_best a_t_isKept v_t_numbers v_t_onTicket v_t_drawn v_t_due v_t_ticketMany v_t_fond v_t_sights v_t_drawMany v_t_setMany v_t_padMany v_t_low v_t_high v_t_couldMany w_13_0 v_t_isWriting w_13_1 (v_t_sightRight x1.toNatClampNeg) (r_16, w_16_0, w_16_1) hc_16) cl_Model_209 q_code_Model_pass [0, 2] rfl (by decide) 0 rfl rfl rfl rfl hl.1 (Nat.le_of_ble_eq_true rfl) (rm_ok hR1 hR2 (by decide) (by decide)) ⟨Nat.zero_le _, Nat.zero_le _⟩ d_Model_passAll_136) hW hA [0, 2] rfl rfl (ps := [some 0, none, some 1, none, none, none, none, none, none, none, none]) (by decide +kernel) ⟨rfl, rfl, rfl, rfl, rfl, rfl, rfl, rfl, rfl, rfl, rfl, trivial⟩ (fun H locs hW => ?_)
        obtain ⟨hi_17, h⟩ := gd_e h
        refine x_iast (ws' := [(a_t, .inr (10, [.int v_t_numbers, .int v_t_onTicket, .int v_t_drawn, .int v_t_due, .ref a_t_tickets, .int v_t_ticketMany, .int v_t_fond, .ref a_t_prizes, .ref a_t_sightTicket, .ref a_t_sightRight, .ref a_t_sightHow, .int v_t_sights, .ref a_t_draws, .int v_t_drawMany, .ref a_t_sets, .int v_t_setMany, .ref a_t_winsLow, .ref a_t_winsHigh, .ref a_t_pad, .int v_t_padMany, .long v_t_low, .long v_t_high, .ref a_t_could, .int v_t_couldMany, .ref a_t_row, .ref a_t_best, .ref a_t_kept, .ref a_t_isKept, .int w_16_0, .int v_t_isWriting])), (a_t_draws, .inl (I, 70, .inl v_t_draws)), (a_t_kept, .inl (I, 120, .inl w_16_1)), (a_t_prizes, .inl (I, 9, .inl v_t_prizes)), (a_t_sets, .inl (I, 70, .inl v_t_sets)), (a_t_sightHow, .inl (I, 6, .inl v_t_sightHow)), (a_t_sightRight, .inl (I, 6, .inl (upd v_t_sightRight x1.toNatClampNeg r_16))), (a_t_sightTicket, .inl (I, 6, .inl (upd v_t_sightTicket x1.toNatClampNeg r_13))), (a_t_tickets, .inl (I, 6, .inl (upd v_t_tickets x1.toNatClampNeg r_10))), (a_t_winsHigh, .inl (J, 70, .inr (.inl v_t_winsHigh))), (a_t_winsLow, .inl (J, 70, .inr (.inl v_t_winsLow)))]) hC hW 6 rfl hi_17 d_Model_passAll_139 rfl (fun H locs hW => ?_)
        refine lv_aload_n hx hb d_Model_passAll_140 rfl (lv_at hl 0 rfl) ?_
        refine x_get hC hW 0 rfl fl_Model_22 rfl d_Model_passAll_141 ?_
        refine lv_iload_n hx hb d_Model_passAll_144 rfl (lv_at hl 1 rfl) ?_
        refine lv_aload_n hx hb d_Model_passAll_145 rfl (lv_at hl 0 rfl) ?_
        refine lv_aload_n hx hb d_Model_passAll_146 rfl (lv_at hl 0 rfl) ?_
        refine x_get hC hW 0 rfl fl_Model_22 rfl d_Model_passAll_147 ?_
        refine lv_iload_n hx hb d_Model_passAll_150 rfl (lv_at hl 1 rfl) ?_
        obtain ⟨hi_18, h⟩ := gd_e h
        refine x_iald hC hW 5 rfl hi_18 d_Model_passAll_151 ?_
        obtain ⟨r_19, w_19_0, w_19_1, hc_19, h⟩ := bk3_e h
        refine x_ci (ws' := [(a_t, .inr (10, [.int v_t_numbers, .int v_t_onTicket, .int v_t_drawn, .int v_t_due, .ref a_t_tickets, .int v_t_ticketMany, .int v_t_fond, .ref a_t_prizes, .ref a_t_sightTicket, .ref a_t_sightRight, .ref a_t_sightHow, .int v_t_sights, .ref a_t_draws, .int v_t_drawMany, .ref a_t_sets, .int v_t_setMany, .ref a_t_winsLow, .ref a_t_winsHigh, .ref a_t_pad, .int v_t_padMany, .long v_t_low, .long v_t_high, .ref a_t_could, .int v_t_couldMany, .ref a_t_row, .ref a_t_best, .ref a_t_kept, .ref a_t_isKept, .int w_19_0, .int v_t_isWriting])), (a_t_draws, .inl (I, 70, .inl v_t_draws)), (a_t_kept, .inl (I, 120, .inl w_19_1)), (a_t_prizes, .inl (I, 9, .inl v_t_prizes)), (a_t_sets, .inl (I, 70, .inl v_t_sets)), (a_t_sightHow, .inl (I, 6, .inl v_t_sightHow)), (a_t_sightRight, .inl (I, 6, .inl (upd v_t_sightRight x1.toNatClampNeg r_16))), (a_t_sightTicket, .inl (I, 6, .inl (upd v_t_sightTicket x1.toNatClampNeg r_13))), (a_t_tickets, .inl (I, 6, .inl (upd v_t_tickets x1.toNatClampNeg r_10))), (a_t_winsHigh, .inl (J, 70, .inr (.inl v_t_winsHigh))), (a_t_winsLow, .inl (J, 70, .inr (.inl v_t_winsLow)))]) (x_runV (As := [.int (v_t_sightHow x1.toNatClampNeg)]) (rest := [.int x1, .ref a_t_sightHow]) hC hW (c_Model_pass l D I J Z a_t a_t_kept a_t_tickets a_t_prizes a_t_sightTicket a_t_sightRight a_t_sightHow a_t_draws a_t_sets a_t_winsLow a_t_winsHigh a_t_pad a_t_could a_t_row a_t_best a_t_isKept v_t_numbers v_t_onTicket v_t_drawn v_t_due v_t_ticketMany v_t_fond v_t_sights v_t_drawMany v_t_setMany v_t_padMany v_t_low v_t_high v_t_couldMany w_16_0 v_t_isWriting w_16_1 (v_t_sightHow x1.toNatClampNeg) (r_19, w_19_0, w_19_1) hc_19) cl_Model_209 q_code_Model_pass [0, 2] rfl (by decide) 0 rfl rfl rfl rfl hl.1 (Nat.le_of_ble_eq_true rfl) (rm_ok hR1 hR2 (by decide) (by decide)) ⟨Nat.zero_le _, Nat.zero_le _⟩ d_Model_passAll_152) hW hA [0, 2] rfl rfl (ps := [some 0, none, some 1, none, none, none, none, none, none, none, none]) (by decide +kernel) ⟨rfl, rfl, rfl, rfl, rfl, rfl, rfl, rfl, rfl, rfl, rfl, trivial⟩ (fun H locs hW => ?_)
        obtain ⟨hi_20, h⟩ := gd_e h
        refine x_iast (ws' := [(a_t, .inr (10, [.int v_t_numbers, .int v_t_onTicket, .int v_t_drawn, .int v_t_due, .ref a_t_tickets, .int v_t_ticketMany, .int v_t_fond, .ref a_t_prizes, .ref a_t_sightTicket, .ref a_t_sightRight, .ref a_t_sightHow, .int v_t_sights, .ref a_t_draws, .int v_t_drawMany, .ref a_t_sets, .int v_t_setMany, .ref a_t_winsLow, .ref a_t_winsHigh, .ref a_t_pad, .int v_t_padMany, .long v_t_low, .long v_t_high, .ref a_t_could, .int v_t_couldMany, .ref a_t_row, .ref a_t_best, .ref a_t_kept, .ref a_t_isKept, .int w_19_0, .int v_t_isWriting])), (a_t_draws, .inl (I, 70, .inl v_t_draws)), (a_t_kept, .inl (I, 120, .inl w_19_1)), (a_t_prizes, .inl (I, 9, .inl v_t_prizes)), (a_t_sets, .inl (I, 70, .inl v_t_sets)), (a_t_sightHow, .inl (I, 6, .inl (upd v_t_sightHow x1.toNatClampNeg r_19))), (a_t_sightRight, .inl (I, 6, .inl (upd v_t_sightRight x1.toNatClampNeg r_16))), (a_t_sightTicket, .inl (I, 6, .inl (upd v_t_sightTicket x1.toNatClampNeg r_13))), (a_t_tickets, .inl (I, 6, .inl (upd v_t_tickets x1.toNatClampNeg r_10))), (a_t_winsHigh, .inl (J, 70, .inr (.inl v_t_winsHigh))), (a_t_winsLow, .inl (J, 70, .inr (.inl v_t_winsLow)))]) hC hW 5 rfl hi_20 d_Model_passAll_155 rfl (fun H locs hW => ?_)
        refine lv_iinc (v := (x1 + (1 : Int32))) (lv' := [(1, .int (x1 + (1 : Int32))), (0, .ref a_t)]) hx hb d_Model_passAll_156 hl (k := 1) rfl (iinc_e (by decide)) (by decide) rfl (fun ls hl => ?_)
        refine lv_goto (tgt := 86) hx hb d_Model_passAll_159 (by decide) ?_
        exact ih (x1 + (1 : Int32)) v_t_drawMany v_t_drawn v_t_due v_t_fond w_19_0 v_t_numbers v_t_onTicket v_t_setMany v_t_sights v_t_ticketMany v_t_draws w_19_1 v_t_prizes v_t_sets (upd v_t_sightHow x1.toNatClampNeg r_19) (upd v_t_sightRight x1.toNatClampNeg r_16) (upd v_t_sightTicket x1.toNatClampNeg r_13) (upd v_t_tickets x1.toNatClampNeg r_10) v_t_winsHigh v_t_winsLow _ _ _ _ _ _ _ h K _ _ hW ls (lv_sub hl [1, 0] rfl)
  have lp164 : ∀ (n : Nat) (x1 : Int32) (v_t_drawMany : Int32) (v_t_drawn : Int32) (v_t_due : Int32) (v_t_fond : Int32) (v_t_keptAt : Int32) (v_t_numbers : Int32) (v_t_onTicket : Int32) (v_t_setMany : Int32) (v_t_sights : Int32) (v_t_ticketMany : Int32) (v_t_draws : Nat → Int32) (v_t_kept : Nat → Int32) (v_t_prizes : Nat → Int32) (v_t_sets : Nat → Int32) (v_t_sightHow : Nat → Int32) (v_t_sightRight : Nat → Int32) (v_t_sightTicket : Nat → Int32) (v_t_tickets : Nat → Int32) (v_t_winsHigh : Nat → Int64) (v_t_winsLow : Nat → Int64) (yx1 : Int32) (y_t_keptAt : Int32) (y_t_kept : Nat → Int32) (y_t_prizes : Nat → Int32), L_Model_passAll_164 v_t_isWriting n x1 v_t_keptAt v_t_kept v_t_prizes = some (yx1, y_t_keptAt, y_t_kept, y_t_prizes) →
    (∀ H locs, Wd D A s.heap [(a_t, .inr (10, [.int v_t_numbers, .int v_t_onTicket, .int v_t_drawn, .int v_t_due, .ref a_t_tickets, .int v_t_ticketMany, .int v_t_fond, .ref a_t_prizes, .ref a_t_sightTicket, .ref a_t_sightRight, .ref a_t_sightHow, .int v_t_sights, .ref a_t_draws, .int v_t_drawMany, .ref a_t_sets, .int v_t_setMany, .ref a_t_winsLow, .ref a_t_winsHigh, .ref a_t_pad, .int v_t_padMany, .long v_t_low, .long v_t_high, .ref a_t_could, .int v_t_couldMany, .ref a_t_row, .ref a_t_best, .ref a_t_kept, .ref a_t_isKept, .int y_t_keptAt, .int v_t_isWriting])), (a_t_draws, .inl (I, 70, .inl v_t_draws)), (a_t_kept, .inl (I, 120, .inl y_t_kept)), (a_t_prizes, .inl (I, 9, .inl y_t_prizes)), (a_t_sets, .inl (I, 70, .inl v_t_sets)), (a_t_sightHow, .inl (I, 6, .inl v_t_sightHow)), (a_t_sightRight, .inl (I, 6, .inl v_t_sightRight)), (a_t_sightTicket, .inl (I, 6, .inl v_t_sightTicket)), (a_t_tickets, .inl (I, 6, .inl v_t_tickets)), (a_t_winsHigh, .inl (J, 70, .inr (.inl v_t_winsHigh))), (a_t_winsLow, .inl (J, 70, .inr (.inl v_t_winsLow)))] H locs → ∀ ls, lv_has ls 2 [(0, .ref a_t), (1, .int yx1)] → W p l e R s m args below meth c H locs 0 0 Q (F0 m 192 ls [])) →
    ∀ H locs, Wd D A s.heap [(a_t, .inr (10, [.int v_t_numbers, .int v_t_onTicket, .int v_t_drawn, .int v_t_due, .ref a_t_tickets, .int v_t_ticketMany, .int v_t_fond, .ref a_t_prizes, .ref a_t_sightTicket, .ref a_t_sightRight, .ref a_t_sightHow, .int v_t_sights, .ref a_t_draws, .int v_t_drawMany, .ref a_t_sets, .int v_t_setMany, .ref a_t_winsLow, .ref a_t_winsHigh, .ref a_t_pad, .int v_t_padMany, .long v_t_low, .long v_t_high, .ref a_t_could, .int v_t_couldMany, .ref a_t_row, .ref a_t_best, .ref a_t_kept, .ref a_t_isKept, .int v_t_keptAt, .int v_t_isWriting])), (a_t_draws, .inl (I, 70, .inl v_t_draws)), (a_t_kept, .inl (I, 120, .inl v_t_kept)), (a_t_prizes, .inl (I, 9, .inl v_t_prizes)), (a_t_sets, .inl (I, 70, .inl v_t_sets)), (a_t_sightHow, .inl (I, 6, .inl v_t_sightHow)), (a_t_sightRight, .inl (I, 6, .inl v_t_sightRight)), (a_t_sightTicket, .inl (I, 6, .inl v_t_sightTicket)), (a_t_tickets, .inl (I, 6, .inl v_t_tickets)), (a_t_winsHigh, .inl (J, 70, .inr (.inl v_t_winsHigh))), (a_t_winsLow, .inl (J, 70, .inr (.inl v_t_winsLow)))] H locs → ∀ ls, lv_has ls 2 [(0, .ref a_t), (1, .int x1)] → W p l e R s m args below meth c H locs 0 0 Q (F0 m 164 ls []) := by
    intro n
    induction n with
    | zero =>
      intro x1 v_t_drawMany v_t_drawn v_t_due v_t_fond v_t_keptAt v_t_numbers v_t_onTicket v_t_setMany v_t_sights v_t_ticketMany v_t_draws v_t_kept v_t_prizes v_t_sets v_t_sightHow v_t_sightRight v_t_sightTicket v_t_tickets v_t_winsHigh v_t_winsLow yx1 y_t_keptAt y_t_kept y_t_prizes h
      exact no_e h
    | succ n ih =>
      intro x1 v_t_drawMany v_t_drawn v_t_due v_t_fond v_t_keptAt v_t_numbers v_t_onTicket v_t_setMany v_t_sights v_t_ticketMany v_t_draws v_t_kept v_t_prizes v_t_sets v_t_sightHow v_t_sightRight v_t_sightTicket v_t_tickets v_t_winsHigh v_t_winsLow yx1 y_t_keptAt y_t_kept y_t_prizes h K H locs hW ls hl
      rw [L_Model_passAll_164] at h
      refine lv_iload_n hx hb d_Model_passAll_164 rfl (lv_at hl 1 rfl) ?_
      refine lv_bipush (v := (9 : Int32)) hx hb d_Model_passAll_165 (by decide) ?_
      refine lv_icmp_ge (tgt := 192) hx hb d_Model_passAll_167 (by decide) (fun c_22 => ?_) (fun c_22 => ?_)
      · have h := it_e c_22 h
        cases h
        exact K _ _ hW ls (lv_sub hl [0, 1] rfl)
      · have h := ie_e c_22 h
        refine lv_aload_n hx hb d_Model_passAll_170 rfl (lv_at hl 0 rfl) ?_
        refine x_get hC hW 0 rfl fl_Model_13 rfl d_Model_passAll_171 ?_
        refine lv_iload_n hx hb d_Model_passAll_174 rfl (lv_at hl 1 rfl) ?_
        refine lv_aload_n hx hb d_Model_passAll_175 rfl (lv_at hl 0 rfl) ?_
        refine lv_aload_n hx hb d_Model_passAll_176 rfl (lv_at hl 0 rfl) ?_
        refine x_get hC hW 0 rfl fl_Model_13 rfl d_Model_passAll_177 ?_
        refine lv_iload_n hx hb d_Model_passAll_180 rfl (lv_at hl 1 rfl) ?_
        obtain ⟨hi_23, h⟩ := gd_e h
        refine x_iald hC hW 3 rfl hi_23 d_Model_passAll_181 ?_
        obtain ⟨r_24, w_24_0, w_24_1, hc_24, h⟩ := bk3_e h
        refine x_ci (ws' := [(a_t, .inr (10, [.int v_t_numbers, .int v_t_onTicket, .int v_t_drawn, .int v_t_due, .ref a_t_tickets, .int v_t_ticketMany, .int v_t_fond, .ref a_t_prizes, .ref a_t_sightTicket, .ref a_t_sightRight, .ref a_t_sightHow, .int v_t_sights, .ref a_t_draws, .int v_t_drawMany, .ref a_t_sets, .int v_t_setMany, .ref a_t_winsLow, .ref a_t_winsHigh, .ref a_t_pad, .int v_t_padMany, .long v_t_low, .long v_t_high, .ref a_t_could, .int v_t_couldMany, .ref a_t_row, .ref a_t_best, .ref a_t_kept, .ref a_t_isKept, .int w_24_0, .int v_t_isWriting])), (a_t_draws, .inl (I, 70, .inl v_t_draws)), (a_t_kept, .inl (I, 120, .inl w_24_1)), (a_t_prizes, .inl (I, 9, .inl v_t_prizes)), (a_t_sets, .inl (I, 70, .inl v_t_sets)), (a_t_sightHow, .inl (I, 6, .inl v_t_sightHow)), (a_t_sightRight, .inl (I, 6, .inl v_t_sightRight)), (a_t_sightTicket, .inl (I, 6, .inl v_t_sightTicket)), (a_t_tickets, .inl (I, 6, .inl v_t_tickets)), (a_t_winsHigh, .inl (J, 70, .inr (.inl v_t_winsHigh))), (a_t_winsLow, .inl (J, 70, .inr (.inl v_t_winsLow)))]) (x_runV (As := [.int (v_t_prizes x1.toNatClampNeg)]) (rest := [.int x1, .ref a_t_prizes]) hC hW (c_Model_pass l D I J Z a_t a_t_kept a_t_tickets a_t_prizes a_t_sightTicket a_t_sightRight a_t_sightHow a_t_draws a_t_sets a_t_winsLow a_t_winsHigh a_t_pad a_t_could a_t_row a_t_best a_t_isKept v_t_numbers v_t_onTicket v_t_drawn v_t_due v_t_ticketMany v_t_fond v_t_sights v_t_drawMany v_t_setMany v_t_padMany v_t_low v_t_high v_t_couldMany v_t_keptAt v_t_isWriting v_t_kept (v_t_prizes x1.toNatClampNeg) (r_24, w_24_0, w_24_1) hc_24) cl_Model_209 q_code_Model_pass [0, 2] rfl (by decide) 0 rfl rfl rfl rfl hl.1 (Nat.le_of_ble_eq_true rfl) (rm_ok hR1 hR2 (by decide) (by decide)) ⟨Nat.zero_le _, Nat.zero_le _⟩ d_Model_passAll_182) hW hA [0, 2] rfl rfl (ps := [some 0, none, some 1, none, none, none, none, none, none, none, none]) (by decide +kernel) ⟨rfl, rfl, rfl, rfl, rfl, rfl, rfl, rfl, rfl, rfl, rfl, trivial⟩ (fun H locs hW => ?_)
        obtain ⟨hi_25, h⟩ := gd_e h
        refine x_iast (ws' := [(a_t, .inr (10, [.int v_t_numbers, .int v_t_onTicket, .int v_t_drawn, .int v_t_due, .ref a_t_tickets, .int v_t_ticketMany, .int v_t_fond, .ref a_t_prizes, .ref a_t_sightTicket, .ref a_t_sightRight, .ref a_t_sightHow, .int v_t_sights, .ref a_t_draws, .int v_t_drawMany, .ref a_t_sets, .int v_t_setMany, .ref a_t_winsLow, .ref a_t_winsHigh, .ref a_t_pad, .int v_t_padMany, .long v_t_low, .long v_t_high, .ref a_t_could, .int v_t_couldMany, .ref a_t_row, .ref a_t_best, .ref a_t_kept, .ref a_t_isKept, .int w_24_0, .int v_t_isWriting])), (a_t_draws, .inl (I, 70, .inl v_t_draws)), (a_t_kept, .inl (I, 120, .inl w_24_1)), (a_t_prizes, .inl (I, 9, .inl (upd v_t_prizes x1.toNatClampNeg r_24))), (a_t_sets, .inl (I, 70, .inl v_t_sets)), (a_t_sightHow, .inl (I, 6, .inl v_t_sightHow)), (a_t_sightRight, .inl (I, 6, .inl v_t_sightRight)), (a_t_sightTicket, .inl (I, 6, .inl v_t_sightTicket)), (a_t_tickets, .inl (I, 6, .inl v_t_tickets)), (a_t_winsHigh, .inl (J, 70, .inr (.inl v_t_winsHigh))), (a_t_winsLow, .inl (J, 70, .inr (.inl v_t_winsLow)))]) hC hW 3 rfl hi_25 d_Model_passAll_185 rfl (fun H locs hW => ?_)
        refine lv_iinc (v := (x1 + (1 : Int32))) (lv' := [(1, .int (x1 + (1 : Int32))), (0, .ref a_t)]) hx hb d_Model_passAll_186 hl (k := 1) rfl (iinc_e (by decide)) (by decide) rfl (fun ls hl => ?_)
        refine lv_goto (tgt := 164) hx hb d_Model_passAll_189 (by decide) ?_
        exact ih (x1 + (1 : Int32)) v_t_drawMany v_t_drawn v_t_due v_t_fond w_24_0 v_t_numbers v_t_onTicket v_t_setMany v_t_sights v_t_ticketMany v_t_draws w_24_1 (upd v_t_prizes x1.toNatClampNeg r_24) v_t_sets v_t_sightHow v_t_sightRight v_t_sightTicket v_t_tickets v_t_winsHigh v_t_winsLow _ _ _ _ h K _ _ hW ls (lv_sub hl [1, 0] rfl)
  refine lv_aload_n hx hb d_Model_passAll_0 rfl (lv_at hl 0 rfl) ?_
  refine lv_aload_n hx hb d_Model_passAll_1 rfl (lv_at hl 0 rfl) ?_
  refine lv_aload_n hx hb d_Model_passAll_2 rfl (lv_at hl 0 rfl) ?_
  refine x_get hC hW 0 rfl fl_Model_61 rfl d_Model_passAll_3 ?_
  obtain ⟨r_1, w_1_0, w_1_1, hc_1, h⟩ := bk3_e h
  refine x_ci (ws' := [(a_t, .inr (10, [.int v_t_numbers, .int v_t_onTicket, .int v_t_drawn, .int v_t_due, .ref a_t_tickets, .int v_t_ticketMany, .int v_t_fond, .ref a_t_prizes, .ref a_t_sightTicket, .ref a_t_sightRight, .ref a_t_sightHow, .int v_t_sights, .ref a_t_draws, .int v_t_drawMany, .ref a_t_sets, .int v_t_setMany, .ref a_t_winsLow, .ref a_t_winsHigh, .ref a_t_pad, .int v_t_padMany, .long v_t_low, .long v_t_high, .ref a_t_could, .int v_t_couldMany, .ref a_t_row, .ref a_t_best, .ref a_t_kept, .ref a_t_isKept, .int w_1_0, .int v_t_isWriting])), (a_t_draws, .inl (I, 70, .inl v_t_draws)), (a_t_kept, .inl (I, 120, .inl w_1_1)), (a_t_prizes, .inl (I, 9, .inl v_t_prizes)), (a_t_sets, .inl (I, 70, .inl v_t_sets)), (a_t_sightHow, .inl (I, 6, .inl v_t_sightHow)), (a_t_sightRight, .inl (I, 6, .inl v_t_sightRight)), (a_t_sightTicket, .inl (I, 6, .inl v_t_sightTicket)), (a_t_tickets, .inl (I, 6, .inl v_t_tickets)), (a_t_winsHigh, .inl (J, 70, .inr (.inl v_t_winsHigh))), (a_t_winsLow, .inl (J, 70, .inr (.inl v_t_winsLow)))]) (x_runV (As := [.int v_t_numbers]) (rest := [.ref a_t]) hC hW (c_Model_pass l D I J Z a_t a_t_kept a_t_tickets a_t_prizes a_t_sightTicket a_t_sightRight a_t_sightHow a_t_draws a_t_sets a_t_winsLow a_t_winsHigh a_t_pad a_t_could a_t_row a_t_best a_t_isKept v_t_numbers v_t_onTicket v_t_drawn v_t_due v_t_ticketMany v_t_fond v_t_sights v_t_drawMany v_t_setMany v_t_padMany v_t_low v_t_high v_t_couldMany v_t_keptAt v_t_isWriting v_t_kept v_t_numbers (r_1, w_1_0, w_1_1) hc_1) cl_Model_209 q_code_Model_pass [0, 2] rfl (by decide) 0 rfl rfl rfl rfl hl.1 (Nat.le_of_ble_eq_true rfl) (rm_ok hR1 hR2 (by decide) (by decide)) ⟨Nat.zero_le _, Nat.zero_le _⟩ d_Model_passAll_6) hW hA [0, 2] rfl rfl (ps := [some 0, none, some 1, none, none, none, none, none, none, none, none]) (by decide +kernel) ⟨rfl, rfl, rfl, rfl, rfl, rfl, rfl, rfl, rfl, rfl, rfl, trivial⟩ (fun H locs hW => ?_)
  refine x_put (ws' := [(a_t, .inr (10, [.int r_1, .int v_t_onTicket, .int v_t_drawn, .int v_t_due, .ref a_t_tickets, .int v_t_ticketMany, .int v_t_fond, .ref a_t_prizes, .ref a_t_sightTicket, .ref a_t_sightRight, .ref a_t_sightHow, .int v_t_sights, .ref a_t_draws, .int v_t_drawMany, .ref a_t_sets, .int v_t_setMany, .ref a_t_winsLow, .ref a_t_winsHigh, .ref a_t_pad, .int v_t_padMany, .long v_t_low, .long v_t_high, .ref a_t_could, .int v_t_couldMany, .ref a_t_row, .ref a_t_best, .ref a_t_kept, .ref a_t_isKept, .int w_1_0, .int v_t_isWriting])), (a_t_draws, .inl (I, 70, .inl v_t_draws)), (a_t_kept, .inl (I, 120, .inl w_1_1)), (a_t_prizes, .inl (I, 9, .inl v_t_prizes)), (a_t_sets, .inl (I, 70, .inl v_t_sets)), (a_t_sightHow, .inl (I, 6, .inl v_t_sightHow)), (a_t_sightRight, .inl (I, 6, .inl v_t_sightRight)), (a_t_sightTicket, .inl (I, 6, .inl v_t_sightTicket)), (a_t_tickets, .inl (I, 6, .inl v_t_tickets)), (a_t_winsHigh, .inl (J, 70, .inr (.inl v_t_winsHigh))), (a_t_winsLow, .inl (J, 70, .inr (.inl v_t_winsLow)))]) hC hW 0 rfl fp_Model_61 rfl rfl (Nat.le_of_ble_eq_true rfl) d_Model_passAll_9 rfl (fun H locs hW => ?_)
  refine lv_aload_n hx hb d_Model_passAll_12 rfl (lv_at hl 0 rfl) ?_
  refine lv_aload_n hx hb d_Model_passAll_13 rfl (lv_at hl 0 rfl) ?_
  refine lv_aload_n hx hb d_Model_passAll_14 rfl (lv_at hl 0 rfl) ?_
  refine x_get hC hW 0 rfl fl_Model_65 rfl d_Model_passAll_15 ?_
  obtain ⟨r_2, w_2_0, w_2_1, hc_2, h⟩ := bk3_e h
  refine x_ci (ws' := [(a_t, .inr (10, [.int r_1, .int v_t_onTicket, .int v_t_drawn, .int v_t_due, .ref a_t_tickets, .int v_t_ticketMany, .int v_t_fond, .ref a_t_prizes, .ref a_t_sightTicket, .ref a_t_sightRight, .ref a_t_sightHow, .int v_t_sights, .ref a_t_draws, .int v_t_drawMany, .ref a_t_sets, .int v_t_setMany, .ref a_t_winsLow, .ref a_t_winsHigh, .ref a_t_pad, .int v_t_padMany, .long v_t_low, .long v_t_high, .ref a_t_could, .int v_t_couldMany, .ref a_t_row, .ref a_t_best, .ref a_t_kept, .ref a_t_isKept, .int w_2_0, .int v_t_isWriting])), (a_t_draws, .inl (I, 70, .inl v_t_draws)), (a_t_kept, .inl (I, 120, .inl w_2_1)), (a_t_prizes, .inl (I, 9, .inl v_t_prizes)), (a_t_sets, .inl (I, 70, .inl v_t_sets)), (a_t_sightHow, .inl (I, 6, .inl v_t_sightHow)), (a_t_sightRight, .inl (I, 6, .inl v_t_sightRight)), (a_t_sightTicket, .inl (I, 6, .inl v_t_sightTicket)), (a_t_tickets, .inl (I, 6, .inl v_t_tickets)), (a_t_winsHigh, .inl (J, 70, .inr (.inl v_t_winsHigh))), (a_t_winsLow, .inl (J, 70, .inr (.inl v_t_winsLow)))]) (x_runV (As := [.int v_t_onTicket]) (rest := [.ref a_t]) hC hW (c_Model_pass l D I J Z a_t a_t_kept a_t_tickets a_t_prizes a_t_sightTicket a_t_sightRight a_t_sightHow a_t_draws a_t_sets a_t_winsLow a_t_winsHigh a_t_pad a_t_could a_t_row a_t_best a_t_isKept r_1 v_t_onTicket v_t_drawn v_t_due v_t_ticketMany v_t_fond v_t_sights v_t_drawMany v_t_setMany v_t_padMany v_t_low v_t_high v_t_couldMany w_1_0 v_t_isWriting w_1_1 v_t_onTicket (r_2, w_2_0, w_2_1) hc_2) cl_Model_209 q_code_Model_pass [0, 2] rfl (by decide) 0 rfl rfl rfl rfl hl.1 (Nat.le_of_ble_eq_true rfl) (rm_ok hR1 hR2 (by decide) (by decide)) ⟨Nat.zero_le _, Nat.zero_le _⟩ d_Model_passAll_18) hW hA [0, 2] rfl rfl (ps := [some 0, none, some 1, none, none, none, none, none, none, none, none]) (by decide +kernel) ⟨rfl, rfl, rfl, rfl, rfl, rfl, rfl, rfl, rfl, rfl, rfl, trivial⟩ (fun H locs hW => ?_)
  refine x_put (ws' := [(a_t, .inr (10, [.int r_1, .int r_2, .int v_t_drawn, .int v_t_due, .ref a_t_tickets, .int v_t_ticketMany, .int v_t_fond, .ref a_t_prizes, .ref a_t_sightTicket, .ref a_t_sightRight, .ref a_t_sightHow, .int v_t_sights, .ref a_t_draws, .int v_t_drawMany, .ref a_t_sets, .int v_t_setMany, .ref a_t_winsLow, .ref a_t_winsHigh, .ref a_t_pad, .int v_t_padMany, .long v_t_low, .long v_t_high, .ref a_t_could, .int v_t_couldMany, .ref a_t_row, .ref a_t_best, .ref a_t_kept, .ref a_t_isKept, .int w_2_0, .int v_t_isWriting])), (a_t_draws, .inl (I, 70, .inl v_t_draws)), (a_t_kept, .inl (I, 120, .inl w_2_1)), (a_t_prizes, .inl (I, 9, .inl v_t_prizes)), (a_t_sets, .inl (I, 70, .inl v_t_sets)), (a_t_sightHow, .inl (I, 6, .inl v_t_sightHow)), (a_t_sightRight, .inl (I, 6, .inl v_t_sightRight)), (a_t_sightTicket, .inl (I, 6, .inl v_t_sightTicket)), (a_t_tickets, .inl (I, 6, .inl v_t_tickets)), (a_t_winsHigh, .inl (J, 70, .inr (.inl v_t_winsHigh))), (a_t_winsLow, .inl (J, 70, .inr (.inl v_t_winsLow)))]) hC hW 0 rfl fp_Model_65 rfl rfl (Nat.le_of_ble_eq_true rfl) d_Model_passAll_21 rfl (fun H locs hW => ?_)
  refine lv_aload_n hx hb d_Model_passAll_24 rfl (lv_at hl 0 rfl) ?_
  refine lv_aload_n hx hb d_Model_passAll_25 rfl (lv_at hl 0 rfl) ?_
  refine lv_aload_n hx hb d_Model_passAll_26 rfl (lv_at hl 0 rfl) ?_
  refine x_get hC hW 0 rfl fl_Model_68 rfl d_Model_passAll_27 ?_
  obtain ⟨r_3, w_3_0, w_3_1, hc_3, h⟩ := bk3_e h
  refine x_ci (ws' := [(a_t, .inr (10, [.int r_1, .int r_2, .int v_t_drawn, .int v_t_due, .ref a_t_tickets, .int v_t_ticketMany, .int v_t_fond, .ref a_t_prizes, .ref a_t_sightTicket, .ref a_t_sightRight, .ref a_t_sightHow, .int v_t_sights, .ref a_t_draws, .int v_t_drawMany, .ref a_t_sets, .int v_t_setMany, .ref a_t_winsLow, .ref a_t_winsHigh, .ref a_t_pad, .int v_t_padMany, .long v_t_low, .long v_t_high, .ref a_t_could, .int v_t_couldMany, .ref a_t_row, .ref a_t_best, .ref a_t_kept, .ref a_t_isKept, .int w_3_0, .int v_t_isWriting])), (a_t_draws, .inl (I, 70, .inl v_t_draws)), (a_t_kept, .inl (I, 120, .inl w_3_1)), (a_t_prizes, .inl (I, 9, .inl v_t_prizes)), (a_t_sets, .inl (I, 70, .inl v_t_sets)), (a_t_sightHow, .inl (I, 6, .inl v_t_sightHow)), (a_t_sightRight, .inl (I, 6, .inl v_t_sightRight)), (a_t_sightTicket, .inl (I, 6, .inl v_t_sightTicket)), (a_t_tickets, .inl (I, 6, .inl v_t_tickets)), (a_t_winsHigh, .inl (J, 70, .inr (.inl v_t_winsHigh))), (a_t_winsLow, .inl (J, 70, .inr (.inl v_t_winsLow)))]) (x_runV (As := [.int v_t_drawn]) (rest := [.ref a_t]) hC hW (c_Model_pass l D I J Z a_t a_t_kept a_t_tickets a_t_prizes a_t_sightTicket a_t_sightRight a_t_sightHow a_t_draws a_t_sets a_t_winsLow a_t_winsHigh a_t_pad a_t_could a_t_row a_t_best a_t_isKept r_1 r_2 v_t_drawn v_t_due v_t_ticketMany v_t_fond v_t_sights v_t_drawMany v_t_setMany v_t_padMany v_t_low v_t_high v_t_couldMany w_2_0 v_t_isWriting w_2_1 v_t_drawn (r_3, w_3_0, w_3_1) hc_3) cl_Model_209 q_code_Model_pass [0, 2] rfl (by decide) 0 rfl rfl rfl rfl hl.1 (Nat.le_of_ble_eq_true rfl) (rm_ok hR1 hR2 (by decide) (by decide)) ⟨Nat.zero_le _, Nat.zero_le _⟩ d_Model_passAll_30) hW hA [0, 2] rfl rfl (ps := [some 0, none, some 1, none, none, none, none, none, none, none, none]) (by decide +kernel) ⟨rfl, rfl, rfl, rfl, rfl, rfl, rfl, rfl, rfl, rfl, rfl, trivial⟩ (fun H locs hW => ?_)
  refine x_put (ws' := [(a_t, .inr (10, [.int r_1, .int r_2, .int r_3, .int v_t_due, .ref a_t_tickets, .int v_t_ticketMany, .int v_t_fond, .ref a_t_prizes, .ref a_t_sightTicket, .ref a_t_sightRight, .ref a_t_sightHow, .int v_t_sights, .ref a_t_draws, .int v_t_drawMany, .ref a_t_sets, .int v_t_setMany, .ref a_t_winsLow, .ref a_t_winsHigh, .ref a_t_pad, .int v_t_padMany, .long v_t_low, .long v_t_high, .ref a_t_could, .int v_t_couldMany, .ref a_t_row, .ref a_t_best, .ref a_t_kept, .ref a_t_isKept, .int w_3_0, .int v_t_isWriting])), (a_t_draws, .inl (I, 70, .inl v_t_draws)), (a_t_kept, .inl (I, 120, .inl w_3_1)), (a_t_prizes, .inl (I, 9, .inl v_t_prizes)), (a_t_sets, .inl (I, 70, .inl v_t_sets)), (a_t_sightHow, .inl (I, 6, .inl v_t_sightHow)), (a_t_sightRight, .inl (I, 6, .inl v_t_sightRight)), (a_t_sightTicket, .inl (I, 6, .inl v_t_sightTicket)), (a_t_tickets, .inl (I, 6, .inl v_t_tickets)), (a_t_winsHigh, .inl (J, 70, .inr (.inl v_t_winsHigh))), (a_t_winsLow, .inl (J, 70, .inr (.inl v_t_winsLow)))]) hC hW 0 rfl fp_Model_68 rfl rfl (Nat.le_of_ble_eq_true rfl) d_Model_passAll_33 rfl (fun H locs hW => ?_)
  refine lv_aload_n hx hb d_Model_passAll_36 rfl (lv_at hl 0 rfl) ?_
  refine lv_aload_n hx hb d_Model_passAll_37 rfl (lv_at hl 0 rfl) ?_
  refine lv_aload_n hx hb d_Model_passAll_38 rfl (lv_at hl 0 rfl) ?_
  refine x_get hC hW 0 rfl fl_Model_71 rfl d_Model_passAll_39 ?_
  obtain ⟨r_4, w_4_0, w_4_1, hc_4, h⟩ := bk3_e h
  refine x_ci (ws' := [(a_t, .inr (10, [.int r_1, .int r_2, .int r_3, .int v_t_due, .ref a_t_tickets, .int v_t_ticketMany, .int v_t_fond, .ref a_t_prizes, .ref a_t_sightTicket, .ref a_t_sightRight, .ref a_t_sightHow, .int v_t_sights, .ref a_t_draws, .int v_t_drawMany, .ref a_t_sets, .int v_t_setMany, .ref a_t_winsLow, .ref a_t_winsHigh, .ref a_t_pad, .int v_t_padMany, .long v_t_low, .long v_t_high, .ref a_t_could, .int v_t_couldMany, .ref a_t_row, .ref a_t_best, .ref a_t_kept, .ref a_t_isKept, .int w_4_0, .int v_t_isWriting])), (a_t_draws, .inl (I, 70, .inl v_t_draws)), (a_t_kept, .inl (I, 120, .inl w_4_1)), (a_t_prizes, .inl (I, 9, .inl v_t_prizes)), (a_t_sets, .inl (I, 70, .inl v_t_sets)), (a_t_sightHow, .inl (I, 6, .inl v_t_sightHow)), (a_t_sightRight, .inl (I, 6, .inl v_t_sightRight)), (a_t_sightTicket, .inl (I, 6, .inl v_t_sightTicket)), (a_t_tickets, .inl (I, 6, .inl v_t_tickets)), (a_t_winsHigh, .inl (J, 70, .inr (.inl v_t_winsHigh))), (a_t_winsLow, .inl (J, 70, .inr (.inl v_t_winsLow)))]) (x_runV (As := [.int v_t_due]) (rest := [.ref a_t]) hC hW (c_Model_pass l D I J Z a_t a_t_kept a_t_tickets a_t_prizes a_t_sightTicket a_t_sightRight a_t_sightHow a_t_draws a_t_sets a_t_winsLow a_t_winsHigh a_t_pad a_t_could a_t_row a_t_best a_t_isKept r_1 r_2 r_3 v_t_due v_t_ticketMany v_t_fond v_t_sights v_t_drawMany v_t_setMany v_t_padMany v_t_low v_t_high v_t_couldMany w_3_0 v_t_isWriting w_3_1 v_t_due (r_4, w_4_0, w_4_1) hc_4) cl_Model_209 q_code_Model_pass [0, 2] rfl (by decide) 0 rfl rfl rfl rfl hl.1 (Nat.le_of_ble_eq_true rfl) (rm_ok hR1 hR2 (by decide) (by decide)) ⟨Nat.zero_le _, Nat.zero_le _⟩ d_Model_passAll_42) hW hA [0, 2] rfl rfl (ps := [some 0, none, some 1, none, none, none, none, none, none, none, none]) (by decide +kernel) ⟨rfl, rfl, rfl, rfl, rfl, rfl, rfl, rfl, rfl, rfl, rfl, trivial⟩ (fun H locs hW => ?_)
  refine x_put (ws' := [(a_t, .inr (10, [.int r_1, .int r_2, .int r_3, .int r_4, .ref a_t_tickets, .int v_t_ticketMany, .int v_t_fond, .ref a_t_prizes, .ref a_t_sightTicket, .ref a_t_sightRight, .ref a_t_sightHow, .int v_t_sights, .ref a_t_draws, .int v_t_drawMany, .ref a_t_sets, .int v_t_setMany, .ref a_t_winsLow, .ref a_t_winsHigh, .ref a_t_pad, .int v_t_padMany, .long v_t_low, .long v_t_high, .ref a_t_could, .int v_t_couldMany, .ref a_t_row, .ref a_t_best, .ref a_t_kept, .ref a_t_isKept, .int w_4_0, .int v_t_isWriting])), (a_t_draws, .inl (I, 70, .inl v_t_draws)), (a_t_kept, .inl (I, 120, .inl w_4_1)), (a_t_prizes, .inl (I, 9, .inl v_t_prizes)), (a_t_sets, .inl (I, 70, .inl v_t_sets)), (a_t_sightHow, .inl (I, 6, .inl v_t_sightHow)), (a_t_sightRight, .inl (I, 6, .inl v_t_sightRight)), (a_t_sightTicket, .inl (I, 6, .inl v_t_sightTicket)), (a_t_tickets, .inl (I, 6, .inl v_t_tickets)), (a_t_winsHigh, .inl (J, 70, .inr (.inl v_t_winsHigh))), (a_t_winsLow, .inl (J, 70, .inr (.inl v_t_winsLow)))]) hC hW 0 rfl fp_Model_71 rfl rfl (Nat.le_of_ble_eq_true rfl) d_Model_passAll_45 rfl (fun H locs hW => ?_)
  refine lv_aload_n hx hb d_Model_passAll_48 rfl (lv_at hl 0 rfl) ?_
  refine lv_aload_n hx hb d_Model_passAll_49 rfl (lv_at hl 0 rfl) ?_
  refine lv_aload_n hx hb d_Model_passAll_50 rfl (lv_at hl 0 rfl) ?_
  refine x_get hC hW 0 rfl fl_Model_74 rfl d_Model_passAll_51 ?_
  obtain ⟨r_5, w_5_0, w_5_1, hc_5, h⟩ := bk3_e h
  refine x_ci (ws' := [(a_t, .inr (10, [.int r_1, .int r_2, .int r_3, .int r_4, .ref a_t_tickets, .int v_t_ticketMany, .int v_t_fond, .ref a_t_prizes, .ref a_t_sightTicket, .ref a_t_sightRight, .ref a_t_sightHow, .int v_t_sights, .ref a_t_draws, .int v_t_drawMany, .ref a_t_sets, .int v_t_setMany, .ref a_t_winsLow, .ref a_t_winsHigh, .ref a_t_pad, .int v_t_padMany, .long v_t_low, .long v_t_high, .ref a_t_could, .int v_t_couldMany, .ref a_t_row, .ref a_t_best, .ref a_t_kept, .ref a_t_isKept, .int w_5_0, .int v_t_isWriting])), (a_t_draws, .inl (I, 70, .inl v_t_draws)), (a_t_kept, .inl (I, 120, .inl w_5_1)), (a_t_prizes, .inl (I, 9, .inl v_t_prizes)), (a_t_sets, .inl (I, 70, .inl v_t_sets)), (a_t_sightHow, .inl (I, 6, .inl v_t_sightHow)), (a_t_sightRight, .inl (I, 6, .inl v_t_sightRight)), (a_t_sightTicket, .inl (I, 6, .inl v_t_sightTicket)), (a_t_tickets, .inl (I, 6, .inl v_t_tickets)), (a_t_winsHigh, .inl (J, 70, .inr (.inl v_t_winsHigh))), (a_t_winsLow, .inl (J, 70, .inr (.inl v_t_winsLow)))]) (x_runV (As := [.int v_t_ticketMany]) (rest := [.ref a_t]) hC hW (c_Model_pass l D I J Z a_t a_t_kept a_t_tickets a_t_prizes a_t_sightTicket a_t_sightRight a_t_sightHow a_t_draws a_t_sets a_t_winsLow a_t_winsHigh a_t_pad a_t_could a_t_row a_t_best a_t_isKept r_1 r_2 r_3 r_4 v_t_ticketMany v_t_fond v_t_sights v_t_drawMany v_t_setMany v_t_padMany v_t_low v_t_high v_t_couldMany w_4_0 v_t_isWriting w_4_1 v_t_ticketMany (r_5, w_5_0, w_5_1) hc_5) cl_Model_209 q_code_Model_pass [0, 2] rfl (by decide) 0 rfl rfl rfl rfl hl.1 (Nat.le_of_ble_eq_true rfl) (rm_ok hR1 hR2 (by decide) (by decide)) ⟨Nat.zero_le _, Nat.zero_le _⟩ d_Model_passAll_54) hW hA [0, 2] rfl rfl (ps := [some 0, none, some 1, none, none, none, none, none, none, none, none]) (by decide +kernel) ⟨rfl, rfl, rfl, rfl, rfl, rfl, rfl, rfl, rfl, rfl, rfl, trivial⟩ (fun H locs hW => ?_)
  refine x_put (ws' := [(a_t, .inr (10, [.int r_1, .int r_2, .int r_3, .int r_4, .ref a_t_tickets, .int r_5, .int v_t_fond, .ref a_t_prizes, .ref a_t_sightTicket, .ref a_t_sightRight, .ref a_t_sightHow, .int v_t_sights, .ref a_t_draws, .int v_t_drawMany, .ref a_t_sets, .int v_t_setMany, .ref a_t_winsLow, .ref a_t_winsHigh, .ref a_t_pad, .int v_t_padMany, .long v_t_low, .long v_t_high, .ref a_t_could, .int v_t_couldMany, .ref a_t_row, .ref a_t_best, .ref a_t_kept, .ref a_t_isKept, .int w_5_0, .int v_t_isWriting])), (a_t_draws, .inl (I, 70, .inl v_t_draws)), (a_t_kept, .inl (I, 120, .inl w_5_1)), (a_t_prizes, .inl (I, 9, .inl v_t_prizes)), (a_t_sets, .inl (I, 70, .inl v_t_sets)), (a_t_sightHow, .inl (I, 6, .inl v_t_sightHow)), (a_t_sightRight, .inl (I, 6, .inl v_t_sightRight)), (a_t_sightTicket, .inl (I, 6, .inl v_t_sightTicket)), (a_t_tickets, .inl (I, 6, .inl v_t_tickets)), (a_t_winsHigh, .inl (J, 70, .inr (.inl v_t_winsHigh))), (a_t_winsLow, .inl (J, 70, .inr (.inl v_t_winsLow)))]) hC hW 0 rfl fp_Model_74 rfl rfl (Nat.le_of_ble_eq_true rfl) d_Model_passAll_57 rfl (fun H locs hW => ?_)
  refine lv_aload_n hx hb d_Model_passAll_60 rfl (lv_at hl 0 rfl) ?_
  refine lv_aload_n hx hb d_Model_passAll_61 rfl (lv_at hl 0 rfl) ?_
  refine lv_aload_n hx hb d_Model_passAll_62 rfl (lv_at hl 0 rfl) ?_
  refine x_get hC hW 0 rfl fl_Model_77 rfl d_Model_passAll_63 ?_
  obtain ⟨r_6, w_6_0, w_6_1, hc_6, h⟩ := bk3_e h
  refine x_ci (ws' := [(a_t, .inr (10, [.int r_1, .int r_2, .int r_3, .int r_4, .ref a_t_tickets, .int r_5, .int v_t_fond, .ref a_t_prizes, .ref a_t_sightTicket, .ref a_t_sightRight, .ref a_t_sightHow, .int v_t_sights, .ref a_t_draws, .int v_t_drawMany, .ref a_t_sets, .int v_t_setMany, .ref a_t_winsLow, .ref a_t_winsHigh, .ref a_t_pad, .int v_t_padMany, .long v_t_low, .long v_t_high, .ref a_t_could, .int v_t_couldMany, .ref a_t_row, .ref a_t_best, .ref a_t_kept, .ref a_t_isKept, .int w_6_0, .int v_t_isWriting])), (a_t_draws, .inl (I, 70, .inl v_t_draws)), (a_t_kept, .inl (I, 120, .inl w_6_1)), (a_t_prizes, .inl (I, 9, .inl v_t_prizes)), (a_t_sets, .inl (I, 70, .inl v_t_sets)), (a_t_sightHow, .inl (I, 6, .inl v_t_sightHow)), (a_t_sightRight, .inl (I, 6, .inl v_t_sightRight)), (a_t_sightTicket, .inl (I, 6, .inl v_t_sightTicket)), (a_t_tickets, .inl (I, 6, .inl v_t_tickets)), (a_t_winsHigh, .inl (J, 70, .inr (.inl v_t_winsHigh))), (a_t_winsLow, .inl (J, 70, .inr (.inl v_t_winsLow)))]) (x_runV (As := [.int v_t_fond]) (rest := [.ref a_t]) hC hW (c_Model_pass l D I J Z a_t a_t_kept a_t_tickets a_t_prizes a_t_sightTicket a_t_sightRight a_t_sightHow a_t_draws a_t_sets a_t_winsLow a_t_winsHigh a_t_pad a_t_could a_t_row a_t_best a_t_isKept r_1 r_2 r_3 r_4 r_5 v_t_fond v_t_sights v_t_drawMany v_t_setMany v_t_padMany v_t_low v_t_high v_t_couldMany w_5_0 v_t_isWriting w_5_1 v_t_fond (r_6, w_6_0, w_6_1) hc_6) cl_Model_209 q_code_Model_pass [0, 2] rfl (by decide) 0 rfl rfl rfl rfl hl.1 (Nat.le_of_ble_eq_true rfl) (rm_ok hR1 hR2 (by decide) (by decide)) ⟨Nat.zero_le _, Nat.zero_le _⟩ d_Model_passAll_66) hW hA [0, 2] rfl rfl (ps := [some 0, none, some 1, none, none, none, none, none, none, none, none]) (by decide +kernel) ⟨rfl, rfl, rfl, rfl, rfl, rfl, rfl, rfl, rfl, rfl, rfl, trivial⟩ (fun H locs hW => ?_)
  refine x_put (ws' := [(a_t, .inr (10, [.int r_1, .int r_2, .int r_3, .int r_4, .ref a_t_tickets, .int r_5, .int r_6, .ref a_t_prizes, .ref a_t_sightTicket, .ref a_t_sightRight, .ref a_t_sightHow, .int v_t_sights, .ref a_t_draws, .int v_t_drawMany, .ref a_t_sets, .int v_t_setMany, .ref a_t_winsLow, .ref a_t_winsHigh, .ref a_t_pad, .int v_t_padMany, .long v_t_low, .long v_t_high, .ref a_t_could, .int v_t_couldMany, .ref a_t_row, .ref a_t_best, .ref a_t_kept, .ref a_t_isKept, .int w_6_0, .int v_t_isWriting])), (a_t_draws, .inl (I, 70, .inl v_t_draws)), (a_t_kept, .inl (I, 120, .inl w_6_1)), (a_t_prizes, .inl (I, 9, .inl v_t_prizes)), (a_t_sets, .inl (I, 70, .inl v_t_sets)), (a_t_sightHow, .inl (I, 6, .inl v_t_sightHow)), (a_t_sightRight, .inl (I, 6, .inl v_t_sightRight)), (a_t_sightTicket, .inl (I, 6, .inl v_t_sightTicket)), (a_t_tickets, .inl (I, 6, .inl v_t_tickets)), (a_t_winsHigh, .inl (J, 70, .inr (.inl v_t_winsHigh))), (a_t_winsLow, .inl (J, 70, .inr (.inl v_t_winsLow)))]) hC hW 0 rfl fp_Model_77 rfl rfl (Nat.le_of_ble_eq_true rfl) d_Model_passAll_69 rfl (fun H locs hW => ?_)
  refine lv_aload_n hx hb d_Model_passAll_72 rfl (lv_at hl 0 rfl) ?_
  refine lv_aload_n hx hb d_Model_passAll_73 rfl (lv_at hl 0 rfl) ?_
  refine lv_aload_n hx hb d_Model_passAll_74 rfl (lv_at hl 0 rfl) ?_
  refine x_get hC hW 0 rfl fl_Model_80 rfl d_Model_passAll_75 ?_
  obtain ⟨r_7, w_7_0, w_7_1, hc_7, h⟩ := bk3_e h
  refine x_ci (ws' := [(a_t, .inr (10, [.int r_1, .int r_2, .int r_3, .int r_4, .ref a_t_tickets, .int r_5, .int r_6, .ref a_t_prizes, .ref a_t_sightTicket, .ref a_t_sightRight, .ref a_t_sightHow, .int v_t_sights, .ref a_t_draws, .int v_t_drawMany, .ref a_t_sets, .int v_t_setMany, .ref a_t_winsLow, .ref a_t_winsHigh, .ref a_t_pad, .int v_t_padMany, .long v_t_low, .long v_t_high, .ref a_t_could, .int v_t_couldMany, .ref a_t_row, .ref a_t_best, .ref a_t_kept, .ref a_t_isKept, .int w_7_0, .int v_t_isWriting])), (a_t_draws, .inl (I, 70, .inl v_t_draws)), (a_t_kept, .inl (I, 120, .inl w_7_1)), (a_t_prizes, .inl (I, 9, .inl v_t_prizes)), (a_t_sets, .inl (I, 70, .inl v_t_sets)), (a_t_sightHow, .inl (I, 6, .inl v_t_sightHow)), (a_t_sightRight, .inl (I, 6, .inl v_t_sightRight)), (a_t_sightTicket, .inl (I, 6, .inl v_t_sightTicket)), (a_t_tickets, .inl (I, 6, .inl v_t_tickets)), (a_t_winsHigh, .inl (J, 70, .inr (.inl v_t_winsHigh))), (a_t_winsLow, .inl (J, 70, .inr (.inl v_t_winsLow)))]) (x_runV (As := [.int v_t_sights]) (rest := [.ref a_t]) hC hW (c_Model_pass l D I J Z a_t a_t_kept a_t_tickets a_t_prizes a_t_sightTicket a_t_sightRight a_t_sightHow a_t_draws a_t_sets a_t_winsLow a_t_winsHigh a_t_pad a_t_could a_t_row a_t_best a_t_isKept r_1 r_2 r_3 r_4 r_5 r_6 v_t_sights v_t_drawMany v_t_setMany v_t_padMany v_t_low v_t_high v_t_couldMany w_6_0 v_t_isWriting w_6_1 v_t_sights (r_7, w_7_0, w_7_1) hc_7) cl_Model_209 q_code_Model_pass [0, 2] rfl (by decide) 0 rfl rfl rfl rfl hl.1 (Nat.le_of_ble_eq_true rfl) (rm_ok hR1 hR2 (by decide) (by decide)) ⟨Nat.zero_le _, Nat.zero_le _⟩ d_Model_passAll_78) hW hA [0, 2] rfl rfl (ps := [some 0, none, some 1, none, none, none, none, none, none, none, none]) (by decide +kernel) ⟨rfl, rfl, rfl, rfl, rfl, rfl, rfl, rfl, rfl, rfl, rfl, trivial⟩ (fun H locs hW => ?_)
  refine x_put (ws' := [(a_t, .inr (10, [.int r_1, .int r_2, .int r_3, .int r_4, .ref a_t_tickets, .int r_5, .int r_6, .ref a_t_prizes, .ref a_t_sightTicket, .ref a_t_sightRight, .ref a_t_sightHow, .int r_7, .ref a_t_draws, .int v_t_drawMany, .ref a_t_sets, .int v_t_setMany, .ref a_t_winsLow, .ref a_t_winsHigh, .ref a_t_pad, .int v_t_padMany, .long v_t_low, .long v_t_high, .ref a_t_could, .int v_t_couldMany, .ref a_t_row, .ref a_t_best, .ref a_t_kept, .ref a_t_isKept, .int w_7_0, .int v_t_isWriting])), (a_t_draws, .inl (I, 70, .inl v_t_draws)), (a_t_kept, .inl (I, 120, .inl w_7_1)), (a_t_prizes, .inl (I, 9, .inl v_t_prizes)), (a_t_sets, .inl (I, 70, .inl v_t_sets)), (a_t_sightHow, .inl (I, 6, .inl v_t_sightHow)), (a_t_sightRight, .inl (I, 6, .inl v_t_sightRight)), (a_t_sightTicket, .inl (I, 6, .inl v_t_sightTicket)), (a_t_tickets, .inl (I, 6, .inl v_t_tickets)), (a_t_winsHigh, .inl (J, 70, .inr (.inl v_t_winsHigh))), (a_t_winsLow, .inl (J, 70, .inr (.inl v_t_winsLow)))]) hC hW 0 rfl fp_Model_80 rfl rfl (Nat.le_of_ble_eq_true rfl) d_Model_passAll_81 rfl (fun H locs hW => ?_)
  refine lv_iconst (v := (0 : Int32)) hx hb d_Model_passAll_84 (by decide) ?_
  refine lv_istore_n (lv' := [(1, .int (0 : Int32)), (0, .ref a_t)]) hx hb d_Model_passAll_85 rfl hl (by decide) rfl (fun ls hl => ?_)
  obtain ⟨yx1_21, y_t_keptAt_21, y_t_kept_21, y_t_sightHow_21, y_t_sightRight_21, y_t_sightTicket_21, y_t_tickets_21, hv_21, h⟩ := bk7_e h
  refine lp86 _ (0 : Int32) v_t_drawMany r_3 r_4 r_6 w_7_0 r_1 r_2 v_t_setMany r_7 r_5 v_t_draws w_7_1 v_t_prizes v_t_sets v_t_sightHow v_t_sightRight v_t_sightTicket v_t_tickets v_t_winsHigh v_t_winsLow yx1_21 y_t_keptAt_21 y_t_kept_21 y_t_sightHow_21 y_t_sightRight_21 y_t_sightTicket_21 y_t_tickets_21 hv_21 (fun H locs hW ls hl => ?_) _ _ hW ls (lv_sub hl [1, 0] rfl)
  refine lv_iconst (v := (0 : Int32)) hx hb d_Model_passAll_162 (by decide) ?_
  refine lv_istore_n (lv' := [(1, .int (0 : Int32)), (0, .ref a_t)]) hx hb d_Model_passAll_163 rfl hl (by decide) rfl (fun ls hl => ?_)
  obtain ⟨yx1_26, y_t_keptAt_26, y_t_kept_26, y_t_prizes_26, hv_26, h⟩ := bk4_e h
  refine lp164 _ (0 : Int32) v_t_drawMany r_3 r_4 r_6 y_t_keptAt_21 r_1 r_2 v_t_setMany r_7 r_5 v_t_draws y_t_kept_21 v_t_prizes v_t_sets y_t_sightHow_21 y_t_sightRight_21 y_t_sightTicket_21 y_t_tickets_21 v_t_winsHigh v_t_winsLow yx1_26 y_t_keptAt_26 y_t_kept_26 y_t_prizes_26 hv_26 (fun H locs hW ls hl => ?_) _ _ hW ls (lv_sub hl [1, 0] rfl)
  refine lv_aload_n hx hb d_Model_passAll_192 rfl (lv_at hl 0 rfl) ?_
  obtain ⟨w_27_0, w_27_1, w_27_2, w_27_3, w_27_4, w_27_5, hc_27, h⟩ := bk6_e h
  refine x_cv (ws' := [(a_t, .inr (10, [.int r_1, .int r_2, .int r_3, .int r_4, .ref a_t_tickets, .int r_5, .int r_6, .ref a_t_prizes, .ref a_t_sightTicket, .ref a_t_sightRight, .ref a_t_sightHow, .int r_7, .ref a_t_draws, .int w_27_0, .ref a_t_sets, .int w_27_1, .ref a_t_winsLow, .ref a_t_winsHigh, .ref a_t_pad, .int v_t_padMany, .long v_t_low, .long v_t_high, .ref a_t_could, .int v_t_couldMany, .ref a_t_row, .ref a_t_best, .ref a_t_kept, .ref a_t_isKept, .int y_t_keptAt_26, .int v_t_isWriting])), (a_t_draws, .inl (I, 70, .inl w_27_2)), (a_t_kept, .inl (I, 120, .inl y_t_kept_26)), (a_t_prizes, .inl (I, 9, .inl y_t_prizes_26)), (a_t_sets, .inl (I, 70, .inl w_27_3)), (a_t_sightHow, .inl (I, 6, .inl y_t_sightHow_21)), (a_t_sightRight, .inl (I, 6, .inl y_t_sightRight_21)), (a_t_sightTicket, .inl (I, 6, .inl y_t_sightTicket_21)), (a_t_tickets, .inl (I, 6, .inl y_t_tickets_21)), (a_t_winsHigh, .inl (J, 70, .inr (.inl w_27_4))), (a_t_winsLow, .inl (J, 70, .inr (.inl w_27_5)))]) (x_runV (As := []) (rest := []) hC hW (c_Model_findAll l D I J Z a_t a_t_draws a_t_sets a_t_winsHigh a_t_winsLow a_t_tickets a_t_prizes a_t_sightTicket a_t_sightRight a_t_sightHow a_t_pad a_t_could a_t_row a_t_best a_t_kept a_t_isKept r_1 r_2 r_3 r_4 r_5 r_6 r_7 v_t_drawMany v_t_setMany v_t_padMany v_t_low v_t_high v_t_couldMany y_t_keptAt_26 v_t_isWriting v_t_draws v_t_sets v_t_winsHigh v_t_winsLow (w_27_0, w_27_1, w_27_2, w_27_3, w_27_4, w_27_5) hc_27) cl_Model_83 q_code_Model_findAll [0, 1, 4, 9, 10] rfl (by decide) 0 rfl rfl rfl rfl hl.1 (Nat.le_of_ble_eq_true rfl) (rm_ok hR1 hR2 (by decide) (by decide)) ⟨Nat.zero_le _, Nat.zero_le _⟩ d_Model_passAll_193) hW hA [0, 1, 4, 9, 10] rfl rfl (ps := [some 0, some 1, none, none, some 2, none, none, none, none, some 3, some 4]) (by decide +kernel) ⟨rfl, rfl, rfl, rfl, rfl, rfl, rfl, rfl, rfl, rfl, rfl, trivial⟩ (fun H locs hW => ?_)
  cases h
  rw [hQ]
  exact x_vret hC hr hW d_Model_passAll_196

def f_Model_image (v_t_drawMany : Int32) (v_t_drawn : Int32) (v_t_due : Int32) (v_t_fond : Int32) (v_t_isWriting : Int32) (v_t_keptAt : Int32) (v_t_numbers : Int32) (v_t_onTicket : Int32) (v_t_setMany : Int32) (v_t_sights : Int32) (v_t_ticketMany : Int32) (v_t_draws : Nat → Int32) (v_t_isKept : Nat → Int32) (v_t_kept : Nat → Int32) (v_t_prizes : Nat → Int32) (v_t_sets : Nat → Int32) (v_t_sightHow : Nat → Int32) (v_t_sightRight : Nat → Int32) (v_t_sightTicket : Nat → Int32) (v_t_tickets : Nat → Int32) (v_t_winsHigh : Nat → Int64) (v_t_winsLow : Nat → Int64) (p0 : Int32) : Option (Int32 × Int32 × Int32 × Int32 × Int32 × Int32 × Int32 × Int32 × Int32 × Int32 × Int32 × Int32 × (Nat → Int32) × (Nat → Int32) × (Nat → Int32) × (Nat → Int32) × (Nat → Int32) × (Nat → Int32) × (Nat → Int32) × (Nat → Int32) × (Nat → Int32) × (Nat → Int64) × (Nat → Int64)) :=
  bk1 (f_Model_in p0.toInt64 (0 : Int64) (1 : Int64)) fun r_1 => if r_1 = (0 : Int32) then some ((-2 : Int32), v_t_drawMany, v_t_drawn, v_t_due, v_t_fond, v_t_isWriting, v_t_keptAt, v_t_numbers, v_t_onTicket, v_t_setMany, v_t_sights, v_t_ticketMany, v_t_draws, v_t_isKept, v_t_kept, v_t_prizes, v_t_sets, v_t_sightHow, v_t_sightRight, v_t_sightTicket, v_t_tickets, v_t_winsHigh, v_t_winsLow) else bk20 (f_Model_passAll v_t_drawn v_t_due v_t_fond (1 : Int32) ((60 : Int32) * p0) v_t_numbers v_t_onTicket v_t_sights v_t_ticketMany v_t_draws v_t_kept v_t_prizes v_t_sets v_t_sightHow v_t_sightRight v_t_sightTicket v_t_tickets v_t_winsHigh v_t_winsLow) fun w_3_0 w_3_1 w_3_2 w_3_3 w_3_4 w_3_5 w_3_6 w_3_7 w_3_8 w_3_9 w_3_10 w_3_11 w_3_12 w_3_13 w_3_14 w_3_15 w_3_16 w_3_17 w_3_18 w_3_19 => gd p0 2 (some ((1 : Int32), w_3_0, w_3_1, w_3_2, w_3_3, (1 : Int32), w_3_4, w_3_5, w_3_6, w_3_7, w_3_8, w_3_9, w_3_10, (upd v_t_isKept p0.toNatClampNeg (vp_nar .boolean (1 : Int32))), w_3_11, w_3_12, w_3_13, w_3_14, w_3_15, w_3_16, w_3_17, w_3_18, w_3_19))
set_option maxHeartbeats 4000000 in
set_option maxRecDepth 100000 in
theorem c_Model_image (l : Launch) (D : va_G) (I J Z : ClassId) (a_t : Nat) (a_t_draws : Nat) (a_t_isKept : Nat) (a_t_kept : Nat) (a_t_prizes : Nat) (a_t_sets : Nat) (a_t_sightHow : Nat) (a_t_sightRight : Nat) (a_t_sightTicket : Nat) (a_t_tickets : Nat) (a_t_winsHigh : Nat) (a_t_winsLow : Nat) (a_t_pad : Nat) (a_t_could : Nat) (a_t_row : Nat) (a_t_best : Nat)  (v_t_numbers : Int32) (v_t_onTicket : Int32) (v_t_drawn : Int32) (v_t_due : Int32) (v_t_ticketMany : Int32) (v_t_fond : Int32) (v_t_sights : Int32) (v_t_drawMany : Int32) (v_t_setMany : Int32) (v_t_padMany : Int32) (v_t_low : Int64) (v_t_high : Int64) (v_t_couldMany : Int32) (v_t_keptAt : Int32) (v_t_isWriting : Int32) (v_t_draws : Nat → Int32) (v_t_isKept : Nat → Int32) (v_t_kept : Nat → Int32) (v_t_prizes : Nat → Int32) (v_t_sets : Nat → Int32) (v_t_sightHow : Nat → Int32) (v_t_sightRight : Nat → Int32) (v_t_sightTicket : Nat → Int32) (v_t_tickets : Nat → Int32) (v_t_winsHigh : Nat → Int64) (v_t_winsLow : Nat → Int64) (p0 : Int32) (out : (Int32 × Int32 × Int32 × Int32 × Int32 × Int32 × Int32 × Int32 × Int32 × Int32 × Int32 × Int32 × (Nat → Int32) × (Nat → Int32) × (Nat → Int32) × (Nat → Int32) × (Nat → Int32) × (Nat → Int32) × (Nat → Int32) × (Nat → Int32) × (Nat → Int32) × (Nat → Int64) × (Nat → Int64))) (h : f_Model_image v_t_drawMany v_t_drawn v_t_due v_t_fond v_t_isWriting v_t_keptAt v_t_numbers v_t_onTicket v_t_setMany v_t_sights v_t_ticketMany v_t_draws v_t_isKept v_t_kept v_t_prizes v_t_sets v_t_sightHow v_t_sightRight v_t_sightTicket v_t_tickets v_t_winsHigh v_t_winsLow p0 = some out) : CT l D I J Z y_Model_image b_Model_image 2 (some .int) 6 [.ref a_t, .int p0] [(a_t, .inr (10, [.int v_t_numbers, .int v_t_onTicket, .int v_t_drawn, .int v_t_due, .ref a_t_tickets, .int v_t_ticketMany, .int v_t_fond, .ref a_t_prizes, .ref a_t_sightTicket, .ref a_t_sightRight, .ref a_t_sightHow, .int v_t_sights, .ref a_t_draws, .int v_t_drawMany, .ref a_t_sets, .int v_t_setMany, .ref a_t_winsLow, .ref a_t_winsHigh, .ref a_t_pad, .int v_t_padMany, .long v_t_low, .long v_t_high, .ref a_t_could, .int v_t_couldMany, .ref a_t_row, .ref a_t_best, .ref a_t_kept, .ref a_t_isKept, .int v_t_keptAt, .int v_t_isWriting])), (a_t_draws, .inl (I, 70, .inl v_t_draws)), (a_t_isKept, .inl (Z, 2, .inl v_t_isKept)), (a_t_kept, .inl (I, 120, .inl v_t_kept)), (a_t_prizes, .inl (I, 9, .inl v_t_prizes)), (a_t_sets, .inl (I, 70, .inl v_t_sets)), (a_t_sightHow, .inl (I, 6, .inl v_t_sightHow)), (a_t_sightRight, .inl (I, 6, .inl v_t_sightRight)), (a_t_sightTicket, .inl (I, 6, .inl v_t_sightTicket)), (a_t_tickets, .inl (I, 6, .inl v_t_tickets)), (a_t_winsHigh, .inl (J, 70, .inr (.inl v_t_winsHigh))), (a_t_winsLow, .inl (J, 70, .inr (.inl v_t_winsLow)))] (PoI out.1 D [(a_t, .inr (10, [.int out.2.2.2.2.2.2.2.1, .int out.2.2.2.2.2.2.2.2.1, .int out.2.2.1, .int out.2.2.2.1, .ref a_t_tickets, .int out.2.2.2.2.2.2.2.2.2.2.2.1, .int out.2.2.2.2.1, .ref a_t_prizes, .ref a_t_sightTicket, .ref a_t_sightRight, .ref a_t_sightHow, .int out.2.2.2.2.2.2.2.2.2.2.1, .ref a_t_draws, .int out.2.1, .ref a_t_sets, .int out.2.2.2.2.2.2.2.2.2.1, .ref a_t_winsLow, .ref a_t_winsHigh, .ref a_t_pad, .int v_t_padMany, .long v_t_low, .long v_t_high, .ref a_t_could, .int v_t_couldMany, .ref a_t_row, .ref a_t_best, .ref a_t_kept, .ref a_t_isKept, .int out.2.2.2.2.2.2.1, .int out.2.2.2.2.2.1])), (a_t_draws, .inl (I, 70, .inl out.2.2.2.2.2.2.2.2.2.2.2.2.1)), (a_t_isKept, .inl (Z, 2, .inl out.2.2.2.2.2.2.2.2.2.2.2.2.2.1)), (a_t_kept, .inl (I, 120, .inl out.2.2.2.2.2.2.2.2.2.2.2.2.2.2.1)), (a_t_prizes, .inl (I, 9, .inl out.2.2.2.2.2.2.2.2.2.2.2.2.2.2.2.1)), (a_t_sets, .inl (I, 70, .inl out.2.2.2.2.2.2.2.2.2.2.2.2.2.2.2.2.1)), (a_t_sightHow, .inl (I, 6, .inl out.2.2.2.2.2.2.2.2.2.2.2.2.2.2.2.2.2.1)), (a_t_sightRight, .inl (I, 6, .inl out.2.2.2.2.2.2.2.2.2.2.2.2.2.2.2.2.2.2.1)), (a_t_sightTicket, .inl (I, 6, .inl out.2.2.2.2.2.2.2.2.2.2.2.2.2.2.2.2.2.2.2.1)), (a_t_tickets, .inl (I, 6, .inl out.2.2.2.2.2.2.2.2.2.2.2.2.2.2.2.2.2.2.2.2.1)), (a_t_winsHigh, .inl (J, 70, .inr (.inl out.2.2.2.2.2.2.2.2.2.2.2.2.2.2.2.2.2.2.2.2.2.1))), (a_t_winsLow, .inl (J, 70, .inr (.inl out.2.2.2.2.2.2.2.2.2.2.2.2.2.2.2.2.2.2.2.2.2.2)))]) := by
  unfold f_Model_image at h
  refine CT_of R_Model (by decide +kernel) rfl (Nat.le_of_ble_eq_true rfl) ?_
  intro p e R s m args below meth c A ls Q hR1 hR2 hQ hC hr hW hA hl
  have hx := hC.1
  have hb := hC.2.1
  have hl : lv_has ls 2 [(0, .ref a_t), (1, .int p0)] := hl
  refine lv_iload_n hx hb d_Model_image_0 rfl (lv_at hl 1 rfl) ?_
  refine lv_i2l hx hb d_Model_image_1 rfl ?_
  refine lv_lconst (v := (0 : Int64)) hx hb d_Model_image_2 (by decide) ?_
  refine lv_lconst (v := (1 : Int64)) hx hb d_Model_image_3 (by decide) ?_
  obtain ⟨r_1, hc_1, h⟩ := bk1_e h
  refine x_ci (ws' := [(a_t, .inr (10, [.int v_t_numbers, .int v_t_onTicket, .int v_t_drawn, .int v_t_due, .ref a_t_tickets, .int v_t_ticketMany, .int v_t_fond, .ref a_t_prizes, .ref a_t_sightTicket, .ref a_t_sightRight, .ref a_t_sightHow, .int v_t_sights, .ref a_t_draws, .int v_t_drawMany, .ref a_t_sets, .int v_t_setMany, .ref a_t_winsLow, .ref a_t_winsHigh, .ref a_t_pad, .int v_t_padMany, .long v_t_low, .long v_t_high, .ref a_t_could, .int v_t_couldMany, .ref a_t_row, .ref a_t_best, .ref a_t_kept, .ref a_t_isKept, .int v_t_keptAt, .int v_t_isWriting])), (a_t_draws, .inl (I, 70, .inl v_t_draws)), (a_t_isKept, .inl (Z, 2, .inl v_t_isKept)), (a_t_kept, .inl (I, 120, .inl v_t_kept)), (a_t_prizes, .inl (I, 9, .inl v_t_prizes)), (a_t_sets, .inl (I, 70, .inl v_t_sets)), (a_t_sightHow, .inl (I, 6, .inl v_t_sightHow)), (a_t_sightRight, .inl (I, 6, .inl v_t_sightRight)), (a_t_sightTicket, .inl (I, 6, .inl v_t_sightTicket)), (a_t_tickets, .inl (I, 6, .inl v_t_tickets)), (a_t_winsHigh, .inl (J, 70, .inr (.inl v_t_winsHigh))), (a_t_winsLow, .inl (J, 70, .inr (.inl v_t_winsLow)))]) (x_runS (rest := []) hC hW (c_Model_in l D I J Z p0.toInt64 (0 : Int64) (1 : Int64) (r_1) hc_1) cl_Model_111 q_code_Model_in [] rfl (by decide) rfl hl.1 (Nat.le_of_ble_eq_true rfl) (rm_ok hR1 hR2 (by decide) (by decide)) ⟨Nat.zero_le _, Nat.zero_le _⟩ d_Model_image_4) hW hA [] rfl rfl (ps := [none, none, none, none, none, none, none, none, none, none, none, none]) (by decide +kernel) ⟨rfl, rfl, rfl, rfl, rfl, rfl, rfl, rfl, rfl, rfl, rfl, rfl, trivial⟩ (fun H locs hW => ?_)
  refine lv_if_ne (tgt := 13) hx hb d_Model_image_7 (by decide) (fun c_2 => ?_) (fun c_2 => ?_)
  · have h := ie_e c_2 h
    refine lv_aload_n hx hb d_Model_image_13 rfl (lv_at hl 0 rfl) ?_
    refine lv_bipush (v := (60 : Int32)) hx hb d_Model_image_14 (by decide) ?_
    refine lv_iload_n hx hb d_Model_image_16 rfl (lv_at hl 1 rfl) ?_
    refine lv_imul hx hb d_Model_image_17 ?_
    refine x_put (ws' := [(a_t, .inr (10, [.int v_t_numbers, .int v_t_onTicket, .int v_t_drawn, .int v_t_due, .ref a_t_tickets, .int v_t_ticketMany, .int v_t_fond, .ref a_t_prizes, .ref a_t_sightTicket, .ref a_t_sightRight, .ref a_t_sightHow, .int v_t_sights, .ref a_t_draws, .int v_t_drawMany, .ref a_t_sets, .int v_t_setMany, .ref a_t_winsLow, .ref a_t_winsHigh, .ref a_t_pad, .int v_t_padMany, .long v_t_low, .long v_t_high, .ref a_t_could, .int v_t_couldMany, .ref a_t_row, .ref a_t_best, .ref a_t_kept, .ref a_t_isKept, .int ((60 : Int32) * p0), .int v_t_isWriting])), (a_t_draws, .inl (I, 70, .inl v_t_draws)), (a_t_isKept, .inl (Z, 2, .inl v_t_isKept)), (a_t_kept, .inl (I, 120, .inl v_t_kept)), (a_t_prizes, .inl (I, 9, .inl v_t_prizes)), (a_t_sets, .inl (I, 70, .inl v_t_sets)), (a_t_sightHow, .inl (I, 6, .inl v_t_sightHow)), (a_t_sightRight, .inl (I, 6, .inl v_t_sightRight)), (a_t_sightTicket, .inl (I, 6, .inl v_t_sightTicket)), (a_t_tickets, .inl (I, 6, .inl v_t_tickets)), (a_t_winsHigh, .inl (J, 70, .inr (.inl v_t_winsHigh))), (a_t_winsLow, .inl (J, 70, .inr (.inl v_t_winsLow)))]) hC hW 0 rfl fp_Model_206 rfl rfl (Nat.le_of_ble_eq_true rfl) d_Model_image_18 rfl (fun H locs hW => ?_)
    refine lv_aload_n hx hb d_Model_image_21 rfl (lv_at hl 0 rfl) ?_
    refine lv_iconst (v := (1 : Int32)) hx hb d_Model_image_22 (by decide) ?_
    refine x_put (ws' := [(a_t, .inr (10, [.int v_t_numbers, .int v_t_onTicket, .int v_t_drawn, .int v_t_due, .ref a_t_tickets, .int v_t_ticketMany, .int v_t_fond, .ref a_t_prizes, .ref a_t_sightTicket, .ref a_t_sightRight, .ref a_t_sightHow, .int v_t_sights, .ref a_t_draws, .int v_t_drawMany, .ref a_t_sets, .int v_t_setMany, .ref a_t_winsLow, .ref a_t_winsHigh, .ref a_t_pad, .int v_t_padMany, .long v_t_low, .long v_t_high, .ref a_t_could, .int v_t_couldMany, .ref a_t_row, .ref a_t_best, .ref a_t_kept, .ref a_t_isKept, .int ((60 : Int32) * p0), .int (1 : Int32)])), (a_t_draws, .inl (I, 70, .inl v_t_draws)), (a_t_isKept, .inl (Z, 2, .inl v_t_isKept)), (a_t_kept, .inl (I, 120, .inl v_t_kept)), (a_t_prizes, .inl (I, 9, .inl v_t_prizes)), (a_t_sets, .inl (I, 70, .inl v_t_sets)), (a_t_sightHow, .inl (I, 6, .inl v_t_sightHow)), (a_t_sightRight, .inl (I, 6, .inl v_t_sightRight)), (a_t_sightTicket, .inl (I, 6, .inl v_t_sightTicket)), (a_t_tickets, .inl (I, 6, .inl v_t_tickets)), (a_t_winsHigh, .inl (J, 70, .inr (.inl v_t_winsHigh))), (a_t_winsLow, .inl (J, 70, .inr (.inl v_t_winsLow)))]) hC hW 0 rfl fp_Model_202 rfl rfl (Nat.le_of_ble_eq_true rfl) d_Model_image_23 rfl (fun H locs hW => ?_)
    refine lv_aload_n hx hb d_Model_image_26 rfl (lv_at hl 0 rfl) ?_
    obtain ⟨w_3_0, w_3_1, w_3_2, w_3_3, w_3_4, w_3_5, w_3_6, w_3_7, w_3_8, w_3_9, w_3_10, w_3_11, w_3_12, w_3_13, w_3_14, w_3_15, w_3_16, w_3_17, w_3_18, w_3_19, hc_3, h⟩ := bk20_e h
    refine x_cv (ws' := [(a_t, .inr (10, [.int w_3_5, .int w_3_6, .int w_3_1, .int w_3_2, .ref a_t_tickets, .int w_3_9, .int w_3_3, .ref a_t_prizes, .ref a_t_sightTicket, .ref a_t_sightRight, .ref a_t_sightHow, .int w_3_8, .ref a_t_draws, .int w_3_0, .ref a_t_sets, .int w_3_7, .ref a_t_winsLow, .ref a_t_winsHigh, .ref a_t_pad, .int v_t_padMany, .long v_t_low, .long v_t_high, .ref a_t_could, .int v_t_couldMany, .ref a_t_row, .ref a_t_best, .ref a_t_kept, .ref a_t_isKept, .int w_3_4, .int (1 : Int32)])), (a_t_draws, .inl (I, 70, .inl w_3_10)), (a_t_isKept, .inl (Z, 2, .inl v_t_isKept)), (a_t_kept, .inl (I, 120, .inl w_3_11)), (a_t_prizes, .inl (I, 9, .inl w_3_12)), (a_t_sets, .inl (I, 70, .inl w_3_13)), (a_t_sightHow, .inl (I, 6, .inl w_3_14)), (a_t_sightRight, .inl (I, 6, .inl w_3_15)), (a_t_sightTicket, .inl (I, 6, .inl w_3_16)), (a_t_tickets, .inl (I, 6, .inl w_3_17)), (a_t_winsHigh, .inl (J, 70, .inr (.inl w_3_18))), (a_t_winsLow, .inl (J, 70, .inr (.inl w_3_19)))]) (x_runV (As := []) (rest := []) hC hW (c_Model_passAll l D I J Z a_t a_t_draws a_t_kept a_t_prizes a_t_sets a_t_sightHow a_t_sightRight a_t_sightTicket a_t_tickets a_t_winsHigh a_t_winsLow a_t_pad a_t_could a_t_row a_t_best a_t_isKept v_t_numbers v_t_onTicket v_t_drawn v_t_due v_t_ticketMany v_t_fond v_t_sights v_t_drawMany v_t_setMany v_t_padMany v_t_low v_t_high v_t_couldMany ((60 : Int32) * p0) (1 : Int32) v_t_draws v_t_kept v_t_prizes v_t_sets v_t_sightHow v_t_sightRight v_t_sightTicket v_t_tickets v_t_winsHigh v_t_winsLow (w_3_0, w_3_1, w_3_2, w_3_3, w_3_4, w_3_5, w_3_6, w_3_7, w_3_8, w_3_9, w_3_10, w_3_11, w_3_12, w_3_13, w_3_14, w_3_15, w_3_16, w_3_17, w_3_18, w_3_19) hc_3) cl_Model_212 q_code_Model_passAll [0, 1, 3, 4, 5, 6, 7, 8, 9, 10, 11] rfl (by decide) 0 rfl rfl rfl rfl hl.1 (Nat.le_of_ble_eq_true rfl) (rm_ok hR1 hR2 (by decide) (by decide)) ⟨Nat.zero_le _, Nat.zero_le _⟩ d_Model_image_27) hW hA [0, 1, 3, 4, 5, 6, 7, 8, 9, 10, 11] rfl rfl (ps := [some 0, some 1, none, some 2, some 3, some 4, some 5, some 6, some 7, some 8, some 9, some 10]) (by decide +kernel) ⟨rfl, rfl, rfl, rfl, rfl, rfl, rfl, rfl, rfl, rfl, rfl, rfl, trivial⟩ (fun H locs hW => ?_)
    refine lv_aload_n hx hb d_Model_image_30 rfl (lv_at hl 0 rfl) ?_
    refine x_get hC hW 0 rfl fl_Model_53 rfl d_Model_image_31 ?_
    refine lv_iload_n hx hb d_Model_image_34 rfl (lv_at hl 1 rfl) ?_
    refine lv_iconst (v := (1 : Int32)) hx hb d_Model_image_35 (by decide) ?_
    obtain ⟨hi_4, h⟩ := gd_e h
    refine x_zast (ws' := [(a_t, .inr (10, [.int w_3_5, .int w_3_6, .int w_3_1, .int w_3_2, .ref a_t_tickets, .int w_3_9, .int w_3_3, .ref a_t_prizes, .ref a_t_sightTicket, .ref a_t_sightRight, .ref a_t_sightHow, .int w_3_8, .ref a_t_draws, .int w_3_0, .ref a_t_sets, .int w_3_7, .ref a_t_winsLow, .ref a_t_winsHigh, .ref a_t_pad, .int v_t_padMany, .long v_t_low, .long v_t_high, .ref a_t_could, .int v_t_couldMany, .ref a_t_row, .ref a_t_best, .ref a_t_kept, .ref a_t_isKept, .int w_3_4, .int (1 : Int32)])), (a_t_draws, .inl (I, 70, .inl w_3_10)), (a_t_isKept, .inl (Z, 2, .inl (upd v_t_isKept p0.toNatClampNeg (vp_nar .boolean (1 : Int32))))), (a_t_kept, .inl (I, 120, .inl w_3_11)), (a_t_prizes, .inl (I, 9, .inl w_3_12)), (a_t_sets, .inl (I, 70, .inl w_3_13)), (a_t_sightHow, .inl (I, 6, .inl w_3_14)), (a_t_sightRight, .inl (I, 6, .inl w_3_15)), (a_t_sightTicket, .inl (I, 6, .inl w_3_16)), (a_t_tickets, .inl (I, 6, .inl w_3_17)), (a_t_winsHigh, .inl (J, 70, .inr (.inl w_3_18))), (a_t_winsLow, .inl (J, 70, .inr (.inl w_3_19)))]) hC hW 2 rfl hi_4 d_Model_image_36 rfl (fun H locs hW => ?_)
    refine lv_iconst (v := (1 : Int32)) hx hb d_Model_image_37 (by decide) ?_
    cases h
    rw [hQ]
    exact x_iret hC hr hW d_Model_image_38
  · have h := it_e c_2 h
    refine lv_bipush (v := (-2 : Int32)) hx hb d_Model_image_10 (by decide) ?_
    cases h
    rw [hQ]
    exact x_iret hC hr hW d_Model_image_12

def f_Model_restore (v_t_drawMany : Int32) (v_t_drawn : Int32) (v_t_due : Int32) (v_t_fond : Int32) (v_t_isWriting : Int32) (v_t_keptAt : Int32) (v_t_numbers : Int32) (v_t_onTicket : Int32) (v_t_setMany : Int32) (v_t_sights : Int32) (v_t_ticketMany : Int32) (v_t_draws : Nat → Int32) (v_t_isKept : Nat → Int32) (v_t_kept : Nat → Int32) (v_t_prizes : Nat → Int32) (v_t_sets : Nat → Int32) (v_t_sightHow : Nat → Int32) (v_t_sightRight : Nat → Int32) (v_t_sightTicket : Nat → Int32) (v_t_tickets : Nat → Int32) (v_t_winsHigh : Nat → Int64) (v_t_winsLow : Nat → Int64) (p0 : Int32) : Option (Int32 × Int32 × Int32 × Int32 × Int32 × Int32 × Int32 × Int32 × Int32 × Int32 × Int32 × Int32 × (Nat → Int32) × (Nat → Int32) × (Nat → Int32) × (Nat → Int32) × (Nat → Int32) × (Nat → Int32) × (Nat → Int32) × (Nat → Int32) × (Nat → Int64) × (Nat → Int64)) :=
  bk1 (f_Model_in p0.toInt64 (0 : Int64) (1 : Int64)) fun r_1 => if r_1 = (0 : Int32) then some ((-2 : Int32), v_t_drawMany, v_t_drawn, v_t_due, v_t_fond, v_t_isWriting, v_t_keptAt, v_t_numbers, v_t_onTicket, v_t_setMany, v_t_sights, v_t_ticketMany, v_t_draws, v_t_kept, v_t_prizes, v_t_sets, v_t_sightHow, v_t_sightRight, v_t_sightTicket, v_t_tickets, v_t_winsHigh, v_t_winsLow) else gd p0 2 (if (v_t_isKept p0.toNatClampNeg) = (0 : Int32) then some ((-3 : Int32), v_t_drawMany, v_t_drawn, v_t_due, v_t_fond, v_t_isWriting, v_t_keptAt, v_t_numbers, v_t_onTicket, v_t_setMany, v_t_sights, v_t_ticketMany, v_t_draws, v_t_kept, v_t_prizes, v_t_sets, v_t_sightHow, v_t_sightRight, v_t_sightTicket, v_t_tickets, v_t_winsHigh, v_t_winsLow) else bk20 (f_Model_passAll v_t_drawn v_t_due v_t_fond (0 : Int32) ((60 : Int32) * p0) v_t_numbers v_t_onTicket v_t_sights v_t_ticketMany v_t_draws v_t_kept v_t_prizes v_t_sets v_t_sightHow v_t_sightRight v_t_sightTicket v_t_tickets v_t_winsHigh v_t_winsLow) fun w_5_0 w_5_1 w_5_2 w_5_3 w_5_4 w_5_5 w_5_6 w_5_7 w_5_8 w_5_9 w_5_10 w_5_11 w_5_12 w_5_13 w_5_14 w_5_15 w_5_16 w_5_17 w_5_18 w_5_19 => some ((1 : Int32), w_5_0, w_5_1, w_5_2, w_5_3, (0 : Int32), w_5_4, w_5_5, w_5_6, w_5_7, w_5_8, w_5_9, w_5_10, w_5_11, w_5_12, w_5_13, w_5_14, w_5_15, w_5_16, w_5_17, w_5_18, w_5_19))
set_option maxHeartbeats 4000000 in
set_option maxRecDepth 100000 in
theorem c_Model_restore (l : Launch) (D : va_G) (I J Z : ClassId) (a_t : Nat) (a_t_draws : Nat) (a_t_isKept : Nat) (a_t_kept : Nat) (a_t_prizes : Nat) (a_t_sets : Nat) (a_t_sightHow : Nat) (a_t_sightRight : Nat) (a_t_sightTicket : Nat) (a_t_tickets : Nat) (a_t_winsHigh : Nat) (a_t_winsLow : Nat) (a_t_pad : Nat) (a_t_could : Nat) (a_t_row : Nat) (a_t_best : Nat)  (v_t_numbers : Int32) (v_t_onTicket : Int32) (v_t_drawn : Int32) (v_t_due : Int32) (v_t_ticketMany : Int32) (v_t_fond : Int32) (v_t_sights : Int32) (v_t_drawMany : Int32) (v_t_setMany : Int32) (v_t_padMany : Int32) (v_t_low : Int64) (v_t_high : Int64) (v_t_couldMany : Int32) (v_t_keptAt : Int32) (v_t_isWriting : Int32) (v_t_draws : Nat → Int32) (v_t_isKept : Nat → Int32) (v_t_kept : Nat → Int32) (v_t_prizes : Nat → Int32) (v_t_sets : Nat → Int32) (v_t_sightHow : Nat → Int32) (v_t_sightRight : Nat → Int32) (v_t_sightTicket : Nat → Int32) (v_t_tickets : Nat → Int32) (v_t_winsHigh : Nat → Int64) (v_t_winsLow : Nat → Int64) (p0 : Int32) (out : (Int32 × Int32 × Int32 × Int32 × Int32 × Int32 × Int32 × Int32 × Int32 × Int32 × Int32 × Int32 × (Nat → Int32) × (Nat → Int32) × (Nat → Int32) × (Nat → Int32) × (Nat → Int32) × (Nat → Int32) × (Nat → Int32) × (Nat → Int32) × (Nat → Int64) × (Nat → Int64))) (h : f_Model_restore v_t_drawMany v_t_drawn v_t_due v_t_fond v_t_isWriting v_t_keptAt v_t_numbers v_t_onTicket v_t_setMany v_t_sights v_t_ticketMany v_t_draws v_t_isKept v_t_kept v_t_prizes v_t_sets v_t_sightHow v_t_sightRight v_t_sightTicket v_t_tickets v_t_winsHigh v_t_winsLow p0 = some out) : CT l D I J Z y_Model_restore b_Model_restore 2 (some .int) 6 [.ref a_t, .int p0] [(a_t, .inr (10, [.int v_t_numbers, .int v_t_onTicket, .int v_t_drawn, .int v_t_due, .ref a_t_tickets, .int v_t_ticketMany, .int v_t_fond, .ref a_t_prizes, .ref a_t_sightTicket, .ref a_t_sightRight, .ref a_t_sightHow, .int v_t_sights, .ref a_t_draws, .int v_t_drawMany, .ref a_t_sets, .int v_t_setMany, .ref a_t_winsLow, .ref a_t_winsHigh, .ref a_t_pad, .int v_t_padMany, .long v_t_low, .long v_t_high, .ref a_t_could, .int v_t_couldMany, .ref a_t_row, .ref a_t_best, .ref a_t_kept, .ref a_t_isKept, .int v_t_keptAt, .int v_t_isWriting])), (a_t_draws, .inl (I, 70, .inl v_t_draws)), (a_t_isKept, .inl (Z, 2, .inl v_t_isKept)), (a_t_kept, .inl (I, 120, .inl v_t_kept)), (a_t_prizes, .inl (I, 9, .inl v_t_prizes)), (a_t_sets, .inl (I, 70, .inl v_t_sets)), (a_t_sightHow, .inl (I, 6, .inl v_t_sightHow)), (a_t_sightRight, .inl (I, 6, .inl v_t_sightRight)), (a_t_sightTicket, .inl (I, 6, .inl v_t_sightTicket)), (a_t_tickets, .inl (I, 6, .inl v_t_tickets)), (a_t_winsHigh, .inl (J, 70, .inr (.inl v_t_winsHigh))), (a_t_winsLow, .inl (J, 70, .inr (.inl v_t_winsLow)))] (PoI out.1 D [(a_t, .inr (10, [.int out.2.2.2.2.2.2.2.1, .int out.2.2.2.2.2.2.2.2.1, .int out.2.2.1, .int out.2.2.2.1, .ref a_t_tickets, .int out.2.2.2.2.2.2.2.2.2.2.2.1, .int out.2.2.2.2.1, .ref a_t_prizes, .ref a_t_sightTicket, .ref a_t_sightRight, .ref a_t_sightHow, .int out.2.2.2.2.2.2.2.2.2.2.1, .ref a_t_draws, .int out.2.1, .ref a_t_sets, .int out.2.2.2.2.2.2.2.2.2.1, .ref a_t_winsLow, .ref a_t_winsHigh, .ref a_t_pad, .int v_t_padMany, .long v_t_low, .long v_t_high, .ref a_t_could, .int v_t_couldMany, .ref a_t_row, .ref a_t_best, .ref a_t_kept, .ref a_t_isKept, .int out.2.2.2.2.2.2.1, .int out.2.2.2.2.2.1])), (a_t_draws, .inl (I, 70, .inl out.2.2.2.2.2.2.2.2.2.2.2.2.1)), (a_t_isKept, .inl (Z, 2, .inl v_t_isKept)), (a_t_kept, .inl (I, 120, .inl out.2.2.2.2.2.2.2.2.2.2.2.2.2.1)), (a_t_prizes, .inl (I, 9, .inl out.2.2.2.2.2.2.2.2.2.2.2.2.2.2.1)), (a_t_sets, .inl (I, 70, .inl out.2.2.2.2.2.2.2.2.2.2.2.2.2.2.2.1)), (a_t_sightHow, .inl (I, 6, .inl out.2.2.2.2.2.2.2.2.2.2.2.2.2.2.2.2.1)), (a_t_sightRight, .inl (I, 6, .inl out.2.2.2.2.2.2.2.2.2.2.2.2.2.2.2.2.2.1)), (a_t_sightTicket, .inl (I, 6, .inl out.2.2.2.2.2.2.2.2.2.2.2.2.2.2.2.2.2.2.1)), (a_t_tickets, .inl (I, 6, .inl out.2.2.2.2.2.2.2.2.2.2.2.2.2.2.2.2.2.2.2.1)), (a_t_winsHigh, .inl (J, 70, .inr (.inl out.2.2.2.2.2.2.2.2.2.2.2.2.2.2.2.2.2.2.2.2.1))), (a_t_winsLow, .inl (J, 70, .inr (.inl out.2.2.2.2.2.2.2.2.2.2.2.2.2.2.2.2.2.2.2.2.2)))]) := by
  unfold f_Model_restore at h
  refine CT_of R_Model (by decide +kernel) rfl (Nat.le_of_ble_eq_true rfl) ?_
  intro p e R s m args below meth c A ls Q hR1 hR2 hQ hC hr hW hA hl
  have hx := hC.1
  have hb := hC.2.1
  have hl : lv_has ls 2 [(0, .ref a_t), (1, .int p0)] := hl
  refine lv_iload_n hx hb d_Model_restore_0 rfl (lv_at hl 1 rfl) ?_
  refine lv_i2l hx hb d_Model_restore_1 rfl ?_
  refine lv_lconst (v := (0 : Int64)) hx hb d_Model_restore_2 (by decide) ?_
  refine lv_lconst (v := (1 : Int64)) hx hb d_Model_restore_3 (by decide) ?_
  obtain ⟨r_1, hc_1, h⟩ := bk1_e h
  refine x_ci (ws' := [(a_t, .inr (10, [.int v_t_numbers, .int v_t_onTicket, .int v_t_drawn, .int v_t_due, .ref a_t_tickets, .int v_t_ticketMany, .int v_t_fond, .ref a_t_prizes, .ref a_t_sightTicket, .ref a_t_sightRight, .ref a_t_sightHow, .int v_t_sights, .ref a_t_draws, .int v_t_drawMany, .ref a_t_sets, .int v_t_setMany, .ref a_t_winsLow, .ref a_t_winsHigh, .ref a_t_pad, .int v_t_padMany, .long v_t_low, .long v_t_high, .ref a_t_could, .int v_t_couldMany, .ref a_t_row, .ref a_t_best, .ref a_t_kept, .ref a_t_isKept, .int v_t_keptAt, .int v_t_isWriting])), (a_t_draws, .inl (I, 70, .inl v_t_draws)), (a_t_isKept, .inl (Z, 2, .inl v_t_isKept)), (a_t_kept, .inl (I, 120, .inl v_t_kept)), (a_t_prizes, .inl (I, 9, .inl v_t_prizes)), (a_t_sets, .inl (I, 70, .inl v_t_sets)), (a_t_sightHow, .inl (I, 6, .inl v_t_sightHow)), (a_t_sightRight, .inl (I, 6, .inl v_t_sightRight)), (a_t_sightTicket, .inl (I, 6, .inl v_t_sightTicket)), (a_t_tickets, .inl (I, 6, .inl v_t_tickets)), (a_t_winsHigh, .inl (J, 70, .inr (.inl v_t_winsHigh))), (a_t_winsLow, .inl (J, 70, .inr (.inl v_t_winsLow)))]) (x_runS (rest := []) hC hW (c_Model_in l D I J Z p0.toInt64 (0 : Int64) (1 : Int64) (r_1) hc_1) cl_Model_111 q_code_Model_in [] rfl (by decide) rfl hl.1 (Nat.le_of_ble_eq_true rfl) (rm_ok hR1 hR2 (by decide) (by decide)) ⟨Nat.zero_le _, Nat.zero_le _⟩ d_Model_restore_4) hW hA [] rfl rfl (ps := [none, none, none, none, none, none, none, none, none, none, none, none]) (by decide +kernel) ⟨rfl, rfl, rfl, rfl, rfl, rfl, rfl, rfl, rfl, rfl, rfl, rfl, trivial⟩ (fun H locs hW => ?_)
  refine lv_if_ne (tgt := 13) hx hb d_Model_restore_7 (by decide) (fun c_2 => ?_) (fun c_2 => ?_)
  · have h := ie_e c_2 h
    refine lv_aload_n hx hb d_Model_restore_13 rfl (lv_at hl 0 rfl) ?_
    refine x_get hC hW 0 rfl fl_Model_53 rfl d_Model_restore_14 ?_
    refine lv_iload_n hx hb d_Model_restore_17 rfl (lv_at hl 1 rfl) ?_
    obtain ⟨hi_3, h⟩ := gd_e h
    refine x_zald hC hW 2 rfl hi_3 d_Model_restore_18 ?_
    refine lv_if_ne (tgt := 25) hx hb d_Model_restore_19 (by decide) (fun c_4 => ?_) (fun c_4 => ?_)
    · have h := ie_e c_4 h
      refine lv_aload_n hx hb d_Model_restore_25 rfl (lv_at hl 0 rfl) ?_
      refine lv_bipush (v := (60 : Int32)) hx hb d_Model_restore_26 (by decide) ?_
      refine lv_iload_n hx hb d_Model_restore_28 rfl (lv_at hl 1 rfl) ?_
      refine lv_imul hx hb d_Model_restore_29 ?_
      refine x_put (ws' := [(a_t, .inr (10, [.int v_t_numbers, .int v_t_onTicket, .int v_t_drawn, .int v_t_due, .ref a_t_tickets, .int v_t_ticketMany, .int v_t_fond, .ref a_t_prizes, .ref a_t_sightTicket, .ref a_t_sightRight, .ref a_t_sightHow, .int v_t_sights, .ref a_t_draws, .int v_t_drawMany, .ref a_t_sets, .int v_t_setMany, .ref a_t_winsLow, .ref a_t_winsHigh, .ref a_t_pad, .int v_t_padMany, .long v_t_low, .long v_t_high, .ref a_t_could, .int v_t_couldMany, .ref a_t_row, .ref a_t_best, .ref a_t_kept, .ref a_t_isKept, .int ((60 : Int32) * p0), .int v_t_isWriting])), (a_t_draws, .inl (I, 70, .inl v_t_draws)), (a_t_isKept, .inl (Z, 2, .inl v_t_isKept)), (a_t_kept, .inl (I, 120, .inl v_t_kept)), (a_t_prizes, .inl (I, 9, .inl v_t_prizes)), (a_t_sets, .inl (I, 70, .inl v_t_sets)), (a_t_sightHow, .inl (I, 6, .inl v_t_sightHow)), (a_t_sightRight, .inl (I, 6, .inl v_t_sightRight)), (a_t_sightTicket, .inl (I, 6, .inl v_t_sightTicket)), (a_t_tickets, .inl (I, 6, .inl v_t_tickets)), (a_t_winsHigh, .inl (J, 70, .inr (.inl v_t_winsHigh))), (a_t_winsLow, .inl (J, 70, .inr (.inl v_t_winsLow)))]) hC hW 0 rfl fp_Model_206 rfl rfl (Nat.le_of_ble_eq_true rfl) d_Model_restore_30 rfl (fun H locs hW => ?_)
      refine lv_aload_n hx hb d_Model_restore_33 rfl (lv_at hl 0 rfl) ?_
      refine lv_iconst (v := (0 : Int32)) hx hb d_Model_restore_34 (by decide) ?_
      refine x_put (ws' := [(a_t, .inr (10, [.int v_t_numbers, .int v_t_onTicket, .int v_t_drawn, .int v_t_due, .ref a_t_tickets, .int v_t_ticketMany, .int v_t_fond, .ref a_t_prizes, .ref a_t_sightTicket, .ref a_t_sightRight, .ref a_t_sightHow, .int v_t_sights, .ref a_t_draws, .int v_t_drawMany, .ref a_t_sets, .int v_t_setMany, .ref a_t_winsLow, .ref a_t_winsHigh, .ref a_t_pad, .int v_t_padMany, .long v_t_low, .long v_t_high, .ref a_t_could, .int v_t_couldMany, .ref a_t_row, .ref a_t_best, .ref a_t_kept, .ref a_t_isKept, .int ((60 : Int32) * p0), .int (0 : Int32)])), (a_t_draws, .inl (I, 70, .inl v_t_draws)), (a_t_isKept, .inl (Z, 2, .inl v_t_isKept)), (a_t_kept, .inl (I, 120, .inl v_t_kept)), (a_t_prizes, .inl (I, 9, .inl v_t_prizes)), (a_t_sets, .inl (I, 70, .inl v_t_sets)), (a_t_sightHow, .inl (I, 6, .inl v_t_sightHow)), (a_t_sightRight, .inl (I, 6, .inl v_t_sightRight)), (a_t_sightTicket, .inl (I, 6, .inl v_t_sightTicket)), (a_t_tickets, .inl (I, 6, .inl v_t_tickets)), (a_t_winsHigh, .inl (J, 70, .inr (.inl v_t_winsHigh))), (a_t_winsLow, .inl (J, 70, .inr (.inl v_t_winsLow)))]) hC hW 0 rfl fp_Model_202 rfl rfl (Nat.le_of_ble_eq_true rfl) d_Model_restore_35 rfl (fun H locs hW => ?_)
      refine lv_aload_n hx hb d_Model_restore_38 rfl (lv_at hl 0 rfl) ?_
      obtain ⟨w_5_0, w_5_1, w_5_2, w_5_3, w_5_4, w_5_5, w_5_6, w_5_7, w_5_8, w_5_9, w_5_10, w_5_11, w_5_12, w_5_13, w_5_14, w_5_15, w_5_16, w_5_17, w_5_18, w_5_19, hc_5, h⟩ := bk20_e h
      refine x_cv (ws' := [(a_t, .inr (10, [.int w_5_5, .int w_5_6, .int w_5_1, .int w_5_2, .ref a_t_tickets, .int w_5_9, .int w_5_3, .ref a_t_prizes, .ref a_t_sightTicket, .ref a_t_sightRight, .ref a_t_sightHow, .int w_5_8, .ref a_t_draws, .int w_5_0, .ref a_t_sets, .int w_5_7, .ref a_t_winsLow, .ref a_t_winsHigh, .ref a_t_pad, .int v_t_padMany, .long v_t_low, .long v_t_high, .ref a_t_could, .int v_t_couldMany, .ref a_t_row, .ref a_t_best, .ref a_t_kept, .ref a_t_isKept, .int w_5_4, .int (0 : Int32)])), (a_t_draws, .inl (I, 70, .inl w_5_10)), (a_t_isKept, .inl (Z, 2, .inl v_t_isKept)), (a_t_kept, .inl (I, 120, .inl w_5_11)), (a_t_prizes, .inl (I, 9, .inl w_5_12)), (a_t_sets, .inl (I, 70, .inl w_5_13)), (a_t_sightHow, .inl (I, 6, .inl w_5_14)), (a_t_sightRight, .inl (I, 6, .inl w_5_15)), (a_t_sightTicket, .inl (I, 6, .inl w_5_16)), (a_t_tickets, .inl (I, 6, .inl w_5_17)), (a_t_winsHigh, .inl (J, 70, .inr (.inl w_5_18))), (a_t_winsLow, .inl (J, 70, .inr (.inl w_5_19)))]) (x_runV (As := []) (rest := []) hC hW (c_Model_passAll l D I J Z a_t a_t_draws a_t_kept a_t_prizes a_t_sets a_t_sightHow a_t_sightRight a_t_sightTicket a_t_tickets a_t_winsHigh a_t_winsLow a_t_pad a_t_could a_t_row a_t_best a_t_isKept v_t_numbers v_t_onTicket v_t_drawn v_t_due v_t_ticketMany v_t_fond v_t_sights v_t_drawMany v_t_setMany v_t_padMany v_t_low v_t_high v_t_couldMany ((60 : Int32) * p0) (0 : Int32) v_t_draws v_t_kept v_t_prizes v_t_sets v_t_sightHow v_t_sightRight v_t_sightTicket v_t_tickets v_t_winsHigh v_t_winsLow (w_5_0, w_5_1, w_5_2, w_5_3, w_5_4, w_5_5, w_5_6, w_5_7, w_5_8, w_5_9, w_5_10, w_5_11, w_5_12, w_5_13, w_5_14, w_5_15, w_5_16, w_5_17, w_5_18, w_5_19) hc_5) cl_Model_212 q_code_Model_passAll [0, 1, 3, 4, 5, 6, 7, 8, 9, 10, 11] rfl (by decide) 0 rfl rfl rfl rfl hl.1 (Nat.le_of_ble_eq_true rfl) (rm_ok hR1 hR2 (by decide) (by decide)) ⟨Nat.zero_le _, Nat.zero_le _⟩ d_Model_restore_39) hW hA [0, 1, 3, 4, 5, 6, 7, 8, 9, 10, 11] rfl rfl (ps := [some 0, some 1, none, some 2, some 3, some 4, some 5, some 6, some 7, some 8, some 9, some 10]) (by decide +kernel) ⟨rfl, rfl, rfl, rfl, rfl, rfl, rfl, rfl, rfl, rfl, rfl, rfl, trivial⟩ (fun H locs hW => ?_)
      refine lv_iconst (v := (1 : Int32)) hx hb d_Model_restore_42 (by decide) ?_
      cases h
      rw [hQ]
      exact x_iret hC hr hW d_Model_restore_43
    · have h := it_e c_4 h
      refine lv_bipush (v := (-3 : Int32)) hx hb d_Model_restore_22 (by decide) ?_
      cases h
      rw [hQ]
      exact x_iret hC hr hW d_Model_restore_24
  · have h := it_e c_2 h
    refine lv_bipush (v := (-2 : Int32)) hx hb d_Model_restore_10 (by decide) ?_
    cases h
    rw [hQ]
    exact x_iret hC hr hW d_Model_restore_12

def f_Model_told (v_t_drawn : Int32) (v_t_due : Int32) (v_t_fond : Int32) (v_t_numbers : Int32) (v_t_onTicket : Int32) (v_t_padMany : Int32) (v_t_sights : Int32) (v_t_ticketMany : Int32) (v_t_prizes : Nat → Int32) (p0 : Int32) : Option (Int32) :=
  bk1 (f_Model_in p0.toInt64 (10 : Int64) (18 : Int64)) fun r_1 => if r_1 = (0 : Int32) then if p0 = (0 : Int32) then some (v_t_padMany) else if p0 = (1 : Int32) then some (v_t_numbers) else if p0 = (2 : Int32) then some (v_t_onTicket) else if p0 = (3 : Int32) then some (v_t_drawn) else if p0 = (4 : Int32) then some (v_t_due) else if p0 = (5 : Int32) then some (v_t_ticketMany) else if p0 = (6 : Int32) then some (v_t_fond) else if p0 = (7 : Int32) then some (v_t_sights) else some ((-2 : Int32)) else gd (p0 - (10 : Int32)) 9 (some ((v_t_prizes (p0 - (10 : Int32)).toNatClampNeg)))
set_option maxHeartbeats 4000000 in
set_option maxRecDepth 100000 in
theorem c_Model_told (l : Launch) (D : va_G) (I J Z : ClassId) (a_t : Nat) (a_t_prizes : Nat) (a_t_tickets : Nat) (a_t_sightTicket : Nat) (a_t_sightRight : Nat) (a_t_sightHow : Nat) (a_t_draws : Nat) (a_t_sets : Nat) (a_t_winsLow : Nat) (a_t_winsHigh : Nat) (a_t_pad : Nat) (a_t_could : Nat) (a_t_row : Nat) (a_t_best : Nat) (a_t_kept : Nat) (a_t_isKept : Nat)  (v_t_numbers : Int32) (v_t_onTicket : Int32) (v_t_drawn : Int32) (v_t_due : Int32) (v_t_ticketMany : Int32) (v_t_fond : Int32) (v_t_sights : Int32) (v_t_drawMany : Int32) (v_t_setMany : Int32) (v_t_padMany : Int32) (v_t_low : Int64) (v_t_high : Int64) (v_t_couldMany : Int32) (v_t_keptAt : Int32) (v_t_isWriting : Int32) (v_t_prizes : Nat → Int32) (p0 : Int32) (out : (Int32)) (h : f_Model_told v_t_drawn v_t_due v_t_fond v_t_numbers v_t_onTicket v_t_padMany v_t_sights v_t_ticketMany v_t_prizes p0 = some out) : CT l D I J Z y_Model_told b_Model_told 2 (some .int) 2 [.ref a_t, .int p0] [(a_t, .inr (10, [.int v_t_numbers, .int v_t_onTicket, .int v_t_drawn, .int v_t_due, .ref a_t_tickets, .int v_t_ticketMany, .int v_t_fond, .ref a_t_prizes, .ref a_t_sightTicket, .ref a_t_sightRight, .ref a_t_sightHow, .int v_t_sights, .ref a_t_draws, .int v_t_drawMany, .ref a_t_sets, .int v_t_setMany, .ref a_t_winsLow, .ref a_t_winsHigh, .ref a_t_pad, .int v_t_padMany, .long v_t_low, .long v_t_high, .ref a_t_could, .int v_t_couldMany, .ref a_t_row, .ref a_t_best, .ref a_t_kept, .ref a_t_isKept, .int v_t_keptAt, .int v_t_isWriting])), (a_t_prizes, .inl (I, 9, .inl v_t_prizes))] (PoI out D [(a_t, .inr (10, [.int v_t_numbers, .int v_t_onTicket, .int v_t_drawn, .int v_t_due, .ref a_t_tickets, .int v_t_ticketMany, .int v_t_fond, .ref a_t_prizes, .ref a_t_sightTicket, .ref a_t_sightRight, .ref a_t_sightHow, .int v_t_sights, .ref a_t_draws, .int v_t_drawMany, .ref a_t_sets, .int v_t_setMany, .ref a_t_winsLow, .ref a_t_winsHigh, .ref a_t_pad, .int v_t_padMany, .long v_t_low, .long v_t_high, .ref a_t_could, .int v_t_couldMany, .ref a_t_row, .ref a_t_best, .ref a_t_kept, .ref a_t_isKept, .int v_t_keptAt, .int v_t_isWriting])), (a_t_prizes, .inl (I, 9, .inl v_t_prizes))]) := by
  unfold f_Model_told at h
  refine CT_of R_Model (by decide +kernel) rfl (Nat.le_of_ble_eq_true rfl) ?_
  intro p e R s m args below meth c A ls Q hR1 hR2 hQ hC hr hW hA hl
  have hx := hC.1
  have hb := hC.2.1
  have hl : lv_has ls 2 [(0, .ref a_t), (1, .int p0)] := hl
  refine lv_iload_n hx hb d_Model_told_0 rfl (lv_at hl 1 rfl) ?_
  refine lv_i2l hx hb d_Model_told_1 rfl ?_
  refine x_ldc2 hC q_con_Model_215 d_Model_told_2 ?_
  refine x_ldc2 hC q_con_Model_217 d_Model_told_5 ?_
  obtain ⟨r_1, hc_1, h⟩ := bk1_e h
  refine x_ci (ws' := [(a_t, .inr (10, [.int v_t_numbers, .int v_t_onTicket, .int v_t_drawn, .int v_t_due, .ref a_t_tickets, .int v_t_ticketMany, .int v_t_fond, .ref a_t_prizes, .ref a_t_sightTicket, .ref a_t_sightRight, .ref a_t_sightHow, .int v_t_sights, .ref a_t_draws, .int v_t_drawMany, .ref a_t_sets, .int v_t_setMany, .ref a_t_winsLow, .ref a_t_winsHigh, .ref a_t_pad, .int v_t_padMany, .long v_t_low, .long v_t_high, .ref a_t_could, .int v_t_couldMany, .ref a_t_row, .ref a_t_best, .ref a_t_kept, .ref a_t_isKept, .int v_t_keptAt, .int v_t_isWriting])), (a_t_prizes, .inl (I, 9, .inl v_t_prizes))]) (x_runS (rest := []) hC hW (c_Model_in l D I J Z p0.toInt64 (10 : Int64) (18 : Int64) (r_1) hc_1) cl_Model_111 q_code_Model_in [] rfl (by decide) rfl hl.1 (Nat.le_of_ble_eq_true rfl) (rm_ok hR1 hR2 (by decide) (by decide)) ⟨Nat.zero_le _, Nat.zero_le _⟩ d_Model_told_8) hW hA [] rfl rfl (ps := [none, none]) (by decide +kernel) ⟨rfl, rfl, trivial⟩ (fun H locs hW => ?_)
  refine lv_if_eq (tgt := 24) hx hb d_Model_told_11 (by decide) (fun c_2 => ?_) (fun c_2 => ?_)
  · have h := it_e c_2 h
    refine lv_iload_n hx hb d_Model_told_24 rfl (lv_at hl 1 rfl) ?_
    by_cases c_3_0 : p0 = (0 : Int32)
    · have h := it_e c_3_0 h
      refine lv_tableIn (off := 47) (tgt := 72) hx hb d_Model_told_25 (by rw [c_3_0]; decide) (by rw [c_3_0]; decide) (by rw [c_3_0]; rfl) (by decide) ?_
      refine lv_aload_n hx hb d_Model_told_72 rfl (lv_at hl 0 rfl) ?_
      refine x_get hC hW 0 rfl fl_Model_121 rfl d_Model_told_73 ?_
      cases h
      rw [hQ]
      exact x_iret hC hr hW d_Model_told_76
    replace h := ie_e c_3_0 h
    by_cases c_3_1 : p0 = (1 : Int32)
    · have h := it_e c_3_1 h
      refine lv_tableIn (off := 52) (tgt := 77) hx hb d_Model_told_25 (by rw [c_3_1]; decide) (by rw [c_3_1]; decide) (by rw [c_3_1]; rfl) (by decide) ?_
      refine lv_aload_n hx hb d_Model_told_77 rfl (lv_at hl 0 rfl) ?_
      refine x_get hC hW 0 rfl fl_Model_61 rfl d_Model_told_78 ?_
      cases h
      rw [hQ]
      exact x_iret hC hr hW d_Model_told_81
    replace h := ie_e c_3_1 h
    by_cases c_3_2 : p0 = (2 : Int32)
    · have h := it_e c_3_2 h
      refine lv_tableIn (off := 57) (tgt := 82) hx hb d_Model_told_25 (by rw [c_3_2]; decide) (by rw [c_3_2]; decide) (by rw [c_3_2]; rfl) (by decide) ?_
      refine lv_aload_n hx hb d_Model_told_82 rfl (lv_at hl 0 rfl) ?_
      refine x_get hC hW 0 rfl fl_Model_65 rfl d_Model_told_83 ?_
      cases h
      rw [hQ]
      exact x_iret hC hr hW d_Model_told_86
    replace h := ie_e c_3_2 h
    by_cases c_3_3 : p0 = (3 : Int32)
    · have h := it_e c_3_3 h
      refine lv_tableIn (off := 62) (tgt := 87) hx hb d_Model_told_25 (by rw [c_3_3]; decide) (by rw [c_3_3]; decide) (by rw [c_3_3]; rfl) (by decide) ?_
      refine lv_aload_n hx hb d_Model_told_87 rfl (lv_at hl 0 rfl) ?_
      refine x_get hC hW 0 rfl fl_Model_68 rfl d_Model_told_88 ?_
      cases h
      rw [hQ]
      exact x_iret hC hr hW d_Model_told_91
    replace h := ie_e c_3_3 h
    by_cases c_3_4 : p0 = (4 : Int32)
    · have h := it_e c_3_4 h
      refine lv_tableIn (off := 67) (tgt := 92) hx hb d_Model_told_25 (by rw [c_3_4]; decide) (by rw [c_3_4]; decide) (by rw [c_3_4]; rfl) (by decide) ?_
      refine lv_aload_n hx hb d_Model_told_92 rfl (lv_at hl 0 rfl) ?_
      refine x_get hC hW 0 rfl fl_Model_71 rfl d_Model_told_93 ?_
      cases h
      rw [hQ]
      exact x_iret hC hr hW d_Model_told_96
    replace h := ie_e c_3_4 h
    by_cases c_3_5 : p0 = (5 : Int32)
    · have h := it_e c_3_5 h
      refine lv_tableIn (off := 72) (tgt := 97) hx hb d_Model_told_25 (by rw [c_3_5]; decide) (by rw [c_3_5]; decide) (by rw [c_3_5]; rfl) (by decide) ?_
      refine lv_aload_n hx hb d_Model_told_97 rfl (lv_at hl 0 rfl) ?_
      refine x_get hC hW 0 rfl fl_Model_74 rfl d_Model_told_98 ?_
      cases h
      rw [hQ]
      exact x_iret hC hr hW d_Model_told_101
    replace h := ie_e c_3_5 h
    by_cases c_3_6 : p0 = (6 : Int32)
    · have h := it_e c_3_6 h
      refine lv_tableIn (off := 77) (tgt := 102) hx hb d_Model_told_25 (by rw [c_3_6]; decide) (by rw [c_3_6]; decide) (by rw [c_3_6]; rfl) (by decide) ?_
      refine lv_aload_n hx hb d_Model_told_102 rfl (lv_at hl 0 rfl) ?_
      refine x_get hC hW 0 rfl fl_Model_77 rfl d_Model_told_103 ?_
      cases h
      rw [hQ]
      exact x_iret hC hr hW d_Model_told_106
    replace h := ie_e c_3_6 h
    by_cases c_3_7 : p0 = (7 : Int32)
    · have h := it_e c_3_7 h
      refine lv_tableIn (off := 82) (tgt := 107) hx hb d_Model_told_25 (by rw [c_3_7]; decide) (by rw [c_3_7]; decide) (by rw [c_3_7]; rfl) (by decide) ?_
      refine lv_aload_n hx hb d_Model_told_107 rfl (lv_at hl 0 rfl) ?_
      refine x_get hC hW 0 rfl fl_Model_80 rfl d_Model_told_108 ?_
      cases h
      rw [hQ]
      exact x_iret hC hr hW d_Model_told_111
    replace h := ie_e c_3_7 h
    refine lv_tableOut (tgt := 112) hx hb d_Model_told_25 (tsw_8 c_3_0 c_3_1 c_3_2 c_3_3 c_3_4 c_3_5 c_3_6 c_3_7) (by decide) ?_
    refine lv_bipush (v := (-2 : Int32)) hx hb d_Model_told_112 (by decide) ?_
    cases h
    rw [hQ]
    exact x_iret hC hr hW d_Model_told_114
  · have h := ie_e c_2 h
    refine lv_aload_n hx hb d_Model_told_14 rfl (lv_at hl 0 rfl) ?_
    refine x_get hC hW 0 rfl fl_Model_13 rfl d_Model_told_15 ?_
    refine lv_iload_n hx hb d_Model_told_18 rfl (lv_at hl 1 rfl) ?_
    refine lv_bipush (v := (10 : Int32)) hx hb d_Model_told_19 (by decide) ?_
    refine lv_isub hx hb d_Model_told_21 ?_
    obtain ⟨hi_4, h⟩ := gd_e h
    refine x_iald hC hW 1 rfl hi_4 d_Model_told_22 ?_
    cases h
    rw [hQ]
    exact x_iret hC hr hW d_Model_told_23
