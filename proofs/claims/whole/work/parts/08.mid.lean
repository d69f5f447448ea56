def f_Play_dropTickets  : Option (Int32 × Int32) :=
  some ((0 : Int32), (0 : Int32))
set_option maxHeartbeats 4000000 in
set_option maxRecDepth 100000 in
theorem c_Play_dropTickets (l : Launch) (D : va_G) (I J Z : ClassId) (a_t : Nat) (a_t_tickets : Nat) (a_t_prizes : Nat) (a_t_sightTickets : Nat) (a_t_sightNumbers : Nat) (a_t_sightKinds : Nat)  (v_t_n : Int32) (v_t_t : Int32) (v_t_d : Int32) (v_t_r : Int32) (v_t_fond : Int32) (v_t_ticketCount : Int32) (v_t_sightCount : Int32)  (out : (Int32 × Int32)) (h : f_Play_dropTickets  = some out) : CT l D I J Z y_Play_dropTickets b_Play_dropTickets 1 none 1 [.ref a_t] [(a_t, .inr (4, [.int v_t_n, .int v_t_t, .int v_t_d, .int v_t_r, .int v_t_fond, .int v_t_ticketCount, .ref a_t_tickets, .ref a_t_prizes, .int v_t_sightCount, .ref a_t_sightTickets, .ref a_t_sightNumbers, .ref a_t_sightKinds]))] (PoV D [(a_t, .inr (4, [.int v_t_n, .int v_t_t, .int v_t_d, .int v_t_r, .int v_t_fond, .int out.2, .ref a_t_tickets, .ref a_t_prizes, .int out.1, .ref a_t_sightTickets, .ref a_t_sightNumbers, .ref a_t_sightKinds]))]) := by
  unfold f_Play_dropTickets at h
  refine CT_of R_Play (by decide +kernel) rfl (Nat.le_of_ble_eq_true rfl) ?_
  intro p e R s m args below meth c A ls Q hR1 hR2 hQ hC hr hW hA hl
  have hx := hC.1
  have hb := hC.2.1
  have hl : lv_has ls 1 [(0, .ref a_t)] := hl
  refine lv_aload_n hx hb d_Play_dropTickets_0 rfl (lv_at hl 0 rfl) ?_
  refine lv_iconst (v := (0 : Int32)) hx hb d_Play_dropTickets_1 (by decide) ?_
  refine x_put (ws' := [(a_t, .inr (4, [.int v_t_n, .int v_t_t, .int v_t_d, .int v_t_r, .int v_t_fond, .int (0 : Int32), .ref a_t_tickets, .ref a_t_prizes, .int v_t_sightCount, .ref a_t_sightTickets, .ref a_t_sightNumbers, .ref a_t_sightKinds]))]) hC hW 0 rfl fp_Play_55 rfl rfl (Nat.le_of_ble_eq_true rfl) d_Play_dropTickets_2 rfl (fun H locs hW => ?_)
  refine lv_aload_n hx hb d_Play_dropTickets_5 rfl (lv_at hl 0 rfl) ?_
  refine lv_iconst (v := (0 : Int32)) hx hb d_Play_dropTickets_6 (by decide) ?_
  refine x_put (ws' := [(a_t, .inr (4, [.int v_t_n, .int v_t_t, .int v_t_d, .int v_t_r, .int v_t_fond, .int (0 : Int32), .ref a_t_tickets, .ref a_t_prizes, .int (0 : Int32), .ref a_t_sightTickets, .ref a_t_sightNumbers, .ref a_t_sightKinds]))]) hC hW 0 rfl fp_Play_58 rfl rfl (Nat.le_of_ble_eq_true rfl) d_Play_dropTickets_7 rfl (fun H locs hW => ?_)
  cases h
  rw [hQ]
  exact x_vret hC hr hW d_Play_dropTickets_10

def f_Play_begin (p0 : Int32) (p1 : Int32) (p2 : Int32) (p3 : Int32) : Option (Int32 × Int32 × Int32 × Int32 × Int32 × Int32 × Int32) :=
  bk2 (f_Play_dropTickets ) fun w_1_0 w_1_1 => some (p2, (0 : Int32), p0, p3, w_1_0, p1, w_1_1)
set_option maxHeartbeats 4000000 in
set_option maxRecDepth 100000 in
theorem c_Play_begin (l : Launch) (D : va_G) (I J Z : ClassId) (a_t : Nat) (a_t_tickets : Nat) (a_t_prizes : Nat) (a_t_sightTickets : Nat) (a_t_sightNumbers : Nat) (a_t_sightKinds : Nat)  (v_t_n : Int32) (v_t_t : Int32) (v_t_d : Int32) (v_t_r : Int32) (v_t_fond : Int32) (v_t_ticketCount : Int32) (v_t_sightCount : Int32) (p0 : Int32) (p1 : Int32) (p2 : Int32) (p3 : Int32) (out : (Int32 × Int32 × Int32 × Int32 × Int32 × Int32 × Int32)) (h : f_Play_begin p0 p1 p2 p3 = some out) : CT l D I J Z y_Play_begin b_Play_begin 5 none 2 [.ref a_t, .int p0, .int p1, .int p2, .int p3] [(a_t, .inr (4, [.int v_t_n, .int v_t_t, .int v_t_d, .int v_t_r, .int v_t_fond, .int v_t_ticketCount, .ref a_t_tickets, .ref a_t_prizes, .int v_t_sightCount, .ref a_t_sightTickets, .ref a_t_sightNumbers, .ref a_t_sightKinds]))] (PoV D [(a_t, .inr (4, [.int out.2.2.1, .int out.2.2.2.2.2.1, .int out.1, .int out.2.2.2.1, .int out.2.1, .int out.2.2.2.2.2.2, .ref a_t_tickets, .ref a_t_prizes, .int out.2.2.2.2.1, .ref a_t_sightTickets, .ref a_t_sightNumbers, .ref a_t_sightKinds]))]) := by
  unfold f_Play_begin at h
  refine CT_of R_Play (by decide +kernel) rfl (Nat.le_of_ble_eq_true rfl) ?_
  intro p e R s m args below meth c A ls Q hR1 hR2 hQ hC hr hW hA hl
  have hx := hC.1
  have hb := hC.2.1
  have hl : lv_has ls 5 [(0, .ref a_t), (1, .int p0), (2, .int p1), (3, .int p2), (4, .int p3)] := hl
  refine lv_aload_n hx hb d_Play_begin_0 rfl (lv_at hl 0 rfl) ?_
  refine lv_iload_n hx hb d_Play_begin_1 rfl (lv_at hl 1 rfl) ?_
  refine x_put (ws' := [(a_t, .inr (4, [.int p0, .int v_t_t, .int v_t_d, .int v_t_r, .int v_t_fond, .int v_t_ticketCount, .ref a_t_tickets, .ref a_t_prizes, .int v_t_sightCount, .ref a_t_sightTickets, .ref a_t_sightNumbers, .ref a_t_sightKinds]))]) hC hW 0 rfl fp_Play_36 rfl rfl (Nat.le_of_ble_eq_true rfl) d_Play_begin_2 rfl (fun H locs hW => ?_)
  refine lv_aload_n hx hb d_Play_begin_5 rfl (lv_at hl 0 rfl) ?_
  refine lv_iload_n hx hb d_Play_begin_6 rfl (lv_at hl 2 rfl) ?_
  refine x_put (ws' := [(a_t, .inr (4, [.int p0, .int p1, .int v_t_d, .int v_t_r, .int v_t_fond, .int v_t_ticketCount, .ref a_t_tickets, .ref a_t_prizes, .int v_t_sightCount, .ref a_t_sightTickets, .ref a_t_sightNumbers, .ref a_t_sightKinds]))]) hC hW 0 rfl fp_Play_40 rfl rfl (Nat.le_of_ble_eq_true rfl) d_Play_begin_7 rfl (fun H locs hW => ?_)
  refine lv_aload_n hx hb d_Play_begin_10 rfl (lv_at hl 0 rfl) ?_
  refine lv_iload_n hx hb d_Play_begin_11 rfl (lv_at hl 3 rfl) ?_
  refine x_put (ws' := [(a_t, .inr (4, [.int p0, .int p1, .int p2, .int v_t_r, .int v_t_fond, .int v_t_ticketCount, .ref a_t_tickets, .ref a_t_prizes, .int v_t_sightCount, .ref a_t_sightTickets, .ref a_t_sightNumbers, .ref a_t_sightKinds]))]) hC hW 0 rfl fp_Play_43 rfl rfl (Nat.le_of_ble_eq_true rfl) d_Play_begin_12 rfl (fun H locs hW => ?_)
  refine lv_aload_n hx hb d_Play_begin_15 rfl (lv_at hl 0 rfl) ?_
  refine lv_iload hx hb d_Play_begin_16 (lv_at hl 4 rfl) ?_
  refine x_put (ws' := [(a_t, .inr (4, [.int p0, .int p1, .int p2, .int p3, .int v_t_fond, .int v_t_ticketCount, .ref a_t_tickets, .ref a_t_prizes, .int v_t_sightCount, .ref a_t_sightTickets, .ref a_t_sightNumbers, .ref a_t_sightKinds]))]) hC hW 0 rfl fp_Play_46 rfl rfl (Nat.le_of_ble_eq_true rfl) d_Play_begin_18 rfl (fun H locs hW => ?_)
  refine lv_aload_n hx hb d_Play_begin_21 rfl (lv_at hl 0 rfl) ?_
  refine lv_iconst (v := (0 : Int32)) hx hb d_Play_begin_22 (by decide) ?_
  refine x_put (ws' := [(a_t, .inr (4, [.int p0, .int p1, .int p2, .int p3, .int (0 : Int32), .int v_t_ticketCount, .ref a_t_tickets, .ref a_t_prizes, .int v_t_sightCount, .ref a_t_sightTickets, .ref a_t_sightNumbers, .ref a_t_sightKinds]))]) hC hW 0 rfl fp_Play_49 rfl rfl (Nat.le_of_ble_eq_true rfl) d_Play_begin_23 rfl (fun H locs hW => ?_)
  refine lv_aload_n hx hb d_Play_begin_26 rfl (lv_at hl 0 rfl) ?_
  obtain ⟨w_1_0, w_1_1, hc_1, h⟩ := bk2_e h
  refine x_cv (ws' := [(a_t, .inr (4, [.int p0, .int p1, .int p2, .int p3, .int (0 : Int32), .int w_1_1, .ref a_t_tickets, .ref a_t_prizes, .int w_1_0, .ref a_t_sightTickets, .ref a_t_sightNumbers, .ref a_t_sightKinds]))]) (x_runV (As := []) (rest := []) hC hW (c_Play_dropTickets l D I J Z a_t a_t_tickets a_t_prizes a_t_sightTickets a_t_sightNumbers a_t_sightKinds p0 p1 p2 p3 (0 : Int32) v_t_ticketCount v_t_sightCount (w_1_0, w_1_1) hc_1) cl_Play_52 q_code_Play_dropTickets [0] rfl (by decide) 0 rfl rfl rfl rfl hl.1 (Nat.le_of_ble_eq_true rfl) (rm_ok hR1 hR2 (by decide) (by decide)) ⟨Nat.zero_le _, Nat.zero_le _⟩ d_Play_begin_27) hW hA [0] rfl rfl (ps := [some 0]) (by decide +kernel) ⟨rfl, trivial⟩ (fun H locs hW => ?_)
  cases h
  rw [hQ]
  exact x_vret hC hr hW d_Play_begin_30

def L_Sets_fill_13 (x2 : Int32) (x3 : Int32) (x4 : Int32) : Nat → Int32 → Int32 → (Nat → Int32) → Option (Int32 × Int32 × (Nat → Int32))
  | 0, _, _, _ => none
  | n + 1, x5, v_t_size, v_t_members_cells => if x4 ≤ x5 then some (x5, v_t_size, v_t_members_cells) else bk1 (f_Integer_bitCount x5) fun r_2 => if r_2 = x2 then bk1 (f_Main_isPartOf x3 x5) fun r_4 => if r_4 = (0 : Int32) then L_Sets_fill_13 x2 x3 x4 n (x5 + (1 : Int32)) v_t_size v_t_members_cells else bk1 (f_Row_put 70 v_t_members_cells v_t_size x5) fun w_6_0 => L_Sets_fill_13 x2 x3 x4 n (x5 + (1 : Int32)) (v_t_size + (1 : Int32)) w_6_0 else L_Sets_fill_13 x2 x3 x4 n (x5 + (1 : Int32)) v_t_size v_t_members_cells
def f_Sets_fill (v_t_members_cells : Nat → Int32) (p0 : Int32) (p1 : Int32) (p2 : Int32) : Option (Int32 × (Nat → Int32)) :=
  bk3 (L_Sets_fill_13 p1 p2 ((1 : Int32) <<< (p0 &&& 31)) 300 (0 : Int32) (0 : Int32) v_t_members_cells) fun yx5_7 y_t_size_7 y_t_members_cells_7 => some (y_t_size_7, y_t_members_cells_7)
set_option maxHeartbeats 4000000 in
set_option maxRecDepth 100000 in
theorem c_Sets_fill (l : Launch) (D : va_G) (I J Z : ClassId) (a_t : Nat) (a_t_members : Nat) (a_t_members_cells : Nat)  (v_t_size : Int32) (v_t_members_cells : Nat → Int32) (p0 : Int32) (p1 : Int32) (p2 : Int32) (out : (Int32 × (Nat → Int32))) (h : f_Sets_fill v_t_members_cells p0 p1 p2 = some out) : CT l D I J Z y_Sets_fill b_Sets_fill 6 none 2 [.ref a_t, .int p0, .int p1, .int p2] [(a_t, .inr (7, [.ref a_t_members, .int v_t_size])), (a_t_members, .inr (5, [.ref a_t_members_cells])), (a_t_members_cells, .inl (I, 70, .inl v_t_members_cells))] (PoV D [(a_t, .inr (7, [.ref a_t_members, .int out.1])), (a_t_members, .inr (5, [.ref a_t_members_cells])), (a_t_members_cells, .inl (I, 70, .inl out.2))]) := by
  unfold f_Sets_fill at h
  refine CT_of R_Sets (by decide +kernel) rfl (Nat.le_of_ble_eq_true rfl) ?_
  intro p e R s m args below meth c A ls Q hR1 hR2 hQ hC hr hW hA hl
  have hx := hC.1
  have hb := hC.2.1
  have hl : lv_has ls 6 [(0, .ref a_t), (1, .int p0), (2, .int p1), (3, .int p2)] := hl
  have lp13 : ∀ (n : Nat) (x2 : Int32) (x3 : Int32) (x4 : Int32) (x5 : Int32) (v_t_size : Int32) (v_t_members_cells : Nat → Int32) (yx5 : Int32) (y_t_size : Int32) (y_t_members_cells : Nat → Int32), L_Sets_fill_13 x2 x3 x4 n x5 v_t_size v_t_members_cells = some (yx5, y_t_size, y_t_members_cells) →
    (∀ H locs, Wd D A s.heap [(a_t, .inr (7, [.ref a_t_members, .int y_t_size])), (a_t_members, .inr (5, [.ref a_t_members_cells])), (a_t_members_cells, .inl (I, 70, .inl y_t_members_cells))] H locs → ∀ ls, lv_has ls 6 [(0, .ref a_t), (2, .int x2), (3, .int x3), (4, .int x4), (5, .int yx5)] → W p l e R s m args below meth c H locs 0 0 Q (F0 m 67 ls [])) →
    ∀ H locs, Wd D A s.heap [(a_t, .inr (7, [.ref a_t_members, .int v_t_size])), (a_t_members, .inr (5, [.ref a_t_members_cells])), (a_t_members_cells, .inl (I, 70, .inl v_t_members_cells))] H locs → ∀ ls, lv_has ls 6 [(0, .ref a_t), (2, .int x2), (3, .int x3), (4, .int x4), (5, .int x5)] → W p l e R s m args below meth c H locs 0 0 Q (F0 m 13 ls []) := by
    intro n
    induction n with
    | zero =>
      intro x2 x3 x4 x5 v_t_size v_t_members_cells yx5 y_t_size y_t_members_cells h
      exact no_e h
    | succ n ih =>
      intro x2 x3 x4 x5 v_t_size v_t_members_cells yx5 y_t_size y_t_members_cells h K H locs hW ls hl
      rw [L_Sets_fill_13] at h
      refine lv_iload hx hb d_Sets_fill_13 (lv_at hl 4 rfl) ?_
      refine lv_iload hx hb d_Sets_fill_15 (lv_at hl 3 rfl) ?_
      refine lv_icmp_ge (tgt := 67) hx hb d_Sets_fill_17 (by decide) (fun c_1 => ?_) (fun c_1 => ?_)
      · have h := it_e c_1 h
        cases h
        exact K _ _ hW ls (lv_sub hl [0, 1, 2, 3, 4] rfl)
      · have h := ie_e c_1 h
        refine lv_iload hx hb d_Sets_fill_20 (lv_at hl 4 rfl) ?_
        obtain ⟨r_2, hc_2, h⟩ := bk1_e h
        refine x_ci (ws' := [(a_t, .inr (7, [.ref a_t_members, .int v_t_size])), (a_t_members, .inr (5, [.ref a_t_members_cells])), (a_t_members_cells, .inl (I, 70, .inl v_t_members_cells))]) (x_runS (rest := []) hC hW (c_Integer_bitCount l D I J Z x5 (r_2) hc_2) cl_Sets_24 q_code_Integer_bitCount [] rfl (by decide) rfl hl.1 (Nat.le_of_ble_eq_true rfl) (rm_ok hR1 hR2 (by decide) (by decide)) ⟨Nat.zero_le _, Nat.zero_le _⟩ d_Sets_fill_22) hW hA [] rfl rfl (ps := [none, none, none]) (by decide +kernel) ⟨rfl, rfl, rfl, trivial⟩ (fun H locs hW => ?_)
        refine lv_iload_n hx hb d_Sets_fill_25 rfl (lv_at hl 1 rfl) ?_
        refine lv_icmp_ne (tgt := 61) hx hb d_Sets_fill_26 (by decide) (fun c_3 => ?_) (fun c_3 => ?_)
        · have h := ie_e c_3 h
          refine lv_iinc (v := (x5 + (1 : Int32))) (lv' := [(5, .int (x5 + (1 : Int32))), (0, .ref a_t), (2, .int x2), (3, .int x3), (4, .int x4)]) hx hb d_Sets_fill_61 hl (k := 4) rfl (iinc_e (by decide)) (by decide) rfl (fun ls hl => ?_)
          refine lv_goto (tgt := 13) hx hb d_Sets_fill_64 (by decide) ?_
          exact ih x2 x3 x4 (x5 + (1 : Int32)) v_t_size v_t_members_cells _ _ _ h K _ _ hW ls (lv_sub hl [1, 2, 3, 4, 0] rfl)
        · have h := it_e c_3 h
          refine lv_iload_n hx hb d_Sets_fill_29 rfl (lv_at hl 2 rfl) ?_
          refine lv_iload hx hb d_Sets_fill_30 (lv_at hl 4 rfl) ?_
          obtain ⟨r_4, hc_4, h⟩ := bk1_e h
          refine x_ci (ws' := [(a_t, .inr (7, [.ref a_t_members, .int v_t_size])), (a_t_members, .inr (5, [.ref a_t_members_cells])), (a_t_members_cells, .inl (I, 70, .inl v_t_members_cells))]) (x_runS (rest := []) hC hW (c_Main_isPartOf l D I J Z x3 x5 (r_4) hc_4) cl_Sets_30 q_code_Main_isPartOf [] rfl (by decide) rfl hl.1 (Nat.le_of_ble_eq_true rfl) (rm_ok hR1 hR2 (by decide) (by decide)) ⟨Nat.zero_le _, Nat.zero_le _⟩ d_Sets_fill_32) hW hA [] rfl rfl (ps := [none, none, none]) (by decide +kernel) ⟨rfl, rfl, rfl, trivial⟩ (fun H locs hW => ?_)
          refine lv_if_eq (tgt := 61) hx hb d_Sets_fill_35 (by decide) (fun c_5 => ?_) (fun c_5 => ?_)
          · have h := it_e c_5 h
            refine lv_iinc (v := (x5 + (1 : Int32))) (lv' := [(5, .int (x5 + (1 : Int32))), (0, .ref a_t), (2, .int x2), (3, .int x3), (4, .int x4)]) hx hb d_Sets_fill_61 hl (k := 4) rfl (iinc_e (by decide)) (by decide) rfl (fun ls hl => ?_)
            refine lv_goto (tgt := 13) hx hb d_Sets_fill_64 (by decide) ?_
            exact ih x2 x3 x4 (x5 + (1 : Int32)) v_t_size v_t_members_cells _ _ _ h K _ _ hW ls (lv_sub hl [1, 2, 3, 4, 0] rfl)
          · have h := ie_e c_5 h
            refine lv_aload_n hx hb d_Sets_fill_38 rfl (lv_at hl 0 rfl) ?_
            refine x_get hC hW 0 rfl fl_Sets_14 rfl d_Sets_fill_39 ?_
            refine lv_aload_n hx hb d_Sets_fill_42 rfl (lv_at hl 0 rfl) ?_
            refine x_get hC hW 0 rfl fl_Sets_20 rfl d_Sets_fill_43 ?_
            refine lv_iload hx hb d_Sets_fill_46 (lv_at hl 4 rfl) ?_
            obtain ⟨w_6_0, hc_6, h⟩ := bk1_e h
            refine x_cv (ws' := [(a_t, .inr (7, [.ref a_t_members, .int v_t_size])), (a_t_members, .inr (5, [.ref a_t_members_cells])), (a_t_members_cells, .inl (I, 70, .inl w_6_0))]) (x_runV (As := [.int v_t_size, .int x5]) (rest := []) hC hW (c_Row_put l D I J Z a_t_members a_t_members_cells 70 v_t_members_cells v_t_size x5 (w_6_0) hc_6) cl_Sets_34 q_code_Row_put [1, 2] rfl (by decide) 1 rfl rfl rfl rfl hl.1 (Nat.le_of_ble_eq_true rfl) (rm_ok hR1 hR2 (by decide) (by decide)) ⟨Nat.zero_le _, Nat.zero_le _⟩ d_Sets_fill_48) hW hA [1, 2] rfl rfl (ps := [none, some 0, some 1]) (by decide +kernel) ⟨rfl, rfl, rfl, trivial⟩ (fun H locs hW => ?_)
            refine lv_aload_n hx hb d_Sets_fill_51 rfl (lv_at hl 0 rfl) ?_
            refine lv_dup hx hb d_Sets_fill_52 rfl ?_
            refine x_get hC hW 0 rfl fl_Sets_20 rfl d_Sets_fill_53 ?_
            refine lv_iconst (v := (1 : Int32)) hx hb d_Sets_fill_56 (by decide) ?_
            refine lv_iadd hx hb d_Sets_fill_57 ?_
            refine x_put (ws' := [(a_t, .inr (7, [.ref a_t_members, .int (v_t_size + (1 : Int32))])), (a_t_members, .inr (5, [.ref a_t_members_cells])), (a_t_members_cells, .inl (I, 70, .inl w_6_0))]) hC hW 0 rfl fp_Sets_20 rfl rfl (Nat.le_of_ble_eq_true rfl) d_Sets_fill_58 rfl (fun H locs hW => ?_)
            refine lv_iinc (v := (x5 + (1 : Int32))) (lv' := [(5, .int (x5 + (1 : Int32))), (0, .ref a_t), (2, .int x2), (3, .int x3), (4, .int x4)]) hx hb d_Sets_fill_61 hl (k := 4) rfl (iinc_e (by decide)) (by decide) rfl (fun ls hl => ?_)
            refine lv_goto (tgt := 13) hx hb d_Sets_fill_64 (by decide) ?_
            exact ih x2 x3 x4 (x5 + (1 : Int32)) (v_t_size + (1 : Int32)) w_6_0 _ _ _ h K _ _ hW ls (lv_sub hl [1, 2, 3, 4, 0] rfl)
  refine lv_iconst (v := (1 : Int32)) hx hb d_Sets_fill_0 (by decide) ?_
  refine lv_iload_n hx hb d_Sets_fill_1 rfl (lv_at hl 1 rfl) ?_
  refine lv_ishl hx hb d_Sets_fill_2 ?_
  refine lv_istore (lv' := [(4, .int ((1 : Int32) <<< (p0 &&& 31))), (0, .ref a_t), (1, .int p0), (2, .int p1), (3, .int p2)]) hx hb d_Sets_fill_3 hl (by decide) rfl (fun ls hl => ?_)
  refine lv_aload_n hx hb d_Sets_fill_5 rfl (lv_at hl 1 rfl) ?_
  refine lv_iconst (v := (0 : Int32)) hx hb d_Sets_fill_6 (by decide) ?_
  refine x_put (ws' := [(a_t, .inr (7, [.ref a_t_members, .int (0 : Int32)])), (a_t_members, .inr (5, [.ref a_t_members_cells])), (a_t_members_cells, .inl (I, 70, .inl v_t_members_cells))]) hC hW 0 rfl fp_Sets_20 rfl rfl (Nat.le_of_ble_eq_true rfl) d_Sets_fill_7 rfl (fun H locs hW => ?_)
  refine lv_iconst (v := (0 : Int32)) hx hb d_Sets_fill_10 (by decide) ?_
  refine lv_istore (lv' := [(5, .int (0 : Int32)), (4, .int ((1 : Int32) <<< (p0 &&& 31))), (0, .ref a_t), (1, .int p0), (2, .int p1), (3, .int p2)]) hx hb d_Sets_fill_11 hl (by decide) rfl (fun ls hl => ?_)
  obtain ⟨yx5_7, y_t_size_7, y_t_members_cells_7, hv_7, h⟩ := bk3_e h
  refine lp13 _ p1 p2 ((1 : Int32) <<< (p0 &&& 31)) (0 : Int32) (0 : Int32) v_t_members_cells yx5_7 y_t_size_7 y_t_members_cells_7 hv_7 (fun H locs hW ls hl => ?_) _ _ hW ls (lv_sub hl [2, 4, 5, 1, 0] rfl)
  cases h
  rw [hQ]
  exact x_vret hC hr hW d_Sets_fill_67

def f_Sets_size (v_t_size : Int32) : Option (Int32) :=
  some (v_t_size)
set_option maxHeartbeats 4000000 in
set_option maxRecDepth 100000 in
theorem c_Sets_size (l : Launch) (D : va_G) (I J Z : ClassId) (a_t : Nat) (a_t_members : Nat)  (v_t_size : Int32)  (out : (Int32)) (h : f_Sets_size v_t_size = some out) : CT l D I J Z y_Sets_size b_Sets_size 1 (some .int) 1 [.ref a_t] [(a_t, .inr (7, [.ref a_t_members, .int v_t_size]))] (PoI out D [(a_t, .inr (7, [.ref a_t_members, .int v_t_size]))]) := by
  unfold f_Sets_size at h
  refine CT_of R_Sets (by decide +kernel) rfl (Nat.le_of_ble_eq_true rfl) ?_
  intro p e R s m args below meth c A ls Q hR1 hR2 hQ hC hr hW hA hl
  have hx := hC.1
  have hb := hC.2.1
  have hl : lv_has ls 1 [(0, .ref a_t)] := hl
  refine lv_aload_n hx hb d_Sets_size_0 rfl (lv_at hl 0 rfl) ?_
  refine x_get hC hW 0 rfl fl_Sets_20 rfl d_Sets_size_1 ?_
  cases h
  rw [hQ]
  exact x_iret hC hr hW d_Sets_size_4

def f_Sets_at (v_t_members_cells : Nat → Int32) (p0 : Int32) : Option (Int32) :=
  bk1 (f_Row_at 70 v_t_members_cells p0) fun r_1 => some (r_1)
set_option maxHeartbeats 4000000 in
set_option maxRecDepth 100000 in
theorem c_Sets_at (l : Launch) (D : va_G) (I J Z : ClassId) (a_t : Nat) (a_t_members : Nat) (a_t_members_cells : Nat)  (v_t_size : Int32) (v_t_members_cells : Nat → Int32) (p0 : Int32) (out : (Int32)) (h : f_Sets_at v_t_members_cells p0 = some out) : CT l D I J Z y_Sets_at b_Sets_at 2 (some .int) 2 [.ref a_t, .int p0] [(a_t, .inr (7, [.ref a_t_members, .int v_t_size])), (a_t_members, .inr (5, [.ref a_t_members_cells])), (a_t_members_cells, .inl (I, 70, .inl v_t_members_cells))] (PoI out D [(a_t, .inr (7, [.ref a_t_members, .int v_t_size])), (a_t_members, .inr (5, [.ref a_t_members_cells])), (a_t_members_cells, .inl (I, 70, .inl v_t_members_cells))]) := by
  unfold f_Sets_at at h
  refine CT_of R_Sets (by decide +kernel) rfl (Nat.le_of_ble_eq_true rfl) ?_
  intro p e R s m args below meth c A ls Q hR1 hR2 hQ hC hr hW hA hl
  have hx := hC.1
  have hb := hC.2.1
  have hl : lv_has ls 2 [(0, .ref a_t), (1, .int p0)] := hl
  refine lv_aload_n hx hb d_Sets_at_0 rfl (lv_at hl 0 rfl) ?_
  refine x_get hC hW 0 rfl fl_Sets_14 rfl d_Sets_at_1 ?_
  refine lv_iload_n hx hb d_Sets_at_4 rfl (lv_at hl 1 rfl) ?_
  obtain ⟨r_1, hc_1, h⟩ := bk1_e h
  refine x_ci (ws' := [(a_t, .inr (7, [.ref a_t_members, .int v_t_size])), (a_t_members, .inr (5, [.ref a_t_members_cells])), (a_t_members_cells, .inl (I, 70, .inl v_t_members_cells))]) (x_runV (As := [.int p0]) (rest := []) hC hW (c_Row_at l D I J Z a_t_members a_t_members_cells 70 v_t_members_cells p0 (r_1) hc_1) cl_Sets_38 q_code_Row_at [1, 2] rfl (by decide) 1 rfl rfl rfl rfl hl.1 (Nat.le_of_ble_eq_true rfl) (rm_ok hR1 hR2 (by decide) (by decide)) ⟨Nat.zero_le _, Nat.zero_le _⟩ d_Sets_at_5) hW hA [1, 2] rfl rfl (ps := [none, some 0, some 1]) (by decide +kernel) ⟨rfl, rfl, rfl, trivial⟩ (fun H locs hW => ?_)
  cases h
  rw [hQ]
  exact x_iret hC hr hW d_Sets_at_8

def f_Pad_size (v_t_size : Int32) : Option (Int32) :=
  some (v_t_size)
set_option maxHeartbeats 4000000 in
set_option maxRecDepth 100000 in
theorem c_Pad_size (l : Launch) (D : va_G) (I J Z : ClassId) (a_t : Nat) (a_t_signs : Nat)  (v_t_size : Int32)  (out : (Int32)) (h : f_Pad_size v_t_size = some out) : CT l D I J Z y_Pad_size b_Pad_size 1 (some .int) 1 [.ref a_t] [(a_t, .inr (3, [.ref a_t_signs, .int v_t_size]))] (PoI out D [(a_t, .inr (3, [.ref a_t_signs, .int v_t_size]))]) := by
  unfold f_Pad_size at h
  refine CT_of R_Pad (by decide +kernel) rfl (Nat.le_of_ble_eq_true rfl) ?_
  intro p e R s m args below meth c A ls Q hR1 hR2 hQ hC hr hW hA hl
  have hx := hC.1
  have hb := hC.2.1
  have hl : lv_has ls 1 [(0, .ref a_t)] := hl
  refine lv_aload_n hx hb d_Pad_size_0 rfl (lv_at hl 0 rfl) ?_
  refine x_get hC hW 0 rfl fl_Pad_20 rfl d_Pad_size_1 ?_
  cases h
  rw [hQ]
  exact x_iret hC hr hW d_Pad_size_4

def f_Pad_add (v_t_size : Int32) (v_t_signs_cells : Nat → Int32) (p0 : Int32) : Option (Int32 × (Nat → Int32)) :=
  bk1 (f_Row_put 60 v_t_signs_cells v_t_size p0) fun w_1_0 => some ((v_t_size + (1 : Int32)), w_1_0)
set_option maxHeartbeats 4000000 in
set_option maxRecDepth 100000 in
theorem c_Pad_add (l : Launch) (D : va_G) (I J Z : ClassId) (a_t : Nat) (a_t_signs : Nat) (a_t_signs_cells : Nat)  (v_t_size : Int32) (v_t_signs_cells : Nat → Int32) (p0 : Int32) (out : (Int32 × (Nat → Int32))) (h : f_Pad_add v_t_size v_t_signs_cells p0 = some out) : CT l D I J Z y_Pad_add b_Pad_add 2 none 2 [.ref a_t, .int p0] [(a_t, .inr (3, [.ref a_t_signs, .int v_t_size])), (a_t_signs, .inr (5, [.ref a_t_signs_cells])), (a_t_signs_cells, .inl (I, 60, .inl v_t_signs_cells))] (PoV D [(a_t, .inr (3, [.ref a_t_signs, .int out.1])), (a_t_signs, .inr (5, [.ref a_t_signs_cells])), (a_t_signs_cells, .inl (I, 60, .inl out.2))]) := by
  unfold f_Pad_add at h
  refine CT_of R_Pad (by decide +kernel) rfl (Nat.le_of_ble_eq_true rfl) ?_
  intro p e R s m args below meth c A ls Q hR1 hR2 hQ hC hr hW hA hl
  have hx := hC.1
  have hb := hC.2.1
  have hl : lv_has ls 2 [(0, .ref a_t), (1, .int p0)] := hl
  refine lv_aload_n hx hb d_Pad_add_0 rfl (lv_at hl 0 rfl) ?_
  refine x_get hC hW 0 rfl fl_Pad_14 rfl d_Pad_add_1 ?_
  refine lv_aload_n hx hb d_Pad_add_4 rfl (lv_at hl 0 rfl) ?_
  refine x_get hC hW 0 rfl fl_Pad_20 rfl d_Pad_add_5 ?_
  refine lv_iload_n hx hb d_Pad_add_8 rfl (lv_at hl 1 rfl) ?_
  obtain ⟨w_1_0, hc_1, h⟩ := bk1_e h
  refine x_cv (ws' := [(a_t, .inr (3, [.ref a_t_signs, .int v_t_size])), (a_t_signs, .inr (5, [.ref a_t_signs_cells])), (a_t_signs_cells, .inl (I, 60, .inl w_1_0))]) (x_runV (As := [.int v_t_size, .int p0]) (rest := []) hC hW (c_Row_put l D I J Z a_t_signs a_t_signs_cells 60 v_t_signs_cells v_t_size p0 (w_1_0) hc_1) cl_Pad_24 q_code_Row_put [1, 2] rfl (by decide) 1 rfl rfl rfl rfl hl.1 (Nat.le_of_ble_eq_true rfl) (rm_ok hR1 hR2 (by decide) (by decide)) ⟨Nat.zero_le _, Nat.zero_le _⟩ d_Pad_add_9) hW hA [1, 2] rfl rfl (ps := [none, some 0, some 1]) (by decide +kernel) ⟨rfl, rfl, rfl, trivial⟩ (fun H locs hW => ?_)
  refine lv_aload_n hx hb d_Pad_add_12 rfl (lv_at hl 0 rfl) ?_
  refine lv_dup hx hb d_Pad_add_13 rfl ?_
  refine x_get hC hW 0 rfl fl_Pad_20 rfl d_Pad_add_14 ?_
  refine lv_iconst (v := (1 : Int32)) hx hb d_Pad_add_17 (by decide) ?_
  refine lv_iadd hx hb d_Pad_add_18 ?_
  refine x_put (ws' := [(a_t, .inr (3, [.ref a_t_signs, .int (v_t_size + (1 : Int32))])), (a_t_signs, .inr (5, [.ref a_t_signs_cells])), (a_t_signs_cells, .inl (I, 60, .inl w_1_0))]) hC hW 0 rfl fp_Pad_20 rfl rfl (Nat.le_of_ble_eq_true rfl) d_Pad_add_19 rfl (fun H locs hW => ?_)
  cases h
  rw [hQ]
  exact x_vret hC hr hW d_Pad_add_22

def f_Pad_clear  : Option (Int32) :=
  some ((0 : Int32))
set_option maxHeartbeats 4000000 in
set_option maxRecDepth 100000 in
theorem c_Pad_clear (l : Launch) (D : va_G) (I J Z : ClassId) (a_t : Nat) (a_t_signs : Nat)  (v_t_size : Int32)  (out : (Int32)) (h : f_Pad_clear  = some out) : CT l D I J Z y_Pad_clear b_Pad_clear 1 none 1 [.ref a_t] [(a_t, .inr (3, [.ref a_t_signs, .int v_t_size]))] (PoV D [(a_t, .inr (3, [.ref a_t_signs, .int out]))]) := by
  unfold f_Pad_clear at h
  refine CT_of R_Pad (by decide +kernel) rfl (Nat.le_of_ble_eq_true rfl) ?_
  intro p e R s m args below meth c A ls Q hR1 hR2 hQ hC hr hW hA hl
  have hx := hC.1
  have hb := hC.2.1
  have hl : lv_has ls 1 [(0, .ref a_t)] := hl
  refine lv_aload_n hx hb d_Pad_clear_0 rfl (lv_at hl 0 rfl) ?_
  refine lv_iconst (v := (0 : Int32)) hx hb d_Pad_clear_1 (by decide) ?_
  refine x_put (ws' := [(a_t, .inr (3, [.ref a_t_signs, .int (0 : Int32)]))]) hC hW 0 rfl fp_Pad_20 rfl rfl (Nat.le_of_ble_eq_true rfl) d_Pad_clear_2 rfl (fun H locs hW => ?_)
  cases h
  rw [hQ]
  exact x_vret hC hr hW d_Pad_clear_5

def L_Pad_findFault_11 (x1 : Int32) (x2 : Int32) (v_t_size : Int32) (v_t_signs_cells : Nat → Int32) : Nat → Int32 → Int32 → Int32 → Int32 → Option (Except (Int32) (Int32 × Int32 × Int32 × Int32))
  | 0, _, _, _, _ => none
  | n + 1, x3, x4, x5, x6 => if v_t_size ≤ x6 then some (.ok (x3, x4, x5, x6)) else bk1 (f_Row_at 60 v_t_signs_cells x6) fun r_2 => if x2 ≤ x3 then if x3 = x2 then bk1 (f_Row_at 60 v_t_signs_cells x6) fun r_5 => if r_5 = (59 : Int32) then if (6 : Int32) ≤ x5 then some (.error (x6)) else L_Pad_findFault_11 x1 x2 v_t_size v_t_signs_cells n (0 : Int32) (0 : Int32) x5 (x6 + (1 : Int32)) else some (.error (x6)) else some (.error (x6)) else bk1 (f_Main_isWithin (r_2 - (48 : Int32)) (x4 + (1 : Int32)) x1) fun r_8 => if r_8 = (0 : Int32) then if x3 = x2 then bk1 (f_Row_at 60 v_t_signs_cells x6) fun r_11 => if r_11 = (59 : Int32) then if (6 : Int32) ≤ x5 then some (.error (x6)) else L_Pad_findFault_11 x1 x2 v_t_size v_t_signs_cells n (0 : Int32) (0 : Int32) x5 (x6 + (1 : Int32)) else some (.error (x6)) else some (.error (x6)) else if (x3 + (1 : Int32)) = x2 then L_Pad_findFault_11 x1 x2 v_t_size v_t_signs_cells n (x3 + (1 : Int32)) (r_2 - (48 : Int32)) (x5 + (1 : Int32)) (x6 + (1 : Int32)) else L_Pad_findFault_11 x1 x2 v_t_size v_t_signs_cells n (x3 + (1 : Int32)) (r_2 - (48 : Int32)) (x5 + (0 : Int32)) (x6 + (1 : Int32))
def f_Pad_findFault (v_t_size : Int32) (v_t_signs_cells : Nat → Int32) (p0 : Int32) (p1 : Int32) : Option (Int32) :=
  lm4 (L_Pad_findFault_11 p0 p1 v_t_size v_t_signs_cells 300 (0 : Int32) (0 : Int32) (0 : Int32) (0 : Int32)) fun yx3_15 yx4_15 yx5_15 yx6_15 => if v_t_size = (0 : Int32) then some ((-6 : Int32)) else if yx3_15 = p1 then some ((-6 : Int32)) else some (v_t_size)
set_option maxHeartbeats 4000000 in
set_option maxRecDepth 100000 in
theorem c_Pad_findFault (l : Launch) (D : va_G) (I J Z : ClassId) (a_t : Nat) (a_t_signs : Nat) (a_t_signs_cells : Nat)  (v_t_size : Int32) (v_t_signs_cells : Nat → Int32) (p0 : Int32) (p1 : Int32) (out : (Int32)) (h : f_Pad_findFault v_t_size v_t_signs_cells p0 p1 = some out) : CT l D I J Z y_Pad_findFault b_Pad_findFault 8 (some .int) 2 [.ref a_t, .int p0, .int p1] [(a_t, .inr (3, [.ref a_t_signs, .int v_t_size])), (a_t_signs, .inr (5, [.ref a_t_signs_cells])), (a_t_signs_cells, .inl (I, 60, .inl v_t_signs_cells))] (PoI out D [(a_t, .inr (3, [.ref a_t_signs, .int v_t_size])), (a_t_signs, .inr (5, [.ref a_t_signs_cells])), (a_t_signs_cells, .inl (I, 60, .inl v_t_signs_cells))]) := by
  unfold f_Pad_findFault at h
  refine CT_of R_Pad (by decide +kernel) rfl (Nat.le_of_ble_eq_true rfl) ?_
  intro p e R s m args below meth c A ls Q hR1 hR2 hQ hC hr hW hA hl
  have hx := hC.1
  have hb := hC.2.1
  have hl : lv_has ls 8 [(0, .ref a_t), (1, .int p0), (2, .int p1)] := hl
  have lp11 : ∀ (n : Nat) (x1 : Int32) (x2 : Int32) (x3 : Int32) (x4 : Int32) (x5 : Int32) (x6 : Int32) (res : Except (Int32) (Int32 × Int32 × Int32 × Int32)), L_Pad_findFault_11 x1 x2 v_t_size v_t_signs_cells n x3 x4 x5 x6 = some res → (∀ r, res = .error r → r = out) →
    (∀ (yx3 : Int32) (yx4 : Int32) (yx5 : Int32) (yx6 : Int32), res = .ok (yx3, yx4, yx5, yx6) → ∀ H locs, Wd D A s.heap [(a_t, .inr (3, [.ref a_t_signs, .int v_t_size])), (a_t_signs, .inr (5, [.ref a_t_signs_cells])), (a_t_signs_cells, .inl (I, 60, .inl v_t_signs_cells))] H locs → ∀ ls, lv_has ls 8 [(0, .ref a_t), (1, .int x1), (2, .int x2), (3, .int yx3), (4, .int yx4), (5, .int yx5), (6, .int yx6)] → W p l e R s m args below meth c H locs 0 0 Q (F0 m 120 ls [])) →
    ∀ H locs, Wd D A s.heap [(a_t, .inr (3, [.ref a_t_signs, .int v_t_size])), (a_t_signs, .inr (5, [.ref a_t_signs_cells])), (a_t_signs_cells, .inl (I, 60, .inl v_t_signs_cells))] H locs → ∀ ls, lv_has ls 8 [(0, .ref a_t), (1, .int x1), (2, .int x2), (3, .int x3), (4, .int x4), (5, .int x5), (6, .int x6)] → W p l e R s m args below meth c H locs 0 0 Q (F0 m 11 ls []) := by
    intro n
    induction n with
    | zero =>
      intro x1 x2 x3 x4 x5 x6 res h
      exact no_e h
    | succ n ih =>
      intro x1 x2 x3 x4 x5 x6 res h hret K H locs hW ls hl
      rw [L_Pad_findFault_11] at h
      refine lv_iload hx hb d_Pad_findFault_11 (lv_at hl 6 rfl) ?_
      refine lv_aload_n hx hb d_Pad_findFault_13 rfl (lv_at hl 0 rfl) ?_
      refine x_get hC hW 0 rfl fl_Pad_20 rfl d_Pad_findFault_14 ?_
      refine lv_icmp_ge (tgt := 120) hx hb d_Pad_findFault_17 (by decide) (fun c_1 => ?_) (fun c_1 => ?_)
      · have h := it_e c_1 h
        cases h
        exact K _ _ _ _ rfl _ _ hW ls (lv_sub hl [0, 1, 2, 3, 4, 5, 6] rfl)
      · have h := ie_e c_1 h
        refine lv_aload_n hx hb d_Pad_findFault_20 rfl (lv_at hl 0 rfl) ?_
        refine x_get hC hW 0 rfl fl_Pad_14 rfl d_Pad_findFault_21 ?_
        refine lv_iload hx hb d_Pad_findFault_24 (lv_at hl 6 rfl) ?_
        obtain ⟨r_2, hc_2, h⟩ := bk1_e h
        refine x_ci (ws' := [(a_t, .inr (3, [.ref a_t_signs, .int v_t_size])), (a_t_signs, .inr (5, [.ref a_t_signs_cells])), (a_t_signs_cells, .inl (I, 60, .inl v_t_signs_cells))]) (x_runV (As := [.int x6]) (rest := []) hC hW (c_Row_at l D I J Z a_t_signs a_t_signs_cells 60 v_t_signs_cells x6 (r_2) hc_2) cl_Pad_28 q_code_Row_at [1, 2] rfl (by decide) 1 rfl rfl rfl rfl hl.1 (Nat.le_of_ble_eq_true rfl) (rm_ok hR1 hR2 (by decide) (by decide)) ⟨Nat.zero_le _, Nat.zero_le _⟩ d_Pad_findFault_26) hW hA [1, 2] rfl rfl (ps := [none, some 0, some 1]) (by decide +kernel) ⟨rfl, rfl, rfl, trivial⟩ (fun H locs hW => ?_)
        refine lv_bipush (v := (48 : Int32)) hx hb d_Pad_findFault_29 (by decide) ?_
        refine lv_isub hx hb d_Pad_findFault_31 ?_
        refine lv_istore (lv' := [(7, .int (r_2 - (48 : Int32))), (0, .ref a_t), (1, .int x1), (2, .int x2), (3, .int x3), (4, .int x4), (5, .int x5), (6, .int x6)]) hx hb d_Pad_findFault_32 hl (by decide) rfl (fun ls hl => ?_)
        refine lv_iload_n hx hb d_Pad_findFault_34 rfl (lv_at hl 4 rfl) ?_
        refine lv_iload_n hx hb d_Pad_findFault_35 rfl (lv_at hl 3 rfl) ?_
        refine lv_icmp_ge (tgt := 77) hx hb d_Pad_findFault_36 (by decide) (fun c_3 => ?_) (fun c_3 => ?_)
        · have h := it_e c_3 h
          refine lv_iload_n hx hb d_Pad_findFault_77 rfl (lv_at hl 4 rfl) ?_
          refine lv_iload_n hx hb d_Pad_findFault_78 rfl (lv_at hl 3 rfl) ?_
          refine lv_icmp_ne (tgt := 111) hx hb d_Pad_findFault_79 (by decide) (fun c_4 => ?_) (fun c_4 => ?_)
          · have h := ie_e c_4 h
            refine lv_iload hx hb d_Pad_findFault_111 (lv_at hl 7 rfl) ?_
            cases h
            cases hret _ rfl
            rw [hQ]
            exact x_iret hC hr hW d_Pad_findFault_113
          · have h := it_e c_4 h
            refine lv_aload_n hx hb d_Pad_findFault_82 rfl (lv_at hl 1 rfl) ?_
            refine x_get hC hW 0 rfl fl_Pad_14 rfl d_Pad_findFault_83 ?_
            refine lv_iload hx hb d_Pad_findFault_86 (lv_at hl 7 rfl) ?_
            obtain ⟨r_5, hc_5, h⟩ := bk1_e h
            refine x_ci (ws' := [(a_t, .inr (3, [.ref a_t_signs, .int v_t_size])), (a_t_signs, .inr (5, [.ref a_t_signs_cells])), (a_t_signs_cells, .inl (I, 60, .inl v_t_signs_cells))]) (x_runV (As := [.int x6]) (rest := []) hC hW (c_Row_at l D I J Z a_t_signs a_t_signs_cells 60 v_t_signs_cells x6 (r_5) hc_5) cl_Pad_28 q_code_Row_at [1, 2] rfl (by decide) 1 rfl rfl rfl rfl hl.1 (Nat.le_of_ble_eq_true rfl) (rm_ok hR1 hR2 (by decide) (by decide)) ⟨Nat.zero_le _, Nat.zero_le _⟩ d_Pad_findFault_88) hW hA [1, 2] rfl rfl (ps := [none, some 0, some 1]) (by decide +kernel) ⟨rfl, rfl, rfl, trivial⟩ (fun H locs hW => ?_)
            refine lv_bipush (v := (59 : Int32)) hx hb d_Pad_findFault_91 (by decide) ?_
            refine lv_icmp_ne (tgt := 111) hx hb d_Pad_findFault_93 (by decide) (fun c_6 => ?_) (fun c_6 => ?_)
            · have h := ie_e c_6 h
              refine lv_iload hx hb d_Pad_findFault_111 (lv_at hl 7 rfl) ?_
              cases h
              cases hret _ rfl
              rw [hQ]
              exact x_iret hC hr hW d_Pad_findFault_113
            · have h := it_e c_6 h
              refine lv_iload hx hb d_Pad_findFault_96 (lv_at hl 6 rfl) ?_
              refine lv_bipush (v := (6 : Int32)) hx hb d_Pad_findFault_98 (by decide) ?_
              refine lv_icmp_ge (tgt := 111) hx hb d_Pad_findFault_100 (by decide) (fun c_7 => ?_) (fun c_7 => ?_)
              · have h := it_e c_7 h
                refine lv_iload hx hb d_Pad_findFault_111 (lv_at hl 7 rfl) ?_
                cases h
                cases hret _ rfl
                rw [hQ]
                exact x_iret hC hr hW d_Pad_findFault_113
              · have h := ie_e c_7 h
                refine lv_iconst (v := (0 : Int32)) hx hb d_Pad_findFault_103 (by decide) ?_
                refine lv_istore_n (lv' := [(3, .int (0 : Int32)), (7, .int (r_2 - (48 : Int32))), (0, .ref a_t), (1, .int x1), (2, .int x2), (4, .int x4), (5, .int x5), (6, .int x6)]) hx hb d_Pad_findFault_104 rfl hl (by decide) rfl (fun ls hl => ?_)
                refine lv_iconst (v := (0 : Int32)) hx hb d_Pad_findFault_105 (by decide) ?_
                refine lv_istore (lv' := [(4, .int (0 : Int32)), (3, .int (0 : Int32)), (7, .int (r_2 - (48 : Int32))), (0, .ref a_t), (1, .int x1), (2, .int x2), (5, .int x5), (6, .int x6)]) hx hb d_Pad_findFault_106 hl (by decide) rfl (fun ls hl => ?_)
                refine lv_goto (tgt := 114) hx hb d_Pad_findFault_108 (by decide) ?_
                refine lv_iinc (v := (x6 + (1 : Int32))) (lv' := [(6, .int (x6 + (1 : Int32))), (4, .int (0 : Int32)), (3, .int (0 : Int32)), (7, .int (r_2 - (48 : Int32))), (0, .ref a_t), (1, .int x1), (2, .int x2), (5, .int x5)]) hx hb d_Pad_findFault_114 hl (k := 7) rfl (iinc_e (by decide)) (by decide) rfl (fun ls hl => ?_)
                refine lv_goto (tgt := 11) hx hb d_Pad_findFault_117 (by decide) ?_
                exact ih x1 x2 (0 : Int32) (0 : Int32) x5 (x6 + (1 : Int32)) _ h hret K _ _ hW ls (lv_sub hl [4, 5, 6, 2, 1, 7, 0] rfl)
        · have h := ie_e c_3 h
          refine lv_iload hx hb d_Pad_findFault_39 (lv_at hl 0 rfl) ?_
          refine lv_iload hx hb d_Pad_findFault_41 (lv_at hl 5 rfl) ?_
          refine lv_iconst (v := (1 : Int32)) hx hb d_Pad_findFault_43 (by decide) ?_
          refine lv_iadd hx hb d_Pad_findFault_44 ?_
          refine lv_iload_n hx hb d_Pad_findFault_45 rfl (lv_at hl 2 rfl) ?_
          obtain ⟨r_8, hc_8, h⟩ := bk1_e h
          refine x_ci (ws' := [(a_t, .inr (3, [.ref a_t_signs, .int v_t_size])), (a_t_signs, .inr (5, [.ref a_t_signs_cells])), (a_t_signs_cells, .inl (I, 60, .inl v_t_signs_cells))]) (x_runS (rest := []) hC hW (c_Main_isWithin l D I J Z (r_2 - (48 : Int32)) (x4 + (1 : Int32)) x1 (r_8) hc_8) cl_Pad_32 q_code_Main_isWithin [] rfl (by decide) rfl hl.1 (Nat.le_of_ble_eq_true rfl) (rm_ok hR1 hR2 (by decide) (by decide)) ⟨Nat.zero_le _, Nat.zero_le _⟩ d_Pad_findFault_46) hW hA [] rfl rfl (ps := [none, none, none]) (by decide +kernel) ⟨rfl, rfl, rfl, trivial⟩ (fun H locs hW => ?_)
          refine lv_if_eq (tgt := 77) hx hb d_Pad_findFault_49 (by decide) (fun c_9 => ?_) (fun c_9 => ?_)
          · have h := it_e c_9 h
            refine lv_iload_n hx hb d_Pad_findFault_77 rfl (lv_at hl 4 rfl) ?_
            refine lv_iload_n hx hb d_Pad_findFault_78 rfl (lv_at hl 3 rfl) ?_
            refine lv_icmp_ne (tgt := 111) hx hb d_Pad_findFault_79 (by decide) (fun c_10 => ?_) (fun c_10 => ?_)
            · have h := ie_e c_10 h
              refine lv_iload hx hb d_Pad_findFault_111 (lv_at hl 7 rfl) ?_
              cases h
              cases hret _ rfl
              rw [hQ]
              exact x_iret hC hr hW d_Pad_findFault_113
            · have h := it_e c_10 h
              refine lv_aload_n hx hb d_Pad_findFault_82 rfl (lv_at hl 1 rfl) ?_
              refine x_get hC hW 0 rfl fl_Pad_14 rfl d_Pad_findFault_83 ?_
              refine lv_iload hx hb d_Pad_findFault_86 (lv_at hl 7 rfl) ?_
              obtain ⟨r_11, hc_11, h⟩ := bk1_e h
              refine x_ci (ws' := [(a_t, .inr (3, [.ref a_t_signs, .int v_t_size])), (a_t_signs, .inr (5, [.ref a_t_signs_cells])), (a_t_signs_cells, .inl (I, 60, .inl v_t_signs_cells))]) (x_runV (As := [.int x6]) (rest := []) hC hW (c_Row_at l D I J Z a_t_signs a_t_signs_cells 60 v_t_signs_cells x6 (r_11) hc_11) cl_Pad_28 q_code_Row_at [1, 2] rfl (by decide) 1 rfl rfl rfl rfl hl.1 (Nat.le_of_ble_eq_true rfl) (rm_ok hR1 hR2 (by decide) (by decide)) ⟨Nat.zero_le _, Nat.zero_le _⟩ d_Pad_findFault_88) hW hA [1, 2] rfl rfl (ps := [none, some 0, some 1]) (by decide +kernel) ⟨rfl, rfl, rfl, trivial⟩ (fun H locs hW => ?_)
              refine lv_bipush (v := (59 : Int32)) hx hb d_Pad_findFault_91 (by decide) ?_
              refine lv_icmp_ne (tgt := 111) hx hb d_Pad_findFault_93 (by decide) (fun c_12 => ?_) (fun c_12 => ?_)
              · have h := ie_e c_12 h
                refine lv_iload hx hb d_Pad_findFault_111 (lv_at hl 7 rfl) ?_
                cases h
                cases hret _ rfl
                rw [hQ]
                exact x_iret hC hr hW d_Pad_findFault_113
              · have h := it_e c_12 h
                refine lv_iload hx hb d_Pad_findFault_96 (lv_at hl 6 rfl) ?_
                refine lv_bipush (v := (6 : Int32)) hx hb d_Pad_findFault_98 (by decide) ?_
                refine lv_icmp_ge (tgt := 111) hx hb d_Pad_findFault_100 (by decide) (fun c_13 => ?_) (fun c_13 => ?_)
                · have h := it_e c_13 h
                  refine lv_iload hx hb d_Pad_findFault_111 (lv_at hl 7 rfl) ?_
                  cases h
                  cases hret _ rfl
                  rw [hQ]
                  exact x_iret hC hr hW d_Pad_findFault_113
                · have h := ie_e c_13 h
                  refine lv_iconst (v := (0 : Int32)) hx hb d_Pad_findFault_103 (by decide) ?_
                  refine lv_istore_n (lv' := [(3, .int (0 : Int32)), (7, .int (r_2 - (48 : Int32))), (0, .ref a_t), (1, .int x1), (2, .int x2), (4, .int x4), (5, .int x5), (6, .int x6)]) hx hb d_Pad_findFault_104 rfl hl (by decide) rfl (fun ls hl => ?_)
                  refine lv_iconst (v := (0 : Int32)) hx hb d_Pad_findFault_105 (by decide) ?_
                  refine lv_istore (lv' := [(4, .int (0 : Int32)), (3, .int (0 : Int32)), (7, .int (r_2 - (48 : Int32))), (0, .ref a_t), (1, .int x1), (2, .int x2), (5, .int x5), (6, .int x6)]) hx hb d_Pad_findFault_106 hl (by decide) rfl (fun ls hl => ?_)
                  refine lv_goto (tgt := 114) hx hb d_Pad_findFault_108 (by decide) ?_
                  refine lv_iinc (v := (x6 + (1 : Int32))) (lv' := [(6, .int (x6 + (1 : Int32))), (4, .int (0 : Int32)), (3, .int (0 : Int32)), (7, .int (r_2 - (48 : Int32))), (0, .ref a_t), (1, .int x1), (2, .int x2), (5, .int x5)]) hx hb d_Pad_findFault_114 hl (k := 7) rfl (iinc_e (by decide)) (by decide) rfl (fun ls hl => ?_)
                  refine lv_goto (tgt := 11) hx hb d_Pad_findFault_117 (by decide) ?_
                  exact ih x1 x2 (0 : Int32) (0 : Int32) x5 (x6 + (1 : Int32)) _ h hret K _ _ hW ls (lv_sub hl [4, 5, 6, 2, 1, 7, 0] rfl)
          · have h := ie_e c_9 h
            refine lv_iinc (v := (x3 + (1 : Int32))) (lv' := [(3, .int (x3 + (1 : Int32))), (7, .int (r_2 - (48 : Int32))), (0, .ref a_t), (1, .int x1), (2, .int x2), (4, .int x4), (5, .int x5), (6, .int x6)]) hx hb d_Pad_findFault_52 hl (k := 4) rfl (iinc_e (by decide)) (by decide) rfl (fun ls hl => ?_)
            refine lv_iload hx hb d_Pad_findFault_55 (lv_at hl 1 rfl) ?_
            refine lv_istore (lv' := [(4, .int (r_2 - (48 : Int32))), (3, .int (x3 + (1 : Int32))), (7, .int (r_2 - (48 : Int32))), (0, .ref a_t), (1, .int x1), (2, .int x2), (5, .int x5), (6, .int x6)]) hx hb d_Pad_findFault_57 hl (by decide) rfl (fun ls hl => ?_)
            refine lv_iload hx hb d_Pad_findFault_59 (lv_at hl 6 rfl) ?_
            refine lv_iload_n hx hb d_Pad_findFault_61 rfl (lv_at hl 1 rfl) ?_
            refine lv_iload_n hx hb d_Pad_findFault_62 rfl (lv_at hl 5 rfl) ?_
            refine lv_icmp_ne (tgt := 70) hx hb d_Pad_findFault_63 (by decide) (fun c_14 => ?_) (fun c_14 => ?_)
            · have h := ie_e c_14 h
              refine lv_iconst (v := (0 : Int32)) hx hb d_Pad_findFault_70 (by decide) ?_
              refine lv_iadd hx hb d_Pad_findFault_71 ?_
              refine lv_istore (lv' := [(5, .int (x5 + (0 : Int32))), (4, .int (r_2 - (48 : Int32))), (3, .int (x3 + (1 : Int32))), (7, .int (r_2 - (48 : Int32))), (0, .ref a_t), (1, .int x1), (2, .int x2), (6, .int x6)]) hx hb d_Pad_findFault_72 hl (by decide) rfl (fun ls hl => ?_)
              refine lv_goto (tgt := 114) hx hb d_Pad_findFault_74 (by decide) ?_
              refine lv_iinc (v := (x6 + (1 : Int32))) (lv' := [(6, .int (x6 + (1 : Int32))), (5, .int (x5 + (0 : Int32))), (4, .int (r_2 - (48 : Int32))), (3, .int (x3 + (1 : Int32))), (7, .int (r_2 - (48 : Int32))), (0, .ref a_t), (1, .int x1), (2, .int x2)]) hx hb d_Pad_findFault_114 hl (k := 7) rfl (iinc_e (by decide)) (by decide) rfl (fun ls hl => ?_)
              refine lv_goto (tgt := 11) hx hb d_Pad_findFault_117 (by decide) ?_
              exact ih x1 x2 (x3 + (1 : Int32)) (r_2 - (48 : Int32)) (x5 + (0 : Int32)) (x6 + (1 : Int32)) _ h hret K _ _ hW ls (lv_sub hl [5, 6, 7, 3, 2, 1, 0] rfl)
            · have h := it_e c_14 h
              refine lv_iconst (v := (1 : Int32)) hx hb d_Pad_findFault_66 (by decide) ?_
              refine lv_goto (tgt := 71) hx hb d_Pad_findFault_67 (by decide) ?_
              refine lv_iadd hx hb d_Pad_findFault_71 ?_
              refine lv_istore (lv' := [(5, .int (x5 + (1 : Int32))), (4, .int (r_2 - (48 : Int32))), (3, .int (x3 + (1 : Int32))), (7, .int (r_2 - (48 : Int32))), (0, .ref a_t), (1, .int x1), (2, .int x2), (6, .int x6)]) hx hb d_Pad_findFault_72 hl (by decide) rfl (fun ls hl => ?_)
              refine lv_goto (tgt := 114) hx hb d_Pad_findFault_74 (by decide) ?_
              refine lv_iinc (v := (x6 + (1 : Int32))) (lv' := [(6, .int (x6 + (1 : Int32))), (5, .int (x5 + (1 : Int32))), (4, .int (r_2 - (48 : Int32))), (3, .int (x3 + (1 : Int32))), (7, .int (r_2 - (48 : Int32))), (0, .ref a_t), (1, .int x1), (2, .int x2)]) hx hb d_Pad_findFault_114 hl (k := 7) rfl (iinc_e (by decide)) (by decide) rfl (fun ls hl => ?_)
              refine lv_goto (tgt := 11) hx hb d_Pad_findFault_117 (by decide) ?_
              exact ih x1 x2 (x3 + (1 : Int32)) (r_2 - (48 : Int32)) (x5 + (1 : Int32)) (x6 + (1 : Int32)) _ h hret K _ _ hW ls (lv_sub hl [5, 6, 7, 3, 2, 1, 0] rfl)
  refine lv_iconst (v := (0 : Int32)) hx hb d_Pad_findFault_0 (by decide) ?_
  refine lv_istore_n (lv' := [(3, .int (0 : Int32)), (0, .ref a_t), (1, .int p0), (2, .int p1)]) hx hb d_Pad_findFault_1 rfl hl (by decide) rfl (fun ls hl => ?_)
  refine lv_iconst (v := (0 : Int32)) hx hb d_Pad_findFault_2 (by decide) ?_
  refine lv_istore (lv' := [(4, .int (0 : Int32)), (3, .int (0 : Int32)), (0, .ref a_t), (1, .int p0), (2, .int p1)]) hx hb d_Pad_findFault_3 hl (by decide) rfl (fun ls hl => ?_)
  refine lv_iconst (v := (0 : Int32)) hx hb d_Pad_findFault_5 (by decide) ?_
  refine lv_istore (lv' := [(5, .int (0 : Int32)), (4, .int (0 : Int32)), (3, .int (0 : Int32)), (0, .ref a_t), (1, .int p0), (2, .int p1)]) hx hb d_Pad_findFault_6 hl (by decide) rfl (fun ls hl => ?_)
  refine lv_iconst (v := (0 : Int32)) hx hb d_Pad_findFault_8 (by decide) ?_
  refine lv_istore (lv' := [(6, .int (0 : Int32)), (5, .int (0 : Int32)), (4, .int (0 : Int32)), (3, .int (0 : Int32)), (0, .ref a_t), (1, .int p0), (2, .int p1)]) hx hb d_Pad_findFault_9 hl (by decide) rfl (fun ls hl => ?_)
  obtain ⟨res_15, hv_15, he_15, hk_15⟩ := lm4_e h
  refine lp11 _ p0 p1 (0 : Int32) (0 : Int32) (0 : Int32) (0 : Int32) res_15 hv_15 he_15 (fun yx3_15 yx4_15 yx5_15 yx6_15 hs_15 H locs hW ls hl => ?_) _ _ hW ls (lv_sub hl [4, 5, 6, 3, 2, 1, 0] rfl)
  have h := hk_15 yx3_15 yx4_15 yx5_15 yx6_15 hs_15
  refine lv_aload_n hx hb d_Pad_findFault_120 rfl (lv_at hl 0 rfl) ?_
  refine x_get hC hW 0 rfl fl_Pad_20 rfl d_Pad_findFault_121 ?_
  refine lv_if_eq (tgt := 132) hx hb d_Pad_findFault_124 (by decide) (fun c_16 => ?_) (fun c_16 => ?_)
  · have h := it_e c_16 h
    refine lv_bipush (v := (-6 : Int32)) hx hb d_Pad_findFault_132 (by decide) ?_
    refine lv_goto (tgt := 141) hx hb d_Pad_findFault_134 (by decide) ?_
    cases h
    rw [hQ]
    exact x_iret hC hr hW d_Pad_findFault_141
  · have h := ie_e c_16 h
    refine lv_iload_n hx hb d_Pad_findFault_127 rfl (lv_at hl 3 rfl) ?_
    refine lv_iload_n hx hb d_Pad_findFault_128 rfl (lv_at hl 2 rfl) ?_
    refine lv_icmp_ne (tgt := 137) hx hb d_Pad_findFault_129 (by decide) (fun c_17 => ?_) (fun c_17 => ?_)
    · have h := ie_e c_17 h
      refine lv_aload_n hx hb d_Pad_findFault_137 rfl (lv_at hl 0 rfl) ?_
      refine x_get hC hW 0 rfl fl_Pad_20 rfl d_Pad_findFault_138 ?_
      cases h
      rw [hQ]
      exact x_iret hC hr hW d_Pad_findFault_141
    · have h := it_e c_17 h
      refine lv_bipush (v := (-6 : Int32)) hx hb d_Pad_findFault_132 (by decide) ?_
      refine lv_goto (tgt := 141) hx hb d_Pad_findFault_134 (by decide) ?_
      cases h
      rw [hQ]
      exact x_iret hC hr hW d_Pad_findFault_141

def f_Play_addTicket (v_t_ticketCount : Int32) (v_t_tickets_cells : Nat → Int32) (p0 : Int32) : Option (Int32 × (Nat → Int32)) :=
  bk1 (f_Row_put 6 v_t_tickets_cells v_t_ticketCount p0) fun w_1_0 => some ((v_t_ticketCount + (1 : Int32)), w_1_0)
set_option maxHeartbeats 4000000 in
set_option maxRecDepth 100000 in
theorem c_Play_addTicket (l : Launch) (D : va_G) (I J Z : ClassId) (a_t : Nat) (a_t_tickets : Nat) (a_t_tickets_cells : Nat) (a_t_prizes : Nat) (a_t_sightTickets : Nat) (a_t_sightNumbers : Nat) (a_t_sightKinds : Nat)  (v_t_n : Int32) (v_t_t : Int32) (v_t_d : Int32) (v_t_r : Int32) (v_t_fond : Int32) (v_t_ticketCount : Int32) (v_t_sightCount : Int32) (v_t_tickets_cells : Nat → Int32) (p0 : Int32) (out : (Int32 × (Nat → Int32))) (h : f_Play_addTicket v_t_ticketCount v_t_tickets_cells p0 = some out) : CT l D I J Z y_Play_addTicket b_Play_addTicket 2 none 2 [.ref a_t, .int p0] [(a_t, .inr (4, [.int v_t_n, .int v_t_t, .int v_t_d, .int v_t_r, .int v_t_fond, .int v_t_ticketCount, .ref a_t_tickets, .ref a_t_prizes, .int v_t_sightCount, .ref a_t_sightTickets, .ref a_t_sightNumbers, .ref a_t_sightKinds])), (a_t_tickets, .inr (5, [.ref a_t_tickets_cells])), (a_t_tickets_cells, .inl (I, 6, .inl v_t_tickets_cells))] (PoV D [(a_t, .inr (4, [.int v_t_n, .int v_t_t, .int v_t_d, .int v_t_r, .int v_t_fond, .int out.1, .ref a_t_tickets, .ref a_t_prizes, .int v_t_sightCount, .ref a_t_sightTickets, .ref a_t_sightNumbers, .ref a_t_sightKinds])), (a_t_tickets, .inr (5, [.ref a_t_tickets_cells])), (a_t_tickets_cells, .inl (I, 6, .inl out.2))]) := by
  unfold f_Play_addTicket at h
  refine CT_of R_Play (by decide +kernel) rfl (Nat.le_of_ble_eq_true rfl) ?_
  intro p e R s m args below meth c A ls Q hR1 hR2 hQ hC hr hW hA hl
  have hx := hC.1
  have hb := hC.2.1
  have hl : lv_has ls 2 [(0, .ref a_t), (1, .int p0)] := hl
  refine lv_aload_n hx hb d_Play_addTicket_0 rfl (lv_at hl 0 rfl) ?_
  refine x_get hC hW 0 rfl fl_Play_14 rfl d_Play_addTicket_1 ?_
  refine lv_aload_n hx hb d_Play_addTicket_4 rfl (lv_at hl 0 rfl) ?_
  refine x_get hC hW 0 rfl fl_Play_55 rfl d_Play_addTicket_5 ?_
  refine lv_iload_n hx hb d_Play_addTicket_8 rfl (lv_at hl 1 rfl) ?_
  obtain ⟨w_1_0, hc_1, h⟩ := bk1_e h
  refine x_cv (ws' := [(a_t, .inr (4, [.int v_t_n, .int v_t_t, .int v_t_d, .int v_t_r, .int v_t_fond, .int v_t_ticketCount, .ref a_t_tickets, .ref a_t_prizes, .int v_t_sightCount, .ref a_t_sightTickets, .ref a_t_sightNumbers, .ref a_t_sightKinds])), (a_t_tickets, .inr (5, [.ref a_t_tickets_cells])), (a_t_tickets_cells, .inl (I, 6, .inl w_1_0))]) (x_runV (As := [.int v_t_ticketCount, .int p0]) (rest := []) hC hW (c_Row_put l D I J Z a_t_tickets a_t_tickets_cells 6 v_t_tickets_cells v_t_ticketCount p0 (w_1_0) hc_1) cl_Play_61 q_code_Row_put [1, 2] rfl (by decide) 1 rfl rfl rfl rfl hl.1 (Nat.le_of_ble_eq_true rfl) (rm_ok hR1 hR2 (by decide) (by decide)) ⟨Nat.zero_le _, Nat.zero_le _⟩ d_Play_addTicket_9) hW hA [1, 2] rfl rfl (ps := [none, some 0, some 1]) (by decide +kernel) ⟨rfl, rfl, rfl, trivial⟩ (fun H locs hW => ?_)
  refine lv_aload_n hx hb d_Play_addTicket_12 rfl (lv_at hl 0 rfl) ?_
  refine lv_dup hx hb d_Play_addTicket_13 rfl ?_
  refine x_get hC hW 0 rfl fl_Play_55 rfl d_Play_addTicket_14 ?_
  refine lv_iconst (v := (1 : Int32)) hx hb d_Play_addTicket_17 (by decide) ?_
  refine lv_iadd hx hb d_Play_addTicket_18 ?_
  refine x_put (ws' := [(a_t, .inr (4, [.int v_t_n, .int v_t_t, .int v_t_d, .int v_t_r, .int v_t_fond, .int (v_t_ticketCount + (1 : Int32)), .ref a_t_tickets, .ref a_t_prizes, .int v_t_sightCount, .ref a_t_sightTickets, .ref a_t_sightNumbers, .ref a_t_sightKinds])), (a_t_tickets, .inr (5, [.ref a_t_tickets_cells])), (a_t_tickets_cells, .inl (I, 6, .inl w_1_0))]) hC hW 0 rfl fp_Play_55 rfl rfl (Nat.le_of_ble_eq_true rfl) d_Play_addTicket_19 rfl (fun H locs hW => ?_)
  cases h
  rw [hQ]
  exact x_vret hC hr hW d_Play_addTicket_22

def L_Pad_moveTo_8 (v_t_size : Int32) (v_t_signs_cells : Nat → Int32) : Nat → Int32 → Int32 → Int32 → (Nat → Int32) → Option (Int32 × Int32 × Int32 × (Nat → Int32))
  | 0, _, _, _, _ => none
  | n + 1, x2, x3, v_p0_ticketCount, v_p0_tickets_cells => if v_t_size ≤ x3 then some (x2, x3, v_p0_ticketCount, v_p0_tickets_cells) else bk1 (f_Row_at 60 v_t_signs_cells x3) fun r_3 => if r_3 = (59 : Int32) then bk2 (f_Play_addTicket v_p0_ticketCount v_p0_tickets_cells x2) fun w_6_0 w_6_1 => L_Pad_moveTo_8 v_t_size v_t_signs_cells n (0 : Int32) (x3 + (1 : Int32)) w_6_0 w_6_1 else bk1 (f_Row_at 60 v_t_signs_cells x3) fun r_5 => L_Pad_moveTo_8 v_t_size v_t_signs_cells n (x2 ||| ((1 : Int32) <<< ((r_5 - (49 : Int32)) &&& 31))) (x3 + (1 : Int32)) v_p0_ticketCount v_p0_tickets_cells
def f_Pad_moveTo (v_p0_tickets_cells : Nat → Int32) (v_t_size : Int32) (v_t_signs_cells : Nat → Int32) : Option (Int32 × Int32 × (Nat → Int32) × Int32) :=
  bk2 (f_Play_dropTickets ) fun w_1_0 w_1_1 => bk4 (L_Pad_moveTo_8 v_t_size v_t_signs_cells 300 (0 : Int32) (0 : Int32) w_1_1 v_p0_tickets_cells) fun yx2_7 yx3_7 y_p0_ticketCount_7 y_p0_tickets_cells_7 => if v_t_size ≤ (0 : Int32) then bk1 (f_Pad_clear ) fun w_9_0 => some (w_1_0, y_p0_ticketCount_7, y_p0_tickets_cells_7, w_9_0) else bk2 (f_Play_addTicket y_p0_ticketCount_7 y_p0_tickets_cells_7 yx2_7) fun w_10_0 w_10_1 => bk1 (f_Pad_clear ) fun w_11_0 => some (w_1_0, w_10_0, w_10_1, w_11_0)
set_option maxHeartbeats 4000000 in
set_option maxRecDepth 100000 in
theorem c_Pad_moveTo (l : Launch) (D : va_G) (I J Z : ClassId) (a_p0 : Nat) (a_p0_tickets : Nat) (a_p0_tickets_cells : Nat) (a_t : Nat) (a_t_signs : Nat) (a_t_signs_cells : Nat) (a_p0_prizes : Nat) (a_p0_sightTickets : Nat) (a_p0_sightNumbers : Nat) (a_p0_sightKinds : Nat)  (v_p0_n : Int32) (v_p0_t : Int32) (v_p0_d : Int32) (v_p0_r : Int32) (v_p0_fond : Int32) (v_p0_ticketCount : Int32) (v_p0_sightCount : Int32) (v_p0_tickets_cells : Nat → Int32) (v_t_size : Int32) (v_t_signs_cells : Nat → Int32)  (out : (Int32 × Int32 × (Nat → Int32) × Int32)) (h : f_Pad_moveTo v_p0_tickets_cells v_t_size v_t_signs_cells = some out) : CT l D I J Z y_Pad_moveTo b_Pad_moveTo 4 none 3 [.ref a_t, .ref a_p0] [(a_p0, .inr (4, [.int v_p0_n, .int v_p0_t, .int v_p0_d, .int v_p0_r, .int v_p0_fond, .int v_p0_ticketCount, .ref a_p0_tickets, .ref a_p0_prizes, .int v_p0_sightCount, .ref a_p0_sightTickets, .ref a_p0_sightNumbers, .ref a_p0_sightKinds])), (a_p0_tickets, .inr (5, [.ref a_p0_tickets_cells])), (a_p0_tickets_cells, .inl (I, 6, .inl v_p0_tickets_cells)), (a_t, .inr (3, [.ref a_t_signs, .int v_t_size])), (a_t_signs, .inr (5, [.ref a_t_signs_cells])), (a_t_signs_cells, .inl (I, 60, .inl v_t_signs_cells))] (PoV D [(a_p0, .inr (4, [.int v_p0_n, .int v_p0_t, .int v_p0_d, .int v_p0_r, .int v_p0_fond, .int out.2.1, .ref a_p0_tickets, .ref a_p0_prizes, .int out.1, .ref a_p0_sightTickets, .ref a_p0_sightNumbers, .ref a_p0_sightKinds])), (a_p0_tickets, .inr (5, [.ref a_p0_tickets_cells])), (a_p0_tickets_cells, .inl (I, 6, .inl out.2.2.1)), (a_t, .inr (3, [.ref a_t_signs, .int out.2.2.2])), (a_t_signs, .inr (5, [.ref a_t_signs_cells])), (a_t_signs_cells, .inl (I, 60, .inl v_t_signs_cells))]) := by
  unfold f_Pad_moveTo at h
  refine CT_of R_Pad (by decide +kernel) rfl (Nat.le_of_ble_eq_true rfl) ?_
  intro p e R s m args below meth c A ls Q hR1 hR2 hQ hC hr hW hA hl
  have hx := hC.1
  have hb := hC.2.1
  have hl : lv_has ls 4 [(0, .ref a_t), (1, .ref a_p0)] := hl
  have lp8 : ∀ (n : Nat) (x2 : Int32) (x3 : Int32) (v_p0_sightCount : Int32) (v_p0_ticketCount : Int32) (v_p0_tickets_cells : Nat → Int32) (v_t_size : Int32) (yx2 : Int32) (yx3 : Int32) (y_p0_ticketCount : Int32) (y_p0_tickets_cells : Nat → Int32), L_Pad_moveTo_8 v_t_size v_t_signs_cells n x2 x3 v_p0_ticketCount v_p0_tickets_cells = some (yx2, yx3, y_p0_ticketCount, y_p0_tickets_cells) →
    (∀ H locs, Wd D A s.heap [(a_p0, .inr (4, [.int v_p0_n, .int v_p0_t, .int v_p0_d, .int v_p0_r, .int v_p0_fond, .int y_p0_ticketCount, .ref a_p0_tickets, .ref a_p0_prizes, .int v_p0_sightCount, .ref a_p0_sightTickets, .ref a_p0_sightNumbers, .ref a_p0_sightKinds])), (a_p0_tickets, .inr (5, [.ref a_p0_tickets_cells])), (a_p0_tickets_cells, .inl (I, 6, .inl y_p0_tickets_cells)), (a_t, .inr (3, [.ref a_t_signs, .int v_t_size])), (a_t_signs, .inr (5, [.ref a_t_signs_cells])), (a_t_signs_cells, .inl (I, 60, .inl v_t_signs_cells))] H locs → ∀ ls, lv_has ls 4 [(0, .ref a_t), (1, .ref a_p0), (2, .int yx2), (3, .int yx3)] → W p l e R s m args below meth c H locs 0 0 Q (F0 m 61 ls [])) →
    ∀ H locs, Wd D A s.heap [(a_p0, .inr (4, [.int v_p0_n, .int v_p0_t, .int v_p0_d, .int v_p0_r, .int v_p0_fond, .int v_p0_ticketCount, .ref a_p0_tickets, .ref a_p0_prizes, .int v_p0_sightCount, .ref a_p0_sightTickets, .ref a_p0_sightNumbers, .ref a_p0_sightKinds])), (a_p0_tickets, .inr (5, [.ref a_p0_tickets_cells])), (a_p0_tickets_cells, .inl (I, 6, .inl v_p0_tickets_cells)), (a_t, .inr (3, [.ref a_t_signs, .int v_t_size])), (a_t_signs, .inr (5, [.ref a_t_signs_cells])), (a_t_signs_cells, .inl (I, 60, .inl v_t_signs_cells))] H locs → ∀ ls, lv_has ls 4 [(0, .ref a_t), (1, .ref a_p0), (2, .int x2), (3, .int x3)] → W p l e R s m args below meth c H locs 0 0 Q (F0 m 8 ls []) := by
    intro n
    induction n with
    | zero =>
      intro x2 x3 v_p0_sightCount v_p0_ticketCount v_p0_tickets_cells v_t_size yx2 yx3 y_p0_ticketCount y_p0_tickets_cells h
      exact no_e h
    | succ n ih =>
      intro x2 x3 v_p0_sightCount v_p0_ticketCount v_p0_tickets_cells v_t_size yx2 yx3 y_p0_ticketCount y_p0_tickets_cells h K H locs hW ls hl
      rw [L_Pad_moveTo_8] at h
      refine lv_iload_n hx hb d_Pad_moveTo_8 rfl (lv_at hl 3 rfl) ?_
      refine lv_aload_n hx hb d_Pad_moveTo_9 rfl (lv_at hl 0 rfl) ?_
      refine x_get hC hW 3 rfl fl_Pad_20 rfl d_Pad_moveTo_10 ?_
      refine lv_icmp_ge (tgt := 61) hx hb d_Pad_moveTo_13 (by decide) (fun c_2 => ?_) (fun c_2 => ?_)
      · have h := it_e c_2 h
        cases h
        exact K _ _ hW ls (lv_sub hl [0, 1, 2, 3] rfl)
      · have h := ie_e c_2 h
        refine lv_aload_n hx hb d_Pad_moveTo_16 rfl (lv_at hl 0 rfl) ?_
        refine x_get hC hW 3 rfl fl_Pad_14 rfl d_Pad_moveTo_17 ?_
        refine lv_iload_n hx hb d_Pad_moveTo_20 rfl (lv_at hl 3 rfl) ?_
        obtain ⟨r_3, hc_3, h⟩ := bk1_e h
        refine x_ci (ws' := [(a_p0, .inr (4, [.int v_p0_n, .int v_p0_t, .int v_p0_d, .int v_p0_r, .int v_p0_fond, .int v_p0_ticketCount, .ref a_p0_tickets, .ref a_p0_prizes, .int v_p0_sightCount, .ref a_p0_sightTickets, .ref a_p0_sightNumbers, .ref a_p0_sightKinds])), (a_p0_tickets, .inr (5, [.ref a_p0_tickets_cells])), (a_p0_tickets_cells, .inl (I, 6, .inl v_p0_tickets_cells)), (a_t, .inr (3, [.ref a_t_signs, .int v_t_size])), (a_t_signs, .inr (5, [.ref a_t_signs_cells])), (a_t_signs_cells, .inl (I, 60, .inl v_t_signs_cells))]) (x_runV (As := [.int x3]) (rest := []) hC hW (c_Row_at l D I J Z a_t_signs a_t_signs_cells 60 v_t_signs_cells x3 (r_3) hc_3) cl_Pad_28 q_code_Row_at [4, 5] rfl (by decide) 4 rfl rfl rfl rfl hl.1 (Nat.le_of_ble_eq_true rfl) (rm_ok hR1 hR2 (by decide) (by decide)) ⟨Nat.zero_le _, Nat.zero_le _⟩ d_Pad_moveTo_21) hW hA [4, 5] rfl rfl (ps := [none, none, none, none, some 0, some 1]) (by decide +kernel) ⟨rfl, rfl, rfl, rfl, rfl, rfl, trivial⟩ (fun H locs hW => ?_)
        refine lv_bipush (v := (59 : Int32)) hx hb d_Pad_moveTo_24 (by decide) ?_
        refine lv_icmp_ne (tgt := 39) hx hb d_Pad_moveTo_26 (by decide) (fun c_4 => ?_) (fun c_4 => ?_)
        · have h := ie_e c_4 h
          refine lv_iload_n hx hb d_Pad_moveTo_39 rfl (lv_at hl 2 rfl) ?_
          refine lv_iconst (v := (1 : Int32)) hx hb d_Pad_moveTo_40 (by decide) ?_
          refine lv_aload_n hx hb d_Pad_moveTo_41 rfl (lv_at hl 0 rfl) ?_
          refine x_get hC hW 3 rfl fl_Pad_14 rfl d_Pad_moveTo_42 ?_
          refine lv_iload_n hx hb d_Pad_moveTo_45 rfl (lv_at hl 3 rfl) ?_
          obtain ⟨r_5, hc_5, h⟩ := bk1_e h
          refine x_ci (ws' := [(a_p0, .inr (4, [.int v_p0_n, .int v_p0_t, .int v_p0_d, .int v_p0_r, .int v_p0_fond, .int v_p0_ticketCount, .ref a_p0_tickets, .ref a_p0_prizes, .int v_p0_sightCount, .ref a_p0_sightTickets, .ref a_p0_sightNumbers, .ref a_p0_sightKinds])), (a_p0_tickets, .inr (5, [.ref a_p0_tickets_cells])), (a_p0_tickets_cells, .inl (I, 6, .inl v_p0_tickets_cells)), (a_t, .inr (3, [.ref a_t_signs, .int v_t_size])), (a_t_signs, .inr (5, [.ref a_t_signs_cells])), (a_t_signs_cells, .inl (I, 60, .inl v_t_signs_cells))]) (x_runV (As := [.int x3]) (rest := [.int (1 : Int32), .int x2]) hC hW (c_Row_at l D I J Z a_t_signs a_t_signs_cells 60 v_t_signs_cells x3 (r_5) hc_5) cl_Pad_28 q_code_Row_at [4, 5] rfl (by decide) 4 rfl rfl rfl rfl hl.1 (Nat.le_of_ble_eq_true rfl) (rm_ok hR1 hR2 (by decide) (by decide)) ⟨Nat.zero_le _, Nat.zero_le _⟩ d_Pad_moveTo_46) hW hA [4, 5] rfl rfl (ps := [none, none, none, none, some 0, some 1]) (by decide +kernel) ⟨rfl, rfl, rfl, rfl, rfl, rfl, trivial⟩ (fun H locs hW => ?_)
          refine lv_bipush (v := (49 : Int32)) hx hb d_Pad_moveTo_49 (by decide) ?_
          refine lv_isub hx hb d_Pad_moveTo_51 ?_
          refine lv_ishl hx hb d_Pad_moveTo_52 ?_
          refine lv_ior hx hb d_Pad_moveTo_53 ?_
          refine lv_istore_n (lv' := [(2, .int (x2 ||| ((1 : Int32) <<< ((r_5 - (49 : Int32)) &&& 31)))), (0, .ref a_t), (1, .ref a_p0), (3, .int x3)]) hx hb d_Pad_moveTo_54 rfl hl (by decide) rfl (fun ls hl => ?_)
          refine lv_iinc (v := (x3 + (1 : Int32))) (lv' := [(3, .int (x3 + (1 : Int32))), (2, .int (x2 ||| ((1 : Int32) <<< ((r_5 - (49 : Int32)) &&& 31)))), (0, .ref a_t), (1, .ref a_p0)]) hx hb d_Pad_moveTo_55 hl (k := 3) rfl (iinc_e (by decide)) (by decide) rfl (fun ls hl => ?_)
          refine lv_goto (tgt := 8) hx hb d_Pad_moveTo_58 (by decide) ?_
          exact ih (x2 ||| ((1 : Int32) <<< ((r_5 - (49 : Int32)) &&& 31))) (x3 + (1 : Int32)) v_p0_sightCount v_p0_ticketCount v_p0_tickets_cells v_t_size _ _ _ _ h K _ _ hW ls (lv_sub hl [2, 3, 1, 0] rfl)
        · have h := it_e c_4 h
          refine lv_aload_n hx hb d_Pad_moveTo_29 rfl (lv_at hl 1 rfl) ?_
          refine lv_iload_n hx hb d_Pad_moveTo_30 rfl (lv_at hl 2 rfl) ?_
          obtain ⟨w_6_0, w_6_1, hc_6, h⟩ := bk2_e h
          refine x_cv (ws' := [(a_p0, .inr (4, [.int v_p0_n, .int v_p0_t, .int v_p0_d, .int v_p0_r, .int v_p0_fond, .int w_6_0, .ref a_p0_tickets, .ref a_p0_prizes, .int v_p0_sightCount, .ref a_p0_sightTickets, .ref a_p0_sightNumbers, .ref a_p0_sightKinds])), (a_p0_tickets, .inr (5, [.ref a_p0_tickets_cells])), (a_p0_tickets_cells, .inl (I, 6, .inl w_6_1)), (a_t, .inr (3, [.ref a_t_signs, .int v_t_size])), (a_t_signs, .inr (5, [.ref a_t_signs_cells])), (a_t_signs_cells, .inl (I, 60, .inl v_t_signs_cells))]) (x_runV (As := [.int x2]) (rest := []) hC hW (c_Play_addTicket l D I J Z a_p0 a_p0_tickets a_p0_tickets_cells a_p0_prizes a_p0_sightTickets a_p0_sightNumbers a_p0_sightKinds v_p0_n v_p0_t v_p0_d v_p0_r v_p0_fond v_p0_ticketCount v_p0_sightCount v_p0_tickets_cells x2 (w_6_0, w_6_1) hc_6) cl_Pad_41 q_code_Play_addTicket [0, 1, 2] rfl (by decide) 0 rfl rfl rfl rfl hl.1 (Nat.le_of_ble_eq_true rfl) (rm_ok hR1 hR2 (by decide) (by decide)) ⟨Nat.zero_le _, Nat.zero_le _⟩ d_Pad_moveTo_31) hW hA [0, 1, 2] rfl rfl (ps := [some 0, some 1, some 2, none, none, none]) (by decide +kernel) ⟨rfl, rfl, rfl, rfl, rfl, rfl, trivial⟩ (fun H locs hW => ?_)
          refine lv_iconst (v := (0 : Int32)) hx hb d_Pad_moveTo_34 (by decide) ?_
          refine lv_istore_n (lv' := [(2, .int (0 : Int32)), (0, .ref a_t), (1, .ref a_p0), (3, .int x3)]) hx hb d_Pad_moveTo_35 rfl hl (by decide) rfl (fun ls hl => ?_)
          refine lv_goto (tgt := 55) hx hb d_Pad_moveTo_36 (by decide) ?_
          refine lv_iinc (v := (x3 + (1 : Int32))) (lv' := [(3, .int (x3 + (1 : Int32))), (2, .int (0 : Int32)), (0, .ref a_t), (1, .ref a_p0)]) hx hb d_Pad_moveTo_55 hl (k := 3) rfl (iinc_e (by decide)) (by decide) rfl (fun ls hl => ?_)
          refine lv_goto (tgt := 8) hx hb d_Pad_moveTo_58 (by decide) ?_
          exact ih (0 : Int32) (x3 + (1 : Int32)) v_p0_sightCount w_6_0 w_6_1 v_t_size _ _ _ _ h K _ _ hW ls (lv_sub hl [2, 3, 1, 0] rfl)
  refine lv_aload_n hx hb d_Pad_moveTo_0 rfl (lv_at hl 1 rfl) ?_
  obtain ⟨w_1_0, w_1_1, hc_1, h⟩ := bk2_e h
  refine x_cv (ws' := [(a_p0, .inr (4, [.int v_p0_n, .int v_p0_t, .int v_p0_d, .int v_p0_r, .int v_p0_fond, .int w_1_1, .ref a_p0_tickets, .ref a_p0_prizes, .int w_1_0, .ref a_p0_sightTickets, .ref a_p0_sightNumbers, .ref a_p0_sightKinds])), (a_p0_tickets, .inr (5, [.ref a_p0_tickets_cells])), (a_p0_tickets_cells, .inl (I, 6, .inl v_p0_tickets_cells)), (a_t, .inr (3, [.ref a_t_signs, .int v_t_size])), (a_t_signs, .inr (5, [.ref a_t_signs_cells])), (a_t_signs_cells, .inl (I, 60, .inl v_t_signs_cells))]) (x_runV (As := []) (rest := []) hC hW (c_Play_dropTickets l D I J Z a_p0 a_p0_tickets a_p0_prizes a_p0_sightTickets a_p0_sightNumbers a_p0_sightKinds v_p0_n v_p0_t v_p0_d v_p0_r v_p0_fond v_p0_ticketCount v_p0_sightCount (w_1_0, w_1_1) hc_1) cl_Pad_36 q_code_Play_dropTickets [0] rfl (by decide) 0 rfl rfl rfl rfl hl.1 (Nat.le_of_ble_eq_true rfl) (rm_ok hR1 hR2 (by decide) (by decide)) ⟨Nat.zero_le _, Nat.zero_le _⟩ d_Pad_moveTo_1) hW hA [0] rfl rfl (ps := [some 0, none, none, none, none, none]) (by decide +kernel) ⟨rfl, rfl, rfl, rfl, rfl, rfl, trivial⟩ (fun H locs hW => ?_)
  refine lv_iconst (v := (0 : Int32)) hx hb d_Pad_moveTo_4 (by decide) ?_
  refine lv_istore_n (lv' := [(2, .int (0 : Int32)), (0, .ref a_t), (1, .ref a_p0)]) hx hb d_Pad_moveTo_5 rfl hl (by decide) rfl (fun ls hl => ?_)
  refine lv_iconst (v := (0 : Int32)) hx hb d_Pad_moveTo_6 (by decide) ?_
  refine lv_istore_n (lv' := [(3, .int (0 : Int32)), (2, .int (0 : Int32)), (0, .ref a_t), (1, .ref a_p0)]) hx hb d_Pad_moveTo_7 rfl hl (by decide) rfl (fun ls hl => ?_)
  obtain ⟨yx2_7, yx3_7, y_p0_ticketCount_7, y_p0_tickets_cells_7, hv_7, h⟩ := bk4_e h
  refine lp8 _ (0 : Int32) (0 : Int32) w_1_0 w_1_1 v_p0_tickets_cells v_t_size yx2_7 yx3_7 y_p0_ticketCount_7 y_p0_tickets_cells_7 hv_7 (fun H locs hW ls hl => ?_) _ _ hW ls (lv_sub hl [2, 3, 1, 0] rfl)
  refine lv_aload_n hx hb d_Pad_moveTo_61 rfl (lv_at hl 0 rfl) ?_
  refine x_get hC hW 3 rfl fl_Pad_20 rfl d_Pad_moveTo_62 ?_
  refine lv_if_le (tgt := 73) hx hb d_Pad_moveTo_65 (by decide) (fun c_8 => ?_) (fun c_8 => ?_)
  · have h := it_e c_8 h
    refine lv_aload_n hx hb d_Pad_moveTo_73 rfl (lv_at hl 0 rfl) ?_
    obtain ⟨w_9_0, hc_9, h⟩ := bk1_e h
    refine x_cv (ws' := [(a_p0, .inr (4, [.int v_p0_n, .int v_p0_t, .int v_p0_d, .int v_p0_r, .int v_p0_fond, .int y_p0_ticketCount_7, .ref a_p0_tickets, .ref a_p0_prizes, .int w_1_0, .ref a_p0_sightTickets, .ref a_p0_sightNumbers, .ref a_p0_sightKinds])), (a_p0_tickets, .inr (5, [.ref a_p0_tickets_cells])), (a_p0_tickets_cells, .inl (I, 6, .inl y_p0_tickets_cells_7)), (a_t, .inr (3, [.ref a_t_signs, .int w_9_0])), (a_t_signs, .inr (5, [.ref a_t_signs_cells])), (a_t_signs_cells, .inl (I, 60, .inl v_t_signs_cells))]) (x_runV (As := []) (rest := []) hC hW (c_Pad_clear l D I J Z a_t a_t_signs v_t_size (w_9_0) hc_9) cl_Pad_44 q_code_Pad_clear [3] rfl (by decide) 3 rfl rfl rfl rfl hl.1 (Nat.le_of_ble_eq_true rfl) (rm_ok hR1 hR2 (by decide) (by decide)) ⟨Nat.zero_le _, Nat.zero_le _⟩ d_Pad_moveTo_74) hW hA [3] rfl rfl (ps := [none, none, none, some 0, none, none]) (by decide +kernel) ⟨rfl, rfl, rfl, rfl, rfl, rfl, trivial⟩ (fun H locs hW => ?_)
    cases h
    rw [hQ]
    exact x_vret hC hr hW d_Pad_moveTo_77
  · have h := ie_e c_8 h
    refine lv_aload_n hx hb d_Pad_moveTo_68 rfl (lv_at hl 1 rfl) ?_
    refine lv_iload_n hx hb d_Pad_moveTo_69 rfl (lv_at hl 2 rfl) ?_
    obtain ⟨w_10_0, w_10_1, hc_10, h⟩ := bk2_e h
    refine x_cv (ws' := [(a_p0, .inr (4, [.int v_p0_n, .int v_p0_t, .int v_p0_d, .int v_p0_r, .int v_p0_fond, .int w_10_0, .ref a_p0_tickets, .ref a_p0_prizes, .int w_1_0, .ref a_p0_sightTickets, .ref a_p0_sightNumbers, .ref a_p0_sightKinds])), (a_p0_tickets, .inr (5, [.ref a_p0_tickets_cells])), (a_p0_tickets_cells, .inl (I, 6, .inl w_10_1)), (a_t, .inr (3, [.ref a_t_signs, .int v_t_size])), (a_t_signs, .inr (5, [.ref a_t_signs_cells])), (a_t_signs_cells, .inl (I, 60, .inl v_t_signs_cells))]) (x_runV (As := [.int yx2_7]) (rest := []) hC hW (c_Play_addTicket l D I J Z a_p0 a_p0_tickets a_p0_tickets_cells a_p0_prizes a_p0_sightTickets a_p0_sightNumbers a_p0_sightKinds v_p0_n v_p0_t v_p0_d v_p0_r v_p0_fond y_p0_ticketCount_7 w_1_0 y_p0_tickets_cells_7 yx2_7 (w_10_0, w_10_1) hc_10) cl_Pad_41 q_code_Play_addTicket [0, 1, 2] rfl (by decide) 0 rfl rfl rfl rfl hl.1 (Nat.le_of_ble_eq_true rfl) (rm_ok hR1 hR2 (by decide) (by decide)) ⟨Nat.zero_le _, Nat.zero_le _⟩ d_Pad_moveTo_70) hW hA [0, 1, 2] rfl rfl (ps := [some 0, some 1, some 2, none, none, none]) (by decide +kernel) ⟨rfl, rfl, rfl, rfl, rfl, rfl, trivial⟩ (fun H locs hW => ?_)
    refine lv_aload_n hx hb d_Pad_moveTo_73 rfl (lv_at hl 0 rfl) ?_
    obtain ⟨w_11_0, hc_11, h⟩ := bk1_e h
    refine x_cv (ws' := [(a_p0, .inr (4, [.int v_p0_n, .int v_p0_t, .int v_p0_d, .int v_p0_r, .int v_p0_fond, .int w_10_0, .ref a_p0_tickets, .ref a_p0_prizes, .int w_1_0, .ref a_p0_sightTickets, .ref a_p0_sightNumbers, .ref a_p0_sightKinds])), (a_p0_tickets, .inr (5, [.ref a_p0_tickets_cells])), (a_p0_tickets_cells, .inl (I, 6, .inl w_10_1)), (a_t, .inr (3, [.ref a_t_signs, .int w_11_0])), (a_t_signs, .inr (5, [.ref a_t_signs_cells])), (a_t_signs_cells, .inl (I, 60, .inl v_t_signs_cells))]) (x_runV (As := []) (rest := []) hC hW (c_Pad_clear l D I J Z a_t a_t_signs v_t_size (w_11_0) hc_11) cl_Pad_44 q_code_Pad_clear [3] rfl (by decide) 3 rfl rfl rfl rfl hl.1 (Nat.le_of_ble_eq_true rfl) (rm_ok hR1 hR2 (by decide) (by decide)) ⟨Nat.zero_le _, Nat.zero_le _⟩ d_Pad_moveTo_74) hW hA [3] rfl rfl (ps := [none, none, none, some 0, none, none]) (by decide +kernel) ⟨rfl, rfl, rfl, rfl, rfl, rfl, trivial⟩ (fun H locs hW => ?_)
    cases h
    rw [hQ]
    exact x_vret hC hr hW d_Pad_moveTo_77

def f_Play_hasTicket (v_t_ticketCount : Int32) (p0 : Int32) : Option (Int32) :=
  bk1 (f_Main_isWithin p0 (0 : Int32) (v_t_ticketCount - (1 : Int32))) fun r_1 => bz r_1 (some (r_1))
set_option maxHeartbeats 4000000 in
set_option maxRecDepth 100000 in
theorem c_Play_hasTicket (l : Launch) (D : va_G) (I J Z : ClassId) (a_t : Nat) (a_t_tickets : Nat) (a_t_prizes : Nat) (a_t_sightTickets : Nat) (a_t_sightNumbers : Nat) (a_t_sightKinds : Nat)  (v_t_n : Int32) (v_t_t : Int32) (v_t_d : Int32) (v_t_r : Int32) (v_t_fond : Int32) (v_t_ticketCount : Int32) (v_t_sightCount : Int32) (p0 : Int32) (out : (Int32)) (h : f_Play_hasTicket v_t_ticketCount p0 = some out) : CT l D I J Z y_Play_hasTicket b_Play_hasTicket 2 (some .boolean) 2 [.ref a_t, .int p0] [(a_t, .inr (4, [.int v_t_n, .int v_t_t, .int v_t_d, .int v_t_r, .int v_t_fond, .int v_t_ticketCount, .ref a_t_tickets, .ref a_t_prizes, .int v_t_sightCount, .ref a_t_sightTickets, .ref a_t_sightNumbers, .ref a_t_sightKinds]))] (PoI out D [(a_t, .inr (4, [.int v_t_n, .int v_t_t, .int v_t_d, .int v_t_r, .int v_t_fond, .int v_t_ticketCount, .ref a_t_tickets, .ref a_t_prizes, .int v_t_sightCount, .ref a_t_sightTickets, .ref a_t_sightNumbers, .ref a_t_sightKinds]))]) := by
  unfold f_Play_hasTicket at h
  refine CT_of R_Play (by decide +kernel) rfl (Nat.le_of_ble_eq_true rfl) ?_
  intro p e R s m args below meth c A ls Q hR1 hR2 hQ hC hr hW hA hl
  have hx := hC.1
  have hb := hC.2.1
  have hl : lv_has ls 2 [(0, .ref a_t), (1, .int p0)] := hl
  refine lv_iload_n hx hb d_Play_hasTicket_0 rfl (lv_at hl 1 rfl) ?_
  refine lv_iconst (v := (0 : Int32)) hx hb d_Play_hasTicket_1 (by decide) ?_
  refine lv_aload_n hx hb d_Play_hasTicket_2 rfl (lv_at hl 0 rfl) ?_
  refine x_get hC hW 0 rfl fl_Play_55 rfl d_Play_hasTicket_3 ?_
  refine lv_iconst (v := (1 : Int32)) hx hb d_Play_hasTicket_6 (by decide) ?_
  refine lv_isub hx hb d_Play_hasTicket_7 ?_
  obtain ⟨r_1, hc_1, h⟩ := bk1_e h
  refine x_ci (ws' := [(a_t, .inr (4, [.int v_t_n, .int v_t_t, .int v_t_d, .int v_t_r, .int v_t_fond, .int v_t_ticketCount, .ref a_t_tickets, .ref a_t_prizes, .int v_t_sightCount, .ref a_t_sightTickets, .ref a_t_sightNumbers, .ref a_t_sightKinds]))]) (x_runS (rest := []) hC hW (c_Main_isWithin l D I J Z p0 (0 : Int32) (v_t_ticketCount - (1 : Int32)) (r_1) hc_1) cl_Play_83 q_code_Main_isWithin [] rfl (by decide) rfl hl.1 (Nat.le_of_ble_eq_true rfl) (rm_ok hR1 hR2 (by decide) (by decide)) ⟨Nat.zero_le _, Nat.zero_le _⟩ d_Play_hasTicket_8) hW hA [] rfl rfl (ps := [none]) (by decide +kernel) ⟨rfl, trivial⟩ (fun H locs hW => ?_)
  obtain ⟨hn_2, h⟩ := bz_e h
  cases h
  rw [hQ]
  exact x_zret hC hr hn_2 hW d_Play_hasTicket_11

def f_Play_allNumbers (v_t_n : Int32) : Option (Int32) :=
  some ((((1 : Int32) <<< (v_t_n &&& 31)) - (1 : Int32)))
set_option maxHeartbeats 4000000 in
set_option maxRecDepth 100000 in
theorem c_Play_allNumbers (l : Launch) (D : va_G) (I J Z : ClassId) (a_t : Nat) (a_t_tickets : Nat) (a_t_prizes : Nat) (a_t_sightTickets : Nat) (a_t_sightNumbers : Nat) (a_t_sightKinds : Nat)  (v_t_n : Int32) (v_t_t : Int32) (v_t_d : Int32) (v_t_r : Int32) (v_t_fond : Int32) (v_t_ticketCount : Int32) (v_t_sightCount : Int32)  (out : (Int32)) (h : f_Play_allNumbers v_t_n = some out) : CT l D I J Z y_Play_allNumbers b_Play_allNumbers 1 (some .int) 1 [.ref a_t] [(a_t, .inr (4, [.int v_t_n, .int v_t_t, .int v_t_d, .int v_t_r, .int v_t_fond, .int v_t_ticketCount, .ref a_t_tickets, .ref a_t_prizes, .int v_t_sightCount, .ref a_t_sightTickets, .ref a_t_sightNumbers, .ref a_t_sightKinds]))] (PoI out D [(a_t, .inr (4, [.int v_t_n, .int v_t_t, .int v_t_d, .int v_t_r, .int v_t_fond, .int v_t_ticketCount, .ref a_t_tickets, .ref a_t_prizes, .int v_t_sightCount, .ref a_t_sightTickets, .ref a_t_sightNumbers, .ref a_t_sightKinds]))]) := by
  unfold f_Play_allNumbers at h
  refine CT_of R_Play (by decide +kernel) rfl (Nat.le_of_ble_eq_true rfl) ?_
  intro p e R s m args below meth c A ls Q hR1 hR2 hQ hC hr hW hA hl
  have hx := hC.1
  have hb := hC.2.1
  have hl : lv_has ls 1 [(0, .ref a_t)] := hl
  refine lv_iconst (v := (1 : Int32)) hx hb d_Play_allNumbers_0 (by decide) ?_
  refine lv_aload_n hx hb d_Play_allNumbers_1 rfl (lv_at hl 0 rfl) ?_
  refine x_get hC hW 0 rfl fl_Play_36 rfl d_Play_allNumbers_2 ?_
  refine lv_ishl hx hb d_Play_allNumbers_5 ?_
  refine lv_iconst (v := (1 : Int32)) hx hb d_Play_allNumbers_6 (by decide) ?_
  refine lv_isub hx hb d_Play_allNumbers_7 ?_
  cases h
  rw [hQ]
  exact x_iret hC hr hW d_Play_allNumbers_8

def f_Play_isOfNumbers (v_t_n : Int32) (p0 : Int32) : Option (Int32) :=
  bk1 (f_Play_allNumbers v_t_n) fun r_1 => bk1 (f_Main_isPartOf p0 r_1) fun r_2 => bz r_2 (some (r_2))
set_option maxHeartbeats 4000000 in
set_option maxRecDepth 100000 in
theorem c_Play_isOfNumbers (l : Launch) (D : va_G) (I J Z : ClassId) (a_t : Nat) (a_t_tickets : Nat) (a_t_prizes : Nat) (a_t_sightTickets : Nat) (a_t_sightNumbers : Nat) (a_t_sightKinds : Nat)  (v_t_n : Int32) (v_t_t : Int32) (v_t_d : Int32) (v_t_r : Int32) (v_t_fond : Int32) (v_t_ticketCount : Int32) (v_t_sightCount : Int32) (p0 : Int32) (out : (Int32)) (h : f_Play_isOfNumbers v_t_n p0 = some out) : CT l D I J Z y_Play_isOfNumbers b_Play_isOfNumbers 2 (some .boolean) 2 [.ref a_t, .int p0] [(a_t, .inr (4, [.int v_t_n, .int v_t_t, .int v_t_d, .int v_t_r, .int v_t_fond, .int v_t_ticketCount, .ref a_t_tickets, .ref a_t_prizes, .int v_t_sightCount, .ref a_t_sightTickets, .ref a_t_sightNumbers, .ref a_t_sightKinds]))] (PoI out D [(a_t, .inr (4, [.int v_t_n, .int v_t_t, .int v_t_d, .int v_t_r, .int v_t_fond, .int v_t_ticketCount, .ref a_t_tickets, .ref a_t_prizes, .int v_t_sightCount, .ref a_t_sightTickets, .ref a_t_sightNumbers, .ref a_t_sightKinds]))]) := by
  unfold f_Play_isOfNumbers at h
  refine CT_of R_Play (by decide +kernel) rfl (Nat.le_of_ble_eq_true rfl) ?_
  intro p e R s m args below meth c A ls Q hR1 hR2 hQ hC hr hW hA hl
  have hx := hC.1
  have hb := hC.2.1
  have hl : lv_has ls 2 [(0, .ref a_t), (1, .int p0)] := hl
  refine lv_iload_n hx hb d_Play_isOfNumbers_0 rfl (lv_at hl 1 rfl) ?_
  refine lv_aload_n hx hb d_Play_isOfNumbers_1 rfl (lv_at hl 0 rfl) ?_
  obtain ⟨r_1, hc_1, h⟩ := bk1_e h
  refine x_ci (ws' := [(a_t, .inr (4, [.int v_t_n, .int v_t_t, .int v_t_d, .int v_t_r, .int v_t_fond, .int v_t_ticketCount, .ref a_t_tickets, .ref a_t_prizes, .int v_t_sightCount, .ref a_t_sightTickets, .ref a_t_sightNumbers, .ref a_t_sightKinds]))]) (x_runV (As := []) (rest := [.int p0]) hC hW (c_Play_allNumbers l D I J Z a_t a_t_tickets a_t_prizes a_t_sightTickets a_t_sightNumbers a_t_sightKinds v_t_n v_t_t v_t_d v_t_r v_t_fond v_t_ticketCount v_t_sightCount (r_1) hc_1) cl_Play_65 q_code_Play_allNumbers [0] rfl (by decide) 0 rfl rfl rfl rfl hl.1 (Nat.le_of_ble_eq_true rfl) (rm_ok hR1 hR2 (by decide) (by decide)) ⟨Nat.zero_le _, Nat.zero_le _⟩ d_Play_isOfNumbers_2) hW hA [0] rfl rfl (ps := [some 0]) (by decide +kernel) ⟨rfl, trivial⟩ (fun H locs hW => ?_)
  obtain ⟨r_2, hc_2, h⟩ := bk1_e h
  refine x_ci (ws' := [(a_t, .inr (4, [.int v_t_n, .int v_t_t, .int v_t_d, .int v_t_r, .int v_t_fond, .int v_t_ticketCount, .ref a_t_tickets, .ref a_t_prizes, .int v_t_sightCount, .ref a_t_sightTickets, .ref a_t_sightNumbers, .ref a_t_sightKinds]))]) (x_runS (rest := []) hC hW (c_Main_isPartOf l D I J Z p0 r_1 (r_2) hc_2) cl_Play_69 q_code_Main_isPartOf [] rfl (by decide) rfl hl.1 (Nat.le_of_ble_eq_true rfl) (rm_ok hR1 hR2 (by decide) (by decide)) ⟨Nat.zero_le _, Nat.zero_le _⟩ d_Play_isOfNumbers_5) hW hA [] rfl rfl (ps := [none]) (by decide +kernel) ⟨rfl, trivial⟩ (fun H locs hW => ?_)
  obtain ⟨hn_3, h⟩ := bz_e h
  cases h
  rw [hQ]
  exact x_zret hC hr hn_3 hW d_Play_isOfNumbers_8

def f_Play_isDraw (v_t_d : Int32) (v_t_n : Int32) (p0 : Int32) : Option (Int32) :=
  bk1 (f_Play_isOfNumbers v_t_n p0) fun r_1 => if r_1 = (0 : Int32) then some ((0 : Int32)) else bk1 (f_Integer_bitCount p0) fun r_3 => if r_3 = v_t_d then some ((1 : Int32)) else some ((0 : Int32))
set_option maxHeartbeats 4000000 in
set_option maxRecDepth 100000 in
theorem c_Play_isDraw (l : Launch) (D : va_G) (I J Z : ClassId) (a_t : Nat) (a_t_tickets : Nat) (a_t_prizes : Nat) (a_t_sightTickets : Nat) (a_t_sightNumbers : Nat) (a_t_sightKinds : Nat)  (v_t_n : Int32) (v_t_t : Int32) (v_t_d : Int32) (v_t_r : Int32) (v_t_fond : Int32) (v_t_ticketCount : Int32) (v_t_sightCount : Int32) (p0 : Int32) (out : (Int32)) (h : f_Play_isDraw v_t_d v_t_n p0 = some out) : CT l D I J Z y_Play_isDraw b_Play_isDraw 2 (some .boolean) 3 [.ref a_t, .int p0] [(a_t, .inr (4, [.int v_t_n, .int v_t_t, .int v_t_d, .int v_t_r, .int v_t_fond, .int v_t_ticketCount, .ref a_t_tickets, .ref a_t_prizes, .int v_t_sightCount, .ref a_t_sightTickets, .ref a_t_sightNumbers, .ref a_t_sightKinds]))] (PoI out D [(a_t, .inr (4, [.int v_t_n, .int v_t_t, .int v_t_d, .int v_t_r, .int v_t_fond, .int v_t_ticketCount, .ref a_t_tickets, .ref a_t_prizes, .int v_t_sightCount, .ref a_t_sightTickets, .ref a_t_sightNumbers, .ref a_t_sightKinds]))]) := by
  unfold f_Play_isDraw at h
  refine CT_of R_Play (by decide +kernel) rfl (Nat.le_of_ble_eq_true rfl) ?_
  intro p e R s m args below meth c A ls Q hR1 hR2 hQ hC hr hW hA hl
  have hx := hC.1
  have hb := hC.2.1
  have hl : lv_has ls 2 [(0, .ref a_t), (1, .int p0)] := hl
  refine lv_aload_n hx hb d_Play_isDraw_0 rfl (lv_at hl 0 rfl) ?_
  refine lv_iload_n hx hb d_Play_isDraw_1 rfl (lv_at hl 1 rfl) ?_
  obtain ⟨r_1, hc_1, h⟩ := bk1_e h
  refine x_ci (ws' := [(a_t, .inr (4, [.int v_t_n, .int v_t_t, .int v_t_d, .int v_t_r, .int v_t_fond, .int v_t_ticketCount, .ref a_t_tickets, .ref a_t_prizes, .int v_t_sightCount, .ref a_t_sightTickets, .ref a_t_sightNumbers, .ref a_t_sightKinds]))]) (x_runV (As := [.int p0]) (rest := []) hC hW (c_Play_isOfNumbers l D I J Z a_t a_t_tickets a_t_prizes a_t_sightTickets a_t_sightNumbers a_t_sightKinds v_t_n v_t_t v_t_d v_t_r v_t_fond v_t_ticketCount v_t_sightCount p0 (r_1) hc_1) cl_Play_73 q_code_Play_isOfNumbers [0] rfl (by decide) 0 rfl rfl rfl rfl hl.1 (Nat.le_of_ble_eq_true rfl) (rm_ok hR1 hR2 (by decide) (by decide)) ⟨Nat.zero_le _, Nat.zero_le _⟩ d_Play_isDraw_2) hW hA [0] rfl rfl (ps := [some 0]) (by decide +kernel) ⟨rfl, trivial⟩ (fun H locs hW => ?_)
  refine lv_if_eq (tgt := 23) hx hb d_Play_isDraw_5 (by decide) (fun c_2 => ?_) (fun c_2 => ?_)
  · have h := it_e c_2 h
    refine lv_iconst (v := (0 : Int32)) hx hb d_Play_isDraw_23 (by decide) ?_
    cases h
    rw [hQ]
    exact x_zret hC hr (show narrow .boolean (.int (0 : Int32)) = .int (0 : Int32) from rfl) hW d_Play_isDraw_24
  · have h := ie_e c_2 h
    refine lv_iload_n hx hb d_Play_isDraw_8 rfl (lv_at hl 1 rfl) ?_
    obtain ⟨r_3, hc_3, h⟩ := bk1_e h
    refine x_ci (ws' := [(a_t, .inr (4, [.int v_t_n, .int v_t_t, .int v_t_d, .int v_t_r, .int v_t_fond, .int v_t_ticketCount, .ref a_t_tickets, .ref a_t_prizes, .int v_t_sightCount, .ref a_t_sightTickets, .ref a_t_sightNumbers, .ref a_t_sightKinds]))]) (x_runS (rest := []) hC hW (c_Integer_bitCount l D I J Z p0 (r_3) hc_3) cl_Play_77 q_code_Integer_bitCount [] rfl (by decide) rfl hl.1 (Nat.le_of_ble_eq_true rfl) (rm_ok hR1 hR2 (by decide) (by decide)) ⟨Nat.zero_le _, Nat.zero_le _⟩ d_Play_isDraw_9) hW hA [] rfl rfl (ps := [none]) (by decide +kernel) ⟨rfl, trivial⟩ (fun H locs hW => ?_)
    refine lv_aload_n hx hb d_Play_isDraw_12 rfl (lv_at hl 0 rfl) ?_
    refine x_get hC hW 0 rfl fl_Play_43 rfl d_Play_isDraw_13 ?_
    refine lv_icmp_ne (tgt := 23) hx hb d_Play_isDraw_16 (by decide) (fun c_4 => ?_) (fun c_4 => ?_)
    · have h := ie_e c_4 h
      refine lv_iconst (v := (0 : Int32)) hx hb d_Play_isDraw_23 (by decide) ?_
      cases h
      rw [hQ]
      exact x_zret hC hr (show narrow .boolean (.int (0 : Int32)) = .int (0 : Int32) from rfl) hW d_Play_isDraw_24
    · have h := it_e c_4 h
      refine lv_iconst (v := (1 : Int32)) hx hb d_Play_isDraw_19 (by decide) ?_
      refine lv_goto (tgt := 24) hx hb d_Play_isDraw_20 (by decide) ?_
      cases h
      rw [hQ]
      exact x_zret hC hr (show narrow .boolean (.int (1 : Int32)) = .int (1 : Int32) from rfl) hW d_Play_isDraw_24

def f_Play_countRight (v_t_tickets_cells : Nat → Int32) (p0 : Int32) (p1 : Int32) : Option (Int32) :=
  bk1 (f_Row_at 6 v_t_tickets_cells p0) fun r_1 => bk1 (f_Integer_bitCount (r_1 &&& p1)) fun r_2 => some (r_2)
set_option maxHeartbeats 4000000 in
set_option maxRecDepth 100000 in
theorem c_Play_countRight (l : Launch) (D : va_G) (I J Z : ClassId) (a_t : Nat) (a_t_tickets : Nat) (a_t_tickets_cells : Nat) (a_t_prizes : Nat) (a_t_sightTickets : Nat) (a_t_sightNumbers : Nat) (a_t_sightKinds : Nat)  (v_t_n : Int32) (v_t_t : Int32) (v_t_d : Int32) (v_t_r : Int32) (v_t_fond : Int32) (v_t_ticketCount : Int32) (v_t_sightCount : Int32) (v_t_tickets_cells : Nat → Int32) (p0 : Int32) (p1 : Int32) (out : (Int32)) (h : f_Play_countRight v_t_tickets_cells p0 p1 = some out) : CT l D I J Z y_Play_countRight b_Play_countRight 3 (some .int) 2 [.ref a_t, .int p0, .int p1] [(a_t, .inr (4, [.int v_t_n, .int v_t_t, .int v_t_d, .int v_t_r, .int v_t_fond, .int v_t_ticketCount, .ref a_t_tickets, .ref a_t_prizes, .int v_t_sightCount, .ref a_t_sightTickets, .ref a_t_sightNumbers, .ref a_t_sightKinds])), (a_t_tickets, .inr (5, [.ref a_t_tickets_cells])), (a_t_tickets_cells, .inl (I, 6, .inl v_t_tickets_cells))] (PoI out D [(a_t, .inr (4, [.int v_t_n, .int v_t_t, .int v_t_d, .int v_t_r, .int v_t_fond, .int v_t_ticketCount, .ref a_t_tickets, .ref a_t_prizes, .int v_t_sightCount, .ref a_t_sightTickets, .ref a_t_sightNumbers, .ref a_t_sightKinds])), (a_t_tickets, .inr (5, [.ref a_t_tickets_cells])), (a_t_tickets_cells, .inl (I, 6, .inl v_t_tickets_cells))]) := by
  unfold f_Play_countRight at h
  refine CT_of R_Play (by decide +kernel) rfl (Nat.le_of_ble_eq_true rfl) ?_
  intro p e R s m args below meth c A ls Q hR1 hR2 hQ hC hr hW hA hl
  have hx := hC.1
  have hb := hC.2.1
  have hl : lv_has ls 3 [(0, .ref a_t), (1, .int p0), (2, .int p1)] := hl
  refine lv_aload_n hx hb d_Play_countRight_0 rfl (lv_at hl 0 rfl) ?_
  refine x_get hC hW 0 rfl fl_Play_14 rfl d_Play_countRight_1 ?_
  refine lv_iload_n hx hb d_Play_countRight_4 rfl (lv_at hl 1 rfl) ?_
  obtain ⟨r_1, hc_1, h⟩ := bk1_e h
  refine x_ci (ws' := [(a_t, .inr (4, [.int v_t_n, .int v_t_t, .int v_t_d, .int v_t_r, .int v_t_fond, .int v_t_ticketCount, .ref a_t_tickets, .ref a_t_prizes, .int v_t_sightCount, .ref a_t_sightTickets, .ref a_t_sightNumbers, .ref a_t_sightKinds])), (a_t_tickets, .inr (5, [.ref a_t_tickets_cells])), (a_t_tickets_cells, .inl (I, 6, .inl v_t_tickets_cells))]) (x_runV (As := [.int p0]) (rest := []) hC hW (c_Row_at l D I J Z a_t_tickets a_t_tickets_cells 6 v_t_tickets_cells p0 (r_1) hc_1) cl_Play_87 q_code_Row_at [1, 2] rfl (by decide) 1 rfl rfl rfl rfl hl.1 (Nat.le_of_ble_eq_true rfl) (rm_ok hR1 hR2 (by decide) (by decide)) ⟨Nat.zero_le _, Nat.zero_le _⟩ d_Play_countRight_5) hW hA [1, 2] rfl rfl (ps := [none, some 0, some 1]) (by decide +kernel) ⟨rfl, rfl, rfl, trivial⟩ (fun H locs hW => ?_)
  refine lv_iload_n hx hb d_Play_countRight_8 rfl (lv_at hl 2 rfl) ?_
  refine lv_iand hx hb d_Play_countRight_9 ?_
  obtain ⟨r_2, hc_2, h⟩ := bk1_e h
  refine x_ci (ws' := [(a_t, .inr (4, [.int v_t_n, .int v_t_t, .int v_t_d, .int v_t_r, .int v_t_fond, .int v_t_ticketCount, .ref a_t_tickets, .ref a_t_prizes, .int v_t_sightCount, .ref a_t_sightTickets, .ref a_t_sightNumbers, .ref a_t_sightKinds])), (a_t_tickets, .inr (5, [.ref a_t_tickets_cells])), (a_t_tickets_cells, .inl (I, 6, .inl v_t_tickets_cells))]) (x_runS (rest := []) hC hW (c_Integer_bitCount l D I J Z (r_1 &&& p1) (r_2) hc_2) cl_Play_77 q_code_Integer_bitCount [] rfl (by decide) rfl hl.1 (Nat.le_of_ble_eq_true rfl) (rm_ok hR1 hR2 (by decide) (by decide)) ⟨Nat.zero_le _, Nat.zero_le _⟩ d_Play_countRight_10) hW hA [] rfl rfl (ps := [none, none, none]) (by decide +kernel) ⟨rfl, rfl, rfl, trivial⟩ (fun H locs hW => ?_)
  cases h
  rw [hQ]
  exact x_iret hC hr hW d_Play_countRight_13

def L_Play_countTicketsWith_4 (x1 : Int32) (v_t_ticketCount : Int32) (v_t_tickets_cells : Nat → Int32) : Nat → Int32 → Int32 → Option (Int32 × Int32)
  | 0, _, _ => none
  | n + 1, x2, x3 => if v_t_ticketCount ≤ x3 then some (x2, x3) else bk1 (f_Row_at 6 v_t_tickets_cells x3) fun r_2 => L_Play_countTicketsWith_4 x1 v_t_ticketCount v_t_tickets_cells n (x2 + ((r_2 >>> ((x1 - (1 : Int32)) &&& 31)) &&& (1 : Int32))) (x3 + (1 : Int32))
def f_Play_countTicketsWith (v_t_ticketCount : Int32) (v_t_tickets_cells : Nat → Int32) (p0 : Int32) : Option (Int32) :=
  bk2 (L_Play_countTicketsWith_4 p0 v_t_ticketCount v_t_tickets_cells 300 (0 : Int32) (0 : Int32)) fun yx2_3 yx3_3 => some (yx2_3)
set_option maxHeartbeats 4000000 in
set_option maxRecDepth 100000 in
theorem c_Play_countTicketsWith (l : Launch) (D : va_G) (I J Z : ClassId) (a_t : Nat) (a_t_tickets : Nat) (a_t_tickets_cells : Nat) (a_t_prizes : Nat) (a_t_sightTickets : Nat) (a_t_sightNumbers : Nat) (a_t_sightKinds : Nat)  (v_t_n : Int32) (v_t_t : Int32) (v_t_d : Int32) (v_t_r : Int32) (v_t_fond : Int32) (v_t_ticketCount : Int32) (v_t_sightCount : Int32) (v_t_tickets_cells : Nat → Int32) (p0 : Int32) (out : (Int32)) (h : f_Play_countTicketsWith v_t_ticketCount v_t_tickets_cells p0 = some out) : CT l D I J Z y_Play_countTicketsWith b_Play_countTicketsWith 4 (some .int) 2 [.ref a_t, .int p0] [(a_t, .inr (4, [.int v_t_n, .int v_t_t, .int v_t_d, .int v_t_r, .int v_t_fond, .int v_t_ticketCount, .ref a_t_tickets, .ref a_t_prizes, .int v_t_sightCount, .ref a_t_sightTickets, .ref a_t_sightNumbers, .ref a_t_sightKinds])), (a_t_tickets, .inr (5, [.ref a_t_tickets_cells])), (a_t_tickets_cells, .inl (I, 6, .inl v_t_tickets_cells))] (PoI out D [(a_t, .inr (4, [.int v_t_n, .int v_t_t, .int v_t_d, .int v_t_r, .int v_t_fond, .int v_t_ticketCount, .ref a_t_tickets, .ref a_t_prizes, .int v_t_sightCount, .ref a_t_sightTickets, .ref a_t_sightNumbers, .ref a_t_sightKinds])), (a_t_tickets, .inr (5, [.ref a_t_tickets_cells])), (a_t_tickets_cells, .inl (I, 6, .inl v_t_tickets_cells))]) := by
  unfold f_Play_countTicketsWith at h
  refine CT_of R_Play (by decide +kernel) rfl (Nat.le_of_ble_eq_true rfl) ?_
  intro p e R s m args below meth c A ls Q hR1 hR2 hQ hC hr hW hA hl
  have hx := hC.1
  have hb := hC.2.1
  have hl : lv_has ls 4 [(0, .ref a_t), (1, .int p0)] := hl
  have lp4 : ∀ (n : Nat) (x1 : Int32) (x2 : Int32) (x3 : Int32) (yx2 : Int32) (yx3 : Int32), L_Play_countTicketsWith_4 x1 v_t_ticketCount v_t_tickets_cells n x2 x3 = some (yx2, yx3) →
    (∀ H locs, Wd D A s.heap [(a_t, .inr (4, [.int v_t_n, .int v_t_t, .int v_t_d, .int v_t_r, .int v_t_fond, .int v_t_ticketCount, .ref a_t_tickets, .ref a_t_prizes, .int v_t_sightCount, .ref a_t_sightTickets, .ref a_t_sightNumbers, .ref a_t_sightKinds])), (a_t_tickets, .inr (5, [.ref a_t_tickets_cells])), (a_t_tickets_cells, .inl (I, 6, .inl v_t_tickets_cells))] H locs → ∀ ls, lv_has ls 4 [(0, .ref a_t), (1, .int x1), (2, .int yx2), (3, .int yx3)] → W p l e R s m args below meth c H locs 0 0 Q (F0 m 35 ls [])) →
    ∀ H locs, Wd D A s.heap [(a_t, .inr (4, [.int v_t_n, .int v_t_t, .int v_t_d, .int v_t_r, .int v_t_fond, .int v_t_ticketCount, .ref a_t_tickets, .ref a_t_prizes, .int v_t_sightCount, .ref a_t_sightTickets, .ref a_t_sightNumbers, .ref a_t_sightKinds])), (a_t_tickets, .inr (5, [.ref a_t_tickets_cells])), (a_t_tickets_cells, .inl (I, 6, .inl v_t_tickets_cells))] H locs → ∀ ls, lv_has ls 4 [(0, .ref a_t), (1, .int x1), (2, .int x2), (3, .int x3)] → W p l e R s m args below meth c H locs 0 0 Q (F0 m 4 ls []) := by
    intro n
    induction n with
    | zero =>
      intro x1 x2 x3 yx2 yx3 h
      exact no_e h
    | succ n ih =>
      intro x1 x2 x3 yx2 yx3 h K H locs hW ls hl
      rw [L_Play_countTicketsWith_4] at h
      refine lv_iload_n hx hb d_Play_countTicketsWith_4 rfl (lv_at hl 3 rfl) ?_
      refine lv_aload_n hx hb d_Play_countTicketsWith_5 rfl (lv_at hl 0 rfl) ?_
      refine x_get hC hW 0 rfl fl_Play_55 rfl d_Play_countTicketsWith_6 ?_
      refine lv_icmp_ge (tgt := 35) hx hb d_Play_countTicketsWith_9 (by decide) (fun c_1 => ?_) (fun c_1 => ?_)
      · have h := it_e c_1 h
        cases h
        exact K _ _ hW ls (lv_sub hl [0, 1, 2, 3] rfl)
      · have h := ie_e c_1 h
        refine lv_iload_n hx hb d_Play_countTicketsWith_12 rfl (lv_at hl 2 rfl) ?_
        refine lv_aload_n hx hb d_Play_countTicketsWith_13 rfl (lv_at hl 0 rfl) ?_
        refine x_get hC hW 0 rfl fl_Play_14 rfl d_Play_countTicketsWith_14 ?_
        refine lv_iload_n hx hb d_Play_countTicketsWith_17 rfl (lv_at hl 3 rfl) ?_
        obtain ⟨r_2, hc_2, h⟩ := bk1_e h
        refine x_ci (ws' := [(a_t, .inr (4, [.int v_t_n, .int v_t_t, .int v_t_d, .int v_t_r, .int v_t_fond, .int v_t_ticketCount, .ref a_t_tickets, .ref a_t_prizes, .int v_t_sightCount, .ref a_t_sightTickets, .ref a_t_sightNumbers, .ref a_t_sightKinds])), (a_t_tickets, .inr (5, [.ref a_t_tickets_cells])), (a_t_tickets_cells, .inl (I, 6, .inl v_t_tickets_cells))]) (x_runV (As := [.int x3]) (rest := [.int x2]) hC hW (c_Row_at l D I J Z a_t_tickets a_t_tickets_cells 6 v_t_tickets_cells x3 (r_2) hc_2) cl_Play_87 q_code_Row_at [1, 2] rfl (by decide) 1 rfl rfl rfl rfl hl.1 (Nat.le_of_ble_eq_true rfl) (rm_ok hR1 hR2 (by decide) (by decide)) ⟨Nat.zero_le _, Nat.zero_le _⟩ d_Play_countTicketsWith_18) hW hA [1, 2] rfl rfl (ps := [none, some 0, some 1]) (by decide +kernel) ⟨rfl, rfl, rfl, trivial⟩ (fun H locs hW => ?_)
        refine lv_iload_n hx hb d_Play_countTicketsWith_21 rfl (lv_at hl 1 rfl) ?_
        refine lv_iconst (v := (1 : Int32)) hx hb d_Play_countTicketsWith_22 (by decide) ?_
        refine lv_isub hx hb d_Play_countTicketsWith_23 ?_
        refine lv_ishr hx hb d_Play_countTicketsWith_24 ?_
        refine lv_iconst (v := (1 : Int32)) hx hb d_Play_countTicketsWith_25 (by decide) ?_
        refine lv_iand hx hb d_Play_countTicketsWith_26 ?_
        refine lv_iadd hx hb d_Play_countTicketsWith_27 ?_
        refine lv_istore_n (lv' := [(2, .int (x2 + ((r_2 >>> ((x1 - (1 : Int32)) &&& 31)) &&& (1 : Int32)))), (0, .ref a_t), (1, .int x1), (3, .int x3)]) hx hb d_Play_countTicketsWith_28 rfl hl (by decide) rfl (fun ls hl => ?_)
        refine lv_iinc (v := (x3 + (1 : Int32))) (lv' := [(3, .int (x3 + (1 : Int32))), (2, .int (x2 + ((r_2 >>> ((x1 - (1 : Int32)) &&& 31)) &&& (1 : Int32)))), (0, .ref a_t), (1, .int x1)]) hx hb d_Play_countTicketsWith_29 hl (k := 3) rfl (iinc_e (by decide)) (by decide) rfl (fun ls hl => ?_)
        refine lv_goto (tgt := 4) hx hb d_Play_countTicketsWith_32 (by decide) ?_
        exact ih x1 (x2 + ((r_2 >>> ((x1 - (1 : Int32)) &&& 31)) &&& (1 : Int32))) (x3 + (1 : Int32)) _ _ h K _ _ hW ls (lv_sub hl [2, 3, 1, 0] rfl)
  refine lv_iconst (v := (0 : Int32)) hx hb d_Play_countTicketsWith_0 (by decide) ?_
  refine lv_istore_n (lv' := [(2, .int (0 : Int32)), (0, .ref a_t), (1, .int p0)]) hx hb d_Play_countTicketsWith_1 rfl hl (by decide) rfl (fun ls hl => ?_)
  refine lv_iconst (v := (0 : Int32)) hx hb d_Play_countTicketsWith_2 (by decide) ?_
  refine lv_istore_n (lv' := [(3, .int (0 : Int32)), (2, .int (0 : Int32)), (0, .ref a_t), (1, .int p0)]) hx hb d_Play_countTicketsWith_3 rfl hl (by decide) rfl (fun ls hl => ?_)
  obtain ⟨yx2_3, yx3_3, hv_3, h⟩ := bk2_e h
  refine lp4 _ p0 (0 : Int32) (0 : Int32) yx2_3 yx3_3 hv_3 (fun H locs hW ls hl => ?_) _ _ hW ls (lv_sub hl [2, 3, 1, 0] rfl)
  refine lv_iload_n hx hb d_Play_countTicketsWith_35 rfl (lv_at hl 2 rfl) ?_
  cases h
  rw [hQ]
  exact x_iret hC hr hW d_Play_countTicketsWith_36

def L_Play_countPence_4 (x1 : Int32) (v_t_ticketCount : Int32) (v_t_prizes_cells : Nat → Int32) (v_t_tickets_cells : Nat → Int32) : Nat → Int32 → Int32 → Option (Int32 × Int32)
  | 0, _, _ => none
  | n + 1, x2, x3 => if v_t_ticketCount ≤ x3 then some (x2, x3) else bk1 (f_Play_countRight v_t_tickets_cells x3 x1) fun r_2 => bk1 (f_Row_at 9 v_t_prizes_cells r_2) fun r_3 => L_Play_countPence_4 x1 v_t_ticketCount v_t_prizes_cells v_t_tickets_cells n (x2 + r_3) (x3 + (1 : Int32))
def f_Play_countPence (v_t_ticketCount : Int32) (v_t_prizes_cells : Nat → Int32) (v_t_tickets_cells : Nat → Int32) (p0 : Int32) : Option (Int32) :=
  bk2 (L_Play_countPence_4 p0 v_t_ticketCount v_t_prizes_cells v_t_tickets_cells 300 (0 : Int32) (0 : Int32)) fun yx2_4 yx3_4 => some (yx2_4)
set_option maxHeartbeats 4000000 in
set_option maxRecDepth 100000 in
theorem c_Play_countPence (l : Launch) (D : va_G) (I J Z : ClassId) (a_t : Nat) (a_t_prizes : Nat) (a_t_prizes_cells : Nat) (a_t_tickets : Nat) (a_t_tickets_cells : Nat) (a_t_sightTickets : Nat) (a_t_sightNumbers : Nat) (a_t_sightKinds : Nat)  (v_t_n : Int32) (v_t_t : Int32) (v_t_d : Int32) (v_t_r : Int32) (v_t_fond : Int32) (v_t_ticketCount : Int32) (v_t_sightCount : Int32) (v_t_prizes_cells : Nat → Int32) (v_t_tickets_cells : Nat → Int32) (p0 : Int32) (out : (Int32)) (h : f_Play_countPence v_t_ticketCount v_t_prizes_cells v_t_tickets_cells p0 = some out) : CT l D I J Z y_Play_countPence b_Play_countPence 4 (some .int) 3 [.ref a_t, .int p0] [(a_t, .inr (4, [.int v_t_n, .int v_t_t, .int v_t_d, .int v_t_r, .int v_t_fond, .int v_t_ticketCount, .ref a_t_tickets, .ref a_t_prizes, .int v_t_sightCount, .ref a_t_sightTickets, .ref a_t_sightNumbers, .ref a_t_sightKinds])), (a_t_prizes, .inr (5, [.ref a_t_prizes_cells])), (a_t_prizes_cells, .inl (I, 9, .inl v_t_prizes_cells)), (a_t_tickets, .inr (5, [.ref a_t_tickets_cells])), (a_t_tickets_cells, .inl (I, 6, .inl v_t_tickets_cells))] (PoI out D [(a_t, .inr (4, [.int v_t_n, .int v_t_t, .int v_t_d, .int v_t_r, .int v_t_fond, .int v_t_ticketCount, .ref a_t_tickets, .ref a_t_prizes, .int v_t_sightCount, .ref a_t_sightTickets, .ref a_t_sightNumbers, .ref a_t_sightKinds])), (a_t_prizes, .inr (5, [.ref a_t_prizes_cells])), (a_t_prizes_cells, .inl (I, 9, .inl v_t_prizes_cells)), (a_t_tickets, .inr (5, [.ref a_t_tickets_cells])), (a_t_tickets_cells, .inl (I, 6, .inl v_t_tickets_cells))]) := by
  unfold f_Play_countPence at h
  refine CT_of R_Play (by decide +kernel) rfl (Nat.le_of_ble_eq_true rfl) ?_
  intro p e R s m args below meth c A ls Q hR1 hR2 hQ hC hr hW hA hl
  have hx := hC.1
  have hb := hC.2.1
  have hl : lv_has ls 4 [(0, .ref a_t), (1, .int p0)] := hl
  have lp4 : ∀ (n : Nat) (x1 : Int32) (x2 : Int32) (x3 : Int32) (yx2 : Int32) (yx3 : Int32), L_Play_countPence_4 x1 v_t_ticketCount v_t_prizes_cells v_t_tickets_cells n x2 x3 = some (yx2, yx3) →
    (∀ H locs, Wd D A s.heap [(a_t, .inr (4, [.int v_t_n, .int v_t_t, .int v_t_d, .int v_t_r, .int v_t_fond, .int v_t_ticketCount, .ref a_t_tickets, .ref a_t_prizes, .int v_t_sightCount, .ref a_t_sightTickets, .ref a_t_sightNumbers, .ref a_t_sightKinds])), (a_t_prizes, .inr (5, [.ref a_t_prizes_cells])), (a_t_prizes_cells, .inl (I, 9, .inl v_t_prizes_cells)), (a_t_tickets, .inr (5, [.ref a_t_tickets_cells])), (a_t_tickets_cells, .inl (I, 6, .inl v_t_tickets_cells))] H locs → ∀ ls, lv_has ls 4 [(0, .ref a_t), (1, .int x1), (2, .int yx2), (3, .int yx3)] → W p l e R s m args below meth c H locs 0 0 Q (F0 m 34 ls [])) →
    ∀ H locs, Wd D A s.heap [(a_t, .inr (4, [.int v_t_n, .int v_t_t, .int v_t_d, .int v_t_r, .int v_t_fond, .int v_t_ticketCount, .ref a_t_tickets, .ref a_t_prizes, .int v_t_sightCount, .ref a_t_sightTickets, .ref a_t_sightNumbers, .ref a_t_sightKinds])), (a_t_prizes, .inr (5, [.ref a_t_prizes_cells])), (a_t_prizes_cells, .inl (I, 9, .inl v_t_prizes_cells)), (a_t_tickets, .inr (5, [.ref a_t_tickets_cells])), (a_t_tickets_cells, .inl (I, 6, .inl v_t_tickets_cells))] H locs → ∀ ls, lv_has ls 4 [(0, .ref a_t), (1, .int x1), (2, .int x2), (3, .int x3)] → W p l e R s m args below meth c H locs 0 0 Q (F0 m 4 ls []) := by
    intro n
    induction n with
    | zero =>
      intro x1 x2 x3 yx2 yx3 h
      exact no_e h
    | succ n ih =>
      intro x1 x2 x3 yx2 yx3 h K H locs hW ls hl
      rw [L_Play_countPence_4] at h
      refine lv_iload_n hx hb d_Play_countPence_4 rfl (lv_at hl 3 rfl) ?_
      refine lv_aload_n hx hb d_Play_countPence_5 rfl (lv_at hl 0 rfl) ?_
      refine x_get hC hW 0 rfl fl_Play_55 rfl d_Play_countPence_6 ?_
      refine lv_icmp_ge (tgt := 34) hx hb d_Play_countPence_9 (by decide) (fun c_1 => ?_) (fun c_1 => ?_)
      · have h := it_e c_1 h
        cases h
        exact K _ _ hW ls (lv_sub hl [0, 1, 2, 3] rfl)
      · have h := ie_e c_1 h
        refine lv_iload_n hx hb d_Play_countPence_12 rfl (lv_at hl 2 rfl) ?_
        refine lv_aload_n hx hb d_Play_countPence_13 rfl (lv_at hl 0 rfl) ?_
        refine x_get hC hW 0 rfl fl_Play_20 rfl d_Play_countPence_14 ?_
        refine lv_aload_n hx hb d_Play_countPence_17 rfl (lv_at hl 0 rfl) ?_
        refine lv_iload_n hx hb d_Play_countPence_18 rfl (lv_at hl 3 rfl) ?_
        refine lv_iload_n hx hb d_Play_countPence_19 rfl (lv_at hl 1 rfl) ?_
        obtain ⟨r_2, hc_2, h⟩ := bk1_e h
        refine x_ci (ws' := [(a_t, .inr (4, [.int v_t_n, .int v_t_t, .int v_t_d, .int v_t_r, .int v_t_fond, .int v_t_ticketCount, .ref a_t_tickets, .ref a_t_prizes, .int v_t_sightCount, .ref a_t_sightTickets, .ref a_t_sightNumbers, .ref a_t_sightKinds])), (a_t_prizes, .inr (5, [.ref a_t_prizes_cells])), (a_t_prizes_cells, .inl (I, 9, .inl v_t_prizes_cells)), (a_t_tickets, .inr (5, [.ref a_t_tickets_cells])), (a_t_tickets_cells, .inl (I, 6, .inl v_t_tickets_cells))]) (x_runV (As := [.int x3, .int x1]) (rest := [.ref a_t_prizes, .int x2]) hC hW (c_Play_countRight l D I J Z a_t a_t_tickets a_t_tickets_cells a_t_prizes a_t_sightTickets a_t_sightNumbers a_t_sightKinds v_t_n v_t_t v_t_d v_t_r v_t_fond v_t_ticketCount v_t_sightCount v_t_tickets_cells x3 x1 (r_2) hc_2) cl_Play_90 q_code_Play_countRight [0, 3, 4] rfl (by decide) 0 rfl rfl rfl rfl hl.1 (Nat.le_of_ble_eq_true rfl) (rm_ok hR1 hR2 (by decide) (by decide)) ⟨Nat.zero_le _, Nat.zero_le _⟩ d_Play_countPence_20) hW hA [0, 3, 4] rfl rfl (ps := [some 0, none, none, some 1, some 2]) (by decide +kernel) ⟨rfl, rfl, rfl, rfl, rfl, trivial⟩ (fun H locs hW => ?_)
        obtain ⟨r_3, hc_3, h⟩ := bk1_e h
        refine x_ci (ws' := [(a_t, .inr (4, [.int v_t_n, .int v_t_t, .int v_t_d, .int v_t_r, .int v_t_fond, .int v_t_ticketCount, .ref a_t_tickets, .ref a_t_prizes, .int v_t_sightCount, .ref a_t_sightTickets, .ref a_t_sightNumbers, .ref a_t_sightKinds])), (a_t_prizes, .inr (5, [.ref a_t_prizes_cells])), (a_t_prizes_cells, .inl (I, 9, .inl v_t_prizes_cells)), (a_t_tickets, .inr (5, [.ref a_t_tickets_cells])), (a_t_tickets_cells, .inl (I, 6, .inl v_t_tickets_cells))]) (x_runV (As := [.int r_2]) (rest := [.int x2]) hC hW (c_Row_at l D I J Z a_t_prizes a_t_prizes_cells 9 v_t_prizes_cells r_2 (r_3) hc_3) cl_Play_87 q_code_Row_at [1, 2] rfl (by decide) 1 rfl rfl rfl rfl hl.1 (Nat.le_of_ble_eq_true rfl) (rm_ok hR1 hR2 (by decide) (by decide)) ⟨Nat.zero_le _, Nat.zero_le _⟩ d_Play_countPence_23) hW hA [1, 2] rfl rfl (ps := [none, some 0, some 1, none, none]) (by decide +kernel) ⟨rfl, rfl, rfl, rfl, rfl, trivial⟩ (fun H locs hW => ?_)
        refine lv_iadd hx hb d_Play_countPence_26 ?_
        refine lv_istore_n (lv' := [(2, .int (x2 + r_3)), (0, .ref a_t), (1, .int x1), (3, .int x3)]) hx hb d_Play_countPence_27 rfl hl (by decide) rfl (fun ls hl => ?_)
        refine lv_iinc (v := (x3 + (1 : Int32))) (lv' := [(3, .int (x3 + (1 : Int32))), (2, .int (x2 + r_3)), (0, .ref a_t), (1, .int x1)]) hx hb d_Play_countPence_28 hl (k := 3) rfl (iinc_e (by decide)) (by decide) rfl (fun ls hl => ?_)
        refine lv_goto (tgt := 4) hx hb d_Play_countPence_31 (by decide) ?_
        exact ih x1 (x2 + r_3) (x3 + (1 : Int32)) _ _ h K _ _ hW ls (lv_sub hl [2, 3, 1, 0] rfl)
  refine lv_iconst (v := (0 : Int32)) hx hb d_Play_countPence_0 (by decide) ?_
  refine lv_istore_n (lv' := [(2, .int (0 : Int32)), (0, .ref a_t), (1, .int p0)]) hx hb d_Play_countPence_1 rfl hl (by decide) rfl (fun ls hl => ?_)
  refine lv_iconst (v := (0 : Int32)) hx hb d_Play_countPence_2 (by decide) ?_
  refine lv_istore_n (lv' := [(3, .int (0 : Int32)), (2, .int (0 : Int32)), (0, .ref a_t), (1, .int p0)]) hx hb d_Play_countPence_3 rfl hl (by decide) rfl (fun ls hl => ?_)
  obtain ⟨yx2_4, yx3_4, hv_4, h⟩ := bk2_e h
  refine lp4 _ p0 (0 : Int32) (0 : Int32) yx2_4 yx3_4 hv_4 (fun H locs hW ls hl => ?_) _ _ hW ls (lv_sub hl [2, 3, 1, 0] rfl)
  refine lv_iload_n hx hb d_Play_countPence_34 rfl (lv_at hl 2 rfl) ?_
  cases h
  rw [hQ]
  exact x_iret hC hr hW d_Play_countPence_35

def f_Choice_begin (p0 : Int32) (p1 : Int32) : Option (Int32 × Int32 × Int32 × Int32) :=
  some ((0 : Int32), p0, (1 : Int32), p1)
set_option maxHeartbeats 4000000 in
set_option maxRecDepth 100000 in
theorem c_Choice_begin (l : Launch) (D : va_G) (I J Z : ClassId) (a_t : Nat) (a_t_tickets : Nat)  (v_t_size : Int32) (v_t_won : Int32) (v_t_found : Int32) (v_t_sought : Int32) (p0 : Int32) (p1 : Int32) (out : (Int32 × Int32 × Int32 × Int32)) (h : f_Choice_begin p0 p1 = some out) : CT l D I J Z y_Choice_begin b_Choice_begin 3 none 1 [.ref a_t, .int p0, .int p1] [(a_t, .inr (0, [.ref a_t_tickets, .int v_t_size, .int v_t_won, .int v_t_found, .int v_t_sought]))] (PoV D [(a_t, .inr (0, [.ref a_t_tickets, .int out.2.1, .int out.2.2.2, .int out.1, .int out.2.2.1]))]) := by
  unfold f_Choice_begin at h
  refine CT_of R_Choice (by decide +kernel) rfl (Nat.le_of_ble_eq_true rfl) ?_
  intro p e R s m args below meth c A ls Q hR1 hR2 hQ hC hr hW hA hl
  have hx := hC.1
  have hb := hC.2.1
  have hl : lv_has ls 3 [(0, .ref a_t), (1, .int p0), (2, .int p1)] := hl
  refine lv_aload_n hx hb d_Choice_begin_0 rfl (lv_at hl 0 rfl) ?_
  refine lv_iload_n hx hb d_Choice_begin_1 rfl (lv_at hl 1 rfl) ?_
  refine x_put (ws' := [(a_t, .inr (0, [.ref a_t_tickets, .int p0, .int v_t_won, .int v_t_found, .int v_t_sought]))]) hC hW 0 rfl fp_Choice_20 rfl rfl (Nat.le_of_ble_eq_true rfl) d_Choice_begin_2 rfl (fun H locs hW => ?_)
  refine lv_aload_n hx hb d_Choice_begin_5 rfl (lv_at hl 0 rfl) ?_
  refine lv_iload_n hx hb d_Choice_begin_6 rfl (lv_at hl 2 rfl) ?_
  refine x_put (ws' := [(a_t, .inr (0, [.ref a_t_tickets, .int p0, .int p1, .int v_t_found, .int v_t_sought]))]) hC hW 0 rfl fp_Choice_24 rfl rfl (Nat.le_of_ble_eq_true rfl) d_Choice_begin_7 rfl (fun H locs hW => ?_)
  refine lv_aload_n hx hb d_Choice_begin_10 rfl (lv_at hl 0 rfl) ?_
  refine lv_iconst (v := (0 : Int32)) hx hb d_Choice_begin_11 (by decide) ?_
  refine x_put (ws' := [(a_t, .inr (0, [.ref a_t_tickets, .int p0, .int p1, .int (0 : Int32), .int v_t_sought]))]) hC hW 0 rfl fp_Choice_27 rfl rfl (Nat.le_of_ble_eq_true rfl) d_Choice_begin_12 rfl (fun H locs hW => ?_)
  refine lv_aload_n hx hb d_Choice_begin_15 rfl (lv_at hl 0 rfl) ?_
  refine lv_iconst (v := (1 : Int32)) hx hb d_Choice_begin_16 (by decide) ?_
  refine x_put (ws' := [(a_t, .inr (0, [.ref a_t_tickets, .int p0, .int p1, .int (0 : Int32), .int (1 : Int32)]))]) hC hW 0 rfl fp_Choice_31 rfl rfl (Nat.le_of_ble_eq_true rfl) d_Choice_begin_17 rfl (fun H locs hW => ?_)
  cases h
  rw [hQ]
  exact x_vret hC hr hW d_Choice_begin_20

def f_Choice_ticketOrNone (v_t_found : Int32) (v_t_size : Int32) (v_t_tickets_cells : Nat → Int32) (p0 : Int32) : Option (Int32) :=
  if v_t_found = (0 : Int32) then some ((-6 : Int32)) else bk1 (f_Main_isWithin p0 (0 : Int32) (v_t_size - (1 : Int32))) fun r_2 => if r_2 = (0 : Int32) then some ((-6 : Int32)) else bk1 (f_Row_at 4 v_t_tickets_cells p0) fun r_4 => some (r_4)
set_option maxHeartbeats 4000000 in
set_option maxRecDepth 100000 in
theorem c_Choice_ticketOrNone (l : Launch) (D : va_G) (I J Z : ClassId) (a_t : Nat) (a_t_tickets : Nat) (a_t_tickets_cells : Nat)  (v_t_size : Int32) (v_t_won : Int32) (v_t_found : Int32) (v_t_sought : Int32) (v_t_tickets_cells : Nat → Int32) (p0 : Int32) (out : (Int32)) (h : f_Choice_ticketOrNone v_t_found v_t_size v_t_tickets_cells p0 = some out) : CT l D I J Z y_Choice_ticketOrNone b_Choice_ticketOrNone 2 (some .int) 2 [.ref a_t, .int p0] [(a_t, .inr (0, [.ref a_t_tickets, .int v_t_size, .int v_t_won, .int v_t_found, .int v_t_sought])), (a_t_tickets, .inr (5, [.ref a_t_tickets_cells])), (a_t_tickets_cells, .inl (I, 4, .inl v_t_tickets_cells))] (PoI out D [(a_t, .inr (0, [.ref a_t_tickets, .int v_t_size, .int v_t_won, .int v_t_found, .int v_t_sought])), (a_t_tickets, .inr (5, [.ref a_t_tickets_cells])), (a_t_tickets_cells, .inl (I, 4, .inl v_t_tickets_cells))]) := by
  unfold f_Choice_ticketOrNone at h
  refine CT_of R_Choice (by decide +kernel) rfl (Nat.le_of_ble_eq_true rfl) ?_
  intro p e R s m args below meth c A ls Q hR1 hR2 hQ hC hr hW hA hl
  have hx := hC.1
  have hb := hC.2.1
  have hl : lv_has ls 2 [(0, .ref a_t), (1, .int p0)] := hl
  refine lv_aload_n hx hb d_Choice_ticketOrNone_0 rfl (lv_at hl 0 rfl) ?_
  refine x_get hC hW 0 rfl fl_Choice_27 rfl d_Choice_ticketOrNone_1 ?_
  refine lv_if_eq (tgt := 32) hx hb d_Choice_ticketOrNone_4 (by decide) (fun c_1 => ?_) (fun c_1 => ?_)
  · have h := it_e c_1 h
    refine lv_bipush (v := (-6 : Int32)) hx hb d_Choice_ticketOrNone_32 (by decide) ?_
    cases h
    rw [hQ]
    exact x_iret hC hr hW d_Choice_ticketOrNone_34
  · have h := ie_e c_1 h
    refine lv_iload_n hx hb d_Choice_ticketOrNone_7 rfl (lv_at hl 1 rfl) ?_
    refine lv_iconst (v := (0 : Int32)) hx hb d_Choice_ticketOrNone_8 (by decide) ?_
    refine lv_aload_n hx hb d_Choice_ticketOrNone_9 rfl (lv_at hl 0 rfl) ?_
    refine x_get hC hW 0 rfl fl_Choice_20 rfl d_Choice_ticketOrNone_10 ?_
    refine lv_iconst (v := (1 : Int32)) hx hb d_Choice_ticketOrNone_13 (by decide) ?_
    refine lv_isub hx hb d_Choice_ticketOrNone_14 ?_
    obtain ⟨r_2, hc_2, h⟩ := bk1_e h
    refine x_ci (ws' := [(a_t, .inr (0, [.ref a_t_tickets, .int v_t_size, .int v_t_won, .int v_t_found, .int v_t_sought])), (a_t_tickets, .inr (5, [.ref a_t_tickets_cells])), (a_t_tickets_cells, .inl (I, 4, .inl v_t_tickets_cells))]) (x_runS (rest := []) hC hW (c_Main_isWithin l D I J Z p0 (0 : Int32) (v_t_size - (1 : Int32)) (r_2) hc_2) cl_Choice_34 q_code_Main_isWithin [] rfl (by decide) rfl hl.1 (Nat.le_of_ble_eq_true rfl) (rm_ok hR1 hR2 (by decide) (by decide)) ⟨Nat.zero_le _, Nat.zero_le _⟩ d_Choice_ticketOrNone_15) hW hA [] rfl rfl (ps := [none, none, none]) (by decide +kernel) ⟨rfl, rfl, rfl, trivial⟩ (fun H locs hW => ?_)
    refine lv_if_eq (tgt := 32) hx hb d_Choice_ticketOrNone_18 (by decide) (fun c_3 => ?_) (fun c_3 => ?_)
    · have h := it_e c_3 h
      refine lv_bipush (v := (-6 : Int32)) hx hb d_Choice_ticketOrNone_32 (by decide) ?_
      cases h
      rw [hQ]
      exact x_iret hC hr hW d_Choice_ticketOrNone_34
    · have h := ie_e c_3 h
      refine lv_aload_n hx hb d_Choice_ticketOrNone_21 rfl (lv_at hl 0 rfl) ?_
      refine x_get hC hW 0 rfl fl_Choice_14 rfl d_Choice_ticketOrNone_22 ?_
      refine lv_iload_n hx hb d_Choice_ticketOrNone_25 rfl (lv_at hl 1 rfl) ?_
      obtain ⟨r_4, hc_4, h⟩ := bk1_e h
      refine x_ci (ws' := [(a_t, .inr (0, [.ref a_t_tickets, .int v_t_size, .int v_t_won, .int v_t_found, .int v_t_sought])), (a_t_tickets, .inr (5, [.ref a_t_tickets_cells])), (a_t_tickets_cells, .inl (I, 4, .inl v_t_tickets_cells))]) (x_runV (As := [.int p0]) (rest := []) hC hW (c_Row_at l D I J Z a_t_tickets a_t_tickets_cells 4 v_t_tickets_cells p0 (r_4) hc_4) cl_Choice_38 q_code_Row_at [1, 2] rfl (by decide) 1 rfl rfl rfl rfl hl.1 (Nat.le_of_ble_eq_true rfl) (rm_ok hR1 hR2 (by decide) (by decide)) ⟨Nat.zero_le _, Nat.zero_le _⟩ d_Choice_ticketOrNone_26) hW hA [1, 2] rfl rfl (ps := [none, some 0, some 1]) (by decide +kernel) ⟨rfl, rfl, rfl, trivial⟩ (fun H locs hW => ?_)
      refine lv_goto (tgt := 34) hx hb d_Choice_ticketOrNone_29 (by decide) ?_
      cases h
      rw [hQ]
      exact x_iret hC hr hW d_Choice_ticketOrNone_34

def f_Choice_wonOrNone (v_t_found : Int32) (v_t_won : Int32) : Option (Int32) :=
  if v_t_found = (0 : Int32) then some ((-6 : Int32)) else some (v_t_won)
set_option maxHeartbeats 4000000 in
set_option maxRecDepth 100000 in
theorem c_Choice_wonOrNone (l : Launch) (D : va_G) (I J Z : ClassId) (a_t : Nat) (a_t_tickets : Nat)  (v_t_size : Int32) (v_t_won : Int32) (v_t_found : Int32) (v_t_sought : Int32)  (out : (Int32)) (h : f_Choice_wonOrNone v_t_found v_t_won = some out) : CT l D I J Z y_Choice_wonOrNone b_Choice_wonOrNone 1 (some .int) 1 [.ref a_t] [(a_t, .inr (0, [.ref a_t_tickets, .int v_t_size, .int v_t_won, .int v_t_found, .int v_t_sought]))] (PoI out D [(a_t, .inr (0, [.ref a_t_tickets, .int v_t_size, .int v_t_won, .int v_t_found, .int v_t_sought]))]) := by
  unfold f_Choice_wonOrNone at h
  refine CT_of R_Choice (by decide +kernel) rfl (Nat.le_of_ble_eq_true rfl) ?_
  intro p e R s m args below meth c A ls Q hR1 hR2 hQ hC hr hW hA hl
  have hx := hC.1
  have hb := hC.2.1
  have hl : lv_has ls 1 [(0, .ref a_t)] := hl
  refine lv_aload_n hx hb d_Choice_wonOrNone_0 rfl (lv_at hl 0 rfl) ?_
  refine x_get hC hW 0 rfl fl_Choice_27 rfl d_Choice_wonOrNone_1 ?_
  refine lv_if_eq (tgt := 14) hx hb d_Choice_wonOrNone_4 (by decide) (fun c_1 => ?_) (fun c_1 => ?_)
  · have h := it_e c_1 h
    refine lv_bipush (v := (-6 : Int32)) hx hb d_Choice_wonOrNone_14 (by decide) ?_
    cases h
    rw [hQ]
    exact x_iret hC hr hW d_Choice_wonOrNone_16
  · have h := ie_e c_1 h
    refine lv_aload_n hx hb d_Choice_wonOrNone_7 rfl (lv_at hl 0 rfl) ?_
    refine x_get hC hW 0 rfl fl_Choice_24 rfl d_Choice_wonOrNone_8 ?_
    refine lv_goto (tgt := 16) hx hb d_Choice_wonOrNone_11 (by decide) ?_
    cases h
    rw [hQ]
    exact x_iret hC hr hW d_Choice_wonOrNone_16

def f_Choice_sizeOrNone (v_t_found : Int32) (v_t_size : Int32) : Option (Int32) :=
  if v_t_found = (0 : Int32) then some ((-6 : Int32)) else some (v_t_size)
set_option maxHeartbeats 4000000 in
set_option maxRecDepth 100000 in
theorem c_Choice_sizeOrNone (l : Launch) (D : va_G) (I J Z : ClassId) (a_t : Nat) (a_t_tickets : Nat)  (v_t_size : Int32) (v_t_won : Int32) (v_t_found : Int32) (v_t_sought : Int32)  (out : (Int32)) (h : f_Choice_sizeOrNone v_t_found v_t_size = some out) : CT l D I J Z y_Choice_sizeOrNone b_Choice_sizeOrNone 1 (some .int) 1 [.ref a_t] [(a_t, .inr (0, [.ref a_t_tickets, .int v_t_size, .int v_t_won, .int v_t_found, .int v_t_sought]))] (PoI out D [(a_t, .inr (0, [.ref a_t_tickets, .int v_t_size, .int v_t_won, .int v_t_found, .int v_t_sought]))]) := by
  unfold f_Choice_sizeOrNone at h
  refine CT_of R_Choice (by decide +kernel) rfl (Nat.le_of_ble_eq_true rfl) ?_
  intro p e R s m args below meth c A ls Q hR1 hR2 hQ hC hr hW hA hl
  have hx := hC.1
  have hb := hC.2.1
  have hl : lv_has ls 1 [(0, .ref a_t)] := hl
  refine lv_aload_n hx hb d_Choice_sizeOrNone_0 rfl (lv_at hl 0 rfl) ?_
  refine x_get hC hW 0 rfl fl_Choice_27 rfl d_Choice_sizeOrNone_1 ?_
  refine lv_if_eq (tgt := 14) hx hb d_Choice_sizeOrNone_4 (by decide) (fun c_1 => ?_) (fun c_1 => ?_)
  · have h := it_e c_1 h
    refine lv_bipush (v := (-6 : Int32)) hx hb d_Choice_sizeOrNone_14 (by decide) ?_
    cases h
    rw [hQ]
    exact x_iret hC hr hW d_Choice_sizeOrNone_16
  · have h := ie_e c_1 h
    refine lv_aload_n hx hb d_Choice_sizeOrNone_7 rfl (lv_at hl 0 rfl) ?_
    refine x_get hC hW 0 rfl fl_Choice_20 rfl d_Choice_sizeOrNone_8 ?_
    refine lv_goto (tgt := 16) hx hb d_Choice_sizeOrNone_11 (by decide) ?_
    cases h
    rw [hQ]
    exact x_iret hC hr hW d_Choice_sizeOrNone_16

def f_Play_addSight (v_t_sightCount : Int32) (v_t_sightKinds_cells : Nat → Int32) (v_t_sightNumbers_cells : Nat → Int32) (v_t_sightTickets_cells : Nat → Int32) (p0 : Int32) (p1 : Int32) (p2 : Int32) : Option (Int32 × (Nat → Int32) × (Nat → Int32) × (Nat → Int32)) :=
  bk1 (f_Row_put 6 v_t_sightTickets_cells v_t_sightCount p0) fun w_1_0 => bk1 (f_Row_put 6 v_t_sightNumbers_cells v_t_sightCount p1) fun w_2_0 => bk1 (f_Row_put 6 v_t_sightKinds_cells v_t_sightCount p2) fun w_3_0 => some ((v_t_sightCount + (1 : Int32)), w_3_0, w_2_0, w_1_0)
set_option maxHeartbeats 4000000 in
set_option maxRecDepth 100000 in
theorem c_Play_addSight (l : Launch) (D : va_G) (I J Z : ClassId) (a_t : Nat) (a_t_sightKinds : Nat) (a_t_sightKinds_cells : Nat) (a_t_sightNumbers : Nat) (a_t_sightNumbers_cells : Nat) (a_t_sightTickets : Nat) (a_t_sightTickets_cells : Nat) (a_t_tickets : Nat) (a_t_prizes : Nat)  (v_t_n : Int32) (v_t_t : Int32) (v_t_d : Int32) (v_t_r : Int32) (v_t_fond : Int32) (v_t_ticketCount : Int32) (v_t_sightCount : Int32) (v_t_sightKinds_cells : Nat → Int32) (v_t_sightNumbers_cells : Nat → Int32) (v_t_sightTickets_cells : Nat → Int32) (p0 : Int32) (p1 : Int32) (p2 : Int32) (out : (Int32 × (Nat → Int32) × (Nat → Int32) × (Nat → Int32))) (h : f_Play_addSight v_t_sightCount v_t_sightKinds_cells v_t_sightNumbers_cells v_t_sightTickets_cells p0 p1 p2 = some out) : CT l D I J Z y_Play_addSight b_Play_addSight 4 none 2 [.ref a_t, .int p0, .int p1, .int p2] [(a_t, .inr (4, [.int v_t_n, .int v_t_t, .int v_t_d, .int v_t_r, .int v_t_fond, .int v_t_ticketCount, .ref a_t_tickets, .ref a_t_prizes, .int v_t_sightCount, .ref a_t_sightTickets, .ref a_t_sightNumbers, .ref a_t_sightKinds])), (a_t_sightKinds, .inr (5, [.ref a_t_sightKinds_cells])), (a_t_sightKinds_cells, .inl (I, 6, .inl v_t_sightKinds_cells)), (a_t_sightNumbers, .inr (5, [.ref a_t_sightNumbers_cells])), (a_t_sightNumbers_cells, .inl (I, 6, .inl v_t_sightNumbers_cells)), (a_t_sightTickets, .inr (5, [.ref a_t_sightTickets_cells])), (a_t_sightTickets_cells, .inl (I, 6, .inl v_t_sightTickets_cells))] (PoV D [(a_t, .inr (4, [.int v_t_n, .int v_t_t, .int v_t_d, .int v_t_r, .int v_t_fond, .int v_t_ticketCount, .ref a_t_tickets, .ref a_t_prizes, .int out.1, .ref a_t_sightTickets, .ref a_t_sightNumbers, .ref a_t_sightKinds])), (a_t_sightKinds, .inr (5, [.ref a_t_sightKinds_cells])), (a_t_sightKinds_cells, .inl (I, 6, .inl out.2.1)), (a_t_sightNumbers, .inr (5, [.ref a_t_sightNumbers_cells])), (a_t_sightNumbers_cells, .inl (I, 6, .inl out.2.2.1)), (a_t_sightTickets, .inr (5, [.ref a_t_sightTickets_cells])), (a_t_sightTickets_cells, .inl (I, 6, .inl out.2.2.2))]) := by
  unfold f_Play_addSight at h
  refine CT_of R_Play (by decide +kernel) rfl (Nat.le_of_ble_eq_true rfl) ?_
  intro p e R s m args below meth c A ls Q hR1 hR2 hQ hC hr hW hA hl
  have hx := hC.1
  have hb := hC.2.1
  have hl : lv_has ls 4 [(0, .ref a_t), (1, .int p0), (2, .int p1), (3, .int p2)] := hl
  refine lv_aload_n hx hb d_Play_addSight_0 rfl (lv_at hl 0 rfl) ?_
  refine x_get hC hW 0 rfl fl_Play_23 rfl d_Play_addSight_1 ?_
  refine lv_aload_n hx hb d_Play_addSight_4 rfl (lv_at hl 0 rfl) ?_
  refine x_get hC hW 0 rfl fl_Play_58 rfl d_Play_addSight_5 ?_
  refine lv_iload_n hx hb d_Play_addSight_8 rfl (lv_at hl 1 rfl) ?_
  obtain ⟨w_1_0, hc_1, h⟩ := bk1_e h
  refine x_cv (ws' := [(a_t, .inr (4, [.int v_t_n, .int v_t_t, .int v_t_d, .int v_t_r, .int v_t_fond, .int v_t_ticketCount, .ref a_t_tickets, .ref a_t_prizes, .int v_t_sightCount, .ref a_t_sightTickets, .ref a_t_sightNumbers, .ref a_t_sightKinds])), (a_t_sightKinds, .inr (5, [.ref a_t_sightKinds_cells])), (a_t_sightKinds_cells, .inl (I, 6, .inl v_t_sightKinds_cells)), (a_t_sightNumbers, .inr (5, [.ref a_t_sightNumbers_cells])), (a_t_sightNumbers_cells, .inl (I, 6, .inl v_t_sightNumbers_cells)), (a_t_sightTickets, .inr (5, [.ref a_t_sightTickets_cells])), (a_t_sightTickets_cells, .inl (I, 6, .inl w_1_0))]) (x_runV (As := [.int v_t_sightCount, .int p0]) (rest := []) hC hW (c_Row_put l D I J Z a_t_sightTickets a_t_sightTickets_cells 6 v_t_sightTickets_cells v_t_sightCount p0 (w_1_0) hc_1) cl_Play_61 q_code_Row_put [5, 6] rfl (by decide) 5 rfl rfl rfl rfl hl.1 (Nat.le_of_ble_eq_true rfl) (rm_ok hR1 hR2 (by decide) (by decide)) ⟨Nat.zero_le _, Nat.zero_le _⟩ d_Play_addSight_9) hW hA [5, 6] rfl rfl (ps := [none, none, none, none, none, some 0, some 1]) (by decide +kernel) ⟨rfl, rfl, rfl, rfl, rfl, rfl, rfl, trivial⟩ (fun H locs hW => ?_)
  refine lv_aload_n hx hb d_Play_addSight_12 rfl (lv_at hl 0 rfl) ?_
  refine x_get hC hW 0 rfl fl_Play_26 rfl d_Play_addSight_13 ?_
  refine lv_aload_n hx hb d_Play_addSight_16 rfl (lv_at hl 0 rfl) ?_
  refine x_get hC hW 0 rfl fl_Play_58 rfl d_Play_addSight_17 ?_
  refine lv_iload_n hx hb d_Play_addSight_20 rfl (lv_at hl 2 rfl) ?_
  obtain ⟨w_2_0, hc_2, h⟩ := bk1_e h
  refine x_cv (ws' := [(a_t, .inr (4, [.int v_t_n, .int v_t_t, .int v_t_d, .int v_t_r, .int v_t_fond, .int v_t_ticketCount, .ref a_t_tickets, .ref a_t_prizes, .int v_t_sightCount, .ref a_t_sightTickets, .ref a_t_sightNumbers, .ref a_t_sightKinds])), (a_t_sightKinds, .inr (5, [.ref a_t_sightKinds_cells])), (a_t_sightKinds_cells, .inl (I, 6, .inl v_t_sightKinds_cells)), (a_t_sightNumbers, .inr (5, [.ref a_t_sightNumbers_cells])), (a_t_sightNumbers_cells, .inl (I, 6, .inl w_2_0)), (a_t_sightTickets, .inr (5, [.ref a_t_sightTickets_cells])), (a_t_sightTickets_cells, .inl (I, 6, .inl w_1_0))]) (x_runV (As := [.int v_t_sightCount, .int p1]) (rest := []) hC hW (c_Row_put l D I J Z a_t_sightNumbers a_t_sightNumbers_cells 6 v_t_sightNumbers_cells v_t_sightCount p1 (w_2_0) hc_2) cl_Play_61 q_code_Row_put [3, 4] rfl (by decide) 3 rfl rfl rfl rfl hl.1 (Nat.le_of_ble_eq_true rfl) (rm_ok hR1 hR2 (by decide) (by decide)) ⟨Nat.zero_le _, Nat.zero_le _⟩ d_Play_addSight_21) hW hA [3, 4] rfl rfl (ps := [none, none, none, some 0, some 1, none, none]) (by decide +kernel) ⟨rfl, rfl, rfl, rfl, rfl, rfl, rfl, trivial⟩ (fun H locs hW => ?_)
  refine lv_aload_n hx hb d_Play_addSight_24 rfl (lv_at hl 0 rfl) ?_
  refine x_get hC hW 0 rfl fl_Play_29 rfl d_Play_addSight_25 ?_
  refine lv_aload_n hx hb d_Play_addSight_28 rfl (lv_at hl 0 rfl) ?_
  refine x_get hC hW 0 rfl fl_Play_58 rfl d_Play_addSight_29 ?_
  refine lv_iload_n hx hb d_Play_addSight_32 rfl (lv_at hl 3 rfl) ?_
  obtain ⟨w_3_0, hc_3, h⟩ := bk1_e h
  refine x_cv (ws' := [(a_t, .inr (4, [.int v_t_n, .int v_t_t, .int v_t_d, .int v_t_r, .int v_t_fond, .int v_t_ticketCount, .ref a_t_tickets, .ref a_t_prizes, .int v_t_sightCount, .ref a_t_sightTickets, .ref a_t_sightNumbers, .ref a_t_sightKinds])), (a_t_sightKinds, .inr (5, [.ref a_t_sightKinds_cells])), (a_t_sightKinds_cells, .inl (I, 6, .inl w_3_0)), (a_t_sightNumbers, .inr (5, [.ref a_t_sightNumbers_cells])), (a_t_sightNumbers_cells, .inl (I, 6, .inl w_2_0)), (a_t_sightTickets, .inr (5, [.ref a_t_sightTickets_cells])), (a_t_sightTickets_cells, .inl (I, 6, .inl w_1_0))]) (x_runV (As := [.int v_t_sightCount, .int p2]) (rest := []) hC hW (c_Row_put l D I J Z a_t_sightKinds a_t_sightKinds_cells 6 v_t_sightKinds_cells v_t_sightCount p2 (w_3_0) hc_3) cl_Play_61 q_code_Row_put [1, 2] rfl (by decide) 1 rfl rfl rfl rfl hl.1 (Nat.le_of_ble_eq_true rfl) (rm_ok hR1 hR2 (by decide) (by decide)) ⟨Nat.zero_le _, Nat.zero_le _⟩ d_Play_addSight_33) hW hA [1, 2] rfl rfl (ps := [none, some 0, some 1, none, none, none, none]) (by decide +kernel) ⟨rfl, rfl, rfl, rfl, rfl, rfl, rfl, trivial⟩ (fun H locs hW => ?_)
  refine lv_aload_n hx hb d_Play_addSight_36 rfl (lv_at hl 0 rfl) ?_
  refine lv_dup hx hb d_Play_addSight_37 rfl ?_
  refine x_get hC hW 0 rfl fl_Play_58 rfl d_Play_addSight_38 ?_
  refine lv_iconst (v := (1 : Int32)) hx hb d_Play_addSight_41 (by decide) ?_
  refine lv_iadd hx hb d_Play_addSight_42 ?_
  refine x_put (ws' := [(a_t, .inr (4, [.int v_t_n, .int v_t_t, .int v_t_d, .int v_t_r, .int v_t_fond, .int v_t_ticketCount, .ref a_t_tickets, .ref a_t_prizes, .int (v_t_sightCount + (1 : Int32)), .ref a_t_sightTickets, .ref a_t_sightNumbers, .ref a_t_sightKinds])), (a_t_sightKinds, .inr (5, [.ref a_t_sightKinds_cells])), (a_t_sightKinds_cells, .inl (I, 6, .inl w_3_0)), (a_t_sightNumbers, .inr (5, [.ref a_t_sightNumbers_cells])), (a_t_sightNumbers_cells, .inl (I, 6, .inl w_2_0)), (a_t_sightTickets, .inr (5, [.ref a_t_sightTickets_cells])), (a_t_sightTickets_cells, .inl (I, 6, .inl w_1_0))]) hC hW 0 rfl fp_Play_58 rfl rfl (Nat.le_of_ble_eq_true rfl) d_Play_addSight_43 rfl (fun H locs hW => ?_)
  cases h
  rw [hQ]
  exact x_vret hC hr hW d_Play_addSight_46

def f_Play_holdsSight (v_t_sightKinds_cells : Nat → Int32) (v_t_sightNumbers_cells : Nat → Int32) (v_t_sightTickets_cells : Nat → Int32) (v_t_tickets_cells : Nat → Int32) (p0 : Int32) (p1 : Int32) : Option (Int32) :=
  bk1 (f_Row_at 6 v_t_sightTickets_cells p0) fun r_1 => bk1 (f_Play_countRight v_t_tickets_cells r_1 p1) fun r_2 => bk1 (f_Row_at 6 v_t_sightNumbers_cells p0) fun r_3 => bk1 (f_Row_at 6 v_t_sightKinds_cells p0) fun r_4 => if r_4 = (0 : Int32) then if r_2 = r_3 then some ((1 : Int32)) else some ((0 : Int32)) else if r_4 = (1 : Int32) then if r_2 < r_3 then some ((0 : Int32)) else some ((1 : Int32)) else if r_3 ≤ r_2 then some ((0 : Int32)) else some ((1 : Int32))
set_option maxHeartbeats 4000000 in
set_option maxRecDepth 100000 in
theorem c_Play_holdsSight (l : Launch) (D : va_G) (I J Z : ClassId) (a_t : Nat) (a_t_sightKinds : Nat) (a_t_sightKinds_cells : Nat) (a_t_sightNumbers : Nat) (a_t_sightNumbers_cells : Nat) (a_t_sightTickets : Nat) (a_t_sightTickets_cells : Nat) (a_t_tickets : Nat) (a_t_tickets_cells : Nat) (a_t_prizes : Nat)  (v_t_n : Int32) (v_t_t : Int32) (v_t_d : Int32) (v_t_r : Int32) (v_t_fond : Int32) (v_t_ticketCount : Int32) (v_t_sightCount : Int32) (v_t_sightKinds_cells : Nat → Int32) (v_t_sightNumbers_cells : Nat → Int32) (v_t_sightTickets_cells : Nat → Int32) (v_t_tickets_cells : Nat → Int32) (p0 : Int32) (p1 : Int32) (out : (Int32)) (h : f_Play_holdsSight v_t_sightKinds_cells v_t_sightNumbers_cells v_t_sightTickets_cells v_t_tickets_cells p0 p1 = some out) : CT l D I J Z y_Play_holdsSight b_Play_holdsSight 5 (some .boolean) 3 [.ref a_t, .int p0, .int p1] [(a_t, .inr (4, [.int v_t_n, .int v_t_t, .int v_t_d, .int v_t_r, .int v_t_fond, .int v_t_ticketCount, .ref a_t_tickets, .ref a_t_prizes, .int v_t_sightCount, .ref a_t_sightTickets, .ref a_t_sightNumbers, .ref a_t_sightKinds])), (a_t_sightKinds, .inr (5, [.ref a_t_sightKinds_cells])), (a_t_sightKinds_cells, .inl (I, 6, .inl v_t_sightKinds_cells)), (a_t_sightNumbers, .inr (5, [.ref a_t_sightNumbers_cells])), (a_t_sightNumbers_cells, .inl (I, 6, .inl v_t_sightNumbers_cells)), (a_t_sightTickets, .inr (5, [.ref a_t_sightTickets_cells])), (a_t_sightTickets_cells, .inl (I, 6, .inl v_t_sightTickets_cells)), (a_t_tickets, .inr (5, [.ref a_t_tickets_cells])), (a_t_tickets_cells, .inl (I, 6, .inl v_t_tickets_cells))] (PoI out D [(a_t, .inr (4, [.int v_t_n, .int v_t_t, .int v_t_d, .int v_t_r, .int v_t_fond, .int v_t_ticketCount, .ref a_t_tickets, .ref a_t_prizes, .int v_t_sightCount, .ref a_t_sightTickets, .ref a_t_sightNumbers, .ref a_t_sightKinds])), (a_t_sightKinds, .inr (5, [.ref a_t_sightKinds_cells])), (a_t_sightKinds_cells, .inl (I, 6, .inl v_t_sightKinds_cells)), (a_t_sightNumbers, .inr (5, [.ref a_t_sightNumbers_cells])), (a_t_sightNumbers_cells, .inl (I, 6, .inl v_t_sightNumbers_cells)), (a_t_sightTickets, .inr (5, [.ref a_t_sightTickets_cells])), (a_t_sightTickets_cells, .inl (I, 6, .inl v_t_sightTickets_cells)), (a_t_tickets, .inr (5, [.ref a_t_tickets_cells])), (a_t_tickets_cells, .inl (I, 6, .inl v_t_tickets_cells))]) := by
  unfold f_Play_holdsSight at h
  refine CT_of R_Play (by decide +kernel) rfl (Nat.le_of_ble_eq_true rfl) ?_
  intro p e R s m args below meth c A ls Q hR1 hR2 hQ hC hr hW hA hl
  have hx := hC.1
  have hb := hC.2.1
  have hl : lv_has ls 5 [(0, .ref a_t), (1, .int p0), (2, .int p1)] := hl
  refine lv_aload_n hx hb d_Play_holdsSight_0 rfl (lv_at hl 0 rfl) ?_
  refine lv_aload_n hx hb d_Play_holdsSight_1 rfl (lv_at hl 0 rfl) ?_
  refine x_get hC hW 0 rfl fl_Play_23 rfl d_Play_holdsSight_2 ?_
  refine lv_iload_n hx hb d_Play_holdsSight_5 rfl (lv_at hl 1 rfl) ?_
  obtain ⟨r_1, hc_1, h⟩ := bk1_e h
  refine x_ci (ws' := [(a_t, .inr (4, [.int v_t_n, .int v_t_t, .int v_t_d, .int v_t_r, .int v_t_fond, .int v_t_ticketCount, .ref a_t_tickets, .ref a_t_prizes, .int v_t_sightCount, .ref a_t_sightTickets, .ref a_t_sightNumbers, .ref a_t_sightKinds])), (a_t_sightKinds, .inr (5, [.ref a_t_sightKinds_cells])), (a_t_sightKinds_cells, .inl (I, 6, .inl v_t_sightKinds_cells)), (a_t_sightNumbers, .inr (5, [.ref a_t_sightNumbers_cells])), (a_t_sightNumbers_cells, .inl (I, 6, .inl v_t_sightNumbers_cells)), (a_t_sightTickets, .inr (5, [.ref a_t_sightTickets_cells])), (a_t_sightTickets_cells, .inl (I, 6, .inl v_t_sightTickets_cells)), (a_t_tickets, .inr (5, [.ref a_t_tickets_cells])), (a_t_tickets_cells, .inl (I, 6, .inl v_t_tickets_cells))]) (x_runV (As := [.int p0]) (rest := [.ref a_t]) hC hW (c_Row_at l D I J Z a_t_sightTickets a_t_sightTickets_cells 6 v_t_sightTickets_cells p0 (r_1) hc_1) cl_Play_87 q_code_Row_at [5, 6] rfl (by decide) 5 rfl rfl rfl rfl hl.1 (Nat.le_of_ble_eq_true rfl) (rm_ok hR1 hR2 (by decide) (by decide)) ⟨Nat.zero_le _, Nat.zero_le _⟩ d_Play_holdsSight_6) hW hA [5, 6] rfl rfl (ps := [none, none, none, none, none, some 0, some 1, none, none]) (by decide +kernel) ⟨rfl, rfl, rfl, rfl, rfl, rfl, rfl, rfl, rfl, trivial⟩ (fun H locs hW => ?_)
  refine lv_iload_n hx hb d_Play_holdsSight_9 rfl (lv_at hl 2 rfl) ?_
  obtain ⟨r_2, hc_2, h⟩ := bk1_e h
  refine x_ci (ws' := [(a_t, .inr (4, [.int v_t_n, .int v_t_t, .int v_t_d, .int v_t_r, .int v_t_fond, .int v_t_ticketCount, .ref a_t_tickets, .ref a_t_prizes, .int v_t_sightCount, .ref a_t_sightTickets, .ref a_t_sightNumbers, .ref a_t_sightKinds])), (a_t_sightKinds, .inr (5, [.ref a_t_sightKinds_cells])), (a_t_sightKinds_cells, .inl (I, 6, .inl v_t_sightKinds_cells)), (a_t_sightNumbers, .inr (5, [.ref a_t_sightNumbers_cells])), (a_t_sightNumbers_cells, .inl (I, 6, .inl v_t_sightNumbers_cells)), (a_t_sightTickets, .inr (5, [.ref a_t_sightTickets_cells])), (a_t_sightTickets_cells, .inl (I, 6, .inl v_t_sightTickets_cells)), (a_t_tickets, .inr (5, [.ref a_t_tickets_cells])), (a_t_tickets_cells, .inl (I, 6, .inl v_t_tickets_cells))]) (x_runV (As := [.int r_1, .int p1]) (rest := []) hC hW (c_Play_countRight l D I J Z a_t a_t_tickets a_t_tickets_cells a_t_prizes a_t_sightTickets a_t_sightNumbers a_t_sightKinds v_t_n v_t_t v_t_d v_t_r v_t_fond v_t_ticketCount v_t_sightCount v_t_tickets_cells r_1 p1 (r_2) hc_2) cl_Play_90 q_code_Play_countRight [0, 7, 8] rfl (by decide) 0 rfl rfl rfl rfl hl.1 (Nat.le_of_ble_eq_true rfl) (rm_ok hR1 hR2 (by decide) (by decide)) ⟨Nat.zero_le _, Nat.zero_le _⟩ d_Play_holdsSight_10) hW hA [0, 7, 8] rfl rfl (ps := [some 0, none, none, none, none, none, none, some 1, some 2]) (by decide +kernel) ⟨rfl, rfl, rfl, rfl, rfl, rfl, rfl, rfl, rfl, trivial⟩ (fun H locs hW => ?_)
  refine lv_istore_n (lv' := [(3, .int r_2), (0, .ref a_t), (1, .int p0), (2, .int p1)]) hx hb d_Play_holdsSight_13 rfl hl (by decide) rfl (fun ls hl => ?_)
  refine lv_aload_n hx hb d_Play_holdsSight_14 rfl (lv_at hl 1 rfl) ?_
  refine x_get hC hW 0 rfl fl_Play_26 rfl d_Play_holdsSight_15 ?_
  refine lv_iload_n hx hb d_Play_holdsSight_18 rfl (lv_at hl 2 rfl) ?_
  obtain ⟨r_3, hc_3, h⟩ := bk1_e h
  refine x_ci (ws' := [(a_t, .inr (4, [.int v_t_n, .int v_t_t, .int v_t_d, .int v_t_r, .int v_t_fond, .int v_t_ticketCount, .ref a_t_tickets, .ref a_t_prizes, .int v_t_sightCount, .ref a_t_sightTickets, .ref a_t_sightNumbers, .ref a_t_sightKinds])), (a_t_sightKinds, .inr (5, [.ref a_t_sightKinds_cells])), (a_t_sightKinds_cells, .inl (I, 6, .inl v_t_sightKinds_cells)), (a_t_sightNumbers, .inr (5, [.ref a_t_sightNumbers_cells])), (a_t_sightNumbers_cells, .inl (I, 6, .inl v_t_sightNumbers_cells)), (a_t_sightTickets, .inr (5, [.ref a_t_sightTickets_cells])), (a_t_sightTickets_cells, .inl (I, 6, .inl v_t_sightTickets_cells)), (a_t_tickets, .inr (5, [.ref a_t_tickets_cells])), (a_t_tickets_cells, .inl (I, 6, .inl v_t_tickets_cells))]) (x_runV (As := [.int p0]) (rest := []) hC hW (c_Row_at l D I J Z a_t_sightNumbers a_t_sightNumbers_cells 6 v_t_sightNumbers_cells p0 (r_3) hc_3) cl_Play_87 q_code_Row_at [3, 4] rfl (by decide) 3 rfl rfl rfl rfl hl.1 (Nat.le_of_ble_eq_true rfl) (rm_ok hR1 hR2 (by decide) (by decide)) ⟨Nat.zero_le _, Nat.zero_le _⟩ d_Play_holdsSight_19) hW hA [3, 4] rfl rfl (ps := [none, none, none, some 0, some 1, none, none, none, none]) (by decide +kernel) ⟨rfl, rfl, rfl, rfl, rfl, rfl, rfl, rfl, rfl, trivial⟩ (fun H locs hW => ?_)
  refine lv_istore (lv' := [(4, .int r_3), (3, .int r_2), (0, .ref a_t), (1, .int p0), (2, .int p1)]) hx hb d_Play_holdsSight_22 hl (by decide) rfl (fun ls hl => ?_)
  refine lv_aload_n hx hb d_Play_holdsSight_24 rfl (lv_at hl 2 rfl) ?_
  refine x_get hC hW 0 rfl fl_Play_29 rfl d_Play_holdsSight_25 ?_
  refine lv_iload_n hx hb d_Play_holdsSight_28 rfl (lv_at hl 3 rfl) ?_
  obtain ⟨r_4, hc_4, h⟩ := bk1_e h
  refine x_ci (ws' := [(a_t, .inr (4, [.int v_t_n, .int v_t_t, .int v_t_d, .int v_t_r, .int v_t_fond, .int v_t_ticketCount, .ref a_t_tickets, .ref a_t_prizes, .int v_t_sightCount, .ref a_t_sightTickets, .ref a_t_sightNumbers, .ref a_t_sightKinds])), (a_t_sightKinds, .inr (5, [.ref a_t_sightKinds_cells])), (a_t_sightKinds_cells, .inl (I, 6, .inl v_t_sightKinds_cells)), (a_t_sightNumbers, .inr (5, [.ref a_t_sightNumbers_cells])), (a_t_sightNumbers_cells, .inl (I, 6, .inl v_t_sightNumbers_cells)), (a_t_sightTickets, .inr (5, [.ref a_t_sightTickets_cells])), (a_t_sightTickets_cells, .inl (I, 6, .inl v_t_sightTickets_cells)), (a_t_tickets, .inr (5, [.ref a_t_tickets_cells])), (a_t_tickets_cells, .inl (I, 6, .inl v_t_tickets_cells))]) (x_runV (As := [.int p0]) (rest := []) hC hW (c_Row_at l D I J Z a_t_sightKinds a_t_sightKinds_cells 6 v_t_sightKinds_cells p0 (r_4) hc_4) cl_Play_87 q_code_Row_at [1, 2] rfl (by decide) 1 rfl rfl rfl rfl hl.1 (Nat.le_of_ble_eq_true rfl) (rm_ok hR1 hR2 (by decide) (by decide)) ⟨Nat.zero_le _, Nat.zero_le _⟩ d_Play_holdsSight_29) hW hA [1, 2] rfl rfl (ps := [none, some 0, some 1, none, none, none, none, none, none]) (by decide +kernel) ⟨rfl, rfl, rfl, rfl, rfl, rfl, rfl, rfl, rfl, trivial⟩ (fun H locs hW => ?_)
  by_cases c_5_0 : r_4 = (0 : Int32)
  · have h := it_e c_5_0 h
    refine lv_lookup (off := 28) (tgt := 60) hx hb d_Play_holdsSight_32 (by decide) (by rw [c_5_0]; decide) (by decide) ?_
    refine lv_iload_n hx hb d_Play_holdsSight_60 rfl (lv_at hl 1 rfl) ?_
    refine lv_iload hx hb d_Play_holdsSight_61 (lv_at hl 0 rfl) ?_
    refine lv_icmp_ne (tgt := 70) hx hb d_Play_holdsSight_63 (by decide) (fun c_6 => ?_) (fun c_6 => ?_)
    · have h := ie_e c_6 h
      refine lv_iconst (v := (0 : Int32)) hx hb d_Play_holdsSight_70 (by decide) ?_
      cases h
      rw [hQ]
      exact x_zret hC hr (show narrow .boolean (.int (0 : Int32)) = .int (0 : Int32) from rfl) hW d_Play_holdsSight_71
    · have h := it_e c_6 h
      refine lv_iconst (v := (1 : Int32)) hx hb d_Play_holdsSight_66 (by decide) ?_
      refine lv_goto (tgt := 71) hx hb d_Play_holdsSight_67 (by decide) ?_
      cases h
      rw [hQ]
      exact x_zret hC hr (show narrow .boolean (.int (1 : Int32)) = .int (1 : Int32) from rfl) hW d_Play_holdsSight_71
  replace h := ie_e c_5_0 h
  by_cases c_5_1 : r_4 = (1 : Int32)
  · have h := it_e c_5_1 h
    refine lv_lookup (off := 40) (tgt := 72) hx hb d_Play_holdsSight_32 (by decide) (by rw [c_5_1]; decide) (by decide) ?_
    refine lv_iload_n hx hb d_Play_holdsSight_72 rfl (lv_at hl 1 rfl) ?_
    refine lv_iload hx hb d_Play_holdsSight_73 (lv_at hl 0 rfl) ?_
    refine lv_icmp_lt (tgt := 82) hx hb d_Play_holdsSight_75 (by decide) (fun c_7 => ?_) (fun c_7 => ?_)
    · have h := it_e c_7 h
      refine lv_iconst (v := (0 : Int32)) hx hb d_Play_holdsSight_82 (by decide) ?_
      cases h
      rw [hQ]
      exact x_zret hC hr (show narrow .boolean (.int (0 : Int32)) = .int (0 : Int32) from rfl) hW d_Play_holdsSight_83
    · have h := ie_e c_7 h
      refine lv_iconst (v := (1 : Int32)) hx hb d_Play_holdsSight_78 (by decide) ?_
      refine lv_goto (tgt := 83) hx hb d_Play_holdsSight_79 (by decide) ?_
      cases h
      rw [hQ]
      exact x_zret hC hr (show narrow .boolean (.int (1 : Int32)) = .int (1 : Int32) from rfl) hW d_Play_holdsSight_83
  replace h := ie_e c_5_1 h
  refine lv_lookup (off := 52) (tgt := 84) hx hb d_Play_holdsSight_32 (by decide) (lsw_2 c_5_0 c_5_1) (by decide) ?_
  refine lv_iload_n hx hb d_Play_holdsSight_84 rfl (lv_at hl 1 rfl) ?_
  refine lv_iload hx hb d_Play_holdsSight_85 (lv_at hl 0 rfl) ?_
  refine lv_icmp_ge (tgt := 94) hx hb d_Play_holdsSight_87 (by decide) (fun c_8 => ?_) (fun c_8 => ?_)
  · have h := it_e c_8 h
    refine lv_iconst (v := (0 : Int32)) hx hb d_Play_holdsSight_94 (by decide) ?_
    cases h
    rw [hQ]
    exact x_zret hC hr (show narrow .boolean (.int (0 : Int32)) = .int (0 : Int32) from rfl) hW d_Play_holdsSight_95
  · have h := ie_e c_8 h
    refine lv_iconst (v := (1 : Int32)) hx hb d_Play_holdsSight_90 (by decide) ?_
    refine lv_goto (tgt := 95) hx hb d_Play_holdsSight_91 (by decide) ?_
    cases h
    rw [hQ]
    exact x_zret hC hr (show narrow .boolean (.int (1 : Int32)) = .int (1 : Int32) from rfl) hW d_Play_holdsSight_95

def L_Play_holdsSights_2 (x1 : Int32) (v_t_sightCount : Int32) (v_t_sightKinds_cells : Nat → Int32) (v_t_sightNumbers_cells : Nat → Int32) (v_t_sightTickets_cells : Nat → Int32) (v_t_tickets_cells : Nat → Int32) : Nat → Int32 → Option (Except (Int32) (Int32))
  | 0, _ => none
  | n + 1, x2 => if v_t_sightCount ≤ x2 then some (.ok (x2)) else bk1 (f_Play_holdsSight v_t_sightKinds_cells v_t_sightNumbers_cells v_t_sightTickets_cells v_t_tickets_cells x2 x1) fun r_2 => if r_2 = (0 : Int32) then some (.error ((0 : Int32))) else L_Play_holdsSights_2 x1 v_t_sightCount v_t_sightKinds_cells v_t_sightNumbers_cells v_t_sightTickets_cells v_t_tickets_cells n (x2 + (1 : Int32))
def f_Play_holdsSights (v_t_sightCount : Int32) (v_t_sightKinds_cells : Nat → Int32) (v_t_sightNumbers_cells : Nat → Int32) (v_t_sightTickets_cells : Nat → Int32) (v_t_tickets_cells : Nat → Int32) (p0 : Int32) : Option (Int32) :=
  lm1 (L_Play_holdsSights_2 p0 v_t_sightCount v_t_sightKinds_cells v_t_sightNumbers_cells v_t_sightTickets_cells v_t_tickets_cells 300 (0 : Int32)) fun yx2_4 => some ((1 : Int32))
set_option maxHeartbeats 4000000 in
set_option maxRecDepth 100000 in
theorem c_Play_holdsSights (l : Launch) (D : va_G) (I J Z : ClassId) (a_t : Nat) (a_t_sightKinds : Nat) (a_t_sightKinds_cells : Nat) (a_t_sightNumbers : Nat) (a_t_sightNumbers_cells : Nat) (a_t_sightTickets : Nat) (a_t_sightTickets_cells : Nat) (a_t_tickets : Nat) (a_t_tickets_cells : Nat) (a_t_prizes : Nat)  (v_t_n : Int32) (v_t_t : Int32) (v_t_d : Int32) (v_t_r : Int32) (v_t_fond : Int32) (v_t_ticketCount : Int32) (v_t_sightCount : Int32) (v_t_sightKinds_cells : Nat → Int32) (v_t_sightNumbers_cells : Nat → Int32) (v_t_sightTickets_cells : Nat → Int32) (v_t_tickets_cells : Nat → Int32) (p0 : Int32) (out : (Int32)) (h : f_Play_holdsSights v_t_sightCount v_t_sightKinds_cells v_t_sightNumbers_cells v_t_sightTickets_cells v_t_tickets_cells p0 = some out) : CT l D I J Z y_Play_holdsSights b_Play_holdsSights 3 (some .boolean) 4 [.ref a_t, .int p0] [(a_t, .inr (4, [.int v_t_n, .int v_t_t, .int v_t_d, .int v_t_r, .int v_t_fond, .int v_t_ticketCount, .ref a_t_tickets, .ref a_t_prizes, .int v_t_sightCount, .ref a_t_sightTickets, .ref a_t_sightNumbers, .ref a_t_sightKinds])), (a_t_sightKinds, .inr (5, [.ref a_t_sightKinds_cells])), (a_t_sightKinds_cells, .inl (I, 6, .inl v_t_sightKinds_cells)), (a_t_sightNumbers, .inr (5, [.ref a_t_sightNumbers_cells])), (a_t_sightNumbers_cells, .inl (I, 6, .inl v_t_sightNumbers_cells)), (a_t_sightTickets, .inr (5, [.ref a_t_sightTickets_cells])), (a_t_sightTickets_cells, .inl (I, 6, .inl v_t_sightTickets_cells)), (a_t_tickets, .inr (5, [.ref a_t_tickets_cells])), (a_t_tickets_cells, .inl (I, 6, .inl v_t_tickets_cells))] (PoI out D [(a_t, .inr (4, [.int v_t_n, .int v_t_t, .int v_t_d, .int v_t_r, .int v_t_fond, .int v_t_ticketCount, .ref a_t_tickets, .ref a_t_prizes, .int v_t_sightCount, .ref a_t_sightTickets, .ref a_t_sightNumbers, .ref a_t_sightKinds])), (a_t_sightKinds, .inr (5, [.ref a_t_sightKinds_cells])), (a_t_sightKinds_cells, .inl (I, 6, .inl v_t_sightKinds_cells)), (a_t_sightNumbers, .inr (5, [.ref a_t_sightNumbers_cells])), (a_t_sightNumbers_cells, .inl (I, 6, .inl v_t_sightNumbers_cells)), (a_t_sightTickets, .inr (5, [.ref a_t_sightTickets_cells])), (a_t_sightTickets_cells, .inl (I, 6, .inl v_t_sightTickets_cells)), (a_t_tickets, .inr (5, [.ref a_t_tickets_cells])), (a_t_tickets_cells, .inl (I, 6, .inl v_t_tickets_cells))]) := by
  unfold f_Play_holdsSights at h
  refine CT_of R_Play (by decide +kernel) rfl (Nat.le_of_ble_eq_true rfl) ?_
  intro p e R s m args below meth c A ls Q hR1 hR2 hQ hC hr hW hA hl
  have hx := hC.1
  have hb := hC.2.1
  have hl : lv_has ls 3 [(0, .ref a_t), (1, .int p0)] := hl
  have lp2 : ∀ (n : Nat) (x1 : Int32) (x2 : Int32) (res : Except (Int32) (Int32)), L_Play_holdsSights_2 x1 v_t_sightCount v_t_sightKinds_cells v_t_sightNumbers_cells v_t_sightTickets_cells v_t_tickets_cells n x2 = some res → (∀ r, res = .error r → r = out) →
    (∀ (yx2 : Int32), res = .ok (yx2) → ∀ H locs, Wd D A s.heap [(a_t, .inr (4, [.int v_t_n, .int v_t_t, .int v_t_d, .int v_t_r, .int v_t_fond, .int v_t_ticketCount, .ref a_t_tickets, .ref a_t_prizes, .int v_t_sightCount, .ref a_t_sightTickets, .ref a_t_sightNumbers, .ref a_t_sightKinds])), (a_t_sightKinds, .inr (5, [.ref a_t_sightKinds_cells])), (a_t_sightKinds_cells, .inl (I, 6, .inl v_t_sightKinds_cells)), (a_t_sightNumbers, .inr (5, [.ref a_t_sightNumbers_cells])), (a_t_sightNumbers_cells, .inl (I, 6, .inl v_t_sightNumbers_cells)), (a_t_sightTickets, .inr (5, [.ref a_t_sightTickets_cells])), (a_t_sightTickets_cells, .inl (I, 6, .inl v_t_sightTickets_cells)), (a_t_tickets, .inr (5, [.ref a_t_tickets_cells])), (a_t_tickets_cells, .inl (I, 6, .inl v_t_tickets_cells))] H locs → ∀ ls, lv_has ls 3 [(0, .ref a_t), (1, .int x1), (2, .int yx2)] → W p l e R s m args below meth c H locs 0 0 Q (F0 m 27 ls [])) →
    ∀ H locs, Wd D A s.heap [(a_t, .inr (4, [.int v_t_n, .int v_t_t, .int v_t_d, .int v_t_r, .int v_t_fond, .int v_t_ticketCount, .ref a_t_tickets, .ref a_t_prizes, .int v_t_sightCount, .ref a_t_sightTickets, .ref a_t_sightNumbers, .ref a_t_sightKinds])), (a_t_sightKinds, .inr (5, [.ref a_t_sightKinds_cells])), (a_t_sightKinds_cells, .inl (I, 6, .inl v_t_sightKinds_cells)), (a_t_sightNumbers, .inr (5, [.ref a_t_sightNumbers_cells])), (a_t_sightNumbers_cells, .inl (I, 6, .inl v_t_sightNumbers_cells)), (a_t_sightTickets, .inr (5, [.ref a_t_sightTickets_cells])), (a_t_sightTickets_cells, .inl (I, 6, .inl v_t_sightTickets_cells)), (a_t_tickets, .inr (5, [.ref a_t_tickets_cells])), (a_t_tickets_cells, .inl (I, 6, .inl v_t_tickets_cells))] H locs → ∀ ls, lv_has ls 3 [(0, .ref a_t), (1, .int x1), (2, .int x2)] → W p l e R s m args below meth c H locs 0 0 Q (F0 m 2 ls []) := by
    intro n
    induction n with
    | zero =>
      intro x1 x2 res h
      exact no_e h
    | succ n ih =>
      intro x1 x2 res h hret K H locs hW ls hl
      rw [L_Play_holdsSights_2] at h
      refine lv_iload_n hx hb d_Play_holdsSights_2 rfl (lv_at hl 2 rfl) ?_
      refine lv_aload_n hx hb d_Play_holdsSights_3 rfl (lv_at hl 0 rfl) ?_
      refine x_get hC hW 0 rfl fl_Play_58 rfl d_Play_holdsSights_4 ?_
      refine lv_icmp_ge (tgt := 27) hx hb d_Play_holdsSights_7 (by decide) (fun c_1 => ?_) (fun c_1 => ?_)
      · have h := it_e c_1 h
        cases h
        exact K _ rfl _ _ hW ls (lv_sub hl [0, 1, 2] rfl)
      · have h := ie_e c_1 h
        refine lv_aload_n hx hb d_Play_holdsSights_10 rfl (lv_at hl 0 rfl) ?_
        refine lv_iload_n hx hb d_Play_holdsSights_11 rfl (lv_at hl 2 rfl) ?_
        refine lv_iload_n hx hb d_Play_holdsSights_12 rfl (lv_at hl 1 rfl) ?_
        obtain ⟨r_2, hc_2, h⟩ := bk1_e h
        refine x_ci (ws' := [(a_t, .inr (4, [.int v_t_n, .int v_t_t, .int v_t_d, .int v_t_r, .int v_t_fond, .int v_t_ticketCount, .ref a_t_tickets, .ref a_t_prizes, .int v_t_sightCount, .ref a_t_sightTickets, .ref a_t_sightNumbers, .ref a_t_sightKinds])), (a_t_sightKinds, .inr (5, [.ref a_t_sightKinds_cells])), (a_t_sightKinds_cells, .inl (I, 6, .inl v_t_sightKinds_cells)), (a_t_sightNumbers, .inr (5, [.ref a_t_sightNumbers_cells])), (a_t_sightNumbers_cells, .inl (I, 6, .inl v_t_sightNumbers_cells)), (a_t_sightTickets, .inr (5, [.ref a_t_sightTickets_cells])), (a_t_sightTickets_cells, .inl (I, 6, .inl v_t_sightTickets_cells)), (a_t_tickets, .inr (5, [.ref a_t_tickets_cells])), (a_t_tickets_cells, .inl (I, 6, .inl v_t_tickets_cells))]) (x_runV (As := [.int x2, .int x1]) (rest := []) hC hW (c_Play_holdsSight l D I J Z a_t a_t_sightKinds a_t_sightKinds_cells a_t_sightNumbers a_t_sightNumbers_cells a_t_sightTickets a_t_sightTickets_cells a_t_tickets a_t_tickets_cells a_t_prizes v_t_n v_t_t v_t_d v_t_r v_t_fond v_t_ticketCount v_t_sightCount v_t_sightKinds_cells v_t_sightNumbers_cells v_t_sightTickets_cells v_t_tickets_cells x2 x1 (r_2) hc_2) cl_Play_94 q_code_Play_holdsSight [0, 1, 2, 3, 4, 5, 6, 7, 8] rfl (by decide) 0 rfl rfl rfl rfl hl.1 (Nat.le_of_ble_eq_true rfl) (rm_ok hR1 hR2 (by decide) (by decide)) ⟨Nat.zero_le _, Nat.zero_le _⟩ d_Play_holdsSights_13) hW hA [0, 1, 2, 3, 4, 5, 6, 7, 8] rfl rfl (ps := [some 0, some 1, some 2, some 3, some 4, some 5, some 6, some 7, some 8]) (by decide +kernel) ⟨rfl, rfl, rfl, rfl, rfl, rfl, rfl, rfl, rfl, trivial⟩ (fun H locs hW => ?_)
        refine lv_if_ne (tgt := 21) hx hb d_Play_holdsSights_16 (by decide) (fun c_3 => ?_) (fun c_3 => ?_)
        · have h := ie_e c_3 h
          refine lv_iinc (v := (x2 + (1 : Int32))) (lv' := [(2, .int (x2 + (1 : Int32))), (0, .ref a_t), (1, .int x1)]) hx hb d_Play_holdsSights_21 hl (k := 2) rfl (iinc_e (by decide)) (by decide) rfl (fun ls hl => ?_)
          refine lv_goto (tgt := 2) hx hb d_Play_holdsSights_24 (by decide) ?_
          exact ih x1 (x2 + (1 : Int32)) _ h hret K _ _ hW ls (lv_sub hl [1, 2, 0] rfl)
        · have h := it_e c_3 h
          refine lv_iconst (v := (0 : Int32)) hx hb d_Play_holdsSights_19 (by decide) ?_
          cases h
          cases hret _ rfl
          rw [hQ]
          exact x_zret hC hr (show narrow .boolean (.int (0 : Int32)) = .int (0 : Int32) from rfl) hW d_Play_holdsSights_20
  refine lv_iconst (v := (0 : Int32)) hx hb d_Play_holdsSights_0 (by decide) ?_
  refine lv_istore_n (lv' := [(2, .int (0 : Int32)), (0, .ref a_t), (1, .int p0)]) hx hb d_Play_holdsSights_1 rfl hl (by decide) rfl (fun ls hl => ?_)
  obtain ⟨res_4, hv_4, he_4, hk_4⟩ := lm1_e h
  refine lp2 _ p0 (0 : Int32) res_4 hv_4 he_4 (fun yx2_4 hs_4 H locs hW ls hl => ?_) _ _ hW ls (lv_sub hl [1, 2, 0] rfl)
  have h := hk_4 yx2_4 hs_4
  refine lv_iconst (v := (1 : Int32)) hx hb d_Play_holdsSights_27 (by decide) ?_
  cases h
  rw [hQ]
  exact x_zret hC hr (show narrow .boolean (.int (1 : Int32)) = .int (1 : Int32) from rfl) hW d_Play_holdsSights_28

def L_Play_isWon_2 (x1 : Int32) (v_t_r : Int32) (v_t_ticketCount : Int32) (v_t_tickets_cells : Nat → Int32) : Nat → Int32 → Option (Except (Int32) (Int32))
  | 0, _ => none
  | n + 1, x2 => if v_t_ticketCount ≤ x2 then some (.ok (x2)) else bk1 (f_Play_countRight v_t_tickets_cells x2 x1) fun r_2 => if r_2 < v_t_r then L_Play_isWon_2 x1 v_t_r v_t_ticketCount v_t_tickets_cells n (x2 + (1 : Int32)) else some (.error ((1 : Int32)))
def f_Play_isWon (v_t_r : Int32) (v_t_ticketCount : Int32) (v_t_tickets_cells : Nat → Int32) (p0 : Int32) : Option (Int32) :=
  lm1 (L_Play_isWon_2 p0 v_t_r v_t_ticketCount v_t_tickets_cells 300 (0 : Int32)) fun yx2_4 => some ((0 : Int32))
set_option maxHeartbeats 4000000 in
set_option maxRecDepth 100000 in
theorem c_Play_isWon (l : Launch) (D : va_G) (I J Z : ClassId) (a_t : Nat) (a_t_tickets : Nat) (a_t_tickets_cells : Nat) (a_t_prizes : Nat) (a_t_sightTickets : Nat) (a_t_sightNumbers : Nat) (a_t_sightKinds : Nat)  (v_t_n : Int32) (v_t_t : Int32) (v_t_d : Int32) (v_t_r : Int32) (v_t_fond : Int32) (v_t_ticketCount : Int32) (v_t_sightCount : Int32) (v_t_tickets_cells : Nat → Int32) (p0 : Int32) (out : (Int32)) (h : f_Play_isWon v_t_r v_t_ticketCount v_t_tickets_cells p0 = some out) : CT l D I J Z y_Play_isWon b_Play_isWon 3 (some .boolean) 3 [.ref a_t, .int p0] [(a_t, .inr (4, [.int v_t_n, .int v_t_t, .int v_t_d, .int v_t_r, .int v_t_fond, .int v_t_ticketCount, .ref a_t_tickets, .ref a_t_prizes, .int v_t_sightCount, .ref a_t_sightTickets, .ref a_t_sightNumbers, .ref a_t_sightKinds])), (a_t_tickets, .inr (5, [.ref a_t_tickets_cells])), (a_t_tickets_cells, .inl (I, 6, .inl v_t_tickets_cells))] (PoI out D [(a_t, .inr (4, [.int v_t_n, .int v_t_t, .int v_t_d, .int v_t_r, .int v_t_fond, .int v_t_ticketCount, .ref a_t_tickets, .ref a_t_prizes, .int v_t_sightCount, .ref a_t_sightTickets, .ref a_t_sightNumbers, .ref a_t_sightKinds])), (a_t_tickets, .inr (5, [.ref a_t_tickets_cells])), (a_t_tickets_cells, .inl (I, 6, .inl v_t_tickets_cells))]) := by
  unfold f_Play_isWon at h
  refine CT_of R_Play (by decide +kernel) rfl (Nat.le_of_ble_eq_true rfl) ?_
  intro p e R s m args below meth c A ls Q hR1 hR2 hQ hC hr hW hA hl
  have hx := hC.1
  have hb := hC.2.1
  have hl : lv_has ls 3 [(0, .ref a_t), (1, .int p0)] := hl
  have lp2 : ∀ (n : Nat) (x1 : Int32) (x2 : Int32) (res : Except (Int32) (Int32)), L_Play_isWon_2 x1 v_t_r v_t_ticketCount v_t_tickets_cells n x2 = some res → (∀ r, res = .error r → r = out) →
    (∀ (yx2 : Int32), res = .ok (yx2) → ∀ H locs, Wd D A s.heap [(a_t, .inr (4, [.int v_t_n, .int v_t_t, .int v_t_d, .int v_t_r, .int v_t_fond, .int v_t_ticketCount, .ref a_t_tickets, .ref a_t_prizes, .int v_t_sightCount, .ref a_t_sightTickets, .ref a_t_sightNumbers, .ref a_t_sightKinds])), (a_t_tickets, .inr (5, [.ref a_t_tickets_cells])), (a_t_tickets_cells, .inl (I, 6, .inl v_t_tickets_cells))] H locs → ∀ ls, lv_has ls 3 [(0, .ref a_t), (1, .int x1), (2, .int yx2)] → W p l e R s m args below meth c H locs 0 0 Q (F0 m 31 ls [])) →
    ∀ H locs, Wd D A s.heap [(a_t, .inr (4, [.int v_t_n, .int v_t_t, .int v_t_d, .int v_t_r, .int v_t_fond, .int v_t_ticketCount, .ref a_t_tickets, .ref a_t_prizes, .int v_t_sightCount, .ref a_t_sightTickets, .ref a_t_sightNumbers, .ref a_t_sightKinds])), (a_t_tickets, .inr (5, [.ref a_t_tickets_cells])), (a_t_tickets_cells, .inl (I, 6, .inl v_t_tickets_cells))] H locs → ∀ ls, lv_has ls 3 [(0, .ref a_t), (1, .int x1), (2, .int x2)] → W p l e R s m args below meth c H locs 0 0 Q (F0 m 2 ls []) := by
    intro n
    induction n with
    | zero =>
      intro x1 x2 res h
      exact no_e h
    | succ n ih =>
      intro x1 x2 res h hret K H locs hW ls hl
      rw [L_Play_isWon_2] at h
      refine lv_iload_n hx hb d_Play_isWon_2 rfl (lv_at hl 2 rfl) ?_
      refine lv_aload_n hx hb d_Play_isWon_3 rfl (lv_at hl 0 rfl) ?_
      refine x_get hC hW 0 rfl fl_Play_55 rfl d_Play_isWon_4 ?_
      refine lv_icmp_ge (tgt := 31) hx hb d_Play_isWon_7 (by decide) (fun c_1 => ?_) (fun c_1 => ?_)
      · have h := it_e c_1 h
        cases h
        exact K _ rfl _ _ hW ls (lv_sub hl [0, 1, 2] rfl)
      · have h := ie_e c_1 h
        refine lv_aload_n hx hb d_Play_isWon_10 rfl (lv_at hl 0 rfl) ?_
        refine lv_iload_n hx hb d_Play_isWon_11 rfl (lv_at hl 2 rfl) ?_
        refine lv_iload_n hx hb d_Play_isWon_12 rfl (lv_at hl 1 rfl) ?_
        obtain ⟨r_2, hc_2, h⟩ := bk1_e h
        refine x_ci (ws' := [(a_t, .inr (4, [.int v_t_n, .int v_t_t, .int v_t_d, .int v_t_r, .int v_t_fond, .int v_t_ticketCount, .ref a_t_tickets, .ref a_t_prizes, .int v_t_sightCount, .ref a_t_sightTickets, .ref a_t_sightNumbers, .ref a_t_sightKinds])), (a_t_tickets, .inr (5, [.ref a_t_tickets_cells])), (a_t_tickets_cells, .inl (I, 6, .inl v_t_tickets_cells))]) (x_runV (As := [.int x2, .int x1]) (rest := []) hC hW (c_Play_countRight l D I J Z a_t a_t_tickets a_t_tickets_cells a_t_prizes a_t_sightTickets a_t_sightNumbers a_t_sightKinds v_t_n v_t_t v_t_d v_t_r v_t_fond v_t_ticketCount v_t_sightCount v_t_tickets_cells x2 x1 (r_2) hc_2) cl_Play_90 q_code_Play_countRight [0, 1, 2] rfl (by decide) 0 rfl rfl rfl rfl hl.1 (Nat.le_of_ble_eq_true rfl) (rm_ok hR1 hR2 (by decide) (by decide)) ⟨Nat.zero_le _, Nat.zero_le _⟩ d_Play_isWon_13) hW hA [0, 1, 2] rfl rfl (ps := [some 0, some 1, some 2]) (by decide +kernel) ⟨rfl, rfl, rfl, trivial⟩ (fun H locs hW => ?_)
        refine lv_aload_n hx hb d_Play_isWon_16 rfl (lv_at hl 0 rfl) ?_
        refine x_get hC hW 0 rfl fl_Play_46 rfl d_Play_isWon_17 ?_
        refine lv_icmp_lt (tgt := 25) hx hb d_Play_isWon_20 (by decide) (fun c_3 => ?_) (fun c_3 => ?_)
        · have h := it_e c_3 h
          refine lv_iinc (v := (x2 + (1 : Int32))) (lv' := [(2, .int (x2 + (1 : Int32))), (0, .ref a_t), (1, .int x1)]) hx hb d_Play_isWon_25 hl (k := 2) rfl (iinc_e (by decide)) (by decide) rfl (fun ls hl => ?_)
          refine lv_goto (tgt := 2) hx hb d_Play_isWon_28 (by decide) ?_
          exact ih x1 (x2 + (1 : Int32)) _ h hret K _ _ hW ls (lv_sub hl [1, 2, 0] rfl)
        · have h := ie_e c_3 h
          refine lv_iconst (v := (1 : Int32)) hx hb d_Play_isWon_23 (by decide) ?_
          cases h
          cases hret _ rfl
          rw [hQ]
          exact x_zret hC hr (show narrow .boolean (.int (1 : Int32)) = .int (1 : Int32) from rfl) hW d_Play_isWon_24
  refine lv_iconst (v := (0 : Int32)) hx hb d_Play_isWon_0 (by decide) ?_
  refine lv_istore_n (lv' := [(2, .int (0 : Int32)), (0, .ref a_t), (1, .int p0)]) hx hb d_Play_isWon_1 rfl hl (by decide) rfl (fun ls hl => ?_)
  obtain ⟨res_4, hv_4, he_4, hk_4⟩ := lm1_e h
  refine lp2 _ p0 (0 : Int32) res_4 hv_4 he_4 (fun yx2_4 hs_4 H locs hW ls hl => ?_) _ _ hW ls (lv_sub hl [1, 2, 0] rfl)
  have h := hk_4 yx2_4 hs_4
  refine lv_iconst (v := (0 : Int32)) hx hb d_Play_isWon_31 (by decide) ?_
  cases h
  rw [hQ]
  exact x_zret hC hr (show narrow .boolean (.int (0 : Int32)) = .int (0 : Int32) from rfl) hW d_Play_isWon_32

def f_Play_copyFrom (v_p0_d : Int32) (v_p0_fond : Int32) (v_p0_n : Int32) (v_p0_r : Int32) (v_p0_sightCount : Int32) (v_p0_t : Int32) (v_p0_ticketCount : Int32) (v_p0_prizes_cells : Nat → Int32) (v_p0_sightKinds_cells : Nat → Int32) (v_p0_sightNumbers_cells : Nat → Int32) (v_p0_sightTickets_cells : Nat → Int32) (v_p0_tickets_cells : Nat → Int32) (v_t_prizes_cells : Nat → Int32) (v_t_sightKinds_cells : Nat → Int32) (v_t_sightNumbers_cells : Nat → Int32) (v_t_sightTickets_cells : Nat → Int32) (v_t_tickets_cells : Nat → Int32) : Option (Int32 × Int32 × Int32 × Int32 × Int32 × Int32 × Int32 × (Nat → Int32) × (Nat → Int32) × (Nat → Int32) × (Nat → Int32) × (Nat → Int32)) :=
  bk1 (f_Row_copyFrom 6 6 v_p0_tickets_cells v_t_tickets_cells) fun w_1_0 => bk1 (f_Row_copyFrom 9 9 v_p0_prizes_cells v_t_prizes_cells) fun w_2_0 => bk1 (f_Row_copyFrom 6 6 v_p0_sightTickets_cells v_t_sightTickets_cells) fun w_3_0 => bk1 (f_Row_copyFrom 6 6 v_p0_sightNumbers_cells v_t_sightNumbers_cells) fun w_4_0 => bk1 (f_Row_copyFrom 6 6 v_p0_sightKinds_cells v_t_sightKinds_cells) fun w_5_0 => some (v_p0_d, v_p0_fond, v_p0_n, v_p0_r, v_p0_sightCount, v_p0_t, v_p0_ticketCount, w_2_0, w_5_0, w_4_0, w_3_0, w_1_0)
set_option maxHeartbeats 4000000 in
set_option maxRecDepth 100000 in
theorem c_Play_copyFrom (l : Launch) (D : va_G) (I J Z : ClassId) (a_p0 : Nat) (a_p0_prizes : Nat) (a_p0_prizes_cells : Nat) (a_p0_sightKinds : Nat) (a_p0_sightKinds_cells : Nat) (a_p0_sightNumbers : Nat) (a_p0_sightNumbers_cells : Nat) (a_p0_sightTickets : Nat) (a_p0_sightTickets_cells : Nat) (a_p0_tickets : Nat) (a_p0_tickets_cells : Nat) (a_t : Nat) (a_t_prizes : Nat) (a_t_prizes_cells : Nat) (a_t_sightKinds : Nat) (a_t_sightKinds_cells : Nat) (a_t_sightNumbers : Nat) (a_t_sightNumbers_cells : Nat) (a_t_sightTickets : Nat) (a_t_sightTickets_cells : Nat) (a_t_tickets : Nat) (a_t_tickets_cells : Nat)  (v_p0_n : Int32) (v_p0_t : Int32) (v_p0_d : Int32) (v_p0_r : Int32) (v_p0_fond : Int32) (v_p0_ticketCount : Int32) (v_p0_sightCount : Int32) (v_p0_prizes_cells : Nat → Int32) (v_p0_sightKinds_cells : Nat → Int32) (v_p0_sightNumbers_cells : Nat → Int32) (v_p0_sightTickets_cells : Nat → Int32) (v_p0_tickets_cells : Nat → Int32) (v_t_n : Int32) (v_t_t : Int32) (v_t_d : Int32) (v_t_r : Int32) (v_t_fond : Int32) (v_t_ticketCount : Int32) (v_t_sightCount : Int32) (v_t_prizes_cells : Nat → Int32) (v_t_sightKinds_cells : Nat → Int32) (v_t_sightNumbers_cells : Nat → Int32) (v_t_sightTickets_cells : Nat → Int32) (v_t_tickets_cells : Nat → Int32)  (out : (Int32 × Int32 × Int32 × Int32 × Int32 × Int32 × Int32 × (Nat → Int32) × (Nat → Int32) × (Nat → Int32) × (Nat → Int32) × (Nat → Int32))) (h : f_Play_copyFrom v_p0_d v_p0_fond v_p0_n v_p0_r v_p0_sightCount v_p0_t v_p0_ticketCount v_p0_prizes_cells v_p0_sightKinds_cells v_p0_sightNumbers_cells v_p0_sightTickets_cells v_p0_tickets_cells v_t_prizes_cells v_t_sightKinds_cells v_t_sightNumbers_cells v_t_sightTickets_cells v_t_tickets_cells = some out) : CT l D I J Z y_Play_copyFrom b_Play_copyFrom 2 none 3 [.ref a_t, .ref a_p0] [(a_p0, .inr (4, [.int v_p0_n, .int v_p0_t, .int v_p0_d, .int v_p0_r, .int v_p0_fond, .int v_p0_ticketCount, .ref a_p0_tickets, .ref a_p0_prizes, .int v_p0_sightCount, .ref a_p0_sightTickets, .ref a_p0_sightNumbers, .ref a_p0_sightKinds])), (a_p0_prizes, .inr (5, [.ref a_p0_prizes_cells])), (a_p0_prizes_cells, .inl (I, 9, .inl v_p0_prizes_cells)), (a_p0_sightKinds, .inr (5, [.ref a_p0_sightKinds_cells])), (a_p0_sightKinds_cells, .inl (I, 6, .inl v_p0_sightKinds_cells)), (a_p0_sightNumbers, .inr (5, [.ref a_p0_sightNumbers_cells])), (a_p0_sightNumbers_cells, .inl (I, 6, .inl v_p0_sightNumbers_cells)), (a_p0_sightTickets, .inr (5, [.ref a_p0_sightTickets_cells])), (a_p0_sightTickets_cells, .inl (I, 6, .inl v_p0_sightTickets_cells)), (a_p0_tickets, .inr (5, [.ref a_p0_tickets_cells])), (a_p0_tickets_cells, .inl (I, 6, .inl v_p0_tickets_cells)), (a_t, .inr (4, [.int v_t_n, .int v_t_t, .int v_t_d, .int v_t_r, .int v_t_fond, .int v_t_ticketCount, .ref a_t_tickets, .ref a_t_prizes, .int v_t_sightCount, .ref a_t_sightTickets, .ref a_t_sightNumbers, .ref a_t_sightKinds])), (a_t_prizes, .inr (5, [.ref a_t_prizes_cells])), (a_t_prizes_cells, .inl (I, 9, .inl v_t_prizes_cells)), (a_t_sightKinds, .inr (5, [.ref a_t_sightKinds_cells])), (a_t_sightKinds_cells, .inl (I, 6, .inl v_t_sightKinds_cells)), (a_t_sightNumbers, .inr (5, [.ref a_t_sightNumbers_cells])), (a_t_sightNumbers_cells, .inl (I, 6, .inl v_t_sightNumbers_cells)), (a_t_sightTickets, .inr (5, [.ref a_t_sightTickets_cells])), (a_t_sightTickets_cells, .inl (I, 6, .inl v_t_sightTickets_cells)), (a_t_tickets, .inr (5, [.ref a_t_tickets_cells])), (a_t_tickets_cells, .inl (I, 6, .inl v_t_tickets_cells))] (PoV D [(a_p0, .inr (4, [.int v_p0_n, .int v_p0_t, .int v_p0_d, .int v_p0_r, .int v_p0_fond, .int v_p0_ticketCount, .ref a_p0_tickets, .ref a_p0_prizes, .int v_p0_sightCount, .ref a_p0_sightTickets, .ref a_p0_sightNumbers, .ref a_p0_sightKinds])), (a_p0_prizes, .inr (5, [.ref a_p0_prizes_cells])), (a_p0_prizes_cells, .inl (I, 9, .inl v_p0_prizes_cells)), (a_p0_sightKinds, .inr (5, [.ref a_p0_sightKinds_cells])), (a_p0_sightKinds_cells, .inl (I, 6, .inl v_p0_sightKinds_cells)), (a_p0_sightNumbers, .inr (5, [.ref a_p0_sightNumbers_cells])), (a_p0_sightNumbers_cells, .inl (I, 6, .inl v_p0_sightNumbers_cells)), (a_p0_sightTickets, .inr (5, [.ref a_p0_sightTickets_cells])), (a_p0_sightTickets_cells, .inl (I, 6, .inl v_p0_sightTickets_cells)), (a_p0_tickets, .inr (5, [.ref a_p0_tickets_cells])), (a_p0_tickets_cells, .inl (I, 6, .inl v_p0_tickets_cells)), (a_t, .inr (4, [.int out.2.2.1, .int out.2.2.2.2.2.1, .int out.1, .int out.2.2.2.1, .int out.2.1, .int out.2.2.2.2.2.2.1, .ref a_t_tickets, .ref a_t_prizes, .int out.2.2.2.2.1, .ref a_t_sightTickets, .ref a_t_sightNumbers, .ref a_t_sightKinds])), (a_t_prizes, .inr (5, [.ref a_t_prizes_cells])), (a_t_prizes_cells, .inl (I, 9, .inl out.2.2.2.2.2.2.2.1)), (a_t_sightKinds, .inr (5, [.ref a_t_sightKinds_cells])), (a_t_sightKinds_cells, .inl (I, 6, .inl out.2.2.2.2.2.2.2.2.1)), (a_t_sightNumbers, .inr (5, [.ref a_t_sightNumbers_cells])), (a_t_sightNumbers_cells, .inl (I, 6, .inl out.2.2.2.2.2.2.2.2.2.1)), (a_t_sightTickets, .inr (5, [.ref a_t_sightTickets_cells])), (a_t_sightTickets_cells, .inl (I, 6, .inl out.2.2.2.2.2.2.2.2.2.2.1)), (a_t_tickets, .inr (5, [.ref a_t_tickets_cells])), (a_t_tickets_cells, .inl (I, 6, .inl out.2.2.2.2.2.2.2.2.2.2.2))]) := by
  unfold f_Play_copyFrom at h
  refine CT_of R_Play (by decide +kernel) rfl (Nat.le_of_ble_eq_true rfl) ?_
  intro p e R s m args below meth c A ls Q hR1 hR2 hQ hC hr hW hA hl
  have hx := hC.1
  have hb := hC.2.1
  have hl : lv_has ls 2 [(0, .ref a_t), (1, .ref a_p0)] := hl
  refine lv_aload_n hx hb d_Play_copyFrom_0 rfl (lv_at hl 0 rfl) ?_
  refine lv_aload_n hx hb d_Play_copyFrom_1 rfl (lv_at hl 1 rfl) ?_
  refine x_get hC hW 0 rfl fl_Play_36 rfl d_Play_copyFrom_2 ?_
  refine x_put (ws' := [(a_p0, .inr (4, [.int v_p0_n, .int v_p0_t, .int v_p0_d, .int v_p0_r, .int v_p0_fond, .int v_p0_ticketCount, .ref a_p0_tickets, .ref a_p0_prizes, .int v_p0_sightCount, .ref a_p0_sightTickets, .ref a_p0_sightNumbers, .ref a_p0_sightKinds])), (a_p0_prizes, .inr (5, [.ref a_p0_prizes_cells])), (a_p0_prizes_cells, .inl (I, 9, .inl v_p0_prizes_cells)), (a_p0_sightKinds, .inr (5, [.ref a_p0_sightKinds_cells])), (a_p0_sightKinds_cells, .inl (I, 6, .inl v_p0_sightKinds_cells)), (a_p0_sightNumbers, .inr (5, [.ref a_p0_sightNumbers_cells])), (a_p0_sightNumbers_cells, .inl (I, 6, .inl v_p0_sightNumbers_cells)), (a_p0_sightTickets, .inr (5, [.ref a_p0_sightTickets_cells])), (a_p0_sightTickets_cells, .inl (I, 6, .inl v_p0_sightTickets_cells)), (a_p0_tickets, .inr (5, [.ref a_p0_tickets_cells])), (a_p0_tickets_cells, .inl (I, 6, .inl v_p0_tickets_cells)), (a_t, .inr (4, [.int v_p0_n, .int v_t_t, .int v_t_d, .int v_t_r, .int v_t_fond, .int v_t_ticketCount, .ref a_t_tickets, .ref a_t_prizes, .int v_t_sightCount, .ref a_t_sightTickets, .ref a_t_sightNumbers, .ref a_t_sightKinds])), (a_t_prizes, .inr (5, [.ref a_t_prizes_cells])), (a_t_prizes_cells, .inl (I, 9, .inl v_t_prizes_cells)), (a_t_sightKinds, .inr (5, [.ref a_t_sightKinds_cells])), (a_t_sightKinds_cells, .inl (I, 6, .inl v_t_sightKinds_cells)), (a_t_sightNumbers, .inr (5, [.ref a_t_sightNumbers_cells])), (a_t_sightNumbers_cells, .inl (I, 6, .inl v_t_sightNumbers_cells)), (a_t_sightTickets, .inr (5, [.ref a_t_sightTickets_cells])), (a_t_sightTickets_cells, .inl (I, 6, .inl v_t_sightTickets_cells)), (a_t_tickets, .inr (5, [.ref a_t_tickets_cells])), (a_t_tickets_cells, .inl (I, 6, .inl v_t_tickets_cells))]) hC hW 11 rfl fp_Play_36 rfl rfl (Nat.le_of_ble_eq_true rfl) d_Play_copyFrom_5 rfl (fun H locs hW => ?_)
  refine lv_aload_n hx hb d_Play_copyFrom_8 rfl (lv_at hl 0 rfl) ?_
  refine lv_aload_n hx hb d_Play_copyFrom_9 rfl (lv_at hl 1 rfl) ?_
  refine x_get hC hW 0 rfl fl_Play_40 rfl d_Play_copyFrom_10 ?_
  refine x_put (ws' := [(a_p0, .inr (4, [.int v_p0_n, .int v_p0_t, .int v_p0_d, .int v_p0_r, .int v_p0_fond, .int v_p0_ticketCount, .ref a_p0_tickets, .ref a_p0_prizes, .int v_p0_sightCount, .ref a_p0_sightTickets, .ref a_p0_sightNumbers, .ref a_p0_sightKinds])), (a_p0_prizes, .inr (5, [.ref a_p0_prizes_cells])), (a_p0_prizes_cells, .inl (I, 9, .inl v_p0_prizes_cells)), (a_p0_sightKinds, .inr (5, [.ref a_p0_sightKinds_cells])), (a_p0_sightKinds_cells, .inl (I, 6, .inl v_p0_sightKinds_cells)), (a_p0_sightNumbers, .inr (5, [.ref a_p0_sightNumbers_cells])), (a_p0_sightNumbers_cells, .inl (I, 6, .inl v_p0_sightNumbers_cells)), (a_p0_sightTickets, .inr (5, [.ref a_p0_sightTickets_cells])), (a_p0_sightTickets_cells, .inl (I, 6, .inl v_p0_sightTickets_cells)), (a_p0_tickets, .inr (5, [.ref a_p0_tickets_cells])), (a_p0_tickets_cells, .inl (I, 6, .inl v_p0_tickets_cells)), (a_t, .inr (4, [.int v_p0_n, .int v_p0_t, .int v_t_d, .int v_t_r, .int v_t_fond, .int v_t_ticketCount, .ref a_t_tickets, .ref a_t_prizes, .int v_t_sightCount, .ref a_t_sightTickets, .ref a_t_sightNumbers, .ref a_t_sightKinds])), (a_t_prizes, .inr (5, [.ref a_t_prizes_cells])), (a_t_prizes_cells, .inl (I, 9, .inl v_t_prizes_cells)), (a_t_sightKinds, .inr (5, [.ref a_t_sightKinds_cells])), (a_t_sightKinds_cells, .inl (I, 6, .inl v_t_sightKinds_cells)), (a_t_sightNumbers, .inr (5, [.ref a_t_sightNumbers_cells])), (a_t_sightNumbers_cells, .inl (I, 6, .inl v_t_sightNumbers_cells)), (a_t_sightTickets, .inr (5, [.ref a_t_sightTickets_cells])), (a_t_sightTickets_cells, .inl (I, 6, .inl v_t_sightTickets_cells)), (a_t_tickets, .inr (5, [.ref a_t_tickets_cells])), (a_t_tickets_cells, .inl (I, 6, .inl v_t_tickets_cells))]) hC hW 11 rfl fp_Play_40 rfl rfl (Nat.le_of_ble_eq_true rfl) d_Play_copyFrom_13 rfl (fun H locs hW => ?_)
  refine lv_aload_n hx hb d_Play_copyFrom_16 rfl (lv_at hl 0 rfl) ?_
  refine lv_aload_n hx hb d_Play_copyFrom_17 rfl (lv_at hl 1 rfl) ?_
  refine x_get hC hW 0 rfl fl_Play_43 rfl d_Play_copyFrom_18 ?_
  refine x_put (ws' := [(a_p0, .inr (4, [.int v_p0_n, .int v_p0_t, .int v_p0_d, .int v_p0_r, .int v_p0_fond, .int v_p0_ticketCount, .ref a_p0_tickets, .ref a_p0_prizes, .int v_p0_sightCount, .ref a_p0_sightTickets, .ref a_p0_sightNumbers, .ref a_p0_sightKinds])), (a_p0_prizes, .inr (5, [.ref a_p0_prizes_cells])), (a_p0_prizes_cells, .inl (I, 9, .inl v_p0_prizes_cells)), (a_p0_sightKinds, .inr (5, [.ref a_p0_sightKinds_cells])), (a_p0_sightKinds_cells, .inl (I, 6, .inl v_p0_sightKinds_cells)), (a_p0_sightNumbers, .inr (5, [.ref a_p0_sightNumbers_cells])), (a_p0_sightNumbers_cells, .inl (I, 6, .inl v_p0_sightNumbers_cells)), (a_p0_sightTickets, .inr (5, [.ref a_p0_sightTickets_cells])), (a_p0_sightTickets_cells, .inl (I, 6, .inl v_p0_sightTickets_cells)), (a_p0_tickets, .inr (5, [.ref a_p0_tickets_cells])), (a_p0_tickets_cells, .inl (I, 6, .inl v_p0_tickets_cells)), (a_t, .inr (4, [.int v_p0_n, .int v_p0_t, .int v_p0_d, .int v_t_r, .int v_t_fond, .int v_t_ticketCount, .ref a_t_tickets, .ref a_t_prizes, .int v_t_sightCount, .ref a_t_sightTickets, .ref a_t_sightNumbers, .ref a_t_sightKinds])), (a_t_prizes, .inr (5, [.ref a_t_prizes_cells])), (a_t_prizes_cells, .inl (I, 9, .inl v_t_prizes_cells)), (a_t_sightKinds, .inr (5, [.ref a_t_sightKinds_cells])), (a_t_sightKinds_cells, .inl (I, 6, .inl v_t_sightKinds_cells)), (a_t_sightNumbers, .inr (5, [.ref a_t_sightNumbers_cells])), (a_t_sightNumbers_cells, .inl (I, 6, .inl v_t_sightNumbers_cells)), (a_t_sightTickets, .inr (5, [.ref a_t_sightTickets_cells])), (a_t_sightTickets_cells, .inl (I, 6, .inl v_t_sightTickets_cells)), (a_t_tickets, .inr (5, [.ref a_t_tickets_cells])), (a_t_tickets_cells, .inl (I, 6, .inl v_t_tickets_cells))]) hC hW 11 rfl fp_Play_43 rfl rfl (Nat.le_of_ble_eq_true rfl) d_Play_copyFrom_21 rfl (fun H locs hW => ?_)
  refine lv_aload_n hx hb d_Play_copyFrom_24 rfl (lv_at hl 0 rfl) ?_
  refine lv_aload_n hx hb d_Play_copyFrom_25 rfl (lv_at hl 1 rfl) ?_
  refine x_get hC hW 0 rfl fl_Play_46 rfl d_Play_copyFrom_26 ?_
  refine x_put (ws' := [(a_p0, .inr (4, [.int v_p0_n, .int v_p0_t, .int v_p0_d, .int v_p0_r, .int v_p0_fond, .int v_p0_ticketCount, .ref a_p0_tickets, .ref a_p0_prizes, .int v_p0_sightCount, .ref a_p0_sightTickets, .ref a_p0_sightNumbers, .ref a_p0_sightKinds])), (a_p0_prizes, .inr (5, [.ref a_p0_prizes_cells])), (a_p0_prizes_cells, .inl (I, 9, .inl v_p0_prizes_cells)), (a_p0_sightKinds, .inr (5, [.ref a_p0_sightKinds_cells])), (a_p0_sightKinds_cells, .inl (I, 6, .inl v_p0_sightKinds_cells)), (a_p0_sightNumbers, .inr (5, [.ref a_p0_sightNumbers_cells])), (a_p0_sightNumbers_cells, .inl (I, 6, .inl v_p0_sightNumbers_cells)), (a_p0_sightTickets, .inr (5, [.ref a_p0_sightTickets_cells])), (a_p0_sightTickets_cells, .inl (I, 6, .inl v_p0_sightTickets_cells)), (a_p0_tickets, .inr (5, [.ref a_p0_tickets_cells])), (a_p0_tickets_cells, .inl (I, 6, .inl v_p0_tickets_cells)), (a_t, .inr (4, [.int v_p0_n, .int v_p0_t, .int v_p0_d, .int v_p0_r, .int v_t_fond, .int v_t_ticketCount, .ref a_t_tickets, .ref a_t_prizes, .int v_t_sightCount, .ref a_t_sightTickets, .ref a_t_sightNumbers, .ref a_t_sightKinds])), (a_t_prizes, .inr (5, [.ref a_t_prizes_cells])), (a_t_prizes_cells, .inl (I, 9, .inl v_t_prizes_cells)), (a_t_sightKinds, .inr (5, [.ref a_t_sightKinds_cells])), (a_t_sightKinds_cells, .inl (I, 6, .inl v_t_sightKinds_cells)), (a_t_sightNumbers, .inr (5, [.ref a_t_sightNumbers_cells])), (a_t_sightNumbers_cells, .inl (I, 6, .inl v_t_sightNumbers_cells)), (a_t_sightTickets, .inr (5, [.ref a_t_sightTickets_cells])), (a_t_sightTickets_cells, .inl (I, 6, .inl v_t_sightTickets_cells)), (a_t_tickets, .inr (5, [.ref a_t_tickets_cells])), (a_t_tickets_cells, .inl (I, 6, .inl v_t_tickets_cells))]) hC hW 11 rfl fp_Play_46 rfl rfl (Nat.le_of_ble_eq_true rfl) d_Play_copyFrom_29 rfl (fun H locs hW => ?_)
  refine lv_aload_n hx hb d_Play_copyFrom_32 rfl (lv_at hl 0 rfl) ?_
  refine lv_aload_n hx hb d_Play_copyFrom_33 rfl (lv_at hl 1 rfl) ?_
  refine x_get hC hW 0 rfl fl_Play_49 rfl d_Play_copyFrom_34 ?_
  refine x_put (ws' := [(a_p0, .inr (4, [.int v_p0_n, .int v_p0_t, .int v_p0_d, .int v_p0_r, .int v_p0_fond, .int v_p0_ticketCount, .ref a_p0_tickets, .ref a_p0_prizes, .int v_p0_sightCount, .ref a_p0_sightTickets, .ref a_p0_sightNumbers, .ref a_p0_sightKinds])), (a_p0_prizes, .inr (5, [.ref a_p0_prizes_cells])), (a_p0_prizes_cells, .inl (I, 9, .inl v_p0_prizes_cells)), (a_p0_sightKinds, .inr (5, [.ref a_p0_sightKinds_cells])), (a_p0_sightKinds_cells, .inl (I, 6, .inl v_p0_sightKinds_cells)), (a_p0_sightNumbers, .inr (5, [.ref a_p0_sightNumbers_cells])), (a_p0_sightNumbers_cells, .inl (I, 6, .inl v_p0_sightNumbers_cells)), (a_p0_sightTickets, .inr (5, [.ref a_p0_sightTickets_cells])), (a_p0_sightTickets_cells, .inl (I, 6, .inl v_p0_sightTickets_cells)), (a_p0_tickets, .inr (5, [.ref a_p0_tickets_cells])), (a_p0_tickets_cells, .inl (I, 6, .inl v_p0_tickets_cells)), (a_t, .inr (4, [.int v_p0_n, .int v_p0_t, .int v_p0_d, .int v_p0_r, .int v_p0_fond, .int v_t_ticketCount, .ref a_t_tickets, .ref a_t_prizes, .int v_t_sightCount, .ref a_t_sightTickets, .ref a_t_sightNumbers, .ref a_t_sightKinds])), (a_t_prizes, .inr (5, [.ref a_t_prizes_cells])), (a_t_prizes_cells, .inl (I, 9, .inl v_t_prizes_cells)), (a_t_sightKinds, .inr (5, [.ref a_t_sightKinds_cells])), (a_t_sightKinds_cells, .inl (I, 6, .inl v_t_sightKinds_cells)), (a_t_sightNumbers, .inr (5, [.ref a_t_sightNumbers_cells])), (a_t_sightNumbers_cells, .inl (I, 6, .inl v_t_sightNumbers_cells)), (a_t_sightTickets, .inr (5, [.ref a_t_sightTickets_cells])), (a_t_sightTickets_cells, .inl (I, 6, .inl v_t_sightTickets_cells)), (a_t_tickets, .inr (5, [.ref a_t_tickets_cells])), (a_t_tickets_cells, .inl (I, 6, .inl v_t_tickets_cells))]) hC hW 11 rfl fp_Play_49 rfl rfl (Nat.le_of_ble_eq_true rfl) d_Play_copyFrom_37 rfl (fun H locs hW => ?_)
  refine lv_aload_n hx hb d_Play_copyFrom_40 rfl (lv_at hl 0 rfl) ?_
  refine lv_aload_n hx hb d_Play_copyFrom_41 rfl (lv_at hl 1 rfl) ?_
  refine x_get hC hW 0 rfl fl_Play_55 rfl d_Play_copyFrom_42 ?_
  refine x_put (ws' := [(a_p0, .inr (4, [.int v_p0_n, .int v_p0_t, .int v_p0_d, .int v_p0_r, .int v_p0_fond, .int v_p0_ticketCount, .ref a_p0_tickets, .ref a_p0_prizes, .int v_p0_sightCount, .ref a_p0_sightTickets, .ref a_p0_sightNumbers, .ref a_p0_sightKinds])), (a_p0_prizes, .inr (5, [.ref a_p0_prizes_cells])), (a_p0_prizes_cells, .inl (I, 9, .inl v_p0_prizes_cells)), (a_p0_sightKinds, .inr (5, [.ref a_p0_sightKinds_cells])), (a_p0_sightKinds_cells, .inl (I, 6, .inl v_p0_sightKinds_cells)), (a_p0_sightNumbers, .inr (5, [.ref a_p0_sightNumbers_cells])), (a_p0_sightNumbers_cells, .inl (I, 6, .inl v_p0_sightNumbers_cells)), (a_p0_sightTickets, .inr (5, [.ref a_p0_sightTickets_cells])), (a_p0_sightTickets_cells, .inl (I, 6, .inl v_p0_sightTickets_cells)), (a_p0_tickets, .inr (5, [.ref a_p0_tickets_cells])), (a_p0_tickets_cells, .inl (I, 6, .inl v_p0_tickets_cells)), (a_t, .inr (4, [.int v_p0_n, .int v_p0_t, .int v_p0_d, .int v_p0_r, .int v_p0_fond, .int v_p0_ticketCount, .ref a_t_tickets, .ref a_t_prizes, .int v_t_sightCount, .ref a_t_sightTickets, .ref a_t_sightNumbers, .ref a_t_sightKinds])), (a_t_prizes, .inr (5, [.ref a_t_prizes_cells])), (a_t_prizes_cells, .inl (I, 9, .inl v_t_prizes_cells)), (a_t_sightKinds, .inr (5, [.ref a_t_sightKinds_cells])), (a_t_sightKinds_cells, .inl (I, 6, .inl v_t_sightKinds_cells)), (a_t_sightNumbers, .inr (5, [.ref a_t_sightNumbers_cells])), (a_t_sightNumbers_cells, .inl (I, 6, .inl v_t_sightNumbers_cells)), (a_t_sightTickets, .inr (5, [.ref a_t_sightTickets_cells])), (a_t_sightTickets_cells, .inl (I, 6, .inl v_t_sightTickets_cells)), (a_t_tickets, .inr (5, [.ref a_t_tickets_cells])), (a_t_tickets_cells, .inl (I, 6, .inl v_t_tickets_cells))]) hC hW 11 rfl fp_Play_55 rfl rfl (Nat.le_of_ble_eq_true rfl) d_Play_copyFrom_45 rfl (fun H locs hW => ?_)
  refine lv_aload_n hx hb d_Play_copyFrom_48 rfl (lv_at hl 0 rfl) ?_
  refine x_get hC hW 11 rfl fl_Play_14 rfl d_Play_copyFrom_49 ?_
  refine lv_aload_n hx hb d_Play_copyFrom_52 rfl (lv_at hl 1 rfl) ?_
  refine x_get hC hW 0 rfl fl_Play_14 rfl d_Play_copyFrom_53 ?_
  obtain ⟨w_1_0, hc_1, h⟩ := bk1_e h
  refine x_cv (ws' := [(a_p0, .inr (4, [.int v_p0_n, .int v_p0_t, .int v_p0_d, .int v_p0_r, .int v_p0_fond, .int v_p0_ticketCount, .ref a_p0_tickets, .ref a_p0_prizes, .int v_p0_sightCount, .ref a_p0_sightTickets, .ref a_p0_sightNumbers, .ref a_p0_sightKinds])), (a_p0_prizes, .inr (5, [.ref a_p0_prizes_cells])), (a_p0_prizes_cells, .inl (I, 9, .inl v_p0_prizes_cells)), (a_p0_sightKinds, .inr (5, [.ref a_p0_sightKinds_cells])), (a_p0_sightKinds_cells, .inl (I, 6, .inl v_p0_sightKinds_cells)), (a_p0_sightNumbers, .inr (5, [.ref a_p0_sightNumbers_cells])), (a_p0_sightNumbers_cells, .inl (I, 6, .inl v_p0_sightNumbers_cells)), (a_p0_sightTickets, .inr (5, [.ref a_p0_sightTickets_cells])), (a_p0_sightTickets_cells, .inl (I, 6, .inl v_p0_sightTickets_cells)), (a_p0_tickets, .inr (5, [.ref a_p0_tickets_cells])), (a_p0_tickets_cells, .inl (I, 6, .inl v_p0_tickets_cells)), (a_t, .inr (4, [.int v_p0_n, .int v_p0_t, .int v_p0_d, .int v_p0_r, .int v_p0_fond, .int v_p0_ticketCount, .ref a_t_tickets, .ref a_t_prizes, .int v_t_sightCount, .ref a_t_sightTickets, .ref a_t_sightNumbers, .ref a_t_sightKinds])), (a_t_prizes, .inr (5, [.ref a_t_prizes_cells])), (a_t_prizes_cells, .inl (I, 9, .inl v_t_prizes_cells)), (a_t_sightKinds, .inr (5, [.ref a_t_sightKinds_cells])), (a_t_sightKinds_cells, .inl (I, 6, .inl v_t_sightKinds_cells)), (a_t_sightNumbers, .inr (5, [.ref a_t_sightNumbers_cells])), (a_t_sightNumbers_cells, .inl (I, 6, .inl v_t_sightNumbers_cells)), (a_t_sightTickets, .inr (5, [.ref a_t_sightTickets_cells])), (a_t_sightTickets_cells, .inl (I, 6, .inl v_t_sightTickets_cells)), (a_t_tickets, .inr (5, [.ref a_t_tickets_cells])), (a_t_tickets_cells, .inl (I, 6, .inl w_1_0))]) (x_runV (As := [.ref a_p0_tickets]) (rest := []) hC hW (c_Row_copyFrom l D I J Z a_p0_tickets a_p0_tickets_cells a_t_tickets a_t_tickets_cells 6 6 v_p0_tickets_cells v_t_tickets_cells (w_1_0) hc_1) cl_Play_97 q_code_Row_copyFrom [9, 10, 20, 21] rfl (by decide) 20 rfl rfl rfl rfl hl.1 (Nat.le_of_ble_eq_true rfl) (rm_ok hR1 hR2 (by decide) (by decide)) ⟨Nat.zero_le _, Nat.zero_le _⟩ d_Play_copyFrom_56) hW hA [9, 10, 20, 21] rfl rfl (ps := [none, none, none, none, none, none, none, none, none, some 0, some 1, none, none, none, none, none, none, none, none, none, some 2, some 3]) (by decide +kernel) ⟨rfl, rfl, rfl, rfl, rfl, rfl, rfl, rfl, rfl, rfl, rfl, rfl, rfl, rfl, rfl, rfl, rfl, rfl, rfl, rfl, rfl, rfl, trivial⟩ (fun H locs hW => ?_)
  refine lv_aload_n hx hb d_Play_copyFrom_59 rfl (lv_at hl 0 rfl) ?_
  refine x_get hC hW 11 rfl fl_Play_20 rfl d_Play_copyFrom_60 ?_
  refine lv_aload_n hx hb d_Play_copyFrom_63 rfl (lv_at hl 1 rfl) ?_
  refine x_get hC hW 0 rfl fl_Play_20 rfl d_Play_copyFrom_64 ?_
  obtain ⟨w_2_0, hc_2, h⟩ := bk1_e h
  refine x_cv (ws' := [(a_p0, .inr (4, [.int v_p0_n, .int v_p0_t, .int v_p0_d, .int v_p0_r, .int v_p0_fond, .int v_p0_ticketCount, .ref a_p0_tickets, .ref a_p0_prizes, .int v_p0_sightCount, .ref a_p0_sightTickets, .ref a_p0_sightNumbers, .ref a_p0_sightKinds])), (a_p0_prizes, .inr (5, [.ref a_p0_prizes_cells])), (a_p0_prizes_cells, .inl (I, 9, .inl v_p0_prizes_cells)), (a_p0_sightKinds, .inr (5, [.ref a_p0_sightKinds_cells])), (a_p0_sightKinds_cells, .inl (I, 6, .inl v_p0_sightKinds_cells)), (a_p0_sightNumbers, .inr (5, [.ref a_p0_sightNumbers_cells])), (a_p0_sightNumbers_cells, .inl (I, 6, .inl v_p0_sightNumbers_cells)), (a_p0_sightTickets, .inr (5, [.ref a_p0_sightTickets_cells])), (a_p0_sightTickets_cells, .inl (I, 6, .inl v_p0_sightTickets_cells)), (a_p0_tickets, .inr (5, [.ref a_p0_tickets_cells])), (a_p0_tickets_cells, .inl (I, 6, .inl v_p0_tickets_cells)), (a_t, .inr (4, [.int v_p0_n, .int v_p0_t, .int v_p0_d, .int v_p0_r, .int v_p0_fond, .int v_p0_ticketCount, .ref a_t_tickets, .ref a_t_prizes, .int v_t_sightCount, .ref a_t_sightTickets, .ref a_t_sightNumbers, .ref a_t_sightKinds])), (a_t_prizes, .inr (5, [.ref a_t_prizes_cells])), (a_t_prizes_cells, .inl (I, 9, .inl w_2_0)), (a_t_sightKinds, .inr (5, [.ref a_t_sightKinds_cells])), (a_t_sightKinds_cells, .inl (I, 6, .inl v_t_sightKinds_cells)), (a_t_sightNumbers, .inr (5, [.ref a_t_sightNumbers_cells])), (a_t_sightNumbers_cells, .inl (I, 6, .inl v_t_sightNumbers_cells)), (a_t_sightTickets, .inr (5, [.ref a_t_sightTickets_cells])), (a_t_sightTickets_cells, .inl (I, 6, .inl v_t_sightTickets_cells)), (a_t_tickets, .inr (5, [.ref a_t_tickets_cells])), (a_t_tickets_cells, .inl (I, 6, .inl w_1_0))]) (x_runV (As := [.ref a_p0_prizes]) (rest := []) hC hW (c_Row_copyFrom l D I J Z a_p0_prizes a_p0_prizes_cells a_t_prizes a_t_prizes_cells 9 9 v_p0_prizes_cells v_t_prizes_cells (w_2_0) hc_2) cl_Play_97 q_code_Row_copyFrom [1, 2, 12, 13] rfl (by decide) 12 rfl rfl rfl rfl hl.1 (Nat.le_of_ble_eq_true rfl) (rm_ok hR1 hR2 (by decide) (by decide)) ⟨Nat.zero_le _, Nat.zero_le _⟩ d_Play_copyFrom_67) hW hA [1, 2, 12, 13] rfl rfl (ps := [none, some 0, some 1, none, none, none, none, none, none, none, none, none, some 2, some 3, none, none, none, none, none, none, none, none]) (by decide +kernel) ⟨rfl, rfl, rfl, rfl, rfl, rfl, rfl, rfl, rfl, rfl, rfl, rfl, rfl, rfl, rfl, rfl, rfl, rfl, rfl, rfl, rfl, rfl, trivial⟩ (fun H locs hW => ?_)
  refine lv_aload_n hx hb d_Play_copyFrom_70 rfl (lv_at hl 0 rfl) ?_
  refine lv_aload_n hx hb d_Play_copyFrom_71 rfl (lv_at hl 1 rfl) ?_
  refine x_get hC hW 0 rfl fl_Play_58 rfl d_Play_copyFrom_72 ?_
  refine x_put (ws' := [(a_p0, .inr (4, [.int v_p0_n, .int v_p0_t, .int v_p0_d, .int v_p0_r, .int v_p0_fond, .int v_p0_ticketCount, .ref a_p0_tickets, .ref a_p0_prizes, .int v_p0_sightCount, .ref a_p0_sightTickets, .ref a_p0_sightNumbers, .ref a_p0_sightKinds])), (a_p0_prizes, .inr (5, [.ref a_p0_prizes_cells])), (a_p0_prizes_cells, .inl (I, 9, .inl v_p0_prizes_cells)), (a_p0_sightKinds, .inr (5, [.ref a_p0_sightKinds_cells])), (a_p0_sightKinds_cells, .inl (I, 6, .inl v_p0_sightKinds_cells)), (a_p0_sightNumbers, .inr (5, [.ref a_p0_sightNumbers_cells])), (a_p0_sightNumbers_cells, .inl (I, 6, .inl v_p0_sightNumbers_cells)), (a_p0_sightTickets, .inr (5, [.ref a_p0_sightTickets_cells])), (a_p0_sightTickets_cells, .inl (I, 6, .inl v_p0_sightTickets_cells)), (a_p0_tickets, .inr (5, [.ref a_p0_tickets_cells])), (a_p0_tickets_cells, .inl (I, 6, .inl v_p0_tickets_cells)), (a_t, .inr (4, [.int v_p0_n, .int v_p0_t, .int v_p0_d, .int v_p0_r, .int v_p0_fond, .int v_p0_ticketCount, .ref a_t_tickets, .ref a_t_prizes, .int v_p0_sightCount, .ref a_t_sightTickets, .ref a_t_sightNumbers, .ref a_t_sightKinds])), (a_t_prizes, .inr (5, [.ref a_t_prizes_cells])), (a_t_prizes_cells, .inl (I, 9, .inl w_2_0)), (a_t_sightKinds, .inr (5, [.ref a_t_sightKinds_cells])), (a_t_sightKinds_cells, .inl (I, 6, .inl v_t_sightKinds_cells)), (a_t_sightNumbers, .inr (5, [.ref a_t_sightNumbers_cells])), (a_t_sightNumbers_cells, .inl (I, 6, .inl v_t_sightNumbers_cells)), (a_t_sightTickets, .inr (5, [.ref a_t_sightTickets_cells])), (a_t_sightTickets_cells, .inl (I, 6, .inl v_t_sightTickets_cells)), (a_t_tickets, .inr (5, [.ref a_t_tickets_cells])), (a_t_tickets_cells, .inl (I, 6, .inl w_1_0))]) hC hW 11 rfl fp_Play_58 rfl rfl (Nat.le_of_ble_eq_true rfl) d_Play_copyFrom_75 rfl (fun H locs hW => ?_)
  refine lv_aload_n hx hb d_Play_copyFrom_78 rfl (lv_at hl 0 rfl) ?_
  refine x_get hC hW 11 rfl fl_Play_23 rfl d_Play_copyFrom_79 ?_
  refine lv_aload_n hx hb d_Play_copyFrom_82 rfl (lv_at hl 1 rfl) ?_
  refine x_get hC hW 0 rfl fl_Play_23 rfl d_Play_copyFrom_83 ?_
  obtain ⟨w_3_0, hc_3, h⟩ := bk1_e h
  refine x_cv (ws' := [(a_p0, .inr (4, [.int v_p0_n, .int v_p0_t, .int v_p0_d, .int v_p0_r, .int v_p0_fond, .int v_p0_ticketCount, .ref a_p0_tickets, .ref a_p0_prizes, .int v_p0_sightCount, .ref a_p0_sightTickets, .ref a_p0_sightNumbers, .ref a_p0_sightKinds])), (a_p0_prizes, .inr (5, [.ref a_p0_prizes_cells])), (a_p0_prizes_cells, .inl (I, 9, .inl v_p0_prizes_cells)), (a_p0_sightKinds, .inr (5, [.ref a_p0_sightKinds_cells])), (a_p0_sightKinds_cells, .inl (I, 6, .inl v_p0_sightKinds_cells)), (a_p0_sightNumbers, .inr (5, [.ref a_p0_sightNumbers_cells])), (a_p0_sightNumbers_cells, .inl (I, 6, .inl v_p0_sightNumbers_cells)), (a_p0_sightTickets, .inr (5, [.ref a_p0_sightTickets_cells])), (a_p0_sightTickets_cells, .inl (I, 6, .inl v_p0_sightTickets_cells)), (a_p0_tickets, .inr (5, [.ref a_p0_tickets_cells])), (a_p0_tickets_cells, .inl (I, 6, .inl v_p0_tickets_cells)), (a_t, .inr (4, [.int v_p0_n, .int v_p0_t, .int v_p0_d, .int v_p0_r, .int v_p0_fond, .int v_p0_ticketCount, .ref a_t_tickets, .ref a_t_prizes, .int v_p0_sightCount, .ref a_t_sightTickets, .ref a_t_sightNumbers, .ref a_t_sightKinds])), (a_t_prizes, .inr (5, [.ref a_t_prizes_cells])), (a_t_prizes_cells, .inl (I, 9, .inl w_2_0)), (a_t_sightKinds, .inr (5, [.ref a_t_sightKinds_cells])), (a_t_sightKinds_cells, .inl (I, 6, .inl v_t_sightKinds_cells)), (a_t_sightNumbers, .inr (5, [.ref a_t_sightNumbers_cells])), (a_t_sightNumbers_cells, .inl (I, 6, .inl v_t_sightNumbers_cells)), (a_t_sightTickets, .inr (5, [.ref a_t_sightTickets_cells])), (a_t_sightTickets_cells, .inl (I, 6, .inl w_3_0)), (a_t_tickets, .inr (5, [.ref a_t_tickets_cells])), (a_t_tickets_cells, .inl (I, 6, .inl w_1_0))]) (x_runV (As := [.ref a_p0_sightTickets]) (rest := []) hC hW (c_Row_copyFrom l D I J Z a_p0_sightTickets a_p0_sightTickets_cells a_t_sightTickets a_t_sightTickets_cells 6 6 v_p0_sightTickets_cells v_t_sightTickets_cells (w_3_0) hc_3) cl_Play_97 q_code_Row_copyFrom [7, 8, 18, 19] rfl (by decide) 18 rfl rfl rfl rfl hl.1 (Nat.le_of_ble_eq_true rfl) (rm_ok hR1 hR2 (by decide) (by decide)) ⟨Nat.zero_le _, Nat.zero_le _⟩ d_Play_copyFrom_86) hW hA [7, 8, 18, 19] rfl rfl (ps := [none, none, none, none, none, none, none, some 0, some 1, none, none, none, none, none, none, none, none, none, some 2, some 3, none, none]) (by decide +kernel) ⟨rfl, rfl, rfl, rfl, rfl, rfl, rfl, rfl, rfl, rfl, rfl, rfl, rfl, rfl, rfl, rfl, rfl, rfl, rfl, rfl, rfl, rfl, trivial⟩ (fun H locs hW => ?_)
  refine lv_aload_n hx hb d_Play_copyFrom_89 rfl (lv_at hl 0 rfl) ?_
  refine x_get hC hW 11 rfl fl_Play_26 rfl d_Play_copyFrom_90 ?_
  refine lv_aload_n hx hb d_Play_copyFrom_93 rfl (lv_at hl 1 rfl) ?_
  refine x_get hC hW 0 rfl fl_Play_26 rfl d_Play_copyFrom_94 ?_
  obtain ⟨w_4_0, hc_4, h⟩ := bk1_e h
  refine x_cv (ws' := [(a_p0, .inr (4, [.int v_p0_n, .int v_p0_t, .int v_p0_d, .int v_p0_r, .int v_p0_fond, .int v_p0_ticketCount, .ref a_p0_tickets, .ref a_p0_prizes, .int v_p0_sightCount, .ref a_p0_sightTickets, .ref a_p0_sightNumbers, .ref a_p0_sightKinds])), (a_p0_prizes, .inr (5, [.ref a_p0_prizes_cells])), (a_p0_prizes_cells, .inl (I, 9, .inl v_p0_prizes_cells)), (a_p0_sightKinds, .inr (5, [.ref a_p0_sightKinds_cells])), (a_p0_sightKinds_cells, .inl (I, 6, .inl v_p0_sightKinds_cells)), (a_p0_sightNumbers, .inr (5, [.ref a_p0_sightNumbers_cells])), (a_p0_sightNumbers_cells, .inl (I, 6, .inl v_p0_sightNumbers_cells)), (a_p0_sightTickets, .inr (5, [.ref a_p0_sightTickets_cells])), (a_p0_sightTickets_cells, .inl (I, 6, .inl v_p0_sightTickets_cells)), (a_p0_tickets, .inr (5, [.ref a_p0_tickets_cells])), (a_p0_tickets_cells, .inl (I, 6, .inl v_p0_tickets_cells)), (a_t, .inr (4, [.int v_p0_n, .int v_p0_t, .int v_p0_d, .int v_p0_r, .int v_p0_fond, .int v_p0_ticketCount, .ref a_t_tickets, .ref a_t_prizes, .int v_p0_sightCount, .ref a_t_sightTickets, .ref a_t_sightNumbers, .ref a_t_sightKinds])), (a_t_prizes, .inr (5, [.ref a_t_prizes_cells])), (a_t_prizes_cells, .inl (I, 9, .inl w_2_0)), (a_t_sightKinds, .inr (5, [.ref a_t_sightKinds_cells])), (a_t_sightKinds_cells, .inl (I, 6, .inl v_t_sightKinds_cells)), (a_t_sightNumbers, .inr (5, [.ref a_t_sightNumbers_cells])), (a_t_sightNumbers_cells, .inl (I, 6, .inl w_4_0)), (a_t_sightTickets, .inr (5, [.ref a_t_sightTickets_cells])), (a_t_sightTickets_cells, .inl (I, 6, .inl w_3_0)), (a_t_tickets, .inr (5, [.ref a_t_tickets_cells])), (a_t_tickets_cells, .inl (I, 6, .inl w_1_0))]) (x_runV (As := [.ref a_p0_sightNumbers]) (rest := []) hC hW (c_Row_copyFrom l D I J Z a_p0_sightNumbers a_p0_sightNumbers_cells a_t_sightNumbers a_t_sightNumbers_cells 6 6 v_p0_sightNumbers_cells v_t_sightNumbers_cells (w_4_0) hc_4) cl_Play_97 q_code_Row_copyFrom [5, 6, 16, 17] rfl (by decide) 16 rfl rfl rfl rfl hl.1 (Nat.le_of_ble_eq_true rfl) (rm_ok hR1 hR2 (by decide) (by decide)) ⟨Nat.zero_le _, Nat.zero_le _⟩ d_Play_copyFrom_97) hW hA [5, 6, 16, 17] rfl rfl (ps := [none, none, none, none, none, some 0, some 1, none, none, none, none, none, none, none, none, none, some 2, some 3, none, none, none, none]) (by decide +kernel) ⟨rfl, rfl, rfl, rfl, rfl, rfl, rfl, rfl, rfl, rfl, rfl, rfl, rfl, rfl, rfl, rfl, rfl, rfl, rfl, rfl, rfl, rfl, trivial⟩ (fun H locs hW => ?_)
  refine lv_aload_n hx hb d_Play_copyFrom_100 rfl (lv_at hl 0 rfl) ?_
  refine x_get hC hW 11 rfl fl_Play_29 rfl d_Play_copyFrom_101 ?_
  refine lv_aload_n hx hb d_Play_copyFrom_104 rfl (lv_at hl 1 rfl) ?_
  refine x_get hC hW 0 rfl fl_Play_29 rfl d_Play_copyFrom_105 ?_
  obtain ⟨w_5_0, hc_5, h⟩ := bk1_e h
  refine x_cv (ws' := [(a_p0, .inr (4, [.int v_p0_n, .int v_p0_t, .int v_p0_d, .int v_p0_r, .int v_p0_fond, .int v_p0_ticketCount, .ref a_p0_tickets, .ref a_p0_prizes, .int v_p0_sightCount, .ref a_p0_sightTickets, .ref a_p0_sightNumbers, .ref a_p0_sightKinds])), (a_p0_prizes, .inr (5, [.ref a_p0_prizes_cells])), (a_p0_prizes_cells, .inl (I, 9, .inl v_p0_prizes_cells)), (a_p0_sightKinds, .inr (5, [.ref a_p0_sightKinds_cells])), (a_p0_sightKinds_cells, .inl (I, 6, .inl v_p0_sightKinds_cells)), (a_p0_sightNumbers, .inr (5, [.ref a_p0_sightNumbers_cells])), (a_p0_sightNumbers_cells, .inl (I, 6, .inl v_p0_sightNumbers_cells)), (a_p0_sightTickets, .inr (5, [.ref a_p0_sightTickets_cells])), (a_p0_sightTickets_cells, .inl (I, 6, .inl v_p0_sightTickets_cells)), (a_p0_tickets, .inr (5, [.ref a_p0_tickets_cells])), (a_p0_tickets_cells, .inl (I, 6, .inl v_p0_tickets_cells)), (a_t, .inr (4, [.int v_p0_n, .int v_p0_t, .int v_p0_d, .int v_p0_r, .int v_p0_fond, .int v_p0_ticketCount, .ref a_t_tickets, .ref a_t_prizes, .int v_p0_sightCount, .ref a_t_sightTickets, .ref a_t_sightNumbers, .ref a_t_sightKinds])), (a_t_prizes, .inr (5, [.ref a_t_prizes_cells])), (a_t_prizes_cells, .inl (I, 9, .inl w_2_0)), (a_t_sightKinds, .inr (5, [.ref a_t_sightKinds_cells])), (a_t_sightKinds_cells, .inl (I, 6, .inl w_5_0)), (a_t_sightNumbers, .inr (5, [.ref a_t_sightNumbers_cells])), (a_t_sightNumbers_cells, .inl (I, 6, .inl w_4_0)), (a_t_sightTickets, .inr (5, [.ref a_t_sightTickets_cells])), (a_t_sightTickets_cells, .inl (I, 6, .inl w_3_0)), (a_t_tickets, .inr (5, [.ref a_t_tickets_cells])), (a_t_tickets_cells, .inl (I, 6, .inl w_1_0))]) (x_runV (As := [.ref a_p0_sightKinds]) (rest := []) hC hW (c_Row_copyFrom l D I J Z a_p0_sightKinds a_p0_sightKinds_cells a_t_sightKinds a_t_sightKinds_cells 6 6 v_p0_sightKinds_cells v_t_sightKinds_cells (w_5_0) hc_5) cl_Play_97 q_code_Row_copyFrom [3, 4, 14, 15] rfl (by decide) 14 rfl rfl rfl rfl hl.1 (Nat.le_of_ble_eq_true rfl) (rm_ok hR1 hR2 (by decide) (by decide)) ⟨Nat.zero_le _, Nat.zero_le _⟩ d_Play_copyFrom_108) hW hA [3, 4, 14, 15] rfl rfl (ps := [none, none, none, some 0, some 1, none, none, none, none, none, none, none, none, none, some 2, some 3, none, none, none, none, none, none]) (by decide +kernel) ⟨rfl, rfl, rfl, rfl, rfl, rfl, rfl, rfl, rfl, rfl, rfl, rfl, rfl, rfl, rfl, rfl, rfl, rfl, rfl, rfl, rfl, rfl, trivial⟩ (fun H locs hW => ?_)
  cases h
  rw [hQ]
  exact x_vret hC hr hW d_Play_copyFrom_111
