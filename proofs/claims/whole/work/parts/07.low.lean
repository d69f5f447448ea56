def f_Integer_bitCount (p0 : Int32) : Option (Int32) :=
  some (((((((((p0 - ((p0.toUInt32 >>> ((1 : Int32).toUInt32 &&& Int32.toUInt32 31)).toInt32 &&& (1431655765 : Int32))) &&& (858993459 : Int32)) + (((p0 - ((p0.toUInt32 >>> ((1 : Int32).toUInt32 &&& Int32.toUInt32 31)).toInt32 &&& (1431655765 : Int32))).toUInt32 >>> ((2 : Int32).toUInt32 &&& Int32.toUInt32 31)).toInt32 &&& (858993459 : Int32))) + ((((p0 - ((p0.toUInt32 >>> ((1 : Int32).toUInt32 &&& Int32.toUInt32 31)).toInt32 &&& (1431655765 : Int32))) &&& (858993459 : Int32)) + (((p0 - ((p0.toUInt32 >>> ((1 : Int32).toUInt32 &&& Int32.toUInt32 31)).toInt32 &&& (1431655765 : Int32))).toUInt32 >>> ((2 : Int32).toUInt32 &&& Int32.toUInt32 31)).toInt32 &&& (858993459 : Int32))).toUInt32 >>> ((4 : Int32).toUInt32 &&& Int32.toUInt32 31)).toInt32) &&& (252645135 : Int32)) + ((((((p0 - ((p0.toUInt32 >>> ((1 : Int32).toUInt32 &&& Int32.toUInt32 31)).toInt32 &&& (1431655765 : Int32))) &&& (858993459 : Int32)) + (((p0 - ((p0.toUInt32 >>> ((1 : Int32).toUInt32 &&& Int32.toUInt32 31)).toInt32 &&& (1431655765 : Int32))).toUInt32 >>> ((2 : Int32).toUInt32 &&& Int32.toUInt32 31)).toInt32 &&& (858993459 : Int32))) + ((((p0 - ((p0.toUInt32 >>> ((1 : Int32).toUInt32 &&& Int32.toUInt32 31)).toInt32 &&& (1431655765 : Int32))) &&& (858993459 : Int32)) + (((p0 - ((p0.toUInt32 >>> ((1 : Int32).toUInt32 &&& Int32.toUInt32 31)).toInt32 &&& (1431655765 : Int32))).toUInt32 >>> ((2 : Int32).toUInt32 &&& Int32.toUInt32 31)).toInt32 &&& (858993459 : Int32))).toUInt32 >>> ((4 : Int32).toUInt32 &&& Int32.toUInt32 31)).toInt32) &&& (252645135 : Int32)).toUInt32 >>> ((8 : Int32).toUInt32 &&& Int32.toUInt32 31)).toInt32) + (((((((p0 - ((p0.toUInt32 >>> ((1 : Int32).toUInt32 &&& Int32.toUInt32 31)).toInt32 &&& (1431655765 : Int32))) &&& (858993459 : Int32)) + (((p0 - ((p0.toUInt32 >>> ((1 : Int32).toUInt32 &&& Int32.toUInt32 31)).toInt32 &&& (1431655765 : Int32))).toUInt32 >>> ((2 : Int32).toUInt32 &&& Int32.toUInt32 31)).toInt32 &&& (858993459 : Int32))) + ((((p0 - ((p0.toUInt32 >>> ((1 : Int32).toUInt32 &&& Int32.toUInt32 31)).toInt32 &&& (1431655765 : Int32))) &&& (858993459 : Int32)) + (((p0 - ((p0.toUInt32 >>> ((1 : Int32).toUInt32 &&& Int32.toUInt32 31)).toInt32 &&& (1431655765 : Int32))).toUInt32 >>> ((2 : Int32).toUInt32 &&& Int32.toUInt32 31)).toInt32 &&& (858993459 : Int32))).toUInt32 >>> ((4 : Int32).toUInt32 &&& Int32.toUInt32 31)).toInt32) &&& (252645135 : Int32)) + ((((((p0 - ((p0.toUInt32 >>> ((1 : Int32).toUInt32 &&& Int32.toUInt32 31)).toInt32 &&& (1431655765 : Int32))) &&& (858993459 : Int32)) + (((p0 - ((p0.toUInt32 >>> ((1 : Int32).toUInt32 &&& Int32.toUInt32 31)).toInt32 &&& (1431655765 : Int32))).toUInt32 >>> ((2 : Int32).toUInt32 &&& Int32.toUInt32 31)).toInt32 &&& (858993459 : Int32))) + ((((p0 - ((p0.toUInt32 >>> ((1 : Int32).toUInt32 &&& Int32.toUInt32 31)).toInt32 &&& (1431655765 : Int32))) &&& (858993459 : Int32)) + (((p0 - ((p0.toUInt32 >>> ((1 : Int32).toUInt32 &&& Int32.toUInt32 31)).toInt32 &&& (1431655765 : Int32))).toUInt32 >>> ((2 : Int32).toUInt32 &&& Int32.toUInt32 31)).toInt32 &&& (858993459 : Int32))).toUInt32 >>> ((4 : Int32).toUInt32 &&& Int32.toUInt32 31)).toInt32) &&& (252645135 : Int32)).toUInt32 >>> ((8 : Int32).toUInt32 &&& Int32.toUInt32 31)).toInt32).toUInt32 >>> ((16 : Int32).toUInt32 &&& Int32.toUInt32 31)).toInt32) &&& (63 : Int32)))
set_option maxHeartbeats 4000000 in
set_option maxRecDepth 100000 in
theorem c_Integer_bitCount (l : Launch) (D : va_G) (I J Z : ClassId)    (p0 : Int32) (out : (Int32)) (h : f_Integer_bitCount p0 = some out) : CT l D I J Z y_Integer_bitCount b_Integer_bitCount 1 (some .int) 1 [.int p0] [] (PoI out D []) := by
  unfold f_Integer_bitCount at h
  refine CT_of R_Integer (by decide +kernel) rfl (Nat.le_of_ble_eq_true rfl) ?_
  intro p e R s m args below meth c A ls Q hR1 hR2 hQ hC hr hW hA hl
  have hx := hC.1
  have hb := hC.2.1
  have hl : lv_has ls 1 [(0, .int p0)] := hl
  refine lv_iload_n hx hb d_Integer_bitCount_0 rfl (lv_at hl 0 rfl) ?_
  refine lv_iload_n hx hb d_Integer_bitCount_1 rfl (lv_at hl 0 rfl) ?_
  refine lv_iconst (v := (1 : Int32)) hx hb d_Integer_bitCount_2 (by decide) ?_
  refine lv_iushr hx hb d_Integer_bitCount_3 rfl ?_
  refine x_ldcw hC q_con_Integer_265 d_Integer_bitCount_4 ?_
  refine lv_iand hx hb d_Integer_bitCount_7 ?_
  refine lv_isub hx hb d_Integer_bitCount_8 ?_
  refine lv_istore_n (lv' := [(0, .int (p0 - ((p0.toUInt32 >>> ((1 : Int32).toUInt32 &&& Int32.toUInt32 31)).toInt32 &&& (1431655765 : Int32))))]) hx hb d_Integer_bitCount_9 rfl hl (by decide) rfl (fun ls hl => ?_)
  refine lv_iload_n hx hb d_Integer_bitCount_10 rfl (lv_at hl 0 rfl) ?_
  refine x_ldcw hC q_con_Integer_266 d_Integer_bitCount_11 ?_
  refine lv_iand hx hb d_Integer_bitCount_14 ?_
  refine lv_iload_n hx hb d_Integer_bitCount_15 rfl (lv_at hl 0 rfl) ?_
  refine lv_iconst (v := (2 : Int32)) hx hb d_Integer_bitCount_16 (by decide) ?_
  refine lv_iushr hx hb d_Integer_bitCount_17 rfl ?_
  refine x_ldcw hC q_con_Integer_266 d_Integer_bitCount_18 ?_
  refine lv_iand hx hb d_Integer_bitCount_21 ?_
  refine lv_iadd hx hb d_Integer_bitCount_22 ?_
  refine lv_istore_n (lv' := [(0, .int (((p0 - ((p0.toUInt32 >>> ((1 : Int32).toUInt32 &&& Int32.toUInt32 31)).toInt32 &&& (1431655765 : Int32))) &&& (858993459 : Int32)) + (((p0 - ((p0.toUInt32 >>> ((1 : Int32).toUInt32 &&& Int32.toUInt32 31)).toInt32 &&& (1431655765 : Int32))).toUInt32 >>> ((2 : Int32).toUInt32 &&& Int32.toUInt32 31)).toInt32 &&& (858993459 : Int32))))]) hx hb d_Integer_bitCount_23 rfl hl (by decide) rfl (fun ls hl => ?_)
  refine lv_iload_n hx hb d_Integer_bitCount_24 rfl (lv_at hl 0 rfl) ?_
  refine lv_iload_n hx hb d_Integer_bitCount_25 rfl (lv_at hl 0 rfl) ?_
  refine lv_iconst (v := (4 : Int32)) hx hb d_Integer_bitCount_26 (by decide) ?_
  refine lv_iushr hx hb d_Integer_bitCount_27 rfl ?_
  refine lv_iadd hx hb d_Integer_bitCount_28 ?_
  refine x_ldcw hC q_con_Integer_267 d_Integer_bitCount_29 ?_
  refine lv_iand hx hb d_Integer_bitCount_32 ?_
  refine lv_istore_n (lv' := [(0, .int (((((p0 - ((p0.toUInt32 >>> ((1 : Int32).toUInt32 &&& Int32.toUInt32 31)).toInt32 &&& (1431655765 : Int32))) &&& (858993459 : Int32)) + (((p0 - ((p0.toUInt32 >>> ((1 : Int32).toUInt32 &&& Int32.toUInt32 31)).toInt32 &&& (1431655765 : Int32))).toUInt32 >>> ((2 : Int32).toUInt32 &&& Int32.toUInt32 31)).toInt32 &&& (858993459 : Int32))) + ((((p0 - ((p0.toUInt32 >>> ((1 : Int32).toUInt32 &&& Int32.toUInt32 31)).toInt32 &&& (1431655765 : Int32))) &&& (858993459 : Int32)) + (((p0 - ((p0.toUInt32 >>> ((1 : Int32).toUInt32 &&& Int32.toUInt32 31)).toInt32 &&& (1431655765 : Int32))).toUInt32 >>> ((2 : Int32).toUInt32 &&& Int32.toUInt32 31)).toInt32 &&& (858993459 : Int32))).toUInt32 >>> ((4 : Int32).toUInt32 &&& Int32.toUInt32 31)).toInt32) &&& (252645135 : Int32)))]) hx hb d_Integer_bitCount_33 rfl hl (by decide) rfl (fun ls hl => ?_)
  refine lv_iload_n hx hb d_Integer_bitCount_34 rfl (lv_at hl 0 rfl) ?_
  refine lv_iload_n hx hb d_Integer_bitCount_35 rfl (lv_at hl 0 rfl) ?_
  refine lv_bipush (v := (8 : Int32)) hx hb d_Integer_bitCount_36 (by decide) ?_
  refine lv_iushr hx hb d_Integer_bitCount_38 rfl ?_
  refine lv_iadd hx hb d_Integer_bitCount_39 ?_
  refine lv_istore_n (lv' := [(0, .int ((((((p0 - ((p0.toUInt32 >>> ((1 : Int32).toUInt32 &&& Int32.toUInt32 31)).toInt32 &&& (1431655765 : Int32))) &&& (858993459 : Int32)) + (((p0 - ((p0.toUInt32 >>> ((1 : Int32).toUInt32 &&& Int32.toUInt32 31)).toInt32 &&& (1431655765 : Int32))).toUInt32 >>> ((2 : Int32).toUInt32 &&& Int32.toUInt32 31)).toInt32 &&& (858993459 : Int32))) + ((((p0 - ((p0.toUInt32 >>> ((1 : Int32).toUInt32 &&& Int32.toUInt32 31)).toInt32 &&& (1431655765 : Int32))) &&& (858993459 : Int32)) + (((p0 - ((p0.toUInt32 >>> ((1 : Int32).toUInt32 &&& Int32.toUInt32 31)).toInt32 &&& (1431655765 : Int32))).toUInt32 >>> ((2 : Int32).toUInt32 &&& Int32.toUInt32 31)).toInt32 &&& (858993459 : Int32))).toUInt32 >>> ((4 : Int32).toUInt32 &&& Int32.toUInt32 31)).toInt32) &&& (252645135 : Int32)) + ((((((p0 - ((p0.toUInt32 >>> ((1 : Int32).toUInt32 &&& Int32.toUInt32 31)).toInt32 &&& (1431655765 : Int32))) &&& (858993459 : Int32)) + (((p0 - ((p0.toUInt32 >>> ((1 : Int32).toUInt32 &&& Int32.toUInt32 31)).toInt32 &&& (1431655765 : Int32))).toUInt32 >>> ((2 : Int32).toUInt32 &&& Int32.toUInt32 31)).toInt32 &&& (858993459 : Int32))) + ((((p0 - ((p0.toUInt32 >>> ((1 : Int32).toUInt32 &&& Int32.toUInt32 31)).toInt32 &&& (1431655765 : Int32))) &&& (858993459 : Int32)) + (((p0 - ((p0.toUInt32 >>> ((1 : Int32).toUInt32 &&& Int32.toUInt32 31)).toInt32 &&& (1431655765 : Int32))).toUInt32 >>> ((2 : Int32).toUInt32 &&& Int32.toUInt32 31)).toInt32 &&& (858993459 : Int32))).toUInt32 >>> ((4 : Int32).toUInt32 &&& Int32.toUInt32 31)).toInt32) &&& (252645135 : Int32)).toUInt32 >>> ((8 : Int32).toUInt32 &&& Int32.toUInt32 31)).toInt32))]) hx hb d_Integer_bitCount_40 rfl hl (by decide) rfl (fun ls hl => ?_)
  refine lv_iload_n hx hb d_Integer_bitCount_41 rfl (lv_at hl 0 rfl) ?_
  refine lv_iload_n hx hb d_Integer_bitCount_42 rfl (lv_at hl 0 rfl) ?_
  refine lv_bipush (v := (16 : Int32)) hx hb d_Integer_bitCount_43 (by decide) ?_
  refine lv_iushr hx hb d_Integer_bitCount_45 rfl ?_
  refine lv_iadd hx hb d_Integer_bitCount_46 ?_
  refine lv_istore_n (lv' := [(0, .int (((((((p0 - ((p0.toUInt32 >>> ((1 : Int32).toUInt32 &&& Int32.toUInt32 31)).toInt32 &&& (1431655765 : Int32))) &&& (858993459 : Int32)) + (((p0 - ((p0.toUInt32 >>> ((1 : Int32).toUInt32 &&& Int32.toUInt32 31)).toInt32 &&& (1431655765 : Int32))).toUInt32 >>> ((2 : Int32).toUInt32 &&& Int32.toUInt32 31)).toInt32 &&& (858993459 : Int32))) + ((((p0 - ((p0.toUInt32 >>> ((1 : Int32).toUInt32 &&& Int32.toUInt32 31)).toInt32 &&& (1431655765 : Int32))) &&& (858993459 : Int32)) + (((p0 - ((p0.toUInt32 >>> ((1 : Int32).toUInt32 &&& Int32.toUInt32 31)).toInt32 &&& (1431655765 : Int32))).toUInt32 >>> ((2 : Int32).toUInt32 &&& Int32.toUInt32 31)).toInt32 &&& (858993459 : Int32))).toUInt32 >>> ((4 : Int32).toUInt32 &&& Int32.toUInt32 31)).toInt32) &&& (252645135 : Int32)) + ((((((p0 - ((p0.toUInt32 >>> ((1 : Int32).toUInt32 &&& Int32.toUInt32 31)).toInt32 &&& (1431655765 : Int32))) &&& (858993459 : Int32)) + (((p0 - ((p0.toUInt32 >>> ((1 : Int32).toUInt32 &&& Int32.toUInt32 31)).toInt32 &&& (1431655765 : Int32))).toUInt32 >>> ((2 : Int32).toUInt32 &&& Int32.toUInt32 31)).toInt32 &&& (858993459 : Int32))) + ((((p0 - ((p0.toUInt32 >>> ((1 : Int32).toUInt32 &&& Int32.toUInt32 31)).toInt32 &&& (1431655765 : Int32))) &&& (858993459 : Int32)) + (((p0 - ((p0.toUInt32 >>> ((1 : Int32).toUInt32 &&& Int32.toUInt32 31)).toInt32 &&& (1431655765 : Int32))).toUInt32 >>> ((2 : Int32).toUInt32 &&& Int32.toUInt32 31)).toInt32 &&& (858993459 : Int32))).toUInt32 >>> ((4 : Int32).toUInt32 &&& Int32.toUInt32 31)).toInt32) &&& (252645135 : Int32)).toUInt32 >>> ((8 : Int32).toUInt32 &&& Int32.toUInt32 31)).toInt32) + (((((((p0 - ((p0.toUInt32 >>> ((1 : Int32).toUInt32 &&& Int32.toUInt32 31)).toInt32 &&& (1431655765 : Int32))) &&& (858993459 : Int32)) + (((p0 - ((p0.toUInt32 >>> ((1 : Int32).toUInt32 &&& Int32.toUInt32 31)).toInt32 &&& (1431655765 : Int32))).toUInt32 >>> ((2 : Int32).toUInt32 &&& Int32.toUInt32 31)).toInt32 &&& (858993459 : Int32))) + ((((p0 - ((p0.toUInt32 >>> ((1 : Int32).toUInt32 &&& Int32.toUInt32 31)).toInt32 &&& (1431655765 : Int32))) &&& (858993459 : Int32)) + (((p0 - ((p0.toUInt32 >>> ((1 : Int32).toUInt32 &&& Int32.toUInt32 31)).toInt32 &&& (1431655765 : Int32))).toUInt32 >>> ((2 : Int32).toUInt32 &&& Int32.toUInt32 31)).toInt32 &&& (858993459 : Int32))).toUInt32 >>> ((4 : Int32).toUInt32 &&& Int32.toUInt32 31)).toInt32) &&& (252645135 : Int32)) + ((((((p0 - ((p0.toUInt32 >>> ((1 : Int32).toUInt32 &&& Int32.toUInt32 31)).toInt32 &&& (1431655765 : Int32))) &&& (858993459 : Int32)) + (((p0 - ((p0.toUInt32 >>> ((1 : Int32).toUInt32 &&& Int32.toUInt32 31)).toInt32 &&& (1431655765 : Int32))).toUInt32 >>> ((2 : Int32).toUInt32 &&& Int32.toUInt32 31)).toInt32 &&& (858993459 : Int32))) + ((((p0 - ((p0.toUInt32 >>> ((1 : Int32).toUInt32 &&& Int32.toUInt32 31)).toInt32 &&& (1431655765 : Int32))) &&& (858993459 : Int32)) + (((p0 - ((p0.toUInt32 >>> ((1 : Int32).toUInt32 &&& Int32.toUInt32 31)).toInt32 &&& (1431655765 : Int32))).toUInt32 >>> ((2 : Int32).toUInt32 &&& Int32.toUInt32 31)).toInt32 &&& (858993459 : Int32))).toUInt32 >>> ((4 : Int32).toUInt32 &&& Int32.toUInt32 31)).toInt32) &&& (252645135 : Int32)).toUInt32 >>> ((8 : Int32).toUInt32 &&& Int32.toUInt32 31)).toInt32).toUInt32 >>> ((16 : Int32).toUInt32 &&& Int32.toUInt32 31)).toInt32))]) hx hb d_Integer_bitCount_47 rfl hl (by decide) rfl (fun ls hl => ?_)
  refine lv_iload_n hx hb d_Integer_bitCount_48 rfl (lv_at hl 0 rfl) ?_
  refine lv_bipush (v := (63 : Int32)) hx hb d_Integer_bitCount_49 (by decide) ?_
  refine lv_iand hx hb d_Integer_bitCount_51 ?_
  cases h
  rw [hQ]
  exact x_iret hC hr hW d_Integer_bitCount_52

def f_Main_isPartOf (p0 : Int32) (p1 : Int32) : Option (Int32) :=
  if (p0 &&& (p1 ^^^ (-1 : Int32))) = (0 : Int32) then some ((1 : Int32)) else some ((0 : Int32))
set_option maxHeartbeats 4000000 in
set_option maxRecDepth 100000 in
theorem c_Main_isPartOf (l : Launch) (D : va_G) (I J Z : ClassId)    (p0 : Int32) (p1 : Int32) (out : (Int32)) (h : f_Main_isPartOf p0 p1 = some out) : CT l D I J Z y_Main_isPartOf b_Main_isPartOf 2 (some .boolean) 1 [.int p0, .int p1] [] (PoI out D []) := by
  unfold f_Main_isPartOf at h
  refine CT_of R_Main (by decide +kernel) rfl (Nat.le_of_ble_eq_true rfl) ?_
  intro p e R s m args below meth c A ls Q hR1 hR2 hQ hC hr hW hA hl
  have hx := hC.1
  have hb := hC.2.1
  have hl : lv_has ls 2 [(0, .int p0), (1, .int p1)] := hl
  refine lv_iload_n hx hb d_Main_isPartOf_0 rfl (lv_at hl 0 rfl) ?_
  refine lv_iload_n hx hb d_Main_isPartOf_1 rfl (lv_at hl 1 rfl) ?_
  refine lv_iconst (v := (-1 : Int32)) hx hb d_Main_isPartOf_2 (by decide) ?_
  refine lv_ixor hx hb d_Main_isPartOf_3 ?_
  refine lv_iand hx hb d_Main_isPartOf_4 ?_
  refine lv_if_ne (tgt := 12) hx hb d_Main_isPartOf_5 (by decide) (fun c_1 => ?_) (fun c_1 => ?_)
  · have h := ie_e c_1 h
    refine lv_iconst (v := (0 : Int32)) hx hb d_Main_isPartOf_12 (by decide) ?_
    cases h
    rw [hQ]
    exact x_zret hC hr (show narrow .boolean (.int (0 : Int32)) = .int (0 : Int32) from rfl) hW d_Main_isPartOf_13
  · have h := it_e c_1 h
    refine lv_iconst (v := (1 : Int32)) hx hb d_Main_isPartOf_8 (by decide) ?_
    refine lv_goto (tgt := 13) hx hb d_Main_isPartOf_9 (by decide) ?_
    cases h
    rw [hQ]
    exact x_zret hC hr (show narrow .boolean (.int (1 : Int32)) = .int (1 : Int32) from rfl) hW d_Main_isPartOf_13

def f_Row_put (N_t : Nat) (v_t_cells : Nat → Int32) (p0 : Int32) (p1 : Int32) : Option ((Nat → Int32)) :=
  if p0 < (0 : Int32) then some (v_t_cells) else if (nI N_t) ≤ p0 then some (v_t_cells) else gd p0 N_t (some ((upd v_t_cells p0.toNatClampNeg p1)))
set_option maxHeartbeats 4000000 in
set_option maxRecDepth 100000 in
theorem c_Row_put (l : Launch) (D : va_G) (I J Z : ClassId) (a_t : Nat) (a_t_cells : Nat) (N_t : Nat) (v_t_cells : Nat → Int32) (p0 : Int32) (p1 : Int32) (out : ((Nat → Int32))) (h : f_Row_put N_t v_t_cells p0 p1 = some out) : CT l D I J Z y_Row_put b_Row_put 3 none 1 [.ref a_t, .int p0, .int p1] [(a_t, .inr (5, [.ref a_t_cells])), (a_t_cells, .inl (I, N_t, .inl v_t_cells))] (PoV D [(a_t, .inr (5, [.ref a_t_cells])), (a_t_cells, .inl (I, N_t, .inl out))]) := by
  unfold f_Row_put at h
  refine CT_of R_Row (by decide +kernel) rfl (Nat.le_of_ble_eq_true rfl) ?_
  intro p e R s m args below meth c A ls Q hR1 hR2 hQ hC hr hW hA hl
  have hx := hC.1
  have hb := hC.2.1
  have hl : lv_has ls 3 [(0, .ref a_t), (1, .int p0), (2, .int p1)] := hl
  refine lv_iload_n hx hb d_Row_put_0 rfl (lv_at hl 1 rfl) ?_
  refine lv_if_lt (tgt := 20) hx hb d_Row_put_1 (by decide) (fun c_1 => ?_) (fun c_1 => ?_)
  · have h := it_e c_1 h
    cases h
    rw [hQ]
    exact x_vret hC hr hW d_Row_put_20
  · have h := ie_e c_1 h
    refine lv_iload_n hx hb d_Row_put_4 rfl (lv_at hl 1 rfl) ?_
    refine lv_aload_n hx hb d_Row_put_5 rfl (lv_at hl 0 rfl) ?_
    refine x_get hC hW 0 rfl fl_Row_13 rfl d_Row_put_6 ?_
    refine x_alenI hC hW 1 rfl d_Row_put_9 ?_
    refine lv_icmp_ge (tgt := 20) hx hb d_Row_put_10 (by decide) (fun c_2 => ?_) (fun c_2 => ?_)
    · have h := it_e c_2 h
      cases h
      rw [hQ]
      exact x_vret hC hr hW d_Row_put_20
    · have h := ie_e c_2 h
      refine lv_aload_n hx hb d_Row_put_13 rfl (lv_at hl 0 rfl) ?_
      refine x_get hC hW 0 rfl fl_Row_13 rfl d_Row_put_14 ?_
      refine lv_iload_n hx hb d_Row_put_17 rfl (lv_at hl 1 rfl) ?_
      refine lv_iload_n hx hb d_Row_put_18 rfl (lv_at hl 2 rfl) ?_
      obtain ⟨hi_3, h⟩ := gd_e h
      refine x_iast (ws' := [(a_t, .inr (5, [.ref a_t_cells])), (a_t_cells, .inl (I, N_t, .inl (upd v_t_cells p0.toNatClampNeg p1)))]) hC hW 1 rfl hi_3 d_Row_put_19 rfl (fun H locs hW => ?_)
      cases h
      rw [hQ]
      exact x_vret hC hr hW d_Row_put_20

def f_Row_at (N_t : Nat) (v_t_cells : Nat → Int32) (p0 : Int32) : Option (Int32) :=
  if p0 < (0 : Int32) then some ((0 : Int32)) else if (nI N_t) ≤ p0 then some ((0 : Int32)) else gd p0 N_t (some ((v_t_cells p0.toNatClampNeg)))
set_option maxHeartbeats 4000000 in
set_option maxRecDepth 100000 in
theorem c_Row_at (l : Launch) (D : va_G) (I J Z : ClassId) (a_t : Nat) (a_t_cells : Nat) (N_t : Nat) (v_t_cells : Nat → Int32) (p0 : Int32) (out : (Int32)) (h : f_Row_at N_t v_t_cells p0 = some out) : CT l D I J Z y_Row_at b_Row_at 2 (some .int) 1 [.ref a_t, .int p0] [(a_t, .inr (5, [.ref a_t_cells])), (a_t_cells, .inl (I, N_t, .inl v_t_cells))] (PoI out D [(a_t, .inr (5, [.ref a_t_cells])), (a_t_cells, .inl (I, N_t, .inl v_t_cells))]) := by
  unfold f_Row_at at h
  refine CT_of R_Row (by decide +kernel) rfl (Nat.le_of_ble_eq_true rfl) ?_
  intro p e R s m args below meth c A ls Q hR1 hR2 hQ hC hr hW hA hl
  have hx := hC.1
  have hb := hC.2.1
  have hl : lv_has ls 2 [(0, .ref a_t), (1, .int p0)] := hl
  refine lv_iload_n hx hb d_Row_at_0 rfl (lv_at hl 1 rfl) ?_
  refine lv_if_lt (tgt := 22) hx hb d_Row_at_1 (by decide) (fun c_1 => ?_) (fun c_1 => ?_)
  · have h := it_e c_1 h
    refine lv_iconst (v := (0 : Int32)) hx hb d_Row_at_22 (by decide) ?_
    cases h
    rw [hQ]
    exact x_iret hC hr hW d_Row_at_23
  · have h := ie_e c_1 h
    refine lv_iload_n hx hb d_Row_at_4 rfl (lv_at hl 1 rfl) ?_
    refine lv_aload_n hx hb d_Row_at_5 rfl (lv_at hl 0 rfl) ?_
    refine x_get hC hW 0 rfl fl_Row_13 rfl d_Row_at_6 ?_
    refine x_alenI hC hW 1 rfl d_Row_at_9 ?_
    refine lv_icmp_ge (tgt := 22) hx hb d_Row_at_10 (by decide) (fun c_2 => ?_) (fun c_2 => ?_)
    · have h := it_e c_2 h
      refine lv_iconst (v := (0 : Int32)) hx hb d_Row_at_22 (by decide) ?_
      cases h
      rw [hQ]
      exact x_iret hC hr hW d_Row_at_23
    · have h := ie_e c_2 h
      refine lv_aload_n hx hb d_Row_at_13 rfl (lv_at hl 0 rfl) ?_
      refine x_get hC hW 0 rfl fl_Row_13 rfl d_Row_at_14 ?_
      refine lv_iload_n hx hb d_Row_at_17 rfl (lv_at hl 1 rfl) ?_
      obtain ⟨hi_3, h⟩ := gd_e h
      refine x_iald hC hW 1 rfl hi_3 d_Row_at_18 ?_
      refine lv_goto (tgt := 23) hx hb d_Row_at_19 (by decide) ?_
      cases h
      rw [hQ]
      exact x_iret hC hr hW d_Row_at_23

def f_DrawSets_put (N_t : Nat) (v_t_high : Nat → Int64) (v_t_low : Nat → Int64) (p0 : Int32) (p1 : Int64) (p2 : Int64) : Option ((Nat → Int64) × (Nat → Int64)) :=
  if p0 < (0 : Int32) then some (v_t_high, v_t_low) else if (nI N_t) ≤ p0 then some (v_t_high, v_t_low) else if (nI N_t) ≤ p0 then some (v_t_high, v_t_low) else gd p0 N_t (gd p0 N_t (some ((vp_updL v_t_high p0.toNatClampNeg p2), (vp_updL v_t_low p0.toNatClampNeg p1))))
set_option maxHeartbeats 4000000 in
set_option maxRecDepth 100000 in
theorem c_DrawSets_put (l : Launch) (D : va_G) (I J Z : ClassId) (a_t : Nat) (a_t_high : Nat) (a_t_low : Nat) (N_t : Nat) (v_t_high : Nat → Int64) (v_t_low : Nat → Int64) (p0 : Int32) (p1 : Int64) (p2 : Int64) (out : ((Nat → Int64) × (Nat → Int64))) (h : f_DrawSets_put N_t v_t_high v_t_low p0 p1 p2 = some out) : CT l D I J Z y_DrawSets_put b_DrawSets_put 6 none 1 [.ref a_t, .int p0, .long p1, .long p2] [(a_t, .inr (1, [.ref a_t_low, .ref a_t_high])), (a_t_high, .inl (J, N_t, .inr (.inl v_t_high))), (a_t_low, .inl (J, N_t, .inr (.inl v_t_low)))] (PoV D [(a_t, .inr (1, [.ref a_t_low, .ref a_t_high])), (a_t_high, .inl (J, N_t, .inr (.inl out.1))), (a_t_low, .inl (J, N_t, .inr (.inl out.2)))]) := by
  unfold f_DrawSets_put at h
  refine CT_of R_DrawSets (by decide +kernel) rfl (Nat.le_of_ble_eq_true rfl) ?_
  intro p e R s m args below meth c A ls Q hR1 hR2 hQ hC hr hW hA hl
  have hx := hC.1
  have hb := hC.2.1
  have hl : lv_has ls 6 [(0, .ref a_t), (1, .int p0), (2, .long p1), (4, .long p2)] := hl
  refine lv_iload_n hx hb d_DrawSets_put_0 rfl (lv_at hl 1 rfl) ?_
  refine lv_if_lt (tgt := 37) hx hb d_DrawSets_put_1 (by decide) (fun c_1 => ?_) (fun c_1 => ?_)
  · have h := it_e c_1 h
    cases h
    rw [hQ]
    exact x_vret hC hr hW d_DrawSets_put_37
  · have h := ie_e c_1 h
    refine lv_iload_n hx hb d_DrawSets_put_4 rfl (lv_at hl 1 rfl) ?_
    refine lv_aload_n hx hb d_DrawSets_put_5 rfl (lv_at hl 0 rfl) ?_
    refine x_get hC hW 0 rfl fl_DrawSets_13 rfl d_DrawSets_put_6 ?_
    refine x_alenL hC hW 2 rfl d_DrawSets_put_9 ?_
    refine lv_icmp_ge (tgt := 37) hx hb d_DrawSets_put_10 (by decide) (fun c_2 => ?_) (fun c_2 => ?_)
    · have h := it_e c_2 h
      cases h
      rw [hQ]
      exact x_vret hC hr hW d_DrawSets_put_37
    · have h := ie_e c_2 h
      refine lv_iload_n hx hb d_DrawSets_put_13 rfl (lv_at hl 1 rfl) ?_
      refine lv_aload_n hx hb d_DrawSets_put_14 rfl (lv_at hl 0 rfl) ?_
      refine x_get hC hW 0 rfl fl_DrawSets_19 rfl d_DrawSets_put_15 ?_
      refine x_alenL hC hW 1 rfl d_DrawSets_put_18 ?_
      refine lv_icmp_ge (tgt := 37) hx hb d_DrawSets_put_19 (by decide) (fun c_3 => ?_) (fun c_3 => ?_)
      · have h := it_e c_3 h
        cases h
        rw [hQ]
        exact x_vret hC hr hW d_DrawSets_put_37
      · have h := ie_e c_3 h
        refine lv_aload_n hx hb d_DrawSets_put_22 rfl (lv_at hl 0 rfl) ?_
        refine x_get hC hW 0 rfl fl_DrawSets_13 rfl d_DrawSets_put_23 ?_
        refine lv_iload_n hx hb d_DrawSets_put_26 rfl (lv_at hl 1 rfl) ?_
        refine lv_lload_n hx hb d_DrawSets_put_27 rfl (lv_at hl 2 rfl) ?_
        obtain ⟨hi_4, h⟩ := gd_e h
        refine x_last (ws' := [(a_t, .inr (1, [.ref a_t_low, .ref a_t_high])), (a_t_high, .inl (J, N_t, .inr (.inl v_t_high))), (a_t_low, .inl (J, N_t, .inr (.inl (vp_updL v_t_low p0.toNatClampNeg p1))))]) hC hW 2 rfl hi_4 d_DrawSets_put_28 rfl (fun H locs hW => ?_)
        refine lv_aload_n hx hb d_DrawSets_put_29 rfl (lv_at hl 0 rfl) ?_
        refine x_get hC hW 0 rfl fl_DrawSets_19 rfl d_DrawSets_put_30 ?_
        refine lv_iload_n hx hb d_DrawSets_put_33 rfl (lv_at hl 1 rfl) ?_
        refine lv_lload hx hb d_DrawSets_put_34 (lv_at hl 3 rfl) ?_
        obtain ⟨hi_5, h⟩ := gd_e h
        refine x_last (ws' := [(a_t, .inr (1, [.ref a_t_low, .ref a_t_high])), (a_t_high, .inl (J, N_t, .inr (.inl (vp_updL v_t_high p0.toNatClampNeg p2)))), (a_t_low, .inl (J, N_t, .inr (.inl (vp_updL v_t_low p0.toNatClampNeg p1))))]) hC hW 1 rfl hi_5 d_DrawSets_put_36 rfl (fun H locs hW => ?_)
        cases h
        rw [hQ]
        exact x_vret hC hr hW d_DrawSets_put_37

def f_DrawSets_clear (N_t : Nat) (v_t_high : Nat → Int64) (v_t_low : Nat → Int64) (p0 : Int32) : Option ((Nat → Int64) × (Nat → Int64)) :=
  bk2 (f_DrawSets_put N_t v_t_high v_t_low p0 (0 : Int64) (0 : Int64)) fun w_1_0 w_1_1 => some (w_1_0, w_1_1)
set_option maxHeartbeats 4000000 in
set_option maxRecDepth 100000 in
theorem c_DrawSets_clear (l : Launch) (D : va_G) (I J Z : ClassId) (a_t : Nat) (a_t_high : Nat) (a_t_low : Nat) (N_t : Nat) (v_t_high : Nat → Int64) (v_t_low : Nat → Int64) (p0 : Int32) (out : ((Nat → Int64) × (Nat → Int64))) (h : f_DrawSets_clear N_t v_t_high v_t_low p0 = some out) : CT l D I J Z y_DrawSets_clear b_DrawSets_clear 2 none 2 [.ref a_t, .int p0] [(a_t, .inr (1, [.ref a_t_low, .ref a_t_high])), (a_t_high, .inl (J, N_t, .inr (.inl v_t_high))), (a_t_low, .inl (J, N_t, .inr (.inl v_t_low)))] (PoV D [(a_t, .inr (1, [.ref a_t_low, .ref a_t_high])), (a_t_high, .inl (J, N_t, .inr (.inl out.1))), (a_t_low, .inl (J, N_t, .inr (.inl out.2)))]) := by
  unfold f_DrawSets_clear at h
  refine CT_of R_DrawSets (by decide +kernel) rfl (Nat.le_of_ble_eq_true rfl) ?_
  intro p e R s m args below meth c A ls Q hR1 hR2 hQ hC hr hW hA hl
  have hx := hC.1
  have hb := hC.2.1
  have hl : lv_has ls 2 [(0, .ref a_t), (1, .int p0)] := hl
  refine lv_aload_n hx hb d_DrawSets_clear_0 rfl (lv_at hl 0 rfl) ?_
  refine lv_iload_n hx hb d_DrawSets_clear_1 rfl (lv_at hl 1 rfl) ?_
  refine lv_lconst (v := (0 : Int64)) hx hb d_DrawSets_clear_2 (by decide) ?_
  refine lv_lconst (v := (0 : Int64)) hx hb d_DrawSets_clear_3 (by decide) ?_
  obtain ⟨w_1_0, w_1_1, hc_1, h⟩ := bk2_e h
  refine x_cv (ws' := [(a_t, .inr (1, [.ref a_t_low, .ref a_t_high])), (a_t_high, .inl (J, N_t, .inr (.inl w_1_0))), (a_t_low, .inl (J, N_t, .inr (.inl w_1_1)))]) (x_runV (As := [.int p0, .long (0 : Int64), .long (0 : Int64)]) (rest := []) hC hW (c_DrawSets_put l D I J Z a_t a_t_high a_t_low N_t v_t_high v_t_low p0 (0 : Int64) (0 : Int64) (w_1_0, w_1_1) hc_1) cl_DrawSets_22 q_code_DrawSets_put [0, 1, 2] rfl (by decide) 0 rfl rfl rfl rfl hl.1 (Nat.le_of_ble_eq_true rfl) (rm_ok hR1 hR2 (by decide) (by decide)) ⟨Nat.zero_le _, Nat.zero_le _⟩ d_DrawSets_clear_4) hW hA [0, 1, 2] rfl rfl (ps := [some 0, some 1, some 2]) (by decide +kernel) ⟨rfl, rfl, rfl, trivial⟩ (fun H locs hW => ?_)
  cases h
  rw [hQ]
  exact x_vret hC hr hW d_DrawSets_clear_7

def f_DrawSets_lowAt (N_t : Nat) (v_t_low : Nat → Int64) (p0 : Int32) : Option (Int64) :=
  if p0 < (0 : Int32) then some ((0 : Int64)) else if (nI N_t) ≤ p0 then some ((0 : Int64)) else gd p0 N_t (some ((v_t_low p0.toNatClampNeg)))
set_option maxHeartbeats 4000000 in
set_option maxRecDepth 100000 in
theorem c_DrawSets_lowAt (l : Launch) (D : va_G) (I J Z : ClassId) (a_t : Nat) (a_t_low : Nat) (a_t_high : Nat) (N_t : Nat) (v_t_low : Nat → Int64) (p0 : Int32) (out : (Int64)) (h : f_DrawSets_lowAt N_t v_t_low p0 = some out) : CT l D I J Z y_DrawSets_lowAt b_DrawSets_lowAt 2 (some .long) 1 [.ref a_t, .int p0] [(a_t, .inr (1, [.ref a_t_low, .ref a_t_high])), (a_t_low, .inl (J, N_t, .inr (.inl v_t_low)))] (PoL out D [(a_t, .inr (1, [.ref a_t_low, .ref a_t_high])), (a_t_low, .inl (J, N_t, .inr (.inl v_t_low)))]) := by
  unfold f_DrawSets_lowAt at h
  refine CT_of R_DrawSets (by decide +kernel) rfl (Nat.le_of_ble_eq_true rfl) ?_
  intro p e R s m args below meth c A ls Q hR1 hR2 hQ hC hr hW hA hl
  have hx := hC.1
  have hb := hC.2.1
  have hl : lv_has ls 2 [(0, .ref a_t), (1, .int p0)] := hl
  refine lv_iload_n hx hb d_DrawSets_lowAt_0 rfl (lv_at hl 1 rfl) ?_
  refine lv_if_lt (tgt := 22) hx hb d_DrawSets_lowAt_1 (by decide) (fun c_1 => ?_) (fun c_1 => ?_)
  · have h := it_e c_1 h
    refine lv_lconst (v := (0 : Int64)) hx hb d_DrawSets_lowAt_22 (by decide) ?_
    cases h
    rw [hQ]
    exact x_lret hC hr hW d_DrawSets_lowAt_23
  · have h := ie_e c_1 h
    refine lv_iload_n hx hb d_DrawSets_lowAt_4 rfl (lv_at hl 1 rfl) ?_
    refine lv_aload_n hx hb d_DrawSets_lowAt_5 rfl (lv_at hl 0 rfl) ?_
    refine x_get hC hW 0 rfl fl_DrawSets_13 rfl d_DrawSets_lowAt_6 ?_
    refine x_alenL hC hW 1 rfl d_DrawSets_lowAt_9 ?_
    refine lv_icmp_ge (tgt := 22) hx hb d_DrawSets_lowAt_10 (by decide) (fun c_2 => ?_) (fun c_2 => ?_)
    · have h := it_e c_2 h
      refine lv_lconst (v := (0 : Int64)) hx hb d_DrawSets_lowAt_22 (by decide) ?_
      cases h
      rw [hQ]
      exact x_lret hC hr hW d_DrawSets_lowAt_23
    · have h := ie_e c_2 h
      refine lv_aload_n hx hb d_DrawSets_lowAt_13 rfl (lv_at hl 0 rfl) ?_
      refine x_get hC hW 0 rfl fl_DrawSets_13 rfl d_DrawSets_lowAt_14 ?_
      refine lv_iload_n hx hb d_DrawSets_lowAt_17 rfl (lv_at hl 1 rfl) ?_
      obtain ⟨hi_3, h⟩ := gd_e h
      refine x_lald hC hW 1 rfl hi_3 d_DrawSets_lowAt_18 ?_
      refine lv_goto (tgt := 23) hx hb d_DrawSets_lowAt_19 (by decide) ?_
      cases h
      rw [hQ]
      exact x_lret hC hr hW d_DrawSets_lowAt_23

def f_DrawSets_highAt (N_t : Nat) (v_t_high : Nat → Int64) (p0 : Int32) : Option (Int64) :=
  if p0 < (0 : Int32) then some ((0 : Int64)) else if (nI N_t) ≤ p0 then some ((0 : Int64)) else gd p0 N_t (some ((v_t_high p0.toNatClampNeg)))
set_option maxHeartbeats 4000000 in
set_option maxRecDepth 100000 in
theorem c_DrawSets_highAt (l : Launch) (D : va_G) (I J Z : ClassId) (a_t : Nat) (a_t_high : Nat) (a_t_low : Nat) (N_t : Nat) (v_t_high : Nat → Int64) (p0 : Int32) (out : (Int64)) (h : f_DrawSets_highAt N_t v_t_high p0 = some out) : CT l D I J Z y_DrawSets_highAt b_DrawSets_highAt 2 (some .long) 1 [.ref a_t, .int p0] [(a_t, .inr (1, [.ref a_t_low, .ref a_t_high])), (a_t_high, .inl (J, N_t, .inr (.inl v_t_high)))] (PoL out D [(a_t, .inr (1, [.ref a_t_low, .ref a_t_high])), (a_t_high, .inl (J, N_t, .inr (.inl v_t_high)))]) := by
  unfold f_DrawSets_highAt at h
  refine CT_of R_DrawSets (by decide +kernel) rfl (Nat.le_of_ble_eq_true rfl) ?_
  intro p e R s m args below meth c A ls Q hR1 hR2 hQ hC hr hW hA hl
  have hx := hC.1
  have hb := hC.2.1
  have hl : lv_has ls 2 [(0, .ref a_t), (1, .int p0)] := hl
  refine lv_iload_n hx hb d_DrawSets_highAt_0 rfl (lv_at hl 1 rfl) ?_
  refine lv_if_lt (tgt := 22) hx hb d_DrawSets_highAt_1 (by decide) (fun c_1 => ?_) (fun c_1 => ?_)
  · have h := it_e c_1 h
    refine lv_lconst (v := (0 : Int64)) hx hb d_DrawSets_highAt_22 (by decide) ?_
    cases h
    rw [hQ]
    exact x_lret hC hr hW d_DrawSets_highAt_23
  · have h := ie_e c_1 h
    refine lv_iload_n hx hb d_DrawSets_highAt_4 rfl (lv_at hl 1 rfl) ?_
    refine lv_aload_n hx hb d_DrawSets_highAt_5 rfl (lv_at hl 0 rfl) ?_
    refine x_get hC hW 0 rfl fl_DrawSets_19 rfl d_DrawSets_highAt_6 ?_
    refine x_alenL hC hW 1 rfl d_DrawSets_highAt_9 ?_
    refine lv_icmp_ge (tgt := 22) hx hb d_DrawSets_highAt_10 (by decide) (fun c_2 => ?_) (fun c_2 => ?_)
    · have h := it_e c_2 h
      refine lv_lconst (v := (0 : Int64)) hx hb d_DrawSets_highAt_22 (by decide) ?_
      cases h
      rw [hQ]
      exact x_lret hC hr hW d_DrawSets_highAt_23
    · have h := ie_e c_2 h
      refine lv_aload_n hx hb d_DrawSets_highAt_13 rfl (lv_at hl 0 rfl) ?_
      refine x_get hC hW 0 rfl fl_DrawSets_19 rfl d_DrawSets_highAt_14 ?_
      refine lv_iload_n hx hb d_DrawSets_highAt_17 rfl (lv_at hl 1 rfl) ?_
      obtain ⟨hi_3, h⟩ := gd_e h
      refine x_lald hC hW 1 rfl hi_3 d_DrawSets_highAt_18 ?_
      refine lv_goto (tgt := 23) hx hb d_DrawSets_highAt_19 (by decide) ?_
      cases h
      rw [hQ]
      exact x_lret hC hr hW d_DrawSets_highAt_23

def f_DrawSets_add (N_t : Nat) (v_t_high : Nat → Int64) (v_t_low : Nat → Int64) (p0 : Int32) (p1 : Int32) : Option ((Nat → Int64) × (Nat → Int64)) :=
  if (64 : Int32) ≤ p1 then bk1 (f_DrawSets_lowAt N_t v_t_low p0) fun r_2 => bk1 (f_DrawSets_highAt N_t v_t_high p0) fun r_3 => bk2 (f_DrawSets_put N_t v_t_high v_t_low p0 r_2 (r_3 ||| ((1 : Int64) <<< ((p1 - (64 : Int32)).toInt64 &&& 63)))) fun w_4_0 w_4_1 => some (w_4_0, w_4_1) else bk1 (f_DrawSets_lowAt N_t v_t_low p0) fun r_5 => bk1 (f_DrawSets_highAt N_t v_t_high p0) fun r_6 => bk2 (f_DrawSets_put N_t v_t_high v_t_low p0 (r_5 ||| ((1 : Int64) <<< (p1.toInt64 &&& 63))) r_6) fun w_7_0 w_7_1 => some (w_7_0, w_7_1)
set_option maxHeartbeats 4000000 in
set_option maxRecDepth 100000 in
theorem c_DrawSets_add (l : Launch) (D : va_G) (I J Z : ClassId) (a_t : Nat) (a_t_high : Nat) (a_t_low : Nat) (N_t : Nat) (v_t_high : Nat → Int64) (v_t_low : Nat → Int64) (p0 : Int32) (p1 : Int32) (out : ((Nat → Int64) × (Nat → Int64))) (h : f_DrawSets_add N_t v_t_high v_t_low p0 p1 = some out) : CT l D I J Z y_DrawSets_add b_DrawSets_add 3 none 2 [.ref a_t, .int p0, .int p1] [(a_t, .inr (1, [.ref a_t_low, .ref a_t_high])), (a_t_high, .inl (J, N_t, .inr (.inl v_t_high))), (a_t_low, .inl (J, N_t, .inr (.inl v_t_low)))] (PoV D [(a_t, .inr (1, [.ref a_t_low, .ref a_t_high])), (a_t_high, .inl (J, N_t, .inr (.inl out.1))), (a_t_low, .inl (J, N_t, .inr (.inl out.2)))]) := by
  unfold f_DrawSets_add at h
  refine CT_of R_DrawSets (by decide +kernel) rfl (Nat.le_of_ble_eq_true rfl) ?_
  intro p e R s m args below meth c A ls Q hR1 hR2 hQ hC hr hW hA hl
  have hx := hC.1
  have hb := hC.2.1
  have hl : lv_has ls 3 [(0, .ref a_t), (1, .int p0), (2, .int p1)] := hl
  refine lv_iload_n hx hb d_DrawSets_add_0 rfl (lv_at hl 2 rfl) ?_
  refine lv_bipush (v := (64 : Int32)) hx hb d_DrawSets_add_1 (by decide) ?_
  refine lv_icmp_ge (tgt := 28) hx hb d_DrawSets_add_3 (by decide) (fun c_1 => ?_) (fun c_1 => ?_)
  · have h := it_e c_1 h
    refine lv_aload_n hx hb d_DrawSets_add_28 rfl (lv_at hl 0 rfl) ?_
    refine lv_iload_n hx hb d_DrawSets_add_29 rfl (lv_at hl 1 rfl) ?_
    refine lv_aload_n hx hb d_DrawSets_add_30 rfl (lv_at hl 0 rfl) ?_
    refine lv_iload_n hx hb d_DrawSets_add_31 rfl (lv_at hl 1 rfl) ?_
    obtain ⟨r_2, hc_2, h⟩ := bk1_e h
    refine x_cl (ws' := [(a_t, .inr (1, [.ref a_t_low, .ref a_t_high])), (a_t_high, .inl (J, N_t, .inr (.inl v_t_high))), (a_t_low, .inl (J, N_t, .inr (.inl v_t_low)))]) (x_runV (As := [.int p0]) (rest := [.int p0, .ref a_t]) hC hW (c_DrawSets_lowAt l D I J Z a_t a_t_low a_t_high N_t v_t_low p0 (r_2) hc_2) cl_DrawSets_26 q_code_DrawSets_lowAt [0, 2] rfl (by decide) 0 rfl rfl rfl rfl hl.1 (Nat.le_of_ble_eq_true rfl) (rm_ok hR1 hR2 (by decide) (by decide)) ⟨Nat.zero_le _, Nat.zero_le _⟩ d_DrawSets_add_32) hW hA [0, 2] rfl rfl (ps := [some 0, none, some 1]) (by decide +kernel) ⟨rfl, rfl, rfl, trivial⟩ (fun H locs hW => ?_)
    refine lv_aload_n hx hb d_DrawSets_add_35 rfl (lv_at hl 0 rfl) ?_
    refine lv_iload_n hx hb d_DrawSets_add_36 rfl (lv_at hl 1 rfl) ?_
    obtain ⟨r_3, hc_3, h⟩ := bk1_e h
    refine x_cl (ws' := [(a_t, .inr (1, [.ref a_t_low, .ref a_t_high])), (a_t_high, .inl (J, N_t, .inr (.inl v_t_high))), (a_t_low, .inl (J, N_t, .inr (.inl v_t_low)))]) (x_runV (As := [.int p0]) (rest := [.long r_2, .int p0, .ref a_t]) hC hW (c_DrawSets_highAt l D I J Z a_t a_t_high a_t_low N_t v_t_high p0 (r_3) hc_3) cl_DrawSets_30 q_code_DrawSets_highAt [0, 1] rfl (by decide) 0 rfl rfl rfl rfl hl.1 (Nat.le_of_ble_eq_true rfl) (rm_ok hR1 hR2 (by decide) (by decide)) ⟨Nat.zero_le _, Nat.zero_le _⟩ d_DrawSets_add_37) hW hA [0, 1] rfl rfl (ps := [some 0, some 1, none]) (by decide +kernel) ⟨rfl, rfl, rfl, trivial⟩ (fun H locs hW => ?_)
    refine lv_lconst (v := (1 : Int64)) hx hb d_DrawSets_add_40 (by decide) ?_
    refine lv_iload_n hx hb d_DrawSets_add_41 rfl (lv_at hl 2 rfl) ?_
    refine lv_bipush (v := (64 : Int32)) hx hb d_DrawSets_add_42 (by decide) ?_
    refine lv_isub hx hb d_DrawSets_add_44 ?_
    refine lv_lshl hx hb d_DrawSets_add_45 rfl ?_
    refine lv_lor hx hb d_DrawSets_add_46 ?_
    obtain ⟨w_4_0, w_4_1, hc_4, h⟩ := bk2_e h
    refine x_cv (ws' := [(a_t, .inr (1, [.ref a_t_low, .ref a_t_high])), (a_t_high, .inl (J, N_t, .inr (.inl w_4_0))), (a_t_low, .inl (J, N_t, .inr (.inl w_4_1)))]) (x_runV (As := [.int p0, .long r_2, .long (r_3 ||| ((1 : Int64) <<< ((p1 - (64 : Int32)).toInt64 &&& 63)))]) (rest := []) hC hW (c_DrawSets_put l D I J Z a_t a_t_high a_t_low N_t v_t_high v_t_low p0 r_2 (r_3 ||| ((1 : Int64) <<< ((p1 - (64 : Int32)).toInt64 &&& 63))) (w_4_0, w_4_1) hc_4) cl_DrawSets_22 q_code_DrawSets_put [0, 1, 2] rfl (by decide) 0 rfl rfl rfl rfl hl.1 (Nat.le_of_ble_eq_true rfl) (rm_ok hR1 hR2 (by decide) (by decide)) ⟨Nat.zero_le _, Nat.zero_le _⟩ d_DrawSets_add_47) hW hA [0, 1, 2] rfl rfl (ps := [some 0, some 1, some 2]) (by decide +kernel) ⟨rfl, rfl, rfl, trivial⟩ (fun H locs hW => ?_)
    cases h
    rw [hQ]
    exact x_vret hC hr hW d_DrawSets_add_50
  · have h := ie_e c_1 h
    refine lv_aload_n hx hb d_DrawSets_add_6 rfl (lv_at hl 0 rfl) ?_
    refine lv_iload_n hx hb d_DrawSets_add_7 rfl (lv_at hl 1 rfl) ?_
    refine lv_aload_n hx hb d_DrawSets_add_8 rfl (lv_at hl 0 rfl) ?_
    refine lv_iload_n hx hb d_DrawSets_add_9 rfl (lv_at hl 1 rfl) ?_
    obtain ⟨r_5, hc_5, h⟩ := bk1_e h
    refine x_cl (ws' := [(a_t, .inr (1, [.ref a_t_low, .ref a_t_high])), (a_t_high, .inl (J, N_t, .inr (.inl v_t_high))), (a_t_low, .inl (J, N_t, .inr (.inl v_t_low)))]) (x_runV (As := [.int p0]) (rest := [.int p0, .ref a_t]) hC hW (c_DrawSets_lowAt l D I J Z a_t a_t_low a_t_high N_t v_t_low p0 (r_5) hc_5) cl_DrawSets_26 q_code_DrawSets_lowAt [0, 2] rfl (by decide) 0 rfl rfl rfl rfl hl.1 (Nat.le_of_ble_eq_true rfl) (rm_ok hR1 hR2 (by decide) (by decide)) ⟨Nat.zero_le _, Nat.zero_le _⟩ d_DrawSets_add_10) hW hA [0, 2] rfl rfl (ps := [some 0, none, some 1]) (by decide +kernel) ⟨rfl, rfl, rfl, trivial⟩ (fun H locs hW => ?_)
    refine lv_lconst (v := (1 : Int64)) hx hb d_DrawSets_add_13 (by decide) ?_
    refine lv_iload_n hx hb d_DrawSets_add_14 rfl (lv_at hl 2 rfl) ?_
    refine lv_lshl hx hb d_DrawSets_add_15 rfl ?_
    refine lv_lor hx hb d_DrawSets_add_16 ?_
    refine lv_aload_n hx hb d_DrawSets_add_17 rfl (lv_at hl 0 rfl) ?_
    refine lv_iload_n hx hb d_DrawSets_add_18 rfl (lv_at hl 1 rfl) ?_
    obtain ⟨r_6, hc_6, h⟩ := bk1_e h
    refine x_cl (ws' := [(a_t, .inr (1, [.ref a_t_low, .ref a_t_high])), (a_t_high, .inl (J, N_t, .inr (.inl v_t_high))), (a_t_low, .inl (J, N_t, .inr (.inl v_t_low)))]) (x_runV (As := [.int p0]) (rest := [.long (r_5 ||| ((1 : Int64) <<< (p1.toInt64 &&& 63))), .int p0, .ref a_t]) hC hW (c_DrawSets_highAt l D I J Z a_t a_t_high a_t_low N_t v_t_high p0 (r_6) hc_6) cl_DrawSets_30 q_code_DrawSets_highAt [0, 1] rfl (by decide) 0 rfl rfl rfl rfl hl.1 (Nat.le_of_ble_eq_true rfl) (rm_ok hR1 hR2 (by decide) (by decide)) ⟨Nat.zero_le _, Nat.zero_le _⟩ d_DrawSets_add_19) hW hA [0, 1] rfl rfl (ps := [some 0, some 1, none]) (by decide +kernel) ⟨rfl, rfl, rfl, trivial⟩ (fun H locs hW => ?_)
    obtain ⟨w_7_0, w_7_1, hc_7, h⟩ := bk2_e h
    refine x_cv (ws' := [(a_t, .inr (1, [.ref a_t_low, .ref a_t_high])), (a_t_high, .inl (J, N_t, .inr (.inl w_7_0))), (a_t_low, .inl (J, N_t, .inr (.inl w_7_1)))]) (x_runV (As := [.int p0, .long (r_5 ||| ((1 : Int64) <<< (p1.toInt64 &&& 63))), .long r_6]) (rest := []) hC hW (c_DrawSets_put l D I J Z a_t a_t_high a_t_low N_t v_t_high v_t_low p0 (r_5 ||| ((1 : Int64) <<< (p1.toInt64 &&& 63))) r_6 (w_7_0, w_7_1) hc_7) cl_DrawSets_22 q_code_DrawSets_put [0, 1, 2] rfl (by decide) 0 rfl rfl rfl rfl hl.1 (Nat.le_of_ble_eq_true rfl) (rm_ok hR1 hR2 (by decide) (by decide)) ⟨Nat.zero_le _, Nat.zero_le _⟩ d_DrawSets_add_22) hW hA [0, 1, 2] rfl rfl (ps := [some 0, some 1, some 2]) (by decide +kernel) ⟨rfl, rfl, rfl, trivial⟩ (fun H locs hW => ?_)
    refine lv_goto (tgt := 50) hx hb d_DrawSets_add_25 (by decide) ?_
    cases h
    rw [hQ]
    exact x_vret hC hr hW d_DrawSets_add_50

def f_Long_bitCount (p0 : Int64) : Option (Int32) :=
  some ((((((((((p0 - ((p0.toUInt64 >>> ((1 : Int32).toInt64.toUInt64 &&& Int64.toUInt64 63)).toInt64 &&& (6148914691236517205 : Int64))) &&& (3689348814741910323 : Int64)) + (((p0 - ((p0.toUInt64 >>> ((1 : Int32).toInt64.toUInt64 &&& Int64.toUInt64 63)).toInt64 &&& (6148914691236517205 : Int64))).toUInt64 >>> ((2 : Int32).toInt64.toUInt64 &&& Int64.toUInt64 63)).toInt64 &&& (3689348814741910323 : Int64))) + ((((p0 - ((p0.toUInt64 >>> ((1 : Int32).toInt64.toUInt64 &&& Int64.toUInt64 63)).toInt64 &&& (6148914691236517205 : Int64))) &&& (3689348814741910323 : Int64)) + (((p0 - ((p0.toUInt64 >>> ((1 : Int32).toInt64.toUInt64 &&& Int64.toUInt64 63)).toInt64 &&& (6148914691236517205 : Int64))).toUInt64 >>> ((2 : Int32).toInt64.toUInt64 &&& Int64.toUInt64 63)).toInt64 &&& (3689348814741910323 : Int64))).toUInt64 >>> ((4 : Int32).toInt64.toUInt64 &&& Int64.toUInt64 63)).toInt64) &&& (1085102592571150095 : Int64)) + ((((((p0 - ((p0.toUInt64 >>> ((1 : Int32).toInt64.toUInt64 &&& Int64.toUInt64 63)).toInt64 &&& (6148914691236517205 : Int64))) &&& (3689348814741910323 : Int64)) + (((p0 - ((p0.toUInt64 >>> ((1 : Int32).toInt64.toUInt64 &&& Int64.toUInt64 63)).toInt64 &&& (6148914691236517205 : Int64))).toUInt64 >>> ((2 : Int32).toInt64.toUInt64 &&& Int64.toUInt64 63)).toInt64 &&& (3689348814741910323 : Int64))) + ((((p0 - ((p0.toUInt64 >>> ((1 : Int32).toInt64.toUInt64 &&& Int64.toUInt64 63)).toInt64 &&& (6148914691236517205 : Int64))) &&& (3689348814741910323 : Int64)) + (((p0 - ((p0.toUInt64 >>> ((1 : Int32).toInt64.toUInt64 &&& Int64.toUInt64 63)).toInt64 &&& (6148914691236517205 : Int64))).toUInt64 >>> ((2 : Int32).toInt64.toUInt64 &&& Int64.toUInt64 63)).toInt64 &&& (3689348814741910323 : Int64))).toUInt64 >>> ((4 : Int32).toInt64.toUInt64 &&& Int64.toUInt64 63)).toInt64) &&& (1085102592571150095 : Int64)).toUInt64 >>> ((8 : Int32).toInt64.toUInt64 &&& Int64.toUInt64 63)).toInt64) + (((((((p0 - ((p0.toUInt64 >>> ((1 : Int32).toInt64.toUInt64 &&& Int64.toUInt64 63)).toInt64 &&& (6148914691236517205 : Int64))) &&& (3689348814741910323 : Int64)) + (((p0 - ((p0.toUInt64 >>> ((1 : Int32).toInt64.toUInt64 &&& Int64.toUInt64 63)).toInt64 &&& (6148914691236517205 : Int64))).toUInt64 >>> ((2 : Int32).toInt64.toUInt64 &&& Int64.toUInt64 63)).toInt64 &&& (3689348814741910323 : Int64))) + ((((p0 - ((p0.toUInt64 >>> ((1 : Int32).toInt64.toUInt64 &&& Int64.toUInt64 63)).toInt64 &&& (6148914691236517205 : Int64))) &&& (3689348814741910323 : Int64)) + (((p0 - ((p0.toUInt64 >>> ((1 : Int32).toInt64.toUInt64 &&& Int64.toUInt64 63)).toInt64 &&& (6148914691236517205 : Int64))).toUInt64 >>> ((2 : Int32).toInt64.toUInt64 &&& Int64.toUInt64 63)).toInt64 &&& (3689348814741910323 : Int64))).toUInt64 >>> ((4 : Int32).toInt64.toUInt64 &&& Int64.toUInt64 63)).toInt64) &&& (1085102592571150095 : Int64)) + ((((((p0 - ((p0.toUInt64 >>> ((1 : Int32).toInt64.toUInt64 &&& Int64.toUInt64 63)).toInt64 &&& (6148914691236517205 : Int64))) &&& (3689348814741910323 : Int64)) + (((p0 - ((p0.toUInt64 >>> ((1 : Int32).toInt64.toUInt64 &&& Int64.toUInt64 63)).toInt64 &&& (6148914691236517205 : Int64))).toUInt64 >>> ((2 : Int32).toInt64.toUInt64 &&& Int64.toUInt64 63)).toInt64 &&& (3689348814741910323 : Int64))) + ((((p0 - ((p0.toUInt64 >>> ((1 : Int32).toInt64.toUInt64 &&& Int64.toUInt64 63)).toInt64 &&& (6148914691236517205 : Int64))) &&& (3689348814741910323 : Int64)) + (((p0 - ((p0.toUInt64 >>> ((1 : Int32).toInt64.toUInt64 &&& Int64.toUInt64 63)).toInt64 &&& (6148914691236517205 : Int64))).toUInt64 >>> ((2 : Int32).toInt64.toUInt64 &&& Int64.toUInt64 63)).toInt64 &&& (3689348814741910323 : Int64))).toUInt64 >>> ((4 : Int32).toInt64.toUInt64 &&& Int64.toUInt64 63)).toInt64) &&& (1085102592571150095 : Int64)).toUInt64 >>> ((8 : Int32).toInt64.toUInt64 &&& Int64.toUInt64 63)).toInt64).toUInt64 >>> ((16 : Int32).toInt64.toUInt64 &&& Int64.toUInt64 63)).toInt64) + ((((((((p0 - ((p0.toUInt64 >>> ((1 : Int32).toInt64.toUInt64 &&& Int64.toUInt64 63)).toInt64 &&& (6148914691236517205 : Int64))) &&& (3689348814741910323 : Int64)) + (((p0 - ((p0.toUInt64 >>> ((1 : Int32).toInt64.toUInt64 &&& Int64.toUInt64 63)).toInt64 &&& (6148914691236517205 : Int64))).toUInt64 >>> ((2 : Int32).toInt64.toUInt64 &&& Int64.toUInt64 63)).toInt64 &&& (3689348814741910323 : Int64))) + ((((p0 - ((p0.toUInt64 >>> ((1 : Int32).toInt64.toUInt64 &&& Int64.toUInt64 63)).toInt64 &&& (6148914691236517205 : Int64))) &&& (3689348814741910323 : Int64)) + (((p0 - ((p0.toUInt64 >>> ((1 : Int32).toInt64.toUInt64 &&& Int64.toUInt64 63)).toInt64 &&& (6148914691236517205 : Int64))).toUInt64 >>> ((2 : Int32).toInt64.toUInt64 &&& Int64.toUInt64 63)).toInt64 &&& (3689348814741910323 : Int64))).toUInt64 >>> ((4 : Int32).toInt64.toUInt64 &&& Int64.toUInt64 63)).toInt64) &&& (1085102592571150095 : Int64)) + ((((((p0 - ((p0.toUInt64 >>> ((1 : Int32).toInt64.toUInt64 &&& Int64.toUInt64 63)).toInt64 &&& (6148914691236517205 : Int64))) &&& (3689348814741910323 : Int64)) + (((p0 - ((p0.toUInt64 >>> ((1 : Int32).toInt64.toUInt64 &&& Int64.toUInt64 63)).toInt64 &&& (6148914691236517205 : Int64))).toUInt64 >>> ((2 : Int32).toInt64.toUInt64 &&& Int64.toUInt64 63)).toInt64 &&& (3689348814741910323 : Int64))) + ((((p0 - ((p0.toUInt64 >>> ((1 : Int32).toInt64.toUInt64 &&& Int64.toUInt64 63)).toInt64 &&& (6148914691236517205 : Int64))) &&& (3689348814741910323 : Int64)) + (((p0 - ((p0.toUInt64 >>> ((1 : Int32).toInt64.toUInt64 &&& Int64.toUInt64 63)).toInt64 &&& (6148914691236517205 : Int64))).toUInt64 >>> ((2 : Int32).toInt64.toUInt64 &&& Int64.toUInt64 63)).toInt64 &&& (3689348814741910323 : Int64))).toUInt64 >>> ((4 : Int32).toInt64.toUInt64 &&& Int64.toUInt64 63)).toInt64) &&& (1085102592571150095 : Int64)).toUInt64 >>> ((8 : Int32).toInt64.toUInt64 &&& Int64.toUInt64 63)).toInt64) + (((((((p0 - ((p0.toUInt64 >>> ((1 : Int32).toInt64.toUInt64 &&& Int64.toUInt64 63)).toInt64 &&& (6148914691236517205 : Int64))) &&& (3689348814741910323 : Int64)) + (((p0 - ((p0.toUInt64 >>> ((1 : Int32).toInt64.toUInt64 &&& Int64.toUInt64 63)).toInt64 &&& (6148914691236517205 : Int64))).toUInt64 >>> ((2 : Int32).toInt64.toUInt64 &&& Int64.toUInt64 63)).toInt64 &&& (3689348814741910323 : Int64))) + ((((p0 - ((p0.toUInt64 >>> ((1 : Int32).toInt64.toUInt64 &&& Int64.toUInt64 63)).toInt64 &&& (6148914691236517205 : Int64))) &&& (3689348814741910323 : Int64)) + (((p0 - ((p0.toUInt64 >>> ((1 : Int32).toInt64.toUInt64 &&& Int64.toUInt64 63)).toInt64 &&& (6148914691236517205 : Int64))).toUInt64 >>> ((2 : Int32).toInt64.toUInt64 &&& Int64.toUInt64 63)).toInt64 &&& (3689348814741910323 : Int64))).toUInt64 >>> ((4 : Int32).toInt64.toUInt64 &&& Int64.toUInt64 63)).toInt64) &&& (1085102592571150095 : Int64)) + ((((((p0 - ((p0.toUInt64 >>> ((1 : Int32).toInt64.toUInt64 &&& Int64.toUInt64 63)).toInt64 &&& (6148914691236517205 : Int64))) &&& (3689348814741910323 : Int64)) + (((p0 - ((p0.toUInt64 >>> ((1 : Int32).toInt64.toUInt64 &&& Int64.toUInt64 63)).toInt64 &&& (6148914691236517205 : Int64))).toUInt64 >>> ((2 : Int32).toInt64.toUInt64 &&& Int64.toUInt64 63)).toInt64 &&& (3689348814741910323 : Int64))) + ((((p0 - ((p0.toUInt64 >>> ((1 : Int32).toInt64.toUInt64 &&& Int64.toUInt64 63)).toInt64 &&& (6148914691236517205 : Int64))) &&& (3689348814741910323 : Int64)) + (((p0 - ((p0.toUInt64 >>> ((1 : Int32).toInt64.toUInt64 &&& Int64.toUInt64 63)).toInt64 &&& (6148914691236517205 : Int64))).toUInt64 >>> ((2 : Int32).toInt64.toUInt64 &&& Int64.toUInt64 63)).toInt64 &&& (3689348814741910323 : Int64))).toUInt64 >>> ((4 : Int32).toInt64.toUInt64 &&& Int64.toUInt64 63)).toInt64) &&& (1085102592571150095 : Int64)).toUInt64 >>> ((8 : Int32).toInt64.toUInt64 &&& Int64.toUInt64 63)).toInt64).toUInt64 >>> ((16 : Int32).toInt64.toUInt64 &&& Int64.toUInt64 63)).toInt64).toUInt64 >>> ((32 : Int32).toInt64.toUInt64 &&& Int64.toUInt64 63)).toInt64).toInt32 &&& (127 : Int32)))
set_option maxHeartbeats 4000000 in
set_option maxRecDepth 100000 in
theorem c_Long_bitCount (l : Launch) (D : va_G) (I J Z : ClassId)    (p0 : Int64) (out : (Int32)) (h : f_Long_bitCount p0 = some out) : CT l D I J Z y_Long_bitCount b_Long_bitCount 2 (some .int) 1 [.long p0] [] (PoI out D []) := by
  unfold f_Long_bitCount at h
  refine CT_of R_Long (by decide +kernel) rfl (Nat.le_of_ble_eq_true rfl) ?_
  intro p e R s m args below meth c A ls Q hR1 hR2 hQ hC hr hW hA hl
  have hx := hC.1
  have hb := hC.2.1
  have hl : lv_has ls 2 [(0, .long p0)] := hl
  refine lv_lload_n hx hb d_Long_bitCount_0 rfl (lv_at hl 0 rfl) ?_
  refine lv_lload_n hx hb d_Long_bitCount_1 rfl (lv_at hl 0 rfl) ?_
  refine lv_iconst (v := (1 : Int32)) hx hb d_Long_bitCount_2 (by decide) ?_
  refine lv_lushr hx hb d_Long_bitCount_3 rfl ?_
  refine x_ldc2 hC q_con_Long_314 d_Long_bitCount_4 ?_
  refine lv_land hx hb d_Long_bitCount_7 ?_
  refine lv_lsub hx hb d_Long_bitCount_8 ?_
  refine lv_lstore_n (lv' := [(0, .long (p0 - ((p0.toUInt64 >>> ((1 : Int32).toInt64.toUInt64 &&& Int64.toUInt64 63)).toInt64 &&& (6148914691236517205 : Int64))))]) hx hb d_Long_bitCount_9 rfl hl (by decide) rfl (fun ls hl => ?_)
  refine lv_lload_n hx hb d_Long_bitCount_10 rfl (lv_at hl 0 rfl) ?_
  refine x_ldc2 hC q_con_Long_316 d_Long_bitCount_11 ?_
  refine lv_land hx hb d_Long_bitCount_14 ?_
  refine lv_lload_n hx hb d_Long_bitCount_15 rfl (lv_at hl 0 rfl) ?_
  refine lv_iconst (v := (2 : Int32)) hx hb d_Long_bitCount_16 (by decide) ?_
  refine lv_lushr hx hb d_Long_bitCount_17 rfl ?_
  refine x_ldc2 hC q_con_Long_316 d_Long_bitCount_18 ?_
  refine lv_land hx hb d_Long_bitCount_21 ?_
  refine lv_ladd hx hb d_Long_bitCount_22 ?_
  refine lv_lstore_n (lv' := [(0, .long (((p0 - ((p0.toUInt64 >>> ((1 : Int32).toInt64.toUInt64 &&& Int64.toUInt64 63)).toInt64 &&& (6148914691236517205 : Int64))) &&& (3689348814741910323 : Int64)) + (((p0 - ((p0.toUInt64 >>> ((1 : Int32).toInt64.toUInt64 &&& Int64.toUInt64 63)).toInt64 &&& (6148914691236517205 : Int64))).toUInt64 >>> ((2 : Int32).toInt64.toUInt64 &&& Int64.toUInt64 63)).toInt64 &&& (3689348814741910323 : Int64))))]) hx hb d_Long_bitCount_23 rfl hl (by decide) rfl (fun ls hl => ?_)
  refine lv_lload_n hx hb d_Long_bitCount_24 rfl (lv_at hl 0 rfl) ?_
  refine lv_lload_n hx hb d_Long_bitCount_25 rfl (lv_at hl 0 rfl) ?_
  refine lv_iconst (v := (4 : Int32)) hx hb d_Long_bitCount_26 (by decide) ?_
  refine lv_lushr hx hb d_Long_bitCount_27 rfl ?_
  refine lv_ladd hx hb d_Long_bitCount_28 ?_
  refine x_ldc2 hC q_con_Long_318 d_Long_bitCount_29 ?_
  refine lv_land hx hb d_Long_bitCount_32 ?_
  refine lv_lstore_n (lv' := [(0, .long (((((p0 - ((p0.toUInt64 >>> ((1 : Int32).toInt64.toUInt64 &&& Int64.toUInt64 63)).toInt64 &&& (6148914691236517205 : Int64))) &&& (3689348814741910323 : Int64)) + (((p0 - ((p0.toUInt64 >>> ((1 : Int32).toInt64.toUInt64 &&& Int64.toUInt64 63)).toInt64 &&& (6148914691236517205 : Int64))).toUInt64 >>> ((2 : Int32).toInt64.toUInt64 &&& Int64.toUInt64 63)).toInt64 &&& (3689348814741910323 : Int64))) + ((((p0 - ((p0.toUInt64 >>> ((1 : Int32).toInt64.toUInt64 &&& Int64.toUInt64 63)).toInt64 &&& (6148914691236517205 : Int64))) &&& (3689348814741910323 : Int64)) + (((p0 - ((p0.toUInt64 >>> ((1 : Int32).toInt64.toUInt64 &&& Int64.toUInt64 63)).toInt64 &&& (6148914691236517205 : Int64))).toUInt64 >>> ((2 : Int32).toInt64.toUInt64 &&& Int64.toUInt64 63)).toInt64 &&& (3689348814741910323 : Int64))).toUInt64 >>> ((4 : Int32).toInt64.toUInt64 &&& Int64.toUInt64 63)).toInt64) &&& (1085102592571150095 : Int64)))]) hx hb d_Long_bitCount_33 rfl hl (by decide) rfl (fun ls hl => ?_)
  refine lv_lload_n hx hb d_Long_bitCount_34 rfl (lv_at hl 0 rfl) ?_
  refine lv_lload_n hx hb d_Long_bitCount_35 rfl (lv_at hl 0 rfl) ?_
  refine lv_bipush (v := (8 : Int32)) hx hb d_Long_bitCount_36 (by decide) ?_
  refine lv_lushr hx hb d_Long_bitCount_38 rfl ?_
  refine lv_ladd hx hb d_Long_bitCount_39 ?_
  refine lv_lstore_n (lv' := [(0, .long ((((((p0 - ((p0.toUInt64 >>> ((1 : Int32).toInt64.toUInt64 &&& Int64.toUInt64 63)).toInt64 &&& (6148914691236517205 : Int64))) &&& (3689348814741910323 : Int64)) + (((p0 - ((p0.toUInt64 >>> ((1 : Int32).toInt64.toUInt64 &&& Int64.toUInt64 63)).toInt64 &&& (6148914691236517205 : Int64))).toUInt64 >>> ((2 : Int32).toInt64.toUInt64 &&& Int64.toUInt64 63)).toInt64 &&& (3689348814741910323 : Int64))) + ((((p0 - ((p0.toUInt64 >>> ((1 : Int32).toInt64.toUInt64 &&& Int64.toUInt64 63)).toInt64 &&& (6148914691236517205 : Int64))) &&& (3689348814741910323 : Int64)) + (((p0 - ((p0.toUInt64 >>> ((1 : Int32).toInt64.toUInt64 &&& Int64.toUInt64 63)).toInt64 &&& (6148914691236517205 : Int64))).toUInt64 >>> ((2 : Int32).toInt64.toUInt64 &&& Int64.toUInt64 63)).toInt64 &&& (3689348814741910323 : Int64))).toUInt64 >>> ((4 : Int32).toInt64.toUInt64 &&& Int64.toUInt64 63)).toInt64) &&& (1085102592571150095 : Int64)) + ((((((p0 - ((p0.toUInt64 >>> ((1 : Int32).toInt64.toUInt64 &&& Int64.toUInt64 63)).toInt64 &&& (6148914691236517205 : Int64))) &&& (3689348814741910323 : Int64)) + (((p0 - ((p0.toUInt64 >>> ((1 : Int32).toInt64.toUInt64 &&& Int64.toUInt64 63)).toInt64 &&& (6148914691236517205 : Int64))).toUInt64 >>> ((2 : Int32).toInt64.toUInt64 &&& Int64.toUInt64 63)).toInt64 &&& (3689348814741910323 : Int64))) + ((((p0 - ((p0.toUInt64 >>> ((1 : Int32).toInt64.toUInt64 &&& Int64.toUInt64 63)).toInt64 &&& (6148914691236517205 : Int64))) &&& (3689348814741910323 : Int64)) + (((p0 - ((p0.toUInt64 >>> ((1 : Int32).toInt64.toUInt64 &&& Int64.toUInt64 63)).toInt64 &&& (6148914691236517205 : Int64))).toUInt64 >>> ((2 : Int32).toInt64.toUInt64 &&& Int64.toUInt64 63)).toInt64 &&& (3689348814741910323 : Int64))).toUInt64 >>> ((4 : Int32).toInt64.toUInt64 &&& Int64.toUInt64 63)).toInt64) &&& (1085102592571150095 : Int64)).toUInt64 >>> ((8 : Int32).toInt64.toUInt64 &&& Int64.toUInt64 63)).toInt64))]) hx hb d_Long_bitCount_40 rfl hl (by decide) rfl (fun ls hl => ?_)
  refine lv_lload_n hx hb d_Long_bitCount_41 rfl (lv_at hl 0 rfl) ?_
  refine lv_lload_n hx hb d_Long_bitCount_42 rfl (lv_at hl 0 rfl) ?_
  refine lv_bipush (v := (16 : Int32)) hx hb d_Long_bitCount_43 (by decide) ?_
  refine lv_lushr hx hb d_Long_bitCount_45 rfl ?_
  refine lv_ladd hx hb d_Long_bitCount_46 ?_
  refine lv_lstore_n (lv' := [(0, .long (((((((p0 - ((p0.toUInt64 >>> ((1 : Int32).toInt64.toUInt64 &&& Int64.toUInt64 63)).toInt64 &&& (6148914691236517205 : Int64))) &&& (3689348814741910323 : Int64)) + (((p0 - ((p0.toUInt64 >>> ((1 : Int32).toInt64.toUInt64 &&& Int64.toUInt64 63)).toInt64 &&& (6148914691236517205 : Int64))).toUInt64 >>> ((2 : Int32).toInt64.toUInt64 &&& Int64.toUInt64 63)).toInt64 &&& (3689348814741910323 : Int64))) + ((((p0 - ((p0.toUInt64 >>> ((1 : Int32).toInt64.toUInt64 &&& Int64.toUInt64 63)).toInt64 &&& (6148914691236517205 : Int64))) &&& (3689348814741910323 : Int64)) + (((p0 - ((p0.toUInt64 >>> ((1 : Int32).toInt64.toUInt64 &&& Int64.toUInt64 63)).toInt64 &&& (6148914691236517205 : Int64))).toUInt64 >>> ((2 : Int32).toInt64.toUInt64 &&& Int64.toUInt64 63)).toInt64 &&& (3689348814741910323 : Int64))).toUInt64 >>> ((4 : Int32).toInt64.toUInt64 &&& Int64.toUInt64 63)).toInt64) &&& (1085102592571150095 : Int64)) + ((((((p0 - ((p0.toUInt64 >>> ((1 : Int32).toInt64.toUInt64 &&& Int64.toUInt64 63)).toInt64 &&& (6148914691236517205 : Int64))) &&& (3689348814741910323 : Int64)) + (((p0 - ((p0.toUInt64 >>> ((1 : Int32).toInt64.toUInt64 &&& Int64.toUInt64 63)).toInt64 &&& (6148914691236517205 : Int64))).toUInt64 >>> ((2 : Int32).toInt64.toUInt64 &&& Int64.toUInt64 63)).toInt64 &&& (3689348814741910323 : Int64))) + ((((p0 - ((p0.toUInt64 >>> ((1 : Int32).toInt64.toUInt64 &&& Int64.toUInt64 63)).toInt64 &&& (6148914691236517205 : Int64))) &&& (3689348814741910323 : Int64)) + (((p0 - ((p0.toUInt64 >>> ((1 : Int32).toInt64.toUInt64 &&& Int64.toUInt64 63)).toInt64 &&& (6148914691236517205 : Int64))).toUInt64 >>> ((2 : Int32).toInt64.toUInt64 &&& Int64.toUInt64 63)).toInt64 &&& (3689348814741910323 : Int64))).toUInt64 >>> ((4 : Int32).toInt64.toUInt64 &&& Int64.toUInt64 63)).toInt64) &&& (1085102592571150095 : Int64)).toUInt64 >>> ((8 : Int32).toInt64.toUInt64 &&& Int64.toUInt64 63)).toInt64) + (((((((p0 - ((p0.toUInt64 >>> ((1 : Int32).toInt64.toUInt64 &&& Int64.toUInt64 63)).toInt64 &&& (6148914691236517205 : Int64))) &&& (3689348814741910323 : Int64)) + (((p0 - ((p0.toUInt64 >>> ((1 : Int32).toInt64.toUInt64 &&& Int64.toUInt64 63)).toInt64 &&& (6148914691236517205 : Int64))).toUInt64 >>> ((2 : Int32).toInt64.toUInt64 &&& Int64.toUInt64 63)).toInt64 &&& (3689348814741910323 : Int64))) + ((((p0 - ((p0.toUInt64 >>> ((1 : Int32).toInt64.toUInt64 &&& Int64.toUInt64 63)).toInt64 &&& (6148914691236517205 : Int64))) &&& (3689348814741910323 : Int64)) + (((p0 - ((p0.toUInt64 >>> ((1 : Int32).toInt64.toUInt64 &&& Int64.toUInt64 63)).toInt64 &&& (6148914691236517205 : Int64))).toUInt64 >>> ((2 : Int32).toInt64.toUInt64 &&& Int64.toUInt64 63)).toInt64 &&& (3689348814741910323 : Int64))).toUInt64 >>> ((4 : Int32).toInt64.toUInt64 &&& Int64.toUInt64 63)).toInt64) &&& (1085102592571150095 : Int64)) + ((((((p0 - ((p0.toUInt64 >>> ((1 : Int32).toInt64.toUInt64 &&& Int64.toUInt64 63)).toInt64 &&& (6148914691236517205 : Int64))) &&& (3689348814741910323 : Int64)) + (((p0 - ((p0.toUInt64 >>> ((1 : Int32).toInt64.toUInt64 &&& Int64.toUInt64 63)).toInt64 &&& (6148914691236517205 : Int64))).toUInt64 >>> ((2 : Int32).toInt64.toUInt64 &&& Int64.toUInt64 63)).toInt64 &&& (3689348814741910323 : Int64))) + ((((p0 - ((p0.toUInt64 >>> ((1 : Int32).toInt64.toUInt64 &&& Int64.toUInt64 63)).toInt64 &&& (6148914691236517205 : Int64))) &&& (3689348814741910323 : Int64)) + (((p0 - ((p0.toUInt64 >>> ((1 : Int32).toInt64.toUInt64 &&& Int64.toUInt64 63)).toInt64 &&& (6148914691236517205 : Int64))).toUInt64 >>> ((2 : Int32).toInt64.toUInt64 &&& Int64.toUInt64 63)).toInt64 &&& (3689348814741910323 : Int64))).toUInt64 >>> ((4 : Int32).toInt64.toUInt64 &&& Int64.toUInt64 63)).toInt64) &&& (1085102592571150095 : Int64)).toUInt64 >>> ((8 : Int32).toInt64.toUInt64 &&& Int64.toUInt64 63)).toInt64).toUInt64 >>> ((16 : Int32).toInt64.toUInt64 &&& Int64.toUInt64 63)).toInt64))]) hx hb d_Long_bitCount_47 rfl hl (by decide) rfl (fun ls hl => ?_)
  refine lv_lload_n hx hb d_Long_bitCount_48 rfl (lv_at hl 0 rfl) ?_
  refine lv_lload_n hx hb d_Long_bitCount_49 rfl (lv_at hl 0 rfl) ?_
  refine lv_bipush (v := (32 : Int32)) hx hb d_Long_bitCount_50 (by decide) ?_
  refine lv_lushr hx hb d_Long_bitCount_52 rfl ?_
  refine lv_ladd hx hb d_Long_bitCount_53 ?_
  refine lv_lstore_n (lv' := [(0, .long ((((((((p0 - ((p0.toUInt64 >>> ((1 : Int32).toInt64.toUInt64 &&& Int64.toUInt64 63)).toInt64 &&& (6148914691236517205 : Int64))) &&& (3689348814741910323 : Int64)) + (((p0 - ((p0.toUInt64 >>> ((1 : Int32).toInt64.toUInt64 &&& Int64.toUInt64 63)).toInt64 &&& (6148914691236517205 : Int64))).toUInt64 >>> ((2 : Int32).toInt64.toUInt64 &&& Int64.toUInt64 63)).toInt64 &&& (3689348814741910323 : Int64))) + ((((p0 - ((p0.toUInt64 >>> ((1 : Int32).toInt64.toUInt64 &&& Int64.toUInt64 63)).toInt64 &&& (6148914691236517205 : Int64))) &&& (3689348814741910323 : Int64)) + (((p0 - ((p0.toUInt64 >>> ((1 : Int32).toInt64.toUInt64 &&& Int64.toUInt64 63)).toInt64 &&& (6148914691236517205 : Int64))).toUInt64 >>> ((2 : Int32).toInt64.toUInt64 &&& Int64.toUInt64 63)).toInt64 &&& (3689348814741910323 : Int64))).toUInt64 >>> ((4 : Int32).toInt64.toUInt64 &&& Int64.toUInt64 63)).toInt64) &&& (1085102592571150095 : Int64)) + ((((((p0 - ((p0.toUInt64 >>> ((1 : Int32).toInt64.toUInt64 &&& Int64.toUInt64 63)).toInt64 &&& (6148914691236517205 : Int64))) &&& (3689348814741910323 : Int64)) + (((p0 - ((p0.toUInt64 >>> ((1 : Int32).toInt64.toUInt64 &&& Int64.toUInt64 63)).toInt64 &&& (6148914691236517205 : Int64))).toUInt64 >>> ((2 : Int32).toInt64.toUInt64 &&& Int64.toUInt64 63)).toInt64 &&& (3689348814741910323 : Int64))) + ((((p0 - ((p0.toUInt64 >>> ((1 : Int32).toInt64.toUInt64 &&& Int64.toUInt64 63)).toInt64 &&& (6148914691236517205 : Int64))) &&& (3689348814741910323 : Int64)) + (((p0 - ((p0.toUInt64 >>> ((1 : Int32).toInt64.toUInt64 &&& Int64.toUInt64 63)).toInt64 &&& (6148914691236517205 : Int64))).toUInt64 >>> ((2 : Int32).toInt64.toUInt64 &&& Int64.toUInt64 63)).toInt64 &&& (3689348814741910323 : Int64))).toUInt64 >>> ((4 : Int32).toInt64.toUInt64 &&& Int64.toUInt64 63)).toInt64) &&& (1085102592571150095 : Int64)).toUInt64 >>> ((8 : Int32).toInt64.toUInt64 &&& Int64.toUInt64 63)).toInt64) + (((((((p0 - ((p0.toUInt64 >>> ((1 : Int32).toInt64.toUInt64 &&& Int64.toUInt64 63)).toInt64 &&& (6148914691236517205 : Int64))) &&& (3689348814741910323 : Int64)) + (((p0 - ((p0.toUInt64 >>> ((1 : Int32).toInt64.toUInt64 &&& Int64.toUInt64 63)).toInt64 &&& (6148914691236517205 : Int64))).toUInt64 >>> ((2 : Int32).toInt64.toUInt64 &&& Int64.toUInt64 63)).toInt64 &&& (3689348814741910323 : Int64))) + ((((p0 - ((p0.toUInt64 >>> ((1 : Int32).toInt64.toUInt64 &&& Int64.toUInt64 63)).toInt64 &&& (6148914691236517205 : Int64))) &&& (3689348814741910323 : Int64)) + (((p0 - ((p0.toUInt64 >>> ((1 : Int32).toInt64.toUInt64 &&& Int64.toUInt64 63)).toInt64 &&& (6148914691236517205 : Int64))).toUInt64 >>> ((2 : Int32).toInt64.toUInt64 &&& Int64.toUInt64 63)).toInt64 &&& (3689348814741910323 : Int64))).toUInt64 >>> ((4 : Int32).toInt64.toUInt64 &&& Int64.toUInt64 63)).toInt64) &&& (1085102592571150095 : Int64)) + ((((((p0 - ((p0.toUInt64 >>> ((1 : Int32).toInt64.toUInt64 &&& Int64.toUInt64 63)).toInt64 &&& (6148914691236517205 : Int64))) &&& (3689348814741910323 : Int64)) + (((p0 - ((p0.toUInt64 >>> ((1 : Int32).toInt64.toUInt64 &&& Int64.toUInt64 63)).toInt64 &&& (6148914691236517205 : Int64))).toUInt64 >>> ((2 : Int32).toInt64.toUInt64 &&& Int64.toUInt64 63)).toInt64 &&& (3689348814741910323 : Int64))) + ((((p0 - ((p0.toUInt64 >>> ((1 : Int32).toInt64.toUInt64 &&& Int64.toUInt64 63)).toInt64 &&& (6148914691236517205 : Int64))) &&& (3689348814741910323 : Int64)) + (((p0 - ((p0.toUInt64 >>> ((1 : Int32).toInt64.toUInt64 &&& Int64.toUInt64 63)).toInt64 &&& (6148914691236517205 : Int64))).toUInt64 >>> ((2 : Int32).toInt64.toUInt64 &&& Int64.toUInt64 63)).toInt64 &&& (3689348814741910323 : Int64))).toUInt64 >>> ((4 : Int32).toInt64.toUInt64 &&& Int64.toUInt64 63)).toInt64) &&& (1085102592571150095 : Int64)).toUInt64 >>> ((8 : Int32).toInt64.toUInt64 &&& Int64.toUInt64 63)).toInt64).toUInt64 >>> ((16 : Int32).toInt64.toUInt64 &&& Int64.toUInt64 63)).toInt64) + ((((((((p0 - ((p0.toUInt64 >>> ((1 : Int32).toInt64.toUInt64 &&& Int64.toUInt64 63)).toInt64 &&& (6148914691236517205 : Int64))) &&& (3689348814741910323 : Int64)) + (((p0 - ((p0.toUInt64 >>> ((1 : Int32).toInt64.toUInt64 &&& Int64.toUInt64 63)).toInt64 &&& (6148914691236517205 : Int64))).toUInt64 >>> ((2 : Int32).toInt64.toUInt64 &&& Int64.toUInt64 63)).toInt64 &&& (3689348814741910323 : Int64))) + ((((p0 - ((p0.toUInt64 >>> ((1 : Int32).toInt64.toUInt64 &&& Int64.toUInt64 63)).toInt64 &&& (6148914691236517205 : Int64))) &&& (3689348814741910323 : Int64)) + (((p0 - ((p0.toUInt64 >>> ((1 : Int32).toInt64.toUInt64 &&& Int64.toUInt64 63)).toInt64 &&& (6148914691236517205 : Int64))).toUInt64 >>> ((2 : Int32).toInt64.toUInt64 &&& Int64.toUInt64 63)).toInt64 &&& (3689348814741910323 : Int64))).toUInt64 >>> ((4 : Int32).toInt64.toUInt64 &&& Int64.toUInt64 63)).toInt64) &&& (1085102592571150095 : Int64)) + ((((((p0 - ((p0.toUInt64 >>> ((1 : Int32).toInt64.toUInt64 &&& Int64.toUInt64 63)).toInt64 &&& (6148914691236517205 : Int64))) &&& (3689348814741910323 : Int64)) + (((p0 - ((p0.toUInt64 >>> ((1 : Int32).toInt64.toUInt64 &&& Int64.toUInt64 63)).toInt64 &&& (6148914691236517205 : Int64))).toUInt64 >>> ((2 : Int32).toInt64.toUInt64 &&& Int64.toUInt64 63)).toInt64 &&& (3689348814741910323 : Int64))) + ((((p0 - ((p0.toUInt64 >>> ((1 : Int32).toInt64.toUInt64 &&& Int64.toUInt64 63)).toInt64 &&& (6148914691236517205 : Int64))) &&& (3689348814741910323 : Int64)) + (((p0 - ((p0.toUInt64 >>> ((1 : Int32).toInt64.toUInt64 &&& Int64.toUInt64 63)).toInt64 &&& (6148914691236517205 : Int64))).toUInt64 >>> ((2 : Int32).toInt64.toUInt64 &&& Int64.toUInt64 63)).toInt64 &&& (3689348814741910323 : Int64))).toUInt64 >>> ((4 : Int32).toInt64.toUInt64 &&& Int64.toUInt64 63)).toInt64) &&& (1085102592571150095 : Int64)).toUInt64 >>> ((8 : Int32).toInt64.toUInt64 &&& Int64.toUInt64 63)).toInt64) + (((((((p0 - ((p0.toUInt64 >>> ((1 : Int32).toInt64.toUInt64 &&& Int64.toUInt64 63)).toInt64 &&& (6148914691236517205 : Int64))) &&& (3689348814741910323 : Int64)) + (((p0 - ((p0.toUInt64 >>> ((1 : Int32).toInt64.toUInt64 &&& Int64.toUInt64 63)).toInt64 &&& (6148914691236517205 : Int64))).toUInt64 >>> ((2 : Int32).toInt64.toUInt64 &&& Int64.toUInt64 63)).toInt64 &&& (3689348814741910323 : Int64))) + ((((p0 - ((p0.toUInt64 >>> ((1 : Int32).toInt64.toUInt64 &&& Int64.toUInt64 63)).toInt64 &&& (6148914691236517205 : Int64))) &&& (3689348814741910323 : Int64)) + (((p0 - ((p0.toUInt64 >>> ((1 : Int32).toInt64.toUInt64 &&& Int64.toUInt64 63)).toInt64 &&& (6148914691236517205 : Int64))).toUInt64 >>> ((2 : Int32).toInt64.toUInt64 &&& Int64.toUInt64 63)).toInt64 &&& (3689348814741910323 : Int64))).toUInt64 >>> ((4 : Int32).toInt64.toUInt64 &&& Int64.toUInt64 63)).toInt64) &&& (1085102592571150095 : Int64)) + ((((((p0 - ((p0.toUInt64 >>> ((1 : Int32).toInt64.toUInt64 &&& Int64.toUInt64 63)).toInt64 &&& (6148914691236517205 : Int64))) &&& (3689348814741910323 : Int64)) + (((p0 - ((p0.toUInt64 >>> ((1 : Int32).toInt64.toUInt64 &&& Int64.toUInt64 63)).toInt64 &&& (6148914691236517205 : Int64))).toUInt64 >>> ((2 : Int32).toInt64.toUInt64 &&& Int64.toUInt64 63)).toInt64 &&& (3689348814741910323 : Int64))) + ((((p0 - ((p0.toUInt64 >>> ((1 : Int32).toInt64.toUInt64 &&& Int64.toUInt64 63)).toInt64 &&& (6148914691236517205 : Int64))) &&& (3689348814741910323 : Int64)) + (((p0 - ((p0.toUInt64 >>> ((1 : Int32).toInt64.toUInt64 &&& Int64.toUInt64 63)).toInt64 &&& (6148914691236517205 : Int64))).toUInt64 >>> ((2 : Int32).toInt64.toUInt64 &&& Int64.toUInt64 63)).toInt64 &&& (3689348814741910323 : Int64))).toUInt64 >>> ((4 : Int32).toInt64.toUInt64 &&& Int64.toUInt64 63)).toInt64) &&& (1085102592571150095 : Int64)).toUInt64 >>> ((8 : Int32).toInt64.toUInt64 &&& Int64.toUInt64 63)).toInt64).toUInt64 >>> ((16 : Int32).toInt64.toUInt64 &&& Int64.toUInt64 63)).toInt64).toUInt64 >>> ((32 : Int32).toInt64.toUInt64 &&& Int64.toUInt64 63)).toInt64))]) hx hb d_Long_bitCount_54 rfl hl (by decide) rfl (fun ls hl => ?_)
  refine lv_lload_n hx hb d_Long_bitCount_55 rfl (lv_at hl 0 rfl) ?_
  refine lv_l2i hx hb d_Long_bitCount_56 rfl ?_
  refine lv_bipush (v := (127 : Int32)) hx hb d_Long_bitCount_57 (by decide) ?_
  refine lv_iand hx hb d_Long_bitCount_59 ?_
  cases h
  rw [hQ]
  exact x_iret hC hr hW d_Long_bitCount_60

def f_DrawSets_count (N_t : Nat) (v_t_high : Nat → Int64) (v_t_low : Nat → Int64) (p0 : Int32) : Option (Int32) :=
  bk1 (f_DrawSets_lowAt N_t v_t_low p0) fun r_1 => bk1 (f_Long_bitCount r_1) fun r_2 => bk1 (f_DrawSets_highAt N_t v_t_high p0) fun r_3 => bk1 (f_Long_bitCount r_3) fun r_4 => some ((r_2 + r_4))
set_option maxHeartbeats 4000000 in
set_option maxRecDepth 100000 in
theorem c_DrawSets_count (l : Launch) (D : va_G) (I J Z : ClassId) (a_t : Nat) (a_t_high : Nat) (a_t_low : Nat) (N_t : Nat) (v_t_high : Nat → Int64) (v_t_low : Nat → Int64) (p0 : Int32) (out : (Int32)) (h : f_DrawSets_count N_t v_t_high v_t_low p0 = some out) : CT l D I J Z y_DrawSets_count b_DrawSets_count 2 (some .int) 2 [.ref a_t, .int p0] [(a_t, .inr (1, [.ref a_t_low, .ref a_t_high])), (a_t_high, .inl (J, N_t, .inr (.inl v_t_high))), (a_t_low, .inl (J, N_t, .inr (.inl v_t_low)))] (PoI out D [(a_t, .inr (1, [.ref a_t_low, .ref a_t_high])), (a_t_high, .inl (J, N_t, .inr (.inl v_t_high))), (a_t_low, .inl (J, N_t, .inr (.inl v_t_low)))]) := by
  unfold f_DrawSets_count at h
  refine CT_of R_DrawSets (by decide +kernel) rfl (Nat.le_of_ble_eq_true rfl) ?_
  intro p e R s m args below meth c A ls Q hR1 hR2 hQ hC hr hW hA hl
  have hx := hC.1
  have hb := hC.2.1
  have hl : lv_has ls 2 [(0, .ref a_t), (1, .int p0)] := hl
  refine lv_aload_n hx hb d_DrawSets_count_0 rfl (lv_at hl 0 rfl) ?_
  refine lv_iload_n hx hb d_DrawSets_count_1 rfl (lv_at hl 1 rfl) ?_
  obtain ⟨r_1, hc_1, h⟩ := bk1_e h
  refine x_cl (ws' := [(a_t, .inr (1, [.ref a_t_low, .ref a_t_high])), (a_t_high, .inl (J, N_t, .inr (.inl v_t_high))), (a_t_low, .inl (J, N_t, .inr (.inl v_t_low)))]) (x_runV (As := [.int p0]) (rest := []) hC hW (c_DrawSets_lowAt l D I J Z a_t a_t_low a_t_high N_t v_t_low p0 (r_1) hc_1) cl_DrawSets_26 q_code_DrawSets_lowAt [0, 2] rfl (by decide) 0 rfl rfl rfl rfl hl.1 (Nat.le_of_ble_eq_true rfl) (rm_ok hR1 hR2 (by decide) (by decide)) ⟨Nat.zero_le _, Nat.zero_le _⟩ d_DrawSets_count_2) hW hA [0, 2] rfl rfl (ps := [some 0, none, some 1]) (by decide +kernel) ⟨rfl, rfl, rfl, trivial⟩ (fun H locs hW => ?_)
  obtain ⟨r_2, hc_2, h⟩ := bk1_e h
  refine x_ci (ws' := [(a_t, .inr (1, [.ref a_t_low, .ref a_t_high])), (a_t_high, .inl (J, N_t, .inr (.inl v_t_high))), (a_t_low, .inl (J, N_t, .inr (.inl v_t_low)))]) (x_runS (rest := []) hC hW (c_Long_bitCount l D I J Z r_1 (r_2) hc_2) cl_DrawSets_33 q_code_Long_bitCount [] rfl (by decide) rfl hl.1 (Nat.le_of_ble_eq_true rfl) (rm_ok hR1 hR2 (by decide) (by decide)) ⟨Nat.zero_le _, Nat.zero_le _⟩ d_DrawSets_count_5) hW hA [] rfl rfl (ps := [none, none, none]) (by decide +kernel) ⟨rfl, rfl, rfl, trivial⟩ (fun H locs hW => ?_)
  refine lv_aload_n hx hb d_DrawSets_count_8 rfl (lv_at hl 0 rfl) ?_
  refine lv_iload_n hx hb d_DrawSets_count_9 rfl (lv_at hl 1 rfl) ?_
  obtain ⟨r_3, hc_3, h⟩ := bk1_e h
  refine x_cl (ws' := [(a_t, .inr (1, [.ref a_t_low, .ref a_t_high])), (a_t_high, .inl (J, N_t, .inr (.inl v_t_high))), (a_t_low, .inl (J, N_t, .inr (.inl v_t_low)))]) (x_runV (As := [.int p0]) (rest := [.int r_2]) hC hW (c_DrawSets_highAt l D I J Z a_t a_t_high a_t_low N_t v_t_high p0 (r_3) hc_3) cl_DrawSets_30 q_code_DrawSets_highAt [0, 1] rfl (by decide) 0 rfl rfl rfl rfl hl.1 (Nat.le_of_ble_eq_true rfl) (rm_ok hR1 hR2 (by decide) (by decide)) ⟨Nat.zero_le _, Nat.zero_le _⟩ d_DrawSets_count_10) hW hA [0, 1] rfl rfl (ps := [some 0, some 1, none]) (by decide +kernel) ⟨rfl, rfl, rfl, trivial⟩ (fun H locs hW => ?_)
  obtain ⟨r_4, hc_4, h⟩ := bk1_e h
  refine x_ci (ws' := [(a_t, .inr (1, [.ref a_t_low, .ref a_t_high])), (a_t_high, .inl (J, N_t, .inr (.inl v_t_high))), (a_t_low, .inl (J, N_t, .inr (.inl v_t_low)))]) (x_runS (rest := [.int r_2]) hC hW (c_Long_bitCount l D I J Z r_3 (r_4) hc_4) cl_DrawSets_33 q_code_Long_bitCount [] rfl (by decide) rfl hl.1 (Nat.le_of_ble_eq_true rfl) (rm_ok hR1 hR2 (by decide) (by decide)) ⟨Nat.zero_le _, Nat.zero_le _⟩ d_DrawSets_count_13) hW hA [] rfl rfl (ps := [none, none, none]) (by decide +kernel) ⟨rfl, rfl, rfl, trivial⟩ (fun H locs hW => ?_)
  refine lv_iadd hx hb d_DrawSets_count_16 ?_
  cases h
  rw [hQ]
  exact x_iret hC hr hW d_DrawSets_count_17

def f_Main_isWithin (p0 : Int32) (p1 : Int32) (p2 : Int32) : Option (Int32) :=
  if p0 < p1 then some ((0 : Int32)) else if p2 < p0 then some ((0 : Int32)) else some ((1 : Int32))
set_option maxHeartbeats 4000000 in
set_option maxRecDepth 100000 in
theorem c_Main_isWithin (l : Launch) (D : va_G) (I J Z : ClassId)    (p0 : Int32) (p1 : Int32) (p2 : Int32) (out : (Int32)) (h : f_Main_isWithin p0 p1 p2 = some out) : CT l D I J Z y_Main_isWithin b_Main_isWithin 3 (some .boolean) 1 [.int p0, .int p1, .int p2] [] (PoI out D []) := by
  unfold f_Main_isWithin at h
  refine CT_of R_Main (by decide +kernel) rfl (Nat.le_of_ble_eq_true rfl) ?_
  intro p e R s m args below meth c A ls Q hR1 hR2 hQ hC hr hW hA hl
  have hx := hC.1
  have hb := hC.2.1
  have hl : lv_has ls 3 [(0, .int p0), (1, .int p1), (2, .int p2)] := hl
  refine lv_iload_n hx hb d_Main_isWithin_0 rfl (lv_at hl 0 rfl) ?_
  refine lv_iload_n hx hb d_Main_isWithin_1 rfl (lv_at hl 1 rfl) ?_
  refine lv_icmp_lt (tgt := 14) hx hb d_Main_isWithin_2 (by decide) (fun c_1 => ?_) (fun c_1 => ?_)
  · have h := it_e c_1 h
    refine lv_iconst (v := (0 : Int32)) hx hb d_Main_isWithin_14 (by decide) ?_
    cases h
    rw [hQ]
    exact x_zret hC hr (show narrow .boolean (.int (0 : Int32)) = .int (0 : Int32) from rfl) hW d_Main_isWithin_15
  · have h := ie_e c_1 h
    refine lv_iload_n hx hb d_Main_isWithin_5 rfl (lv_at hl 0 rfl) ?_
    refine lv_iload_n hx hb d_Main_isWithin_6 rfl (lv_at hl 2 rfl) ?_
    refine lv_icmp_gt (tgt := 14) hx hb d_Main_isWithin_7 (by decide) (fun c_2 => ?_) (fun c_2 => ?_)
    · have h := it_e c_2 h
      refine lv_iconst (v := (0 : Int32)) hx hb d_Main_isWithin_14 (by decide) ?_
      cases h
      rw [hQ]
      exact x_zret hC hr (show narrow .boolean (.int (0 : Int32)) = .int (0 : Int32) from rfl) hW d_Main_isWithin_15
    · have h := ie_e c_2 h
      refine lv_iconst (v := (1 : Int32)) hx hb d_Main_isWithin_10 (by decide) ?_
      refine lv_goto (tgt := 15) hx hb d_Main_isWithin_11 (by decide) ?_
      cases h
      rw [hQ]
      exact x_zret hC hr (show narrow .boolean (.int (1 : Int32)) = .int (1 : Int32) from rfl) hW d_Main_isWithin_15

def f_DrawSets_join (N_p2 : Nat) (N_t : Nat) (v_p2_high : Nat → Int64) (v_p2_low : Nat → Int64) (v_t_high : Nat → Int64) (v_t_low : Nat → Int64) (p0 : Int32) (p1 : Int32) (p3 : Int32) : Option ((Nat → Int64) × (Nat → Int64)) :=
  bk1 (f_DrawSets_lowAt N_t v_t_low p1) fun r_1 => bk1 (f_DrawSets_lowAt N_p2 v_p2_low p3) fun r_2 => bk1 (f_DrawSets_highAt N_t v_t_high p1) fun r_3 => bk1 (f_DrawSets_highAt N_p2 v_p2_high p3) fun r_4 => bk2 (f_DrawSets_put N_t v_t_high v_t_low p0 (r_1 ||| r_2) (r_3 ||| r_4)) fun w_5_0 w_5_1 => some (w_5_0, w_5_1)
set_option maxHeartbeats 4000000 in
set_option maxRecDepth 100000 in
theorem c_DrawSets_join (l : Launch) (D : va_G) (I J Z : ClassId) (a_p2 : Nat) (a_p2_high : Nat) (a_p2_low : Nat) (a_t : Nat) (a_t_high : Nat) (a_t_low : Nat) (N_p2 : Nat) (N_t : Nat) (v_p2_high : Nat → Int64) (v_p2_low : Nat → Int64) (v_t_high : Nat → Int64) (v_t_low : Nat → Int64) (p0 : Int32) (p1 : Int32) (p3 : Int32) (out : ((Nat → Int64) × (Nat → Int64))) (h : f_DrawSets_join N_p2 N_t v_p2_high v_p2_low v_t_high v_t_low p0 p1 p3 = some out) : CT l D I J Z y_DrawSets_join b_DrawSets_join 5 none 2 [.ref a_t, .int p0, .int p1, .ref a_p2, .int p3] [(a_p2, .inr (1, [.ref a_p2_low, .ref a_p2_high])), (a_p2_high, .inl (J, N_p2, .inr (.inl v_p2_high))), (a_p2_low, .inl (J, N_p2, .inr (.inl v_p2_low))), (a_t, .inr (1, [.ref a_t_low, .ref a_t_high])), (a_t_high, .inl (J, N_t, .inr (.inl v_t_high))), (a_t_low, .inl (J, N_t, .inr (.inl v_t_low)))] (PoV D [(a_p2, .inr (1, [.ref a_p2_low, .ref a_p2_high])), (a_p2_high, .inl (J, N_p2, .inr (.inl v_p2_high))), (a_p2_low, .inl (J, N_p2, .inr (.inl v_p2_low))), (a_t, .inr (1, [.ref a_t_low, .ref a_t_high])), (a_t_high, .inl (J, N_t, .inr (.inl out.1))), (a_t_low, .inl (J, N_t, .inr (.inl out.2)))]) := by
  unfold f_DrawSets_join at h
  refine CT_of R_DrawSets (by decide +kernel) rfl (Nat.le_of_ble_eq_true rfl) ?_
  intro p e R s m args below meth c A ls Q hR1 hR2 hQ hC hr hW hA hl
  have hx := hC.1
  have hb := hC.2.1
  have hl : lv_has ls 5 [(0, .ref a_t), (1, .int p0), (2, .int p1), (3, .ref a_p2), (4, .int p3)] := hl
  refine lv_aload_n hx hb d_DrawSets_join_0 rfl (lv_at hl 0 rfl) ?_
  refine lv_iload_n hx hb d_DrawSets_join_1 rfl (lv_at hl 1 rfl) ?_
  refine lv_aload_n hx hb d_DrawSets_join_2 rfl (lv_at hl 0 rfl) ?_
  refine lv_iload_n hx hb d_DrawSets_join_3 rfl (lv_at hl 2 rfl) ?_
  obtain ⟨r_1, hc_1, h⟩ := bk1_e h
  refine x_cl (ws' := [(a_p2, .inr (1, [.ref a_p2_low, .ref a_p2_high])), (a_p2_high, .inl (J, N_p2, .inr (.inl v_p2_high))), (a_p2_low, .inl (J, N_p2, .inr (.inl v_p2_low))), (a_t, .inr (1, [.ref a_t_low, .ref a_t_high])), (a_t_high, .inl (J, N_t, .inr (.inl v_t_high))), (a_t_low, .inl (J, N_t, .inr (.inl v_t_low)))]) (x_runV (As := [.int p1]) (rest := [.int p0, .ref a_t]) hC hW (c_DrawSets_lowAt l D I J Z a_t a_t_low a_t_high N_t v_t_low p1 (r_1) hc_1) cl_DrawSets_26 q_code_DrawSets_lowAt [3, 5] rfl (by decide) 3 rfl rfl rfl rfl hl.1 (Nat.le_of_ble_eq_true rfl) (rm_ok hR1 hR2 (by decide) (by decide)) ⟨Nat.zero_le _, Nat.zero_le _⟩ d_DrawSets_join_4) hW hA [3, 5] rfl rfl (ps := [none, none, none, some 0, none, some 1]) (by decide +kernel) ⟨rfl, rfl, rfl, rfl, rfl, rfl, trivial⟩ (fun H locs hW => ?_)
  refine lv_aload_n hx hb d_DrawSets_join_7 rfl (lv_at hl 3 rfl) ?_
  refine lv_iload hx hb d_DrawSets_join_8 (lv_at hl 4 rfl) ?_
  obtain ⟨r_2, hc_2, h⟩ := bk1_e h
  refine x_cl (ws' := [(a_p2, .inr (1, [.ref a_p2_low, .ref a_p2_high])), (a_p2_high, .inl (J, N_p2, .inr (.inl v_p2_high))), (a_p2_low, .inl (J, N_p2, .inr (.inl v_p2_low))), (a_t, .inr (1, [.ref a_t_low, .ref a_t_high])), (a_t_high, .inl (J, N_t, .inr (.inl v_t_high))), (a_t_low, .inl (J, N_t, .inr (.inl v_t_low)))]) (x_runV (As := [.int p3]) (rest := [.long r_1, .int p0, .ref a_t]) hC hW (c_DrawSets_lowAt l D I J Z a_p2 a_p2_low a_p2_high N_p2 v_p2_low p3 (r_2) hc_2) cl_DrawSets_26 q_code_DrawSets_lowAt [0, 2] rfl (by decide) 0 rfl rfl rfl rfl hl.1 (Nat.le_of_ble_eq_true rfl) (rm_ok hR1 hR2 (by decide) (by decide)) ⟨Nat.zero_le _, Nat.zero_le _⟩ d_DrawSets_join_10) hW hA [0, 2] rfl rfl (ps := [some 0, none, some 1, none, none, none]) (by decide +kernel) ⟨rfl, rfl, rfl, rfl, rfl, rfl, trivial⟩ (fun H locs hW => ?_)
  refine lv_lor hx hb d_DrawSets_join_13 ?_
  refine lv_aload_n hx hb d_DrawSets_join_14 rfl (lv_at hl 0 rfl) ?_
  refine lv_iload_n hx hb d_DrawSets_join_15 rfl (lv_at hl 2 rfl) ?_
  obtain ⟨r_3, hc_3, h⟩ := bk1_e h
  refine x_cl (ws' := [(a_p2, .inr (1, [.ref a_p2_low, .ref a_p2_high])), (a_p2_high, .inl (J, N_p2, .inr (.inl v_p2_high))), (a_p2_low, .inl (J, N_p2, .inr (.inl v_p2_low))), (a_t, .inr (1, [.ref a_t_low, .ref a_t_high])), (a_t_high, .inl (J, N_t, .inr (.inl v_t_high))), (a_t_low, .inl (J, N_t, .inr (.inl v_t_low)))]) (x_runV (As := [.int p1]) (rest := [.long (r_1 ||| r_2), .int p0, .ref a_t]) hC hW (c_DrawSets_highAt l D I J Z a_t a_t_high a_t_low N_t v_t_high p1 (r_3) hc_3) cl_DrawSets_30 q_code_DrawSets_highAt [3, 4] rfl (by decide) 3 rfl rfl rfl rfl hl.1 (Nat.le_of_ble_eq_true rfl) (rm_ok hR1 hR2 (by decide) (by decide)) ⟨Nat.zero_le _, Nat.zero_le _⟩ d_DrawSets_join_16) hW hA [3, 4] rfl rfl (ps := [none, none, none, some 0, some 1, none]) (by decide +kernel) ⟨rfl, rfl, rfl, rfl, rfl, rfl, trivial⟩ (fun H locs hW => ?_)
  refine lv_aload_n hx hb d_DrawSets_join_19 rfl (lv_at hl 3 rfl) ?_
  refine lv_iload hx hb d_DrawSets_join_20 (lv_at hl 4 rfl) ?_
  obtain ⟨r_4, hc_4, h⟩ := bk1_e h
  refine x_cl (ws' := [(a_p2, .inr (1, [.ref a_p2_low, .ref a_p2_high])), (a_p2_high, .inl (J, N_p2, .inr (.inl v_p2_high))), (a_p2_low, .inl (J, N_p2, .inr (.inl v_p2_low))), (a_t, .inr (1, [.ref a_t_low, .ref a_t_high])), (a_t_high, .inl (J, N_t, .inr (.inl v_t_high))), (a_t_low, .inl (J, N_t, .inr (.inl v_t_low)))]) (x_runV (As := [.int p3]) (rest := [.long r_3, .long (r_1 ||| r_2), .int p0, .ref a_t]) hC hW (c_DrawSets_highAt l D I J Z a_p2 a_p2_high a_p2_low N_p2 v_p2_high p3 (r_4) hc_4) cl_DrawSets_30 q_code_DrawSets_highAt [0, 1] rfl (by decide) 0 rfl rfl rfl rfl hl.1 (Nat.le_of_ble_eq_true rfl) (rm_ok hR1 hR2 (by decide) (by decide)) ⟨Nat.zero_le _, Nat.zero_le _⟩ d_DrawSets_join_22) hW hA [0, 1] rfl rfl (ps := [some 0, some 1, none, none, none, none]) (by decide +kernel) ⟨rfl, rfl, rfl, rfl, rfl, rfl, trivial⟩ (fun H locs hW => ?_)
  refine lv_lor hx hb d_DrawSets_join_25 ?_
  obtain ⟨w_5_0, w_5_1, hc_5, h⟩ := bk2_e h
  refine x_cv (ws' := [(a_p2, .inr (1, [.ref a_p2_low, .ref a_p2_high])), (a_p2_high, .inl (J, N_p2, .inr (.inl v_p2_high))), (a_p2_low, .inl (J, N_p2, .inr (.inl v_p2_low))), (a_t, .inr (1, [.ref a_t_low, .ref a_t_high])), (a_t_high, .inl (J, N_t, .inr (.inl w_5_0))), (a_t_low, .inl (J, N_t, .inr (.inl w_5_1)))]) (x_runV (As := [.int p0, .long (r_1 ||| r_2), .long (r_3 ||| r_4)]) (rest := []) hC hW (c_DrawSets_put l D I J Z a_t a_t_high a_t_low N_t v_t_high v_t_low p0 (r_1 ||| r_2) (r_3 ||| r_4) (w_5_0, w_5_1) hc_5) cl_DrawSets_22 q_code_DrawSets_put [3, 4, 5] rfl (by decide) 3 rfl rfl rfl rfl hl.1 (Nat.le_of_ble_eq_true rfl) (rm_ok hR1 hR2 (by decide) (by decide)) ⟨Nat.zero_le _, Nat.zero_le _⟩ d_DrawSets_join_26) hW hA [3, 4, 5] rfl rfl (ps := [none, none, none, some 0, some 1, some 2]) (by decide +kernel) ⟨rfl, rfl, rfl, rfl, rfl, rfl, trivial⟩ (fun H locs hW => ?_)
  cases h
  rw [hQ]
  exact x_vret hC hr hW d_DrawSets_join_29

def f_DrawSets_has (N_t : Nat) (v_t_high : Nat → Int64) (v_t_low : Nat → Int64) (p0 : Int32) (p1 : Int32) : Option (Int32) :=
  if (64 : Int32) ≤ p1 then bk1 (f_DrawSets_highAt N_t v_t_high p0) fun r_2 => if (lg_cmp ((r_2.toUInt64 >>> ((p1 - (64 : Int32)).toInt64.toUInt64 &&& Int64.toUInt64 63)).toInt64 &&& (1 : Int64)) (0 : Int64)) = (0 : Int32) then some ((0 : Int32)) else some ((1 : Int32)) else bk1 (f_DrawSets_lowAt N_t v_t_low p0) fun r_4 => if (lg_cmp ((r_4.toUInt64 >>> (p1.toInt64.toUInt64 &&& Int64.toUInt64 63)).toInt64 &&& (1 : Int64)) (0 : Int64)) = (0 : Int32) then some ((0 : Int32)) else some ((1 : Int32))
set_option maxHeartbeats 4000000 in
set_option maxRecDepth 100000 in
theorem c_DrawSets_has (l : Launch) (D : va_G) (I J Z : ClassId) (a_t : Nat) (a_t_high : Nat) (a_t_low : Nat) (N_t : Nat) (v_t_high : Nat → Int64) (v_t_low : Nat → Int64) (p0 : Int32) (p1 : Int32) (out : (Int32)) (h : f_DrawSets_has N_t v_t_high v_t_low p0 p1 = some out) : CT l D I J Z y_DrawSets_has b_DrawSets_has 5 (some .boolean) 2 [.ref a_t, .int p0, .int p1] [(a_t, .inr (1, [.ref a_t_low, .ref a_t_high])), (a_t_high, .inl (J, N_t, .inr (.inl v_t_high))), (a_t_low, .inl (J, N_t, .inr (.inl v_t_low)))] (PoI out D [(a_t, .inr (1, [.ref a_t_low, .ref a_t_high])), (a_t_high, .inl (J, N_t, .inr (.inl v_t_high))), (a_t_low, .inl (J, N_t, .inr (.inl v_t_low)))]) := by
  unfold f_DrawSets_has at h
  refine CT_of R_DrawSets (by decide +kernel) rfl (Nat.le_of_ble_eq_true rfl) ?_
  intro p e R s m args below meth c A ls Q hR1 hR2 hQ hC hr hW hA hl
  have hx := hC.1
  have hb := hC.2.1
  have hl : lv_has ls 5 [(0, .ref a_t), (1, .int p0), (2, .int p1)] := hl
  refine lv_iload_n hx hb d_DrawSets_has_0 rfl (lv_at hl 2 rfl) ?_
  refine lv_bipush (v := (64 : Int32)) hx hb d_DrawSets_has_1 (by decide) ?_
  refine lv_icmp_ge (tgt := 16) hx hb d_DrawSets_has_3 (by decide) (fun c_1 => ?_) (fun c_1 => ?_)
  · have h := it_e c_1 h
    refine lv_aload_n hx hb d_DrawSets_has_16 rfl (lv_at hl 0 rfl) ?_
    refine lv_iload_n hx hb d_DrawSets_has_17 rfl (lv_at hl 1 rfl) ?_
    obtain ⟨r_2, hc_2, h⟩ := bk1_e h
    refine x_cl (ws' := [(a_t, .inr (1, [.ref a_t_low, .ref a_t_high])), (a_t_high, .inl (J, N_t, .inr (.inl v_t_high))), (a_t_low, .inl (J, N_t, .inr (.inl v_t_low)))]) (x_runV (As := [.int p0]) (rest := []) hC hW (c_DrawSets_highAt l D I J Z a_t a_t_high a_t_low N_t v_t_high p0 (r_2) hc_2) cl_DrawSets_30 q_code_DrawSets_highAt [0, 1] rfl (by decide) 0 rfl rfl rfl rfl hl.1 (Nat.le_of_ble_eq_true rfl) (rm_ok hR1 hR2 (by decide) (by decide)) ⟨Nat.zero_le _, Nat.zero_le _⟩ d_DrawSets_has_18) hW hA [0, 1] rfl rfl (ps := [some 0, some 1, none]) (by decide +kernel) ⟨rfl, rfl, rfl, trivial⟩ (fun H locs hW => ?_)
    refine lv_iload_n hx hb d_DrawSets_has_21 rfl (lv_at hl 2 rfl) ?_
    refine lv_bipush (v := (64 : Int32)) hx hb d_DrawSets_has_22 (by decide) ?_
    refine lv_isub hx hb d_DrawSets_has_24 ?_
    refine lv_lushr hx hb d_DrawSets_has_25 rfl ?_
    refine lv_lstore_n (lv' := [(3, .long (r_2.toUInt64 >>> ((p1 - (64 : Int32)).toInt64.toUInt64 &&& Int64.toUInt64 63)).toInt64), (0, .ref a_t), (1, .int p0), (2, .int p1)]) hx hb d_DrawSets_has_26 rfl hl (by decide) rfl (fun ls hl => ?_)
    refine lv_lload_n hx hb d_DrawSets_has_27 rfl (lv_at hl 0 rfl) ?_
    refine lv_lconst (v := (1 : Int64)) hx hb d_DrawSets_has_28 (by decide) ?_
    refine lv_land hx hb d_DrawSets_has_29 ?_
    refine lv_lconst (v := (0 : Int64)) hx hb d_DrawSets_has_30 (by decide) ?_
    refine W.lcmp hx hb d_DrawSets_has_31 ?_
    refine lv_if_eq (tgt := 39) hx hb d_DrawSets_has_32 (by decide) (fun c_3 => ?_) (fun c_3 => ?_)
    · have h := it_e c_3 h
      refine lv_iconst (v := (0 : Int32)) hx hb d_DrawSets_has_39 (by decide) ?_
      cases h
      rw [hQ]
      exact x_zret hC hr (show narrow .boolean (.int (0 : Int32)) = .int (0 : Int32) from rfl) hW d_DrawSets_has_40
    · have h := ie_e c_3 h
      refine lv_iconst (v := (1 : Int32)) hx hb d_DrawSets_has_35 (by decide) ?_
      refine lv_goto (tgt := 40) hx hb d_DrawSets_has_36 (by decide) ?_
      cases h
      rw [hQ]
      exact x_zret hC hr (show narrow .boolean (.int (1 : Int32)) = .int (1 : Int32) from rfl) hW d_DrawSets_has_40
  · have h := ie_e c_1 h
    refine lv_aload_n hx hb d_DrawSets_has_6 rfl (lv_at hl 0 rfl) ?_
    refine lv_iload_n hx hb d_DrawSets_has_7 rfl (lv_at hl 1 rfl) ?_
    obtain ⟨r_4, hc_4, h⟩ := bk1_e h
    refine x_cl (ws' := [(a_t, .inr (1, [.ref a_t_low, .ref a_t_high])), (a_t_high, .inl (J, N_t, .inr (.inl v_t_high))), (a_t_low, .inl (J, N_t, .inr (.inl v_t_low)))]) (x_runV (As := [.int p0]) (rest := []) hC hW (c_DrawSets_lowAt l D I J Z a_t a_t_low a_t_high N_t v_t_low p0 (r_4) hc_4) cl_DrawSets_26 q_code_DrawSets_lowAt [0, 2] rfl (by decide) 0 rfl rfl rfl rfl hl.1 (Nat.le_of_ble_eq_true rfl) (rm_ok hR1 hR2 (by decide) (by decide)) ⟨Nat.zero_le _, Nat.zero_le _⟩ d_DrawSets_has_8) hW hA [0, 2] rfl rfl (ps := [some 0, none, some 1]) (by decide +kernel) ⟨rfl, rfl, rfl, trivial⟩ (fun H locs hW => ?_)
    refine lv_iload_n hx hb d_DrawSets_has_11 rfl (lv_at hl 2 rfl) ?_
    refine lv_lushr hx hb d_DrawSets_has_12 rfl ?_
    refine lv_goto (tgt := 26) hx hb d_DrawSets_has_13 (by decide) ?_
    refine lv_lstore_n (lv' := [(3, .long (r_4.toUInt64 >>> (p1.toInt64.toUInt64 &&& Int64.toUInt64 63)).toInt64), (0, .ref a_t), (1, .int p0), (2, .int p1)]) hx hb d_DrawSets_has_26 rfl hl (by decide) rfl (fun ls hl => ?_)
    refine lv_lload_n hx hb d_DrawSets_has_27 rfl (lv_at hl 0 rfl) ?_
    refine lv_lconst (v := (1 : Int64)) hx hb d_DrawSets_has_28 (by decide) ?_
    refine lv_land hx hb d_DrawSets_has_29 ?_
    refine lv_lconst (v := (0 : Int64)) hx hb d_DrawSets_has_30 (by decide) ?_
    refine W.lcmp hx hb d_DrawSets_has_31 ?_
    refine lv_if_eq (tgt := 39) hx hb d_DrawSets_has_32 (by decide) (fun c_5 => ?_) (fun c_5 => ?_)
    · have h := it_e c_5 h
      refine lv_iconst (v := (0 : Int32)) hx hb d_DrawSets_has_39 (by decide) ?_
      cases h
      rw [hQ]
      exact x_zret hC hr (show narrow .boolean (.int (0 : Int32)) = .int (0 : Int32) from rfl) hW d_DrawSets_has_40
    · have h := ie_e c_5 h
      refine lv_iconst (v := (1 : Int32)) hx hb d_DrawSets_has_35 (by decide) ?_
      refine lv_goto (tgt := 40) hx hb d_DrawSets_has_36 (by decide) ?_
      cases h
      rw [hQ]
      exact x_zret hC hr (show narrow .boolean (.int (1 : Int32)) = .int (1 : Int32) from rfl) hW d_DrawSets_has_40

def L_Main_commonDivisor_2 (x0 : Int32) (x1 : Int32) : Nat → Int32 → Option (Except (Int32) (Int32))
  | 0, _ => none
  | n + 1, x2 => if x2 ≤ (1 : Int32) then some (.ok (x2)) else dz x2 (if (x0 - x0 / x2 * x2) = (0 : Int32) then dz x2 (if (x1 - x1 / x2 * x2) = (0 : Int32) then some (.error (x2)) else L_Main_commonDivisor_2 x0 x1 n (x2 + (-1 : Int32))) else L_Main_commonDivisor_2 x0 x1 n (x2 + (-1 : Int32)))
def f_Main_commonDivisor (p0 : Int32) (p1 : Int32) : Option (Int32) :=
  lm1 (L_Main_commonDivisor_2 p0 p1 300 p1) fun yx2_6 => some ((1 : Int32))
set_option maxHeartbeats 4000000 in
set_option maxRecDepth 100000 in
theorem c_Main_commonDivisor (l : Launch) (D : va_G) (I J Z : ClassId)    (p0 : Int32) (p1 : Int32) (out : (Int32)) (h : f_Main_commonDivisor p0 p1 = some out) : CT l D I J Z y_Main_commonDivisor b_Main_commonDivisor 3 (some .int) 1 [.int p0, .int p1] [] (PoI out D []) := by
  unfold f_Main_commonDivisor at h
  refine CT_of R_Main (by decide +kernel) rfl (Nat.le_of_ble_eq_true rfl) ?_
  intro p e R s m args below meth c A ls Q hR1 hR2 hQ hC hr hW hA hl
  have hx := hC.1
  have hb := hC.2.1
  have hl : lv_has ls 3 [(0, .int p0), (1, .int p1)] := hl
  have lp2 : ∀ (n : Nat) (x0 : Int32) (x1 : Int32) (x2 : Int32) (res : Except (Int32) (Int32)), L_Main_commonDivisor_2 x0 x1 n x2 = some res → (∀ r, res = .error r → r = out) →
    (∀ (yx2 : Int32), res = .ok (yx2) → ∀ H locs, Wd D A s.heap [] H locs → ∀ ls, lv_has ls 3 [(0, .int x0), (1, .int x1), (2, .int yx2)] → W p l e R s m args below meth c H locs 0 0 Q (F0 m 27 ls [])) →
    ∀ H locs, Wd D A s.heap [] H locs → ∀ ls, lv_has ls 3 [(0, .int x0), (1, .int x1), (2, .int x2)] → W p l e R s m args below meth c H locs 0 0 Q (F0 m 2 ls []) := by
    intro n
    induction n with
    | zero =>
      intro x0 x1 x2 res h
      exact no_e h
    | succ n ih =>
      intro x0 x1 x2 res h hret K H locs hW ls hl
      rw [L_Main_commonDivisor_2] at h
      refine lv_iload_n hx hb d_Main_commonDivisor_2 rfl (lv_at hl 2 rfl) ?_
      refine lv_iconst (v := (1 : Int32)) hx hb d_Main_commonDivisor_3 (by decide) ?_
      refine lv_icmp_le (tgt := 27) hx hb d_Main_commonDivisor_4 (by decide) (fun c_1 => ?_) (fun c_1 => ?_)
      · have h := it_e c_1 h
        cases h
        exact K _ rfl _ _ hW ls (lv_sub hl [0, 1, 2] rfl)
      · have h := ie_e c_1 h
        refine lv_iload_n hx hb d_Main_commonDivisor_7 rfl (lv_at hl 0 rfl) ?_
        refine lv_iload_n hx hb d_Main_commonDivisor_8 rfl (lv_at hl 2 rfl) ?_
        obtain ⟨hz_2, h⟩ := dz_e h
        refine lv_irem hx hb d_Main_commonDivisor_9 hz_2 ?_
        refine lv_if_ne (tgt := 21) hx hb d_Main_commonDivisor_10 (by decide) (fun c_3 => ?_) (fun c_3 => ?_)
        · have h := ie_e c_3 h
          refine lv_iinc (v := (x2 + (-1 : Int32))) (lv' := [(2, .int (x2 + (-1 : Int32))), (0, .int x0), (1, .int x1)]) hx hb d_Main_commonDivisor_21 hl (k := 2) rfl (iinc_e (by decide)) (by decide) rfl (fun ls hl => ?_)
          refine lv_goto (tgt := 2) hx hb d_Main_commonDivisor_24 (by decide) ?_
          exact ih x0 x1 (x2 + (-1 : Int32)) _ h hret K _ _ hW ls (lv_sub hl [1, 2, 0] rfl)
        · have h := it_e c_3 h
          refine lv_iload_n hx hb d_Main_commonDivisor_13 rfl (lv_at hl 1 rfl) ?_
          refine lv_iload_n hx hb d_Main_commonDivisor_14 rfl (lv_at hl 2 rfl) ?_
          obtain ⟨hz_4, h⟩ := dz_e h
          refine lv_irem hx hb d_Main_commonDivisor_15 hz_4 ?_
          refine lv_if_ne (tgt := 21) hx hb d_Main_commonDivisor_16 (by decide) (fun c_5 => ?_) (fun c_5 => ?_)
          · have h := ie_e c_5 h
            refine lv_iinc (v := (x2 + (-1 : Int32))) (lv' := [(2, .int (x2 + (-1 : Int32))), (0, .int x0), (1, .int x1)]) hx hb d_Main_commonDivisor_21 hl (k := 2) rfl (iinc_e (by decide)) (by decide) rfl (fun ls hl => ?_)
            refine lv_goto (tgt := 2) hx hb d_Main_commonDivisor_24 (by decide) ?_
            exact ih x0 x1 (x2 + (-1 : Int32)) _ h hret K _ _ hW ls (lv_sub hl [1, 2, 0] rfl)
          · have h := it_e c_5 h
            refine lv_iload_n hx hb d_Main_commonDivisor_19 rfl (lv_at hl 2 rfl) ?_
            cases h
            cases hret _ rfl
            rw [hQ]
            exact x_iret hC hr hW d_Main_commonDivisor_20
  refine lv_iload_n hx hb d_Main_commonDivisor_0 rfl (lv_at hl 1 rfl) ?_
  refine lv_istore_n (lv' := [(2, .int p1), (0, .int p0), (1, .int p1)]) hx hb d_Main_commonDivisor_1 rfl hl (by decide) rfl (fun ls hl => ?_)
  obtain ⟨res_6, hv_6, he_6, hk_6⟩ := lm1_e h
  refine lp2 _ p0 p1 p1 res_6 hv_6 he_6 (fun yx2_6 hs_6 H locs hW ls hl => ?_) _ _ hW ls (lv_sub hl [1, 2, 0] rfl)
  have h := hk_6 yx2_6 hs_6
  refine lv_iconst (v := (1 : Int32)) hx hb d_Main_commonDivisor_27 (by decide) ?_
  cases h
  rw [hQ]
  exact x_iret hC hr hW d_Main_commonDivisor_28

def f_Main_tellFraction (p0 : Int32) (p1 : Int32) (p2 : Int32) : Option (Int64) :=
  bk1 (f_Main_commonDivisor p0 p1) fun r_1 => bk1 (f_Main_isWithin p2 (0 : Int32) (1 : Int32)) fun r_2 => if r_2 = (0 : Int32) then some ((-1000000000000000002 : Int64)) else if (1 : Int32) ≤ r_1 then if p2 = (0 : Int32) then dz r_1 (some ((p0 / r_1).toInt64)) else dz r_1 (some ((p1 / r_1).toInt64)) else some ((-1000000000000000002 : Int64))
set_option maxHeartbeats 4000000 in
set_option maxRecDepth 100000 in
theorem c_Main_tellFraction (l : Launch) (D : va_G) (I J Z : ClassId)    (p0 : Int32) (p1 : Int32) (p2 : Int32) (out : (Int64)) (h : f_Main_tellFraction p0 p1 p2 = some out) : CT l D I J Z y_Main_tellFraction b_Main_tellFraction 4 (some .long) 2 [.int p0, .int p1, .int p2] [] (PoL out D []) := by
  unfold f_Main_tellFraction at h
  refine CT_of R_Main (by decide +kernel) rfl (Nat.le_of_ble_eq_true rfl) ?_
  intro p e R s m args below meth c A ls Q hR1 hR2 hQ hC hr hW hA hl
  have hx := hC.1
  have hb := hC.2.1
  have hl : lv_has ls 4 [(0, .int p0), (1, .int p1), (2, .int p2)] := hl
  refine lv_iload_n hx hb d_Main_tellFraction_0 rfl (lv_at hl 0 rfl) ?_
  refine lv_iload_n hx hb d_Main_tellFraction_1 rfl (lv_at hl 1 rfl) ?_
  obtain ⟨r_1, hc_1, h⟩ := bk1_e h
  refine x_ci (ws' := []) (x_runS (rest := []) hC hW (c_Main_commonDivisor l D I J Z p0 p1 (r_1) hc_1) cl_Main_235 q_code_Main_commonDivisor [] rfl (by decide) rfl hl.1 (Nat.le_of_ble_eq_true rfl) (rm_ok hR1 hR2 (by decide) (by decide)) ⟨Nat.zero_le _, Nat.zero_le _⟩ d_Main_tellFraction_2) hW hA [] rfl rfl (ps := []) (by decide +kernel) trivial (fun H locs hW => ?_)
  refine lv_istore_n (lv' := [(3, .int r_1), (0, .int p0), (1, .int p1), (2, .int p2)]) hx hb d_Main_tellFraction_5 rfl hl (by decide) rfl (fun ls hl => ?_)
  refine lv_iload_n hx hb d_Main_tellFraction_6 rfl (lv_at hl 3 rfl) ?_
  refine lv_iconst (v := (0 : Int32)) hx hb d_Main_tellFraction_7 (by decide) ?_
  refine lv_iconst (v := (1 : Int32)) hx hb d_Main_tellFraction_8 (by decide) ?_
  obtain ⟨r_2, hc_2, h⟩ := bk1_e h
  refine x_ci (ws' := []) (x_runS (rest := []) hC hW (c_Main_isWithin l D I J Z p2 (0 : Int32) (1 : Int32) (r_2) hc_2) cl_Main_44 q_code_Main_isWithin [] rfl (by decide) rfl hl.1 (Nat.le_of_ble_eq_true rfl) (rm_ok hR1 hR2 (by decide) (by decide)) ⟨Nat.zero_le _, Nat.zero_le _⟩ d_Main_tellFraction_9) hW hA [] rfl rfl (ps := []) (by decide +kernel) trivial (fun H locs hW => ?_)
  refine lv_if_eq (tgt := 20) hx hb d_Main_tellFraction_12 (by decide) (fun c_3 => ?_) (fun c_3 => ?_)
  · have h := it_e c_3 h
    refine x_ldc2 hC q_con_Main_238 d_Main_tellFraction_20 ?_
    cases h
    rw [hQ]
    exact x_lret hC hr hW d_Main_tellFraction_23
  · have h := ie_e c_3 h
    refine lv_iload_n hx hb d_Main_tellFraction_15 rfl (lv_at hl 0 rfl) ?_
    refine lv_iconst (v := (1 : Int32)) hx hb d_Main_tellFraction_16 (by decide) ?_
    refine lv_icmp_ge (tgt := 24) hx hb d_Main_tellFraction_17 (by decide) (fun c_4 => ?_) (fun c_4 => ?_)
    · have h := it_e c_4 h
      refine lv_iload_n hx hb d_Main_tellFraction_24 rfl (lv_at hl 3 rfl) ?_
      refine lv_if_ne (tgt := 35) hx hb d_Main_tellFraction_25 (by decide) (fun c_5 => ?_) (fun c_5 => ?_)
      · have h := ie_e c_5 h
        refine lv_iload_n hx hb d_Main_tellFraction_35 rfl (lv_at hl 2 rfl) ?_
        refine lv_iload_n hx hb d_Main_tellFraction_36 rfl (lv_at hl 0 rfl) ?_
        obtain ⟨hz_6, h⟩ := dz_e h
        refine lv_idiv hx hb d_Main_tellFraction_37 hz_6 ?_
        refine lv_i2l hx hb d_Main_tellFraction_38 rfl ?_
        cases h
        rw [hQ]
        exact x_lret hC hr hW d_Main_tellFraction_39
      · have h := it_e c_5 h
        refine lv_iload_n hx hb d_Main_tellFraction_28 rfl (lv_at hl 1 rfl) ?_
        refine lv_iload_n hx hb d_Main_tellFraction_29 rfl (lv_at hl 0 rfl) ?_
        obtain ⟨hz_7, h⟩ := dz_e h
        refine lv_idiv hx hb d_Main_tellFraction_30 hz_7 ?_
        refine lv_i2l hx hb d_Main_tellFraction_31 rfl ?_
        refine lv_goto (tgt := 39) hx hb d_Main_tellFraction_32 (by decide) ?_
        cases h
        rw [hQ]
        exact x_lret hC hr hW d_Main_tellFraction_39
    · have h := ie_e c_4 h
      refine x_ldc2 hC q_con_Main_238 d_Main_tellFraction_20 ?_
      cases h
      rw [hQ]
      exact x_lret hC hr hW d_Main_tellFraction_23

def L_Row_copyFrom_2 (N_p0 : Nat) (N_t : Nat) (v_p0_cells : Nat → Int32) : Nat → Int32 → (Nat → Int32) → Option (Int32 × (Nat → Int32))
  | 0, _, _ => none
  | n + 1, x2, v_t_cells => if (nI N_t) ≤ x2 then some (x2, v_t_cells) else bk1 (f_Row_at N_p0 v_p0_cells x2) fun r_2 => bk1 (f_Row_put N_t v_t_cells x2 r_2) fun w_3_0 => L_Row_copyFrom_2 N_p0 N_t v_p0_cells n (x2 + (1 : Int32)) w_3_0
def f_Row_copyFrom (N_p0 : Nat) (N_t : Nat) (v_p0_cells : Nat → Int32) (v_t_cells : Nat → Int32) : Option ((Nat → Int32)) :=
  bk2 (L_Row_copyFrom_2 N_p0 N_t v_p0_cells 300 (0 : Int32) v_t_cells) fun yx2_4 y_t_cells_4 => some (y_t_cells_4)
set_option maxHeartbeats 4000000 in
set_option maxRecDepth 100000 in
theorem c_Row_copyFrom (l : Launch) (D : va_G) (I J Z : ClassId) (a_p0 : Nat) (a_p0_cells : Nat) (a_t : Nat) (a_t_cells : Nat) (N_p0 : Nat) (N_t : Nat) (v_p0_cells : Nat → Int32) (v_t_cells : Nat → Int32)  (out : ((Nat → Int32))) (h : f_Row_copyFrom N_p0 N_t v_p0_cells v_t_cells = some out) : CT l D I J Z y_Row_copyFrom b_Row_copyFrom 3 none 2 [.ref a_t, .ref a_p0] [(a_p0, .inr (5, [.ref a_p0_cells])), (a_p0_cells, .inl (I, N_p0, .inl v_p0_cells)), (a_t, .inr (5, [.ref a_t_cells])), (a_t_cells, .inl (I, N_t, .inl v_t_cells))] (PoV D [(a_p0, .inr (5, [.ref a_p0_cells])), (a_p0_cells, .inl (I, N_p0, .inl v_p0_cells)), (a_t, .inr (5, [.ref a_t_cells])), (a_t_cells, .inl (I, N_t, .inl out))]) := by
  unfold f_Row_copyFrom at h
  refine CT_of R_Row (by decide +kernel) rfl (Nat.le_of_ble_eq_true rfl) ?_
  intro p e R s m args below meth c A ls Q hR1 hR2 hQ hC hr hW hA hl
  have hx := hC.1
  have hb := hC.2.1
  have hl : lv_has ls 3 [(0, .ref a_t), (1, .ref a_p0)] := hl
  have lp2 : ∀ (n : Nat) (x2 : Int32) (v_t_cells : Nat → Int32) (yx2 : Int32) (y_t_cells : Nat → Int32), L_Row_copyFrom_2 N_p0 N_t v_p0_cells n x2 v_t_cells = some (yx2, y_t_cells) →
    (∀ H locs, Wd D A s.heap [(a_p0, .inr (5, [.ref a_p0_cells])), (a_p0_cells, .inl (I, N_p0, .inl v_p0_cells)), (a_t, .inr (5, [.ref a_t_cells])), (a_t_cells, .inl (I, N_t, .inl y_t_cells))] H locs → ∀ ls, lv_has ls 3 [(0, .ref a_t), (1, .ref a_p0), (2, .int yx2)] → W p l e R s m args below meth c H locs 0 0 Q (F0 m 27 ls [])) →
    ∀ H locs, Wd D A s.heap [(a_p0, .inr (5, [.ref a_p0_cells])), (a_p0_cells, .inl (I, N_p0, .inl v_p0_cells)), (a_t, .inr (5, [.ref a_t_cells])), (a_t_cells, .inl (I, N_t, .inl v_t_cells))] H locs → ∀ ls, lv_has ls 3 [(0, .ref a_t), (1, .ref a_p0), (2, .int x2)] → W p l e R s m args below meth c H locs 0 0 Q (F0 m 2 ls []) := by
    intro n
    induction n with
    | zero =>
      intro x2 v_t_cells yx2 y_t_cells h
      exact no_e h
    | succ n ih =>
      intro x2 v_t_cells yx2 y_t_cells h K H locs hW ls hl
      rw [L_Row_copyFrom_2] at h
      refine lv_iload_n hx hb d_Row_copyFrom_2 rfl (lv_at hl 2 rfl) ?_
      refine lv_aload_n hx hb d_Row_copyFrom_3 rfl (lv_at hl 0 rfl) ?_
      refine x_get hC hW 2 rfl fl_Row_13 rfl d_Row_copyFrom_4 ?_
      refine x_alenI hC hW 3 rfl d_Row_copyFrom_7 ?_
      refine lv_icmp_ge (tgt := 27) hx hb d_Row_copyFrom_8 (by decide) (fun c_1 => ?_) (fun c_1 => ?_)
      · have h := it_e c_1 h
        cases h
        exact K _ _ hW ls (lv_sub hl [0, 1, 2] rfl)
      · have h := ie_e c_1 h
        refine lv_aload_n hx hb d_Row_copyFrom_11 rfl (lv_at hl 0 rfl) ?_
        refine lv_iload_n hx hb d_Row_copyFrom_12 rfl (lv_at hl 2 rfl) ?_
        refine lv_aload_n hx hb d_Row_copyFrom_13 rfl (lv_at hl 1 rfl) ?_
        refine lv_iload_n hx hb d_Row_copyFrom_14 rfl (lv_at hl 2 rfl) ?_
        obtain ⟨r_2, hc_2, h⟩ := bk1_e h
        refine x_ci (ws' := [(a_p0, .inr (5, [.ref a_p0_cells])), (a_p0_cells, .inl (I, N_p0, .inl v_p0_cells)), (a_t, .inr (5, [.ref a_t_cells])), (a_t_cells, .inl (I, N_t, .inl v_t_cells))]) (x_runV (As := [.int x2]) (rest := [.int x2, .ref a_t]) hC hW (c_Row_at l D I J Z a_p0 a_p0_cells N_p0 v_p0_cells x2 (r_2) hc_2) cl_Row_19 q_code_Row_at [0, 1] rfl (by decide) 0 rfl rfl rfl rfl hl.1 (Nat.le_of_ble_eq_true rfl) (rm_ok hR1 hR2 (by decide) (by decide)) ⟨Nat.zero_le _, Nat.zero_le _⟩ d_Row_copyFrom_15) hW hA [0, 1] rfl rfl (ps := [some 0, some 1, none, none]) (by decide +kernel) ⟨rfl, rfl, rfl, rfl, trivial⟩ (fun H locs hW => ?_)
        obtain ⟨w_3_0, hc_3, h⟩ := bk1_e h
        refine x_cv (ws' := [(a_p0, .inr (5, [.ref a_p0_cells])), (a_p0_cells, .inl (I, N_p0, .inl v_p0_cells)), (a_t, .inr (5, [.ref a_t_cells])), (a_t_cells, .inl (I, N_t, .inl w_3_0))]) (x_runV (As := [.int x2, .int r_2]) (rest := []) hC hW (c_Row_put l D I J Z a_t a_t_cells N_t v_t_cells x2 r_2 (w_3_0) hc_3) cl_Row_23 q_code_Row_put [2, 3] rfl (by decide) 2 rfl rfl rfl rfl hl.1 (Nat.le_of_ble_eq_true rfl) (rm_ok hR1 hR2 (by decide) (by decide)) ⟨Nat.zero_le _, Nat.zero_le _⟩ d_Row_copyFrom_18) hW hA [2, 3] rfl rfl (ps := [none, none, some 0, some 1]) (by decide +kernel) ⟨rfl, rfl, rfl, rfl, trivial⟩ (fun H locs hW => ?_)
        refine lv_iinc (v := (x2 + (1 : Int32))) (lv' := [(2, .int (x2 + (1 : Int32))), (0, .ref a_t), (1, .ref a_p0)]) hx hb d_Row_copyFrom_21 hl (k := 2) rfl (iinc_e (by decide)) (by decide) rfl (fun ls hl => ?_)
        refine lv_goto (tgt := 2) hx hb d_Row_copyFrom_24 (by decide) ?_
        exact ih (x2 + (1 : Int32)) w_3_0 _ _ h K _ _ hW ls (lv_sub hl [1, 2, 0] rfl)
  refine lv_iconst (v := (0 : Int32)) hx hb d_Row_copyFrom_0 (by decide) ?_
  refine lv_istore_n (lv' := [(2, .int (0 : Int32)), (0, .ref a_t), (1, .ref a_p0)]) hx hb d_Row_copyFrom_1 rfl hl (by decide) rfl (fun ls hl => ?_)
  obtain ⟨yx2_4, y_t_cells_4, hv_4, h⟩ := bk2_e h
  refine lp2 _ (0 : Int32) v_t_cells yx2_4 y_t_cells_4 hv_4 (fun H locs hW ls hl => ?_) _ _ hW ls (lv_sub hl [1, 2, 0] rfl)
  cases h
  rw [hQ]
  exact x_vret hC hr hW d_Row_copyFrom_27
