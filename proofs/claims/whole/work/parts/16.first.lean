/-- the first game -/
def gI : Nat → Nat → Nat := fun x y => if x = 0 then (if y = 0 then 7 else if y = 1 then 3 else if y = 2 then 3 else if y = 3 then 2 else 0) else 0
theorem GV_I : GV gI := ⟨by decide, by decide, by decide, by decide, by decide, by decide, by decide, by decide, by decide, by decide, by rw [show pc (gI 0 4) = 0 from pc_0]; exact Nat.zero_le _, by decide, by decide, no_lt, fun i _ => Nat.zero_le _, no_lt⟩
theorem init0 : Init0 Inv := by
  have hne : 0 < (sets 3 0 (2 ^ 7)).length := Po_ne GV_I
  have zg := takeGame_e (n := 7) (t := 3) (d := 3) (r := 2) (fo := 0) (od := fun _ => 0) (os := fun _ => 0) (oh := fun _ => 0) (ol := fun _ => 0) (by decide) (by decide) (by decide) (by decide) (by decide) hne
  have zf := findAll_e (n := 7) (t := 3) (d := 3) (r := 2) (od := fun _ => 0) (os := fun _ => 0) (oh := fun _ => 0) (ol := fun _ => 0) (by decide) (by decide) (by decide) (by decide)
  have hx : f_Main_init = bk12 (f_Wheel_takeGame (3 : Int32) (0 : Int32) (7 : Int32) (2 : Int32) (3 : Int32) (fun _ => 0) (fun _ => 0) (fun _ => 0) (fun _ => 0)) fun w_6_0 w_6_1 w_6_2 w_6_3 w_6_4 w_6_5 w_6_6 w_6_7 w_6_8 w_6_9 w_6_10 w_6_11 => some ((3 : Int32), (0 : Int32), (7 : Int32), (2 : Int32), (0 : Int32), (3 : Int32), (0 : Int32), (3 : Int32), (0 : Int32), (7 : Int32), (2 : Int32), (0 : Int32), (3 : Int32), (0 : Int32), (3 : Int32), (0 : Int32), (7 : Int32), (2 : Int32), (0 : Int32), (3 : Int32), (0 : Int32), w_6_0, w_6_1, w_6_2, w_6_3, w_6_4, w_6_5, w_6_6, w_6_7, w_6_8, w_6_9, w_6_10, w_6_11) := by
    unfold f_Main_init f_Image_init f_Play_init f_Play_begin f_Play_dropTickets
    simp only [bk2_s, bk7_s]
  have hm : f_Model_init = bk6 (f_Model_findAll (3 : Int32) (2 : Int32) (7 : Int32) (3 : Int32) (fun _ => 0) (fun _ => 0) (fun _ => 0) (fun _ => 0)) fun a1 a2 a3 a4 a5 a6 => some (a1, (3 : Int32), (2 : Int32), (0 : Int32), (7 : Int32), (3 : Int32), a2, (0 : Int32), (0 : Int32), a3, a4, a5, a6) := by
    unfold f_Model_init f_Model_begin
    cases f_Model_findAll (3 : Int32) (2 : Int32) (7 : Int32) (3 : Int32) (fun _ => 0) (fun _ => 0) (fun _ => 0) (fun _ => 0) with
    | none => rfl
    | some x => rfl
  rw [show f_Wheel_takeGame (3 : Int32) (0 : Int32) (7 : Int32) (2 : Int32) (3 : Int32) (fun _ => 0) (fun _ => 0) (fun _ => 0) (fun _ => 0) = _ from zg, bk12_s] at hx
  rw [show f_Model_findAll (3 : Int32) (2 : Int32) (7 : Int32) (3 : Int32) (fun _ => 0) (fun _ => 0) (fun _ => 0) (fun _ => 0) = _ from zf, bk6_s] at hm
  have hW := WX_new (g := gI) (N := 7) (T := 3) (D := 3) (R := 2) (F := 0) (od := fun _ => 0) (os := fun _ => 0) (oh := fun _ => 0) (ol := fun _ => 0) (hh := fun _ => 0) (hl := fun _ => 0) (r0 := fun _ => 0) (r1 := fun _ => 0) rfl rfl rfl rfl rfl no_lt rfl rfl
  have hM := MD_new (g := gI) (N := 7) (T := 3) (D := 3) (R := 2) (od := fun _ => 0) (os := fun _ => 0) (oh := fun _ => 0) (ol := fun _ => 0) rfl rfl rfl rfl
  refine ⟨_, _, hx, hm, ?_⟩
  dsimp only
  exact ⟨gI, gI, gI, fun _ => 0, 0, 0, 0, GV_I, fun _ => GV_I, fun _ => GV_I, Nat.zero_le _, Nat.zero_le _, Nat.zero_le _, no_lt, rfl, no_lt, ⟨rfl, rfl, rfl, rfl, rfl, rfl, rfl, no_lt, fun _ _ => rfl, no_lt⟩, rfl, fun h => absurd h (by decide), rfl, fun h => absurd h (by decide), hW, CK_0, CK_0, CK_0, CF_0, ⟨rfl, rfl, rfl, rfl, rfl, rfl, rfl, no_lt, fun _ _ => rfl, no_lt⟩, hM, rfl, no_lt, rfl, rfl, fun h => absurd h (by decide), fun h => absurd h (by decide)⟩
