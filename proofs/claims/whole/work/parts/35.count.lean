/-! HOW OFTEN ROWS WERE DRAWN ANEW: at most once a call -/
theorem an_self (α : a_A) : r_an α.2.2 ≤ r_an α.2.2 + 1 := Nat.le_succ _
theorem an_start (α : a_A) (x w : Int32) : r_an (o_start α x w).2.2.2 ≤ r_an α.2.2 + 1 := by
  unfold o_start
  repeat' split
  all_goals exact an_self α
theorem an_move (α : a_A) (x y w : Int32) : r_an (o_move α x y w).2.2.2 ≤ r_an α.2.2 + 1 := by
  unfold o_move
  repeat' split
  all_goals exact an_self α
theorem an_seen (α : a_A) (x y w : Int32) : r_an (o_seen α x y w).2.2.2 ≤ r_an α.2.2 + 1 := by
  unfold o_seen
  repeat' split
  all_goals exact an_self α
theorem an_named (α : a_A) (x w : Int32) : r_an (o_named α x w).2.2.2 ≤ r_an α.2.2 + 1 := by
  unfold o_named
  repeat' split
  all_goals exact an_self α
theorem an_force (α : a_A) (x : Int32) : r_an (o_force α x).2.2.2 ≤ r_an α.2.2 + 1 := by
  unfold o_force
  repeat' split
  all_goals exact an_self α
theorem an_begin (α : a_A) (x : Int32) (sd : Int64) : r_an (o_begin α x sd).2.2.2 ≤ r_an α.2.2 + 1 := by
  unfold o_begin
  repeat' split
  all_goals first | exact an_self α | exact Nat.zero_le _
theorem an_keep (α : a_A) (x : Int32) : r_an (o_keep α x).2.2.2 ≤ r_an α.2.2 + 1 := by
  unfold o_keep
  repeat' split
  all_goals exact an_self α
theorem an_write (α : a_A) (x y z : Int32) : r_an (o_write α x y z).2.2.2 ≤ r_an α.2.2 + 1 := by
  unfold o_write
  repeat' split
  all_goals exact an_self α
theorem an_clear (α : a_A) : r_an (o_clear α).2.2.2 ≤ r_an α.2.2 + 1 := Nat.zero_le _
theorem an_anew (α : a_A) (wy : Nat) : r_an (o_anew α wy).2.2.2 ≤ r_an α.2.2 + 1 := by
  unfold o_anew a_anew
  dsimp only
  repeat' split
  all_goals first | exact an_self α | exact Nat.le_refl _ | exact Nat.zero_le _
theorem an_again (α : a_A) (x : Int32) : r_an (o_again α x).2.2.2 ≤ r_an α.2.2 + 1 := by
  unfold o_again
  repeat' split
  all_goals first | exact an_anew α _ | exact an_self α
theorem an_rule (α : a_A) (x y : Int32) : r_an (o_rule α x y).2.2.2 ≤ r_an α.2.2 + 1 := by
  unfold o_rule
  repeat' split
  all_goals first | exact an_anew α _ | exact an_self α
theorem an_step (α : a_A) (x y : Int32) : r_an (o_step α x y).2.2.2 ≤ r_an α.2.2 + 1 := by
  unfold o_step a_go
  repeat' split
  all_goals first | exact an_self α | exact Nat.zero_le _
