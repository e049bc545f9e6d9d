abbrev rmX3_init : Room := { frames := 1, cells := 0, slots := 0, locals := 13 }
set_option maxHeartbeats 4000000 in
set_option maxRecDepth 100000 in
theorem qX3_init (l : Launch) {M : zM} {h0 : Nat} {x1 : Int32} (hM : M h0 = some (.inr (3, [.int 0, .int 0, .int 0, .int 0]))) : zMet l yX3_init cX3_init 2 none rmX3_init [.ref h0, .int x1] M (fun v M' => v = none ∧ M' = zUp M h0 (.inr (3, [.int x1, .int (1), .int (0), .int (0)]))) := by
  refine zMet.ofZ (vs := [some (.ref h0), some (.int x1)]) (by decide) rfl (zCt_of _ ⟨rfl, ⟨rfl, trivial⟩⟩) (Nat.le_of_ble_eq_true rfl) (fun D => ?_)
  refine Z_aload_n (i := 0) (pc' := 1) dX3_init_0 rfl rfl rfl ?_
  refine Z_objInit (pc' := 4) mlX3_1 (Nat.le_of_ble_eq_true rfl) (Nat.le_of_ble_eq_true rfl) dX3_init_1 rfl ?_
  refine Z_aload_n (i := 0) (pc' := 5) dX3_init_4 rfl rfl rfl ?_
  refine Z_iconst (v := 1) (pc' := 6) dX3_init_5 (by decide) rfl ?_
  refine Z_put (fs' := [.int 0, .int (1), .int 0, .int 0]) (pc' := 9) 1 zinX3 tyX3_ok nmX3 rfl (by decide) lkX3_7 rfl hM rfl rfl rfl (Nat.le_of_ble_eq_true rfl) rfl dX3_init_6 rfl ?_
  refine Z_aload_n (i := 0) (pc' := 10) dX3_init_9 rfl rfl rfl ?_
  refine Z_iconst (v := 0) (pc' := 11) dX3_init_10 (by decide) rfl ?_
  refine Z_put (fs' := [.int 0, .int (1), .int (0), .int 0]) (pc' := 14) 2 zinX3 tyX3_ok nmX3 rfl (by decide) lkX3_13 rfl zUp_self rfl rfl rfl (Nat.le_of_ble_eq_true rfl) rfl dX3_init_11 rfl ?_
  refine Z_mem zUp_zUp ?_
  refine Z_aload_n (i := 0) (pc' := 15) dX3_init_14 rfl rfl rfl ?_
  refine Z_iconst (v := 0) (pc' := 16) dX3_init_15 (by decide) rfl ?_
  refine Z_put (fs' := [.int 0, .int (1), .int (0), .int (0)]) (pc' := 19) 3 zinX3 tyX3_ok nmX3 rfl (by decide) lkX3_17 rfl zUp_self rfl rfl rfl (Nat.le_of_ble_eq_true rfl) rfl dX3_init_16 rfl ?_
  refine Z_mem zUp_zUp ?_
  refine Z_aload_n (i := 0) (pc' := 20) dX3_init_19 rfl rfl rfl ?_
  refine Z_iload_n (i := 1) (pc' := 21) dX3_init_20 rfl rfl rfl ?_
  refine Z_putF (fs' := [.int x1, .int (1), .int (0), .int (0)]) (pc' := 24) 0 zinX3 tyX3_ok nmX3 rfl (by decide) lkX3_20 rfl rfl rfl zUp_self rfl rfl rfl (Nat.le_of_ble_eq_true rfl) rfl dX3_init_21 rfl ?_
  refine Z_mem zUp_zUp ?_
  exact Z_vret dX3_init_24 rfl (Nat.zero_le _) (Nat.zero_le _) ⟨rfl, rfl⟩
abbrev rmX1_init : Room := { frames := 1, cells := 0, slots := 0, locals := 13 }
set_option maxHeartbeats 4000000 in
set_option maxRecDepth 100000 in
theorem qX1_init (l : Launch) {M : zM} {h0 : Nat} {x1 x2 x3 x4 : Int32} (hM : M h0 = some (.inr (1, [.int 0, .int 0, .int 0, .int 0, .int 0, .int 0, .int 0, .int 0]))) : zMet l yX1_init cX1_init 5 none rmX1_init [.ref h0, .int x1, .int x2, .int x3, .int x4] M (fun v M' => v = none ∧ M' = zUp M h0 (.inr (1, [.int x1, .int x2, .int x3, .int x4, .int (0), .int (0), .int (-1), .int (0)]))) := by
  refine zMet.ofZ (vs := [some (.ref h0), some (.int x1), some (.int x2), some (.int x3), some (.int x4)]) (by decide) rfl (zCt_of _ ⟨rfl, ⟨rfl, ⟨rfl, ⟨rfl, ⟨rfl, trivial⟩⟩⟩⟩⟩) (Nat.le_of_ble_eq_true rfl) (fun D => ?_)
  refine Z_aload_n (i := 0) (pc' := 1) dX1_init_0 rfl rfl rfl ?_
  refine Z_objInit (pc' := 4) mlX1_3 (Nat.le_of_ble_eq_true rfl) (Nat.le_of_ble_eq_true rfl) dX1_init_1 rfl ?_
  refine Z_aload_n (i := 0) (pc' := 5) dX1_init_4 rfl rfl rfl ?_
  refine Z_iconst (v := 0) (pc' := 6) dX1_init_5 (by decide) rfl ?_
  refine Z_put (fs' := [.int 0, .int 0, .int 0, .int 0, .int (0), .int 0, .int 0, .int 0]) (pc' := 9) 4 zinX1 tyX1_ok nmX1 rfl (by decide) lkX1_9 rfl hM rfl rfl rfl (Nat.le_of_ble_eq_true rfl) rfl dX1_init_6 rfl ?_
  refine Z_aload_n (i := 0) (pc' := 10) dX1_init_9 rfl rfl rfl ?_
  refine Z_iconst (v := 0) (pc' := 11) dX1_init_10 (by decide) rfl ?_
  refine Z_put (fs' := [.int 0, .int 0, .int 0, .int 0, .int (0), .int (0), .int 0, .int 0]) (pc' := 14) 5 zinX1 tyX1_ok nmX1 rfl (by decide) lkX1_15 rfl zUp_self rfl rfl rfl (Nat.le_of_ble_eq_true rfl) rfl dX1_init_11 rfl ?_
  refine Z_mem zUp_zUp ?_
  refine Z_aload_n (i := 0) (pc' := 15) dX1_init_14 rfl rfl rfl ?_
  refine Z_iconst (v := -1) (pc' := 16) dX1_init_15 (by decide) rfl ?_
  refine Z_put (fs' := [.int 0, .int 0, .int 0, .int 0, .int (0), .int (0), .int (-1), .int 0]) (pc' := 19) 6 zinX1 tyX1_ok nmX1 rfl (by decide) lkX1_18 rfl zUp_self rfl rfl rfl (Nat.le_of_ble_eq_true rfl) rfl dX1_init_16 rfl ?_
  refine Z_mem zUp_zUp ?_
  refine Z_aload_n (i := 0) (pc' := 20) dX1_init_19 rfl rfl rfl ?_
  refine Z_iconst (v := 0) (pc' := 21) dX1_init_20 (by decide) rfl ?_
  refine Z_put (fs' := [.int 0, .int 0, .int 0, .int 0, .int (0), .int (0), .int (-1), .int (0)]) (pc' := 24) 7 zinX1 tyX1_ok nmX1 rfl (by decide) lkX1_21 rfl zUp_self rfl rfl rfl (Nat.le_of_ble_eq_true rfl) rfl dX1_init_21 rfl ?_
  refine Z_mem zUp_zUp ?_
  refine Z_aload_n (i := 0) (pc' := 25) dX1_init_24 rfl rfl rfl ?_
  refine Z_iload_n (i := 1) (pc' := 26) dX1_init_25 rfl rfl rfl ?_
  refine Z_put (fs' := [.int x1, .int 0, .int 0, .int 0, .int (0), .int (0), .int (-1), .int (0)]) (pc' := 29) 0 zinX1 tyX1_ok nmX1 rfl (by decide) lkX1_25 rfl zUp_self rfl rfl rfl (Nat.le_of_ble_eq_true rfl) rfl dX1_init_26 rfl ?_
  refine Z_mem zUp_zUp ?_
  refine Z_aload_n (i := 0) (pc' := 30) dX1_init_29 rfl rfl rfl ?_
  refine Z_iload_n (i := 2) (pc' := 31) dX1_init_30 rfl rfl rfl ?_
  refine Z_put (fs' := [.int x1, .int x2, .int 0, .int 0, .int (0), .int (0), .int (-1), .int (0)]) (pc' := 34) 1 zinX1 tyX1_ok nmX1 rfl (by decide) lkX1_28 rfl zUp_self rfl rfl rfl (Nat.le_of_ble_eq_true rfl) rfl dX1_init_31 rfl ?_
  refine Z_mem zUp_zUp ?_
  refine Z_aload_n (i := 0) (pc' := 35) dX1_init_34 rfl rfl rfl ?_
  refine Z_iload_n (i := 3) (pc' := 36) dX1_init_35 rfl rfl rfl ?_
  refine Z_putF (fs' := [.int x1, .int x2, .int x3, .int 0, .int (0), .int (0), .int (-1), .int (0)]) (pc' := 39) 2 zinX1 tyX1_ok nmX1 rfl (by decide) lkX1_31 rfl rfl rfl zUp_self rfl rfl rfl (Nat.le_of_ble_eq_true rfl) rfl dX1_init_36 rfl ?_
  refine Z_mem zUp_zUp ?_
  refine Z_aload_n (i := 0) (pc' := 40) dX1_init_39 rfl rfl rfl ?_
  refine Z_iload (i := 4) (pc' := 42) dX1_init_40 rfl rfl ?_
  refine Z_putF (fs' := [.int x1, .int x2, .int x3, .int x4, .int (0), .int (0), .int (-1), .int (0)]) (pc' := 45) 3 zinX1 tyX1_ok nmX1 rfl (by decide) lkX1_34 rfl rfl rfl zUp_self rfl rfl rfl (Nat.le_of_ble_eq_true rfl) rfl dX1_init_42 rfl ?_
  refine Z_mem zUp_zUp ?_
  exact Z_vret dX1_init_45 rfl (Nat.zero_le _) (Nat.zero_le _) ⟨rfl, rfl⟩
