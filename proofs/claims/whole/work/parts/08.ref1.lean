abbrev rmX8_begins : Room := { frames := 0, cells := 0, slots := 0, locals := 0 }
def r_begins_2   (σ : zS) : Option (Int32 × zS) := zl (zs σ 2 (0 : Int32).toNatClampNeg (80 : Int32)) (fun (σ1 : zS) => zl (zs σ1 2 (1 : Int32).toNatClampNeg (4 : Int32)) (fun (σ2 : zS) => zl (zs σ2 2 (2 : Int32).toNatClampNeg (2 : Int32)) (fun (σ3 : zS) => zl (zs σ3 2 (3 : Int32).toNatClampNeg (6 : Int32)) (fun (σ4 : zS) => some (0, σ4)))))
set_option maxHeartbeats 4000000 in
set_option maxRecDepth 100000 in
theorem qX8_begins_2 (l : Launch) {ad dec : Nat → Nat} (hG : rG ad dec)  {σ : zS} {w : Int32 × zS} (hF : r_begins_2  σ = some w) : zMet l yX8_begins cX8_begins 1 none rmX8_begins [.ref (ad 2)] (mR ad dec σ) (fun v M' => v = none ∧ M' = (mR ad dec w.2)) := by
  refine zMet.ofZ (vs := [some (.ref (ad 2))]) (by decide) rfl (zCt_of _ ⟨rfl, trivial⟩) (Nat.le_of_ble_eq_true rfl) (fun D => ?_)
  unfold r_begins_2 at hF
  refine Z_aload_n (i := 0) (pc' := 1) dX8_begins_0 rfl rfl rfl ?_
  refine Z_iconst (v := 0) (pc' := 2) dX8_begins_1 (by decide) rfl ?_
  refine Z_bipush (v := 80) (pc' := 4) dX8_begins_2 (by decide) rfl ?_
  obtain ⟨σ1, hσ1, hF⟩ := zl_of hF
  refine Z_iast (pc' := 5) (aR_2 hG) (zIn_in (by decide)) dX8_begins_4 rfl ?_
  refine Z_mem (sR_2 hG hσ1) ?_
  refine Z_aload_n (i := 0) (pc' := 6) dX8_begins_5 rfl rfl rfl ?_
  refine Z_iconst (v := 1) (pc' := 7) dX8_begins_6 (by decide) rfl ?_
  refine Z_iconst (v := 4) (pc' := 8) dX8_begins_7 (by decide) rfl ?_
  obtain ⟨σ2, hσ2, hF⟩ := zl_of hF
  refine Z_iast (pc' := 9) (aR_2 hG) (zIn_in (by decide)) dX8_begins_8 rfl ?_
  refine Z_mem (sR_2 hG hσ2) ?_
  refine Z_aload_n (i := 0) (pc' := 10) dX8_begins_9 rfl rfl rfl ?_
  refine Z_iconst (v := 2) (pc' := 11) dX8_begins_10 (by decide) rfl ?_
  refine Z_iconst (v := 2) (pc' := 12) dX8_begins_11 (by decide) rfl ?_
  obtain ⟨σ3, hσ3, hF⟩ := zl_of hF
  refine Z_iast (pc' := 13) (aR_2 hG) (zIn_in (by decide)) dX8_begins_12 rfl ?_
  refine Z_mem (sR_2 hG hσ3) ?_
  refine Z_aload_n (i := 0) (pc' := 14) dX8_begins_13 rfl rfl rfl ?_
  refine Z_iconst (v := 3) (pc' := 15) dX8_begins_14 (by decide) rfl ?_
  refine Z_bipush (v := 6) (pc' := 17) dX8_begins_15 (by decide) rfl ?_
  obtain ⟨σ4, hσ4, hF⟩ := zl_of hF
  refine Z_iast (pc' := 18) (aR_2 hG) (zIn_in (by decide)) dX8_begins_17 rfl ?_
  refine Z_mem (sR_2 hG hσ4) ?_
  cases hF
  exact Z_vret dX8_begins_18 rfl (Nat.le_refl _) (Nat.le_refl _) ⟨rfl, rfl⟩
def r_begins_3   (σ : zS) : Option (Int32 × zS) := zl (zs σ 3 (0 : Int32).toNatClampNeg (80 : Int32)) (fun (σ1 : zS) => zl (zs σ1 3 (1 : Int32).toNatClampNeg (4 : Int32)) (fun (σ2 : zS) => zl (zs σ2 3 (2 : Int32).toNatClampNeg (2 : Int32)) (fun (σ3 : zS) => zl (zs σ3 3 (3 : Int32).toNatClampNeg (6 : Int32)) (fun (σ4 : zS) => some (0, σ4)))))
set_option maxHeartbeats 4000000 in
set_option maxRecDepth 100000 in
theorem qX8_begins_3 (l : Launch) {ad dec : Nat → Nat} (hG : rG ad dec)  {σ : zS} {w : Int32 × zS} (hF : r_begins_3  σ = some w) : zMet l yX8_begins cX8_begins 1 none rmX8_begins [.ref (ad 3)] (mR ad dec σ) (fun v M' => v = none ∧ M' = (mR ad dec w.2)) := by
  refine zMet.ofZ (vs := [some (.ref (ad 3))]) (by decide) rfl (zCt_of _ ⟨rfl, trivial⟩) (Nat.le_of_ble_eq_true rfl) (fun D => ?_)
  unfold r_begins_3 at hF
  refine Z_aload_n (i := 0) (pc' := 1) dX8_begins_0 rfl rfl rfl ?_
  refine Z_iconst (v := 0) (pc' := 2) dX8_begins_1 (by decide) rfl ?_
  refine Z_bipush (v := 80) (pc' := 4) dX8_begins_2 (by decide) rfl ?_
  obtain ⟨σ1, hσ1, hF⟩ := zl_of hF
  refine Z_iast (pc' := 5) (aR_3 hG) (zIn_in (by decide)) dX8_begins_4 rfl ?_
  refine Z_mem (sR_3 hG hσ1) ?_
  refine Z_aload_n (i := 0) (pc' := 6) dX8_begins_5 rfl rfl rfl ?_
  refine Z_iconst (v := 1) (pc' := 7) dX8_begins_6 (by decide) rfl ?_
  refine Z_iconst (v := 4) (pc' := 8) dX8_begins_7 (by decide) rfl ?_
  obtain ⟨σ2, hσ2, hF⟩ := zl_of hF
  refine Z_iast (pc' := 9) (aR_3 hG) (zIn_in (by decide)) dX8_begins_8 rfl ?_
  refine Z_mem (sR_3 hG hσ2) ?_
  refine Z_aload_n (i := 0) (pc' := 10) dX8_begins_9 rfl rfl rfl ?_
  refine Z_iconst (v := 2) (pc' := 11) dX8_begins_10 (by decide) rfl ?_
  refine Z_iconst (v := 2) (pc' := 12) dX8_begins_11 (by decide) rfl ?_
  obtain ⟨σ3, hσ3, hF⟩ := zl_of hF
  refine Z_iast (pc' := 13) (aR_3 hG) (zIn_in (by decide)) dX8_begins_12 rfl ?_
  refine Z_mem (sR_3 hG hσ3) ?_
  refine Z_aload_n (i := 0) (pc' := 14) dX8_begins_13 rfl rfl rfl ?_
  refine Z_iconst (v := 3) (pc' := 15) dX8_begins_14 (by decide) rfl ?_
  refine Z_bipush (v := 6) (pc' := 17) dX8_begins_15 (by decide) rfl ?_
  obtain ⟨σ4, hσ4, hF⟩ := zl_of hF
  refine Z_iast (pc' := 18) (aR_3 hG) (zIn_in (by decide)) dX8_begins_17 rfl ?_
  refine Z_mem (sR_3 hG hσ4) ?_
  cases hF
  exact Z_vret dX8_begins_18 rfl (Nat.le_refl _) (Nat.le_refl _) ⟨rfl, rfl⟩
abbrev rmX8_types : Room := { frames := 0, cells := 0, slots := 0, locals := 0 }
def r_types_L2 : Nat → Int32 → Int32 → zS → Option (zS)
  | 0, _, _, _ => none
  | n + 1, x1_, x2_, σ => (if x2_ < 0 then some (σ) else (if zIn (σ 1 0) 40 = true then zl (zs σ 0 (σ 1 0).toNatClampNeg (vp_nar .byte ((x1_ >>> (((8 : Int32) * x2_) &&& 31))).toInt8.toInt32)) (fun (σ3 : zS) => zl (zs σ3 1 0 ((σ3 1 0) + (1 : Int32))) (fun (σ4 : zS) => zl (x2_ + (-1)) (fun (v5 : Int32) => (r_types_L2 n x1_ v5 σ4)))) else none))
def r_types  (x1 : Int32) (σ : zS) : Option (Int32 × zS) := ((r_types_L2 zF x1 (3 : Int32) σ).bind (fun r6 => some (0, r6)))
set_option maxHeartbeats 4000000 in
set_option maxRecDepth 100000 in
theorem qX8_types_L2 {l : Launch} {D : va_G} {M0 : zM} {Q : Option Value → zM → Prop} {ad dec : Nat → Nat} (hG : rG ad dec) : ∀ (n : Nat) (x1_ : Int32) (x2_ : Int32) (σ : zS) (r : (zS)), r_types_L2 n x1_ x2_ σ = some r → (Z l yX8_types cX8_types 3 none rmX8_types 0 0 D M0 Q 0 0 38 [none, none, none] [] (mR ad dec r)) → Z l yX8_types cX8_types 3 none rmX8_types 0 0 D M0 Q 0 0 2 [some (.ref (ad 42)), some (.int x1_), some (.int x2_)] [] (mR ad dec σ) := by
  intro n
  induction n with
  | zero =>
    intro x1_ x2_ σ r hF hE
    exact absurd (show (none : Option (zS)) = some r from hF) (by simp)
  | succ n ih =>
    intro x1_ x2_ σ r hF hE
    replace hF : (if x2_ < 0 then some (σ) else (if zIn (σ 1 0) 40 = true then zl (zs σ 0 (σ 1 0).toNatClampNeg (vp_nar .byte ((x1_ >>> (((8 : Int32) * x2_) &&& 31))).toInt8.toInt32)) (fun (σ3 : zS) => zl (zs σ3 1 0 ((σ3 1 0) + (1 : Int32))) (fun (σ4 : zS) => zl (x2_ + (-1)) (fun (v5 : Int32) => (r_types_L2 n x1_ v5 σ4)))) else none)) = some r := hF
    refine Z_iload_n (i := 2) (pc' := 3) dX8_types_2 rfl rfl rfl ?_
    refine Z_if_lt (tgt := 38) (pc' := 6) dX8_types_3 (by decide) rfl (fun h1 => ?_) (fun h1 => ?_)
    · rw [if_pos h1] at hF
      cases hF
      exact Z_sub (vs' := [none, none, none]) (zSb_of _ _ trivial) hE
    · rw [if_neg h1] at hF
      refine Z_aload_n (i := 0) (pc' := 7) dX8_types_6 rfl rfl rfl ?_
      refine Z_get (v := .ref (ad 0)) (pc' := 10) 0 zinX8 rfl (by decide) lkX8_7 (mR_obj hG) rfl dX8_types_7 rfl ?_
      refine Z_aload_n (i := 0) (pc' := 11) dX8_types_10 rfl rfl rfl ?_
      refine Z_get (v := .int (σ 1 0)) (pc' := 14) 1 zinX8 rfl (by decide) lkX8_116 (mR_obj hG) rfl dX8_types_11 rfl ?_
      refine Z_iload_n (i := 1) (pc' := 15) dX8_types_14 rfl rfl rfl ?_
      refine Z_bipush (v := 8) (pc' := 17) dX8_types_15 (by decide) rfl ?_
      refine Z_iload_n (i := 2) (pc' := 18) dX8_types_17 rfl rfl rfl ?_
      refine Z_imul (pc' := 19) dX8_types_18 rfl ?_
      refine Z_ishr (pc' := 20) dX8_types_19 rfl ?_
      refine Z_i2b (pc' := 21) dX8_types_20 rfl ?_
      obtain ⟨h2, hF⟩ := ck_of hF
      obtain ⟨σ3, hσ3, hF⟩ := zl_of hF
      refine Z_bast (pc' := 22) (aR_0 hG) (zIn_in h2) dX8_types_21 rfl ?_
      refine Z_mem (sR_0 hG hσ3) ?_
      refine Z_aload_n (i := 0) (pc' := 23) dX8_types_22 rfl rfl rfl ?_
      refine Z_aload_n (i := 0) (pc' := 24) dX8_types_23 rfl rfl rfl ?_
      refine Z_get (v := .int (σ3 1 0)) (pc' := 27) 1 zinX8 rfl (by decide) lkX8_116 (mR_obj hG) rfl dX8_types_24 rfl ?_
      refine Z_iconst (v := 1) (pc' := 28) dX8_types_27 (by decide) rfl ?_
      refine Z_iadd (pc' := 29) dX8_types_28 rfl ?_
      obtain ⟨σ4, hσ4, hF⟩ := zl_of hF
      refine Z_put (fs' := (rFs ad σ3).set 1 (.int ((σ3 1 0) + (1 : Int32)))) (pc' := 32) 1 zinX8 tyX8_ok nmX8 rfl (by decide) lkX8_116 rfl (mR_obj hG) rfl rfl rfl (Nat.le_of_ble_eq_true rfl) rfl dX8_types_29 rfl ?_
      refine Z_mem (pR_1 hG hσ4) ?_
      obtain ⟨v5, hv5, hF⟩ := zl_of hF
      refine Z_iinc (i := 2) (v := v5) (vs' := [some (.ref (ad 42)), some (.int x1_), some (.int v5)]) (pc' := 35) dX8_types_32 rfl (by rw [hv5]; rfl) (by decide) rfl rfl ?_
      refine Z_goto (tgt := 2) dX8_types_35 (by decide) ?_
      exact Z_sub (vs' := [some (.ref (ad 42)), some (.int x1_), some (.int v5)]) (zSb_of _ _ ⟨rfl, ⟨rfl, ⟨rfl, trivial⟩⟩⟩) (ih x1_ v5 σ4 _ hF hE)
set_option maxHeartbeats 4000000 in
set_option maxRecDepth 100000 in
theorem qX8_types (l : Launch) {ad dec : Nat → Nat} (hG : rG ad dec) {x1 : Int32} {σ : zS} {w : Int32 × zS} (hF : r_types x1 σ = some w) : zMet l yX8_types cX8_types 3 none rmX8_types [.ref (ad 42), .int x1] (mR ad dec σ) (fun v M' => v = none ∧ M' = (mR ad dec w.2)) := by
  refine zMet.ofZ (vs := [some (.ref (ad 42)), some (.int x1), none]) (by decide) rfl (zCt_of _ ⟨rfl, ⟨rfl, trivial⟩⟩) (Nat.le_of_ble_eq_true rfl) (fun D => ?_)
  unfold r_types at hF
  refine Z_iconst (v := 3) (pc' := 1) dX8_types_0 (by decide) rfl ?_
  refine Z_istore_nE (i := 2) (x' := (3 : Int32)) (vs' := [some (.ref (ad 42)), some (.int x1), some (.int (3 : Int32))]) (pc' := 2) dX8_types_1 rfl rfl (by decide) rfl rfl ?_
  obtain ⟨r6, hr6, hF⟩ := bd_of hF
  refine Z_sub (vs' := [some (.ref (ad 42)), some (.int x1), some (.int (3 : Int32))]) (zSb_of _ _ ⟨rfl, ⟨rfl, ⟨rfl, trivial⟩⟩⟩) (qX8_types_L2 hG zF x1 (3 : Int32) σ _ hr6 ?_)
  cases hF
  exact Z_vret dX8_types_38 rfl (Nat.le_refl _) (Nat.le_refl _) ⟨rfl, rfl⟩
abbrev rmX8_feed : Room := { frames := 1, cells := 0, slots := 0, locals := 22 }
def r_feed  (x1 : Int32) (x2 : Int32) (x3 : Int32) (x4 : Int32) (x5 : Int32) (σ : zS) : Option (Int32 × zS) := (if ((σ 1 0) + (20 : Int32)) ≤ (40 : Int32) then ((r_types x1 σ).bind (fun y2 => ((r_types x2 y2.2).bind (fun y3 => ((r_types x3 y3.2).bind (fun y4 => ((r_types x4 y4.2).bind (fun y5 => ((r_types x5 y5.2).bind (fun y6 => some ((y6.2 1 0), y6.2))))))))))) else some ((-1 : Int32), σ))
set_option maxHeartbeats 4000000 in
set_option maxRecDepth 100000 in
theorem qX8_feed (l : Launch) {ad dec : Nat → Nat} (hG : rG ad dec) {x1 : Int32} {x2 : Int32} {x3 : Int32} {x4 : Int32} {x5 : Int32} {σ : zS} {w : Int32 × zS} (hF : r_feed x1 x2 x3 x4 x5 σ = some w) : zMet l yX8_feed cX8_feed 6 (some .int) rmX8_feed [.ref (ad 42), .int x1, .int x2, .int x3, .int x4, .int x5] (mR ad dec σ) (fun v M' => v = (some (.int w.1)) ∧ M' = (mR ad dec w.2)) := by
  refine zMet.ofZ (vs := [some (.ref (ad 42)), some (.int x1), some (.int x2), some (.int x3), some (.int x4), some (.int x5)]) (by decide) rfl (zCt_of _ ⟨rfl, ⟨rfl, ⟨rfl, ⟨rfl, ⟨rfl, ⟨rfl, trivial⟩⟩⟩⟩⟩⟩) (Nat.le_of_ble_eq_true rfl) (fun D => ?_)
  unfold r_feed at hF
  refine Z_aload_n (i := 0) (pc' := 1) dX8_feed_0 rfl rfl rfl ?_
  refine Z_get (v := .int (σ 1 0)) (pc' := 4) 1 zinX8 rfl (by decide) lkX8_116 (mR_obj hG) rfl dX8_feed_1 rfl ?_
  refine Z_bipush (v := 20) (pc' := 6) dX8_feed_4 (by decide) rfl ?_
  refine Z_iadd (pc' := 7) dX8_feed_6 rfl ?_
  refine Z_bipush (v := 40) (pc' := 9) dX8_feed_7 (by decide) rfl ?_
  refine Z_icmp_le (tgt := 14) (pc' := 12) dX8_feed_9 (by decide) rfl (fun h1 => ?_) (fun h1 => ?_)
  · rw [if_pos h1] at hF
    refine Z_aload_n (i := 0) (pc' := 15) dX8_feed_14 rfl rfl rfl ?_
    refine Z_iload_n (i := 1) (pc' := 16) dX8_feed_15 rfl rfl rfl ?_
    obtain ⟨y2, hy2, hF⟩ := bd_of hF
    refine Z_callVv (As := [.int x1]) (st := []) (pc' := 19) (k' := 0) (n' := 0) (qX8_types l hG hy2) ckX8_types kvX8_types mlX8_119 (mR_obj hG) rfl rfl rfl (Nat.le_of_ble_eq_true rfl) ⟨Nat.le_of_ble_eq_true rfl, Nat.le_of_ble_eq_true rfl⟩ ⟨Nat.le_of_ble_eq_true rfl, Nat.le_of_ble_eq_true rfl⟩ dX8_feed_16 rfl rfl rfl ?_
    refine Z_aload_n (i := 0) (pc' := 20) dX8_feed_19 rfl rfl rfl ?_
    refine Z_iload_n (i := 2) (pc' := 21) dX8_feed_20 rfl rfl rfl ?_
    obtain ⟨y3, hy3, hF⟩ := bd_of hF
    refine Z_callVv (As := [.int x2]) (st := []) (pc' := 24) (k' := 0) (n' := 0) (qX8_types l hG hy3) ckX8_types kvX8_types mlX8_119 (mR_obj hG) rfl rfl rfl (Nat.le_of_ble_eq_true rfl) ⟨Nat.le_of_ble_eq_true rfl, Nat.le_of_ble_eq_true rfl⟩ ⟨Nat.le_of_ble_eq_true rfl, Nat.le_of_ble_eq_true rfl⟩ dX8_feed_21 rfl rfl rfl ?_
    refine Z_aload_n (i := 0) (pc' := 25) dX8_feed_24 rfl rfl rfl ?_
    refine Z_iload_n (i := 3) (pc' := 26) dX8_feed_25 rfl rfl rfl ?_
    obtain ⟨y4, hy4, hF⟩ := bd_of hF
    refine Z_callVv (As := [.int x3]) (st := []) (pc' := 29) (k' := 0) (n' := 0) (qX8_types l hG hy4) ckX8_types kvX8_types mlX8_119 (mR_obj hG) rfl rfl rfl (Nat.le_of_ble_eq_true rfl) ⟨Nat.le_of_ble_eq_true rfl, Nat.le_of_ble_eq_true rfl⟩ ⟨Nat.le_of_ble_eq_true rfl, Nat.le_of_ble_eq_true rfl⟩ dX8_feed_26 rfl rfl rfl ?_
    refine Z_aload_n (i := 0) (pc' := 30) dX8_feed_29 rfl rfl rfl ?_
    refine Z_iload (i := 4) (pc' := 32) dX8_feed_30 rfl rfl ?_
    obtain ⟨y5, hy5, hF⟩ := bd_of hF
    refine Z_callVv (As := [.int x4]) (st := []) (pc' := 35) (k' := 0) (n' := 0) (qX8_types l hG hy5) ckX8_types kvX8_types mlX8_119 (mR_obj hG) rfl rfl rfl (Nat.le_of_ble_eq_true rfl) ⟨Nat.le_of_ble_eq_true rfl, Nat.le_of_ble_eq_true rfl⟩ ⟨Nat.le_of_ble_eq_true rfl, Nat.le_of_ble_eq_true rfl⟩ dX8_feed_32 rfl rfl rfl ?_
    refine Z_aload_n (i := 0) (pc' := 36) dX8_feed_35 rfl rfl rfl ?_
    refine Z_iload (i := 5) (pc' := 38) dX8_feed_36 rfl rfl ?_
    obtain ⟨y6, hy6, hF⟩ := bd_of hF
    refine Z_callVv (As := [.int x5]) (st := []) (pc' := 41) (k' := 0) (n' := 0) (qX8_types l hG hy6) ckX8_types kvX8_types mlX8_119 (mR_obj hG) rfl rfl rfl (Nat.le_of_ble_eq_true rfl) ⟨Nat.le_of_ble_eq_true rfl, Nat.le_of_ble_eq_true rfl⟩ ⟨Nat.le_of_ble_eq_true rfl, Nat.le_of_ble_eq_true rfl⟩ dX8_feed_38 rfl rfl rfl ?_
    refine Z_aload_n (i := 0) (pc' := 42) dX8_feed_41 rfl rfl rfl ?_
    refine Z_get (v := .int (y6.2 1 0)) (pc' := 45) 1 zinX8 rfl (by decide) lkX8_116 (mR_obj hG) rfl dX8_feed_42 rfl ?_
    cases hF
    exact Z_iret (ty := .int) (w := (y6.2 1 0)) dX8_feed_45 rfl rfl (Nat.le_refl _) (Nat.le_refl _) ⟨rfl, rfl⟩
  · rw [if_neg h1] at hF
    refine Z_iconst (v := -1) (pc' := 13) dX8_feed_12 (by decide) rfl ?_
    cases hF
    exact Z_iret (ty := .int) (w := (-1 : Int32)) dX8_feed_13 rfl rfl (Nat.le_refl _) (Nat.le_refl _) ⟨rfl, rfl⟩
abbrev rmX8_letterOf : Room := { frames := 0, cells := 0, slots := 0, locals := 0 }
def r_letterOf  (x0 : Int32) (σ : zS) : Option (Int32 × zS) := (if x0 = (112 : Int32) then some ((0 : Int32), σ) else (if x0 = (100 : Int32) then some ((1 : Int32), σ) else (if x0 = (107 : Int32) then some ((2 : Int32), σ) else (if x0 = (104 : Int32) then some ((3 : Int32), σ) else some ((-1 : Int32), σ)))))
set_option maxHeartbeats 4000000 in
set_option maxRecDepth 100000 in
theorem qX8_letterOf (l : Launch) {ad dec : Nat → Nat} (hG : rG ad dec) {x0 : Int32} {σ : zS} {w : Int32 × zS} (hF : r_letterOf x0 σ = some w) : zMet l yX8_letterOf cX8_letterOf 1 (some .int) rmX8_letterOf [.int x0] (mR ad dec σ) (fun v M' => v = (some (.int w.1)) ∧ M' = (mR ad dec w.2)) := by
  refine zMet.ofZ (vs := [some (.int x0)]) (by decide) rfl (zCt_of _ ⟨rfl, trivial⟩) (Nat.le_of_ble_eq_true rfl) (fun D => ?_)
  unfold r_letterOf at hF
  refine Z_iload_n (i := 0) (pc' := 1) dX8_letterOf_0 rfl rfl rfl ?_
  refine Z_bipush (v := 112) (pc' := 3) dX8_letterOf_1 (by decide) rfl ?_
  refine Z_icmp_ne (tgt := 10) (pc' := 6) dX8_letterOf_3 (by decide) rfl (fun h1 => ?_) (fun h1 => ?_)
  · rw [if_neg h1] at hF
    refine Z_iload_n (i := 0) (pc' := 11) dX8_letterOf_10 rfl rfl rfl ?_
    refine Z_bipush (v := 100) (pc' := 13) dX8_letterOf_11 (by decide) rfl ?_
    refine Z_icmp_ne (tgt := 20) (pc' := 16) dX8_letterOf_13 (by decide) rfl (fun h2 => ?_) (fun h2 => ?_)
    · rw [if_neg h2] at hF
      refine Z_iload_n (i := 0) (pc' := 21) dX8_letterOf_20 rfl rfl rfl ?_
      refine Z_bipush (v := 107) (pc' := 23) dX8_letterOf_21 (by decide) rfl ?_
      refine Z_icmp_ne (tgt := 30) (pc' := 26) dX8_letterOf_23 (by decide) rfl (fun h3 => ?_) (fun h3 => ?_)
      · rw [if_neg h3] at hF
        refine Z_iload_n (i := 0) (pc' := 31) dX8_letterOf_30 rfl rfl rfl ?_
        refine Z_bipush (v := 104) (pc' := 33) dX8_letterOf_31 (by decide) rfl ?_
        refine Z_icmp_ne (tgt := 40) (pc' := 36) dX8_letterOf_33 (by decide) rfl (fun h4 => ?_) (fun h4 => ?_)
        · rw [if_neg h4] at hF
          refine Z_iconst (v := -1) (pc' := 41) dX8_letterOf_40 (by decide) rfl ?_
          cases hF
          exact Z_iret (ty := .int) (w := (-1 : Int32)) dX8_letterOf_41 rfl rfl (Nat.le_refl _) (Nat.le_refl _) ⟨rfl, rfl⟩
        · rw [if_pos h4] at hF
          refine Z_iconst (v := 3) (pc' := 37) dX8_letterOf_36 (by decide) rfl ?_
          refine Z_goto (tgt := 41) dX8_letterOf_37 (by decide) ?_
          cases hF
          exact Z_iret (ty := .int) (w := (3 : Int32)) dX8_letterOf_41 rfl rfl (Nat.le_refl _) (Nat.le_refl _) ⟨rfl, rfl⟩
      · rw [if_pos h3] at hF
        refine Z_iconst (v := 2) (pc' := 27) dX8_letterOf_26 (by decide) rfl ?_
        refine Z_goto (tgt := 41) dX8_letterOf_27 (by decide) ?_
        cases hF
        exact Z_iret (ty := .int) (w := (2 : Int32)) dX8_letterOf_41 rfl rfl (Nat.le_refl _) (Nat.le_refl _) ⟨rfl, rfl⟩
    · rw [if_pos h2] at hF
      refine Z_iconst (v := 1) (pc' := 17) dX8_letterOf_16 (by decide) rfl ?_
      refine Z_goto (tgt := 41) dX8_letterOf_17 (by decide) ?_
      cases hF
      exact Z_iret (ty := .int) (w := (1 : Int32)) dX8_letterOf_41 rfl rfl (Nat.le_refl _) (Nat.le_refl _) ⟨rfl, rfl⟩
  · rw [if_pos h1] at hF
    refine Z_iconst (v := 0) (pc' := 7) dX8_letterOf_6 (by decide) rfl ?_
    refine Z_goto (tgt := 41) dX8_letterOf_7 (by decide) ?_
    cases hF
    exact Z_iret (ty := .int) (w := (0 : Int32)) dX8_letterOf_41 rfl rfl (Nat.le_refl _) (Nat.le_refl _) ⟨rfl, rfl⟩
abbrev rmX8_canBe : Room := { frames := 0, cells := 0, slots := 0, locals := 0 }
def r_canBe  (x0 : Int32) (x1 : Int32) (σ : zS) : Option (Int32 × zS) := (if x0 = 0 then (if x1 < (1 : Int32) then some ((0 : Int32), σ) else (if (300 : Int32) < x1 then some ((0 : Int32), σ) else some ((1 : Int32), σ))) else (if x0 = (1 : Int32) then (if x1 < (1 : Int32) then some ((0 : Int32), σ) else (if (99 : Int32) < x1 then some ((0 : Int32), σ) else some ((1 : Int32), σ))) else (if (99 : Int32) < x1 then some ((0 : Int32), σ) else some ((1 : Int32), σ))))
set_option maxHeartbeats 4000000 in
set_option maxRecDepth 100000 in
theorem qX8_canBe (l : Launch) {ad dec : Nat → Nat} (hG : rG ad dec) {x0 : Int32} {x1 : Int32} {σ : zS} {w : Int32 × zS} (hF : r_canBe x0 x1 σ = some w) : zMet l yX8_canBe cX8_canBe 2 (some .boolean) rmX8_canBe [.int x0, .int x1] (mR ad dec σ) (fun v M' => v = (some (.int w.1)) ∧ M' = (mR ad dec w.2)) := by
  refine zMet.ofZ (vs := [some (.int x0), some (.int x1)]) (by decide) rfl (zCt_of _ ⟨rfl, ⟨rfl, trivial⟩⟩) (Nat.le_of_ble_eq_true rfl) (fun D => ?_)
  unfold r_canBe at hF
  refine Z_iload_n (i := 0) (pc' := 1) dX8_canBe_0 rfl rfl rfl ?_
  refine Z_if_ne (tgt := 24) (pc' := 4) dX8_canBe_1 (by decide) rfl (fun h1 => ?_) (fun h1 => ?_)
  · rw [if_neg h1] at hF
    refine Z_iload_n (i := 0) (pc' := 25) dX8_canBe_24 rfl rfl rfl ?_
    refine Z_iconst (v := 1) (pc' := 26) dX8_canBe_25 (by decide) rfl ?_
    refine Z_icmp_ne (tgt := 48) (pc' := 29) dX8_canBe_26 (by decide) rfl (fun h2 => ?_) (fun h2 => ?_)
    · rw [if_neg h2] at hF
      refine Z_iload_n (i := 1) (pc' := 49) dX8_canBe_48 rfl rfl rfl ?_
      refine Z_bipush (v := 99) (pc' := 51) dX8_canBe_49 (by decide) rfl ?_
      refine Z_icmp_gt (tgt := 58) (pc' := 54) dX8_canBe_51 (by decide) rfl (fun h3 => ?_) (fun h3 => ?_)
      · rw [if_pos h3] at hF
        refine Z_iconst (v := 0) (pc' := 59) dX8_canBe_58 (by decide) rfl ?_
        cases hF
        exact Z_iret (ty := .boolean) (w := (0 : Int32)) dX8_canBe_59 rfl rfl (Nat.le_refl _) (Nat.le_refl _) ⟨rfl, rfl⟩
      · rw [if_neg h3] at hF
        refine Z_iconst (v := 1) (pc' := 55) dX8_canBe_54 (by decide) rfl ?_
        refine Z_goto (tgt := 59) dX8_canBe_55 (by decide) ?_
        cases hF
        exact Z_iret (ty := .boolean) (w := (1 : Int32)) dX8_canBe_59 rfl rfl (Nat.le_refl _) (Nat.le_refl _) ⟨rfl, rfl⟩
    · rw [if_pos h2] at hF
      refine Z_iload_n (i := 1) (pc' := 30) dX8_canBe_29 rfl rfl rfl ?_
      refine Z_iconst (v := 1) (pc' := 31) dX8_canBe_30 (by decide) rfl ?_
      refine Z_icmp_lt (tgt := 44) (pc' := 34) dX8_canBe_31 (by decide) rfl (fun h4 => ?_) (fun h4 => ?_)
      · rw [if_pos h4] at hF
        refine Z_iconst (v := 0) (pc' := 45) dX8_canBe_44 (by decide) rfl ?_
        refine Z_goto (tgt := 59) dX8_canBe_45 (by decide) ?_
        cases hF
        exact Z_iret (ty := .boolean) (w := (0 : Int32)) dX8_canBe_59 rfl rfl (Nat.le_refl _) (Nat.le_refl _) ⟨rfl, rfl⟩
      · rw [if_neg h4] at hF
        refine Z_iload_n (i := 1) (pc' := 35) dX8_canBe_34 rfl rfl rfl ?_
        refine Z_bipush (v := 99) (pc' := 37) dX8_canBe_35 (by decide) rfl ?_
        refine Z_icmp_gt (tgt := 44) (pc' := 40) dX8_canBe_37 (by decide) rfl (fun h5 => ?_) (fun h5 => ?_)
        · rw [if_pos h5] at hF
          refine Z_iconst (v := 0) (pc' := 45) dX8_canBe_44 (by decide) rfl ?_
          refine Z_goto (tgt := 59) dX8_canBe_45 (by decide) ?_
          cases hF
          exact Z_iret (ty := .boolean) (w := (0 : Int32)) dX8_canBe_59 rfl rfl (Nat.le_refl _) (Nat.le_refl _) ⟨rfl, rfl⟩
        · rw [if_neg h5] at hF
          refine Z_iconst (v := 1) (pc' := 41) dX8_canBe_40 (by decide) rfl ?_
          refine Z_goto (tgt := 59) dX8_canBe_41 (by decide) ?_
          cases hF
          exact Z_iret (ty := .boolean) (w := (1 : Int32)) dX8_canBe_59 rfl rfl (Nat.le_refl _) (Nat.le_refl _) ⟨rfl, rfl⟩
  · rw [if_pos h1] at hF
    refine Z_iload_n (i := 1) (pc' := 5) dX8_canBe_4 rfl rfl rfl ?_
    refine Z_iconst (v := 1) (pc' := 6) dX8_canBe_5 (by decide) rfl ?_
    refine Z_icmp_lt (tgt := 20) (pc' := 9) dX8_canBe_6 (by decide) rfl (fun h6 => ?_) (fun h6 => ?_)
    · rw [if_pos h6] at hF
      refine Z_iconst (v := 0) (pc' := 21) dX8_canBe_20 (by decide) rfl ?_
      refine Z_goto (tgt := 59) dX8_canBe_21 (by decide) ?_
      cases hF
      exact Z_iret (ty := .boolean) (w := (0 : Int32)) dX8_canBe_59 rfl rfl (Nat.le_refl _) (Nat.le_refl _) ⟨rfl, rfl⟩
    · rw [if_neg h6] at hF
      refine Z_iload_n (i := 1) (pc' := 10) dX8_canBe_9 rfl rfl rfl ?_
      refine Z_sipush (v := 300) (pc' := 13) dX8_canBe_10 (by decide) rfl ?_
      refine Z_icmp_gt (tgt := 20) (pc' := 16) dX8_canBe_13 (by decide) rfl (fun h7 => ?_) (fun h7 => ?_)
      · rw [if_pos h7] at hF
        refine Z_iconst (v := 0) (pc' := 21) dX8_canBe_20 (by decide) rfl ?_
        refine Z_goto (tgt := 59) dX8_canBe_21 (by decide) ?_
        cases hF
        exact Z_iret (ty := .boolean) (w := (0 : Int32)) dX8_canBe_59 rfl rfl (Nat.le_refl _) (Nat.le_refl _) ⟨rfl, rfl⟩
      · rw [if_neg h7] at hF
        refine Z_iconst (v := 1) (pc' := 17) dX8_canBe_16 (by decide) rfl ?_
        refine Z_goto (tgt := 59) dX8_canBe_17 (by decide) ?_
        cases hF
        exact Z_iret (ty := .boolean) (w := (1 : Int32)) dX8_canBe_59 rfl rfl (Nat.le_refl _) (Nat.le_refl _) ⟨rfl, rfl⟩
abbrev rmX8_isDigit : Room := { frames := 0, cells := 0, slots := 0, locals := 0 }
def r_isDigit  (x1 : Int32) (x2 : Int32) (σ : zS) : Option (Int32 × zS) := (if x2 ≤ x1 then some ((0 : Int32), σ) else (if zIn x1 40 = true then (if (σ 0 (x1).toNatClampNeg) < (48 : Int32) then some ((0 : Int32), σ) else (if (57 : Int32) < (σ 0 (x1).toNatClampNeg) then some ((0 : Int32), σ) else some ((1 : Int32), σ))) else none))
set_option maxHeartbeats 4000000 in
set_option maxRecDepth 100000 in
theorem qX8_isDigit (l : Launch) {ad dec : Nat → Nat} (hG : rG ad dec) {x1 : Int32} {x2 : Int32} {σ : zS} {w : Int32 × zS} (hF : r_isDigit x1 x2 σ = some w) : zMet l yX8_isDigit cX8_isDigit 3 (some .boolean) rmX8_isDigit [.ref (ad 42), .int x1, .int x2] (mR ad dec σ) (fun v M' => v = (some (.int w.1)) ∧ M' = (mR ad dec w.2)) := by
  refine zMet.ofZ (vs := [some (.ref (ad 42)), some (.int x1), some (.int x2)]) (by decide) rfl (zCt_of _ ⟨rfl, ⟨rfl, ⟨rfl, trivial⟩⟩⟩) (Nat.le_of_ble_eq_true rfl) (fun D => ?_)
  unfold r_isDigit at hF
  refine Z_iload_n (i := 1) (pc' := 1) dX8_isDigit_0 rfl rfl rfl ?_
  refine Z_iload_n (i := 2) (pc' := 2) dX8_isDigit_1 rfl rfl rfl ?_
  refine Z_icmp_ge (tgt := 31) (pc' := 5) dX8_isDigit_2 (by decide) rfl (fun h1 => ?_) (fun h1 => ?_)
  · rw [if_pos h1] at hF
    refine Z_iconst (v := 0) (pc' := 32) dX8_isDigit_31 (by decide) rfl ?_
    cases hF
    exact Z_iret (ty := .boolean) (w := (0 : Int32)) dX8_isDigit_32 rfl rfl (Nat.le_refl _) (Nat.le_refl _) ⟨rfl, rfl⟩
  · rw [if_neg h1] at hF
    refine Z_aload_n (i := 0) (pc' := 6) dX8_isDigit_5 rfl rfl rfl ?_
    refine Z_get (v := .ref (ad 0)) (pc' := 9) 0 zinX8 rfl (by decide) lkX8_7 (mR_obj hG) rfl dX8_isDigit_6 rfl ?_
    refine Z_iload_n (i := 1) (pc' := 10) dX8_isDigit_9 rfl rfl rfl ?_
    obtain ⟨h2, hF⟩ := ck_of hF
    refine Z_bald (pc' := 11) (aR_0 hG) (zIn_in h2) dX8_isDigit_10 rfl ?_
    refine Z_bipush (v := 48) (pc' := 13) dX8_isDigit_11 (by decide) rfl ?_
    refine Z_icmp_lt (tgt := 31) (pc' := 16) dX8_isDigit_13 (by decide) rfl (fun h3 => ?_) (fun h3 => ?_)
    · rw [if_pos h3] at hF
      refine Z_iconst (v := 0) (pc' := 32) dX8_isDigit_31 (by decide) rfl ?_
      cases hF
      exact Z_iret (ty := .boolean) (w := (0 : Int32)) dX8_isDigit_32 rfl rfl (Nat.le_refl _) (Nat.le_refl _) ⟨rfl, rfl⟩
    · rw [if_neg h3] at hF
      refine Z_aload_n (i := 0) (pc' := 17) dX8_isDigit_16 rfl rfl rfl ?_
      refine Z_get (v := .ref (ad 0)) (pc' := 20) 0 zinX8 rfl (by decide) lkX8_7 (mR_obj hG) rfl dX8_isDigit_17 rfl ?_
      refine Z_iload_n (i := 1) (pc' := 21) dX8_isDigit_20 rfl rfl rfl ?_
      refine Z_bald (pc' := 22) (aR_0 hG) (zIn_in h2) dX8_isDigit_21 rfl ?_
      refine Z_bipush (v := 57) (pc' := 24) dX8_isDigit_22 (by decide) rfl ?_
      refine Z_icmp_gt (tgt := 31) (pc' := 27) dX8_isDigit_24 (by decide) rfl (fun h4 => ?_) (fun h4 => ?_)
      · rw [if_pos h4] at hF
        refine Z_iconst (v := 0) (pc' := 32) dX8_isDigit_31 (by decide) rfl ?_
        cases hF
        exact Z_iret (ty := .boolean) (w := (0 : Int32)) dX8_isDigit_32 rfl rfl (Nat.le_refl _) (Nat.le_refl _) ⟨rfl, rfl⟩
      · rw [if_neg h4] at hF
        refine Z_iconst (v := 1) (pc' := 28) dX8_isDigit_27 (by decide) rfl ?_
        refine Z_goto (tgt := 32) dX8_isDigit_28 (by decide) ?_
        cases hF
        exact Z_iret (ty := .boolean) (w := (1 : Int32)) dX8_isDigit_32 rfl rfl (Nat.le_refl _) (Nat.le_refl _) ⟨rfl, rfl⟩
abbrev rmX8_parse : Room := { frames := 1, cells := 0, slots := 0, locals := 22 }
def r_parse_L56 : Nat → Int32 → Int32 → Int32 → Int32 → Int32 → zS → Option ((Int32 × zS) ⊕ (Int32 × Int32 × zS))
  | 0, _, _, _, _, _, _ => none
  | n + 1, x1_, x2_, x3_, x4_, x5_, σ => ((r_isDigit x2_ x1_ σ).bind (fun y9 => (if y9.1 = 0 then some (.inr (x2_, x5_, y9.2)) else (if x2_ = (x4_ + (4 : Int32)) then some (.inl (((300 : Int32) + x2_), y9.2)) else (if zIn x2_ 40 = true then zl ((((10 : Int32) * x5_) + (y9.2 0 (x2_).toNatClampNeg)) - (48 : Int32)) (fun (v13 : Int32) => zl (x2_ + (1 : Int32)) (fun (v14 : Int32) => (r_parse_L56 n x1_ v14 x3_ x4_ v13 y9.2))) else none)))))
def r_parse_L2 : Nat → Int32 → Int32 → zS → Option (Int32 × zS)
  | 0, _, _, _ => none
  | n + 1, x1_, x2_, σ => (if x1_ ≤ x2_ then some (((100 : Int32) + x2_), σ) else (if zIn x2_ 40 = true then ((r_letterOf (σ 0 (x2_).toNatClampNeg) σ).bind (fun y4 => (if y4.1 = (-1 : Int32) then some (((100 : Int32) + x2_), y4.2) else zl (x2_ + (1 : Int32)) (fun (v6 : Int32) => ((r_isDigit v6 x1_ y4.2).bind (fun y7 => (if y7.1 = 0 then some (((200 : Int32) + v6), y7.2) else ((r_parse_L56 zF x1_ v6 y4.1 v6 (0 : Int32) y7.2).bind (zsum (fun w => some w) (fun q16 => ((r_canBe y4.1 q16.2.1 q16.2.2).bind (fun y17 => (if y17.1 = 0 then some (((400 : Int32) + v6), y17.2) else (if zIn y4.1 4 = true then zl (zs y17.2 3 (y4.1).toNatClampNeg q16.2.1) (fun (σ20 : zS) => (if q16.1 = x1_ then some ((0 : Int32), σ20) else (if zIn q16.1 40 = true then (if (σ20 0 (q16.1).toNatClampNeg) = (59 : Int32) then zl (q16.1 + (1 : Int32)) (fun (v24 : Int32) => (r_parse_L2 n x1_ v24 σ20)) else some (((500 : Int32) + q16.1), σ20)) else none))) else none)))))))))))))) else none))
def r_parse  (x1 : Int32) (σ : zS) : Option (Int32 × zS) := ((r_parse_L2 zF x1 (0 : Int32) σ).bind (fun w => some w))
set_option maxHeartbeats 4000000 in
set_option maxRecDepth 100000 in
theorem qX8_parse_L56 {l : Launch} {D : va_G} {M0 : zM} {Q : Option Value → zM → Prop} {ad dec : Nat → Nat} (hG : rG ad dec) : ∀ (n : Nat) (x1_ : Int32) (x2_ : Int32) (x3_ : Int32) (x4_ : Int32) (x5_ : Int32) (σ : zS) (r : ((Int32 × zS) ⊕ (Int32 × Int32 × zS))), r_parse_L56 n x1_ x2_ x3_ x4_ x5_ σ = some r → ((∀ a, r = .inl a → Q (some (.int a.1)) (mR ad dec a.2))) → ((∀ q, r = .inr q → Z l yX8_parse cX8_parse 6 (some .int) rmX8_parse 0 0 D M0 Q 0 0 103 [some (.ref (ad 42)), some (.int x1_), some (.int q.1), some (.int x3_), some (.int x4_), some (.int q.2.1)] [] (mR ad dec q.2.2))) → Z l yX8_parse cX8_parse 6 (some .int) rmX8_parse 0 0 D M0 Q 0 0 56 [some (.ref (ad 42)), some (.int x1_), some (.int x2_), some (.int x3_), some (.int x4_), some (.int x5_)] [] (mR ad dec σ) := by
  intro n
  induction n with
  | zero =>
    intro x1_ x2_ x3_ x4_ x5_ σ r hF hI hE
    exact absurd (show (none : Option ((Int32 × zS) ⊕ (Int32 × Int32 × zS))) = some r from hF) (by simp)
  | succ n ih =>
    intro x1_ x2_ x3_ x4_ x5_ σ r hF hI hE
    replace hF : ((r_isDigit x2_ x1_ σ).bind (fun y9 => (if y9.1 = 0 then some (.inr (x2_, x5_, y9.2)) else (if x2_ = (x4_ + (4 : Int32)) then some (.inl (((300 : Int32) + x2_), y9.2)) else (if zIn x2_ 40 = true then zl ((((10 : Int32) * x5_) + (y9.2 0 (x2_).toNatClampNeg)) - (48 : Int32)) (fun (v13 : Int32) => zl (x2_ + (1 : Int32)) (fun (v14 : Int32) => (r_parse_L56 n x1_ v14 x3_ x4_ v13 y9.2))) else none))))) = some r := hF
    refine Z_aload_n (i := 0) (pc' := 57) dX8_parse_56 rfl rfl rfl ?_
    refine Z_iload_n (i := 2) (pc' := 58) dX8_parse_57 rfl rfl rfl ?_
    refine Z_iload_n (i := 1) (pc' := 59) dX8_parse_58 rfl rfl rfl ?_
    obtain ⟨y9, hy9, hF⟩ := bd_of hF
    refine Z_callVi (As := [.int x2_, .int x1_]) (st := []) (pc' := 62) (k' := 0) (n' := 0) (qX8_isDigit l hG hy9) ckX8_isDigit kvX8_isDigit mlX8_127 (mR_obj hG) rfl rfl rfl (Nat.le_of_ble_eq_true rfl) ⟨Nat.le_of_ble_eq_true rfl, Nat.le_of_ble_eq_true rfl⟩ ⟨Nat.le_of_ble_eq_true rfl, Nat.le_of_ble_eq_true rfl⟩ dX8_parse_59 rfl rfl rfl ?_
    refine Z_if_eq (tgt := 103) (pc' := 65) dX8_parse_62 (by decide) rfl (fun h10 => ?_) (fun h10 => ?_)
    · rw [if_pos h10] at hF
      cases hF
      exact Z_sub (vs' := [some (.ref (ad 42)), some (.int x1_), some (.int x2_), some (.int x3_), some (.int x4_), some (.int x5_)]) (zSb_of _ _ ⟨rfl, ⟨rfl, ⟨rfl, ⟨rfl, ⟨rfl, ⟨rfl, trivial⟩⟩⟩⟩⟩⟩) (hE _ rfl)
    · rw [if_neg h10] at hF
      refine Z_iload_n (i := 2) (pc' := 66) dX8_parse_65 rfl rfl rfl ?_
      refine Z_iload (i := 4) (pc' := 68) dX8_parse_66 rfl rfl ?_
      refine Z_iconst (v := 4) (pc' := 69) dX8_parse_68 (by decide) rfl ?_
      refine Z_iadd (pc' := 70) dX8_parse_69 rfl ?_
      refine Z_icmp_ne (tgt := 79) (pc' := 73) dX8_parse_70 (by decide) rfl (fun h11 => ?_) (fun h11 => ?_)
      · rw [if_neg h11] at hF
        refine Z_bipush (v := 10) (pc' := 81) dX8_parse_79 (by decide) rfl ?_
        refine Z_iload (i := 5) (pc' := 83) dX8_parse_81 rfl rfl ?_
        refine Z_imul (pc' := 84) dX8_parse_83 rfl ?_
        refine Z_aload_n (i := 0) (pc' := 85) dX8_parse_84 rfl rfl rfl ?_
        refine Z_get (v := .ref (ad 0)) (pc' := 88) 0 zinX8 rfl (by decide) lkX8_7 (mR_obj hG) rfl dX8_parse_85 rfl ?_
        refine Z_iload_n (i := 2) (pc' := 89) dX8_parse_88 rfl rfl rfl ?_
        obtain ⟨h12, hF⟩ := ck_of hF
        refine Z_bald (pc' := 90) (aR_0 hG) (zIn_in h12) dX8_parse_89 rfl ?_
        refine Z_iadd (pc' := 91) dX8_parse_90 rfl ?_
        refine Z_bipush (v := 48) (pc' := 93) dX8_parse_91 (by decide) rfl ?_
        refine Z_isub (pc' := 94) dX8_parse_93 rfl ?_
        obtain ⟨v13, hv13, hF⟩ := zl_of hF
        refine Z_istoreE (i := 5) (x' := v13) (vs' := [some (.ref (ad 42)), some (.int x1_), some (.int x2_), some (.int x3_), some (.int x4_), some (.int v13)]) (pc' := 96) dX8_parse_94 hv13 (by decide) rfl rfl ?_
        refine Z_iload_n (i := 2) (pc' := 97) dX8_parse_96 rfl rfl rfl ?_
        refine Z_iconst (v := 1) (pc' := 98) dX8_parse_97 (by decide) rfl ?_
        refine Z_iadd (pc' := 99) dX8_parse_98 rfl ?_
        obtain ⟨v14, hv14, hF⟩ := zl_of hF
        refine Z_istore_nE (i := 2) (x' := v14) (vs' := [some (.ref (ad 42)), some (.int x1_), some (.int v14), some (.int x3_), some (.int x4_), some (.int v13)]) (pc' := 100) dX8_parse_99 rfl hv14 (by decide) rfl rfl ?_
        refine Z_goto (tgt := 56) dX8_parse_100 (by decide) ?_
        exact Z_sub (vs' := [some (.ref (ad 42)), some (.int x1_), some (.int v14), some (.int x3_), some (.int x4_), some (.int v13)]) (zSb_of _ _ ⟨rfl, ⟨rfl, ⟨rfl, ⟨rfl, ⟨rfl, ⟨rfl, trivial⟩⟩⟩⟩⟩⟩) (ih x1_ v14 x3_ x4_ v13 y9.2 _ hF hI hE)
      · rw [if_pos h11] at hF
        refine Z_sipush (v := 300) (pc' := 76) dX8_parse_73 (by decide) rfl ?_
        refine Z_iload_n (i := 2) (pc' := 77) dX8_parse_76 rfl rfl rfl ?_
        refine Z_iadd (pc' := 78) dX8_parse_77 rfl ?_
        cases hF
        exact Z_iret (ty := .int) (w := ((300 : Int32) + x2_)) dX8_parse_78 rfl rfl (Nat.le_refl _) (Nat.le_refl _) (hI _ rfl)
set_option maxHeartbeats 4000000 in
set_option maxRecDepth 100000 in
theorem qX8_parse_L2 {l : Launch} {D : va_G} {M0 : zM} {Q : Option Value → zM → Prop} {ad dec : Nat → Nat} (hG : rG ad dec) : ∀ (n : Nat) (x1_ : Int32) (x2_ : Int32) (σ : zS) (r : (Int32 × zS)), r_parse_L2 n x1_ x2_ σ = some r → (Q (some (.int r.1)) (mR ad dec r.2)) → Z l yX8_parse cX8_parse 6 (some .int) rmX8_parse 0 0 D M0 Q 0 0 2 [some (.ref (ad 42)), some (.int x1_), some (.int x2_), none, none, none] [] (mR ad dec σ) := by
  intro n
  induction n with
  | zero =>
    intro x1_ x2_ σ r hF hI
    exact absurd (show (none : Option (Int32 × zS)) = some r from hF) (by simp)
  | succ n ih =>
    intro x1_ x2_ σ r hF hI
    replace hF : (if x1_ ≤ x2_ then some (((100 : Int32) + x2_), σ) else (if zIn x2_ 40 = true then ((r_letterOf (σ 0 (x2_).toNatClampNeg) σ).bind (fun y4 => (if y4.1 = (-1 : Int32) then some (((100 : Int32) + x2_), y4.2) else zl (x2_ + (1 : Int32)) (fun (v6 : Int32) => ((r_isDigit v6 x1_ y4.2).bind (fun y7 => (if y7.1 = 0 then some (((200 : Int32) + v6), y7.2) else ((r_parse_L56 zF x1_ v6 y4.1 v6 (0 : Int32) y7.2).bind (zsum (fun w => some w) (fun q16 => ((r_canBe y4.1 q16.2.1 q16.2.2).bind (fun y17 => (if y17.1 = 0 then some (((400 : Int32) + v6), y17.2) else (if zIn y4.1 4 = true then zl (zs y17.2 3 (y4.1).toNatClampNeg q16.2.1) (fun (σ20 : zS) => (if q16.1 = x1_ then some ((0 : Int32), σ20) else (if zIn q16.1 40 = true then (if (σ20 0 (q16.1).toNatClampNeg) = (59 : Int32) then zl (q16.1 + (1 : Int32)) (fun (v24 : Int32) => (r_parse_L2 n x1_ v24 σ20)) else some (((500 : Int32) + q16.1), σ20)) else none))) else none)))))))))))))) else none)) = some r := hF
    refine Z_iload_n (i := 2) (pc' := 3) dX8_parse_2 rfl rfl rfl ?_
    refine Z_iload_n (i := 1) (pc' := 4) dX8_parse_3 rfl rfl rfl ?_
    refine Z_icmp_ge (tgt := 19) (pc' := 7) dX8_parse_4 (by decide) rfl (fun h1 => ?_) (fun h1 => ?_)
    · rw [if_pos h1] at hF
      refine Z_iconst (v := -1) (pc' := 20) dX8_parse_19 (by decide) rfl ?_
      refine Z_istore_nE (i := 3) (x' := (-1 : Int32)) (vs' := [some (.ref (ad 42)), some (.int x1_), some (.int x2_), some (.int (-1 : Int32)), none, none]) (pc' := 21) dX8_parse_20 rfl rfl (by decide) rfl rfl ?_
      refine Z_iload_n (i := 3) (pc' := 22) dX8_parse_21 rfl rfl rfl ?_
      refine Z_iconst (v := -1) (pc' := 23) dX8_parse_22 (by decide) rfl ?_
      refine Z_icmp_ne (tgt := 31) (pc' := 26) dX8_parse_23 (by decide) rfl (fun q => absurd q (by decide)) (fun _ => ?_)
      refine Z_bipush (v := 100) (pc' := 28) dX8_parse_26 (by decide) rfl ?_
      refine Z_iload_n (i := 2) (pc' := 29) dX8_parse_28 rfl rfl rfl ?_
      refine Z_iadd (pc' := 30) dX8_parse_29 rfl ?_
      cases hF
      exact Z_iret (ty := .int) (w := ((100 : Int32) + x2_)) dX8_parse_30 rfl rfl (Nat.le_refl _) (Nat.le_refl _) hI
    · rw [if_neg h1] at hF
      refine Z_aload_n (i := 0) (pc' := 8) dX8_parse_7 rfl rfl rfl ?_
      refine Z_get (v := .ref (ad 0)) (pc' := 11) 0 zinX8 rfl (by decide) lkX8_7 (mR_obj hG) rfl dX8_parse_8 rfl ?_
      refine Z_iload_n (i := 2) (pc' := 12) dX8_parse_11 rfl rfl rfl ?_
      obtain ⟨h3, hF⟩ := ck_of hF
      refine Z_bald (pc' := 13) (aR_0 hG) (zIn_in h3) dX8_parse_12 rfl ?_
      obtain ⟨y4, hy4, hF⟩ := bd_of hF
      refine Z_callSi (As := [.int (σ 0 (x2_).toNatClampNeg)]) (st := []) (pc' := 16) (k' := 0) (n' := 0) (qX8_letterOf l hG hy4) ckX8_letterOf ksX8_letterOf mlX8_123 rfl rfl (Nat.le_of_ble_eq_true rfl) ⟨Nat.le_of_ble_eq_true rfl, Nat.le_of_ble_eq_true rfl⟩ ⟨Nat.le_of_ble_eq_true rfl, Nat.le_of_ble_eq_true rfl⟩ dX8_parse_13 rfl rfl rfl ?_
      refine Z_goto (tgt := 20) dX8_parse_16 (by decide) ?_
      refine Z_istore_nE (i := 3) (x' := y4.1) (vs' := [some (.ref (ad 42)), some (.int x1_), some (.int x2_), some (.int y4.1), none, none]) (pc' := 21) dX8_parse_20 rfl rfl (by decide) rfl rfl ?_
      refine Z_iload_n (i := 3) (pc' := 22) dX8_parse_21 rfl rfl rfl ?_
      refine Z_iconst (v := -1) (pc' := 23) dX8_parse_22 (by decide) rfl ?_
      refine Z_icmp_ne (tgt := 31) (pc' := 26) dX8_parse_23 (by decide) rfl (fun h5 => ?_) (fun h5 => ?_)
      · rw [if_neg h5] at hF
        refine Z_iload_n (i := 2) (pc' := 32) dX8_parse_31 rfl rfl rfl ?_
        refine Z_iconst (v := 1) (pc' := 33) dX8_parse_32 (by decide) rfl ?_
        refine Z_iadd (pc' := 34) dX8_parse_33 rfl ?_
        obtain ⟨v6, hv6, hF⟩ := zl_of hF
        refine Z_istore_nE (i := 2) (x' := v6) (vs' := [some (.ref (ad 42)), some (.int x1_), some (.int v6), some (.int y4.1), none, none]) (pc' := 35) dX8_parse_34 rfl hv6 (by decide) rfl rfl ?_
        refine Z_iload_n (i := 2) (pc' := 36) dX8_parse_35 rfl rfl rfl ?_
        refine Z_istoreE (i := 4) (x' := v6) (vs' := [some (.ref (ad 42)), some (.int x1_), some (.int v6), some (.int y4.1), some (.int v6), none]) (pc' := 38) dX8_parse_36 rfl (by decide) rfl rfl ?_
        refine Z_aload_n (i := 0) (pc' := 39) dX8_parse_38 rfl rfl rfl ?_
        refine Z_iload_n (i := 2) (pc' := 40) dX8_parse_39 rfl rfl rfl ?_
        refine Z_iload_n (i := 1) (pc' := 41) dX8_parse_40 rfl rfl rfl ?_
        obtain ⟨y7, hy7, hF⟩ := bd_of hF
        refine Z_callVi (As := [.int v6, .int x1_]) (st := []) (pc' := 44) (k' := 0) (n' := 0) (qX8_isDigit l hG hy7) ckX8_isDigit kvX8_isDigit mlX8_127 (mR_obj hG) rfl rfl rfl (Nat.le_of_ble_eq_true rfl) ⟨Nat.le_of_ble_eq_true rfl, Nat.le_of_ble_eq_true rfl⟩ ⟨Nat.le_of_ble_eq_true rfl, Nat.le_of_ble_eq_true rfl⟩ dX8_parse_41 rfl rfl rfl ?_
        refine Z_if_ne (tgt := 53) (pc' := 47) dX8_parse_44 (by decide) rfl (fun h8 => ?_) (fun h8 => ?_)
        · rw [if_neg h8] at hF
          refine Z_iconst (v := 0) (pc' := 54) dX8_parse_53 (by decide) rfl ?_
          refine Z_istoreE (i := 5) (x' := (0 : Int32)) (vs' := [some (.ref (ad 42)), some (.int x1_), some (.int v6), some (.int y4.1), some (.int v6), some (.int (0 : Int32))]) (pc' := 56) dX8_parse_54 rfl (by decide) rfl rfl ?_
          obtain ⟨r15, hr15, hF⟩ := bd_of hF
          refine Z_sub (vs' := [some (.ref (ad 42)), some (.int x1_), some (.int v6), some (.int y4.1), some (.int v6), some (.int (0 : Int32))]) (zSb_of _ _ ⟨rfl, ⟨rfl, ⟨rfl, ⟨rfl, ⟨rfl, ⟨rfl, trivial⟩⟩⟩⟩⟩⟩) (qX8_parse_L56 hG zF x1_ v6 y4.1 v6 (0 : Int32) y7.2 _ hr15 (fun w hw => ?_) (fun q16 hq16 => ?_))
          · rw [hw] at hF
            have hF := zsum_l hF
            cases hF
            exact hI
          · rw [hq16] at hF
            replace hF := zsum_r hF
            refine Z_iload_n (i := 3) (pc' := 104) dX8_parse_103 rfl rfl rfl ?_
            refine Z_iload (i := 5) (pc' := 106) dX8_parse_104 rfl rfl ?_
            obtain ⟨y17, hy17, hF⟩ := bd_of hF
            refine Z_callSi (As := [.int y4.1, .int q16.2.1]) (st := []) (pc' := 109) (k' := 0) (n' := 0) (qX8_canBe l hG hy17) ckX8_canBe ksX8_canBe mlX8_131 rfl rfl (Nat.le_of_ble_eq_true rfl) ⟨Nat.le_of_ble_eq_true rfl, Nat.le_of_ble_eq_true rfl⟩ ⟨Nat.le_of_ble_eq_true rfl, Nat.le_of_ble_eq_true rfl⟩ dX8_parse_106 rfl rfl rfl ?_
            refine Z_if_ne (tgt := 119) (pc' := 112) dX8_parse_109 (by decide) rfl (fun h18 => ?_) (fun h18 => ?_)
            · rw [if_neg h18] at hF
              refine Z_aload_n (i := 0) (pc' := 120) dX8_parse_119 rfl rfl rfl ?_
              refine Z_get (v := .ref (ad 3)) (pc' := 123) 3 zinX8 rfl (by decide) lkX8_17 (mR_obj hG) rfl dX8_parse_120 rfl ?_
              refine Z_iload_n (i := 3) (pc' := 124) dX8_parse_123 rfl rfl rfl ?_
              refine Z_iload (i := 5) (pc' := 126) dX8_parse_124 rfl rfl ?_
              obtain ⟨h19, hF⟩ := ck_of hF
              obtain ⟨σ20, hσ20, hF⟩ := zl_of hF
              refine Z_iast (pc' := 127) (aR_3 hG) (zIn_in h19) dX8_parse_126 rfl ?_
              refine Z_mem (sR_3 hG hσ20) ?_
              refine Z_iload_n (i := 2) (pc' := 128) dX8_parse_127 rfl rfl rfl ?_
              refine Z_iload_n (i := 1) (pc' := 129) dX8_parse_128 rfl rfl rfl ?_
              refine Z_icmp_ne (tgt := 134) (pc' := 132) dX8_parse_129 (by decide) rfl (fun h21 => ?_) (fun h21 => ?_)
              · rw [if_neg h21] at hF
                refine Z_aload_n (i := 0) (pc' := 135) dX8_parse_134 rfl rfl rfl ?_
                refine Z_get (v := .ref (ad 0)) (pc' := 138) 0 zinX8 rfl (by decide) lkX8_7 (mR_obj hG) rfl dX8_parse_135 rfl ?_
                refine Z_iload_n (i := 2) (pc' := 139) dX8_parse_138 rfl rfl rfl ?_
                obtain ⟨h22, hF⟩ := ck_of hF
                refine Z_bald (pc' := 140) (aR_0 hG) (zIn_in h22) dX8_parse_139 rfl ?_
                refine Z_bipush (v := 59) (pc' := 142) dX8_parse_140 (by decide) rfl ?_
                refine Z_icmp_eq (tgt := 151) (pc' := 145) dX8_parse_142 (by decide) rfl (fun h23 => ?_) (fun h23 => ?_)
                · rw [if_pos h23] at hF
                  refine Z_iload_n (i := 2) (pc' := 152) dX8_parse_151 rfl rfl rfl ?_
                  refine Z_iconst (v := 1) (pc' := 153) dX8_parse_152 (by decide) rfl ?_
                  refine Z_iadd (pc' := 154) dX8_parse_153 rfl ?_
                  obtain ⟨v24, hv24, hF⟩ := zl_of hF
                  refine Z_istore_nE (i := 2) (x' := v24) (vs' := [some (.ref (ad 42)), some (.int x1_), some (.int v24), some (.int y4.1), some (.int v6), some (.int q16.2.1)]) (pc' := 155) dX8_parse_154 rfl hv24 (by decide) rfl rfl ?_
                  refine Z_goto (tgt := 2) dX8_parse_155 (by decide) ?_
                  exact Z_sub (vs' := [some (.ref (ad 42)), some (.int x1_), some (.int v24), none, none, none]) (zSb_of _ _ ⟨rfl, ⟨rfl, ⟨rfl, trivial⟩⟩⟩) (ih x1_ v24 σ20 _ hF hI)
                · rw [if_neg h23] at hF
                  refine Z_sipush (v := 500) (pc' := 148) dX8_parse_145 (by decide) rfl ?_
                  refine Z_iload_n (i := 2) (pc' := 149) dX8_parse_148 rfl rfl rfl ?_
                  refine Z_iadd (pc' := 150) dX8_parse_149 rfl ?_
                  cases hF
                  exact Z_iret (ty := .int) (w := ((500 : Int32) + q16.1)) dX8_parse_150 rfl rfl (Nat.le_refl _) (Nat.le_refl _) hI
              · rw [if_pos h21] at hF
                refine Z_iconst (v := 0) (pc' := 133) dX8_parse_132 (by decide) rfl ?_
                cases hF
                exact Z_iret (ty := .int) (w := (0 : Int32)) dX8_parse_133 rfl rfl (Nat.le_refl _) (Nat.le_refl _) hI
            · rw [if_pos h18] at hF
              refine Z_sipush (v := 400) (pc' := 115) dX8_parse_112 (by decide) rfl ?_
              refine Z_iload (i := 4) (pc' := 117) dX8_parse_115 rfl rfl ?_
              refine Z_iadd (pc' := 118) dX8_parse_117 rfl ?_
              cases hF
              exact Z_iret (ty := .int) (w := ((400 : Int32) + v6)) dX8_parse_118 rfl rfl (Nat.le_refl _) (Nat.le_refl _) hI
        · rw [if_pos h8] at hF
          refine Z_sipush (v := 200) (pc' := 50) dX8_parse_47 (by decide) rfl ?_
          refine Z_iload_n (i := 2) (pc' := 51) dX8_parse_50 rfl rfl rfl ?_
          refine Z_iadd (pc' := 52) dX8_parse_51 rfl ?_
          cases hF
          exact Z_iret (ty := .int) (w := ((200 : Int32) + v6)) dX8_parse_52 rfl rfl (Nat.le_refl _) (Nat.le_refl _) hI
      · rw [if_pos h5] at hF
        refine Z_bipush (v := 100) (pc' := 28) dX8_parse_26 (by decide) rfl ?_
        refine Z_iload_n (i := 2) (pc' := 29) dX8_parse_28 rfl rfl rfl ?_
        refine Z_iadd (pc' := 30) dX8_parse_29 rfl ?_
        cases hF
        exact Z_iret (ty := .int) (w := ((100 : Int32) + x2_)) dX8_parse_30 rfl rfl (Nat.le_refl _) (Nat.le_refl _) hI
set_option maxHeartbeats 4000000 in
set_option maxRecDepth 100000 in
theorem qX8_parse (l : Launch) {ad dec : Nat → Nat} (hG : rG ad dec) {x1 : Int32} {σ : zS} {w : Int32 × zS} (hF : r_parse x1 σ = some w) : zMet l yX8_parse cX8_parse 6 (some .int) rmX8_parse [.ref (ad 42), .int x1] (mR ad dec σ) (fun v M' => v = (some (.int w.1)) ∧ M' = (mR ad dec w.2)) := by
  refine zMet.ofZ (vs := [some (.ref (ad 42)), some (.int x1), none, none, none, none]) (by decide) rfl (zCt_of _ ⟨rfl, ⟨rfl, trivial⟩⟩) (Nat.le_of_ble_eq_true rfl) (fun D => ?_)
  unfold r_parse at hF
  refine Z_iconst (v := 0) (pc' := 1) dX8_parse_0 (by decide) rfl ?_
  refine Z_istore_nE (i := 2) (x' := (0 : Int32)) (vs' := [some (.ref (ad 42)), some (.int x1), some (.int (0 : Int32)), none, none, none]) (pc' := 2) dX8_parse_1 rfl rfl (by decide) rfl rfl ?_
  obtain ⟨r25, hr25, hF⟩ := bd_of hF
  cases hF
  exact Z_sub (vs' := [some (.ref (ad 42)), some (.int x1), some (.int (0 : Int32)), none, none, none]) (zSb_of _ _ ⟨rfl, ⟨rfl, ⟨rfl, trivial⟩⟩⟩) (qX8_parse_L2 hG zF x1 (0 : Int32) σ _ hr25 (⟨rfl, rfl⟩))
abbrev rmX8_custom : Room := { frames := 2, cells := 0, slots := 0, locals := 47 }
def r_custom_L34 : Nat → Int32 → Int32 → zS → Option (zS)
  | 0, _, _, _ => none
  | n + 1, x2_, x3_, σ => (if (4 : Int32) ≤ x3_ then some (σ) else (if x2_ = 0 then (if zIn x3_ 4 = true then zl (zs σ 2 (x3_).toNatClampNeg (σ 3 (x3_).toNatClampNeg)) (fun (σ9 : zS) => zl (x3_ + 1) (fun (v10 : Int32) => (r_custom_L34 n x2_ v10 σ9))) else none) else some (σ)))
def r_custom  (x1 : Int32) (σ : zS) : Option (Int32 × zS) := (if x1 < 0 then some ((-1 : Int32), σ) else (if x1 ≤ (σ 1 0) then ((r_begins_3 σ).bind (fun y3 => ((r_parse x1 y3.2).bind (fun y4 => zl (zs y4.2 1 0 (0 : Int32)) (fun (σ5 : zS) => ((r_custom_L34 zF y4.1 (0 : Int32) σ5).bind (fun r11 => some (y4.1, r11)))))))) else some ((-1 : Int32), σ)))
set_option maxHeartbeats 4000000 in
set_option maxRecDepth 100000 in
theorem qX8_custom_L34 {l : Launch} {D : va_G} {M0 : zM} {Q : Option Value → zM → Prop} {ad dec : Nat → Nat} (hG : rG ad dec) : ∀ (n : Nat) (x2_ : Int32) (x3_ : Int32) (σ : zS) (r : (zS)), r_custom_L34 n x2_ x3_ σ = some r → (Z l yX8_custom cX8_custom 4 (some .int) rmX8_custom 0 0 D M0 Q 0 0 61 [none, none, some (.int x2_), none] [] (mR ad dec r)) → Z l yX8_custom cX8_custom 4 (some .int) rmX8_custom 0 0 D M0 Q 0 0 34 [some (.ref (ad 42)), none, some (.int x2_), some (.int x3_)] [] (mR ad dec σ) := by
  intro n
  induction n with
  | zero =>
    intro x2_ x3_ σ r hF hE
    exact absurd (show (none : Option (zS)) = some r from hF) (by simp)
  | succ n ih =>
    intro x2_ x3_ σ r hF hE
    replace hF : (if (4 : Int32) ≤ x3_ then some (σ) else (if x2_ = 0 then (if zIn x3_ 4 = true then zl (zs σ 2 (x3_).toNatClampNeg (σ 3 (x3_).toNatClampNeg)) (fun (σ9 : zS) => zl (x3_ + 1) (fun (v10 : Int32) => (r_custom_L34 n x2_ v10 σ9))) else none) else some (σ))) = some r := hF
    refine Z_iload_n (i := 3) (pc' := 35) dX8_custom_34 rfl rfl rfl ?_
    refine Z_iconst (v := 4) (pc' := 36) dX8_custom_35 (by decide) rfl ?_
    refine Z_icmp_ge (tgt := 61) (pc' := 39) dX8_custom_36 (by decide) rfl (fun h6 => ?_) (fun h6 => ?_)
    · rw [if_pos h6] at hF
      cases hF
      exact Z_sub (vs' := [none, none, some (.int x2_), none]) (zSb_of _ _ ⟨rfl, trivial⟩) hE
    · rw [if_neg h6] at hF
      refine Z_iload_n (i := 2) (pc' := 40) dX8_custom_39 rfl rfl rfl ?_
      refine Z_if_ne (tgt := 61) (pc' := 43) dX8_custom_40 (by decide) rfl (fun h7 => ?_) (fun h7 => ?_)
      · rw [if_neg h7] at hF
        cases hF
        exact Z_sub (vs' := [none, none, some (.int x2_), none]) (zSb_of _ _ ⟨rfl, trivial⟩) hE
      · rw [if_pos h7] at hF
        refine Z_aload_n (i := 0) (pc' := 44) dX8_custom_43 rfl rfl rfl ?_
        refine Z_get (v := .ref (ad 2)) (pc' := 47) 2 zinX8 rfl (by decide) lkX8_13 (mR_obj hG) rfl dX8_custom_44 rfl ?_
        refine Z_iload_n (i := 3) (pc' := 48) dX8_custom_47 rfl rfl rfl ?_
        refine Z_aload_n (i := 0) (pc' := 49) dX8_custom_48 rfl rfl rfl ?_
        refine Z_get (v := .ref (ad 3)) (pc' := 52) 3 zinX8 rfl (by decide) lkX8_17 (mR_obj hG) rfl dX8_custom_49 rfl ?_
        refine Z_iload_n (i := 3) (pc' := 53) dX8_custom_52 rfl rfl rfl ?_
        obtain ⟨h8, hF⟩ := ck_of hF
        refine Z_iald (pc' := 54) (aR_3 hG) (zIn_in h8) dX8_custom_53 rfl ?_
        obtain ⟨σ9, hσ9, hF⟩ := zl_of hF
        refine Z_iast (pc' := 55) (aR_2 hG) (zIn_in h8) dX8_custom_54 rfl ?_
        refine Z_mem (sR_2 hG hσ9) ?_
        obtain ⟨v10, hv10, hF⟩ := zl_of hF
        refine Z_iinc (i := 3) (v := v10) (vs' := [some (.ref (ad 42)), none, some (.int x2_), some (.int v10)]) (pc' := 58) dX8_custom_55 rfl (by rw [hv10]; rfl) (by decide) rfl rfl ?_
        refine Z_goto (tgt := 34) dX8_custom_58 (by decide) ?_
        exact Z_sub (vs' := [some (.ref (ad 42)), none, some (.int x2_), some (.int v10)]) (zSb_of _ _ ⟨rfl, ⟨rfl, ⟨rfl, trivial⟩⟩⟩) (ih x2_ v10 σ9 _ hF hE)
set_option maxHeartbeats 4000000 in
set_option maxRecDepth 100000 in
theorem qX8_custom (l : Launch) {ad dec : Nat → Nat} (hG : rG ad dec) {x1 : Int32} {σ : zS} {w : Int32 × zS} (hF : r_custom x1 σ = some w) : zMet l yX8_custom cX8_custom 4 (some .int) rmX8_custom [.ref (ad 42), .int x1] (mR ad dec σ) (fun v M' => v = (some (.int w.1)) ∧ M' = (mR ad dec w.2)) := by
  refine zMet.ofZ (vs := [some (.ref (ad 42)), some (.int x1), none, none]) (by decide) rfl (zCt_of _ ⟨rfl, ⟨rfl, trivial⟩⟩) (Nat.le_of_ble_eq_true rfl) (fun D => ?_)
  unfold r_custom at hF
  refine Z_iload_n (i := 1) (pc' := 1) dX8_custom_0 rfl rfl rfl ?_
  refine Z_if_lt (tgt := 12) (pc' := 4) dX8_custom_1 (by decide) rfl (fun h1 => ?_) (fun h1 => ?_)
  · rw [if_pos h1] at hF
    refine Z_iconst (v := -1) (pc' := 13) dX8_custom_12 (by decide) rfl ?_
    cases hF
    exact Z_iret (ty := .int) (w := (-1 : Int32)) dX8_custom_13 rfl rfl (Nat.le_refl _) (Nat.le_refl _) ⟨rfl, rfl⟩
  · rw [if_neg h1] at hF
    refine Z_iload_n (i := 1) (pc' := 5) dX8_custom_4 rfl rfl rfl ?_
    refine Z_aload_n (i := 0) (pc' := 6) dX8_custom_5 rfl rfl rfl ?_
    refine Z_get (v := .int (σ 1 0)) (pc' := 9) 1 zinX8 rfl (by decide) lkX8_116 (mR_obj hG) rfl dX8_custom_6 rfl ?_
    refine Z_icmp_le (tgt := 14) (pc' := 12) dX8_custom_9 (by decide) rfl (fun h2 => ?_) (fun h2 => ?_)
    · rw [if_pos h2] at hF
      refine Z_aload_n (i := 0) (pc' := 15) dX8_custom_14 rfl rfl rfl ?_
      refine Z_get (v := .ref (ad 3)) (pc' := 18) 3 zinX8 rfl (by decide) lkX8_17 (mR_obj hG) rfl dX8_custom_15 rfl ?_
      obtain ⟨y3, hy3, hF⟩ := bd_of hF
      refine Z_callSv (As := [.ref (ad 3)]) (st := []) (pc' := 21) (k' := 0) (n' := 0) (qX8_begins_3 l hG hy3) ckX8_begins ksX8_begins mlX8_112 rfl rfl (Nat.le_of_ble_eq_true rfl) ⟨Nat.le_of_ble_eq_true rfl, Nat.le_of_ble_eq_true rfl⟩ ⟨Nat.le_of_ble_eq_true rfl, Nat.le_of_ble_eq_true rfl⟩ dX8_custom_18 rfl rfl rfl ?_
      refine Z_aload_n (i := 0) (pc' := 22) dX8_custom_21 rfl rfl rfl ?_
      refine Z_iload_n (i := 1) (pc' := 23) dX8_custom_22 rfl rfl rfl ?_
      obtain ⟨y4, hy4, hF⟩ := bd_of hF
      refine Z_callVi (As := [.int x1]) (st := []) (pc' := 26) (k' := 0) (n' := 0) (qX8_parse l hG hy4) ckX8_parse kvX8_parse mlX8_134 (mR_obj hG) rfl rfl rfl (Nat.le_of_ble_eq_true rfl) ⟨Nat.le_of_ble_eq_true rfl, Nat.le_of_ble_eq_true rfl⟩ ⟨Nat.le_of_ble_eq_true rfl, Nat.le_of_ble_eq_true rfl⟩ dX8_custom_23 rfl rfl rfl ?_
      refine Z_istore_nE (i := 2) (x' := y4.1) (vs' := [some (.ref (ad 42)), some (.int x1), some (.int y4.1), none]) (pc' := 27) dX8_custom_26 rfl rfl (by decide) rfl rfl ?_
      refine Z_aload_n (i := 0) (pc' := 28) dX8_custom_27 rfl rfl rfl ?_
      refine Z_iconst (v := 0) (pc' := 29) dX8_custom_28 (by decide) rfl ?_
      obtain ⟨σ5, hσ5, hF⟩ := zl_of hF
      refine Z_put (fs' := (rFs ad y4.2).set 1 (.int (0 : Int32))) (pc' := 32) 1 zinX8 tyX8_ok nmX8 rfl (by decide) lkX8_116 rfl (mR_obj hG) rfl rfl rfl (Nat.le_of_ble_eq_true rfl) rfl dX8_custom_29 rfl ?_
      refine Z_mem (pR_1 hG hσ5) ?_
      refine Z_iconst (v := 0) (pc' := 33) dX8_custom_32 (by decide) rfl ?_
      refine Z_istore_nE (i := 3) (x' := (0 : Int32)) (vs' := [some (.ref (ad 42)), some (.int x1), some (.int y4.1), some (.int (0 : Int32))]) (pc' := 34) dX8_custom_33 rfl rfl (by decide) rfl rfl ?_
      obtain ⟨r11, hr11, hF⟩ := bd_of hF
      refine Z_sub (vs' := [some (.ref (ad 42)), none, some (.int y4.1), some (.int (0 : Int32))]) (zSb_of _ _ ⟨rfl, ⟨rfl, ⟨rfl, trivial⟩⟩⟩) (qX8_custom_L34 hG zF y4.1 (0 : Int32) σ5 _ hr11 ?_)
      refine Z_iload_n (i := 2) (pc' := 62) dX8_custom_61 rfl rfl rfl ?_
      cases hF
      exact Z_iret (ty := .int) (w := y4.1) dX8_custom_62 rfl rfl (Nat.le_refl _) (Nat.le_refl _) ⟨rfl, rfl⟩
    · rw [if_neg h2] at hF
      refine Z_iconst (v := -1) (pc' := 13) dX8_custom_12 (by decide) rfl ?_
      cases hF
      exact Z_iret (ty := .int) (w := (-1 : Int32)) dX8_custom_13 rfl rfl (Nat.le_refl _) (Nat.le_refl _) ⟨rfl, rfl⟩
abbrev rmX8_isMan : Room := { frames := 0, cells := 0, slots := 0, locals := 0 }
def r_isMan  (x1 : Int32) (σ : zS) : Option (Int32 × zS) := (if x1 < 0 then some ((0 : Int32), σ) else (if (σ 5 0) ≤ x1 then some ((0 : Int32), σ) else some ((1 : Int32), σ)))
set_option maxHeartbeats 4000000 in
set_option maxRecDepth 100000 in
theorem qX8_isMan (l : Launch) {ad dec : Nat → Nat} (hG : rG ad dec) {x1 : Int32} {σ : zS} {w : Int32 × zS} (hF : r_isMan x1 σ = some w) : zMet l yX8_isMan cX8_isMan 2 (some .boolean) rmX8_isMan [.ref (ad 42), .int x1] (mR ad dec σ) (fun v M' => v = (some (.int w.1)) ∧ M' = (mR ad dec w.2)) := by
  refine zMet.ofZ (vs := [some (.ref (ad 42)), some (.int x1)]) (by decide) rfl (zCt_of _ ⟨rfl, ⟨rfl, trivial⟩⟩) (Nat.le_of_ble_eq_true rfl) (fun D => ?_)
  unfold r_isMan at hF
  refine Z_iload_n (i := 1) (pc' := 1) dX8_isMan_0 rfl rfl rfl ?_
  refine Z_if_lt (tgt := 16) (pc' := 4) dX8_isMan_1 (by decide) rfl (fun h1 => ?_) (fun h1 => ?_)
  · rw [if_pos h1] at hF
    refine Z_iconst (v := 0) (pc' := 17) dX8_isMan_16 (by decide) rfl ?_
    cases hF
    exact Z_iret (ty := .boolean) (w := (0 : Int32)) dX8_isMan_17 rfl rfl (Nat.le_refl _) (Nat.le_refl _) ⟨rfl, rfl⟩
  · rw [if_neg h1] at hF
    refine Z_iload_n (i := 1) (pc' := 5) dX8_isMan_4 rfl rfl rfl ?_
    refine Z_aload_n (i := 0) (pc' := 6) dX8_isMan_5 rfl rfl rfl ?_
    refine Z_get (v := .int (σ 5 0)) (pc' := 9) 5 zinX8 rfl (by decide) lkX8_137 (mR_obj hG) rfl dX8_isMan_6 rfl ?_
    refine Z_icmp_ge (tgt := 16) (pc' := 12) dX8_isMan_9 (by decide) rfl (fun h2 => ?_) (fun h2 => ?_)
    · rw [if_pos h2] at hF
      refine Z_iconst (v := 0) (pc' := 17) dX8_isMan_16 (by decide) rfl ?_
      cases hF
      exact Z_iret (ty := .boolean) (w := (0 : Int32)) dX8_isMan_17 rfl rfl (Nat.le_refl _) (Nat.le_refl _) ⟨rfl, rfl⟩
    · rw [if_neg h2] at hF
      refine Z_iconst (v := 1) (pc' := 13) dX8_isMan_12 (by decide) rfl ?_
      refine Z_goto (tgt := 17) dX8_isMan_13 (by decide) ?_
      cases hF
      exact Z_iret (ty := .boolean) (w := (1 : Int32)) dX8_isMan_17 rfl rfl (Nat.le_refl _) (Nat.le_refl _) ⟨rfl, rfl⟩
abbrev rmX8_lives : Room := { frames := 1, cells := 0, slots := 0, locals := 21 }
def r_lives  (x1 : Int32) (σ : zS) : Option (Int32 × zS) := ((r_isMan x1 σ).bind (fun y1 => (if y1.1 = 0 then some ((0 : Int32), y1.2) else (if zIn x1 16 = true then (if (y1.2 9 (x1).toNatClampNeg) = 0 then some ((0 : Int32), y1.2) else some ((1 : Int32), y1.2)) else none))))
set_option maxHeartbeats 4000000 in
set_option maxRecDepth 100000 in
theorem qX8_lives (l : Launch) {ad dec : Nat → Nat} (hG : rG ad dec) {x1 : Int32} {σ : zS} {w : Int32 × zS} (hF : r_lives x1 σ = some w) : zMet l yX8_lives cX8_lives 2 (some .boolean) rmX8_lives [.ref (ad 42), .int x1] (mR ad dec σ) (fun v M' => v = (some (.int w.1)) ∧ M' = (mR ad dec w.2)) := by
  refine zMet.ofZ (vs := [some (.ref (ad 42)), some (.int x1)]) (by decide) rfl (zCt_of _ ⟨rfl, ⟨rfl, trivial⟩⟩) (Nat.le_of_ble_eq_true rfl) (fun D => ?_)
  unfold r_lives at hF
  refine Z_aload_n (i := 0) (pc' := 1) dX8_lives_0 rfl rfl rfl ?_
  refine Z_iload_n (i := 1) (pc' := 2) dX8_lives_1 rfl rfl rfl ?_
  obtain ⟨y1, hy1, hF⟩ := bd_of hF
  refine Z_callVi (As := [.int x1]) (st := []) (pc' := 5) (k' := 0) (n' := 0) (qX8_isMan l hG hy1) ckX8_isMan kvX8_isMan mlX8_140 (mR_obj hG) rfl rfl rfl (Nat.le_of_ble_eq_true rfl) ⟨Nat.le_of_ble_eq_true rfl, Nat.le_of_ble_eq_true rfl⟩ ⟨Nat.le_of_ble_eq_true rfl, Nat.le_of_ble_eq_true rfl⟩ dX8_lives_2 rfl rfl rfl ?_
  refine Z_if_eq (tgt := 21) (pc' := 8) dX8_lives_5 (by decide) rfl (fun h2 => ?_) (fun h2 => ?_)
  · rw [if_pos h2] at hF
    refine Z_iconst (v := 0) (pc' := 22) dX8_lives_21 (by decide) rfl ?_
    cases hF
    exact Z_iret (ty := .boolean) (w := (0 : Int32)) dX8_lives_22 rfl rfl (Nat.le_refl _) (Nat.le_refl _) ⟨rfl, rfl⟩
  · rw [if_neg h2] at hF
    refine Z_aload_n (i := 0) (pc' := 9) dX8_lives_8 rfl rfl rfl ?_
    refine Z_get (v := .ref (ad 9)) (pc' := 12) 9 zinX8 rfl (by decide) lkX8_30 (mR_obj hG) rfl dX8_lives_9 rfl ?_
    refine Z_iload_n (i := 1) (pc' := 13) dX8_lives_12 rfl rfl rfl ?_
    obtain ⟨h3, hF⟩ := ck_of hF
    refine Z_zald (pc' := 14) (aR_9 hG) (zIn_in h3) dX8_lives_13 rfl ?_
    refine Z_if_eq (tgt := 21) (pc' := 17) dX8_lives_14 (by decide) rfl (fun h4 => ?_) (fun h4 => ?_)
    · rw [if_pos h4] at hF
      refine Z_iconst (v := 0) (pc' := 22) dX8_lives_21 (by decide) rfl ?_
      cases hF
      exact Z_iret (ty := .boolean) (w := (0 : Int32)) dX8_lives_22 rfl rfl (Nat.le_refl _) (Nat.le_refl _) ⟨rfl, rfl⟩
    · rw [if_neg h4] at hF
      refine Z_iconst (v := 1) (pc' := 18) dX8_lives_17 (by decide) rfl ?_
      refine Z_goto (tgt := 22) dX8_lives_18 (by decide) ?_
      cases hF
      exact Z_iret (ty := .boolean) (w := (1 : Int32)) dX8_lives_22 rfl rfl (Nat.le_refl _) (Nat.le_refl _) ⟨rfl, rfl⟩
abbrev rmX8_islands : Room := { frames := 0, cells := 0, slots := 0, locals := 0 }
def r_islands  (x1 : Int32) (σ : zS) : Option (Int32 × zS) := (if x1 < (3 : Int32) then some ((0 : Int32), σ) else (if (8 : Int32) < x1 then some ((0 : Int32), σ) else (if (σ 5 0) ≤ 0 then zl (zs σ 4 0 x1) (fun (σ4 : zS) => some ((1 : Int32), σ4)) else some ((0 : Int32), σ))))
set_option maxHeartbeats 4000000 in
set_option maxRecDepth 100000 in
theorem qX8_islands (l : Launch) {ad dec : Nat → Nat} (hG : rG ad dec) {x1 : Int32} {σ : zS} {w : Int32 × zS} (hF : r_islands x1 σ = some w) : zMet l yX8_islands cX8_islands 2 (some .boolean) rmX8_islands [.ref (ad 42), .int x1] (mR ad dec σ) (fun v M' => v = (some (.int w.1)) ∧ M' = (mR ad dec w.2)) := by
  refine zMet.ofZ (vs := [some (.ref (ad 42)), some (.int x1)]) (by decide) rfl (zCt_of _ ⟨rfl, ⟨rfl, trivial⟩⟩) (Nat.le_of_ble_eq_true rfl) (fun D => ?_)
  unfold r_islands at hF
  refine Z_iload_n (i := 1) (pc' := 1) dX8_islands_0 rfl rfl rfl ?_
  refine Z_iconst (v := 3) (pc' := 2) dX8_islands_1 (by decide) rfl ?_
  refine Z_icmp_lt (tgt := 18) (pc' := 5) dX8_islands_2 (by decide) rfl (fun h1 => ?_) (fun h1 => ?_)
  · rw [if_pos h1] at hF
    refine Z_iconst (v := 0) (pc' := 19) dX8_islands_18 (by decide) rfl ?_
    cases hF
    exact Z_iret (ty := .boolean) (w := (0 : Int32)) dX8_islands_19 rfl rfl (Nat.le_refl _) (Nat.le_refl _) ⟨rfl, rfl⟩
  · rw [if_neg h1] at hF
    refine Z_iload_n (i := 1) (pc' := 6) dX8_islands_5 rfl rfl rfl ?_
    refine Z_bipush (v := 8) (pc' := 8) dX8_islands_6 (by decide) rfl ?_
    refine Z_icmp_gt (tgt := 18) (pc' := 11) dX8_islands_8 (by decide) rfl (fun h2 => ?_) (fun h2 => ?_)
    · rw [if_pos h2] at hF
      refine Z_iconst (v := 0) (pc' := 19) dX8_islands_18 (by decide) rfl ?_
      cases hF
      exact Z_iret (ty := .boolean) (w := (0 : Int32)) dX8_islands_19 rfl rfl (Nat.le_refl _) (Nat.le_refl _) ⟨rfl, rfl⟩
    · rw [if_neg h2] at hF
      refine Z_aload_n (i := 0) (pc' := 12) dX8_islands_11 rfl rfl rfl ?_
      refine Z_get (v := .int (σ 5 0)) (pc' := 15) 5 zinX8 rfl (by decide) lkX8_137 (mR_obj hG) rfl dX8_islands_12 rfl ?_
      refine Z_if_le (tgt := 20) (pc' := 18) dX8_islands_15 (by decide) rfl (fun h3 => ?_) (fun h3 => ?_)
      · rw [if_pos h3] at hF
        refine Z_aload_n (i := 0) (pc' := 21) dX8_islands_20 rfl rfl rfl ?_
        refine Z_iload_n (i := 1) (pc' := 22) dX8_islands_21 rfl rfl rfl ?_
        obtain ⟨σ4, hσ4, hF⟩ := zl_of hF
        refine Z_put (fs' := (rFs ad σ).set 4 (.int x1)) (pc' := 25) 4 zinX8 tyX8_ok nmX8 rfl (by decide) lkX8_20 rfl (mR_obj hG) rfl rfl rfl (Nat.le_of_ble_eq_true rfl) rfl dX8_islands_22 rfl ?_
        refine Z_mem (pR_4 hG hσ4) ?_
        refine Z_iconst (v := 1) (pc' := 26) dX8_islands_25 (by decide) rfl ?_
        cases hF
        exact Z_iret (ty := .boolean) (w := (1 : Int32)) dX8_islands_26 rfl rfl (Nat.le_refl _) (Nat.le_refl _) ⟨rfl, rfl⟩
      · rw [if_neg h3] at hF
        refine Z_iconst (v := 0) (pc' := 19) dX8_islands_18 (by decide) rfl ?_
        cases hF
        exact Z_iret (ty := .boolean) (w := (0 : Int32)) dX8_islands_19 rfl rfl (Nat.le_refl _) (Nat.le_refl _) ⟨rfl, rfl⟩
abbrev rmX8_man : Room := { frames := 0, cells := 0, slots := 0, locals := 0 }
def r_man  (x1 : Int32) (σ : zS) : Option (Int32 × zS) := (if x1 < 0 then some ((-1 : Int32), σ) else (if (σ 4 0) ≤ x1 then some ((-1 : Int32), σ) else (if (σ 5 0) = (16 : Int32) then some ((-1 : Int32), σ) else (if zIn (σ 5 0) 16 = true then zl (zs σ 7 (σ 5 0).toNatClampNeg x1) (fun (σ5 : zS) => (if zIn (σ5 5 0) 16 = true then zl (zs σ5 9 (σ5 5 0).toNatClampNeg (vp_nar .boolean (1 : Int32))) (fun (σ7 : zS) => zl (zs σ7 5 0 ((σ7 5 0) + (1 : Int32))) (fun (σ8 : zS) => some (((σ8 5 0) - (1 : Int32)), σ8))) else none)) else none))))
set_option maxHeartbeats 4000000 in
set_option maxRecDepth 100000 in
theorem qX8_man (l : Launch) {ad dec : Nat → Nat} (hG : rG ad dec) {x1 : Int32} {σ : zS} {w : Int32 × zS} (hF : r_man x1 σ = some w) : zMet l yX8_man cX8_man 2 (some .int) rmX8_man [.ref (ad 42), .int x1] (mR ad dec σ) (fun v M' => v = (some (.int w.1)) ∧ M' = (mR ad dec w.2)) := by
  refine zMet.ofZ (vs := [some (.ref (ad 42)), some (.int x1)]) (by decide) rfl (zCt_of _ ⟨rfl, ⟨rfl, trivial⟩⟩) (Nat.le_of_ble_eq_true rfl) (fun D => ?_)
  unfold r_man at hF
  refine Z_iload_n (i := 1) (pc' := 1) dX8_man_0 rfl rfl rfl ?_
  refine Z_if_lt (tgt := 21) (pc' := 4) dX8_man_1 (by decide) rfl (fun h1 => ?_) (fun h1 => ?_)
  · rw [if_pos h1] at hF
    refine Z_iconst (v := -1) (pc' := 22) dX8_man_21 (by decide) rfl ?_
    cases hF
    exact Z_iret (ty := .int) (w := (-1 : Int32)) dX8_man_22 rfl rfl (Nat.le_refl _) (Nat.le_refl _) ⟨rfl, rfl⟩
  · rw [if_neg h1] at hF
    refine Z_iload_n (i := 1) (pc' := 5) dX8_man_4 rfl rfl rfl ?_
    refine Z_aload_n (i := 0) (pc' := 6) dX8_man_5 rfl rfl rfl ?_
    refine Z_get (v := .int (σ 4 0)) (pc' := 9) 4 zinX8 rfl (by decide) lkX8_20 (mR_obj hG) rfl dX8_man_6 rfl ?_
    refine Z_icmp_ge (tgt := 21) (pc' := 12) dX8_man_9 (by decide) rfl (fun h2 => ?_) (fun h2 => ?_)
    · rw [if_pos h2] at hF
      refine Z_iconst (v := -1) (pc' := 22) dX8_man_21 (by decide) rfl ?_
      cases hF
      exact Z_iret (ty := .int) (w := (-1 : Int32)) dX8_man_22 rfl rfl (Nat.le_refl _) (Nat.le_refl _) ⟨rfl, rfl⟩
    · rw [if_neg h2] at hF
      refine Z_aload_n (i := 0) (pc' := 13) dX8_man_12 rfl rfl rfl ?_
      refine Z_get (v := .int (σ 5 0)) (pc' := 16) 5 zinX8 rfl (by decide) lkX8_137 (mR_obj hG) rfl dX8_man_13 rfl ?_
      refine Z_bipush (v := 16) (pc' := 18) dX8_man_16 (by decide) rfl ?_
      refine Z_icmp_ne (tgt := 23) (pc' := 21) dX8_man_18 (by decide) rfl (fun h3 => ?_) (fun h3 => ?_)
      · rw [if_neg h3] at hF
        refine Z_aload_n (i := 0) (pc' := 24) dX8_man_23 rfl rfl rfl ?_
        refine Z_get (v := .ref (ad 7)) (pc' := 27) 7 zinX8 rfl (by decide) lkX8_24 (mR_obj hG) rfl dX8_man_24 rfl ?_
        refine Z_aload_n (i := 0) (pc' := 28) dX8_man_27 rfl rfl rfl ?_
        refine Z_get (v := .int (σ 5 0)) (pc' := 31) 5 zinX8 rfl (by decide) lkX8_137 (mR_obj hG) rfl dX8_man_28 rfl ?_
        refine Z_iload_n (i := 1) (pc' := 32) dX8_man_31 rfl rfl rfl ?_
        obtain ⟨h4, hF⟩ := ck_of hF
        obtain ⟨σ5, hσ5, hF⟩ := zl_of hF
        refine Z_iast (pc' := 33) (aR_7 hG) (zIn_in h4) dX8_man_32 rfl ?_
        refine Z_mem (sR_7 hG hσ5) ?_
        refine Z_aload_n (i := 0) (pc' := 34) dX8_man_33 rfl rfl rfl ?_
        refine Z_get (v := .ref (ad 9)) (pc' := 37) 9 zinX8 rfl (by decide) lkX8_30 (mR_obj hG) rfl dX8_man_34 rfl ?_
        refine Z_aload_n (i := 0) (pc' := 38) dX8_man_37 rfl rfl rfl ?_
        refine Z_get (v := .int (σ5 5 0)) (pc' := 41) 5 zinX8 rfl (by decide) lkX8_137 (mR_obj hG) rfl dX8_man_38 rfl ?_
        refine Z_iconst (v := 1) (pc' := 42) dX8_man_41 (by decide) rfl ?_
        obtain ⟨h6, hF⟩ := ck_of hF
        obtain ⟨σ7, hσ7, hF⟩ := zl_of hF
        refine Z_zast (pc' := 43) (aR_9 hG) (zIn_in h6) dX8_man_42 rfl ?_
        refine Z_mem (sR_9 hG hσ7) ?_
        refine Z_aload_n (i := 0) (pc' := 44) dX8_man_43 rfl rfl rfl ?_
        refine Z_aload_n (i := 0) (pc' := 45) dX8_man_44 rfl rfl rfl ?_
        refine Z_get (v := .int (σ7 5 0)) (pc' := 48) 5 zinX8 rfl (by decide) lkX8_137 (mR_obj hG) rfl dX8_man_45 rfl ?_
        refine Z_iconst (v := 1) (pc' := 49) dX8_man_48 (by decide) rfl ?_
        refine Z_iadd (pc' := 50) dX8_man_49 rfl ?_
        obtain ⟨σ8, hσ8, hF⟩ := zl_of hF
        refine Z_put (fs' := (rFs ad σ7).set 5 (.int ((σ7 5 0) + (1 : Int32)))) (pc' := 53) 5 zinX8 tyX8_ok nmX8 rfl (by decide) lkX8_137 rfl (mR_obj hG) rfl rfl rfl (Nat.le_of_ble_eq_true rfl) rfl dX8_man_50 rfl ?_
        refine Z_mem (pR_5 hG hσ8) ?_
        refine Z_aload_n (i := 0) (pc' := 54) dX8_man_53 rfl rfl rfl ?_
        refine Z_get (v := .int (σ8 5 0)) (pc' := 57) 5 zinX8 rfl (by decide) lkX8_137 (mR_obj hG) rfl dX8_man_54 rfl ?_
        refine Z_iconst (v := 1) (pc' := 58) dX8_man_57 (by decide) rfl ?_
        refine Z_isub (pc' := 59) dX8_man_58 rfl ?_
        cases hF
        exact Z_iret (ty := .int) (w := ((σ8 5 0) - (1 : Int32))) dX8_man_59 rfl rfl (Nat.le_refl _) (Nat.le_refl _) ⟨rfl, rfl⟩
      · rw [if_pos h3] at hF
        refine Z_iconst (v := -1) (pc' := 22) dX8_man_21 (by decide) rfl ?_
        cases hF
        exact Z_iret (ty := .int) (w := (-1 : Int32)) dX8_man_22 rfl rfl (Nat.le_refl _) (Nat.le_refl _) ⟨rfl, rfl⟩
abbrev rmX8_nextOf : Room := { frames := 0, cells := 0, slots := 0, locals := 0 }
def r_nextOf  (x1 : Int32) (σ : zS) : Option (Int32 × zS) := (if ¬ (σ 4 0) = 0 then some (((x1 + (1 : Int32)) - (x1 + (1 : Int32)) / (σ 4 0) * (σ 4 0)), σ) else none)
set_option maxHeartbeats 4000000 in
set_option maxRecDepth 100000 in
theorem qX8_nextOf (l : Launch) {ad dec : Nat → Nat} (hG : rG ad dec) {x1 : Int32} {σ : zS} {w : Int32 × zS} (hF : r_nextOf x1 σ = some w) : zMet l yX8_nextOf cX8_nextOf 2 (some .int) rmX8_nextOf [.ref (ad 42), .int x1] (mR ad dec σ) (fun v M' => v = (some (.int w.1)) ∧ M' = (mR ad dec w.2)) := by
  refine zMet.ofZ (vs := [some (.ref (ad 42)), some (.int x1)]) (by decide) rfl (zCt_of _ ⟨rfl, ⟨rfl, trivial⟩⟩) (Nat.le_of_ble_eq_true rfl) (fun D => ?_)
  unfold r_nextOf at hF
  refine Z_iload_n (i := 1) (pc' := 1) dX8_nextOf_0 rfl rfl rfl ?_
  refine Z_iconst (v := 1) (pc' := 2) dX8_nextOf_1 (by decide) rfl ?_
  refine Z_iadd (pc' := 3) dX8_nextOf_2 rfl ?_
  refine Z_aload_n (i := 0) (pc' := 4) dX8_nextOf_3 rfl rfl rfl ?_
  refine Z_get (v := .int (σ 4 0)) (pc' := 7) 4 zinX8 rfl (by decide) lkX8_20 (mR_obj hG) rfl dX8_nextOf_4 rfl ?_
  obtain ⟨h1, hF⟩ := ck_of hF
  refine Z_irem (pc' := 8) h1 dX8_nextOf_7 rfl ?_
  cases hF
  exact Z_iret (ty := .int) (w := ((x1 + (1 : Int32)) - (x1 + (1 : Int32)) / (σ 4 0) * (σ 4 0))) dX8_nextOf_8 rfl rfl (Nat.le_refl _) (Nat.le_refl _) ⟨rfl, rfl⟩
abbrev rmX8_partners : Room := { frames := 2, cells := 0, slots := 0, locals := 42 }
def r_partners  (x1 : Int32) (x2 : Int32) (σ : zS) : Option (Int32 × zS) := ((r_lives x1 σ).bind (fun y1 => (if y1.1 = 0 then some ((0 : Int32), y1.2) else ((r_lives x2 y1.2).bind (fun y3 => (if y3.1 = 0 then some ((0 : Int32), y3.2) else (if zIn (((16 : Int32) * x1) + x2) 256 = true then (if (y3.2 10 (((16 : Int32) * x1) + x2).toNatClampNeg) = 0 then (if zIn x1 16 = true then ((r_nextOf (y3.2 7 (x1).toNatClampNeg) y3.2).bind (fun y8 => (if zIn x2 16 = true then (if y8.1 = (y8.2 7 (x2).toNatClampNeg) then zl (zs y8.2 10 (((16 : Int32) * x1) + x2).toNatClampNeg (vp_nar .boolean (1 : Int32))) (fun (σ11 : zS) => (if zIn (((16 : Int32) * x2) + x1) 256 = true then zl (zs σ11 10 (((16 : Int32) * x2) + x1).toNatClampNeg (vp_nar .boolean (1 : Int32))) (fun (σ13 : zS) => some ((1 : Int32), σ13)) else none)) else ((r_nextOf (y8.2 7 (x2).toNatClampNeg) y8.2).bind (fun y14 => (if y14.1 = (y14.2 7 (x1).toNatClampNeg) then zl (zs y14.2 10 (((16 : Int32) * x1) + x2).toNatClampNeg (vp_nar .boolean (1 : Int32))) (fun (σ16 : zS) => (if zIn (((16 : Int32) * x2) + x1) 256 = true then zl (zs σ16 10 (((16 : Int32) * x2) + x1).toNatClampNeg (vp_nar .boolean (1 : Int32))) (fun (σ18 : zS) => some ((1 : Int32), σ18)) else none)) else some ((0 : Int32), y14.2))))) else none))) else none) else some ((0 : Int32), y3.2)) else none)))))))
set_option maxHeartbeats 4000000 in
set_option maxRecDepth 100000 in
theorem qX8_partners (l : Launch) {ad dec : Nat → Nat} (hG : rG ad dec) {x1 : Int32} {x2 : Int32} {σ : zS} {w : Int32 × zS} (hF : r_partners x1 x2 σ = some w) : zMet l yX8_partners cX8_partners 3 (some .boolean) rmX8_partners [.ref (ad 42), .int x1, .int x2] (mR ad dec σ) (fun v M' => v = (some (.int w.1)) ∧ M' = (mR ad dec w.2)) := by
  refine zMet.ofZ (vs := [some (.ref (ad 42)), some (.int x1), some (.int x2)]) (by decide) rfl (zCt_of _ ⟨rfl, ⟨rfl, ⟨rfl, trivial⟩⟩⟩) (Nat.le_of_ble_eq_true rfl) (fun D => ?_)
  unfold r_partners at hF
  refine Z_aload_n (i := 0) (pc' := 1) dX8_partners_0 rfl rfl rfl ?_
  refine Z_iload_n (i := 1) (pc' := 2) dX8_partners_1 rfl rfl rfl ?_
  obtain ⟨y1, hy1, hF⟩ := bd_of hF
  refine Z_callVi (As := [.int x1]) (st := []) (pc' := 5) (k' := 0) (n' := 0) (qX8_lives l hG hy1) ckX8_lives kvX8_lives mlX8_144 (mR_obj hG) rfl rfl rfl (Nat.le_of_ble_eq_true rfl) ⟨Nat.le_of_ble_eq_true rfl, Nat.le_of_ble_eq_true rfl⟩ ⟨Nat.le_of_ble_eq_true rfl, Nat.le_of_ble_eq_true rfl⟩ dX8_partners_2 rfl rfl rfl ?_
  refine Z_if_eq (tgt := 30) (pc' := 8) dX8_partners_5 (by decide) rfl (fun h2 => ?_) (fun h2 => ?_)
  · rw [if_pos h2] at hF
    refine Z_iconst (v := 0) (pc' := 31) dX8_partners_30 (by decide) rfl ?_
    cases hF
    exact Z_iret (ty := .boolean) (w := (0 : Int32)) dX8_partners_31 rfl rfl (Nat.le_refl _) (Nat.le_refl _) ⟨rfl, rfl⟩
  · rw [if_neg h2] at hF
    refine Z_aload_n (i := 0) (pc' := 9) dX8_partners_8 rfl rfl rfl ?_
    refine Z_iload_n (i := 2) (pc' := 10) dX8_partners_9 rfl rfl rfl ?_
    obtain ⟨y3, hy3, hF⟩ := bd_of hF
    refine Z_callVi (As := [.int x2]) (st := []) (pc' := 13) (k' := 0) (n' := 0) (qX8_lives l hG hy3) ckX8_lives kvX8_lives mlX8_144 (mR_obj hG) rfl rfl rfl (Nat.le_of_ble_eq_true rfl) ⟨Nat.le_of_ble_eq_true rfl, Nat.le_of_ble_eq_true rfl⟩ ⟨Nat.le_of_ble_eq_true rfl, Nat.le_of_ble_eq_true rfl⟩ dX8_partners_10 rfl rfl rfl ?_
    refine Z_if_eq (tgt := 30) (pc' := 16) dX8_partners_13 (by decide) rfl (fun h4 => ?_) (fun h4 => ?_)
    · rw [if_pos h4] at hF
      refine Z_iconst (v := 0) (pc' := 31) dX8_partners_30 (by decide) rfl ?_
      cases hF
      exact Z_iret (ty := .boolean) (w := (0 : Int32)) dX8_partners_31 rfl rfl (Nat.le_refl _) (Nat.le_refl _) ⟨rfl, rfl⟩
    · rw [if_neg h4] at hF
      refine Z_aload_n (i := 0) (pc' := 17) dX8_partners_16 rfl rfl rfl ?_
      refine Z_get (v := .ref (ad 10)) (pc' := 20) 10 zinX8 rfl (by decide) lkX8_34 (mR_obj hG) rfl dX8_partners_17 rfl ?_
      refine Z_bipush (v := 16) (pc' := 22) dX8_partners_20 (by decide) rfl ?_
      refine Z_iload_n (i := 1) (pc' := 23) dX8_partners_22 rfl rfl rfl ?_
      refine Z_imul (pc' := 24) dX8_partners_23 rfl ?_
      refine Z_iload_n (i := 2) (pc' := 25) dX8_partners_24 rfl rfl rfl ?_
      refine Z_iadd (pc' := 26) dX8_partners_25 rfl ?_
      obtain ⟨h5, hF⟩ := ck_of hF
      refine Z_zald (pc' := 27) (aR_10 hG) (zIn_in h5) dX8_partners_26 rfl ?_
      refine Z_if_eq (tgt := 32) (pc' := 30) dX8_partners_27 (by decide) rfl (fun h6 => ?_) (fun h6 => ?_)
      · rw [if_pos h6] at hF
        refine Z_aload_n (i := 0) (pc' := 33) dX8_partners_32 rfl rfl rfl ?_
        refine Z_aload_n (i := 0) (pc' := 34) dX8_partners_33 rfl rfl rfl ?_
        refine Z_get (v := .ref (ad 7)) (pc' := 37) 7 zinX8 rfl (by decide) lkX8_24 (mR_obj hG) rfl dX8_partners_34 rfl ?_
        refine Z_iload_n (i := 1) (pc' := 38) dX8_partners_37 rfl rfl rfl ?_
        obtain ⟨h7, hF⟩ := ck_of hF
        refine Z_iald (pc' := 39) (aR_7 hG) (zIn_in h7) dX8_partners_38 rfl ?_
        obtain ⟨y8, hy8, hF⟩ := bd_of hF
        refine Z_callVi (As := [.int (y3.2 7 (x1).toNatClampNeg)]) (st := []) (pc' := 42) (k' := 0) (n' := 0) (qX8_nextOf l hG hy8) ckX8_nextOf kvX8_nextOf mlX8_147 (mR_obj hG) rfl rfl rfl (Nat.le_of_ble_eq_true rfl) ⟨Nat.le_of_ble_eq_true rfl, Nat.le_of_ble_eq_true rfl⟩ ⟨Nat.le_of_ble_eq_true rfl, Nat.le_of_ble_eq_true rfl⟩ dX8_partners_39 rfl rfl rfl ?_
        refine Z_aload_n (i := 0) (pc' := 43) dX8_partners_42 rfl rfl rfl ?_
        refine Z_get (v := .ref (ad 7)) (pc' := 46) 7 zinX8 rfl (by decide) lkX8_24 (mR_obj hG) rfl dX8_partners_43 rfl ?_
        refine Z_iload_n (i := 2) (pc' := 47) dX8_partners_46 rfl rfl rfl ?_
        obtain ⟨h9, hF⟩ := ck_of hF
        refine Z_iald (pc' := 48) (aR_7 hG) (zIn_in h9) dX8_partners_47 rfl ?_
        refine Z_icmp_eq (tgt := 72) (pc' := 51) dX8_partners_48 (by decide) rfl (fun h10 => ?_) (fun h10 => ?_)
        · rw [if_pos h10] at hF
          refine Z_aload_n (i := 0) (pc' := 73) dX8_partners_72 rfl rfl rfl ?_
          refine Z_get (v := .ref (ad 10)) (pc' := 76) 10 zinX8 rfl (by decide) lkX8_34 (mR_obj hG) rfl dX8_partners_73 rfl ?_
          refine Z_bipush (v := 16) (pc' := 78) dX8_partners_76 (by decide) rfl ?_
          refine Z_iload_n (i := 1) (pc' := 79) dX8_partners_78 rfl rfl rfl ?_
          refine Z_imul (pc' := 80) dX8_partners_79 rfl ?_
          refine Z_iload_n (i := 2) (pc' := 81) dX8_partners_80 rfl rfl rfl ?_
          refine Z_iadd (pc' := 82) dX8_partners_81 rfl ?_
          refine Z_iconst (v := 1) (pc' := 83) dX8_partners_82 (by decide) rfl ?_
          obtain ⟨σ11, hσ11, hF⟩ := zl_of hF
          refine Z_zast (pc' := 84) (aR_10 hG) (zIn_in h5) dX8_partners_83 rfl ?_
          refine Z_mem (sR_10 hG hσ11) ?_
          refine Z_aload_n (i := 0) (pc' := 85) dX8_partners_84 rfl rfl rfl ?_
          refine Z_get (v := .ref (ad 10)) (pc' := 88) 10 zinX8 rfl (by decide) lkX8_34 (mR_obj hG) rfl dX8_partners_85 rfl ?_
          refine Z_bipush (v := 16) (pc' := 90) dX8_partners_88 (by decide) rfl ?_
          refine Z_iload_n (i := 2) (pc' := 91) dX8_partners_90 rfl rfl rfl ?_
          refine Z_imul (pc' := 92) dX8_partners_91 rfl ?_
          refine Z_iload_n (i := 1) (pc' := 93) dX8_partners_92 rfl rfl rfl ?_
          refine Z_iadd (pc' := 94) dX8_partners_93 rfl ?_
          refine Z_iconst (v := 1) (pc' := 95) dX8_partners_94 (by decide) rfl ?_
          obtain ⟨h12, hF⟩ := ck_of hF
          obtain ⟨σ13, hσ13, hF⟩ := zl_of hF
          refine Z_zast (pc' := 96) (aR_10 hG) (zIn_in h12) dX8_partners_95 rfl ?_
          refine Z_mem (sR_10 hG hσ13) ?_
          refine Z_iconst (v := 1) (pc' := 97) dX8_partners_96 (by decide) rfl ?_
          cases hF
          exact Z_iret (ty := .boolean) (w := (1 : Int32)) dX8_partners_97 rfl rfl (Nat.le_refl _) (Nat.le_refl _) ⟨rfl, rfl⟩
        · rw [if_neg h10] at hF
          refine Z_aload_n (i := 0) (pc' := 52) dX8_partners_51 rfl rfl rfl ?_
          refine Z_aload_n (i := 0) (pc' := 53) dX8_partners_52 rfl rfl rfl ?_
          refine Z_get (v := .ref (ad 7)) (pc' := 56) 7 zinX8 rfl (by decide) lkX8_24 (mR_obj hG) rfl dX8_partners_53 rfl ?_
          refine Z_iload_n (i := 2) (pc' := 57) dX8_partners_56 rfl rfl rfl ?_
          refine Z_iald (pc' := 58) (aR_7 hG) (zIn_in h9) dX8_partners_57 rfl ?_
          obtain ⟨y14, hy14, hF⟩ := bd_of hF
          refine Z_callVi (As := [.int (y8.2 7 (x2).toNatClampNeg)]) (st := []) (pc' := 61) (k' := 0) (n' := 0) (qX8_nextOf l hG hy14) ckX8_nextOf kvX8_nextOf mlX8_147 (mR_obj hG) rfl rfl rfl (Nat.le_of_ble_eq_true rfl) ⟨Nat.le_of_ble_eq_true rfl, Nat.le_of_ble_eq_true rfl⟩ ⟨Nat.le_of_ble_eq_true rfl, Nat.le_of_ble_eq_true rfl⟩ dX8_partners_58 rfl rfl rfl ?_
          refine Z_aload_n (i := 0) (pc' := 62) dX8_partners_61 rfl rfl rfl ?_
          refine Z_get (v := .ref (ad 7)) (pc' := 65) 7 zinX8 rfl (by decide) lkX8_24 (mR_obj hG) rfl dX8_partners_62 rfl ?_
          refine Z_iload_n (i := 1) (pc' := 66) dX8_partners_65 rfl rfl rfl ?_
          refine Z_iald (pc' := 67) (aR_7 hG) (zIn_in h7) dX8_partners_66 rfl ?_
          refine Z_icmp_eq (tgt := 72) (pc' := 70) dX8_partners_67 (by decide) rfl (fun h15 => ?_) (fun h15 => ?_)
          · rw [if_pos h15] at hF
            refine Z_aload_n (i := 0) (pc' := 73) dX8_partners_72 rfl rfl rfl ?_
            refine Z_get (v := .ref (ad 10)) (pc' := 76) 10 zinX8 rfl (by decide) lkX8_34 (mR_obj hG) rfl dX8_partners_73 rfl ?_
            refine Z_bipush (v := 16) (pc' := 78) dX8_partners_76 (by decide) rfl ?_
            refine Z_iload_n (i := 1) (pc' := 79) dX8_partners_78 rfl rfl rfl ?_
            refine Z_imul (pc' := 80) dX8_partners_79 rfl ?_
            refine Z_iload_n (i := 2) (pc' := 81) dX8_partners_80 rfl rfl rfl ?_
            refine Z_iadd (pc' := 82) dX8_partners_81 rfl ?_
            refine Z_iconst (v := 1) (pc' := 83) dX8_partners_82 (by decide) rfl ?_
            obtain ⟨σ16, hσ16, hF⟩ := zl_of hF
            refine Z_zast (pc' := 84) (aR_10 hG) (zIn_in h5) dX8_partners_83 rfl ?_
            refine Z_mem (sR_10 hG hσ16) ?_
            refine Z_aload_n (i := 0) (pc' := 85) dX8_partners_84 rfl rfl rfl ?_
            refine Z_get (v := .ref (ad 10)) (pc' := 88) 10 zinX8 rfl (by decide) lkX8_34 (mR_obj hG) rfl dX8_partners_85 rfl ?_
            refine Z_bipush (v := 16) (pc' := 90) dX8_partners_88 (by decide) rfl ?_
            refine Z_iload_n (i := 2) (pc' := 91) dX8_partners_90 rfl rfl rfl ?_
            refine Z_imul (pc' := 92) dX8_partners_91 rfl ?_
            refine Z_iload_n (i := 1) (pc' := 93) dX8_partners_92 rfl rfl rfl ?_
            refine Z_iadd (pc' := 94) dX8_partners_93 rfl ?_
            refine Z_iconst (v := 1) (pc' := 95) dX8_partners_94 (by decide) rfl ?_
            obtain ⟨h17, hF⟩ := ck_of hF
            obtain ⟨σ18, hσ18, hF⟩ := zl_of hF
            refine Z_zast (pc' := 96) (aR_10 hG) (zIn_in h17) dX8_partners_95 rfl ?_
            refine Z_mem (sR_10 hG hσ18) ?_
            refine Z_iconst (v := 1) (pc' := 97) dX8_partners_96 (by decide) rfl ?_
            cases hF
            exact Z_iret (ty := .boolean) (w := (1 : Int32)) dX8_partners_97 rfl rfl (Nat.le_refl _) (Nat.le_refl _) ⟨rfl, rfl⟩
          · rw [if_neg h15] at hF
            refine Z_iconst (v := 0) (pc' := 71) dX8_partners_70 (by decide) rfl ?_
            cases hF
            exact Z_iret (ty := .boolean) (w := (0 : Int32)) dX8_partners_71 rfl rfl (Nat.le_refl _) (Nat.le_refl _) ⟨rfl, rfl⟩
      · rw [if_neg h6] at hF
        refine Z_iconst (v := 0) (pc' := 31) dX8_partners_30 (by decide) rfl ?_
        cases hF
        exact Z_iret (ty := .boolean) (w := (0 : Int32)) dX8_partners_31 rfl rfl (Nat.le_refl _) (Nat.le_refl _) ⟨rfl, rfl⟩
abbrev rmX8_isTreasure : Room := { frames := 0, cells := 0, slots := 0, locals := 0 }
def r_isTreasure  (x1 : Int32) (σ : zS) : Option (Int32 × zS) := (if x1 < 0 then some ((0 : Int32), σ) else (if (σ 11 0) ≤ x1 then some ((0 : Int32), σ) else some ((1 : Int32), σ)))
set_option maxHeartbeats 4000000 in
set_option maxRecDepth 100000 in
theorem qX8_isTreasure (l : Launch) {ad dec : Nat → Nat} (hG : rG ad dec) {x1 : Int32} {σ : zS} {w : Int32 × zS} (hF : r_isTreasure x1 σ = some w) : zMet l yX8_isTreasure cX8_isTreasure 2 (some .boolean) rmX8_isTreasure [.ref (ad 42), .int x1] (mR ad dec σ) (fun v M' => v = (some (.int w.1)) ∧ M' = (mR ad dec w.2)) := by
  refine zMet.ofZ (vs := [some (.ref (ad 42)), some (.int x1)]) (by decide) rfl (zCt_of _ ⟨rfl, ⟨rfl, trivial⟩⟩) (Nat.le_of_ble_eq_true rfl) (fun D => ?_)
  unfold r_isTreasure at hF
  refine Z_iload_n (i := 1) (pc' := 1) dX8_isTreasure_0 rfl rfl rfl ?_
  refine Z_if_lt (tgt := 16) (pc' := 4) dX8_isTreasure_1 (by decide) rfl (fun h1 => ?_) (fun h1 => ?_)
  · rw [if_pos h1] at hF
    refine Z_iconst (v := 0) (pc' := 17) dX8_isTreasure_16 (by decide) rfl ?_
    cases hF
    exact Z_iret (ty := .boolean) (w := (0 : Int32)) dX8_isTreasure_17 rfl rfl (Nat.le_refl _) (Nat.le_refl _) ⟨rfl, rfl⟩
  · rw [if_neg h1] at hF
    refine Z_iload_n (i := 1) (pc' := 5) dX8_isTreasure_4 rfl rfl rfl ?_
    refine Z_aload_n (i := 0) (pc' := 6) dX8_isTreasure_5 rfl rfl rfl ?_
    refine Z_get (v := .int (σ 11 0)) (pc' := 9) 11 zinX8 rfl (by decide) lkX8_150 (mR_obj hG) rfl dX8_isTreasure_6 rfl ?_
    refine Z_icmp_ge (tgt := 16) (pc' := 12) dX8_isTreasure_9 (by decide) rfl (fun h2 => ?_) (fun h2 => ?_)
    · rw [if_pos h2] at hF
      refine Z_iconst (v := 0) (pc' := 17) dX8_isTreasure_16 (by decide) rfl ?_
      cases hF
      exact Z_iret (ty := .boolean) (w := (0 : Int32)) dX8_isTreasure_17 rfl rfl (Nat.le_refl _) (Nat.le_refl _) ⟨rfl, rfl⟩
    · rw [if_neg h2] at hF
      refine Z_iconst (v := 1) (pc' := 13) dX8_isTreasure_12 (by decide) rfl ?_
      refine Z_goto (tgt := 17) dX8_isTreasure_13 (by decide) ?_
      cases hF
      exact Z_iret (ty := .boolean) (w := (1 : Int32)) dX8_isTreasure_17 rfl rfl (Nat.le_refl _) (Nat.le_refl _) ⟨rfl, rfl⟩
abbrev rmX8_tellsNews : Room := { frames := 0, cells := 0, slots := 0, locals := 0 }
def r_tellsNews  (x1 : Int32) (x2 : Int32) (x3 : Int32) (σ : zS) : Option (Int32 × zS) := (if zIn x1 24 = true then zl (((84 : Int32) * x1) + (σ 19 (x1).toNatClampNeg)) (fun (v2 : Int32) => (if zIn v2 2016 = true then zl (zs σ 20 (v2).toNatClampNeg (σ 6 0)) (fun (σ4 : zS) => zl (zs σ4 21 (v2).toNatClampNeg x2) (fun (σ5 : zS) => zl (zs σ5 22 (v2).toNatClampNeg x3) (fun (σ6 : zS) => zl (zs σ6 19 (x1).toNatClampNeg ((σ6 19 (x1).toNatClampNeg) + (1 : Int32))) (fun (σ7 : zS) => some (0, σ7))))) else none)) else none)
set_option maxHeartbeats 4000000 in
set_option maxRecDepth 100000 in
theorem qX8_tellsNews (l : Launch) {ad dec : Nat → Nat} (hG : rG ad dec) {x1 : Int32} {x2 : Int32} {x3 : Int32} {σ : zS} {w : Int32 × zS} (hF : r_tellsNews x1 x2 x3 σ = some w) : zMet l yX8_tellsNews cX8_tellsNews 5 none rmX8_tellsNews [.ref (ad 42), .int x1, .int x2, .int x3] (mR ad dec σ) (fun v M' => v = none ∧ M' = (mR ad dec w.2)) := by
  refine zMet.ofZ (vs := [some (.ref (ad 42)), some (.int x1), some (.int x2), some (.int x3), none]) (by decide) rfl (zCt_of _ ⟨rfl, ⟨rfl, ⟨rfl, ⟨rfl, trivial⟩⟩⟩⟩) (Nat.le_of_ble_eq_true rfl) (fun D => ?_)
  unfold r_tellsNews at hF
  refine Z_bipush (v := 84) (pc' := 2) dX8_tellsNews_0 (by decide) rfl ?_
  refine Z_iload_n (i := 1) (pc' := 3) dX8_tellsNews_2 rfl rfl rfl ?_
  refine Z_imul (pc' := 4) dX8_tellsNews_3 rfl ?_
  refine Z_aload_n (i := 0) (pc' := 5) dX8_tellsNews_4 rfl rfl rfl ?_
  refine Z_get (v := .ref (ad 19)) (pc' := 8) 19 zinX8 rfl (by decide) lkX8_58 (mR_obj hG) rfl dX8_tellsNews_5 rfl ?_
  refine Z_iload_n (i := 1) (pc' := 9) dX8_tellsNews_8 rfl rfl rfl ?_
  obtain ⟨h1, hF⟩ := ck_of hF
  refine Z_iald (pc' := 10) (aR_19 hG) (zIn_in h1) dX8_tellsNews_9 rfl ?_
  refine Z_iadd (pc' := 11) dX8_tellsNews_10 rfl ?_
  obtain ⟨v2, hv2, hF⟩ := zl_of hF
  refine Z_istoreE (i := 4) (x' := v2) (vs' := [some (.ref (ad 42)), some (.int x1), some (.int x2), some (.int x3), some (.int v2)]) (pc' := 13) dX8_tellsNews_11 hv2 (by decide) rfl rfl ?_
  refine Z_aload_n (i := 0) (pc' := 14) dX8_tellsNews_13 rfl rfl rfl ?_
  refine Z_get (v := .ref (ad 20)) (pc' := 17) 20 zinX8 rfl (by decide) lkX8_61 (mR_obj hG) rfl dX8_tellsNews_14 rfl ?_
  refine Z_iload (i := 4) (pc' := 19) dX8_tellsNews_17 rfl rfl ?_
  refine Z_aload_n (i := 0) (pc' := 20) dX8_tellsNews_19 rfl rfl rfl ?_
  refine Z_get (v := .int (σ 6 0)) (pc' := 23) 6 zinX8 rfl (by decide) lkX8_153 (mR_obj hG) rfl dX8_tellsNews_20 rfl ?_
  obtain ⟨h3, hF⟩ := ck_of hF
  obtain ⟨σ4, hσ4, hF⟩ := zl_of hF
  refine Z_iast (pc' := 24) (aR_20 hG) (zIn_in h3) dX8_tellsNews_23 rfl ?_
  refine Z_mem (sR_20 hG hσ4) ?_
  refine Z_aload_n (i := 0) (pc' := 25) dX8_tellsNews_24 rfl rfl rfl ?_
  refine Z_get (v := .ref (ad 21)) (pc' := 28) 21 zinX8 rfl (by decide) lkX8_64 (mR_obj hG) rfl dX8_tellsNews_25 rfl ?_
  refine Z_iload (i := 4) (pc' := 30) dX8_tellsNews_28 rfl rfl ?_
  refine Z_iload_n (i := 2) (pc' := 31) dX8_tellsNews_30 rfl rfl rfl ?_
  obtain ⟨σ5, hσ5, hF⟩ := zl_of hF
  refine Z_iast (pc' := 32) (aR_21 hG) (zIn_in h3) dX8_tellsNews_31 rfl ?_
  refine Z_mem (sR_21 hG hσ5) ?_
  refine Z_aload_n (i := 0) (pc' := 33) dX8_tellsNews_32 rfl rfl rfl ?_
  refine Z_get (v := .ref (ad 22)) (pc' := 36) 22 zinX8 rfl (by decide) lkX8_67 (mR_obj hG) rfl dX8_tellsNews_33 rfl ?_
  refine Z_iload (i := 4) (pc' := 38) dX8_tellsNews_36 rfl rfl ?_
  refine Z_iload_n (i := 3) (pc' := 39) dX8_tellsNews_38 rfl rfl rfl ?_
  obtain ⟨σ6, hσ6, hF⟩ := zl_of hF
  refine Z_iast (pc' := 40) (aR_22 hG) (zIn_in h3) dX8_tellsNews_39 rfl ?_
  refine Z_mem (sR_22 hG hσ6) ?_
  refine Z_aload_n (i := 0) (pc' := 41) dX8_tellsNews_40 rfl rfl rfl ?_
  refine Z_get (v := .ref (ad 19)) (pc' := 44) 19 zinX8 rfl (by decide) lkX8_58 (mR_obj hG) rfl dX8_tellsNews_41 rfl ?_
  refine Z_iload_n (i := 1) (pc' := 45) dX8_tellsNews_44 rfl rfl rfl ?_
  refine Z_aload_n (i := 0) (pc' := 46) dX8_tellsNews_45 rfl rfl rfl ?_
  refine Z_get (v := .ref (ad 19)) (pc' := 49) 19 zinX8 rfl (by decide) lkX8_58 (mR_obj hG) rfl dX8_tellsNews_46 rfl ?_
  refine Z_iload_n (i := 1) (pc' := 50) dX8_tellsNews_49 rfl rfl rfl ?_
  refine Z_iald (pc' := 51) (aR_19 hG) (zIn_in h1) dX8_tellsNews_50 rfl ?_
  refine Z_iconst (v := 1) (pc' := 52) dX8_tellsNews_51 (by decide) rfl ?_
  refine Z_iadd (pc' := 53) dX8_tellsNews_52 rfl ?_
  obtain ⟨σ7, hσ7, hF⟩ := zl_of hF
  refine Z_iast (pc' := 54) (aR_19 hG) (zIn_in h1) dX8_tellsNews_53 rfl ?_
  refine Z_mem (sR_19 hG hσ7) ?_
  cases hF
  exact Z_vret dX8_tellsNews_54 rfl (Nat.le_refl _) (Nat.le_refl _) ⟨rfl, rfl⟩
abbrev rmX8_comesTo : Room := { frames := 1, cells := 0, slots := 0, locals := 24 }
def r_comesTo  (x1 : Int32) (x2 : Int32) (σ : zS) : Option (Int32 × zS) := (if zIn x1 24 = true then zl (zs σ 14 (x1).toNatClampNeg x2) (fun (σ2 : zS) => zl (zs σ2 15 (x1).toNatClampNeg (σ2 6 0)) (fun (σ3 : zS) => (if (64 : Int32) ≤ (σ3 17 (x1).toNatClampNeg) then (if zIn x2 16 = true then ((r_tellsNews x1 (σ3 7 (x2).toNatClampNeg) x2 σ3).bind (fun y6 => some (0, y6.2))) else none) else (if zIn (((64 : Int32) * x1) + (σ3 17 (x1).toNatClampNeg)) 1536 = true then zl (zs σ3 18 (((64 : Int32) * x1) + (σ3 17 (x1).toNatClampNeg)).toNatClampNeg x2) (fun (σ8 : zS) => zl (zs σ8 17 (x1).toNatClampNeg ((σ8 17 (x1).toNatClampNeg) + (1 : Int32))) (fun (σ9 : zS) => (if zIn x2 16 = true then ((r_tellsNews x1 (σ9 7 (x2).toNatClampNeg) x2 σ9).bind (fun y11 => some (0, y11.2))) else none))) else none)))) else none)
set_option maxHeartbeats 4000000 in
set_option maxRecDepth 100000 in
theorem qX8_comesTo (l : Launch) {ad dec : Nat → Nat} (hG : rG ad dec) {x1 : Int32} {x2 : Int32} {σ : zS} {w : Int32 × zS} (hF : r_comesTo x1 x2 σ = some w) : zMet l yX8_comesTo cX8_comesTo 3 none rmX8_comesTo [.ref (ad 42), .int x1, .int x2] (mR ad dec σ) (fun v M' => v = none ∧ M' = (mR ad dec w.2)) := by
  refine zMet.ofZ (vs := [some (.ref (ad 42)), some (.int x1), some (.int x2)]) (by decide) rfl (zCt_of _ ⟨rfl, ⟨rfl, ⟨rfl, trivial⟩⟩⟩) (Nat.le_of_ble_eq_true rfl) (fun D => ?_)
  unfold r_comesTo at hF
  refine Z_aload_n (i := 0) (pc' := 1) dX8_comesTo_0 rfl rfl rfl ?_
  refine Z_get (v := .ref (ad 14)) (pc' := 4) 14 zinX8 rfl (by decide) lkX8_43 (mR_obj hG) rfl dX8_comesTo_1 rfl ?_
  refine Z_iload_n (i := 1) (pc' := 5) dX8_comesTo_4 rfl rfl rfl ?_
  refine Z_iload_n (i := 2) (pc' := 6) dX8_comesTo_5 rfl rfl rfl ?_
  obtain ⟨h1, hF⟩ := ck_of hF
  obtain ⟨σ2, hσ2, hF⟩ := zl_of hF
  refine Z_iast (pc' := 7) (aR_14 hG) (zIn_in h1) dX8_comesTo_6 rfl ?_
  refine Z_mem (sR_14 hG hσ2) ?_
  refine Z_aload_n (i := 0) (pc' := 8) dX8_comesTo_7 rfl rfl rfl ?_
  refine Z_get (v := .ref (ad 15)) (pc' := 11) 15 zinX8 rfl (by decide) lkX8_46 (mR_obj hG) rfl dX8_comesTo_8 rfl ?_
  refine Z_iload_n (i := 1) (pc' := 12) dX8_comesTo_11 rfl rfl rfl ?_
  refine Z_aload_n (i := 0) (pc' := 13) dX8_comesTo_12 rfl rfl rfl ?_
  refine Z_get (v := .int (σ2 6 0)) (pc' := 16) 6 zinX8 rfl (by decide) lkX8_153 (mR_obj hG) rfl dX8_comesTo_13 rfl ?_
  obtain ⟨σ3, hσ3, hF⟩ := zl_of hF
  refine Z_iast (pc' := 17) (aR_15 hG) (zIn_in h1) dX8_comesTo_16 rfl ?_
  refine Z_mem (sR_15 hG hσ3) ?_
  refine Z_aload_n (i := 0) (pc' := 18) dX8_comesTo_17 rfl rfl rfl ?_
  refine Z_get (v := .ref (ad 17)) (pc' := 21) 17 zinX8 rfl (by decide) lkX8_52 (mR_obj hG) rfl dX8_comesTo_18 rfl ?_
  refine Z_iload_n (i := 1) (pc' := 22) dX8_comesTo_21 rfl rfl rfl ?_
  refine Z_iald (pc' := 23) (aR_17 hG) (zIn_in h1) dX8_comesTo_22 rfl ?_
  refine Z_bipush (v := 64) (pc' := 25) dX8_comesTo_23 (by decide) rfl ?_
  refine Z_icmp_ge (tgt := 59) (pc' := 28) dX8_comesTo_25 (by decide) rfl (fun h4 => ?_) (fun h4 => ?_)
  · rw [if_pos h4] at hF
    refine Z_aload_n (i := 0) (pc' := 60) dX8_comesTo_59 rfl rfl rfl ?_
    refine Z_iload_n (i := 1) (pc' := 61) dX8_comesTo_60 rfl rfl rfl ?_
    refine Z_aload_n (i := 0) (pc' := 62) dX8_comesTo_61 rfl rfl rfl ?_
    refine Z_get (v := .ref (ad 7)) (pc' := 65) 7 zinX8 rfl (by decide) lkX8_24 (mR_obj hG) rfl dX8_comesTo_62 rfl ?_
    refine Z_iload_n (i := 2) (pc' := 66) dX8_comesTo_65 rfl rfl rfl ?_
    obtain ⟨h5, hF⟩ := ck_of hF
    refine Z_iald (pc' := 67) (aR_7 hG) (zIn_in h5) dX8_comesTo_66 rfl ?_
    refine Z_iload_n (i := 2) (pc' := 68) dX8_comesTo_67 rfl rfl rfl ?_
    obtain ⟨y6, hy6, hF⟩ := bd_of hF
    refine Z_callVv (As := [.int x1, .int (σ3 7 (x2).toNatClampNeg), .int x2]) (st := []) (pc' := 71) (k' := 0) (n' := 0) (qX8_tellsNews l hG hy6) ckX8_tellsNews kvX8_tellsNews mlX8_156 (mR_obj hG) rfl rfl rfl (Nat.le_of_ble_eq_true rfl) ⟨Nat.le_of_ble_eq_true rfl, Nat.le_of_ble_eq_true rfl⟩ ⟨Nat.le_of_ble_eq_true rfl, Nat.le_of_ble_eq_true rfl⟩ dX8_comesTo_68 rfl rfl rfl ?_
    cases hF
    exact Z_vret dX8_comesTo_71 rfl (Nat.le_refl _) (Nat.le_refl _) ⟨rfl, rfl⟩
  · rw [if_neg h4] at hF
    refine Z_aload_n (i := 0) (pc' := 29) dX8_comesTo_28 rfl rfl rfl ?_
    refine Z_get (v := .ref (ad 18)) (pc' := 32) 18 zinX8 rfl (by decide) lkX8_55 (mR_obj hG) rfl dX8_comesTo_29 rfl ?_
    refine Z_bipush (v := 64) (pc' := 34) dX8_comesTo_32 (by decide) rfl ?_
    refine Z_iload_n (i := 1) (pc' := 35) dX8_comesTo_34 rfl rfl rfl ?_
    refine Z_imul (pc' := 36) dX8_comesTo_35 rfl ?_
    refine Z_aload_n (i := 0) (pc' := 37) dX8_comesTo_36 rfl rfl rfl ?_
    refine Z_get (v := .ref (ad 17)) (pc' := 40) 17 zinX8 rfl (by decide) lkX8_52 (mR_obj hG) rfl dX8_comesTo_37 rfl ?_
    refine Z_iload_n (i := 1) (pc' := 41) dX8_comesTo_40 rfl rfl rfl ?_
    refine Z_iald (pc' := 42) (aR_17 hG) (zIn_in h1) dX8_comesTo_41 rfl ?_
    refine Z_iadd (pc' := 43) dX8_comesTo_42 rfl ?_
    refine Z_iload_n (i := 2) (pc' := 44) dX8_comesTo_43 rfl rfl rfl ?_
    obtain ⟨h7, hF⟩ := ck_of hF
    obtain ⟨σ8, hσ8, hF⟩ := zl_of hF
    refine Z_iast (pc' := 45) (aR_18 hG) (zIn_in h7) dX8_comesTo_44 rfl ?_
    refine Z_mem (sR_18 hG hσ8) ?_
    refine Z_aload_n (i := 0) (pc' := 46) dX8_comesTo_45 rfl rfl rfl ?_
    refine Z_get (v := .ref (ad 17)) (pc' := 49) 17 zinX8 rfl (by decide) lkX8_52 (mR_obj hG) rfl dX8_comesTo_46 rfl ?_
    refine Z_iload_n (i := 1) (pc' := 50) dX8_comesTo_49 rfl rfl rfl ?_
    refine Z_aload_n (i := 0) (pc' := 51) dX8_comesTo_50 rfl rfl rfl ?_
    refine Z_get (v := .ref (ad 17)) (pc' := 54) 17 zinX8 rfl (by decide) lkX8_52 (mR_obj hG) rfl dX8_comesTo_51 rfl ?_
    refine Z_iload_n (i := 1) (pc' := 55) dX8_comesTo_54 rfl rfl rfl ?_
    refine Z_iald (pc' := 56) (aR_17 hG) (zIn_in h1) dX8_comesTo_55 rfl ?_
    refine Z_iconst (v := 1) (pc' := 57) dX8_comesTo_56 (by decide) rfl ?_
    refine Z_iadd (pc' := 58) dX8_comesTo_57 rfl ?_
    obtain ⟨σ9, hσ9, hF⟩ := zl_of hF
    refine Z_iast (pc' := 59) (aR_17 hG) (zIn_in h1) dX8_comesTo_58 rfl ?_
    refine Z_mem (sR_17 hG hσ9) ?_
    refine Z_aload_n (i := 0) (pc' := 60) dX8_comesTo_59 rfl rfl rfl ?_
    refine Z_iload_n (i := 1) (pc' := 61) dX8_comesTo_60 rfl rfl rfl ?_
    refine Z_aload_n (i := 0) (pc' := 62) dX8_comesTo_61 rfl rfl rfl ?_
    refine Z_get (v := .ref (ad 7)) (pc' := 65) 7 zinX8 rfl (by decide) lkX8_24 (mR_obj hG) rfl dX8_comesTo_62 rfl ?_
    refine Z_iload_n (i := 2) (pc' := 66) dX8_comesTo_65 rfl rfl rfl ?_
    obtain ⟨h10, hF⟩ := ck_of hF
    refine Z_iald (pc' := 67) (aR_7 hG) (zIn_in h10) dX8_comesTo_66 rfl ?_
    refine Z_iload_n (i := 2) (pc' := 68) dX8_comesTo_67 rfl rfl rfl ?_
    obtain ⟨y11, hy11, hF⟩ := bd_of hF
    refine Z_callVv (As := [.int x1, .int (σ9 7 (x2).toNatClampNeg), .int x2]) (st := []) (pc' := 71) (k' := 0) (n' := 0) (qX8_tellsNews l hG hy11) ckX8_tellsNews kvX8_tellsNews mlX8_156 (mR_obj hG) rfl rfl rfl (Nat.le_of_ble_eq_true rfl) ⟨Nat.le_of_ble_eq_true rfl, Nat.le_of_ble_eq_true rfl⟩ ⟨Nat.le_of_ble_eq_true rfl, Nat.le_of_ble_eq_true rfl⟩ dX8_comesTo_68 rfl rfl rfl ?_
    cases hF
    exact Z_vret dX8_comesTo_71 rfl (Nat.le_refl _) (Nat.le_refl _) ⟨rfl, rfl⟩
abbrev rmX8_treasure : Room := { frames := 2, cells := 0, slots := 0, locals := 46 }
def r_treasure  (x1 : Int32) (x2 : Int32) (x3 : Int32) (σ : zS) : Option (Int32 × zS) := (if x1 < 0 then some ((-1 : Int32), σ) else (if (1 : Int32) < x1 then some ((-1 : Int32), σ) else (if x2 < (1 : Int32) then some ((-1 : Int32), σ) else (if (999 : Int32) < x2 then some ((-1 : Int32), σ) else ((r_lives x3 σ).bind (fun y5 => (if y5.1 = 0 then some ((-1 : Int32), y5.2) else (if (y5.2 11 0) = (24 : Int32) then some ((-1 : Int32), y5.2) else (if zIn (y5.2 11 0) 24 = true then zl (zs y5.2 12 (y5.2 11 0).toNatClampNeg x1) (fun (σ9 : zS) => (if zIn (σ9 11 0) 24 = true then zl (zs σ9 13 (σ9 11 0).toNatClampNeg x2) (fun (σ11 : zS) => (if zIn (σ11 11 0) 24 = true then zl (zs σ11 16 (σ11 11 0).toNatClampNeg (-1 : Int32)) (fun (σ13 : zS) => zl (zs σ13 11 0 ((σ13 11 0) + (1 : Int32))) (fun (σ14 : zS) => ((r_comesTo ((σ14 11 0) - (1 : Int32)) x3 σ14).bind (fun y15 => some (((y15.2 11 0) - (1 : Int32)), y15.2))))) else none)) else none)) else none)))))))))
set_option maxHeartbeats 4000000 in
set_option maxRecDepth 100000 in
theorem qX8_treasure (l : Launch) {ad dec : Nat → Nat} (hG : rG ad dec) {x1 : Int32} {x2 : Int32} {x3 : Int32} {σ : zS} {w : Int32 × zS} (hF : r_treasure x1 x2 x3 σ = some w) : zMet l yX8_treasure cX8_treasure 4 (some .int) rmX8_treasure [.ref (ad 42), .int x1, .int x2, .int x3] (mR ad dec σ) (fun v M' => v = (some (.int w.1)) ∧ M' = (mR ad dec w.2)) := by
  refine zMet.ofZ (vs := [some (.ref (ad 42)), some (.int x1), some (.int x2), some (.int x3)]) (by decide) rfl (zCt_of _ ⟨rfl, ⟨rfl, ⟨rfl, ⟨rfl, trivial⟩⟩⟩⟩) (Nat.le_of_ble_eq_true rfl) (fun D => ?_)
  unfold r_treasure at hF
  refine Z_iload_n (i := 1) (pc' := 1) dX8_treasure_0 rfl rfl rfl ?_
  refine Z_if_lt (tgt := 38) (pc' := 4) dX8_treasure_1 (by decide) rfl (fun h1 => ?_) (fun h1 => ?_)
  · rw [if_pos h1] at hF
    refine Z_iconst (v := -1) (pc' := 39) dX8_treasure_38 (by decide) rfl ?_
    cases hF
    exact Z_iret (ty := .int) (w := (-1 : Int32)) dX8_treasure_39 rfl rfl (Nat.le_refl _) (Nat.le_refl _) ⟨rfl, rfl⟩
  · rw [if_neg h1] at hF
    refine Z_iload_n (i := 1) (pc' := 5) dX8_treasure_4 rfl rfl rfl ?_
    refine Z_iconst (v := 1) (pc' := 6) dX8_treasure_5 (by decide) rfl ?_
    refine Z_icmp_gt (tgt := 38) (pc' := 9) dX8_treasure_6 (by decide) rfl (fun h2 => ?_) (fun h2 => ?_)
    · rw [if_pos h2] at hF
      refine Z_iconst (v := -1) (pc' := 39) dX8_treasure_38 (by decide) rfl ?_
      cases hF
      exact Z_iret (ty := .int) (w := (-1 : Int32)) dX8_treasure_39 rfl rfl (Nat.le_refl _) (Nat.le_refl _) ⟨rfl, rfl⟩
    · rw [if_neg h2] at hF
      refine Z_iload_n (i := 2) (pc' := 10) dX8_treasure_9 rfl rfl rfl ?_
      refine Z_iconst (v := 1) (pc' := 11) dX8_treasure_10 (by decide) rfl ?_
      refine Z_icmp_lt (tgt := 38) (pc' := 14) dX8_treasure_11 (by decide) rfl (fun h3 => ?_) (fun h3 => ?_)
      · rw [if_pos h3] at hF
        refine Z_iconst (v := -1) (pc' := 39) dX8_treasure_38 (by decide) rfl ?_
        cases hF
        exact Z_iret (ty := .int) (w := (-1 : Int32)) dX8_treasure_39 rfl rfl (Nat.le_refl _) (Nat.le_refl _) ⟨rfl, rfl⟩
      · rw [if_neg h3] at hF
        refine Z_iload_n (i := 2) (pc' := 15) dX8_treasure_14 rfl rfl rfl ?_
        refine Z_sipush (v := 999) (pc' := 18) dX8_treasure_15 (by decide) rfl ?_
        refine Z_icmp_gt (tgt := 38) (pc' := 21) dX8_treasure_18 (by decide) rfl (fun h4 => ?_) (fun h4 => ?_)
        · rw [if_pos h4] at hF
          refine Z_iconst (v := -1) (pc' := 39) dX8_treasure_38 (by decide) rfl ?_
          cases hF
          exact Z_iret (ty := .int) (w := (-1 : Int32)) dX8_treasure_39 rfl rfl (Nat.le_refl _) (Nat.le_refl _) ⟨rfl, rfl⟩
        · rw [if_neg h4] at hF
          refine Z_aload_n (i := 0) (pc' := 22) dX8_treasure_21 rfl rfl rfl ?_
          refine Z_iload_n (i := 3) (pc' := 23) dX8_treasure_22 rfl rfl rfl ?_
          obtain ⟨y5, hy5, hF⟩ := bd_of hF
          refine Z_callVi (As := [.int x3]) (st := []) (pc' := 26) (k' := 0) (n' := 0) (qX8_lives l hG hy5) ckX8_lives kvX8_lives mlX8_144 (mR_obj hG) rfl rfl rfl (Nat.le_of_ble_eq_true rfl) ⟨Nat.le_of_ble_eq_true rfl, Nat.le_of_ble_eq_true rfl⟩ ⟨Nat.le_of_ble_eq_true rfl, Nat.le_of_ble_eq_true rfl⟩ dX8_treasure_23 rfl rfl rfl ?_
          refine Z_if_eq (tgt := 38) (pc' := 29) dX8_treasure_26 (by decide) rfl (fun h6 => ?_) (fun h6 => ?_)
          · rw [if_pos h6] at hF
            refine Z_iconst (v := -1) (pc' := 39) dX8_treasure_38 (by decide) rfl ?_
            cases hF
            exact Z_iret (ty := .int) (w := (-1 : Int32)) dX8_treasure_39 rfl rfl (Nat.le_refl _) (Nat.le_refl _) ⟨rfl, rfl⟩
          · rw [if_neg h6] at hF
            refine Z_aload_n (i := 0) (pc' := 30) dX8_treasure_29 rfl rfl rfl ?_
            refine Z_get (v := .int (y5.2 11 0)) (pc' := 33) 11 zinX8 rfl (by decide) lkX8_150 (mR_obj hG) rfl dX8_treasure_30 rfl ?_
            refine Z_bipush (v := 24) (pc' := 35) dX8_treasure_33 (by decide) rfl ?_
            refine Z_icmp_ne (tgt := 40) (pc' := 38) dX8_treasure_35 (by decide) rfl (fun h7 => ?_) (fun h7 => ?_)
            · rw [if_neg h7] at hF
              refine Z_aload_n (i := 0) (pc' := 41) dX8_treasure_40 rfl rfl rfl ?_
              refine Z_get (v := .ref (ad 12)) (pc' := 44) 12 zinX8 rfl (by decide) lkX8_37 (mR_obj hG) rfl dX8_treasure_41 rfl ?_
              refine Z_aload_n (i := 0) (pc' := 45) dX8_treasure_44 rfl rfl rfl ?_
              refine Z_get (v := .int (y5.2 11 0)) (pc' := 48) 11 zinX8 rfl (by decide) lkX8_150 (mR_obj hG) rfl dX8_treasure_45 rfl ?_
              refine Z_iload_n (i := 1) (pc' := 49) dX8_treasure_48 rfl rfl rfl ?_
              obtain ⟨h8, hF⟩ := ck_of hF
              obtain ⟨σ9, hσ9, hF⟩ := zl_of hF
              refine Z_iast (pc' := 50) (aR_12 hG) (zIn_in h8) dX8_treasure_49 rfl ?_
              refine Z_mem (sR_12 hG hσ9) ?_
              refine Z_aload_n (i := 0) (pc' := 51) dX8_treasure_50 rfl rfl rfl ?_
              refine Z_get (v := .ref (ad 13)) (pc' := 54) 13 zinX8 rfl (by decide) lkX8_40 (mR_obj hG) rfl dX8_treasure_51 rfl ?_
              refine Z_aload_n (i := 0) (pc' := 55) dX8_treasure_54 rfl rfl rfl ?_
              refine Z_get (v := .int (σ9 11 0)) (pc' := 58) 11 zinX8 rfl (by decide) lkX8_150 (mR_obj hG) rfl dX8_treasure_55 rfl ?_
              refine Z_iload_n (i := 2) (pc' := 59) dX8_treasure_58 rfl rfl rfl ?_
              obtain ⟨h10, hF⟩ := ck_of hF
              obtain ⟨σ11, hσ11, hF⟩ := zl_of hF
              refine Z_iast (pc' := 60) (aR_13 hG) (zIn_in h10) dX8_treasure_59 rfl ?_
              refine Z_mem (sR_13 hG hσ11) ?_
              refine Z_aload_n (i := 0) (pc' := 61) dX8_treasure_60 rfl rfl rfl ?_
              refine Z_get (v := .ref (ad 16)) (pc' := 64) 16 zinX8 rfl (by decide) lkX8_49 (mR_obj hG) rfl dX8_treasure_61 rfl ?_
              refine Z_aload_n (i := 0) (pc' := 65) dX8_treasure_64 rfl rfl rfl ?_
              refine Z_get (v := .int (σ11 11 0)) (pc' := 68) 11 zinX8 rfl (by decide) lkX8_150 (mR_obj hG) rfl dX8_treasure_65 rfl ?_
              refine Z_iconst (v := -1) (pc' := 69) dX8_treasure_68 (by decide) rfl ?_
              obtain ⟨h12, hF⟩ := ck_of hF
              obtain ⟨σ13, hσ13, hF⟩ := zl_of hF
              refine Z_iast (pc' := 70) (aR_16 hG) (zIn_in h12) dX8_treasure_69 rfl ?_
              refine Z_mem (sR_16 hG hσ13) ?_
              refine Z_aload_n (i := 0) (pc' := 71) dX8_treasure_70 rfl rfl rfl ?_
              refine Z_aload_n (i := 0) (pc' := 72) dX8_treasure_71 rfl rfl rfl ?_
              refine Z_get (v := .int (σ13 11 0)) (pc' := 75) 11 zinX8 rfl (by decide) lkX8_150 (mR_obj hG) rfl dX8_treasure_72 rfl ?_
              refine Z_iconst (v := 1) (pc' := 76) dX8_treasure_75 (by decide) rfl ?_
              refine Z_iadd (pc' := 77) dX8_treasure_76 rfl ?_
              obtain ⟨σ14, hσ14, hF⟩ := zl_of hF
              refine Z_put (fs' := (rFs ad σ13).set 11 (.int ((σ13 11 0) + (1 : Int32)))) (pc' := 80) 11 zinX8 tyX8_ok nmX8 rfl (by decide) lkX8_150 rfl (mR_obj hG) rfl rfl rfl (Nat.le_of_ble_eq_true rfl) rfl dX8_treasure_77 rfl ?_
              refine Z_mem (pR_11 hG hσ14) ?_
              refine Z_aload_n (i := 0) (pc' := 81) dX8_treasure_80 rfl rfl rfl ?_
              refine Z_aload_n (i := 0) (pc' := 82) dX8_treasure_81 rfl rfl rfl ?_
              refine Z_get (v := .int (σ14 11 0)) (pc' := 85) 11 zinX8 rfl (by decide) lkX8_150 (mR_obj hG) rfl dX8_treasure_82 rfl ?_
              refine Z_iconst (v := 1) (pc' := 86) dX8_treasure_85 (by decide) rfl ?_
              refine Z_isub (pc' := 87) dX8_treasure_86 rfl ?_
              refine Z_iload_n (i := 3) (pc' := 88) dX8_treasure_87 rfl rfl rfl ?_
              obtain ⟨y15, hy15, hF⟩ := bd_of hF
              refine Z_callVv (As := [.int ((σ14 11 0) - (1 : Int32)), .int x3]) (st := []) (pc' := 91) (k' := 0) (n' := 0) (qX8_comesTo l hG hy15) ckX8_comesTo kvX8_comesTo mlX8_160 (mR_obj hG) rfl rfl rfl (Nat.le_of_ble_eq_true rfl) ⟨Nat.le_of_ble_eq_true rfl, Nat.le_of_ble_eq_true rfl⟩ ⟨Nat.le_of_ble_eq_true rfl, Nat.le_of_ble_eq_true rfl⟩ dX8_treasure_88 rfl rfl rfl ?_
              refine Z_aload_n (i := 0) (pc' := 92) dX8_treasure_91 rfl rfl rfl ?_
              refine Z_get (v := .int (y15.2 11 0)) (pc' := 95) 11 zinX8 rfl (by decide) lkX8_150 (mR_obj hG) rfl dX8_treasure_92 rfl ?_
              refine Z_iconst (v := 1) (pc' := 96) dX8_treasure_95 (by decide) rfl ?_
              refine Z_isub (pc' := 97) dX8_treasure_96 rfl ?_
              cases hF
              exact Z_iret (ty := .int) (w := ((y15.2 11 0) - (1 : Int32))) dX8_treasure_97 rfl rfl (Nat.le_refl _) (Nat.le_refl _) ⟨rfl, rfl⟩
            · rw [if_pos h7] at hF
              refine Z_iconst (v := -1) (pc' := 39) dX8_treasure_38 (by decide) rfl ?_
              cases hF
              exact Z_iret (ty := .int) (w := (-1 : Int32)) dX8_treasure_39 rfl rfl (Nat.le_refl _) (Nat.le_refl _) ⟨rfl, rfl⟩
