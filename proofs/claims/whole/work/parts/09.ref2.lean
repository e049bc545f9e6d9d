abbrev rmX8_apart : Room := { frames := 0, cells := 0, slots := 0, locals := 0 }
def r_apart  (x1 : Int32) (x2 : Int32) (σ : zS) : Option (Int32 × zS) := (if x1 ≤ x2 then zl (x2 - x1) (fun (v2 : Int32) => (if ((σ 4 0) - v2) ≤ v2 then some (((σ 4 0) - v2), σ) else some (v2, σ))) else zl (x1 - x2) (fun (v4 : Int32) => (if ((σ 4 0) - v4) ≤ v4 then some (((σ 4 0) - v4), σ) else some (v4, σ))))
set_option maxHeartbeats 4000000 in
set_option maxRecDepth 100000 in
theorem qX8_apart (l : Launch) {ad dec : Nat → Nat} (hG : rG ad dec) {x1 : Int32} {x2 : Int32} {σ : zS} {w : Int32 × zS} (hF : r_apart x1 x2 σ = some w) : zMet l yX8_apart cX8_apart 4 (some .int) rmX8_apart [.ref (ad 42), .int x1, .int x2] (mR ad dec σ) (fun v M' => v = (some (.int w.1)) ∧ M' = (mR ad dec w.2)) := by
  refine zMet.ofZ (vs := [some (.ref (ad 42)), some (.int x1), some (.int x2), none]) (by decide) rfl (zCt_of _ ⟨rfl, ⟨rfl, ⟨rfl, trivial⟩⟩⟩) (Nat.le_of_ble_eq_true rfl) (fun D => ?_)
  unfold r_apart at hF
  refine Z_iload_n (i := 1) (pc' := 1) dX8_apart_0 rfl rfl rfl ?_
  refine Z_iload_n (i := 2) (pc' := 2) dX8_apart_1 rfl rfl rfl ?_
  refine Z_icmp_le (tgt := 11) (pc' := 5) dX8_apart_2 (by decide) rfl (fun h1 => ?_) (fun h1 => ?_)
  · rw [if_pos h1] at hF
    refine Z_iload_n (i := 2) (pc' := 12) dX8_apart_11 rfl rfl rfl ?_
    refine Z_iload_n (i := 1) (pc' := 13) dX8_apart_12 rfl rfl rfl ?_
    refine Z_isub (pc' := 14) dX8_apart_13 rfl ?_
    obtain ⟨v2, hv2, hF⟩ := zl_of hF
    refine Z_istore_nE (i := 3) (x' := v2) (vs' := [some (.ref (ad 42)), some (.int x1), some (.int x2), some (.int v2)]) (pc' := 15) dX8_apart_14 rfl hv2 (by decide) rfl rfl ?_
    refine Z_iload_n (i := 3) (pc' := 16) dX8_apart_15 rfl rfl rfl ?_
    refine Z_aload_n (i := 0) (pc' := 17) dX8_apart_16 rfl rfl rfl ?_
    refine Z_get (v := .int (σ 4 0)) (pc' := 20) 4 zinX8 rfl (by decide) lkX8_20 (mR_obj hG) rfl dX8_apart_17 rfl ?_
    refine Z_iload_n (i := 3) (pc' := 21) dX8_apart_20 rfl rfl rfl ?_
    refine Z_isub (pc' := 22) dX8_apart_21 rfl ?_
    refine Z_icmp_ge (tgt := 29) (pc' := 25) dX8_apart_22 (by decide) rfl (fun h3 => ?_) (fun h3 => ?_)
    · rw [if_pos h3] at hF
      refine Z_aload_n (i := 0) (pc' := 30) dX8_apart_29 rfl rfl rfl ?_
      refine Z_get (v := .int (σ 4 0)) (pc' := 33) 4 zinX8 rfl (by decide) lkX8_20 (mR_obj hG) rfl dX8_apart_30 rfl ?_
      refine Z_iload_n (i := 3) (pc' := 34) dX8_apart_33 rfl rfl rfl ?_
      refine Z_isub (pc' := 35) dX8_apart_34 rfl ?_
      cases hF
      exact Z_iret (ty := .int) (w := ((σ 4 0) - v2)) dX8_apart_35 rfl rfl (Nat.le_refl _) (Nat.le_refl _) ⟨rfl, rfl⟩
    · rw [if_neg h3] at hF
      refine Z_iload_n (i := 3) (pc' := 26) dX8_apart_25 rfl rfl rfl ?_
      refine Z_goto (tgt := 35) dX8_apart_26 (by decide) ?_
      cases hF
      exact Z_iret (ty := .int) (w := v2) dX8_apart_35 rfl rfl (Nat.le_refl _) (Nat.le_refl _) ⟨rfl, rfl⟩
  · rw [if_neg h1] at hF
    refine Z_iload_n (i := 1) (pc' := 6) dX8_apart_5 rfl rfl rfl ?_
    refine Z_iload_n (i := 2) (pc' := 7) dX8_apart_6 rfl rfl rfl ?_
    refine Z_isub (pc' := 8) dX8_apart_7 rfl ?_
    refine Z_goto (tgt := 14) dX8_apart_8 (by decide) ?_
    obtain ⟨v4, hv4, hF⟩ := zl_of hF
    refine Z_istore_nE (i := 3) (x' := v4) (vs' := [some (.ref (ad 42)), some (.int x1), some (.int x2), some (.int v4)]) (pc' := 15) dX8_apart_14 rfl hv4 (by decide) rfl rfl ?_
    refine Z_iload_n (i := 3) (pc' := 16) dX8_apart_15 rfl rfl rfl ?_
    refine Z_aload_n (i := 0) (pc' := 17) dX8_apart_16 rfl rfl rfl ?_
    refine Z_get (v := .int (σ 4 0)) (pc' := 20) 4 zinX8 rfl (by decide) lkX8_20 (mR_obj hG) rfl dX8_apart_17 rfl ?_
    refine Z_iload_n (i := 3) (pc' := 21) dX8_apart_20 rfl rfl rfl ?_
    refine Z_isub (pc' := 22) dX8_apart_21 rfl ?_
    refine Z_icmp_ge (tgt := 29) (pc' := 25) dX8_apart_22 (by decide) rfl (fun h5 => ?_) (fun h5 => ?_)
    · rw [if_pos h5] at hF
      refine Z_aload_n (i := 0) (pc' := 30) dX8_apart_29 rfl rfl rfl ?_
      refine Z_get (v := .int (σ 4 0)) (pc' := 33) 4 zinX8 rfl (by decide) lkX8_20 (mR_obj hG) rfl dX8_apart_30 rfl ?_
      refine Z_iload_n (i := 3) (pc' := 34) dX8_apart_33 rfl rfl rfl ?_
      refine Z_isub (pc' := 35) dX8_apart_34 rfl ?_
      cases hF
      exact Z_iret (ty := .int) (w := ((σ 4 0) - v4)) dX8_apart_35 rfl rfl (Nat.le_refl _) (Nat.le_refl _) ⟨rfl, rfl⟩
    · rw [if_neg h5] at hF
      refine Z_iload_n (i := 3) (pc' := 26) dX8_apart_25 rfl rfl rfl ?_
      refine Z_goto (tgt := 35) dX8_apart_26 (by decide) ?_
      cases hF
      exact Z_iret (ty := .int) (w := v4) dX8_apart_35 rfl rfl (Nat.le_refl _) (Nat.le_refl _) ⟨rfl, rfl⟩
abbrev rmX8_known : Room := { frames := 1, cells := 0, slots := 0, locals := 23 }
def r_known_L30 : Nat → Int32 → Int32 → Int32 → Int32 → zS → Option (Int32 × zS)
  | 0, _, _, _, _, _ => none
  | n + 1, x1_, x2_, x3_, x4_, σ => (if zIn x2_ 24 = true then (if (((84 : Int32) * x2_) + (σ 19 (x2_).toNatClampNeg)) ≤ x4_ then some (x3_, σ) else (if zIn x4_ 2016 = true then ((r_apart (σ 21 (x4_).toNatClampNeg) x1_ σ).bind (fun y9 => (if (y9.2 6 0) < ((σ 20 (x4_).toNatClampNeg) + y9.1) then zl (x4_ + 1) (fun (v11 : Int32) => (r_known_L30 n x1_ x2_ x3_ v11 y9.2)) else zl (y9.2 22 (x4_).toNatClampNeg) (fun (v12 : Int32) => zl (x4_ + 1) (fun (v13 : Int32) => (r_known_L30 n x1_ x2_ v12 v13 y9.2)))))) else none)) else none)
def r_known  (x1 : Int32) (x2 : Int32) (σ : zS) : Option (Int32 × zS) := (if x1 < 0 then some ((-1 : Int32), σ) else (if (σ 4 0) ≤ x1 then some ((-1 : Int32), σ) else ((r_isTreasure x2 σ).bind (fun y3 => (if y3.1 = 0 then some ((-1 : Int32), y3.2) else zl ((84 : Int32) * x2) (fun (v5 : Int32) => ((r_known_L30 zF x1 x2 (-1 : Int32) v5 y3.2).bind (fun r14 => some (r14.1, r14.2)))))))))
set_option maxHeartbeats 4000000 in
set_option maxRecDepth 100000 in
theorem qX8_known_L30 {l : Launch} {D : va_G} {M0 : zM} {Q : Option Value → zM → Prop} {ad dec : Nat → Nat} (hG : rG ad dec) : ∀ (n : Nat) (x1_ : Int32) (x2_ : Int32) (x3_ : Int32) (x4_ : Int32) (σ : zS) (r : (Int32 × zS)), r_known_L30 n x1_ x2_ x3_ x4_ σ = some r → (Z l yX8_known cX8_known 5 (some .int) rmX8_known 0 0 D M0 Q 0 0 87 [none, none, none, some (.int r.1), none] [] (mR ad dec r.2)) → Z l yX8_known cX8_known 5 (some .int) rmX8_known 0 0 D M0 Q 0 0 30 [some (.ref (ad 42)), some (.int x1_), some (.int x2_), some (.int x3_), some (.int x4_)] [] (mR ad dec σ) := by
  intro n
  induction n with
  | zero =>
    intro x1_ x2_ x3_ x4_ σ r hF hE
    exact absurd (show (none : Option (Int32 × zS)) = some r from hF) (by simp)
  | succ n ih =>
    intro x1_ x2_ x3_ x4_ σ r hF hE
    replace hF : (if zIn x2_ 24 = true then (if (((84 : Int32) * x2_) + (σ 19 (x2_).toNatClampNeg)) ≤ x4_ then some (x3_, σ) else (if zIn x4_ 2016 = true then ((r_apart (σ 21 (x4_).toNatClampNeg) x1_ σ).bind (fun y9 => (if (y9.2 6 0) < ((σ 20 (x4_).toNatClampNeg) + y9.1) then zl (x4_ + 1) (fun (v11 : Int32) => (r_known_L30 n x1_ x2_ x3_ v11 y9.2)) else zl (y9.2 22 (x4_).toNatClampNeg) (fun (v12 : Int32) => zl (x4_ + 1) (fun (v13 : Int32) => (r_known_L30 n x1_ x2_ v12 v13 y9.2)))))) else none)) else none) = some r := hF
    refine Z_iload (i := 4) (pc' := 32) dX8_known_30 rfl rfl ?_
    refine Z_bipush (v := 84) (pc' := 34) dX8_known_32 (by decide) rfl ?_
    refine Z_iload_n (i := 2) (pc' := 35) dX8_known_34 rfl rfl rfl ?_
    refine Z_imul (pc' := 36) dX8_known_35 rfl ?_
    refine Z_aload_n (i := 0) (pc' := 37) dX8_known_36 rfl rfl rfl ?_
    refine Z_get (v := .ref (ad 19)) (pc' := 40) 19 zinX8 rfl (by decide) lkX8_58 (mR_obj hG) rfl dX8_known_37 rfl ?_
    refine Z_iload_n (i := 2) (pc' := 41) dX8_known_40 rfl rfl rfl ?_
    obtain ⟨h6, hF⟩ := ck_of hF
    refine Z_iald (pc' := 42) (aR_19 hG) (zIn_in h6) dX8_known_41 rfl ?_
    refine Z_iadd (pc' := 43) dX8_known_42 rfl ?_
    refine Z_icmp_ge (tgt := 87) (pc' := 46) dX8_known_43 (by decide) rfl (fun h7 => ?_) (fun h7 => ?_)
    · rw [if_pos h7] at hF
      cases hF
      exact Z_sub (vs' := [none, none, none, some (.int x3_), none]) (zSb_of _ _ ⟨rfl, trivial⟩) hE
    · rw [if_neg h7] at hF
      refine Z_aload_n (i := 0) (pc' := 47) dX8_known_46 rfl rfl rfl ?_
      refine Z_get (v := .ref (ad 20)) (pc' := 50) 20 zinX8 rfl (by decide) lkX8_61 (mR_obj hG) rfl dX8_known_47 rfl ?_
      refine Z_iload (i := 4) (pc' := 52) dX8_known_50 rfl rfl ?_
      obtain ⟨h8, hF⟩ := ck_of hF
      refine Z_iald (pc' := 53) (aR_20 hG) (zIn_in h8) dX8_known_52 rfl ?_
      refine Z_aload_n (i := 0) (pc' := 54) dX8_known_53 rfl rfl rfl ?_
      refine Z_aload_n (i := 0) (pc' := 55) dX8_known_54 rfl rfl rfl ?_
      refine Z_get (v := .ref (ad 21)) (pc' := 58) 21 zinX8 rfl (by decide) lkX8_64 (mR_obj hG) rfl dX8_known_55 rfl ?_
      refine Z_iload (i := 4) (pc' := 60) dX8_known_58 rfl rfl ?_
      refine Z_iald (pc' := 61) (aR_21 hG) (zIn_in h8) dX8_known_60 rfl ?_
      refine Z_iload_n (i := 1) (pc' := 62) dX8_known_61 rfl rfl rfl ?_
      obtain ⟨y9, hy9, hF⟩ := bd_of hF
      refine Z_callVi (As := [.int (σ 21 (x4_).toNatClampNeg), .int x1_]) (st := [.int (σ 20 (x4_).toNatClampNeg)]) (pc' := 65) (k' := 0) (n' := 0) (qX8_apart l hG hy9) ckX8_apart kvX8_apart mlX8_167 (mR_obj hG) rfl rfl rfl (Nat.le_of_ble_eq_true rfl) ⟨Nat.le_of_ble_eq_true rfl, Nat.le_of_ble_eq_true rfl⟩ ⟨Nat.le_of_ble_eq_true rfl, Nat.le_of_ble_eq_true rfl⟩ dX8_known_62 rfl rfl rfl ?_
      refine Z_iadd (pc' := 66) dX8_known_65 rfl ?_
      refine Z_aload_n (i := 0) (pc' := 67) dX8_known_66 rfl rfl rfl ?_
      refine Z_get (v := .int (y9.2 6 0)) (pc' := 70) 6 zinX8 rfl (by decide) lkX8_153 (mR_obj hG) rfl dX8_known_67 rfl ?_
      refine Z_icmp_gt (tgt := 81) (pc' := 73) dX8_known_70 (by decide) rfl (fun h10 => ?_) (fun h10 => ?_)
      · rw [if_pos h10] at hF
        obtain ⟨v11, hv11, hF⟩ := zl_of hF
        refine Z_iinc (i := 4) (v := v11) (vs' := [some (.ref (ad 42)), some (.int x1_), some (.int x2_), some (.int x3_), some (.int v11)]) (pc' := 84) dX8_known_81 rfl (by rw [hv11]; rfl) (by decide) rfl rfl ?_
        refine Z_goto (tgt := 30) dX8_known_84 (by decide) ?_
        exact Z_sub (vs' := [some (.ref (ad 42)), some (.int x1_), some (.int x2_), some (.int x3_), some (.int v11)]) (zSb_of _ _ ⟨rfl, ⟨rfl, ⟨rfl, ⟨rfl, ⟨rfl, trivial⟩⟩⟩⟩⟩) (ih x1_ x2_ x3_ v11 y9.2 _ hF hE)
      · rw [if_neg h10] at hF
        refine Z_aload_n (i := 0) (pc' := 74) dX8_known_73 rfl rfl rfl ?_
        refine Z_get (v := .ref (ad 22)) (pc' := 77) 22 zinX8 rfl (by decide) lkX8_67 (mR_obj hG) rfl dX8_known_74 rfl ?_
        refine Z_iload (i := 4) (pc' := 79) dX8_known_77 rfl rfl ?_
        refine Z_iald (pc' := 80) (aR_22 hG) (zIn_in h8) dX8_known_79 rfl ?_
        obtain ⟨v12, hv12, hF⟩ := zl_of hF
        refine Z_istore_nE (i := 3) (x' := v12) (vs' := [some (.ref (ad 42)), some (.int x1_), some (.int x2_), some (.int v12), some (.int x4_)]) (pc' := 81) dX8_known_80 rfl hv12 (by decide) rfl rfl ?_
        obtain ⟨v13, hv13, hF⟩ := zl_of hF
        refine Z_iinc (i := 4) (v := v13) (vs' := [some (.ref (ad 42)), some (.int x1_), some (.int x2_), some (.int v12), some (.int v13)]) (pc' := 84) dX8_known_81 rfl (by rw [hv13]; rfl) (by decide) rfl rfl ?_
        refine Z_goto (tgt := 30) dX8_known_84 (by decide) ?_
        exact Z_sub (vs' := [some (.ref (ad 42)), some (.int x1_), some (.int x2_), some (.int v12), some (.int v13)]) (zSb_of _ _ ⟨rfl, ⟨rfl, ⟨rfl, ⟨rfl, ⟨rfl, trivial⟩⟩⟩⟩⟩) (ih x1_ x2_ v12 v13 y9.2 _ hF hE)
set_option maxHeartbeats 4000000 in
set_option maxRecDepth 100000 in
theorem qX8_known (l : Launch) {ad dec : Nat → Nat} (hG : rG ad dec) {x1 : Int32} {x2 : Int32} {σ : zS} {w : Int32 × zS} (hF : r_known x1 x2 σ = some w) : zMet l yX8_known cX8_known 5 (some .int) rmX8_known [.ref (ad 42), .int x1, .int x2] (mR ad dec σ) (fun v M' => v = (some (.int w.1)) ∧ M' = (mR ad dec w.2)) := by
  refine zMet.ofZ (vs := [some (.ref (ad 42)), some (.int x1), some (.int x2), none, none]) (by decide) rfl (zCt_of _ ⟨rfl, ⟨rfl, ⟨rfl, trivial⟩⟩⟩) (Nat.le_of_ble_eq_true rfl) (fun D => ?_)
  unfold r_known at hF
  refine Z_iload_n (i := 1) (pc' := 1) dX8_known_0 rfl rfl rfl ?_
  refine Z_if_lt (tgt := 20) (pc' := 4) dX8_known_1 (by decide) rfl (fun h1 => ?_) (fun h1 => ?_)
  · rw [if_pos h1] at hF
    refine Z_iconst (v := -1) (pc' := 21) dX8_known_20 (by decide) rfl ?_
    cases hF
    exact Z_iret (ty := .int) (w := (-1 : Int32)) dX8_known_21 rfl rfl (Nat.le_refl _) (Nat.le_refl _) ⟨rfl, rfl⟩
  · rw [if_neg h1] at hF
    refine Z_iload_n (i := 1) (pc' := 5) dX8_known_4 rfl rfl rfl ?_
    refine Z_aload_n (i := 0) (pc' := 6) dX8_known_5 rfl rfl rfl ?_
    refine Z_get (v := .int (σ 4 0)) (pc' := 9) 4 zinX8 rfl (by decide) lkX8_20 (mR_obj hG) rfl dX8_known_6 rfl ?_
    refine Z_icmp_ge (tgt := 20) (pc' := 12) dX8_known_9 (by decide) rfl (fun h2 => ?_) (fun h2 => ?_)
    · rw [if_pos h2] at hF
      refine Z_iconst (v := -1) (pc' := 21) dX8_known_20 (by decide) rfl ?_
      cases hF
      exact Z_iret (ty := .int) (w := (-1 : Int32)) dX8_known_21 rfl rfl (Nat.le_refl _) (Nat.le_refl _) ⟨rfl, rfl⟩
    · rw [if_neg h2] at hF
      refine Z_aload_n (i := 0) (pc' := 13) dX8_known_12 rfl rfl rfl ?_
      refine Z_iload_n (i := 2) (pc' := 14) dX8_known_13 rfl rfl rfl ?_
      obtain ⟨y3, hy3, hF⟩ := bd_of hF
      refine Z_callVi (As := [.int x2]) (st := []) (pc' := 17) (k' := 0) (n' := 0) (qX8_isTreasure l hG hy3) ckX8_isTreasure kvX8_isTreasure mlX8_164 (mR_obj hG) rfl rfl rfl (Nat.le_of_ble_eq_true rfl) ⟨Nat.le_of_ble_eq_true rfl, Nat.le_of_ble_eq_true rfl⟩ ⟨Nat.le_of_ble_eq_true rfl, Nat.le_of_ble_eq_true rfl⟩ dX8_known_14 rfl rfl rfl ?_
      refine Z_if_ne (tgt := 22) (pc' := 20) dX8_known_17 (by decide) rfl (fun h4 => ?_) (fun h4 => ?_)
      · rw [if_neg h4] at hF
        refine Z_iconst (v := -1) (pc' := 23) dX8_known_22 (by decide) rfl ?_
        refine Z_istore_nE (i := 3) (x' := (-1 : Int32)) (vs' := [some (.ref (ad 42)), some (.int x1), some (.int x2), some (.int (-1 : Int32)), none]) (pc' := 24) dX8_known_23 rfl rfl (by decide) rfl rfl ?_
        refine Z_bipush (v := 84) (pc' := 26) dX8_known_24 (by decide) rfl ?_
        refine Z_iload_n (i := 2) (pc' := 27) dX8_known_26 rfl rfl rfl ?_
        refine Z_imul (pc' := 28) dX8_known_27 rfl ?_
        obtain ⟨v5, hv5, hF⟩ := zl_of hF
        refine Z_istoreE (i := 4) (x' := v5) (vs' := [some (.ref (ad 42)), some (.int x1), some (.int x2), some (.int (-1 : Int32)), some (.int v5)]) (pc' := 30) dX8_known_28 hv5 (by decide) rfl rfl ?_
        obtain ⟨r14, hr14, hF⟩ := bd_of hF
        refine Z_sub (vs' := [some (.ref (ad 42)), some (.int x1), some (.int x2), some (.int (-1 : Int32)), some (.int v5)]) (zSb_of _ _ ⟨rfl, ⟨rfl, ⟨rfl, ⟨rfl, ⟨rfl, trivial⟩⟩⟩⟩⟩) (qX8_known_L30 hG zF x1 x2 (-1 : Int32) v5 y3.2 _ hr14 ?_)
        refine Z_iload_n (i := 3) (pc' := 88) dX8_known_87 rfl rfl rfl ?_
        cases hF
        exact Z_iret (ty := .int) (w := r14.1) dX8_known_88 rfl rfl (Nat.le_refl _) (Nat.le_refl _) ⟨rfl, rfl⟩
      · rw [if_pos h4] at hF
        refine Z_iconst (v := -1) (pc' := 21) dX8_known_20 (by decide) rfl ?_
        cases hF
        exact Z_iret (ty := .int) (w := (-1 : Int32)) dX8_known_21 rfl rfl (Nat.le_refl _) (Nat.le_refl _) ⟨rfl, rfl⟩
abbrev rmX8_way : Room := { frames := 1, cells := 0, slots := 0, locals := 21 }
def r_way  (x1 : Int32) (x2 : Int32) (σ : zS) : Option (Int32 × zS) := ((r_isTreasure x1 σ).bind (fun y1 => (if y1.1 = 0 then some ((-1 : Int32), y1.2) else (if x2 < 0 then some ((-1 : Int32), y1.2) else (if zIn x1 24 = true then (if (y1.2 17 (x1).toNatClampNeg) ≤ x2 then some ((-1 : Int32), y1.2) else (if zIn (((64 : Int32) * x1) + x2) 1536 = true then some ((y1.2 18 (((64 : Int32) * x1) + x2).toNatClampNeg), y1.2) else none)) else none)))))
set_option maxHeartbeats 4000000 in
set_option maxRecDepth 100000 in
theorem qX8_way (l : Launch) {ad dec : Nat → Nat} (hG : rG ad dec) {x1 : Int32} {x2 : Int32} {σ : zS} {w : Int32 × zS} (hF : r_way x1 x2 σ = some w) : zMet l yX8_way cX8_way 3 (some .int) rmX8_way [.ref (ad 42), .int x1, .int x2] (mR ad dec σ) (fun v M' => v = (some (.int w.1)) ∧ M' = (mR ad dec w.2)) := by
  refine zMet.ofZ (vs := [some (.ref (ad 42)), some (.int x1), some (.int x2)]) (by decide) rfl (zCt_of _ ⟨rfl, ⟨rfl, ⟨rfl, trivial⟩⟩⟩) (Nat.le_of_ble_eq_true rfl) (fun D => ?_)
  unfold r_way at hF
  refine Z_aload_n (i := 0) (pc' := 1) dX8_way_0 rfl rfl rfl ?_
  refine Z_iload_n (i := 1) (pc' := 2) dX8_way_1 rfl rfl rfl ?_
  obtain ⟨y1, hy1, hF⟩ := bd_of hF
  refine Z_callVi (As := [.int x1]) (st := []) (pc' := 5) (k' := 0) (n' := 0) (qX8_isTreasure l hG hy1) ckX8_isTreasure kvX8_isTreasure mlX8_164 (mR_obj hG) rfl rfl rfl (Nat.le_of_ble_eq_true rfl) ⟨Nat.le_of_ble_eq_true rfl, Nat.le_of_ble_eq_true rfl⟩ ⟨Nat.le_of_ble_eq_true rfl, Nat.le_of_ble_eq_true rfl⟩ dX8_way_2 rfl rfl rfl ?_
  refine Z_if_eq (tgt := 36) (pc' := 8) dX8_way_5 (by decide) rfl (fun h2 => ?_) (fun h2 => ?_)
  · rw [if_pos h2] at hF
    refine Z_iconst (v := -1) (pc' := 37) dX8_way_36 (by decide) rfl ?_
    cases hF
    exact Z_iret (ty := .int) (w := (-1 : Int32)) dX8_way_37 rfl rfl (Nat.le_refl _) (Nat.le_refl _) ⟨rfl, rfl⟩
  · rw [if_neg h2] at hF
    refine Z_iload_n (i := 2) (pc' := 9) dX8_way_8 rfl rfl rfl ?_
    refine Z_if_lt (tgt := 36) (pc' := 12) dX8_way_9 (by decide) rfl (fun h3 => ?_) (fun h3 => ?_)
    · rw [if_pos h3] at hF
      refine Z_iconst (v := -1) (pc' := 37) dX8_way_36 (by decide) rfl ?_
      cases hF
      exact Z_iret (ty := .int) (w := (-1 : Int32)) dX8_way_37 rfl rfl (Nat.le_refl _) (Nat.le_refl _) ⟨rfl, rfl⟩
    · rw [if_neg h3] at hF
      refine Z_iload_n (i := 2) (pc' := 13) dX8_way_12 rfl rfl rfl ?_
      refine Z_aload_n (i := 0) (pc' := 14) dX8_way_13 rfl rfl rfl ?_
      refine Z_get (v := .ref (ad 17)) (pc' := 17) 17 zinX8 rfl (by decide) lkX8_52 (mR_obj hG) rfl dX8_way_14 rfl ?_
      refine Z_iload_n (i := 1) (pc' := 18) dX8_way_17 rfl rfl rfl ?_
      obtain ⟨h4, hF⟩ := ck_of hF
      refine Z_iald (pc' := 19) (aR_17 hG) (zIn_in h4) dX8_way_18 rfl ?_
      refine Z_icmp_ge (tgt := 36) (pc' := 22) dX8_way_19 (by decide) rfl (fun h5 => ?_) (fun h5 => ?_)
      · rw [if_pos h5] at hF
        refine Z_iconst (v := -1) (pc' := 37) dX8_way_36 (by decide) rfl ?_
        cases hF
        exact Z_iret (ty := .int) (w := (-1 : Int32)) dX8_way_37 rfl rfl (Nat.le_refl _) (Nat.le_refl _) ⟨rfl, rfl⟩
      · rw [if_neg h5] at hF
        refine Z_aload_n (i := 0) (pc' := 23) dX8_way_22 rfl rfl rfl ?_
        refine Z_get (v := .ref (ad 18)) (pc' := 26) 18 zinX8 rfl (by decide) lkX8_55 (mR_obj hG) rfl dX8_way_23 rfl ?_
        refine Z_bipush (v := 64) (pc' := 28) dX8_way_26 (by decide) rfl ?_
        refine Z_iload_n (i := 1) (pc' := 29) dX8_way_28 rfl rfl rfl ?_
        refine Z_imul (pc' := 30) dX8_way_29 rfl ?_
        refine Z_iload_n (i := 2) (pc' := 31) dX8_way_30 rfl rfl rfl ?_
        refine Z_iadd (pc' := 32) dX8_way_31 rfl ?_
        obtain ⟨h6, hF⟩ := ck_of hF
        refine Z_iald (pc' := 33) (aR_18 hG) (zIn_in h6) dX8_way_32 rfl ?_
        refine Z_goto (tgt := 37) dX8_way_33 (by decide) ?_
        cases hF
        exact Z_iret (ty := .int) (w := (y1.2 18 (((64 : Int32) * x1) + x2).toNatClampNeg)) dX8_way_37 rfl rfl (Nat.le_refl _) (Nat.le_refl _) ⟨rfl, rfl⟩
abbrev rmX8_isOpen : Room := { frames := 0, cells := 0, slots := 0, locals := 0 }
def r_isOpen  (x1 : Int32) (σ : zS) : Option (Int32 × zS) := (if zIn x1 200 = true then (if (σ 30 (x1).toNatClampNeg) = (-1 : Int32) then some ((1 : Int32), σ) else some ((0 : Int32), σ)) else none)
set_option maxHeartbeats 4000000 in
set_option maxRecDepth 100000 in
theorem qX8_isOpen (l : Launch) {ad dec : Nat → Nat} (hG : rG ad dec) {x1 : Int32} {σ : zS} {w : Int32 × zS} (hF : r_isOpen x1 σ = some w) : zMet l yX8_isOpen cX8_isOpen 2 (some .boolean) rmX8_isOpen [.ref (ad 42), .int x1] (mR ad dec σ) (fun v M' => v = (some (.int w.1)) ∧ M' = (mR ad dec w.2)) := by
  refine zMet.ofZ (vs := [some (.ref (ad 42)), some (.int x1)]) (by decide) rfl (zCt_of _ ⟨rfl, ⟨rfl, trivial⟩⟩) (Nat.le_of_ble_eq_true rfl) (fun D => ?_)
  unfold r_isOpen at hF
  refine Z_aload_n (i := 0) (pc' := 1) dX8_isOpen_0 rfl rfl rfl ?_
  refine Z_get (v := .ref (ad 30)) (pc' := 4) 30 zinX8 rfl (by decide) lkX8_88 (mR_obj hG) rfl dX8_isOpen_1 rfl ?_
  refine Z_iload_n (i := 1) (pc' := 5) dX8_isOpen_4 rfl rfl rfl ?_
  obtain ⟨h1, hF⟩ := ck_of hF
  refine Z_iald (pc' := 6) (aR_30 hG) (zIn_in h1) dX8_isOpen_5 rfl ?_
  refine Z_iconst (v := -1) (pc' := 7) dX8_isOpen_6 (by decide) rfl ?_
  refine Z_icmp_ne (tgt := 14) (pc' := 10) dX8_isOpen_7 (by decide) rfl (fun h2 => ?_) (fun h2 => ?_)
  · rw [if_neg h2] at hF
    refine Z_iconst (v := 0) (pc' := 15) dX8_isOpen_14 (by decide) rfl ?_
    cases hF
    exact Z_iret (ty := .boolean) (w := (0 : Int32)) dX8_isOpen_15 rfl rfl (Nat.le_refl _) (Nat.le_refl _) ⟨rfl, rfl⟩
  · rw [if_pos h2] at hF
    refine Z_iconst (v := 1) (pc' := 11) dX8_isOpen_10 (by decide) rfl ?_
    refine Z_goto (tgt := 15) dX8_isOpen_11 (by decide) ?_
    cases hF
    exact Z_iret (ty := .boolean) (w := (1 : Int32)) dX8_isOpen_15 rfl rfl (Nat.le_refl _) (Nat.le_refl _) ⟨rfl, rfl⟩
abbrev rmX8_isLate : Room := { frames := 1, cells := 0, slots := 0, locals := 21 }
def r_isLate  (x1 : Int32) (σ : zS) : Option (Int32 × zS) := ((r_isOpen x1 σ).bind (fun y1 => (if y1.1 = 0 then some ((0 : Int32), y1.2) else (if zIn x1 200 = true then (if (y1.2 6 0) ≤ (y1.2 28 (x1).toNatClampNeg) then some ((0 : Int32), y1.2) else some ((1 : Int32), y1.2)) else none))))
set_option maxHeartbeats 4000000 in
set_option maxRecDepth 100000 in
theorem qX8_isLate (l : Launch) {ad dec : Nat → Nat} (hG : rG ad dec) {x1 : Int32} {σ : zS} {w : Int32 × zS} (hF : r_isLate x1 σ = some w) : zMet l yX8_isLate cX8_isLate 2 (some .boolean) rmX8_isLate [.ref (ad 42), .int x1] (mR ad dec σ) (fun v M' => v = (some (.int w.1)) ∧ M' = (mR ad dec w.2)) := by
  refine zMet.ofZ (vs := [some (.ref (ad 42)), some (.int x1)]) (by decide) rfl (zCt_of _ ⟨rfl, ⟨rfl, trivial⟩⟩) (Nat.le_of_ble_eq_true rfl) (fun D => ?_)
  unfold r_isLate at hF
  refine Z_aload_n (i := 0) (pc' := 1) dX8_isLate_0 rfl rfl rfl ?_
  refine Z_iload_n (i := 1) (pc' := 2) dX8_isLate_1 rfl rfl rfl ?_
  obtain ⟨y1, hy1, hF⟩ := bd_of hF
  refine Z_callVi (As := [.int x1]) (st := []) (pc' := 5) (k' := 0) (n' := 0) (qX8_isOpen l hG hy1) ckX8_isOpen kvX8_isOpen mlX8_171 (mR_obj hG) rfl rfl rfl (Nat.le_of_ble_eq_true rfl) ⟨Nat.le_of_ble_eq_true rfl, Nat.le_of_ble_eq_true rfl⟩ ⟨Nat.le_of_ble_eq_true rfl, Nat.le_of_ble_eq_true rfl⟩ dX8_isLate_2 rfl rfl rfl ?_
  refine Z_if_eq (tgt := 25) (pc' := 8) dX8_isLate_5 (by decide) rfl (fun h2 => ?_) (fun h2 => ?_)
  · rw [if_pos h2] at hF
    refine Z_iconst (v := 0) (pc' := 26) dX8_isLate_25 (by decide) rfl ?_
    cases hF
    exact Z_iret (ty := .boolean) (w := (0 : Int32)) dX8_isLate_26 rfl rfl (Nat.le_refl _) (Nat.le_refl _) ⟨rfl, rfl⟩
  · rw [if_neg h2] at hF
    refine Z_aload_n (i := 0) (pc' := 9) dX8_isLate_8 rfl rfl rfl ?_
    refine Z_get (v := .int (y1.2 6 0)) (pc' := 12) 6 zinX8 rfl (by decide) lkX8_153 (mR_obj hG) rfl dX8_isLate_9 rfl ?_
    refine Z_aload_n (i := 0) (pc' := 13) dX8_isLate_12 rfl rfl rfl ?_
    refine Z_get (v := .ref (ad 28)) (pc' := 16) 28 zinX8 rfl (by decide) lkX8_82 (mR_obj hG) rfl dX8_isLate_13 rfl ?_
    refine Z_iload_n (i := 1) (pc' := 17) dX8_isLate_16 rfl rfl rfl ?_
    obtain ⟨h3, hF⟩ := ck_of hF
    refine Z_iald (pc' := 18) (aR_28 hG) (zIn_in h3) dX8_isLate_17 rfl ?_
    refine Z_icmp_le (tgt := 25) (pc' := 21) dX8_isLate_18 (by decide) rfl (fun h4 => ?_) (fun h4 => ?_)
    · rw [if_pos h4] at hF
      refine Z_iconst (v := 0) (pc' := 26) dX8_isLate_25 (by decide) rfl ?_
      cases hF
      exact Z_iret (ty := .boolean) (w := (0 : Int32)) dX8_isLate_26 rfl rfl (Nat.le_refl _) (Nat.le_refl _) ⟨rfl, rfl⟩
    · rw [if_neg h4] at hF
      refine Z_iconst (v := 1) (pc' := 22) dX8_isLate_21 (by decide) rfl ?_
      refine Z_goto (tgt := 26) dX8_isLate_22 (by decide) ?_
      cases hF
      exact Z_iret (ty := .boolean) (w := (1 : Int32)) dX8_isLate_26 rfl rfl (Nat.le_refl _) (Nat.le_refl _) ⟨rfl, rfl⟩
abbrev rmX8_quarrels : Room := { frames := 2, cells := 0, slots := 0, locals := 42 }
def r_quarrels_L2 : Nat → Int32 → Int32 → Int32 → zS → Option ((Int32 × zS) ⊕ (zS))
  | 0, _, _, _, _ => none
  | n + 1, x1_, x2_, x3_, σ => (if (σ 23 0) ≤ x3_ then some (.inr (σ)) else ((r_isLate x3_ σ).bind (fun y2 => (if y2.1 = 0 then zl (x3_ + 1) (fun (v4 : Int32) => (r_quarrels_L2 n x1_ x2_ v4 y2.2)) else (if zIn x3_ 200 = true then (if (y2.2 24 (x3_).toNatClampNeg) = x1_ then (if (y2.2 25 (x3_).toNatClampNeg) = x2_ then some (.inl ((1 : Int32), y2.2)) else (if (y2.2 24 (x3_).toNatClampNeg) = x2_ then (if (y2.2 25 (x3_).toNatClampNeg) = x1_ then some (.inl ((1 : Int32), y2.2)) else zl (x3_ + 1) (fun (v15 : Int32) => (r_quarrels_L2 n x1_ x2_ v15 y2.2))) else zl (x3_ + 1) (fun (v13 : Int32) => (r_quarrels_L2 n x1_ x2_ v13 y2.2)))) else (if (y2.2 24 (x3_).toNatClampNeg) = x2_ then (if (y2.2 25 (x3_).toNatClampNeg) = x1_ then some (.inl ((1 : Int32), y2.2)) else zl (x3_ + 1) (fun (v10 : Int32) => (r_quarrels_L2 n x1_ x2_ v10 y2.2))) else zl (x3_ + 1) (fun (v8 : Int32) => (r_quarrels_L2 n x1_ x2_ v8 y2.2)))) else none)))))
def r_quarrels  (x1 : Int32) (x2 : Int32) (σ : zS) : Option (Int32 × zS) := ((r_quarrels_L2 zF x1 x2 (0 : Int32) σ).bind (zsum (fun w => some w) (fun q17 => some ((0 : Int32), q17))))
set_option maxHeartbeats 4000000 in
set_option maxRecDepth 100000 in
theorem qX8_quarrels_L2 {l : Launch} {D : va_G} {M0 : zM} {Q : Option Value → zM → Prop} {ad dec : Nat → Nat} (hG : rG ad dec) : ∀ (n : Nat) (x1_ : Int32) (x2_ : Int32) (x3_ : Int32) (σ : zS) (r : ((Int32 × zS) ⊕ (zS))), r_quarrels_L2 n x1_ x2_ x3_ σ = some r → ((∀ a, r = .inl a → Q (some (.int a.1)) (mR ad dec a.2))) → ((∀ q, r = .inr q → Z l yX8_quarrels cX8_quarrels 4 (some .boolean) rmX8_quarrels 0 0 D M0 Q 0 0 66 [none, none, none, none] [] (mR ad dec q))) → Z l yX8_quarrels cX8_quarrels 4 (some .boolean) rmX8_quarrels 0 0 D M0 Q 0 0 2 [some (.ref (ad 42)), some (.int x1_), some (.int x2_), some (.int x3_)] [] (mR ad dec σ) := by
  intro n
  induction n with
  | zero =>
    intro x1_ x2_ x3_ σ r hF hI hE
    exact absurd (show (none : Option ((Int32 × zS) ⊕ (zS))) = some r from hF) (by simp)
  | succ n ih =>
    intro x1_ x2_ x3_ σ r hF hI hE
    replace hF : (if (σ 23 0) ≤ x3_ then some (.inr (σ)) else ((r_isLate x3_ σ).bind (fun y2 => (if y2.1 = 0 then zl (x3_ + 1) (fun (v4 : Int32) => (r_quarrels_L2 n x1_ x2_ v4 y2.2)) else (if zIn x3_ 200 = true then (if (y2.2 24 (x3_).toNatClampNeg) = x1_ then (if (y2.2 25 (x3_).toNatClampNeg) = x2_ then some (.inl ((1 : Int32), y2.2)) else (if (y2.2 24 (x3_).toNatClampNeg) = x2_ then (if (y2.2 25 (x3_).toNatClampNeg) = x1_ then some (.inl ((1 : Int32), y2.2)) else zl (x3_ + 1) (fun (v15 : Int32) => (r_quarrels_L2 n x1_ x2_ v15 y2.2))) else zl (x3_ + 1) (fun (v13 : Int32) => (r_quarrels_L2 n x1_ x2_ v13 y2.2)))) else (if (y2.2 24 (x3_).toNatClampNeg) = x2_ then (if (y2.2 25 (x3_).toNatClampNeg) = x1_ then some (.inl ((1 : Int32), y2.2)) else zl (x3_ + 1) (fun (v10 : Int32) => (r_quarrels_L2 n x1_ x2_ v10 y2.2))) else zl (x3_ + 1) (fun (v8 : Int32) => (r_quarrels_L2 n x1_ x2_ v8 y2.2)))) else none))))) = some r := hF
    refine Z_iload_n (i := 3) (pc' := 3) dX8_quarrels_2 rfl rfl rfl ?_
    refine Z_aload_n (i := 0) (pc' := 4) dX8_quarrels_3 rfl rfl rfl ?_
    refine Z_get (v := .int (σ 23 0)) (pc' := 7) 23 zinX8 rfl (by decide) lkX8_174 (mR_obj hG) rfl dX8_quarrels_4 rfl ?_
    refine Z_icmp_ge (tgt := 66) (pc' := 10) dX8_quarrels_7 (by decide) rfl (fun h1 => ?_) (fun h1 => ?_)
    · rw [if_pos h1] at hF
      cases hF
      exact Z_sub (vs' := [none, none, none, none]) (zSb_of _ _ trivial) (hE _ rfl)
    · rw [if_neg h1] at hF
      refine Z_aload_n (i := 0) (pc' := 11) dX8_quarrels_10 rfl rfl rfl ?_
      refine Z_iload_n (i := 3) (pc' := 12) dX8_quarrels_11 rfl rfl rfl ?_
      obtain ⟨y2, hy2, hF⟩ := bd_of hF
      refine Z_callVi (As := [.int x3_]) (st := []) (pc' := 15) (k' := 0) (n' := 0) (qX8_isLate l hG hy2) ckX8_isLate kvX8_isLate mlX8_177 (mR_obj hG) rfl rfl rfl (Nat.le_of_ble_eq_true rfl) ⟨Nat.le_of_ble_eq_true rfl, Nat.le_of_ble_eq_true rfl⟩ ⟨Nat.le_of_ble_eq_true rfl, Nat.le_of_ble_eq_true rfl⟩ dX8_quarrels_12 rfl rfl rfl ?_
      refine Z_if_eq (tgt := 60) (pc' := 18) dX8_quarrels_15 (by decide) rfl (fun h3 => ?_) (fun h3 => ?_)
      · rw [if_pos h3] at hF
        obtain ⟨v4, hv4, hF⟩ := zl_of hF
        refine Z_iinc (i := 3) (v := v4) (vs' := [some (.ref (ad 42)), some (.int x1_), some (.int x2_), some (.int v4)]) (pc' := 63) dX8_quarrels_60 rfl (by rw [hv4]; rfl) (by decide) rfl rfl ?_
        refine Z_goto (tgt := 2) dX8_quarrels_63 (by decide) ?_
        exact Z_sub (vs' := [some (.ref (ad 42)), some (.int x1_), some (.int x2_), some (.int v4)]) (zSb_of _ _ ⟨rfl, ⟨rfl, ⟨rfl, ⟨rfl, trivial⟩⟩⟩⟩) (ih x1_ x2_ v4 y2.2 _ hF hI hE)
      · rw [if_neg h3] at hF
        refine Z_aload_n (i := 0) (pc' := 19) dX8_quarrels_18 rfl rfl rfl ?_
        refine Z_get (v := .ref (ad 24)) (pc' := 22) 24 zinX8 rfl (by decide) lkX8_70 (mR_obj hG) rfl dX8_quarrels_19 rfl ?_
        refine Z_iload_n (i := 3) (pc' := 23) dX8_quarrels_22 rfl rfl rfl ?_
        obtain ⟨h5, hF⟩ := ck_of hF
        refine Z_iald (pc' := 24) (aR_24 hG) (zIn_in h5) dX8_quarrels_23 rfl ?_
        refine Z_iload_n (i := 1) (pc' := 25) dX8_quarrels_24 rfl rfl rfl ?_
        refine Z_icmp_ne (tgt := 38) (pc' := 28) dX8_quarrels_25 (by decide) rfl (fun h6 => ?_) (fun h6 => ?_)
        · rw [if_neg h6] at hF
          refine Z_aload_n (i := 0) (pc' := 39) dX8_quarrels_38 rfl rfl rfl ?_
          refine Z_get (v := .ref (ad 24)) (pc' := 42) 24 zinX8 rfl (by decide) lkX8_70 (mR_obj hG) rfl dX8_quarrels_39 rfl ?_
          refine Z_iload_n (i := 3) (pc' := 43) dX8_quarrels_42 rfl rfl rfl ?_
          refine Z_iald (pc' := 44) (aR_24 hG) (zIn_in h5) dX8_quarrels_43 rfl ?_
          refine Z_iload_n (i := 2) (pc' := 45) dX8_quarrels_44 rfl rfl rfl ?_
          refine Z_icmp_ne (tgt := 60) (pc' := 48) dX8_quarrels_45 (by decide) rfl (fun h7 => ?_) (fun h7 => ?_)
          · rw [if_neg h7] at hF
            obtain ⟨v8, hv8, hF⟩ := zl_of hF
            refine Z_iinc (i := 3) (v := v8) (vs' := [some (.ref (ad 42)), some (.int x1_), some (.int x2_), some (.int v8)]) (pc' := 63) dX8_quarrels_60 rfl (by rw [hv8]; rfl) (by decide) rfl rfl ?_
            refine Z_goto (tgt := 2) dX8_quarrels_63 (by decide) ?_
            exact Z_sub (vs' := [some (.ref (ad 42)), some (.int x1_), some (.int x2_), some (.int v8)]) (zSb_of _ _ ⟨rfl, ⟨rfl, ⟨rfl, ⟨rfl, trivial⟩⟩⟩⟩) (ih x1_ x2_ v8 y2.2 _ hF hI hE)
          · rw [if_pos h7] at hF
            refine Z_aload_n (i := 0) (pc' := 49) dX8_quarrels_48 rfl rfl rfl ?_
            refine Z_get (v := .ref (ad 25)) (pc' := 52) 25 zinX8 rfl (by decide) lkX8_73 (mR_obj hG) rfl dX8_quarrels_49 rfl ?_
            refine Z_iload_n (i := 3) (pc' := 53) dX8_quarrels_52 rfl rfl rfl ?_
            refine Z_iald (pc' := 54) (aR_25 hG) (zIn_in h5) dX8_quarrels_53 rfl ?_
            refine Z_iload_n (i := 1) (pc' := 55) dX8_quarrels_54 rfl rfl rfl ?_
            refine Z_icmp_ne (tgt := 60) (pc' := 58) dX8_quarrels_55 (by decide) rfl (fun h9 => ?_) (fun h9 => ?_)
            · rw [if_neg h9] at hF
              obtain ⟨v10, hv10, hF⟩ := zl_of hF
              refine Z_iinc (i := 3) (v := v10) (vs' := [some (.ref (ad 42)), some (.int x1_), some (.int x2_), some (.int v10)]) (pc' := 63) dX8_quarrels_60 rfl (by rw [hv10]; rfl) (by decide) rfl rfl ?_
              refine Z_goto (tgt := 2) dX8_quarrels_63 (by decide) ?_
              exact Z_sub (vs' := [some (.ref (ad 42)), some (.int x1_), some (.int x2_), some (.int v10)]) (zSb_of _ _ ⟨rfl, ⟨rfl, ⟨rfl, ⟨rfl, trivial⟩⟩⟩⟩) (ih x1_ x2_ v10 y2.2 _ hF hI hE)
            · rw [if_pos h9] at hF
              refine Z_iconst (v := 1) (pc' := 59) dX8_quarrels_58 (by decide) rfl ?_
              cases hF
              exact Z_iret (ty := .boolean) (w := (1 : Int32)) dX8_quarrels_59 rfl rfl (Nat.le_refl _) (Nat.le_refl _) (hI _ rfl)
        · rw [if_pos h6] at hF
          refine Z_aload_n (i := 0) (pc' := 29) dX8_quarrels_28 rfl rfl rfl ?_
          refine Z_get (v := .ref (ad 25)) (pc' := 32) 25 zinX8 rfl (by decide) lkX8_73 (mR_obj hG) rfl dX8_quarrels_29 rfl ?_
          refine Z_iload_n (i := 3) (pc' := 33) dX8_quarrels_32 rfl rfl rfl ?_
          refine Z_iald (pc' := 34) (aR_25 hG) (zIn_in h5) dX8_quarrels_33 rfl ?_
          refine Z_iload_n (i := 2) (pc' := 35) dX8_quarrels_34 rfl rfl rfl ?_
          refine Z_icmp_eq (tgt := 58) (pc' := 38) dX8_quarrels_35 (by decide) rfl (fun h11 => ?_) (fun h11 => ?_)
          · rw [if_pos h11] at hF
            refine Z_iconst (v := 1) (pc' := 59) dX8_quarrels_58 (by decide) rfl ?_
            cases hF
            exact Z_iret (ty := .boolean) (w := (1 : Int32)) dX8_quarrels_59 rfl rfl (Nat.le_refl _) (Nat.le_refl _) (hI _ rfl)
          · rw [if_neg h11] at hF
            refine Z_aload_n (i := 0) (pc' := 39) dX8_quarrels_38 rfl rfl rfl ?_
            refine Z_get (v := .ref (ad 24)) (pc' := 42) 24 zinX8 rfl (by decide) lkX8_70 (mR_obj hG) rfl dX8_quarrels_39 rfl ?_
            refine Z_iload_n (i := 3) (pc' := 43) dX8_quarrels_42 rfl rfl rfl ?_
            refine Z_iald (pc' := 44) (aR_24 hG) (zIn_in h5) dX8_quarrels_43 rfl ?_
            refine Z_iload_n (i := 2) (pc' := 45) dX8_quarrels_44 rfl rfl rfl ?_
            refine Z_icmp_ne (tgt := 60) (pc' := 48) dX8_quarrels_45 (by decide) rfl (fun h12 => ?_) (fun h12 => ?_)
            · rw [if_neg h12] at hF
              obtain ⟨v13, hv13, hF⟩ := zl_of hF
              refine Z_iinc (i := 3) (v := v13) (vs' := [some (.ref (ad 42)), some (.int x1_), some (.int x2_), some (.int v13)]) (pc' := 63) dX8_quarrels_60 rfl (by rw [hv13]; rfl) (by decide) rfl rfl ?_
              refine Z_goto (tgt := 2) dX8_quarrels_63 (by decide) ?_
              exact Z_sub (vs' := [some (.ref (ad 42)), some (.int x1_), some (.int x2_), some (.int v13)]) (zSb_of _ _ ⟨rfl, ⟨rfl, ⟨rfl, ⟨rfl, trivial⟩⟩⟩⟩) (ih x1_ x2_ v13 y2.2 _ hF hI hE)
            · rw [if_pos h12] at hF
              refine Z_aload_n (i := 0) (pc' := 49) dX8_quarrels_48 rfl rfl rfl ?_
              refine Z_get (v := .ref (ad 25)) (pc' := 52) 25 zinX8 rfl (by decide) lkX8_73 (mR_obj hG) rfl dX8_quarrels_49 rfl ?_
              refine Z_iload_n (i := 3) (pc' := 53) dX8_quarrels_52 rfl rfl rfl ?_
              refine Z_iald (pc' := 54) (aR_25 hG) (zIn_in h5) dX8_quarrels_53 rfl ?_
              refine Z_iload_n (i := 1) (pc' := 55) dX8_quarrels_54 rfl rfl rfl ?_
              refine Z_icmp_ne (tgt := 60) (pc' := 58) dX8_quarrels_55 (by decide) rfl (fun h14 => ?_) (fun h14 => ?_)
              · rw [if_neg h14] at hF
                obtain ⟨v15, hv15, hF⟩ := zl_of hF
                refine Z_iinc (i := 3) (v := v15) (vs' := [some (.ref (ad 42)), some (.int x1_), some (.int x2_), some (.int v15)]) (pc' := 63) dX8_quarrels_60 rfl (by rw [hv15]; rfl) (by decide) rfl rfl ?_
                refine Z_goto (tgt := 2) dX8_quarrels_63 (by decide) ?_
                exact Z_sub (vs' := [some (.ref (ad 42)), some (.int x1_), some (.int x2_), some (.int v15)]) (zSb_of _ _ ⟨rfl, ⟨rfl, ⟨rfl, ⟨rfl, trivial⟩⟩⟩⟩) (ih x1_ x2_ v15 y2.2 _ hF hI hE)
              · rw [if_pos h14] at hF
                refine Z_iconst (v := 1) (pc' := 59) dX8_quarrels_58 (by decide) rfl ?_
                cases hF
                exact Z_iret (ty := .boolean) (w := (1 : Int32)) dX8_quarrels_59 rfl rfl (Nat.le_refl _) (Nat.le_refl _) (hI _ rfl)
set_option maxHeartbeats 4000000 in
set_option maxRecDepth 100000 in
theorem qX8_quarrels (l : Launch) {ad dec : Nat → Nat} (hG : rG ad dec) {x1 : Int32} {x2 : Int32} {σ : zS} {w : Int32 × zS} (hF : r_quarrels x1 x2 σ = some w) : zMet l yX8_quarrels cX8_quarrels 4 (some .boolean) rmX8_quarrels [.ref (ad 42), .int x1, .int x2] (mR ad dec σ) (fun v M' => v = (some (.int w.1)) ∧ M' = (mR ad dec w.2)) := by
  refine zMet.ofZ (vs := [some (.ref (ad 42)), some (.int x1), some (.int x2), none]) (by decide) rfl (zCt_of _ ⟨rfl, ⟨rfl, ⟨rfl, trivial⟩⟩⟩) (Nat.le_of_ble_eq_true rfl) (fun D => ?_)
  unfold r_quarrels at hF
  refine Z_iconst (v := 0) (pc' := 1) dX8_quarrels_0 (by decide) rfl ?_
  refine Z_istore_nE (i := 3) (x' := (0 : Int32)) (vs' := [some (.ref (ad 42)), some (.int x1), some (.int x2), some (.int (0 : Int32))]) (pc' := 2) dX8_quarrels_1 rfl rfl (by decide) rfl rfl ?_
  obtain ⟨r16, hr16, hF⟩ := bd_of hF
  refine Z_sub (vs' := [some (.ref (ad 42)), some (.int x1), some (.int x2), some (.int (0 : Int32))]) (zSb_of _ _ ⟨rfl, ⟨rfl, ⟨rfl, ⟨rfl, trivial⟩⟩⟩⟩) (qX8_quarrels_L2 hG zF x1 x2 (0 : Int32) σ _ hr16 (fun w hw => ?_) (fun q17 hq17 => ?_))
  · rw [hw] at hF
    have hF := zsum_l hF
    cases hF
    exact ⟨rfl, rfl⟩
  · rw [hq17] at hF
    replace hF := zsum_r hF
    refine Z_iconst (v := 0) (pc' := 67) dX8_quarrels_66 (by decide) rfl ?_
    cases hF
    exact Z_iret (ty := .boolean) (w := (0 : Int32)) dX8_quarrels_67 rfl rfl (Nat.le_refl _) (Nat.le_refl _) ⟨rfl, rfl⟩
abbrev rmX8_goesRound : Room := { frames := 1, cells := 0, slots := 0, locals := 21 }
def r_goesRound  (x1 : Int32) (x2 : Int32) (x3 : Int32) (σ : zS) : Option (Int32 × zS) := (if zIn x3 24 = true then (if (σ 12 (x3).toNatClampNeg) = 0 then (if zIn x1 16 = true then ((r_nextOf (σ 7 (x1).toNatClampNeg) σ).bind (fun y8 => (if zIn x2 16 = true then (if y8.1 = (y8.2 7 (x2).toNatClampNeg) then some ((1 : Int32), y8.2) else some ((0 : Int32), y8.2)) else none))) else none) else (if zIn x2 16 = true then ((r_nextOf (σ 7 (x2).toNatClampNeg) σ).bind (fun y4 => (if zIn x1 16 = true then (if y4.1 = (y4.2 7 (x1).toNatClampNeg) then some ((1 : Int32), y4.2) else some ((0 : Int32), y4.2)) else none))) else none)) else none)
set_option maxHeartbeats 4000000 in
set_option maxRecDepth 100000 in
theorem qX8_goesRound (l : Launch) {ad dec : Nat → Nat} (hG : rG ad dec) {x1 : Int32} {x2 : Int32} {x3 : Int32} {σ : zS} {w : Int32 × zS} (hF : r_goesRound x1 x2 x3 σ = some w) : zMet l yX8_goesRound cX8_goesRound 4 (some .boolean) rmX8_goesRound [.ref (ad 42), .int x1, .int x2, .int x3] (mR ad dec σ) (fun v M' => v = (some (.int w.1)) ∧ M' = (mR ad dec w.2)) := by
  refine zMet.ofZ (vs := [some (.ref (ad 42)), some (.int x1), some (.int x2), some (.int x3)]) (by decide) rfl (zCt_of _ ⟨rfl, ⟨rfl, ⟨rfl, ⟨rfl, trivial⟩⟩⟩⟩) (Nat.le_of_ble_eq_true rfl) (fun D => ?_)
  unfold r_goesRound at hF
  refine Z_aload_n (i := 0) (pc' := 1) dX8_goesRound_0 rfl rfl rfl ?_
  refine Z_get (v := .ref (ad 12)) (pc' := 4) 12 zinX8 rfl (by decide) lkX8_37 (mR_obj hG) rfl dX8_goesRound_1 rfl ?_
  refine Z_iload_n (i := 3) (pc' := 5) dX8_goesRound_4 rfl rfl rfl ?_
  obtain ⟨h1, hF⟩ := ck_of hF
  refine Z_iald (pc' := 6) (aR_12 hG) (zIn_in h1) dX8_goesRound_5 rfl ?_
  refine Z_if_ne (tgt := 36) (pc' := 9) dX8_goesRound_6 (by decide) rfl (fun h2 => ?_) (fun h2 => ?_)
  · rw [if_neg h2] at hF
    refine Z_aload_n (i := 0) (pc' := 37) dX8_goesRound_36 rfl rfl rfl ?_
    refine Z_aload_n (i := 0) (pc' := 38) dX8_goesRound_37 rfl rfl rfl ?_
    refine Z_get (v := .ref (ad 7)) (pc' := 41) 7 zinX8 rfl (by decide) lkX8_24 (mR_obj hG) rfl dX8_goesRound_38 rfl ?_
    refine Z_iload_n (i := 2) (pc' := 42) dX8_goesRound_41 rfl rfl rfl ?_
    obtain ⟨h3, hF⟩ := ck_of hF
    refine Z_iald (pc' := 43) (aR_7 hG) (zIn_in h3) dX8_goesRound_42 rfl ?_
    obtain ⟨y4, hy4, hF⟩ := bd_of hF
    refine Z_callVi (As := [.int (σ 7 (x2).toNatClampNeg)]) (st := []) (pc' := 46) (k' := 0) (n' := 0) (qX8_nextOf l hG hy4) ckX8_nextOf kvX8_nextOf mlX8_147 (mR_obj hG) rfl rfl rfl (Nat.le_of_ble_eq_true rfl) ⟨Nat.le_of_ble_eq_true rfl, Nat.le_of_ble_eq_true rfl⟩ ⟨Nat.le_of_ble_eq_true rfl, Nat.le_of_ble_eq_true rfl⟩ dX8_goesRound_43 rfl rfl rfl ?_
    refine Z_aload_n (i := 0) (pc' := 47) dX8_goesRound_46 rfl rfl rfl ?_
    refine Z_get (v := .ref (ad 7)) (pc' := 50) 7 zinX8 rfl (by decide) lkX8_24 (mR_obj hG) rfl dX8_goesRound_47 rfl ?_
    refine Z_iload_n (i := 1) (pc' := 51) dX8_goesRound_50 rfl rfl rfl ?_
    obtain ⟨h5, hF⟩ := ck_of hF
    refine Z_iald (pc' := 52) (aR_7 hG) (zIn_in h5) dX8_goesRound_51 rfl ?_
    refine Z_icmp_ne (tgt := 59) (pc' := 55) dX8_goesRound_52 (by decide) rfl (fun h6 => ?_) (fun h6 => ?_)
    · rw [if_neg h6] at hF
      refine Z_iconst (v := 0) (pc' := 60) dX8_goesRound_59 (by decide) rfl ?_
      cases hF
      exact Z_iret (ty := .boolean) (w := (0 : Int32)) dX8_goesRound_60 rfl rfl (Nat.le_refl _) (Nat.le_refl _) ⟨rfl, rfl⟩
    · rw [if_pos h6] at hF
      refine Z_iconst (v := 1) (pc' := 56) dX8_goesRound_55 (by decide) rfl ?_
      refine Z_goto (tgt := 60) dX8_goesRound_56 (by decide) ?_
      cases hF
      exact Z_iret (ty := .boolean) (w := (1 : Int32)) dX8_goesRound_60 rfl rfl (Nat.le_refl _) (Nat.le_refl _) ⟨rfl, rfl⟩
  · rw [if_pos h2] at hF
    refine Z_aload_n (i := 0) (pc' := 10) dX8_goesRound_9 rfl rfl rfl ?_
    refine Z_aload_n (i := 0) (pc' := 11) dX8_goesRound_10 rfl rfl rfl ?_
    refine Z_get (v := .ref (ad 7)) (pc' := 14) 7 zinX8 rfl (by decide) lkX8_24 (mR_obj hG) rfl dX8_goesRound_11 rfl ?_
    refine Z_iload_n (i := 1) (pc' := 15) dX8_goesRound_14 rfl rfl rfl ?_
    obtain ⟨h7, hF⟩ := ck_of hF
    refine Z_iald (pc' := 16) (aR_7 hG) (zIn_in h7) dX8_goesRound_15 rfl ?_
    obtain ⟨y8, hy8, hF⟩ := bd_of hF
    refine Z_callVi (As := [.int (σ 7 (x1).toNatClampNeg)]) (st := []) (pc' := 19) (k' := 0) (n' := 0) (qX8_nextOf l hG hy8) ckX8_nextOf kvX8_nextOf mlX8_147 (mR_obj hG) rfl rfl rfl (Nat.le_of_ble_eq_true rfl) ⟨Nat.le_of_ble_eq_true rfl, Nat.le_of_ble_eq_true rfl⟩ ⟨Nat.le_of_ble_eq_true rfl, Nat.le_of_ble_eq_true rfl⟩ dX8_goesRound_16 rfl rfl rfl ?_
    refine Z_aload_n (i := 0) (pc' := 20) dX8_goesRound_19 rfl rfl rfl ?_
    refine Z_get (v := .ref (ad 7)) (pc' := 23) 7 zinX8 rfl (by decide) lkX8_24 (mR_obj hG) rfl dX8_goesRound_20 rfl ?_
    refine Z_iload_n (i := 2) (pc' := 24) dX8_goesRound_23 rfl rfl rfl ?_
    obtain ⟨h9, hF⟩ := ck_of hF
    refine Z_iald (pc' := 25) (aR_7 hG) (zIn_in h9) dX8_goesRound_24 rfl ?_
    refine Z_icmp_ne (tgt := 32) (pc' := 28) dX8_goesRound_25 (by decide) rfl (fun h10 => ?_) (fun h10 => ?_)
    · rw [if_neg h10] at hF
      refine Z_iconst (v := 0) (pc' := 33) dX8_goesRound_32 (by decide) rfl ?_
      refine Z_goto (tgt := 60) dX8_goesRound_33 (by decide) ?_
      cases hF
      exact Z_iret (ty := .boolean) (w := (0 : Int32)) dX8_goesRound_60 rfl rfl (Nat.le_refl _) (Nat.le_refl _) ⟨rfl, rfl⟩
    · rw [if_pos h10] at hF
      refine Z_iconst (v := 1) (pc' := 29) dX8_goesRound_28 (by decide) rfl ?_
      refine Z_goto (tgt := 60) dX8_goesRound_29 (by decide) ?_
      cases hF
      exact Z_iret (ty := .boolean) (w := (1 : Int32)) dX8_goesRound_60 rfl rfl (Nat.le_refl _) (Nat.le_refl _) ⟨rfl, rfl⟩
abbrev rmX8_isOther : Room := { frames := 1, cells := 0, slots := 0, locals := 21 }
def r_isOther  (x1 : Int32) (x2 : Int32) (x3 : Int32) (x4 : Int32) (σ : zS) : Option (Int32 × zS) := ((r_isOpen x1 σ).bind (fun y1 => (if y1.1 = 0 then some ((0 : Int32), y1.2) else (if zIn x1 200 = true then (if (y1.2 24 (x1).toNatClampNeg) = x2 then (if (y1.2 25 (x1).toNatClampNeg) = x3 then (if zIn x4 24 = true then (if (y1.2 26 (x1).toNatClampNeg) = ((1 : Int32) - (y1.2 12 (x4).toNatClampNeg)) then some ((1 : Int32), y1.2) else some ((0 : Int32), y1.2)) else none) else some ((0 : Int32), y1.2)) else some ((0 : Int32), y1.2)) else none))))
set_option maxHeartbeats 4000000 in
set_option maxRecDepth 100000 in
theorem qX8_isOther (l : Launch) {ad dec : Nat → Nat} (hG : rG ad dec) {x1 : Int32} {x2 : Int32} {x3 : Int32} {x4 : Int32} {σ : zS} {w : Int32 × zS} (hF : r_isOther x1 x2 x3 x4 σ = some w) : zMet l yX8_isOther cX8_isOther 5 (some .boolean) rmX8_isOther [.ref (ad 42), .int x1, .int x2, .int x3, .int x4] (mR ad dec σ) (fun v M' => v = (some (.int w.1)) ∧ M' = (mR ad dec w.2)) := by
  refine zMet.ofZ (vs := [some (.ref (ad 42)), some (.int x1), some (.int x2), some (.int x3), some (.int x4)]) (by decide) rfl (zCt_of _ ⟨rfl, ⟨rfl, ⟨rfl, ⟨rfl, ⟨rfl, trivial⟩⟩⟩⟩⟩) (Nat.le_of_ble_eq_true rfl) (fun D => ?_)
  unfold r_isOther at hF
  refine Z_aload_n (i := 0) (pc' := 1) dX8_isOther_0 rfl rfl rfl ?_
  refine Z_iload_n (i := 1) (pc' := 2) dX8_isOther_1 rfl rfl rfl ?_
  obtain ⟨y1, hy1, hF⟩ := bd_of hF
  refine Z_callVi (As := [.int x1]) (st := []) (pc' := 5) (k' := 0) (n' := 0) (qX8_isOpen l hG hy1) ckX8_isOpen kvX8_isOpen mlX8_171 (mR_obj hG) rfl rfl rfl (Nat.le_of_ble_eq_true rfl) ⟨Nat.le_of_ble_eq_true rfl, Nat.le_of_ble_eq_true rfl⟩ ⟨Nat.le_of_ble_eq_true rfl, Nat.le_of_ble_eq_true rfl⟩ dX8_isOther_2 rfl rfl rfl ?_
  refine Z_if_eq (tgt := 50) (pc' := 8) dX8_isOther_5 (by decide) rfl (fun h2 => ?_) (fun h2 => ?_)
  · rw [if_pos h2] at hF
    refine Z_iconst (v := 0) (pc' := 51) dX8_isOther_50 (by decide) rfl ?_
    cases hF
    exact Z_iret (ty := .boolean) (w := (0 : Int32)) dX8_isOther_51 rfl rfl (Nat.le_refl _) (Nat.le_refl _) ⟨rfl, rfl⟩
  · rw [if_neg h2] at hF
    refine Z_aload_n (i := 0) (pc' := 9) dX8_isOther_8 rfl rfl rfl ?_
    refine Z_get (v := .ref (ad 24)) (pc' := 12) 24 zinX8 rfl (by decide) lkX8_70 (mR_obj hG) rfl dX8_isOther_9 rfl ?_
    refine Z_iload_n (i := 1) (pc' := 13) dX8_isOther_12 rfl rfl rfl ?_
    obtain ⟨h3, hF⟩ := ck_of hF
    refine Z_iald (pc' := 14) (aR_24 hG) (zIn_in h3) dX8_isOther_13 rfl ?_
    refine Z_iload_n (i := 2) (pc' := 15) dX8_isOther_14 rfl rfl rfl ?_
    refine Z_icmp_ne (tgt := 50) (pc' := 18) dX8_isOther_15 (by decide) rfl (fun h4 => ?_) (fun h4 => ?_)
    · rw [if_neg h4] at hF
      refine Z_iconst (v := 0) (pc' := 51) dX8_isOther_50 (by decide) rfl ?_
      cases hF
      exact Z_iret (ty := .boolean) (w := (0 : Int32)) dX8_isOther_51 rfl rfl (Nat.le_refl _) (Nat.le_refl _) ⟨rfl, rfl⟩
    · rw [if_pos h4] at hF
      refine Z_aload_n (i := 0) (pc' := 19) dX8_isOther_18 rfl rfl rfl ?_
      refine Z_get (v := .ref (ad 25)) (pc' := 22) 25 zinX8 rfl (by decide) lkX8_73 (mR_obj hG) rfl dX8_isOther_19 rfl ?_
      refine Z_iload_n (i := 1) (pc' := 23) dX8_isOther_22 rfl rfl rfl ?_
      refine Z_iald (pc' := 24) (aR_25 hG) (zIn_in h3) dX8_isOther_23 rfl ?_
      refine Z_iload_n (i := 3) (pc' := 25) dX8_isOther_24 rfl rfl rfl ?_
      refine Z_icmp_ne (tgt := 50) (pc' := 28) dX8_isOther_25 (by decide) rfl (fun h5 => ?_) (fun h5 => ?_)
      · rw [if_neg h5] at hF
        refine Z_iconst (v := 0) (pc' := 51) dX8_isOther_50 (by decide) rfl ?_
        cases hF
        exact Z_iret (ty := .boolean) (w := (0 : Int32)) dX8_isOther_51 rfl rfl (Nat.le_refl _) (Nat.le_refl _) ⟨rfl, rfl⟩
      · rw [if_pos h5] at hF
        refine Z_aload_n (i := 0) (pc' := 29) dX8_isOther_28 rfl rfl rfl ?_
        refine Z_get (v := .ref (ad 26)) (pc' := 32) 26 zinX8 rfl (by decide) lkX8_76 (mR_obj hG) rfl dX8_isOther_29 rfl ?_
        refine Z_iload_n (i := 1) (pc' := 33) dX8_isOther_32 rfl rfl rfl ?_
        refine Z_iald (pc' := 34) (aR_26 hG) (zIn_in h3) dX8_isOther_33 rfl ?_
        refine Z_iconst (v := 1) (pc' := 35) dX8_isOther_34 (by decide) rfl ?_
        refine Z_aload_n (i := 0) (pc' := 36) dX8_isOther_35 rfl rfl rfl ?_
        refine Z_get (v := .ref (ad 12)) (pc' := 39) 12 zinX8 rfl (by decide) lkX8_37 (mR_obj hG) rfl dX8_isOther_36 rfl ?_
        refine Z_iload (i := 4) (pc' := 41) dX8_isOther_39 rfl rfl ?_
        obtain ⟨h6, hF⟩ := ck_of hF
        refine Z_iald (pc' := 42) (aR_12 hG) (zIn_in h6) dX8_isOther_41 rfl ?_
        refine Z_isub (pc' := 43) dX8_isOther_42 rfl ?_
        refine Z_icmp_ne (tgt := 50) (pc' := 46) dX8_isOther_43 (by decide) rfl (fun h7 => ?_) (fun h7 => ?_)
        · rw [if_neg h7] at hF
          refine Z_iconst (v := 0) (pc' := 51) dX8_isOther_50 (by decide) rfl ?_
          cases hF
          exact Z_iret (ty := .boolean) (w := (0 : Int32)) dX8_isOther_51 rfl rfl (Nat.le_refl _) (Nat.le_refl _) ⟨rfl, rfl⟩
        · rw [if_pos h7] at hF
          refine Z_iconst (v := 1) (pc' := 47) dX8_isOther_46 (by decide) rfl ?_
          refine Z_goto (tgt := 51) dX8_isOther_47 (by decide) ?_
          cases hF
          exact Z_iret (ty := .boolean) (w := (1 : Int32)) dX8_isOther_51 rfl rfl (Nat.le_refl _) (Nat.le_refl _) ⟨rfl, rfl⟩
abbrev rmX8_give : Room := { frames := 3, cells := 0, slots := 0, locals := 65 }
def r_give_L93 : Nat → Int32 → Int32 → Int32 → Int32 → Int32 → Int32 → zS → Option (Int32 × Int32 × zS)
  | 0, _, _, _, _, _, _, _ => none
  | n + 1, x1_, x2_, x3_, x4_, x5_, x6_, σ => (if (σ 23 0) ≤ x6_ then some (x4_, x5_, σ) else ((r_isOther x6_ x1_ x2_ x3_ σ).bind (fun y16 => (if y16.1 = 0 then zl (x6_ + 1) (fun (v39 : Int32) => (r_give_L93 n x1_ x2_ x3_ x4_ x5_ v39 y16.2)) else (if x4_ = (-1 : Int32) then (if zIn x6_ 200 = true then (if zIn x3_ 24 = true then (if (y16.2 13 (x3_).toNatClampNeg) < (y16.2 27 (x6_).toNatClampNeg) then zl (x6_ + 1) (fun (v32 : Int32) => (r_give_L93 n x1_ x2_ x3_ x6_ x5_ v32 y16.2)) else (if x5_ = (-1 : Int32) then zl (x6_ + 1) (fun (v34 : Int32) => (r_give_L93 n x1_ x2_ x3_ x6_ x6_ v34 y16.2)) else (if zIn x5_ 200 = true then (if (y16.2 27 (x6_).toNatClampNeg) ≤ (y16.2 27 (x5_).toNatClampNeg) then zl (x6_ + 1) (fun (v37 : Int32) => (r_give_L93 n x1_ x2_ x3_ x6_ x5_ v37 y16.2)) else zl (x6_ + 1) (fun (v38 : Int32) => (r_give_L93 n x1_ x2_ x3_ x6_ x6_ v38 y16.2))) else none))) else none) else none) else (if zIn x6_ 200 = true then (if zIn x3_ 24 = true then (if (y16.2 13 (x3_).toNatClampNeg) < (y16.2 27 (x6_).toNatClampNeg) then zl (x6_ + 1) (fun (v22 : Int32) => (r_give_L93 n x1_ x2_ x3_ x4_ x5_ v22 y16.2)) else (if x5_ = (-1 : Int32) then zl (x6_ + 1) (fun (v24 : Int32) => (r_give_L93 n x1_ x2_ x3_ x4_ x6_ v24 y16.2)) else (if zIn x5_ 200 = true then (if (y16.2 27 (x6_).toNatClampNeg) ≤ (y16.2 27 (x5_).toNatClampNeg) then zl (x6_ + 1) (fun (v27 : Int32) => (r_give_L93 n x1_ x2_ x3_ x4_ x5_ v27 y16.2)) else zl (x6_ + 1) (fun (v28 : Int32) => (r_give_L93 n x1_ x2_ x3_ x4_ x6_ v28 y16.2))) else none))) else none) else none))))))
def r_give  (x1 : Int32) (x2 : Int32) (x3 : Int32) (σ : zS) : Option (Int32 × zS) := ((r_lives x1 σ).bind (fun y1 => (if y1.1 = 0 then some ((-1 : Int32), y1.2) else ((r_lives x2 y1.2).bind (fun y3 => (if y3.1 = 0 then some ((-1 : Int32), y3.2) else ((r_isTreasure x3 y3.2).bind (fun y5 => (if y5.1 = 0 then some ((-1 : Int32), y5.2) else (if zIn x3 24 = true then (if (y5.2 14 (x3).toNatClampNeg) = x1 then (if zIn (((16 : Int32) * x1) + x2) 256 = true then (if (y5.2 10 (((16 : Int32) * x1) + x2).toNatClampNeg) = 0 then some ((-1 : Int32), y5.2) else ((r_goesRound x1 x2 x3 y5.2).bind (fun y11 => (if y11.1 = 0 then some ((-1 : Int32), y11.2) else (if (y11.2 16 (x3).toNatClampNeg) = (y11.2 6 0) then some ((-1 : Int32), y11.2) else (if (y11.2 17 (x3).toNatClampNeg) = (64 : Int32) then some ((-1 : Int32), y11.2) else ((r_give_L93 zF x1 x2 x3 (-1 : Int32) (-1 : Int32) (0 : Int32) y11.2).bind (fun r40 => (if r40.2.1 = (-1 : Int32) then ((r_quarrels x1 x2 r40.2.2).bind (fun y53 => (if y53.1 = 0 then (if r40.1 = (-1 : Int32) then (if (y53.2 23 0) = (200 : Int32) then some ((-1 : Int32), y53.2) else (if zIn (y53.2 23 0) 200 = true then zl (zs y53.2 24 (y53.2 23 0).toNatClampNeg x2) (fun (σ81 : zS) => (if zIn (σ81 23 0) 200 = true then zl (zs σ81 25 (σ81 23 0).toNatClampNeg x1) (fun (σ83 : zS) => (if zIn x3 24 = true then (if zIn (σ83 23 0) 200 = true then zl (zs σ83 26 (σ83 23 0).toNatClampNeg (σ83 12 (x3).toNatClampNeg)) (fun (σ86 : zS) => (if zIn (σ86 23 0) 200 = true then zl (zs σ86 27 (σ86 23 0).toNatClampNeg ((((σ86 13 (x3).toNatClampNeg) * (σ86 2 (0 : Int32).toNatClampNeg)) + (99 : Int32)) / (100 : Int32))) (fun (σ88 : zS) => (if zIn (σ88 23 0) 200 = true then zl (zs σ88 28 (σ88 23 0).toNatClampNeg ((σ88 6 0) + (σ88 2 (1 : Int32).toNatClampNeg))) (fun (σ90 : zS) => (if zIn (σ90 23 0) 200 = true then zl (zs σ90 29 (σ90 23 0).toNatClampNeg x3) (fun (σ92 : zS) => (if zIn (σ92 23 0) 200 = true then zl (zs σ92 30 (σ92 23 0).toNatClampNeg (-1 : Int32)) (fun (σ94 : zS) => (if zIn (σ94 23 0) 200 = true then zl (zs σ94 31 (σ94 23 0).toNatClampNeg (vp_nar .boolean (0 : Int32))) (fun (σ96 : zS) => zl (zs σ96 23 0 ((σ96 23 0) + (1 : Int32))) (fun (σ97 : zS) => (if zIn x1 16 = true then zl (zs σ97 8 (x1).toNatClampNeg ((σ97 8 (x1).toNatClampNeg) + (σ97 13 (x3).toNatClampNeg))) (fun (σ100 : zS) => zl (zs σ100 16 (x3).toNatClampNeg (σ100 6 0)) (fun (σ101 : zS) => ((r_comesTo x3 x2 σ101).bind (fun y102 => some ((0 : Int32), y102.2))))) else none))) else none)) else none)) else none)) else none)) else none)) else none) else none)) else none)) else none)) else (if zIn r40.1 200 = true then (if (y53.2 31 (r40.1).toNatClampNeg) = 0 then zl (zs y53.2 31 (r40.1).toNatClampNeg (vp_nar .boolean (1 : Int32))) (fun (σ68 : zS) => zl (zs σ68 28 (r40.1).toNatClampNeg ((σ68 28 (r40.1).toNatClampNeg) + (σ68 2 (2 : Int32).toNatClampNeg))) (fun (σ69 : zS) => (if zIn x1 16 = true then (if zIn x3 24 = true then zl (zs σ69 8 (x1).toNatClampNeg ((σ69 8 (x1).toNatClampNeg) + ((σ69 13 (x3).toNatClampNeg) / (2 : Int32)))) (fun (σ73 : zS) => zl (zs σ73 16 (x3).toNatClampNeg (σ73 6 0)) (fun (σ74 : zS) => ((r_comesTo x3 x2 σ74).bind (fun y75 => some ((2 : Int32), y75.2))))) else none) else none))) else (if zIn x1 16 = true then (if zIn x3 24 = true then zl (zs y53.2 8 (x1).toNatClampNeg ((y53.2 8 (x1).toNatClampNeg) + ((y53.2 13 (x3).toNatClampNeg) / (2 : Int32)))) (fun (σ65 : zS) => zl (zs σ65 16 (x3).toNatClampNeg (σ65 6 0)) (fun (σ66 : zS) => ((r_comesTo x3 x2 σ66).bind (fun y67 => some ((2 : Int32), y67.2))))) else none) else none)) else none)) else some ((-1 : Int32), y53.2)))) else (if zIn r40.2.1 200 = true then zl (zs r40.2.2 30 (r40.2.1).toNatClampNeg x3) (fun (σ46 : zS) => (if zIn x1 16 = true then (if zIn x3 24 = true then zl (zs σ46 8 (x1).toNatClampNeg ((σ46 8 (x1).toNatClampNeg) + (σ46 13 (x3).toNatClampNeg))) (fun (σ50 : zS) => zl (zs σ50 16 (x3).toNatClampNeg (σ50 6 0)) (fun (σ51 : zS) => ((r_comesTo x3 x2 σ51).bind (fun y52 => some ((1 : Int32), y52.2))))) else none) else none)) else none)))))))))) else none) else some ((-1 : Int32), y5.2)) else none))))))))))
set_option maxHeartbeats 4000000 in
set_option maxRecDepth 100000 in
theorem qX8_give_L93 {l : Launch} {D : va_G} {M0 : zM} {Q : Option Value → zM → Prop} {ad dec : Nat → Nat} (hG : rG ad dec) : ∀ (n : Nat) (x1_ : Int32) (x2_ : Int32) (x3_ : Int32) (x4_ : Int32) (x5_ : Int32) (x6_ : Int32) (σ : zS) (r : (Int32 × Int32 × zS)), r_give_L93 n x1_ x2_ x3_ x4_ x5_ x6_ σ = some r → (Z l yX8_give cX8_give 7 (some .int) rmX8_give 0 0 D M0 Q 0 0 181 [some (.ref (ad 42)), some (.int x1_), some (.int x2_), some (.int x3_), some (.int r.1), some (.int r.2.1), none] [] (mR ad dec r.2.2)) → Z l yX8_give cX8_give 7 (some .int) rmX8_give 0 0 D M0 Q 0 0 93 [some (.ref (ad 42)), some (.int x1_), some (.int x2_), some (.int x3_), some (.int x4_), some (.int x5_), some (.int x6_)] [] (mR ad dec σ) := by
  intro n
  induction n with
  | zero =>
    intro x1_ x2_ x3_ x4_ x5_ x6_ σ r hF hE
    exact absurd (show (none : Option (Int32 × Int32 × zS)) = some r from hF) (by simp)
  | succ n ih =>
    intro x1_ x2_ x3_ x4_ x5_ x6_ σ r hF hE
    replace hF : (if (σ 23 0) ≤ x6_ then some (x4_, x5_, σ) else ((r_isOther x6_ x1_ x2_ x3_ σ).bind (fun y16 => (if y16.1 = 0 then zl (x6_ + 1) (fun (v39 : Int32) => (r_give_L93 n x1_ x2_ x3_ x4_ x5_ v39 y16.2)) else (if x4_ = (-1 : Int32) then (if zIn x6_ 200 = true then (if zIn x3_ 24 = true then (if (y16.2 13 (x3_).toNatClampNeg) < (y16.2 27 (x6_).toNatClampNeg) then zl (x6_ + 1) (fun (v32 : Int32) => (r_give_L93 n x1_ x2_ x3_ x6_ x5_ v32 y16.2)) else (if x5_ = (-1 : Int32) then zl (x6_ + 1) (fun (v34 : Int32) => (r_give_L93 n x1_ x2_ x3_ x6_ x6_ v34 y16.2)) else (if zIn x5_ 200 = true then (if (y16.2 27 (x6_).toNatClampNeg) ≤ (y16.2 27 (x5_).toNatClampNeg) then zl (x6_ + 1) (fun (v37 : Int32) => (r_give_L93 n x1_ x2_ x3_ x6_ x5_ v37 y16.2)) else zl (x6_ + 1) (fun (v38 : Int32) => (r_give_L93 n x1_ x2_ x3_ x6_ x6_ v38 y16.2))) else none))) else none) else none) else (if zIn x6_ 200 = true then (if zIn x3_ 24 = true then (if (y16.2 13 (x3_).toNatClampNeg) < (y16.2 27 (x6_).toNatClampNeg) then zl (x6_ + 1) (fun (v22 : Int32) => (r_give_L93 n x1_ x2_ x3_ x4_ x5_ v22 y16.2)) else (if x5_ = (-1 : Int32) then zl (x6_ + 1) (fun (v24 : Int32) => (r_give_L93 n x1_ x2_ x3_ x4_ x6_ v24 y16.2)) else (if zIn x5_ 200 = true then (if (y16.2 27 (x6_).toNatClampNeg) ≤ (y16.2 27 (x5_).toNatClampNeg) then zl (x6_ + 1) (fun (v27 : Int32) => (r_give_L93 n x1_ x2_ x3_ x4_ x5_ v27 y16.2)) else zl (x6_ + 1) (fun (v28 : Int32) => (r_give_L93 n x1_ x2_ x3_ x4_ x6_ v28 y16.2))) else none))) else none) else none)))))) = some r := hF
    refine Z_iload (i := 6) (pc' := 95) dX8_give_93 rfl rfl ?_
    refine Z_aload_n (i := 0) (pc' := 96) dX8_give_95 rfl rfl rfl ?_
    refine Z_get (v := .int (σ 23 0)) (pc' := 99) 23 zinX8 rfl (by decide) lkX8_174 (mR_obj hG) rfl dX8_give_96 rfl ?_
    refine Z_icmp_ge (tgt := 181) (pc' := 102) dX8_give_99 (by decide) rfl (fun h15 => ?_) (fun h15 => ?_)
    · rw [if_pos h15] at hF
      cases hF
      exact Z_sub (vs' := [some (.ref (ad 42)), some (.int x1_), some (.int x2_), some (.int x3_), some (.int x4_), some (.int x5_), none]) (zSb_of _ _ ⟨rfl, ⟨rfl, ⟨rfl, ⟨rfl, ⟨rfl, ⟨rfl, trivial⟩⟩⟩⟩⟩⟩) hE
    · rw [if_neg h15] at hF
      refine Z_aload_n (i := 0) (pc' := 103) dX8_give_102 rfl rfl rfl ?_
      refine Z_iload (i := 6) (pc' := 105) dX8_give_103 rfl rfl ?_
      refine Z_iload_n (i := 1) (pc' := 106) dX8_give_105 rfl rfl rfl ?_
      refine Z_iload_n (i := 2) (pc' := 107) dX8_give_106 rfl rfl rfl ?_
      refine Z_iload_n (i := 3) (pc' := 108) dX8_give_107 rfl rfl rfl ?_
      obtain ⟨y16, hy16, hF⟩ := bd_of hF
      refine Z_callVi (As := [.int x6_, .int x1_, .int x2_, .int x3_]) (st := []) (pc' := 111) (k' := 0) (n' := 0) (qX8_isOther l hG hy16) ckX8_isOther kvX8_isOther mlX8_184 (mR_obj hG) rfl rfl rfl (Nat.le_of_ble_eq_true rfl) ⟨Nat.le_of_ble_eq_true rfl, Nat.le_of_ble_eq_true rfl⟩ ⟨Nat.le_of_ble_eq_true rfl, Nat.le_of_ble_eq_true rfl⟩ dX8_give_108 rfl rfl rfl ?_
      refine Z_if_ne (tgt := 117) (pc' := 114) dX8_give_111 (by decide) rfl (fun h17 => ?_) (fun h17 => ?_)
      · rw [if_neg h17] at hF
        refine Z_iload (i := 4) (pc' := 119) dX8_give_117 rfl rfl ?_
        refine Z_iconst (v := -1) (pc' := 120) dX8_give_119 (by decide) rfl ?_
        refine Z_icmp_ne (tgt := 128) (pc' := 123) dX8_give_120 (by decide) rfl (fun h18 => ?_) (fun h18 => ?_)
        · rw [if_neg h18] at hF
          refine Z_iload (i := 4) (pc' := 130) dX8_give_128 rfl rfl ?_
          refine Z_istoreE (i := 4) (x' := x4_) (vs' := [some (.ref (ad 42)), some (.int x1_), some (.int x2_), some (.int x3_), some (.int x4_), some (.int x5_), some (.int x6_)]) (pc' := 132) dX8_give_130 rfl (by decide) rfl rfl ?_
          refine Z_aload_n (i := 0) (pc' := 133) dX8_give_132 rfl rfl rfl ?_
          refine Z_get (v := .ref (ad 27)) (pc' := 136) 27 zinX8 rfl (by decide) lkX8_79 (mR_obj hG) rfl dX8_give_133 rfl ?_
          refine Z_iload (i := 6) (pc' := 138) dX8_give_136 rfl rfl ?_
          obtain ⟨h19, hF⟩ := ck_of hF
          refine Z_iald (pc' := 139) (aR_27 hG) (zIn_in h19) dX8_give_138 rfl ?_
          refine Z_aload_n (i := 0) (pc' := 140) dX8_give_139 rfl rfl rfl ?_
          refine Z_get (v := .ref (ad 13)) (pc' := 143) 13 zinX8 rfl (by decide) lkX8_40 (mR_obj hG) rfl dX8_give_140 rfl ?_
          refine Z_iload_n (i := 3) (pc' := 144) dX8_give_143 rfl rfl rfl ?_
          obtain ⟨h20, hF⟩ := ck_of hF
          refine Z_iald (pc' := 145) (aR_13 hG) (zIn_in h20) dX8_give_144 rfl ?_
          refine Z_icmp_gt (tgt := 175) (pc' := 148) dX8_give_145 (by decide) rfl (fun h21 => ?_) (fun h21 => ?_)
          · rw [if_pos h21] at hF
            obtain ⟨v22, hv22, hF⟩ := zl_of hF
            refine Z_iinc (i := 6) (v := v22) (vs' := [some (.ref (ad 42)), some (.int x1_), some (.int x2_), some (.int x3_), some (.int x4_), some (.int x5_), some (.int v22)]) (pc' := 178) dX8_give_175 rfl (by rw [hv22]; rfl) (by decide) rfl rfl ?_
            refine Z_goto (tgt := 93) dX8_give_178 (by decide) ?_
            exact Z_sub (vs' := [some (.ref (ad 42)), some (.int x1_), some (.int x2_), some (.int x3_), some (.int x4_), some (.int x5_), some (.int v22)]) (zSb_of _ _ ⟨rfl, ⟨rfl, ⟨rfl, ⟨rfl, ⟨rfl, ⟨rfl, ⟨rfl, trivial⟩⟩⟩⟩⟩⟩⟩) (ih x1_ x2_ x3_ x4_ x5_ v22 y16.2 _ hF hE)
          · rw [if_neg h21] at hF
            refine Z_iload (i := 5) (pc' := 150) dX8_give_148 rfl rfl ?_
            refine Z_iconst (v := -1) (pc' := 151) dX8_give_150 (by decide) rfl ?_
            refine Z_icmp_eq (tgt := 171) (pc' := 154) dX8_give_151 (by decide) rfl (fun h23 => ?_) (fun h23 => ?_)
            · rw [if_pos h23] at hF
              refine Z_iload (i := 6) (pc' := 173) dX8_give_171 rfl rfl ?_
              refine Z_istoreE (i := 5) (x' := x6_) (vs' := [some (.ref (ad 42)), some (.int x1_), some (.int x2_), some (.int x3_), some (.int x4_), some (.int x6_), some (.int x6_)]) (pc' := 175) dX8_give_173 rfl (by decide) rfl rfl ?_
              obtain ⟨v24, hv24, hF⟩ := zl_of hF
              refine Z_iinc (i := 6) (v := v24) (vs' := [some (.ref (ad 42)), some (.int x1_), some (.int x2_), some (.int x3_), some (.int x4_), some (.int x6_), some (.int v24)]) (pc' := 178) dX8_give_175 rfl (by rw [hv24]; rfl) (by decide) rfl rfl ?_
              refine Z_goto (tgt := 93) dX8_give_178 (by decide) ?_
              exact Z_sub (vs' := [some (.ref (ad 42)), some (.int x1_), some (.int x2_), some (.int x3_), some (.int x4_), some (.int x6_), some (.int v24)]) (zSb_of _ _ ⟨rfl, ⟨rfl, ⟨rfl, ⟨rfl, ⟨rfl, ⟨rfl, ⟨rfl, trivial⟩⟩⟩⟩⟩⟩⟩) (ih x1_ x2_ x3_ x4_ x6_ v24 y16.2 _ hF hE)
            · rw [if_neg h23] at hF
              refine Z_aload_n (i := 0) (pc' := 155) dX8_give_154 rfl rfl rfl ?_
              refine Z_get (v := .ref (ad 27)) (pc' := 158) 27 zinX8 rfl (by decide) lkX8_79 (mR_obj hG) rfl dX8_give_155 rfl ?_
              refine Z_iload (i := 6) (pc' := 160) dX8_give_158 rfl rfl ?_
              refine Z_iald (pc' := 161) (aR_27 hG) (zIn_in h19) dX8_give_160 rfl ?_
              refine Z_aload_n (i := 0) (pc' := 162) dX8_give_161 rfl rfl rfl ?_
              refine Z_get (v := .ref (ad 27)) (pc' := 165) 27 zinX8 rfl (by decide) lkX8_79 (mR_obj hG) rfl dX8_give_162 rfl ?_
              refine Z_iload (i := 5) (pc' := 167) dX8_give_165 rfl rfl ?_
              obtain ⟨h25, hF⟩ := ck_of hF
              refine Z_iald (pc' := 168) (aR_27 hG) (zIn_in h25) dX8_give_167 rfl ?_
              refine Z_icmp_le (tgt := 175) (pc' := 171) dX8_give_168 (by decide) rfl (fun h26 => ?_) (fun h26 => ?_)
              · rw [if_pos h26] at hF
                obtain ⟨v27, hv27, hF⟩ := zl_of hF
                refine Z_iinc (i := 6) (v := v27) (vs' := [some (.ref (ad 42)), some (.int x1_), some (.int x2_), some (.int x3_), some (.int x4_), some (.int x5_), some (.int v27)]) (pc' := 178) dX8_give_175 rfl (by rw [hv27]; rfl) (by decide) rfl rfl ?_
                refine Z_goto (tgt := 93) dX8_give_178 (by decide) ?_
                exact Z_sub (vs' := [some (.ref (ad 42)), some (.int x1_), some (.int x2_), some (.int x3_), some (.int x4_), some (.int x5_), some (.int v27)]) (zSb_of _ _ ⟨rfl, ⟨rfl, ⟨rfl, ⟨rfl, ⟨rfl, ⟨rfl, ⟨rfl, trivial⟩⟩⟩⟩⟩⟩⟩) (ih x1_ x2_ x3_ x4_ x5_ v27 y16.2 _ hF hE)
              · rw [if_neg h26] at hF
                refine Z_iload (i := 6) (pc' := 173) dX8_give_171 rfl rfl ?_
                refine Z_istoreE (i := 5) (x' := x6_) (vs' := [some (.ref (ad 42)), some (.int x1_), some (.int x2_), some (.int x3_), some (.int x4_), some (.int x6_), some (.int x6_)]) (pc' := 175) dX8_give_173 rfl (by decide) rfl rfl ?_
                obtain ⟨v28, hv28, hF⟩ := zl_of hF
                refine Z_iinc (i := 6) (v := v28) (vs' := [some (.ref (ad 42)), some (.int x1_), some (.int x2_), some (.int x3_), some (.int x4_), some (.int x6_), some (.int v28)]) (pc' := 178) dX8_give_175 rfl (by rw [hv28]; rfl) (by decide) rfl rfl ?_
                refine Z_goto (tgt := 93) dX8_give_178 (by decide) ?_
                exact Z_sub (vs' := [some (.ref (ad 42)), some (.int x1_), some (.int x2_), some (.int x3_), some (.int x4_), some (.int x6_), some (.int v28)]) (zSb_of _ _ ⟨rfl, ⟨rfl, ⟨rfl, ⟨rfl, ⟨rfl, ⟨rfl, ⟨rfl, trivial⟩⟩⟩⟩⟩⟩⟩) (ih x1_ x2_ x3_ x4_ x6_ v28 y16.2 _ hF hE)
        · rw [if_pos h18] at hF
          refine Z_iload (i := 6) (pc' := 125) dX8_give_123 rfl rfl ?_
          refine Z_goto (tgt := 130) dX8_give_125 (by decide) ?_
          refine Z_istoreE (i := 4) (x' := x6_) (vs' := [some (.ref (ad 42)), some (.int x1_), some (.int x2_), some (.int x3_), some (.int x6_), some (.int x5_), some (.int x6_)]) (pc' := 132) dX8_give_130 rfl (by decide) rfl rfl ?_
          refine Z_aload_n (i := 0) (pc' := 133) dX8_give_132 rfl rfl rfl ?_
          refine Z_get (v := .ref (ad 27)) (pc' := 136) 27 zinX8 rfl (by decide) lkX8_79 (mR_obj hG) rfl dX8_give_133 rfl ?_
          refine Z_iload (i := 6) (pc' := 138) dX8_give_136 rfl rfl ?_
          obtain ⟨h29, hF⟩ := ck_of hF
          refine Z_iald (pc' := 139) (aR_27 hG) (zIn_in h29) dX8_give_138 rfl ?_
          refine Z_aload_n (i := 0) (pc' := 140) dX8_give_139 rfl rfl rfl ?_
          refine Z_get (v := .ref (ad 13)) (pc' := 143) 13 zinX8 rfl (by decide) lkX8_40 (mR_obj hG) rfl dX8_give_140 rfl ?_
          refine Z_iload_n (i := 3) (pc' := 144) dX8_give_143 rfl rfl rfl ?_
          obtain ⟨h30, hF⟩ := ck_of hF
          refine Z_iald (pc' := 145) (aR_13 hG) (zIn_in h30) dX8_give_144 rfl ?_
          refine Z_icmp_gt (tgt := 175) (pc' := 148) dX8_give_145 (by decide) rfl (fun h31 => ?_) (fun h31 => ?_)
          · rw [if_pos h31] at hF
            obtain ⟨v32, hv32, hF⟩ := zl_of hF
            refine Z_iinc (i := 6) (v := v32) (vs' := [some (.ref (ad 42)), some (.int x1_), some (.int x2_), some (.int x3_), some (.int x6_), some (.int x5_), some (.int v32)]) (pc' := 178) dX8_give_175 rfl (by rw [hv32]; rfl) (by decide) rfl rfl ?_
            refine Z_goto (tgt := 93) dX8_give_178 (by decide) ?_
            exact Z_sub (vs' := [some (.ref (ad 42)), some (.int x1_), some (.int x2_), some (.int x3_), some (.int x6_), some (.int x5_), some (.int v32)]) (zSb_of _ _ ⟨rfl, ⟨rfl, ⟨rfl, ⟨rfl, ⟨rfl, ⟨rfl, ⟨rfl, trivial⟩⟩⟩⟩⟩⟩⟩) (ih x1_ x2_ x3_ x6_ x5_ v32 y16.2 _ hF hE)
          · rw [if_neg h31] at hF
            refine Z_iload (i := 5) (pc' := 150) dX8_give_148 rfl rfl ?_
            refine Z_iconst (v := -1) (pc' := 151) dX8_give_150 (by decide) rfl ?_
            refine Z_icmp_eq (tgt := 171) (pc' := 154) dX8_give_151 (by decide) rfl (fun h33 => ?_) (fun h33 => ?_)
            · rw [if_pos h33] at hF
              refine Z_iload (i := 6) (pc' := 173) dX8_give_171 rfl rfl ?_
              refine Z_istoreE (i := 5) (x' := x6_) (vs' := [some (.ref (ad 42)), some (.int x1_), some (.int x2_), some (.int x3_), some (.int x6_), some (.int x6_), some (.int x6_)]) (pc' := 175) dX8_give_173 rfl (by decide) rfl rfl ?_
              obtain ⟨v34, hv34, hF⟩ := zl_of hF
              refine Z_iinc (i := 6) (v := v34) (vs' := [some (.ref (ad 42)), some (.int x1_), some (.int x2_), some (.int x3_), some (.int x6_), some (.int x6_), some (.int v34)]) (pc' := 178) dX8_give_175 rfl (by rw [hv34]; rfl) (by decide) rfl rfl ?_
              refine Z_goto (tgt := 93) dX8_give_178 (by decide) ?_
              exact Z_sub (vs' := [some (.ref (ad 42)), some (.int x1_), some (.int x2_), some (.int x3_), some (.int x6_), some (.int x6_), some (.int v34)]) (zSb_of _ _ ⟨rfl, ⟨rfl, ⟨rfl, ⟨rfl, ⟨rfl, ⟨rfl, ⟨rfl, trivial⟩⟩⟩⟩⟩⟩⟩) (ih x1_ x2_ x3_ x6_ x6_ v34 y16.2 _ hF hE)
            · rw [if_neg h33] at hF
              refine Z_aload_n (i := 0) (pc' := 155) dX8_give_154 rfl rfl rfl ?_
              refine Z_get (v := .ref (ad 27)) (pc' := 158) 27 zinX8 rfl (by decide) lkX8_79 (mR_obj hG) rfl dX8_give_155 rfl ?_
              refine Z_iload (i := 6) (pc' := 160) dX8_give_158 rfl rfl ?_
              refine Z_iald (pc' := 161) (aR_27 hG) (zIn_in h29) dX8_give_160 rfl ?_
              refine Z_aload_n (i := 0) (pc' := 162) dX8_give_161 rfl rfl rfl ?_
              refine Z_get (v := .ref (ad 27)) (pc' := 165) 27 zinX8 rfl (by decide) lkX8_79 (mR_obj hG) rfl dX8_give_162 rfl ?_
              refine Z_iload (i := 5) (pc' := 167) dX8_give_165 rfl rfl ?_
              obtain ⟨h35, hF⟩ := ck_of hF
              refine Z_iald (pc' := 168) (aR_27 hG) (zIn_in h35) dX8_give_167 rfl ?_
              refine Z_icmp_le (tgt := 175) (pc' := 171) dX8_give_168 (by decide) rfl (fun h36 => ?_) (fun h36 => ?_)
              · rw [if_pos h36] at hF
                obtain ⟨v37, hv37, hF⟩ := zl_of hF
                refine Z_iinc (i := 6) (v := v37) (vs' := [some (.ref (ad 42)), some (.int x1_), some (.int x2_), some (.int x3_), some (.int x6_), some (.int x5_), some (.int v37)]) (pc' := 178) dX8_give_175 rfl (by rw [hv37]; rfl) (by decide) rfl rfl ?_
                refine Z_goto (tgt := 93) dX8_give_178 (by decide) ?_
                exact Z_sub (vs' := [some (.ref (ad 42)), some (.int x1_), some (.int x2_), some (.int x3_), some (.int x6_), some (.int x5_), some (.int v37)]) (zSb_of _ _ ⟨rfl, ⟨rfl, ⟨rfl, ⟨rfl, ⟨rfl, ⟨rfl, ⟨rfl, trivial⟩⟩⟩⟩⟩⟩⟩) (ih x1_ x2_ x3_ x6_ x5_ v37 y16.2 _ hF hE)
              · rw [if_neg h36] at hF
                refine Z_iload (i := 6) (pc' := 173) dX8_give_171 rfl rfl ?_
                refine Z_istoreE (i := 5) (x' := x6_) (vs' := [some (.ref (ad 42)), some (.int x1_), some (.int x2_), some (.int x3_), some (.int x6_), some (.int x6_), some (.int x6_)]) (pc' := 175) dX8_give_173 rfl (by decide) rfl rfl ?_
                obtain ⟨v38, hv38, hF⟩ := zl_of hF
                refine Z_iinc (i := 6) (v := v38) (vs' := [some (.ref (ad 42)), some (.int x1_), some (.int x2_), some (.int x3_), some (.int x6_), some (.int x6_), some (.int v38)]) (pc' := 178) dX8_give_175 rfl (by rw [hv38]; rfl) (by decide) rfl rfl ?_
                refine Z_goto (tgt := 93) dX8_give_178 (by decide) ?_
                exact Z_sub (vs' := [some (.ref (ad 42)), some (.int x1_), some (.int x2_), some (.int x3_), some (.int x6_), some (.int x6_), some (.int v38)]) (zSb_of _ _ ⟨rfl, ⟨rfl, ⟨rfl, ⟨rfl, ⟨rfl, ⟨rfl, ⟨rfl, trivial⟩⟩⟩⟩⟩⟩⟩) (ih x1_ x2_ x3_ x6_ x6_ v38 y16.2 _ hF hE)
      · rw [if_pos h17] at hF
        refine Z_goto (tgt := 175) dX8_give_114 (by decide) ?_
        obtain ⟨v39, hv39, hF⟩ := zl_of hF
        refine Z_iinc (i := 6) (v := v39) (vs' := [some (.ref (ad 42)), some (.int x1_), some (.int x2_), some (.int x3_), some (.int x4_), some (.int x5_), some (.int v39)]) (pc' := 178) dX8_give_175 rfl (by rw [hv39]; rfl) (by decide) rfl rfl ?_
        refine Z_goto (tgt := 93) dX8_give_178 (by decide) ?_
        exact Z_sub (vs' := [some (.ref (ad 42)), some (.int x1_), some (.int x2_), some (.int x3_), some (.int x4_), some (.int x5_), some (.int v39)]) (zSb_of _ _ ⟨rfl, ⟨rfl, ⟨rfl, ⟨rfl, ⟨rfl, ⟨rfl, ⟨rfl, trivial⟩⟩⟩⟩⟩⟩⟩) (ih x1_ x2_ x3_ x4_ x5_ v39 y16.2 _ hF hE)
set_option maxHeartbeats 4000000 in
set_option maxRecDepth 100000 in
theorem qX8_give (l : Launch) {ad dec : Nat → Nat} (hG : rG ad dec) {x1 : Int32} {x2 : Int32} {x3 : Int32} {σ : zS} {w : Int32 × zS} (hF : r_give x1 x2 x3 σ = some w) : zMet l yX8_give cX8_give 7 (some .int) rmX8_give [.ref (ad 42), .int x1, .int x2, .int x3] (mR ad dec σ) (fun v M' => v = (some (.int w.1)) ∧ M' = (mR ad dec w.2)) := by
  refine zMet.ofZ (vs := [some (.ref (ad 42)), some (.int x1), some (.int x2), some (.int x3), none, none, none]) (by decide) rfl (zCt_of _ ⟨rfl, ⟨rfl, ⟨rfl, ⟨rfl, trivial⟩⟩⟩⟩) (Nat.le_of_ble_eq_true rfl) (fun D => ?_)
  unfold r_give at hF
  refine Z_aload_n (i := 0) (pc' := 1) dX8_give_0 rfl rfl rfl ?_
  refine Z_iload_n (i := 1) (pc' := 2) dX8_give_1 rfl rfl rfl ?_
  obtain ⟨y1, hy1, hF⟩ := bd_of hF
  refine Z_callVi (As := [.int x1]) (st := []) (pc' := 5) (k' := 0) (n' := 0) (qX8_lives l hG hy1) ckX8_lives kvX8_lives mlX8_144 (mR_obj hG) rfl rfl rfl (Nat.le_of_ble_eq_true rfl) ⟨Nat.le_of_ble_eq_true rfl, Nat.le_of_ble_eq_true rfl⟩ ⟨Nat.le_of_ble_eq_true rfl, Nat.le_of_ble_eq_true rfl⟩ dX8_give_2 rfl rfl rfl ?_
  refine Z_if_eq (tgt := 82) (pc' := 8) dX8_give_5 (by decide) rfl (fun h2 => ?_) (fun h2 => ?_)
  · rw [if_pos h2] at hF
    refine Z_iconst (v := -1) (pc' := 83) dX8_give_82 (by decide) rfl ?_
    cases hF
    exact Z_iret (ty := .int) (w := (-1 : Int32)) dX8_give_83 rfl rfl (Nat.le_refl _) (Nat.le_refl _) ⟨rfl, rfl⟩
  · rw [if_neg h2] at hF
    refine Z_aload_n (i := 0) (pc' := 9) dX8_give_8 rfl rfl rfl ?_
    refine Z_iload_n (i := 2) (pc' := 10) dX8_give_9 rfl rfl rfl ?_
    obtain ⟨y3, hy3, hF⟩ := bd_of hF
    refine Z_callVi (As := [.int x2]) (st := []) (pc' := 13) (k' := 0) (n' := 0) (qX8_lives l hG hy3) ckX8_lives kvX8_lives mlX8_144 (mR_obj hG) rfl rfl rfl (Nat.le_of_ble_eq_true rfl) ⟨Nat.le_of_ble_eq_true rfl, Nat.le_of_ble_eq_true rfl⟩ ⟨Nat.le_of_ble_eq_true rfl, Nat.le_of_ble_eq_true rfl⟩ dX8_give_10 rfl rfl rfl ?_
    refine Z_if_eq (tgt := 82) (pc' := 16) dX8_give_13 (by decide) rfl (fun h4 => ?_) (fun h4 => ?_)
    · rw [if_pos h4] at hF
      refine Z_iconst (v := -1) (pc' := 83) dX8_give_82 (by decide) rfl ?_
      cases hF
      exact Z_iret (ty := .int) (w := (-1 : Int32)) dX8_give_83 rfl rfl (Nat.le_refl _) (Nat.le_refl _) ⟨rfl, rfl⟩
    · rw [if_neg h4] at hF
      refine Z_aload_n (i := 0) (pc' := 17) dX8_give_16 rfl rfl rfl ?_
      refine Z_iload_n (i := 3) (pc' := 18) dX8_give_17 rfl rfl rfl ?_
      obtain ⟨y5, hy5, hF⟩ := bd_of hF
      refine Z_callVi (As := [.int x3]) (st := []) (pc' := 21) (k' := 0) (n' := 0) (qX8_isTreasure l hG hy5) ckX8_isTreasure kvX8_isTreasure mlX8_164 (mR_obj hG) rfl rfl rfl (Nat.le_of_ble_eq_true rfl) ⟨Nat.le_of_ble_eq_true rfl, Nat.le_of_ble_eq_true rfl⟩ ⟨Nat.le_of_ble_eq_true rfl, Nat.le_of_ble_eq_true rfl⟩ dX8_give_18 rfl rfl rfl ?_
      refine Z_if_eq (tgt := 82) (pc' := 24) dX8_give_21 (by decide) rfl (fun h6 => ?_) (fun h6 => ?_)
      · rw [if_pos h6] at hF
        refine Z_iconst (v := -1) (pc' := 83) dX8_give_82 (by decide) rfl ?_
        cases hF
        exact Z_iret (ty := .int) (w := (-1 : Int32)) dX8_give_83 rfl rfl (Nat.le_refl _) (Nat.le_refl _) ⟨rfl, rfl⟩
      · rw [if_neg h6] at hF
        refine Z_aload_n (i := 0) (pc' := 25) dX8_give_24 rfl rfl rfl ?_
        refine Z_get (v := .ref (ad 14)) (pc' := 28) 14 zinX8 rfl (by decide) lkX8_43 (mR_obj hG) rfl dX8_give_25 rfl ?_
        refine Z_iload_n (i := 3) (pc' := 29) dX8_give_28 rfl rfl rfl ?_
        obtain ⟨h7, hF⟩ := ck_of hF
        refine Z_iald (pc' := 30) (aR_14 hG) (zIn_in h7) dX8_give_29 rfl ?_
        refine Z_iload_n (i := 1) (pc' := 31) dX8_give_30 rfl rfl rfl ?_
        refine Z_icmp_ne (tgt := 82) (pc' := 34) dX8_give_31 (by decide) rfl (fun h8 => ?_) (fun h8 => ?_)
        · rw [if_neg h8] at hF
          refine Z_iconst (v := -1) (pc' := 83) dX8_give_82 (by decide) rfl ?_
          cases hF
          exact Z_iret (ty := .int) (w := (-1 : Int32)) dX8_give_83 rfl rfl (Nat.le_refl _) (Nat.le_refl _) ⟨rfl, rfl⟩
        · rw [if_pos h8] at hF
          refine Z_aload_n (i := 0) (pc' := 35) dX8_give_34 rfl rfl rfl ?_
          refine Z_get (v := .ref (ad 10)) (pc' := 38) 10 zinX8 rfl (by decide) lkX8_34 (mR_obj hG) rfl dX8_give_35 rfl ?_
          refine Z_bipush (v := 16) (pc' := 40) dX8_give_38 (by decide) rfl ?_
          refine Z_iload_n (i := 1) (pc' := 41) dX8_give_40 rfl rfl rfl ?_
          refine Z_imul (pc' := 42) dX8_give_41 rfl ?_
          refine Z_iload_n (i := 2) (pc' := 43) dX8_give_42 rfl rfl rfl ?_
          refine Z_iadd (pc' := 44) dX8_give_43 rfl ?_
          obtain ⟨h9, hF⟩ := ck_of hF
          refine Z_zald (pc' := 45) (aR_10 hG) (zIn_in h9) dX8_give_44 rfl ?_
          refine Z_if_eq (tgt := 82) (pc' := 48) dX8_give_45 (by decide) rfl (fun h10 => ?_) (fun h10 => ?_)
          · rw [if_pos h10] at hF
            refine Z_iconst (v := -1) (pc' := 83) dX8_give_82 (by decide) rfl ?_
            cases hF
            exact Z_iret (ty := .int) (w := (-1 : Int32)) dX8_give_83 rfl rfl (Nat.le_refl _) (Nat.le_refl _) ⟨rfl, rfl⟩
          · rw [if_neg h10] at hF
            refine Z_aload_n (i := 0) (pc' := 49) dX8_give_48 rfl rfl rfl ?_
            refine Z_iload_n (i := 1) (pc' := 50) dX8_give_49 rfl rfl rfl ?_
            refine Z_iload_n (i := 2) (pc' := 51) dX8_give_50 rfl rfl rfl ?_
            refine Z_iload_n (i := 3) (pc' := 52) dX8_give_51 rfl rfl rfl ?_
            obtain ⟨y11, hy11, hF⟩ := bd_of hF
            refine Z_callVi (As := [.int x1, .int x2, .int x3]) (st := []) (pc' := 55) (k' := 0) (n' := 0) (qX8_goesRound l hG hy11) ckX8_goesRound kvX8_goesRound mlX8_180 (mR_obj hG) rfl rfl rfl (Nat.le_of_ble_eq_true rfl) ⟨Nat.le_of_ble_eq_true rfl, Nat.le_of_ble_eq_true rfl⟩ ⟨Nat.le_of_ble_eq_true rfl, Nat.le_of_ble_eq_true rfl⟩ dX8_give_52 rfl rfl rfl ?_
            refine Z_if_eq (tgt := 82) (pc' := 58) dX8_give_55 (by decide) rfl (fun h12 => ?_) (fun h12 => ?_)
            · rw [if_pos h12] at hF
              refine Z_iconst (v := -1) (pc' := 83) dX8_give_82 (by decide) rfl ?_
              cases hF
              exact Z_iret (ty := .int) (w := (-1 : Int32)) dX8_give_83 rfl rfl (Nat.le_refl _) (Nat.le_refl _) ⟨rfl, rfl⟩
            · rw [if_neg h12] at hF
              refine Z_aload_n (i := 0) (pc' := 59) dX8_give_58 rfl rfl rfl ?_
              refine Z_get (v := .ref (ad 16)) (pc' := 62) 16 zinX8 rfl (by decide) lkX8_49 (mR_obj hG) rfl dX8_give_59 rfl ?_
              refine Z_iload_n (i := 3) (pc' := 63) dX8_give_62 rfl rfl rfl ?_
              refine Z_iald (pc' := 64) (aR_16 hG) (zIn_in h7) dX8_give_63 rfl ?_
              refine Z_aload_n (i := 0) (pc' := 65) dX8_give_64 rfl rfl rfl ?_
              refine Z_get (v := .int (y11.2 6 0)) (pc' := 68) 6 zinX8 rfl (by decide) lkX8_153 (mR_obj hG) rfl dX8_give_65 rfl ?_
              refine Z_icmp_eq (tgt := 82) (pc' := 71) dX8_give_68 (by decide) rfl (fun h13 => ?_) (fun h13 => ?_)
              · rw [if_pos h13] at hF
                refine Z_iconst (v := -1) (pc' := 83) dX8_give_82 (by decide) rfl ?_
                cases hF
                exact Z_iret (ty := .int) (w := (-1 : Int32)) dX8_give_83 rfl rfl (Nat.le_refl _) (Nat.le_refl _) ⟨rfl, rfl⟩
              · rw [if_neg h13] at hF
                refine Z_aload_n (i := 0) (pc' := 72) dX8_give_71 rfl rfl rfl ?_
                refine Z_get (v := .ref (ad 17)) (pc' := 75) 17 zinX8 rfl (by decide) lkX8_52 (mR_obj hG) rfl dX8_give_72 rfl ?_
                refine Z_iload_n (i := 3) (pc' := 76) dX8_give_75 rfl rfl rfl ?_
                refine Z_iald (pc' := 77) (aR_17 hG) (zIn_in h7) dX8_give_76 rfl ?_
                refine Z_bipush (v := 64) (pc' := 79) dX8_give_77 (by decide) rfl ?_
                refine Z_icmp_ne (tgt := 84) (pc' := 82) dX8_give_79 (by decide) rfl (fun h14 => ?_) (fun h14 => ?_)
                · rw [if_neg h14] at hF
                  refine Z_iconst (v := -1) (pc' := 85) dX8_give_84 (by decide) rfl ?_
                  refine Z_istoreE (i := 4) (x' := (-1 : Int32)) (vs' := [some (.ref (ad 42)), some (.int x1), some (.int x2), some (.int x3), some (.int (-1 : Int32)), none, none]) (pc' := 87) dX8_give_85 rfl (by decide) rfl rfl ?_
                  refine Z_iconst (v := -1) (pc' := 88) dX8_give_87 (by decide) rfl ?_
                  refine Z_istoreE (i := 5) (x' := (-1 : Int32)) (vs' := [some (.ref (ad 42)), some (.int x1), some (.int x2), some (.int x3), some (.int (-1 : Int32)), some (.int (-1 : Int32)), none]) (pc' := 90) dX8_give_88 rfl (by decide) rfl rfl ?_
                  refine Z_iconst (v := 0) (pc' := 91) dX8_give_90 (by decide) rfl ?_
                  refine Z_istoreE (i := 6) (x' := (0 : Int32)) (vs' := [some (.ref (ad 42)), some (.int x1), some (.int x2), some (.int x3), some (.int (-1 : Int32)), some (.int (-1 : Int32)), some (.int (0 : Int32))]) (pc' := 93) dX8_give_91 rfl (by decide) rfl rfl ?_
                  obtain ⟨r40, hr40, hF⟩ := bd_of hF
                  refine Z_sub (vs' := [some (.ref (ad 42)), some (.int x1), some (.int x2), some (.int x3), some (.int (-1 : Int32)), some (.int (-1 : Int32)), some (.int (0 : Int32))]) (zSb_of _ _ ⟨rfl, ⟨rfl, ⟨rfl, ⟨rfl, ⟨rfl, ⟨rfl, ⟨rfl, trivial⟩⟩⟩⟩⟩⟩⟩) (qX8_give_L93 hG zF x1 x2 x3 (-1 : Int32) (-1 : Int32) (0 : Int32) y11.2 _ hr40 ?_)
                  refine Z_iload (i := 5) (pc' := 183) dX8_give_181 rfl rfl ?_
                  refine Z_iconst (v := -1) (pc' := 184) dX8_give_183 (by decide) rfl ?_
                  refine Z_icmp_ne (tgt := 214) (pc' := 187) dX8_give_184 (by decide) rfl (fun h41 => ?_) (fun h41 => ?_)
                  · rw [if_neg h41] at hF
                    refine Z_iload (i := 5) (pc' := 216) dX8_give_214 rfl rfl ?_
                    refine Z_iconst (v := -1) (pc' := 217) dX8_give_216 (by decide) rfl ?_
                    refine Z_icmp_eq (tgt := 224) (pc' := 220) dX8_give_217 (by decide) rfl (fun q => absurd q h41) (fun _ => ?_)
                    refine Z_iconst (v := 1) (pc' := 221) dX8_give_220 (by decide) rfl ?_
                    refine Z_goto (tgt := 235) dX8_give_221 (by decide) ?_
                    refine Z_istoreE (i := 6) (x' := (1 : Int32)) (vs' := [some (.ref (ad 42)), some (.int x1), some (.int x2), some (.int x3), some (.int r40.1), some (.int r40.2.1), some (.int (1 : Int32))]) (pc' := 237) dX8_give_235 rfl (by decide) rfl rfl ?_
                    refine Z_iload (i := 6) (pc' := 239) dX8_give_237 rfl rfl ?_
                    refine Z_if_ne (tgt := 368) (pc' := 242) dX8_give_239 (by decide) rfl (fun _ => ?_) (fun q => absurd q (by decide))
                    refine Z_iload (i := 6) (pc' := 370) dX8_give_368 rfl rfl ?_
                    refine Z_iconst (v := 1) (pc' := 371) dX8_give_370 (by decide) rfl ?_
                    refine Z_icmp_ne (tgt := 385) (pc' := 374) dX8_give_371 (by decide) rfl (fun q => absurd q (by decide)) (fun _ => ?_)
                    refine Z_aload_n (i := 0) (pc' := 375) dX8_give_374 rfl rfl rfl ?_
                    refine Z_get (v := .ref (ad 30)) (pc' := 378) 30 zinX8 rfl (by decide) lkX8_88 (mR_obj hG) rfl dX8_give_375 rfl ?_
                    refine Z_iload (i := 5) (pc' := 380) dX8_give_378 rfl rfl ?_
                    refine Z_iload_n (i := 3) (pc' := 381) dX8_give_380 rfl rfl rfl ?_
                    obtain ⟨h45, hF⟩ := ck_of hF
                    obtain ⟨σ46, hσ46, hF⟩ := zl_of hF
                    refine Z_iast (pc' := 382) (aR_30 hG) (zIn_in h45) dX8_give_381 rfl ?_
                    refine Z_mem (sR_30 hG hσ46) ?_
                    refine Z_goto (tgt := 424) dX8_give_382 (by decide) ?_
                    refine Z_aload_n (i := 0) (pc' := 425) dX8_give_424 rfl rfl rfl ?_
                    refine Z_get (v := .ref (ad 8)) (pc' := 428) 8 zinX8 rfl (by decide) lkX8_27 (mR_obj hG) rfl dX8_give_425 rfl ?_
                    refine Z_iload_n (i := 1) (pc' := 429) dX8_give_428 rfl rfl rfl ?_
                    refine Z_aload_n (i := 0) (pc' := 430) dX8_give_429 rfl rfl rfl ?_
                    refine Z_get (v := .ref (ad 8)) (pc' := 433) 8 zinX8 rfl (by decide) lkX8_27 (mR_obj hG) rfl dX8_give_430 rfl ?_
                    refine Z_iload_n (i := 1) (pc' := 434) dX8_give_433 rfl rfl rfl ?_
                    obtain ⟨h47, hF⟩ := ck_of hF
                    refine Z_iald (pc' := 435) (aR_8 hG) (zIn_in h47) dX8_give_434 rfl ?_
                    refine Z_iload (i := 6) (pc' := 437) dX8_give_435 rfl rfl ?_
                    refine Z_iconst (v := 2) (pc' := 438) dX8_give_437 (by decide) rfl ?_
                    refine Z_icmp_ne (tgt := 452) (pc' := 441) dX8_give_438 (by decide) rfl (fun _ => ?_) (fun q => absurd q (by decide))
                    refine Z_aload_n (i := 0) (pc' := 453) dX8_give_452 rfl rfl rfl ?_
                    refine Z_get (v := .ref (ad 13)) (pc' := 456) 13 zinX8 rfl (by decide) lkX8_40 (mR_obj hG) rfl dX8_give_453 rfl ?_
                    refine Z_iload_n (i := 3) (pc' := 457) dX8_give_456 rfl rfl rfl ?_
                    obtain ⟨h49, hF⟩ := ck_of hF
                    refine Z_iald (pc' := 458) (aR_13 hG) (zIn_in h49) dX8_give_457 rfl ?_
                    refine Z_iadd (pc' := 459) dX8_give_458 rfl ?_
                    obtain ⟨σ50, hσ50, hF⟩ := zl_of hF
                    refine Z_iast (pc' := 460) (aR_8 hG) (zIn_in h47) dX8_give_459 rfl ?_
                    refine Z_mem (sR_8 hG hσ50) ?_
                    refine Z_aload_n (i := 0) (pc' := 461) dX8_give_460 rfl rfl rfl ?_
                    refine Z_get (v := .ref (ad 16)) (pc' := 464) 16 zinX8 rfl (by decide) lkX8_49 (mR_obj hG) rfl dX8_give_461 rfl ?_
                    refine Z_iload_n (i := 3) (pc' := 465) dX8_give_464 rfl rfl rfl ?_
                    refine Z_aload_n (i := 0) (pc' := 466) dX8_give_465 rfl rfl rfl ?_
                    refine Z_get (v := .int (σ50 6 0)) (pc' := 469) 6 zinX8 rfl (by decide) lkX8_153 (mR_obj hG) rfl dX8_give_466 rfl ?_
                    obtain ⟨σ51, hσ51, hF⟩ := zl_of hF
                    refine Z_iast (pc' := 470) (aR_16 hG) (zIn_in h49) dX8_give_469 rfl ?_
                    refine Z_mem (sR_16 hG hσ51) ?_
                    refine Z_aload_n (i := 0) (pc' := 471) dX8_give_470 rfl rfl rfl ?_
                    refine Z_iload_n (i := 3) (pc' := 472) dX8_give_471 rfl rfl rfl ?_
                    refine Z_iload_n (i := 2) (pc' := 473) dX8_give_472 rfl rfl rfl ?_
                    obtain ⟨y52, hy52, hF⟩ := bd_of hF
                    refine Z_callVv (As := [.int x3, .int x2]) (st := []) (pc' := 476) (k' := 0) (n' := 0) (qX8_comesTo l hG hy52) ckX8_comesTo kvX8_comesTo mlX8_160 (mR_obj hG) rfl rfl rfl (Nat.le_of_ble_eq_true rfl) ⟨Nat.le_of_ble_eq_true rfl, Nat.le_of_ble_eq_true rfl⟩ ⟨Nat.le_of_ble_eq_true rfl, Nat.le_of_ble_eq_true rfl⟩ dX8_give_473 rfl rfl rfl ?_
                    refine Z_iload (i := 6) (pc' := 478) dX8_give_476 rfl rfl ?_
                    cases hF
                    exact Z_iret (ty := .int) (w := (1 : Int32)) dX8_give_478 rfl rfl (Nat.le_refl _) (Nat.le_refl _) ⟨rfl, rfl⟩
                  · rw [if_pos h41] at hF
                    refine Z_aload_n (i := 0) (pc' := 188) dX8_give_187 rfl rfl rfl ?_
                    refine Z_iload_n (i := 1) (pc' := 189) dX8_give_188 rfl rfl rfl ?_
                    refine Z_iload_n (i := 2) (pc' := 190) dX8_give_189 rfl rfl rfl ?_
                    obtain ⟨y53, hy53, hF⟩ := bd_of hF
                    refine Z_callVi (As := [.int x1, .int x2]) (st := []) (pc' := 193) (k' := 0) (n' := 0) (qX8_quarrels l hG hy53) ckX8_quarrels kvX8_quarrels mlX8_188 (mR_obj hG) rfl rfl rfl (Nat.le_of_ble_eq_true rfl) ⟨Nat.le_of_ble_eq_true rfl, Nat.le_of_ble_eq_true rfl⟩ ⟨Nat.le_of_ble_eq_true rfl, Nat.le_of_ble_eq_true rfl⟩ dX8_give_190 rfl rfl rfl ?_
                    refine Z_if_ne (tgt := 212) (pc' := 196) dX8_give_193 (by decide) rfl (fun h54 => ?_) (fun h54 => ?_)
                    · rw [if_neg h54] at hF
                      refine Z_iconst (v := -1) (pc' := 213) dX8_give_212 (by decide) rfl ?_
                      cases hF
                      exact Z_iret (ty := .int) (w := (-1 : Int32)) dX8_give_213 rfl rfl (Nat.le_refl _) (Nat.le_refl _) ⟨rfl, rfl⟩
                    · rw [if_pos h54] at hF
                      refine Z_iload (i := 4) (pc' := 198) dX8_give_196 rfl rfl ?_
                      refine Z_iconst (v := -1) (pc' := 199) dX8_give_198 (by decide) rfl ?_
                      refine Z_icmp_ne (tgt := 214) (pc' := 202) dX8_give_199 (by decide) rfl (fun h55 => ?_) (fun h55 => ?_)
                      · rw [if_neg h55] at hF
                        refine Z_iload (i := 5) (pc' := 216) dX8_give_214 rfl rfl ?_
                        refine Z_iconst (v := -1) (pc' := 217) dX8_give_216 (by decide) rfl ?_
                        refine Z_icmp_eq (tgt := 224) (pc' := 220) dX8_give_217 (by decide) rfl (fun _ => ?_) (fun q => absurd h41 q)
                        refine Z_iload (i := 4) (pc' := 226) dX8_give_224 rfl rfl ?_
                        refine Z_iconst (v := -1) (pc' := 227) dX8_give_226 (by decide) rfl ?_
                        refine Z_icmp_eq (tgt := 234) (pc' := 230) dX8_give_227 (by decide) rfl (fun q => absurd q h55) (fun _ => ?_)
                        refine Z_iconst (v := 2) (pc' := 231) dX8_give_230 (by decide) rfl ?_
                        refine Z_goto (tgt := 235) dX8_give_231 (by decide) ?_
                        refine Z_istoreE (i := 6) (x' := (2 : Int32)) (vs' := [some (.ref (ad 42)), some (.int x1), some (.int x2), some (.int x3), some (.int r40.1), some (.int r40.2.1), some (.int (2 : Int32))]) (pc' := 237) dX8_give_235 rfl (by decide) rfl rfl ?_
                        refine Z_iload (i := 6) (pc' := 239) dX8_give_237 rfl rfl ?_
                        refine Z_if_ne (tgt := 368) (pc' := 242) dX8_give_239 (by decide) rfl (fun _ => ?_) (fun q => absurd q (by decide))
                        refine Z_iload (i := 6) (pc' := 370) dX8_give_368 rfl rfl ?_
                        refine Z_iconst (v := 1) (pc' := 371) dX8_give_370 (by decide) rfl ?_
                        refine Z_icmp_ne (tgt := 385) (pc' := 374) dX8_give_371 (by decide) rfl (fun _ => ?_) (fun q => absurd q (by decide))
                        refine Z_aload_n (i := 0) (pc' := 386) dX8_give_385 rfl rfl rfl ?_
                        refine Z_get (v := .ref (ad 31)) (pc' := 389) 31 zinX8 rfl (by decide) lkX8_91 (mR_obj hG) rfl dX8_give_386 rfl ?_
                        refine Z_iload (i := 4) (pc' := 391) dX8_give_389 rfl rfl ?_
                        obtain ⟨h60, hF⟩ := ck_of hF
                        refine Z_zald (pc' := 392) (aR_31 hG) (zIn_in h60) dX8_give_391 rfl ?_
                        refine Z_if_ne (tgt := 424) (pc' := 395) dX8_give_392 (by decide) rfl (fun h61 => ?_) (fun h61 => ?_)
                        · rw [if_neg h61] at hF
                          refine Z_aload_n (i := 0) (pc' := 425) dX8_give_424 rfl rfl rfl ?_
                          refine Z_get (v := .ref (ad 8)) (pc' := 428) 8 zinX8 rfl (by decide) lkX8_27 (mR_obj hG) rfl dX8_give_425 rfl ?_
                          refine Z_iload_n (i := 1) (pc' := 429) dX8_give_428 rfl rfl rfl ?_
                          refine Z_aload_n (i := 0) (pc' := 430) dX8_give_429 rfl rfl rfl ?_
                          refine Z_get (v := .ref (ad 8)) (pc' := 433) 8 zinX8 rfl (by decide) lkX8_27 (mR_obj hG) rfl dX8_give_430 rfl ?_
                          refine Z_iload_n (i := 1) (pc' := 434) dX8_give_433 rfl rfl rfl ?_
                          obtain ⟨h62, hF⟩ := ck_of hF
                          refine Z_iald (pc' := 435) (aR_8 hG) (zIn_in h62) dX8_give_434 rfl ?_
                          refine Z_iload (i := 6) (pc' := 437) dX8_give_435 rfl rfl ?_
                          refine Z_iconst (v := 2) (pc' := 438) dX8_give_437 (by decide) rfl ?_
                          refine Z_icmp_ne (tgt := 452) (pc' := 441) dX8_give_438 (by decide) rfl (fun q => absurd q (by decide)) (fun _ => ?_)
                          refine Z_aload_n (i := 0) (pc' := 442) dX8_give_441 rfl rfl rfl ?_
                          refine Z_get (v := .ref (ad 13)) (pc' := 445) 13 zinX8 rfl (by decide) lkX8_40 (mR_obj hG) rfl dX8_give_442 rfl ?_
                          refine Z_iload_n (i := 3) (pc' := 446) dX8_give_445 rfl rfl rfl ?_
                          obtain ⟨h64, hF⟩ := ck_of hF
                          refine Z_iald (pc' := 447) (aR_13 hG) (zIn_in h64) dX8_give_446 rfl ?_
                          refine Z_iconst (v := 2) (pc' := 448) dX8_give_447 (by decide) rfl ?_
                          refine Z_idiv (pc' := 449) (by decide) dX8_give_448 rfl ?_
                          refine Z_goto (tgt := 458) dX8_give_449 (by decide) ?_
                          refine Z_iadd (pc' := 459) dX8_give_458 rfl ?_
                          obtain ⟨σ65, hσ65, hF⟩ := zl_of hF
                          refine Z_iast (pc' := 460) (aR_8 hG) (zIn_in h62) dX8_give_459 rfl ?_
                          refine Z_mem (sR_8 hG hσ65) ?_
                          refine Z_aload_n (i := 0) (pc' := 461) dX8_give_460 rfl rfl rfl ?_
                          refine Z_get (v := .ref (ad 16)) (pc' := 464) 16 zinX8 rfl (by decide) lkX8_49 (mR_obj hG) rfl dX8_give_461 rfl ?_
                          refine Z_iload_n (i := 3) (pc' := 465) dX8_give_464 rfl rfl rfl ?_
                          refine Z_aload_n (i := 0) (pc' := 466) dX8_give_465 rfl rfl rfl ?_
                          refine Z_get (v := .int (σ65 6 0)) (pc' := 469) 6 zinX8 rfl (by decide) lkX8_153 (mR_obj hG) rfl dX8_give_466 rfl ?_
                          obtain ⟨σ66, hσ66, hF⟩ := zl_of hF
                          refine Z_iast (pc' := 470) (aR_16 hG) (zIn_in h64) dX8_give_469 rfl ?_
                          refine Z_mem (sR_16 hG hσ66) ?_
                          refine Z_aload_n (i := 0) (pc' := 471) dX8_give_470 rfl rfl rfl ?_
                          refine Z_iload_n (i := 3) (pc' := 472) dX8_give_471 rfl rfl rfl ?_
                          refine Z_iload_n (i := 2) (pc' := 473) dX8_give_472 rfl rfl rfl ?_
                          obtain ⟨y67, hy67, hF⟩ := bd_of hF
                          refine Z_callVv (As := [.int x3, .int x2]) (st := []) (pc' := 476) (k' := 0) (n' := 0) (qX8_comesTo l hG hy67) ckX8_comesTo kvX8_comesTo mlX8_160 (mR_obj hG) rfl rfl rfl (Nat.le_of_ble_eq_true rfl) ⟨Nat.le_of_ble_eq_true rfl, Nat.le_of_ble_eq_true rfl⟩ ⟨Nat.le_of_ble_eq_true rfl, Nat.le_of_ble_eq_true rfl⟩ dX8_give_473 rfl rfl rfl ?_
                          refine Z_iload (i := 6) (pc' := 478) dX8_give_476 rfl rfl ?_
                          cases hF
                          exact Z_iret (ty := .int) (w := (2 : Int32)) dX8_give_478 rfl rfl (Nat.le_refl _) (Nat.le_refl _) ⟨rfl, rfl⟩
                        · rw [if_pos h61] at hF
                          refine Z_aload_n (i := 0) (pc' := 396) dX8_give_395 rfl rfl rfl ?_
                          refine Z_get (v := .ref (ad 31)) (pc' := 399) 31 zinX8 rfl (by decide) lkX8_91 (mR_obj hG) rfl dX8_give_396 rfl ?_
                          refine Z_iload (i := 4) (pc' := 401) dX8_give_399 rfl rfl ?_
                          refine Z_iconst (v := 1) (pc' := 402) dX8_give_401 (by decide) rfl ?_
                          obtain ⟨σ68, hσ68, hF⟩ := zl_of hF
                          refine Z_zast (pc' := 403) (aR_31 hG) (zIn_in h60) dX8_give_402 rfl ?_
                          refine Z_mem (sR_31 hG hσ68) ?_
                          refine Z_aload_n (i := 0) (pc' := 404) dX8_give_403 rfl rfl rfl ?_
                          refine Z_get (v := .ref (ad 28)) (pc' := 407) 28 zinX8 rfl (by decide) lkX8_82 (mR_obj hG) rfl dX8_give_404 rfl ?_
                          refine Z_iload (i := 4) (pc' := 409) dX8_give_407 rfl rfl ?_
                          refine Z_aload_n (i := 0) (pc' := 410) dX8_give_409 rfl rfl rfl ?_
                          refine Z_get (v := .ref (ad 28)) (pc' := 413) 28 zinX8 rfl (by decide) lkX8_82 (mR_obj hG) rfl dX8_give_410 rfl ?_
                          refine Z_iload (i := 4) (pc' := 415) dX8_give_413 rfl rfl ?_
                          refine Z_iald (pc' := 416) (aR_28 hG) (zIn_in h60) dX8_give_415 rfl ?_
                          refine Z_aload_n (i := 0) (pc' := 417) dX8_give_416 rfl rfl rfl ?_
                          refine Z_get (v := .ref (ad 2)) (pc' := 420) 2 zinX8 rfl (by decide) lkX8_13 (mR_obj hG) rfl dX8_give_417 rfl ?_
                          refine Z_iconst (v := 2) (pc' := 421) dX8_give_420 (by decide) rfl ?_
                          refine Z_iald (pc' := 422) (aR_2 hG) (zIn_in (by decide)) dX8_give_421 rfl ?_
                          refine Z_iadd (pc' := 423) dX8_give_422 rfl ?_
                          obtain ⟨σ69, hσ69, hF⟩ := zl_of hF
                          refine Z_iast (pc' := 424) (aR_28 hG) (zIn_in h60) dX8_give_423 rfl ?_
                          refine Z_mem (sR_28 hG hσ69) ?_
                          refine Z_aload_n (i := 0) (pc' := 425) dX8_give_424 rfl rfl rfl ?_
                          refine Z_get (v := .ref (ad 8)) (pc' := 428) 8 zinX8 rfl (by decide) lkX8_27 (mR_obj hG) rfl dX8_give_425 rfl ?_
                          refine Z_iload_n (i := 1) (pc' := 429) dX8_give_428 rfl rfl rfl ?_
                          refine Z_aload_n (i := 0) (pc' := 430) dX8_give_429 rfl rfl rfl ?_
                          refine Z_get (v := .ref (ad 8)) (pc' := 433) 8 zinX8 rfl (by decide) lkX8_27 (mR_obj hG) rfl dX8_give_430 rfl ?_
                          refine Z_iload_n (i := 1) (pc' := 434) dX8_give_433 rfl rfl rfl ?_
                          obtain ⟨h70, hF⟩ := ck_of hF
                          refine Z_iald (pc' := 435) (aR_8 hG) (zIn_in h70) dX8_give_434 rfl ?_
                          refine Z_iload (i := 6) (pc' := 437) dX8_give_435 rfl rfl ?_
                          refine Z_iconst (v := 2) (pc' := 438) dX8_give_437 (by decide) rfl ?_
                          refine Z_icmp_ne (tgt := 452) (pc' := 441) dX8_give_438 (by decide) rfl (fun q => absurd q (by decide)) (fun _ => ?_)
                          refine Z_aload_n (i := 0) (pc' := 442) dX8_give_441 rfl rfl rfl ?_
                          refine Z_get (v := .ref (ad 13)) (pc' := 445) 13 zinX8 rfl (by decide) lkX8_40 (mR_obj hG) rfl dX8_give_442 rfl ?_
                          refine Z_iload_n (i := 3) (pc' := 446) dX8_give_445 rfl rfl rfl ?_
                          obtain ⟨h72, hF⟩ := ck_of hF
                          refine Z_iald (pc' := 447) (aR_13 hG) (zIn_in h72) dX8_give_446 rfl ?_
                          refine Z_iconst (v := 2) (pc' := 448) dX8_give_447 (by decide) rfl ?_
                          refine Z_idiv (pc' := 449) (by decide) dX8_give_448 rfl ?_
                          refine Z_goto (tgt := 458) dX8_give_449 (by decide) ?_
                          refine Z_iadd (pc' := 459) dX8_give_458 rfl ?_
                          obtain ⟨σ73, hσ73, hF⟩ := zl_of hF
                          refine Z_iast (pc' := 460) (aR_8 hG) (zIn_in h70) dX8_give_459 rfl ?_
                          refine Z_mem (sR_8 hG hσ73) ?_
                          refine Z_aload_n (i := 0) (pc' := 461) dX8_give_460 rfl rfl rfl ?_
                          refine Z_get (v := .ref (ad 16)) (pc' := 464) 16 zinX8 rfl (by decide) lkX8_49 (mR_obj hG) rfl dX8_give_461 rfl ?_
                          refine Z_iload_n (i := 3) (pc' := 465) dX8_give_464 rfl rfl rfl ?_
                          refine Z_aload_n (i := 0) (pc' := 466) dX8_give_465 rfl rfl rfl ?_
                          refine Z_get (v := .int (σ73 6 0)) (pc' := 469) 6 zinX8 rfl (by decide) lkX8_153 (mR_obj hG) rfl dX8_give_466 rfl ?_
                          obtain ⟨σ74, hσ74, hF⟩ := zl_of hF
                          refine Z_iast (pc' := 470) (aR_16 hG) (zIn_in h72) dX8_give_469 rfl ?_
                          refine Z_mem (sR_16 hG hσ74) ?_
                          refine Z_aload_n (i := 0) (pc' := 471) dX8_give_470 rfl rfl rfl ?_
                          refine Z_iload_n (i := 3) (pc' := 472) dX8_give_471 rfl rfl rfl ?_
                          refine Z_iload_n (i := 2) (pc' := 473) dX8_give_472 rfl rfl rfl ?_
                          obtain ⟨y75, hy75, hF⟩ := bd_of hF
                          refine Z_callVv (As := [.int x3, .int x2]) (st := []) (pc' := 476) (k' := 0) (n' := 0) (qX8_comesTo l hG hy75) ckX8_comesTo kvX8_comesTo mlX8_160 (mR_obj hG) rfl rfl rfl (Nat.le_of_ble_eq_true rfl) ⟨Nat.le_of_ble_eq_true rfl, Nat.le_of_ble_eq_true rfl⟩ ⟨Nat.le_of_ble_eq_true rfl, Nat.le_of_ble_eq_true rfl⟩ dX8_give_473 rfl rfl rfl ?_
                          refine Z_iload (i := 6) (pc' := 478) dX8_give_476 rfl rfl ?_
                          cases hF
                          exact Z_iret (ty := .int) (w := (2 : Int32)) dX8_give_478 rfl rfl (Nat.le_refl _) (Nat.le_refl _) ⟨rfl, rfl⟩
                      · rw [if_pos h55] at hF
                        refine Z_aload_n (i := 0) (pc' := 203) dX8_give_202 rfl rfl rfl ?_
                        refine Z_get (v := .int (y53.2 23 0)) (pc' := 206) 23 zinX8 rfl (by decide) lkX8_174 (mR_obj hG) rfl dX8_give_203 rfl ?_
                        refine Z_sipush (v := 200) (pc' := 209) dX8_give_206 (by decide) rfl ?_
                        refine Z_icmp_ne (tgt := 214) (pc' := 212) dX8_give_209 (by decide) rfl (fun h76 => ?_) (fun h76 => ?_)
                        · rw [if_neg h76] at hF
                          refine Z_iload (i := 5) (pc' := 216) dX8_give_214 rfl rfl ?_
                          refine Z_iconst (v := -1) (pc' := 217) dX8_give_216 (by decide) rfl ?_
                          refine Z_icmp_eq (tgt := 224) (pc' := 220) dX8_give_217 (by decide) rfl (fun _ => ?_) (fun q => absurd h41 q)
                          refine Z_iload (i := 4) (pc' := 226) dX8_give_224 rfl rfl ?_
                          refine Z_iconst (v := -1) (pc' := 227) dX8_give_226 (by decide) rfl ?_
                          refine Z_icmp_eq (tgt := 234) (pc' := 230) dX8_give_227 (by decide) rfl (fun _ => ?_) (fun q => absurd h55 q)
                          refine Z_iconst (v := 0) (pc' := 235) dX8_give_234 (by decide) rfl ?_
                          refine Z_istoreE (i := 6) (x' := (0 : Int32)) (vs' := [some (.ref (ad 42)), some (.int x1), some (.int x2), some (.int x3), some (.int r40.1), some (.int r40.2.1), some (.int (0 : Int32))]) (pc' := 237) dX8_give_235 rfl (by decide) rfl rfl ?_
                          refine Z_iload (i := 6) (pc' := 239) dX8_give_237 rfl rfl ?_
                          refine Z_if_ne (tgt := 368) (pc' := 242) dX8_give_239 (by decide) rfl (fun q => absurd q (by decide)) (fun _ => ?_)
                          refine Z_aload_n (i := 0) (pc' := 243) dX8_give_242 rfl rfl rfl ?_
                          refine Z_get (v := .ref (ad 24)) (pc' := 246) 24 zinX8 rfl (by decide) lkX8_70 (mR_obj hG) rfl dX8_give_243 rfl ?_
                          refine Z_aload_n (i := 0) (pc' := 247) dX8_give_246 rfl rfl rfl ?_
                          refine Z_get (v := .int (y53.2 23 0)) (pc' := 250) 23 zinX8 rfl (by decide) lkX8_174 (mR_obj hG) rfl dX8_give_247 rfl ?_
                          refine Z_iload_n (i := 2) (pc' := 251) dX8_give_250 rfl rfl rfl ?_
                          obtain ⟨h80, hF⟩ := ck_of hF
                          obtain ⟨σ81, hσ81, hF⟩ := zl_of hF
                          refine Z_iast (pc' := 252) (aR_24 hG) (zIn_in h80) dX8_give_251 rfl ?_
                          refine Z_mem (sR_24 hG hσ81) ?_
                          refine Z_aload_n (i := 0) (pc' := 253) dX8_give_252 rfl rfl rfl ?_
                          refine Z_get (v := .ref (ad 25)) (pc' := 256) 25 zinX8 rfl (by decide) lkX8_73 (mR_obj hG) rfl dX8_give_253 rfl ?_
                          refine Z_aload_n (i := 0) (pc' := 257) dX8_give_256 rfl rfl rfl ?_
                          refine Z_get (v := .int (σ81 23 0)) (pc' := 260) 23 zinX8 rfl (by decide) lkX8_174 (mR_obj hG) rfl dX8_give_257 rfl ?_
                          refine Z_iload_n (i := 1) (pc' := 261) dX8_give_260 rfl rfl rfl ?_
                          obtain ⟨h82, hF⟩ := ck_of hF
                          obtain ⟨σ83, hσ83, hF⟩ := zl_of hF
                          refine Z_iast (pc' := 262) (aR_25 hG) (zIn_in h82) dX8_give_261 rfl ?_
                          refine Z_mem (sR_25 hG hσ83) ?_
                          refine Z_aload_n (i := 0) (pc' := 263) dX8_give_262 rfl rfl rfl ?_
                          refine Z_get (v := .ref (ad 26)) (pc' := 266) 26 zinX8 rfl (by decide) lkX8_76 (mR_obj hG) rfl dX8_give_263 rfl ?_
                          refine Z_aload_n (i := 0) (pc' := 267) dX8_give_266 rfl rfl rfl ?_
                          refine Z_get (v := .int (σ83 23 0)) (pc' := 270) 23 zinX8 rfl (by decide) lkX8_174 (mR_obj hG) rfl dX8_give_267 rfl ?_
                          refine Z_aload_n (i := 0) (pc' := 271) dX8_give_270 rfl rfl rfl ?_
                          refine Z_get (v := .ref (ad 12)) (pc' := 274) 12 zinX8 rfl (by decide) lkX8_37 (mR_obj hG) rfl dX8_give_271 rfl ?_
                          refine Z_iload_n (i := 3) (pc' := 275) dX8_give_274 rfl rfl rfl ?_
                          obtain ⟨h84, hF⟩ := ck_of hF
                          refine Z_iald (pc' := 276) (aR_12 hG) (zIn_in h84) dX8_give_275 rfl ?_
                          obtain ⟨h85, hF⟩ := ck_of hF
                          obtain ⟨σ86, hσ86, hF⟩ := zl_of hF
                          refine Z_iast (pc' := 277) (aR_26 hG) (zIn_in h85) dX8_give_276 rfl ?_
                          refine Z_mem (sR_26 hG hσ86) ?_
                          refine Z_aload_n (i := 0) (pc' := 278) dX8_give_277 rfl rfl rfl ?_
                          refine Z_get (v := .ref (ad 27)) (pc' := 281) 27 zinX8 rfl (by decide) lkX8_79 (mR_obj hG) rfl dX8_give_278 rfl ?_
                          refine Z_aload_n (i := 0) (pc' := 282) dX8_give_281 rfl rfl rfl ?_
                          refine Z_get (v := .int (σ86 23 0)) (pc' := 285) 23 zinX8 rfl (by decide) lkX8_174 (mR_obj hG) rfl dX8_give_282 rfl ?_
                          refine Z_aload_n (i := 0) (pc' := 286) dX8_give_285 rfl rfl rfl ?_
                          refine Z_get (v := .ref (ad 13)) (pc' := 289) 13 zinX8 rfl (by decide) lkX8_40 (mR_obj hG) rfl dX8_give_286 rfl ?_
                          refine Z_iload_n (i := 3) (pc' := 290) dX8_give_289 rfl rfl rfl ?_
                          refine Z_iald (pc' := 291) (aR_13 hG) (zIn_in h84) dX8_give_290 rfl ?_
                          refine Z_aload_n (i := 0) (pc' := 292) dX8_give_291 rfl rfl rfl ?_
                          refine Z_get (v := .ref (ad 2)) (pc' := 295) 2 zinX8 rfl (by decide) lkX8_13 (mR_obj hG) rfl dX8_give_292 rfl ?_
                          refine Z_iconst (v := 0) (pc' := 296) dX8_give_295 (by decide) rfl ?_
                          refine Z_iald (pc' := 297) (aR_2 hG) (zIn_in (by decide)) dX8_give_296 rfl ?_
                          refine Z_imul (pc' := 298) dX8_give_297 rfl ?_
                          refine Z_bipush (v := 99) (pc' := 300) dX8_give_298 (by decide) rfl ?_
                          refine Z_iadd (pc' := 301) dX8_give_300 rfl ?_
                          refine Z_bipush (v := 100) (pc' := 303) dX8_give_301 (by decide) rfl ?_
                          refine Z_idiv (pc' := 304) (by decide) dX8_give_303 rfl ?_
                          obtain ⟨h87, hF⟩ := ck_of hF
                          obtain ⟨σ88, hσ88, hF⟩ := zl_of hF
                          refine Z_iast (pc' := 305) (aR_27 hG) (zIn_in h87) dX8_give_304 rfl ?_
                          refine Z_mem (sR_27 hG hσ88) ?_
                          refine Z_aload_n (i := 0) (pc' := 306) dX8_give_305 rfl rfl rfl ?_
                          refine Z_get (v := .ref (ad 28)) (pc' := 309) 28 zinX8 rfl (by decide) lkX8_82 (mR_obj hG) rfl dX8_give_306 rfl ?_
                          refine Z_aload_n (i := 0) (pc' := 310) dX8_give_309 rfl rfl rfl ?_
                          refine Z_get (v := .int (σ88 23 0)) (pc' := 313) 23 zinX8 rfl (by decide) lkX8_174 (mR_obj hG) rfl dX8_give_310 rfl ?_
                          refine Z_aload_n (i := 0) (pc' := 314) dX8_give_313 rfl rfl rfl ?_
                          refine Z_get (v := .int (σ88 6 0)) (pc' := 317) 6 zinX8 rfl (by decide) lkX8_153 (mR_obj hG) rfl dX8_give_314 rfl ?_
                          refine Z_aload_n (i := 0) (pc' := 318) dX8_give_317 rfl rfl rfl ?_
                          refine Z_get (v := .ref (ad 2)) (pc' := 321) 2 zinX8 rfl (by decide) lkX8_13 (mR_obj hG) rfl dX8_give_318 rfl ?_
                          refine Z_iconst (v := 1) (pc' := 322) dX8_give_321 (by decide) rfl ?_
                          refine Z_iald (pc' := 323) (aR_2 hG) (zIn_in (by decide)) dX8_give_322 rfl ?_
                          refine Z_iadd (pc' := 324) dX8_give_323 rfl ?_
                          obtain ⟨h89, hF⟩ := ck_of hF
                          obtain ⟨σ90, hσ90, hF⟩ := zl_of hF
                          refine Z_iast (pc' := 325) (aR_28 hG) (zIn_in h89) dX8_give_324 rfl ?_
                          refine Z_mem (sR_28 hG hσ90) ?_
                          refine Z_aload_n (i := 0) (pc' := 326) dX8_give_325 rfl rfl rfl ?_
                          refine Z_get (v := .ref (ad 29)) (pc' := 329) 29 zinX8 rfl (by decide) lkX8_85 (mR_obj hG) rfl dX8_give_326 rfl ?_
                          refine Z_aload_n (i := 0) (pc' := 330) dX8_give_329 rfl rfl rfl ?_
                          refine Z_get (v := .int (σ90 23 0)) (pc' := 333) 23 zinX8 rfl (by decide) lkX8_174 (mR_obj hG) rfl dX8_give_330 rfl ?_
                          refine Z_iload_n (i := 3) (pc' := 334) dX8_give_333 rfl rfl rfl ?_
                          obtain ⟨h91, hF⟩ := ck_of hF
                          obtain ⟨σ92, hσ92, hF⟩ := zl_of hF
                          refine Z_iast (pc' := 335) (aR_29 hG) (zIn_in h91) dX8_give_334 rfl ?_
                          refine Z_mem (sR_29 hG hσ92) ?_
                          refine Z_aload_n (i := 0) (pc' := 336) dX8_give_335 rfl rfl rfl ?_
                          refine Z_get (v := .ref (ad 30)) (pc' := 339) 30 zinX8 rfl (by decide) lkX8_88 (mR_obj hG) rfl dX8_give_336 rfl ?_
                          refine Z_aload_n (i := 0) (pc' := 340) dX8_give_339 rfl rfl rfl ?_
                          refine Z_get (v := .int (σ92 23 0)) (pc' := 343) 23 zinX8 rfl (by decide) lkX8_174 (mR_obj hG) rfl dX8_give_340 rfl ?_
                          refine Z_iconst (v := -1) (pc' := 344) dX8_give_343 (by decide) rfl ?_
                          obtain ⟨h93, hF⟩ := ck_of hF
                          obtain ⟨σ94, hσ94, hF⟩ := zl_of hF
                          refine Z_iast (pc' := 345) (aR_30 hG) (zIn_in h93) dX8_give_344 rfl ?_
                          refine Z_mem (sR_30 hG hσ94) ?_
                          refine Z_aload_n (i := 0) (pc' := 346) dX8_give_345 rfl rfl rfl ?_
                          refine Z_get (v := .ref (ad 31)) (pc' := 349) 31 zinX8 rfl (by decide) lkX8_91 (mR_obj hG) rfl dX8_give_346 rfl ?_
                          refine Z_aload_n (i := 0) (pc' := 350) dX8_give_349 rfl rfl rfl ?_
                          refine Z_get (v := .int (σ94 23 0)) (pc' := 353) 23 zinX8 rfl (by decide) lkX8_174 (mR_obj hG) rfl dX8_give_350 rfl ?_
                          refine Z_iconst (v := 0) (pc' := 354) dX8_give_353 (by decide) rfl ?_
                          obtain ⟨h95, hF⟩ := ck_of hF
                          obtain ⟨σ96, hσ96, hF⟩ := zl_of hF
                          refine Z_zast (pc' := 355) (aR_31 hG) (zIn_in h95) dX8_give_354 rfl ?_
                          refine Z_mem (sR_31 hG hσ96) ?_
                          refine Z_aload_n (i := 0) (pc' := 356) dX8_give_355 rfl rfl rfl ?_
                          refine Z_aload_n (i := 0) (pc' := 357) dX8_give_356 rfl rfl rfl ?_
                          refine Z_get (v := .int (σ96 23 0)) (pc' := 360) 23 zinX8 rfl (by decide) lkX8_174 (mR_obj hG) rfl dX8_give_357 rfl ?_
                          refine Z_iconst (v := 1) (pc' := 361) dX8_give_360 (by decide) rfl ?_
                          refine Z_iadd (pc' := 362) dX8_give_361 rfl ?_
                          obtain ⟨σ97, hσ97, hF⟩ := zl_of hF
                          refine Z_put (fs' := (rFs ad σ96).set 23 (.int ((σ96 23 0) + (1 : Int32)))) (pc' := 365) 23 zinX8 tyX8_ok nmX8 rfl (by decide) lkX8_174 rfl (mR_obj hG) rfl rfl rfl (Nat.le_of_ble_eq_true rfl) rfl dX8_give_362 rfl ?_
                          refine Z_mem (pR_23 hG hσ97) ?_
                          refine Z_goto (tgt := 424) dX8_give_365 (by decide) ?_
                          refine Z_aload_n (i := 0) (pc' := 425) dX8_give_424 rfl rfl rfl ?_
                          refine Z_get (v := .ref (ad 8)) (pc' := 428) 8 zinX8 rfl (by decide) lkX8_27 (mR_obj hG) rfl dX8_give_425 rfl ?_
                          refine Z_iload_n (i := 1) (pc' := 429) dX8_give_428 rfl rfl rfl ?_
                          refine Z_aload_n (i := 0) (pc' := 430) dX8_give_429 rfl rfl rfl ?_
                          refine Z_get (v := .ref (ad 8)) (pc' := 433) 8 zinX8 rfl (by decide) lkX8_27 (mR_obj hG) rfl dX8_give_430 rfl ?_
                          refine Z_iload_n (i := 1) (pc' := 434) dX8_give_433 rfl rfl rfl ?_
                          obtain ⟨h98, hF⟩ := ck_of hF
                          refine Z_iald (pc' := 435) (aR_8 hG) (zIn_in h98) dX8_give_434 rfl ?_
                          refine Z_iload (i := 6) (pc' := 437) dX8_give_435 rfl rfl ?_
                          refine Z_iconst (v := 2) (pc' := 438) dX8_give_437 (by decide) rfl ?_
                          refine Z_icmp_ne (tgt := 452) (pc' := 441) dX8_give_438 (by decide) rfl (fun _ => ?_) (fun q => absurd q (by decide))
                          refine Z_aload_n (i := 0) (pc' := 453) dX8_give_452 rfl rfl rfl ?_
                          refine Z_get (v := .ref (ad 13)) (pc' := 456) 13 zinX8 rfl (by decide) lkX8_40 (mR_obj hG) rfl dX8_give_453 rfl ?_
                          refine Z_iload_n (i := 3) (pc' := 457) dX8_give_456 rfl rfl rfl ?_
                          refine Z_iald (pc' := 458) (aR_13 hG) (zIn_in h84) dX8_give_457 rfl ?_
                          refine Z_iadd (pc' := 459) dX8_give_458 rfl ?_
                          obtain ⟨σ100, hσ100, hF⟩ := zl_of hF
                          refine Z_iast (pc' := 460) (aR_8 hG) (zIn_in h98) dX8_give_459 rfl ?_
                          refine Z_mem (sR_8 hG hσ100) ?_
                          refine Z_aload_n (i := 0) (pc' := 461) dX8_give_460 rfl rfl rfl ?_
                          refine Z_get (v := .ref (ad 16)) (pc' := 464) 16 zinX8 rfl (by decide) lkX8_49 (mR_obj hG) rfl dX8_give_461 rfl ?_
                          refine Z_iload_n (i := 3) (pc' := 465) dX8_give_464 rfl rfl rfl ?_
                          refine Z_aload_n (i := 0) (pc' := 466) dX8_give_465 rfl rfl rfl ?_
                          refine Z_get (v := .int (σ100 6 0)) (pc' := 469) 6 zinX8 rfl (by decide) lkX8_153 (mR_obj hG) rfl dX8_give_466 rfl ?_
                          obtain ⟨σ101, hσ101, hF⟩ := zl_of hF
                          refine Z_iast (pc' := 470) (aR_16 hG) (zIn_in h84) dX8_give_469 rfl ?_
                          refine Z_mem (sR_16 hG hσ101) ?_
                          refine Z_aload_n (i := 0) (pc' := 471) dX8_give_470 rfl rfl rfl ?_
                          refine Z_iload_n (i := 3) (pc' := 472) dX8_give_471 rfl rfl rfl ?_
                          refine Z_iload_n (i := 2) (pc' := 473) dX8_give_472 rfl rfl rfl ?_
                          obtain ⟨y102, hy102, hF⟩ := bd_of hF
                          refine Z_callVv (As := [.int x3, .int x2]) (st := []) (pc' := 476) (k' := 0) (n' := 0) (qX8_comesTo l hG hy102) ckX8_comesTo kvX8_comesTo mlX8_160 (mR_obj hG) rfl rfl rfl (Nat.le_of_ble_eq_true rfl) ⟨Nat.le_of_ble_eq_true rfl, Nat.le_of_ble_eq_true rfl⟩ ⟨Nat.le_of_ble_eq_true rfl, Nat.le_of_ble_eq_true rfl⟩ dX8_give_473 rfl rfl rfl ?_
                          refine Z_iload (i := 6) (pc' := 478) dX8_give_476 rfl rfl ?_
                          cases hF
                          exact Z_iret (ty := .int) (w := (0 : Int32)) dX8_give_478 rfl rfl (Nat.le_refl _) (Nat.le_refl _) ⟨rfl, rfl⟩
                        · rw [if_pos h76] at hF
                          refine Z_iconst (v := -1) (pc' := 213) dX8_give_212 (by decide) rfl ?_
                          cases hF
                          exact Z_iret (ty := .int) (w := (-1 : Int32)) dX8_give_213 rfl rfl (Nat.le_refl _) (Nat.le_refl _) ⟨rfl, rfl⟩
                · rw [if_pos h14] at hF
                  refine Z_iconst (v := -1) (pc' := 83) dX8_give_82 (by decide) rfl ?_
                  cases hF
                  exact Z_iret (ty := .int) (w := (-1 : Int32)) dX8_give_83 rfl rfl (Nat.le_refl _) (Nat.le_refl _) ⟨rfl, rfl⟩
abbrev rmX8_season : Room := { frames := 0, cells := 0, slots := 0, locals := 0 }
def r_season_L24 : Nat → Int32 → zS → Option (zS)
  | 0, _, _ => none
  | n + 1, x1_, σ => (if (σ 11 0) ≤ x1_ then some (σ) else (if zIn x1_ 24 = true then (if (σ 14 (x1_).toNatClampNeg) = (-1 : Int32) then zl (x1_ + 1) (fun (v6 : Int32) => (r_season_L24 n v6 σ)) else (if (σ 2 (3 : Int32).toNatClampNeg) < ((σ 6 0) - (σ 15 (x1_).toNatClampNeg)) then (if zIn (σ 14 (x1_).toNatClampNeg) 16 = true then zl (zs σ 8 (σ 14 (x1_).toNatClampNeg).toNatClampNeg ((σ 8 (σ 14 (x1_).toNatClampNeg).toNatClampNeg) - (((σ 13 (x1_).toNatClampNeg) + (9 : Int32)) / (10 : Int32)))) (fun (σ9 : zS) => zl (x1_ + 1) (fun (v10 : Int32) => (r_season_L24 n v10 σ9))) else none) else zl (x1_ + 1) (fun (v11 : Int32) => (r_season_L24 n v11 σ)))) else none))
def r_season   (σ : zS) : Option (Int32 × zS) := (if (σ 6 0) = (1000 : Int32) then some ((-1 : Int32), σ) else zl (zs σ 6 0 ((σ 6 0) + (1 : Int32))) (fun (σ2 : zS) => ((r_season_L24 zF (0 : Int32) σ2).bind (fun r12 => some ((r12 6 0), r12)))))
set_option maxHeartbeats 4000000 in
set_option maxRecDepth 100000 in
theorem qX8_season_L24 {l : Launch} {D : va_G} {M0 : zM} {Q : Option Value → zM → Prop} {ad dec : Nat → Nat} (hG : rG ad dec) : ∀ (n : Nat) (x1_ : Int32) (σ : zS) (r : (zS)), r_season_L24 n x1_ σ = some r → (Z l yX8_season cX8_season 2 (some .int) rmX8_season 0 0 D M0 Q 0 0 106 [some (.ref (ad 42)), none] [] (mR ad dec r)) → Z l yX8_season cX8_season 2 (some .int) rmX8_season 0 0 D M0 Q 0 0 24 [some (.ref (ad 42)), some (.int x1_)] [] (mR ad dec σ) := by
  intro n
  induction n with
  | zero =>
    intro x1_ σ r hF hE
    exact absurd (show (none : Option (zS)) = some r from hF) (by simp)
  | succ n ih =>
    intro x1_ σ r hF hE
    replace hF : (if (σ 11 0) ≤ x1_ then some (σ) else (if zIn x1_ 24 = true then (if (σ 14 (x1_).toNatClampNeg) = (-1 : Int32) then zl (x1_ + 1) (fun (v6 : Int32) => (r_season_L24 n v6 σ)) else (if (σ 2 (3 : Int32).toNatClampNeg) < ((σ 6 0) - (σ 15 (x1_).toNatClampNeg)) then (if zIn (σ 14 (x1_).toNatClampNeg) 16 = true then zl (zs σ 8 (σ 14 (x1_).toNatClampNeg).toNatClampNeg ((σ 8 (σ 14 (x1_).toNatClampNeg).toNatClampNeg) - (((σ 13 (x1_).toNatClampNeg) + (9 : Int32)) / (10 : Int32)))) (fun (σ9 : zS) => zl (x1_ + 1) (fun (v10 : Int32) => (r_season_L24 n v10 σ9))) else none) else zl (x1_ + 1) (fun (v11 : Int32) => (r_season_L24 n v11 σ)))) else none)) = some r := hF
    refine Z_iload_n (i := 1) (pc' := 25) dX8_season_24 rfl rfl rfl ?_
    refine Z_aload_n (i := 0) (pc' := 26) dX8_season_25 rfl rfl rfl ?_
    refine Z_get (v := .int (σ 11 0)) (pc' := 29) 11 zinX8 rfl (by decide) lkX8_150 (mR_obj hG) rfl dX8_season_26 rfl ?_
    refine Z_icmp_ge (tgt := 106) (pc' := 32) dX8_season_29 (by decide) rfl (fun h3 => ?_) (fun h3 => ?_)
    · rw [if_pos h3] at hF
      cases hF
      exact Z_sub (vs' := [some (.ref (ad 42)), none]) (zSb_of _ _ ⟨rfl, trivial⟩) hE
    · rw [if_neg h3] at hF
      refine Z_aload_n (i := 0) (pc' := 33) dX8_season_32 rfl rfl rfl ?_
      refine Z_get (v := .ref (ad 14)) (pc' := 36) 14 zinX8 rfl (by decide) lkX8_43 (mR_obj hG) rfl dX8_season_33 rfl ?_
      refine Z_iload_n (i := 1) (pc' := 37) dX8_season_36 rfl rfl rfl ?_
      obtain ⟨h4, hF⟩ := ck_of hF
      refine Z_iald (pc' := 38) (aR_14 hG) (zIn_in h4) dX8_season_37 rfl ?_
      refine Z_iconst (v := -1) (pc' := 39) dX8_season_38 (by decide) rfl ?_
      refine Z_icmp_eq (tgt := 100) (pc' := 42) dX8_season_39 (by decide) rfl (fun h5 => ?_) (fun h5 => ?_)
      · rw [if_pos h5] at hF
        obtain ⟨v6, hv6, hF⟩ := zl_of hF
        refine Z_iinc (i := 1) (v := v6) (vs' := [some (.ref (ad 42)), some (.int v6)]) (pc' := 103) dX8_season_100 rfl (by rw [hv6]; rfl) (by decide) rfl rfl ?_
        refine Z_goto (tgt := 24) dX8_season_103 (by decide) ?_
        exact Z_sub (vs' := [some (.ref (ad 42)), some (.int v6)]) (zSb_of _ _ ⟨rfl, ⟨rfl, trivial⟩⟩) (ih v6 σ _ hF hE)
      · rw [if_neg h5] at hF
        refine Z_aload_n (i := 0) (pc' := 43) dX8_season_42 rfl rfl rfl ?_
        refine Z_get (v := .int (σ 6 0)) (pc' := 46) 6 zinX8 rfl (by decide) lkX8_153 (mR_obj hG) rfl dX8_season_43 rfl ?_
        refine Z_aload_n (i := 0) (pc' := 47) dX8_season_46 rfl rfl rfl ?_
        refine Z_get (v := .ref (ad 15)) (pc' := 50) 15 zinX8 rfl (by decide) lkX8_46 (mR_obj hG) rfl dX8_season_47 rfl ?_
        refine Z_iload_n (i := 1) (pc' := 51) dX8_season_50 rfl rfl rfl ?_
        refine Z_iald (pc' := 52) (aR_15 hG) (zIn_in h4) dX8_season_51 rfl ?_
        refine Z_isub (pc' := 53) dX8_season_52 rfl ?_
        refine Z_aload_n (i := 0) (pc' := 54) dX8_season_53 rfl rfl rfl ?_
        refine Z_get (v := .ref (ad 2)) (pc' := 57) 2 zinX8 rfl (by decide) lkX8_13 (mR_obj hG) rfl dX8_season_54 rfl ?_
        refine Z_iconst (v := 3) (pc' := 58) dX8_season_57 (by decide) rfl ?_
        refine Z_iald (pc' := 59) (aR_2 hG) (zIn_in (by decide)) dX8_season_58 rfl ?_
        refine Z_icmp_gt (tgt := 65) (pc' := 62) dX8_season_59 (by decide) rfl (fun h7 => ?_) (fun h7 => ?_)
        · rw [if_pos h7] at hF
          refine Z_aload_n (i := 0) (pc' := 66) dX8_season_65 rfl rfl rfl ?_
          refine Z_get (v := .ref (ad 8)) (pc' := 69) 8 zinX8 rfl (by decide) lkX8_27 (mR_obj hG) rfl dX8_season_66 rfl ?_
          refine Z_aload_n (i := 0) (pc' := 70) dX8_season_69 rfl rfl rfl ?_
          refine Z_get (v := .ref (ad 14)) (pc' := 73) 14 zinX8 rfl (by decide) lkX8_43 (mR_obj hG) rfl dX8_season_70 rfl ?_
          refine Z_iload_n (i := 1) (pc' := 74) dX8_season_73 rfl rfl rfl ?_
          refine Z_iald (pc' := 75) (aR_14 hG) (zIn_in h4) dX8_season_74 rfl ?_
          refine Z_aload_n (i := 0) (pc' := 76) dX8_season_75 rfl rfl rfl ?_
          refine Z_get (v := .ref (ad 8)) (pc' := 79) 8 zinX8 rfl (by decide) lkX8_27 (mR_obj hG) rfl dX8_season_76 rfl ?_
          refine Z_aload_n (i := 0) (pc' := 80) dX8_season_79 rfl rfl rfl ?_
          refine Z_get (v := .ref (ad 14)) (pc' := 83) 14 zinX8 rfl (by decide) lkX8_43 (mR_obj hG) rfl dX8_season_80 rfl ?_
          refine Z_iload_n (i := 1) (pc' := 84) dX8_season_83 rfl rfl rfl ?_
          refine Z_iald (pc' := 85) (aR_14 hG) (zIn_in h4) dX8_season_84 rfl ?_
          obtain ⟨h8, hF⟩ := ck_of hF
          refine Z_iald (pc' := 86) (aR_8 hG) (zIn_in h8) dX8_season_85 rfl ?_
          refine Z_aload_n (i := 0) (pc' := 87) dX8_season_86 rfl rfl rfl ?_
          refine Z_get (v := .ref (ad 13)) (pc' := 90) 13 zinX8 rfl (by decide) lkX8_40 (mR_obj hG) rfl dX8_season_87 rfl ?_
          refine Z_iload_n (i := 1) (pc' := 91) dX8_season_90 rfl rfl rfl ?_
          refine Z_iald (pc' := 92) (aR_13 hG) (zIn_in h4) dX8_season_91 rfl ?_
          refine Z_bipush (v := 9) (pc' := 94) dX8_season_92 (by decide) rfl ?_
          refine Z_iadd (pc' := 95) dX8_season_94 rfl ?_
          refine Z_bipush (v := 10) (pc' := 97) dX8_season_95 (by decide) rfl ?_
          refine Z_idiv (pc' := 98) (by decide) dX8_season_97 rfl ?_
          refine Z_isub (pc' := 99) dX8_season_98 rfl ?_
          obtain ⟨σ9, hσ9, hF⟩ := zl_of hF
          refine Z_iast (pc' := 100) (aR_8 hG) (zIn_in h8) dX8_season_99 rfl ?_
          refine Z_mem (sR_8 hG hσ9) ?_
          obtain ⟨v10, hv10, hF⟩ := zl_of hF
          refine Z_iinc (i := 1) (v := v10) (vs' := [some (.ref (ad 42)), some (.int v10)]) (pc' := 103) dX8_season_100 rfl (by rw [hv10]; rfl) (by decide) rfl rfl ?_
          refine Z_goto (tgt := 24) dX8_season_103 (by decide) ?_
          exact Z_sub (vs' := [some (.ref (ad 42)), some (.int v10)]) (zSb_of _ _ ⟨rfl, ⟨rfl, trivial⟩⟩) (ih v10 σ9 _ hF hE)
        · rw [if_neg h7] at hF
          refine Z_goto (tgt := 100) dX8_season_62 (by decide) ?_
          obtain ⟨v11, hv11, hF⟩ := zl_of hF
          refine Z_iinc (i := 1) (v := v11) (vs' := [some (.ref (ad 42)), some (.int v11)]) (pc' := 103) dX8_season_100 rfl (by rw [hv11]; rfl) (by decide) rfl rfl ?_
          refine Z_goto (tgt := 24) dX8_season_103 (by decide) ?_
          exact Z_sub (vs' := [some (.ref (ad 42)), some (.int v11)]) (zSb_of _ _ ⟨rfl, ⟨rfl, trivial⟩⟩) (ih v11 σ _ hF hE)
set_option maxHeartbeats 4000000 in
set_option maxRecDepth 100000 in
theorem qX8_season (l : Launch) {ad dec : Nat → Nat} (hG : rG ad dec)  {σ : zS} {w : Int32 × zS} (hF : r_season  σ = some w) : zMet l yX8_season cX8_season 2 (some .int) rmX8_season [.ref (ad 42)] (mR ad dec σ) (fun v M' => v = (some (.int w.1)) ∧ M' = (mR ad dec w.2)) := by
  refine zMet.ofZ (vs := [some (.ref (ad 42)), none]) (by decide) rfl (zCt_of _ ⟨rfl, trivial⟩) (Nat.le_of_ble_eq_true rfl) (fun D => ?_)
  unfold r_season at hF
  refine Z_aload_n (i := 0) (pc' := 1) dX8_season_0 rfl rfl rfl ?_
  refine Z_get (v := .int (σ 6 0)) (pc' := 4) 6 zinX8 rfl (by decide) lkX8_153 (mR_obj hG) rfl dX8_season_1 rfl ?_
  refine Z_sipush (v := 1000) (pc' := 7) dX8_season_4 (by decide) rfl ?_
  refine Z_icmp_ne (tgt := 12) (pc' := 10) dX8_season_7 (by decide) rfl (fun h1 => ?_) (fun h1 => ?_)
  · rw [if_neg h1] at hF
    refine Z_aload_n (i := 0) (pc' := 13) dX8_season_12 rfl rfl rfl ?_
    refine Z_aload_n (i := 0) (pc' := 14) dX8_season_13 rfl rfl rfl ?_
    refine Z_get (v := .int (σ 6 0)) (pc' := 17) 6 zinX8 rfl (by decide) lkX8_153 (mR_obj hG) rfl dX8_season_14 rfl ?_
    refine Z_iconst (v := 1) (pc' := 18) dX8_season_17 (by decide) rfl ?_
    refine Z_iadd (pc' := 19) dX8_season_18 rfl ?_
    obtain ⟨σ2, hσ2, hF⟩ := zl_of hF
    refine Z_put (fs' := (rFs ad σ).set 6 (.int ((σ 6 0) + (1 : Int32)))) (pc' := 22) 6 zinX8 tyX8_ok nmX8 rfl (by decide) lkX8_153 rfl (mR_obj hG) rfl rfl rfl (Nat.le_of_ble_eq_true rfl) rfl dX8_season_19 rfl ?_
    refine Z_mem (pR_6 hG hσ2) ?_
    refine Z_iconst (v := 0) (pc' := 23) dX8_season_22 (by decide) rfl ?_
    refine Z_istore_nE (i := 1) (x' := (0 : Int32)) (vs' := [some (.ref (ad 42)), some (.int (0 : Int32))]) (pc' := 24) dX8_season_23 rfl rfl (by decide) rfl rfl ?_
    obtain ⟨r12, hr12, hF⟩ := bd_of hF
    refine Z_sub (vs' := [some (.ref (ad 42)), some (.int (0 : Int32))]) (zSb_of _ _ ⟨rfl, ⟨rfl, trivial⟩⟩) (qX8_season_L24 hG zF (0 : Int32) σ2 _ hr12 ?_)
    refine Z_aload_n (i := 0) (pc' := 107) dX8_season_106 rfl rfl rfl ?_
    refine Z_get (v := .int (r12 6 0)) (pc' := 110) 6 zinX8 rfl (by decide) lkX8_153 (mR_obj hG) rfl dX8_season_107 rfl ?_
    cases hF
    exact Z_iret (ty := .int) (w := (r12 6 0)) dX8_season_110 rfl rfl (Nat.le_refl _) (Nat.le_refl _) ⟨rfl, rfl⟩
  · rw [if_pos h1] at hF
    refine Z_iconst (v := -1) (pc' := 11) dX8_season_10 (by decide) rfl ?_
    cases hF
    exact Z_iret (ty := .int) (w := (-1 : Int32)) dX8_season_11 rfl rfl (Nat.le_refl _) (Nat.le_refl _) ⟨rfl, rfl⟩
abbrev rmX8_dies : Room := { frames := 2, cells := 0, slots := 0, locals := 46 }
def r_dies_L47 : Nat → Int32 → Int32 → Int32 → zS → Option (zS)
  | 0, _, _, _, _ => none
  | n + 1, x1_, x2_, x3_, σ => (if (σ 11 0) ≤ x3_ then some (σ) else (if zIn x3_ 24 = true then (if (σ 14 (x3_).toNatClampNeg) = x1_ then ((r_comesTo x3_ x2_ σ).bind (fun y14 => zl (x3_ + 1) (fun (v15 : Int32) => (r_dies_L47 n x1_ x2_ v15 y14.2)))) else zl (x3_ + 1) (fun (v13 : Int32) => (r_dies_L47 n x1_ x2_ v13 σ))) else none))
def r_dies_L79 : Nat → Int32 → Int32 → Int32 → zS → Option (zS)
  | 0, _, _, _, _ => none
  | n + 1, x1_, x2_, x3_, σ => (if (σ 23 0) ≤ x3_ then some (σ) else (if zIn x3_ 200 = true then (if (σ 24 (x3_).toNatClampNeg) = x1_ then zl (zs σ 24 (x3_).toNatClampNeg x2_) (fun (σ24 : zS) => (if (σ24 25 (x3_).toNatClampNeg) = x1_ then zl (zs σ24 25 (x3_).toNatClampNeg x2_) (fun (σ27 : zS) => zl (x3_ + 1) (fun (v28 : Int32) => (r_dies_L79 n x1_ x2_ v28 σ27))) else zl (x3_ + 1) (fun (v26 : Int32) => (r_dies_L79 n x1_ x2_ v26 σ24)))) else (if (σ 25 (x3_).toNatClampNeg) = x1_ then zl (zs σ 25 (x3_).toNatClampNeg x2_) (fun (σ22 : zS) => zl (x3_ + 1) (fun (v23 : Int32) => (r_dies_L79 n x1_ x2_ v23 σ22))) else zl (x3_ + 1) (fun (v21 : Int32) => (r_dies_L79 n x1_ x2_ v21 σ)))) else none))
def r_dies_L129 : Nat → Int32 → Int32 → Int32 → zS → Option (zS)
  | 0, _, _, _, _ => none
  | n + 1, x1_, x2_, x3_, σ => (if (σ 5 0) ≤ x3_ then some (σ) else (if zIn (((16 : Int32) * x1_) + x3_) 256 = true then (if (σ 10 (((16 : Int32) * x1_) + x3_).toNatClampNeg) = 0 then zl (x3_ + 1) (fun (v41 : Int32) => (r_dies_L129 n x1_ x2_ v41 σ)) else zl (zs σ 10 (((16 : Int32) * x1_) + x3_).toNatClampNeg (vp_nar .boolean (0 : Int32))) (fun (σ33 : zS) => (if zIn (((16 : Int32) * x3_) + x1_) 256 = true then zl (zs σ33 10 (((16 : Int32) * x3_) + x1_).toNatClampNeg (vp_nar .boolean (0 : Int32))) (fun (σ35 : zS) => (if zIn (((16 : Int32) * x2_) + x3_) 256 = true then zl (zs σ35 10 (((16 : Int32) * x2_) + x3_).toNatClampNeg (vp_nar .boolean (1 : Int32))) (fun (σ37 : zS) => (if zIn (((16 : Int32) * x3_) + x2_) 256 = true then zl (zs σ37 10 (((16 : Int32) * x3_) + x2_).toNatClampNeg (vp_nar .boolean (1 : Int32))) (fun (σ39 : zS) => zl (x3_ + 1) (fun (v40 : Int32) => (r_dies_L129 n x1_ x2_ v40 σ39))) else none)) else none)) else none))) else none))
def r_dies  (x1 : Int32) (x2 : Int32) (σ : zS) : Option (Int32 × zS) := ((r_lives x1 σ).bind (fun y1 => (if y1.1 = 0 then some ((0 : Int32), y1.2) else ((r_lives x2 y1.2).bind (fun y3 => (if y3.1 = 0 then some ((0 : Int32), y3.2) else (if x1 = x2 then some ((0 : Int32), y3.2) else (if zIn x1 16 = true then (if zIn x2 16 = true then (if (y3.2 7 (x1).toNatClampNeg) = (y3.2 7 (x2).toNatClampNeg) then zl (zs y3.2 9 (x1).toNatClampNeg (vp_nar .boolean (0 : Int32))) (fun (σ9 : zS) => ((r_dies_L47 zF x1 x2 (0 : Int32) σ9).bind (fun r16 => ((r_dies_L79 zF x1 x2 (0 : Int32) r16).bind (fun r29 => ((r_dies_L129 zF x1 x2 (0 : Int32) r29).bind (fun r42 => some ((1 : Int32), r42)))))))) else some ((0 : Int32), y3.2)) else none) else none))))))))
set_option maxHeartbeats 4000000 in
set_option maxRecDepth 100000 in
theorem qX8_dies_L47 {l : Launch} {D : va_G} {M0 : zM} {Q : Option Value → zM → Prop} {ad dec : Nat → Nat} (hG : rG ad dec) : ∀ (n : Nat) (x1_ : Int32) (x2_ : Int32) (x3_ : Int32) (σ : zS) (r : (zS)), r_dies_L47 n x1_ x2_ x3_ σ = some r → (Z l yX8_dies cX8_dies 4 (some .boolean) rmX8_dies 0 0 D M0 Q 0 0 77 [some (.ref (ad 42)), some (.int x1_), some (.int x2_), none] [] (mR ad dec r)) → Z l yX8_dies cX8_dies 4 (some .boolean) rmX8_dies 0 0 D M0 Q 0 0 47 [some (.ref (ad 42)), some (.int x1_), some (.int x2_), some (.int x3_)] [] (mR ad dec σ) := by
  intro n
  induction n with
  | zero =>
    intro x1_ x2_ x3_ σ r hF hE
    exact absurd (show (none : Option (zS)) = some r from hF) (by simp)
  | succ n ih =>
    intro x1_ x2_ x3_ σ r hF hE
    replace hF : (if (σ 11 0) ≤ x3_ then some (σ) else (if zIn x3_ 24 = true then (if (σ 14 (x3_).toNatClampNeg) = x1_ then ((r_comesTo x3_ x2_ σ).bind (fun y14 => zl (x3_ + 1) (fun (v15 : Int32) => (r_dies_L47 n x1_ x2_ v15 y14.2)))) else zl (x3_ + 1) (fun (v13 : Int32) => (r_dies_L47 n x1_ x2_ v13 σ))) else none)) = some r := hF
    refine Z_iload_n (i := 3) (pc' := 48) dX8_dies_47 rfl rfl rfl ?_
    refine Z_aload_n (i := 0) (pc' := 49) dX8_dies_48 rfl rfl rfl ?_
    refine Z_get (v := .int (σ 11 0)) (pc' := 52) 11 zinX8 rfl (by decide) lkX8_150 (mR_obj hG) rfl dX8_dies_49 rfl ?_
    refine Z_icmp_ge (tgt := 77) (pc' := 55) dX8_dies_52 (by decide) rfl (fun h10 => ?_) (fun h10 => ?_)
    · rw [if_pos h10] at hF
      cases hF
      exact Z_sub (vs' := [some (.ref (ad 42)), some (.int x1_), some (.int x2_), none]) (zSb_of _ _ ⟨rfl, ⟨rfl, ⟨rfl, trivial⟩⟩⟩) hE
    · rw [if_neg h10] at hF
      refine Z_aload_n (i := 0) (pc' := 56) dX8_dies_55 rfl rfl rfl ?_
      refine Z_get (v := .ref (ad 14)) (pc' := 59) 14 zinX8 rfl (by decide) lkX8_43 (mR_obj hG) rfl dX8_dies_56 rfl ?_
      refine Z_iload_n (i := 3) (pc' := 60) dX8_dies_59 rfl rfl rfl ?_
      obtain ⟨h11, hF⟩ := ck_of hF
      refine Z_iald (pc' := 61) (aR_14 hG) (zIn_in h11) dX8_dies_60 rfl ?_
      refine Z_iload_n (i := 1) (pc' := 62) dX8_dies_61 rfl rfl rfl ?_
      refine Z_icmp_ne (tgt := 71) (pc' := 65) dX8_dies_62 (by decide) rfl (fun h12 => ?_) (fun h12 => ?_)
      · rw [if_neg h12] at hF
        obtain ⟨v13, hv13, hF⟩ := zl_of hF
        refine Z_iinc (i := 3) (v := v13) (vs' := [some (.ref (ad 42)), some (.int x1_), some (.int x2_), some (.int v13)]) (pc' := 74) dX8_dies_71 rfl (by rw [hv13]; rfl) (by decide) rfl rfl ?_
        refine Z_goto (tgt := 47) dX8_dies_74 (by decide) ?_
        exact Z_sub (vs' := [some (.ref (ad 42)), some (.int x1_), some (.int x2_), some (.int v13)]) (zSb_of _ _ ⟨rfl, ⟨rfl, ⟨rfl, ⟨rfl, trivial⟩⟩⟩⟩) (ih x1_ x2_ v13 σ _ hF hE)
      · rw [if_pos h12] at hF
        refine Z_aload_n (i := 0) (pc' := 66) dX8_dies_65 rfl rfl rfl ?_
        refine Z_iload_n (i := 3) (pc' := 67) dX8_dies_66 rfl rfl rfl ?_
        refine Z_iload_n (i := 2) (pc' := 68) dX8_dies_67 rfl rfl rfl ?_
        obtain ⟨y14, hy14, hF⟩ := bd_of hF
        refine Z_callVv (As := [.int x3_, .int x2_]) (st := []) (pc' := 71) (k' := 0) (n' := 0) (qX8_comesTo l hG hy14) ckX8_comesTo kvX8_comesTo mlX8_160 (mR_obj hG) rfl rfl rfl (Nat.le_of_ble_eq_true rfl) ⟨Nat.le_of_ble_eq_true rfl, Nat.le_of_ble_eq_true rfl⟩ ⟨Nat.le_of_ble_eq_true rfl, Nat.le_of_ble_eq_true rfl⟩ dX8_dies_68 rfl rfl rfl ?_
        obtain ⟨v15, hv15, hF⟩ := zl_of hF
        refine Z_iinc (i := 3) (v := v15) (vs' := [some (.ref (ad 42)), some (.int x1_), some (.int x2_), some (.int v15)]) (pc' := 74) dX8_dies_71 rfl (by rw [hv15]; rfl) (by decide) rfl rfl ?_
        refine Z_goto (tgt := 47) dX8_dies_74 (by decide) ?_
        exact Z_sub (vs' := [some (.ref (ad 42)), some (.int x1_), some (.int x2_), some (.int v15)]) (zSb_of _ _ ⟨rfl, ⟨rfl, ⟨rfl, ⟨rfl, trivial⟩⟩⟩⟩) (ih x1_ x2_ v15 y14.2 _ hF hE)
set_option maxHeartbeats 4000000 in
set_option maxRecDepth 100000 in
theorem qX8_dies_L79 {l : Launch} {D : va_G} {M0 : zM} {Q : Option Value → zM → Prop} {ad dec : Nat → Nat} (hG : rG ad dec) : ∀ (n : Nat) (x1_ : Int32) (x2_ : Int32) (x3_ : Int32) (σ : zS) (r : (zS)), r_dies_L79 n x1_ x2_ x3_ σ = some r → (Z l yX8_dies cX8_dies 4 (some .boolean) rmX8_dies 0 0 D M0 Q 0 0 127 [some (.ref (ad 42)), some (.int x1_), some (.int x2_), none] [] (mR ad dec r)) → Z l yX8_dies cX8_dies 4 (some .boolean) rmX8_dies 0 0 D M0 Q 0 0 79 [some (.ref (ad 42)), some (.int x1_), some (.int x2_), some (.int x3_)] [] (mR ad dec σ) := by
  intro n
  induction n with
  | zero =>
    intro x1_ x2_ x3_ σ r hF hE
    exact absurd (show (none : Option (zS)) = some r from hF) (by simp)
  | succ n ih =>
    intro x1_ x2_ x3_ σ r hF hE
    replace hF : (if (σ 23 0) ≤ x3_ then some (σ) else (if zIn x3_ 200 = true then (if (σ 24 (x3_).toNatClampNeg) = x1_ then zl (zs σ 24 (x3_).toNatClampNeg x2_) (fun (σ24 : zS) => (if (σ24 25 (x3_).toNatClampNeg) = x1_ then zl (zs σ24 25 (x3_).toNatClampNeg x2_) (fun (σ27 : zS) => zl (x3_ + 1) (fun (v28 : Int32) => (r_dies_L79 n x1_ x2_ v28 σ27))) else zl (x3_ + 1) (fun (v26 : Int32) => (r_dies_L79 n x1_ x2_ v26 σ24)))) else (if (σ 25 (x3_).toNatClampNeg) = x1_ then zl (zs σ 25 (x3_).toNatClampNeg x2_) (fun (σ22 : zS) => zl (x3_ + 1) (fun (v23 : Int32) => (r_dies_L79 n x1_ x2_ v23 σ22))) else zl (x3_ + 1) (fun (v21 : Int32) => (r_dies_L79 n x1_ x2_ v21 σ)))) else none)) = some r := hF
    refine Z_iload_n (i := 3) (pc' := 80) dX8_dies_79 rfl rfl rfl ?_
    refine Z_aload_n (i := 0) (pc' := 81) dX8_dies_80 rfl rfl rfl ?_
    refine Z_get (v := .int (σ 23 0)) (pc' := 84) 23 zinX8 rfl (by decide) lkX8_174 (mR_obj hG) rfl dX8_dies_81 rfl ?_
    refine Z_icmp_ge (tgt := 127) (pc' := 87) dX8_dies_84 (by decide) rfl (fun h17 => ?_) (fun h17 => ?_)
    · rw [if_pos h17] at hF
      cases hF
      exact Z_sub (vs' := [some (.ref (ad 42)), some (.int x1_), some (.int x2_), none]) (zSb_of _ _ ⟨rfl, ⟨rfl, ⟨rfl, trivial⟩⟩⟩) hE
    · rw [if_neg h17] at hF
      refine Z_aload_n (i := 0) (pc' := 88) dX8_dies_87 rfl rfl rfl ?_
      refine Z_get (v := .ref (ad 24)) (pc' := 91) 24 zinX8 rfl (by decide) lkX8_70 (mR_obj hG) rfl dX8_dies_88 rfl ?_
      refine Z_iload_n (i := 3) (pc' := 92) dX8_dies_91 rfl rfl rfl ?_
      obtain ⟨h18, hF⟩ := ck_of hF
      refine Z_iald (pc' := 93) (aR_24 hG) (zIn_in h18) dX8_dies_92 rfl ?_
      refine Z_iload_n (i := 1) (pc' := 94) dX8_dies_93 rfl rfl rfl ?_
      refine Z_icmp_ne (tgt := 104) (pc' := 97) dX8_dies_94 (by decide) rfl (fun h19 => ?_) (fun h19 => ?_)
      · rw [if_neg h19] at hF
        refine Z_aload_n (i := 0) (pc' := 105) dX8_dies_104 rfl rfl rfl ?_
        refine Z_get (v := .ref (ad 25)) (pc' := 108) 25 zinX8 rfl (by decide) lkX8_73 (mR_obj hG) rfl dX8_dies_105 rfl ?_
        refine Z_iload_n (i := 3) (pc' := 109) dX8_dies_108 rfl rfl rfl ?_
        refine Z_iald (pc' := 110) (aR_25 hG) (zIn_in h18) dX8_dies_109 rfl ?_
        refine Z_iload_n (i := 1) (pc' := 111) dX8_dies_110 rfl rfl rfl ?_
        refine Z_icmp_ne (tgt := 121) (pc' := 114) dX8_dies_111 (by decide) rfl (fun h20 => ?_) (fun h20 => ?_)
        · rw [if_neg h20] at hF
          obtain ⟨v21, hv21, hF⟩ := zl_of hF
          refine Z_iinc (i := 3) (v := v21) (vs' := [some (.ref (ad 42)), some (.int x1_), some (.int x2_), some (.int v21)]) (pc' := 124) dX8_dies_121 rfl (by rw [hv21]; rfl) (by decide) rfl rfl ?_
          refine Z_goto (tgt := 79) dX8_dies_124 (by decide) ?_
          exact Z_sub (vs' := [some (.ref (ad 42)), some (.int x1_), some (.int x2_), some (.int v21)]) (zSb_of _ _ ⟨rfl, ⟨rfl, ⟨rfl, ⟨rfl, trivial⟩⟩⟩⟩) (ih x1_ x2_ v21 σ _ hF hE)
        · rw [if_pos h20] at hF
          refine Z_aload_n (i := 0) (pc' := 115) dX8_dies_114 rfl rfl rfl ?_
          refine Z_get (v := .ref (ad 25)) (pc' := 118) 25 zinX8 rfl (by decide) lkX8_73 (mR_obj hG) rfl dX8_dies_115 rfl ?_
          refine Z_iload_n (i := 3) (pc' := 119) dX8_dies_118 rfl rfl rfl ?_
          refine Z_iload_n (i := 2) (pc' := 120) dX8_dies_119 rfl rfl rfl ?_
          obtain ⟨σ22, hσ22, hF⟩ := zl_of hF
          refine Z_iast (pc' := 121) (aR_25 hG) (zIn_in h18) dX8_dies_120 rfl ?_
          refine Z_mem (sR_25 hG hσ22) ?_
          obtain ⟨v23, hv23, hF⟩ := zl_of hF
          refine Z_iinc (i := 3) (v := v23) (vs' := [some (.ref (ad 42)), some (.int x1_), some (.int x2_), some (.int v23)]) (pc' := 124) dX8_dies_121 rfl (by rw [hv23]; rfl) (by decide) rfl rfl ?_
          refine Z_goto (tgt := 79) dX8_dies_124 (by decide) ?_
          exact Z_sub (vs' := [some (.ref (ad 42)), some (.int x1_), some (.int x2_), some (.int v23)]) (zSb_of _ _ ⟨rfl, ⟨rfl, ⟨rfl, ⟨rfl, trivial⟩⟩⟩⟩) (ih x1_ x2_ v23 σ22 _ hF hE)
      · rw [if_pos h19] at hF
        refine Z_aload_n (i := 0) (pc' := 98) dX8_dies_97 rfl rfl rfl ?_
        refine Z_get (v := .ref (ad 24)) (pc' := 101) 24 zinX8 rfl (by decide) lkX8_70 (mR_obj hG) rfl dX8_dies_98 rfl ?_
        refine Z_iload_n (i := 3) (pc' := 102) dX8_dies_101 rfl rfl rfl ?_
        refine Z_iload_n (i := 2) (pc' := 103) dX8_dies_102 rfl rfl rfl ?_
        obtain ⟨σ24, hσ24, hF⟩ := zl_of hF
        refine Z_iast (pc' := 104) (aR_24 hG) (zIn_in h18) dX8_dies_103 rfl ?_
        refine Z_mem (sR_24 hG hσ24) ?_
        refine Z_aload_n (i := 0) (pc' := 105) dX8_dies_104 rfl rfl rfl ?_
        refine Z_get (v := .ref (ad 25)) (pc' := 108) 25 zinX8 rfl (by decide) lkX8_73 (mR_obj hG) rfl dX8_dies_105 rfl ?_
        refine Z_iload_n (i := 3) (pc' := 109) dX8_dies_108 rfl rfl rfl ?_
        refine Z_iald (pc' := 110) (aR_25 hG) (zIn_in h18) dX8_dies_109 rfl ?_
        refine Z_iload_n (i := 1) (pc' := 111) dX8_dies_110 rfl rfl rfl ?_
        refine Z_icmp_ne (tgt := 121) (pc' := 114) dX8_dies_111 (by decide) rfl (fun h25 => ?_) (fun h25 => ?_)
        · rw [if_neg h25] at hF
          obtain ⟨v26, hv26, hF⟩ := zl_of hF
          refine Z_iinc (i := 3) (v := v26) (vs' := [some (.ref (ad 42)), some (.int x1_), some (.int x2_), some (.int v26)]) (pc' := 124) dX8_dies_121 rfl (by rw [hv26]; rfl) (by decide) rfl rfl ?_
          refine Z_goto (tgt := 79) dX8_dies_124 (by decide) ?_
          exact Z_sub (vs' := [some (.ref (ad 42)), some (.int x1_), some (.int x2_), some (.int v26)]) (zSb_of _ _ ⟨rfl, ⟨rfl, ⟨rfl, ⟨rfl, trivial⟩⟩⟩⟩) (ih x1_ x2_ v26 σ24 _ hF hE)
        · rw [if_pos h25] at hF
          refine Z_aload_n (i := 0) (pc' := 115) dX8_dies_114 rfl rfl rfl ?_
          refine Z_get (v := .ref (ad 25)) (pc' := 118) 25 zinX8 rfl (by decide) lkX8_73 (mR_obj hG) rfl dX8_dies_115 rfl ?_
          refine Z_iload_n (i := 3) (pc' := 119) dX8_dies_118 rfl rfl rfl ?_
          refine Z_iload_n (i := 2) (pc' := 120) dX8_dies_119 rfl rfl rfl ?_
          obtain ⟨σ27, hσ27, hF⟩ := zl_of hF
          refine Z_iast (pc' := 121) (aR_25 hG) (zIn_in h18) dX8_dies_120 rfl ?_
          refine Z_mem (sR_25 hG hσ27) ?_
          obtain ⟨v28, hv28, hF⟩ := zl_of hF
          refine Z_iinc (i := 3) (v := v28) (vs' := [some (.ref (ad 42)), some (.int x1_), some (.int x2_), some (.int v28)]) (pc' := 124) dX8_dies_121 rfl (by rw [hv28]; rfl) (by decide) rfl rfl ?_
          refine Z_goto (tgt := 79) dX8_dies_124 (by decide) ?_
          exact Z_sub (vs' := [some (.ref (ad 42)), some (.int x1_), some (.int x2_), some (.int v28)]) (zSb_of _ _ ⟨rfl, ⟨rfl, ⟨rfl, ⟨rfl, trivial⟩⟩⟩⟩) (ih x1_ x2_ v28 σ27 _ hF hE)
set_option maxHeartbeats 4000000 in
set_option maxRecDepth 100000 in
theorem qX8_dies_L129 {l : Launch} {D : va_G} {M0 : zM} {Q : Option Value → zM → Prop} {ad dec : Nat → Nat} (hG : rG ad dec) : ∀ (n : Nat) (x1_ : Int32) (x2_ : Int32) (x3_ : Int32) (σ : zS) (r : (zS)), r_dies_L129 n x1_ x2_ x3_ σ = some r → (Z l yX8_dies cX8_dies 4 (some .boolean) rmX8_dies 0 0 D M0 Q 0 0 208 [none, none, none, none] [] (mR ad dec r)) → Z l yX8_dies cX8_dies 4 (some .boolean) rmX8_dies 0 0 D M0 Q 0 0 129 [some (.ref (ad 42)), some (.int x1_), some (.int x2_), some (.int x3_)] [] (mR ad dec σ) := by
  intro n
  induction n with
  | zero =>
    intro x1_ x2_ x3_ σ r hF hE
    exact absurd (show (none : Option (zS)) = some r from hF) (by simp)
  | succ n ih =>
    intro x1_ x2_ x3_ σ r hF hE
    replace hF : (if (σ 5 0) ≤ x3_ then some (σ) else (if zIn (((16 : Int32) * x1_) + x3_) 256 = true then (if (σ 10 (((16 : Int32) * x1_) + x3_).toNatClampNeg) = 0 then zl (x3_ + 1) (fun (v41 : Int32) => (r_dies_L129 n x1_ x2_ v41 σ)) else zl (zs σ 10 (((16 : Int32) * x1_) + x3_).toNatClampNeg (vp_nar .boolean (0 : Int32))) (fun (σ33 : zS) => (if zIn (((16 : Int32) * x3_) + x1_) 256 = true then zl (zs σ33 10 (((16 : Int32) * x3_) + x1_).toNatClampNeg (vp_nar .boolean (0 : Int32))) (fun (σ35 : zS) => (if zIn (((16 : Int32) * x2_) + x3_) 256 = true then zl (zs σ35 10 (((16 : Int32) * x2_) + x3_).toNatClampNeg (vp_nar .boolean (1 : Int32))) (fun (σ37 : zS) => (if zIn (((16 : Int32) * x3_) + x2_) 256 = true then zl (zs σ37 10 (((16 : Int32) * x3_) + x2_).toNatClampNeg (vp_nar .boolean (1 : Int32))) (fun (σ39 : zS) => zl (x3_ + 1) (fun (v40 : Int32) => (r_dies_L129 n x1_ x2_ v40 σ39))) else none)) else none)) else none))) else none)) = some r := hF
    refine Z_iload_n (i := 3) (pc' := 130) dX8_dies_129 rfl rfl rfl ?_
    refine Z_aload_n (i := 0) (pc' := 131) dX8_dies_130 rfl rfl rfl ?_
    refine Z_get (v := .int (σ 5 0)) (pc' := 134) 5 zinX8 rfl (by decide) lkX8_137 (mR_obj hG) rfl dX8_dies_131 rfl ?_
    refine Z_icmp_ge (tgt := 208) (pc' := 137) dX8_dies_134 (by decide) rfl (fun h30 => ?_) (fun h30 => ?_)
    · rw [if_pos h30] at hF
      cases hF
      exact Z_sub (vs' := [none, none, none, none]) (zSb_of _ _ trivial) hE
    · rw [if_neg h30] at hF
      refine Z_aload_n (i := 0) (pc' := 138) dX8_dies_137 rfl rfl rfl ?_
      refine Z_get (v := .ref (ad 10)) (pc' := 141) 10 zinX8 rfl (by decide) lkX8_34 (mR_obj hG) rfl dX8_dies_138 rfl ?_
      refine Z_bipush (v := 16) (pc' := 143) dX8_dies_141 (by decide) rfl ?_
      refine Z_iload_n (i := 1) (pc' := 144) dX8_dies_143 rfl rfl rfl ?_
      refine Z_imul (pc' := 145) dX8_dies_144 rfl ?_
      refine Z_iload_n (i := 3) (pc' := 146) dX8_dies_145 rfl rfl rfl ?_
      refine Z_iadd (pc' := 147) dX8_dies_146 rfl ?_
      obtain ⟨h31, hF⟩ := ck_of hF
      refine Z_zald (pc' := 148) (aR_10 hG) (zIn_in h31) dX8_dies_147 rfl ?_
      refine Z_if_ne (tgt := 154) (pc' := 151) dX8_dies_148 (by decide) rfl (fun h32 => ?_) (fun h32 => ?_)
      · rw [if_neg h32] at hF
        refine Z_aload_n (i := 0) (pc' := 155) dX8_dies_154 rfl rfl rfl ?_
        refine Z_get (v := .ref (ad 10)) (pc' := 158) 10 zinX8 rfl (by decide) lkX8_34 (mR_obj hG) rfl dX8_dies_155 rfl ?_
        refine Z_bipush (v := 16) (pc' := 160) dX8_dies_158 (by decide) rfl ?_
        refine Z_iload_n (i := 1) (pc' := 161) dX8_dies_160 rfl rfl rfl ?_
        refine Z_imul (pc' := 162) dX8_dies_161 rfl ?_
        refine Z_iload_n (i := 3) (pc' := 163) dX8_dies_162 rfl rfl rfl ?_
        refine Z_iadd (pc' := 164) dX8_dies_163 rfl ?_
        refine Z_iconst (v := 0) (pc' := 165) dX8_dies_164 (by decide) rfl ?_
        obtain ⟨σ33, hσ33, hF⟩ := zl_of hF
        refine Z_zast (pc' := 166) (aR_10 hG) (zIn_in h31) dX8_dies_165 rfl ?_
        refine Z_mem (sR_10 hG hσ33) ?_
        refine Z_aload_n (i := 0) (pc' := 167) dX8_dies_166 rfl rfl rfl ?_
        refine Z_get (v := .ref (ad 10)) (pc' := 170) 10 zinX8 rfl (by decide) lkX8_34 (mR_obj hG) rfl dX8_dies_167 rfl ?_
        refine Z_bipush (v := 16) (pc' := 172) dX8_dies_170 (by decide) rfl ?_
        refine Z_iload_n (i := 3) (pc' := 173) dX8_dies_172 rfl rfl rfl ?_
        refine Z_imul (pc' := 174) dX8_dies_173 rfl ?_
        refine Z_iload_n (i := 1) (pc' := 175) dX8_dies_174 rfl rfl rfl ?_
        refine Z_iadd (pc' := 176) dX8_dies_175 rfl ?_
        refine Z_iconst (v := 0) (pc' := 177) dX8_dies_176 (by decide) rfl ?_
        obtain ⟨h34, hF⟩ := ck_of hF
        obtain ⟨σ35, hσ35, hF⟩ := zl_of hF
        refine Z_zast (pc' := 178) (aR_10 hG) (zIn_in h34) dX8_dies_177 rfl ?_
        refine Z_mem (sR_10 hG hσ35) ?_
        refine Z_aload_n (i := 0) (pc' := 179) dX8_dies_178 rfl rfl rfl ?_
        refine Z_get (v := .ref (ad 10)) (pc' := 182) 10 zinX8 rfl (by decide) lkX8_34 (mR_obj hG) rfl dX8_dies_179 rfl ?_
        refine Z_bipush (v := 16) (pc' := 184) dX8_dies_182 (by decide) rfl ?_
        refine Z_iload_n (i := 2) (pc' := 185) dX8_dies_184 rfl rfl rfl ?_
        refine Z_imul (pc' := 186) dX8_dies_185 rfl ?_
        refine Z_iload_n (i := 3) (pc' := 187) dX8_dies_186 rfl rfl rfl ?_
        refine Z_iadd (pc' := 188) dX8_dies_187 rfl ?_
        refine Z_iconst (v := 1) (pc' := 189) dX8_dies_188 (by decide) rfl ?_
        obtain ⟨h36, hF⟩ := ck_of hF
        obtain ⟨σ37, hσ37, hF⟩ := zl_of hF
        refine Z_zast (pc' := 190) (aR_10 hG) (zIn_in h36) dX8_dies_189 rfl ?_
        refine Z_mem (sR_10 hG hσ37) ?_
        refine Z_aload_n (i := 0) (pc' := 191) dX8_dies_190 rfl rfl rfl ?_
        refine Z_get (v := .ref (ad 10)) (pc' := 194) 10 zinX8 rfl (by decide) lkX8_34 (mR_obj hG) rfl dX8_dies_191 rfl ?_
        refine Z_bipush (v := 16) (pc' := 196) dX8_dies_194 (by decide) rfl ?_
        refine Z_iload_n (i := 3) (pc' := 197) dX8_dies_196 rfl rfl rfl ?_
        refine Z_imul (pc' := 198) dX8_dies_197 rfl ?_
        refine Z_iload_n (i := 2) (pc' := 199) dX8_dies_198 rfl rfl rfl ?_
        refine Z_iadd (pc' := 200) dX8_dies_199 rfl ?_
        refine Z_iconst (v := 1) (pc' := 201) dX8_dies_200 (by decide) rfl ?_
        obtain ⟨h38, hF⟩ := ck_of hF
        obtain ⟨σ39, hσ39, hF⟩ := zl_of hF
        refine Z_zast (pc' := 202) (aR_10 hG) (zIn_in h38) dX8_dies_201 rfl ?_
        refine Z_mem (sR_10 hG hσ39) ?_
        obtain ⟨v40, hv40, hF⟩ := zl_of hF
        refine Z_iinc (i := 3) (v := v40) (vs' := [some (.ref (ad 42)), some (.int x1_), some (.int x2_), some (.int v40)]) (pc' := 205) dX8_dies_202 rfl (by rw [hv40]; rfl) (by decide) rfl rfl ?_
        refine Z_goto (tgt := 129) dX8_dies_205 (by decide) ?_
        exact Z_sub (vs' := [some (.ref (ad 42)), some (.int x1_), some (.int x2_), some (.int v40)]) (zSb_of _ _ ⟨rfl, ⟨rfl, ⟨rfl, ⟨rfl, trivial⟩⟩⟩⟩) (ih x1_ x2_ v40 σ39 _ hF hE)
      · rw [if_pos h32] at hF
        refine Z_goto (tgt := 202) dX8_dies_151 (by decide) ?_
        obtain ⟨v41, hv41, hF⟩ := zl_of hF
        refine Z_iinc (i := 3) (v := v41) (vs' := [some (.ref (ad 42)), some (.int x1_), some (.int x2_), some (.int v41)]) (pc' := 205) dX8_dies_202 rfl (by rw [hv41]; rfl) (by decide) rfl rfl ?_
        refine Z_goto (tgt := 129) dX8_dies_205 (by decide) ?_
        exact Z_sub (vs' := [some (.ref (ad 42)), some (.int x1_), some (.int x2_), some (.int v41)]) (zSb_of _ _ ⟨rfl, ⟨rfl, ⟨rfl, ⟨rfl, trivial⟩⟩⟩⟩) (ih x1_ x2_ v41 σ _ hF hE)
set_option maxHeartbeats 4000000 in
set_option maxRecDepth 100000 in
theorem qX8_dies (l : Launch) {ad dec : Nat → Nat} (hG : rG ad dec) {x1 : Int32} {x2 : Int32} {σ : zS} {w : Int32 × zS} (hF : r_dies x1 x2 σ = some w) : zMet l yX8_dies cX8_dies 4 (some .boolean) rmX8_dies [.ref (ad 42), .int x1, .int x2] (mR ad dec σ) (fun v M' => v = (some (.int w.1)) ∧ M' = (mR ad dec w.2)) := by
  refine zMet.ofZ (vs := [some (.ref (ad 42)), some (.int x1), some (.int x2), none]) (by decide) rfl (zCt_of _ ⟨rfl, ⟨rfl, ⟨rfl, trivial⟩⟩⟩) (Nat.le_of_ble_eq_true rfl) (fun D => ?_)
  unfold r_dies at hF
  refine Z_aload_n (i := 0) (pc' := 1) dX8_dies_0 rfl rfl rfl ?_
  refine Z_iload_n (i := 1) (pc' := 2) dX8_dies_1 rfl rfl rfl ?_
  obtain ⟨y1, hy1, hF⟩ := bd_of hF
  refine Z_callVi (As := [.int x1]) (st := []) (pc' := 5) (k' := 0) (n' := 0) (qX8_lives l hG hy1) ckX8_lives kvX8_lives mlX8_144 (mR_obj hG) rfl rfl rfl (Nat.le_of_ble_eq_true rfl) ⟨Nat.le_of_ble_eq_true rfl, Nat.le_of_ble_eq_true rfl⟩ ⟨Nat.le_of_ble_eq_true rfl, Nat.le_of_ble_eq_true rfl⟩ dX8_dies_2 rfl rfl rfl ?_
  refine Z_if_eq (tgt := 36) (pc' := 8) dX8_dies_5 (by decide) rfl (fun h2 => ?_) (fun h2 => ?_)
  · rw [if_pos h2] at hF
    refine Z_iconst (v := 0) (pc' := 37) dX8_dies_36 (by decide) rfl ?_
    cases hF
    exact Z_iret (ty := .boolean) (w := (0 : Int32)) dX8_dies_37 rfl rfl (Nat.le_refl _) (Nat.le_refl _) ⟨rfl, rfl⟩
  · rw [if_neg h2] at hF
    refine Z_aload_n (i := 0) (pc' := 9) dX8_dies_8 rfl rfl rfl ?_
    refine Z_iload_n (i := 2) (pc' := 10) dX8_dies_9 rfl rfl rfl ?_
    obtain ⟨y3, hy3, hF⟩ := bd_of hF
    refine Z_callVi (As := [.int x2]) (st := []) (pc' := 13) (k' := 0) (n' := 0) (qX8_lives l hG hy3) ckX8_lives kvX8_lives mlX8_144 (mR_obj hG) rfl rfl rfl (Nat.le_of_ble_eq_true rfl) ⟨Nat.le_of_ble_eq_true rfl, Nat.le_of_ble_eq_true rfl⟩ ⟨Nat.le_of_ble_eq_true rfl, Nat.le_of_ble_eq_true rfl⟩ dX8_dies_10 rfl rfl rfl ?_
    refine Z_if_eq (tgt := 36) (pc' := 16) dX8_dies_13 (by decide) rfl (fun h4 => ?_) (fun h4 => ?_)
    · rw [if_pos h4] at hF
      refine Z_iconst (v := 0) (pc' := 37) dX8_dies_36 (by decide) rfl ?_
      cases hF
      exact Z_iret (ty := .boolean) (w := (0 : Int32)) dX8_dies_37 rfl rfl (Nat.le_refl _) (Nat.le_refl _) ⟨rfl, rfl⟩
    · rw [if_neg h4] at hF
      refine Z_iload_n (i := 1) (pc' := 17) dX8_dies_16 rfl rfl rfl ?_
      refine Z_iload_n (i := 2) (pc' := 18) dX8_dies_17 rfl rfl rfl ?_
      refine Z_icmp_eq (tgt := 36) (pc' := 21) dX8_dies_18 (by decide) rfl (fun h5 => ?_) (fun h5 => ?_)
      · rw [if_pos h5] at hF
        refine Z_iconst (v := 0) (pc' := 37) dX8_dies_36 (by decide) rfl ?_
        cases hF
        exact Z_iret (ty := .boolean) (w := (0 : Int32)) dX8_dies_37 rfl rfl (Nat.le_refl _) (Nat.le_refl _) ⟨rfl, rfl⟩
      · rw [if_neg h5] at hF
        refine Z_aload_n (i := 0) (pc' := 22) dX8_dies_21 rfl rfl rfl ?_
        refine Z_get (v := .ref (ad 7)) (pc' := 25) 7 zinX8 rfl (by decide) lkX8_24 (mR_obj hG) rfl dX8_dies_22 rfl ?_
        refine Z_iload_n (i := 1) (pc' := 26) dX8_dies_25 rfl rfl rfl ?_
        obtain ⟨h6, hF⟩ := ck_of hF
        refine Z_iald (pc' := 27) (aR_7 hG) (zIn_in h6) dX8_dies_26 rfl ?_
        refine Z_aload_n (i := 0) (pc' := 28) dX8_dies_27 rfl rfl rfl ?_
        refine Z_get (v := .ref (ad 7)) (pc' := 31) 7 zinX8 rfl (by decide) lkX8_24 (mR_obj hG) rfl dX8_dies_28 rfl ?_
        refine Z_iload_n (i := 2) (pc' := 32) dX8_dies_31 rfl rfl rfl ?_
        obtain ⟨h7, hF⟩ := ck_of hF
        refine Z_iald (pc' := 33) (aR_7 hG) (zIn_in h7) dX8_dies_32 rfl ?_
        refine Z_icmp_eq (tgt := 38) (pc' := 36) dX8_dies_33 (by decide) rfl (fun h8 => ?_) (fun h8 => ?_)
        · rw [if_pos h8] at hF
          refine Z_aload_n (i := 0) (pc' := 39) dX8_dies_38 rfl rfl rfl ?_
          refine Z_get (v := .ref (ad 9)) (pc' := 42) 9 zinX8 rfl (by decide) lkX8_30 (mR_obj hG) rfl dX8_dies_39 rfl ?_
          refine Z_iload_n (i := 1) (pc' := 43) dX8_dies_42 rfl rfl rfl ?_
          refine Z_iconst (v := 0) (pc' := 44) dX8_dies_43 (by decide) rfl ?_
          obtain ⟨σ9, hσ9, hF⟩ := zl_of hF
          refine Z_zast (pc' := 45) (aR_9 hG) (zIn_in h6) dX8_dies_44 rfl ?_
          refine Z_mem (sR_9 hG hσ9) ?_
          refine Z_iconst (v := 0) (pc' := 46) dX8_dies_45 (by decide) rfl ?_
          refine Z_istore_nE (i := 3) (x' := (0 : Int32)) (vs' := [some (.ref (ad 42)), some (.int x1), some (.int x2), some (.int (0 : Int32))]) (pc' := 47) dX8_dies_46 rfl rfl (by decide) rfl rfl ?_
          obtain ⟨r16, hr16, hF⟩ := bd_of hF
          refine Z_sub (vs' := [some (.ref (ad 42)), some (.int x1), some (.int x2), some (.int (0 : Int32))]) (zSb_of _ _ ⟨rfl, ⟨rfl, ⟨rfl, ⟨rfl, trivial⟩⟩⟩⟩) (qX8_dies_L47 hG zF x1 x2 (0 : Int32) σ9 _ hr16 ?_)
          refine Z_iconst (v := 0) (pc' := 78) dX8_dies_77 (by decide) rfl ?_
          refine Z_istore_nE (i := 3) (x' := (0 : Int32)) (vs' := [some (.ref (ad 42)), some (.int x1), some (.int x2), some (.int (0 : Int32))]) (pc' := 79) dX8_dies_78 rfl rfl (by decide) rfl rfl ?_
          obtain ⟨r29, hr29, hF⟩ := bd_of hF
          refine Z_sub (vs' := [some (.ref (ad 42)), some (.int x1), some (.int x2), some (.int (0 : Int32))]) (zSb_of _ _ ⟨rfl, ⟨rfl, ⟨rfl, ⟨rfl, trivial⟩⟩⟩⟩) (qX8_dies_L79 hG zF x1 x2 (0 : Int32) r16 _ hr29 ?_)
          refine Z_iconst (v := 0) (pc' := 128) dX8_dies_127 (by decide) rfl ?_
          refine Z_istore_nE (i := 3) (x' := (0 : Int32)) (vs' := [some (.ref (ad 42)), some (.int x1), some (.int x2), some (.int (0 : Int32))]) (pc' := 129) dX8_dies_128 rfl rfl (by decide) rfl rfl ?_
          obtain ⟨r42, hr42, hF⟩ := bd_of hF
          refine Z_sub (vs' := [some (.ref (ad 42)), some (.int x1), some (.int x2), some (.int (0 : Int32))]) (zSb_of _ _ ⟨rfl, ⟨rfl, ⟨rfl, ⟨rfl, trivial⟩⟩⟩⟩) (qX8_dies_L129 hG zF x1 x2 (0 : Int32) r29 _ hr42 ?_)
          refine Z_iconst (v := 1) (pc' := 209) dX8_dies_208 (by decide) rfl ?_
          cases hF
          exact Z_iret (ty := .boolean) (w := (1 : Int32)) dX8_dies_209 rfl rfl (Nat.le_refl _) (Nat.le_refl _) ⟨rfl, rfl⟩
        · rw [if_neg h8] at hF
          refine Z_iconst (v := 0) (pc' := 37) dX8_dies_36 (by decide) rfl ?_
          cases hF
          exact Z_iret (ty := .boolean) (w := (0 : Int32)) dX8_dies_37 rfl rfl (Nat.le_refl _) (Nat.le_refl _) ⟨rfl, rfl⟩
abbrev rmX8_lost : Room := { frames := 1, cells := 0, slots := 0, locals := 24 }
def r_lost  (x1 : Int32) (σ : zS) : Option (Int32 × zS) := ((r_isTreasure x1 σ).bind (fun y1 => (if y1.1 = 0 then some ((0 : Int32), y1.2) else (if zIn x1 24 = true then (if (y1.2 14 (x1).toNatClampNeg) = (-1 : Int32) then some ((0 : Int32), y1.2) else (if zIn (y1.2 14 (x1).toNatClampNeg) 16 = true then ((r_tellsNews x1 (y1.2 7 (y1.2 14 (x1).toNatClampNeg).toNatClampNeg) (-2 : Int32) y1.2).bind (fun y6 => zl (zs y6.2 14 (x1).toNatClampNeg (-1 : Int32)) (fun (σ7 : zS) => some ((1 : Int32), σ7)))) else none)) else none))))
set_option maxHeartbeats 4000000 in
set_option maxRecDepth 100000 in
theorem qX8_lost (l : Launch) {ad dec : Nat → Nat} (hG : rG ad dec) {x1 : Int32} {σ : zS} {w : Int32 × zS} (hF : r_lost x1 σ = some w) : zMet l yX8_lost cX8_lost 2 (some .boolean) rmX8_lost [.ref (ad 42), .int x1] (mR ad dec σ) (fun v M' => v = (some (.int w.1)) ∧ M' = (mR ad dec w.2)) := by
  refine zMet.ofZ (vs := [some (.ref (ad 42)), some (.int x1)]) (by decide) rfl (zCt_of _ ⟨rfl, ⟨rfl, trivial⟩⟩) (Nat.le_of_ble_eq_true rfl) (fun D => ?_)
  unfold r_lost at hF
  refine Z_aload_n (i := 0) (pc' := 1) dX8_lost_0 rfl rfl rfl ?_
  refine Z_iload_n (i := 1) (pc' := 2) dX8_lost_1 rfl rfl rfl ?_
  obtain ⟨y1, hy1, hF⟩ := bd_of hF
  refine Z_callVi (As := [.int x1]) (st := []) (pc' := 5) (k' := 0) (n' := 0) (qX8_isTreasure l hG hy1) ckX8_isTreasure kvX8_isTreasure mlX8_164 (mR_obj hG) rfl rfl rfl (Nat.le_of_ble_eq_true rfl) ⟨Nat.le_of_ble_eq_true rfl, Nat.le_of_ble_eq_true rfl⟩ ⟨Nat.le_of_ble_eq_true rfl, Nat.le_of_ble_eq_true rfl⟩ dX8_lost_2 rfl rfl rfl ?_
  refine Z_if_eq (tgt := 18) (pc' := 8) dX8_lost_5 (by decide) rfl (fun h2 => ?_) (fun h2 => ?_)
  · rw [if_pos h2] at hF
    refine Z_iconst (v := 0) (pc' := 19) dX8_lost_18 (by decide) rfl ?_
    cases hF
    exact Z_iret (ty := .boolean) (w := (0 : Int32)) dX8_lost_19 rfl rfl (Nat.le_refl _) (Nat.le_refl _) ⟨rfl, rfl⟩
  · rw [if_neg h2] at hF
    refine Z_aload_n (i := 0) (pc' := 9) dX8_lost_8 rfl rfl rfl ?_
    refine Z_get (v := .ref (ad 14)) (pc' := 12) 14 zinX8 rfl (by decide) lkX8_43 (mR_obj hG) rfl dX8_lost_9 rfl ?_
    refine Z_iload_n (i := 1) (pc' := 13) dX8_lost_12 rfl rfl rfl ?_
    obtain ⟨h3, hF⟩ := ck_of hF
    refine Z_iald (pc' := 14) (aR_14 hG) (zIn_in h3) dX8_lost_13 rfl ?_
    refine Z_iconst (v := -1) (pc' := 15) dX8_lost_14 (by decide) rfl ?_
    refine Z_icmp_ne (tgt := 20) (pc' := 18) dX8_lost_15 (by decide) rfl (fun h4 => ?_) (fun h4 => ?_)
    · rw [if_neg h4] at hF
      refine Z_aload_n (i := 0) (pc' := 21) dX8_lost_20 rfl rfl rfl ?_
      refine Z_iload_n (i := 1) (pc' := 22) dX8_lost_21 rfl rfl rfl ?_
      refine Z_aload_n (i := 0) (pc' := 23) dX8_lost_22 rfl rfl rfl ?_
      refine Z_get (v := .ref (ad 7)) (pc' := 26) 7 zinX8 rfl (by decide) lkX8_24 (mR_obj hG) rfl dX8_lost_23 rfl ?_
      refine Z_aload_n (i := 0) (pc' := 27) dX8_lost_26 rfl rfl rfl ?_
      refine Z_get (v := .ref (ad 14)) (pc' := 30) 14 zinX8 rfl (by decide) lkX8_43 (mR_obj hG) rfl dX8_lost_27 rfl ?_
      refine Z_iload_n (i := 1) (pc' := 31) dX8_lost_30 rfl rfl rfl ?_
      refine Z_iald (pc' := 32) (aR_14 hG) (zIn_in h3) dX8_lost_31 rfl ?_
      obtain ⟨h5, hF⟩ := ck_of hF
      refine Z_iald (pc' := 33) (aR_7 hG) (zIn_in h5) dX8_lost_32 rfl ?_
      refine Z_bipush (v := -2) (pc' := 35) dX8_lost_33 (by decide) rfl ?_
      obtain ⟨y6, hy6, hF⟩ := bd_of hF
      refine Z_callVv (As := [.int x1, .int (y1.2 7 (y1.2 14 (x1).toNatClampNeg).toNatClampNeg), .int (-2 : Int32)]) (st := []) (pc' := 38) (k' := 0) (n' := 0) (qX8_tellsNews l hG hy6) ckX8_tellsNews kvX8_tellsNews mlX8_156 (mR_obj hG) rfl rfl rfl (Nat.le_of_ble_eq_true rfl) ⟨Nat.le_of_ble_eq_true rfl, Nat.le_of_ble_eq_true rfl⟩ ⟨Nat.le_of_ble_eq_true rfl, Nat.le_of_ble_eq_true rfl⟩ dX8_lost_35 rfl rfl rfl ?_
      refine Z_aload_n (i := 0) (pc' := 39) dX8_lost_38 rfl rfl rfl ?_
      refine Z_get (v := .ref (ad 14)) (pc' := 42) 14 zinX8 rfl (by decide) lkX8_43 (mR_obj hG) rfl dX8_lost_39 rfl ?_
      refine Z_iload_n (i := 1) (pc' := 43) dX8_lost_42 rfl rfl rfl ?_
      refine Z_iconst (v := -1) (pc' := 44) dX8_lost_43 (by decide) rfl ?_
      obtain ⟨σ7, hσ7, hF⟩ := zl_of hF
      refine Z_iast (pc' := 45) (aR_14 hG) (zIn_in h3) dX8_lost_44 rfl ?_
      refine Z_mem (sR_14 hG hσ7) ?_
      refine Z_iconst (v := 1) (pc' := 46) dX8_lost_45 (by decide) rfl ?_
      cases hF
      exact Z_iret (ty := .boolean) (w := (1 : Int32)) dX8_lost_46 rfl rfl (Nat.le_refl _) (Nat.le_refl _) ⟨rfl, rfl⟩
    · rw [if_pos h4] at hF
      refine Z_iconst (v := 0) (pc' := 19) dX8_lost_18 (by decide) rfl ?_
      cases hF
      exact Z_iret (ty := .boolean) (w := (0 : Int32)) dX8_lost_19 rfl rfl (Nat.le_refl _) (Nat.le_refl _) ⟨rfl, rfl⟩
