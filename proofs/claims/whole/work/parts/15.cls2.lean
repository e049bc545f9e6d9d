abbrev rmX7_isIsland : Room := { frames := 0, cells := 0, slots := 0, locals := 0 }
def c7_isIsland (c : Nat → Nat) (x1 : Int32) (σ : zS) : Option (Int32 × zS) := (if x1 < 0 then some ((0 : Int32), σ) else (if (σ 30 0) ≤ x1 then some ((0 : Int32), σ) else some ((1 : Int32), σ)))
set_option maxHeartbeats 4000000 in
set_option maxRecDepth 100000 in
theorem qX7_isIsland (l : Launch) {c ad dec : Nat → Nat} (hG : cG c ad dec) {x1 : Int32} {σ : zS} {w : Int32 × zS} (hF : c7_isIsland c x1 σ = some w) : zMet l yX7_isIsland cX7_isIsland 2 (some .boolean) rmX7_isIsland [.ref (ad 0), .int x1] (mC c ad dec σ) (fun v M' => v = (some (.int w.1)) ∧ M' = (mC c ad dec w.2)) := by
  refine zMet.ofZ (vs := [some (.ref (ad 0)), some (.int x1)]) (by decide) rfl (zCt_of _ ⟨rfl, ⟨rfl, trivial⟩⟩) (Nat.le_of_ble_eq_true rfl) (fun D => ?_)
  unfold c7_isIsland at hF
  refine Z_iload_n (i := 1) (pc' := 1) dX7_isIsland_0 rfl rfl rfl ?_
  refine Z_if_lt (tgt := 16) (pc' := 4) dX7_isIsland_1 (by decide) rfl (fun h1 => ?_) (fun h1 => ?_)
  · rw [if_pos h1] at hF
    refine Z_iconst (v := 0) (pc' := 17) dX7_isIsland_16 (by decide) rfl ?_
    cases hF
    exact Z_iret (ty := .boolean) (w := (0 : Int32)) dX7_isIsland_17 rfl rfl (Nat.le_refl _) (Nat.le_refl _) ⟨rfl, rfl⟩
  · rw [if_neg h1] at hF
    refine Z_iload_n (i := 1) (pc' := 5) dX7_isIsland_4 rfl rfl rfl ?_
    refine Z_aload_n (i := 0) (pc' := 6) dX7_isIsland_5 rfl rfl rfl ?_
    refine Z_get (v := .int (σ 30 0)) (pc' := 9) 7 zinX7 rfl (by decide) lkX7_53 (eC_0 hG) rfl dX7_isIsland_6 rfl ?_
    refine Z_icmp_ge (tgt := 16) (pc' := 12) dX7_isIsland_9 (by decide) rfl (fun h2 => ?_) (fun h2 => ?_)
    · rw [if_pos h2] at hF
      refine Z_iconst (v := 0) (pc' := 17) dX7_isIsland_16 (by decide) rfl ?_
      cases hF
      exact Z_iret (ty := .boolean) (w := (0 : Int32)) dX7_isIsland_17 rfl rfl (Nat.le_refl _) (Nat.le_refl _) ⟨rfl, rfl⟩
    · rw [if_neg h2] at hF
      refine Z_iconst (v := 1) (pc' := 13) dX7_isIsland_12 (by decide) rfl ?_
      refine Z_goto (tgt := 17) dX7_isIsland_13 (by decide) ?_
      cases hF
      exact Z_iret (ty := .boolean) (w := (1 : Int32)) dX7_isIsland_17 rfl rfl (Nat.le_refl _) (Nat.le_refl _) ⟨rfl, rfl⟩
abbrev rmX7_anyMan : Room := { frames := 0, cells := 0, slots := 0, locals := 0 }
def c7_anyMan (c : Nat → Nat) (x1 : Int32) (σ : zS) : Option (Option Nat × zS) := (if x1 < 0 then some (none, σ) else (if (σ 31 0) ≤ x1 then some (none, σ) else (if zIn x1 16 = true then zl (zo (c 3) x1) (fun (o4 : Option Nat) => some (o4, σ)) else none)))
set_option maxHeartbeats 4000000 in
set_option maxRecDepth 100000 in
theorem qX7_anyMan (l : Launch) {c ad dec : Nat → Nat} (hG : cG c ad dec) {x1 : Int32} {σ : zS} {w : Option Nat × zS} (hF : c7_anyMan c x1 σ = some w) : zMet l yX7_anyMan cX7_anyMan 2 (some (.object "GiftRing$Man")) rmX7_anyMan [.ref (ad 0), .int x1] (mC c ad dec σ) (fun v M' => v = (some (rv ad 1 w.1)) ∧ M' = (mC c ad dec w.2)) := by
  refine zMet.ofZ (vs := [some (.ref (ad 0)), some (.int x1)]) (by decide) rfl (zCt_of _ ⟨rfl, ⟨rfl, trivial⟩⟩) (Nat.le_of_ble_eq_true rfl) (fun D => ?_)
  unfold c7_anyMan at hF
  refine Z_iload_n (i := 1) (pc' := 1) dX7_anyMan_0 rfl rfl rfl ?_
  refine Z_if_lt (tgt := 21) (pc' := 4) dX7_anyMan_1 (by decide) rfl (fun h1 => ?_) (fun h1 => ?_)
  · rw [if_pos h1] at hF
    refine Z_null (pc' := 22) dX7_anyMan_21 rfl ?_
    cases hF
    exact Z_aret dX7_anyMan_22 rfl (Or.inl ⟨_, rfl⟩) (rv_or ad 1 none) (Nat.le_refl _) (Nat.le_refl _) ⟨rfl, rfl⟩
  · rw [if_neg h1] at hF
    refine Z_iload_n (i := 1) (pc' := 5) dX7_anyMan_4 rfl rfl rfl ?_
    refine Z_aload_n (i := 0) (pc' := 6) dX7_anyMan_5 rfl rfl rfl ?_
    refine Z_get (v := .int (σ 31 0)) (pc' := 9) 8 zinX7 rfl (by decide) lkX7_57 (eC_0 hG) rfl dX7_anyMan_6 rfl ?_
    refine Z_icmp_ge (tgt := 21) (pc' := 12) dX7_anyMan_9 (by decide) rfl (fun h2 => ?_) (fun h2 => ?_)
    · rw [if_pos h2] at hF
      refine Z_null (pc' := 22) dX7_anyMan_21 rfl ?_
      cases hF
      exact Z_aret dX7_anyMan_22 rfl (Or.inl ⟨_, rfl⟩) (rv_or ad 1 none) (Nat.le_refl _) (Nat.le_refl _) ⟨rfl, rfl⟩
    · rw [if_neg h2] at hF
      refine Z_aload_n (i := 0) (pc' := 13) dX7_anyMan_12 rfl rfl rfl ?_
      refine Z_get (v := .ref (ad 48)) (pc' := 16) 2 zinX7 rfl (by decide) lkX7_25 (eC_0 hG) rfl dX7_anyMan_13 rfl ?_
      refine Z_iload_n (i := 1) (pc' := 17) dX7_anyMan_16 rfl rfl rfl ?_
      obtain ⟨h3, hF⟩ := ck_of hF
      obtain ⟨o4, ho4, hF⟩ := zl_of hF
      refine Z_aaldC (pc' := 18) (o := o4) (eC_6 hG) (zIn_in h3) ho4 dX7_anyMan_17 rfl ?_
      refine Z_goto (tgt := 22) dX7_anyMan_18 (by decide) ?_
      cases hF
      exact Z_aret dX7_anyMan_22 rfl (Or.inl ⟨_, rfl⟩) (rv_or ad 1 o4) (Nat.le_refl _) (Nat.le_refl _) ⟨rfl, rfl⟩
abbrev rmX7_livingMan : Room := { frames := 1, cells := 0, slots := 0, locals := 21 }
def c7_livingMan (c : Nat → Nat) (x1 : Int32) (σ : zS) : Option (Option Nat × zS) := ((c7_anyMan c x1 σ).bind (fun y1 => zl y1.1 (fun (o2 : Option Nat) => (zopt o2 (some (none, y1.2)) (fun (i3 : Nat) => (if i3 < c 0 then (if (y1.2 41 i3) = 0 then some (none, y1.2) else some ((some i3), y1.2)) else none))))))
set_option maxHeartbeats 4000000 in
set_option maxRecDepth 100000 in
theorem qX7_livingMan (l : Launch) {c ad dec : Nat → Nat} (hG : cG c ad dec) {x1 : Int32} {σ : zS} {w : Option Nat × zS} (hF : c7_livingMan c x1 σ = some w) : zMet l yX7_livingMan cX7_livingMan 3 (some (.object "GiftRing$Man")) rmX7_livingMan [.ref (ad 0), .int x1] (mC c ad dec σ) (fun v M' => v = (some (rv ad 1 w.1)) ∧ M' = (mC c ad dec w.2)) := by
  refine zMet.ofZ (vs := [some (.ref (ad 0)), some (.int x1), none]) (by decide) rfl (zCt_of _ ⟨rfl, ⟨rfl, trivial⟩⟩) (Nat.le_of_ble_eq_true rfl) (fun D => ?_)
  unfold c7_livingMan at hF
  refine Z_aload_n (i := 0) (pc' := 1) dX7_livingMan_0 rfl rfl rfl ?_
  refine Z_iload_n (i := 1) (pc' := 2) dX7_livingMan_1 rfl rfl rfl ?_
  obtain ⟨y1, hy1, hF⟩ := bd_of hF
  obtain ⟨o2, ho2, hF⟩ := zl_of hF
  refine Z_callVr (kd := 1) (ad := ad) (o := o2) (As := [.int x1]) (st := []) (pc' := 5) (k' := 0) (n' := 0) ho2 (qX7_anyMan l hG hy1) ckX7_anyMan kvX7_anyMan mlX7_106 (eC_0 hG) rfl rfl rfl (Nat.le_of_ble_eq_true rfl) ⟨Nat.le_of_ble_eq_true rfl, Nat.le_of_ble_eq_true rfl⟩ ⟨Nat.le_of_ble_eq_true rfl, Nat.le_of_ble_eq_true rfl⟩ dX7_livingMan_2 rfl rfl rfl ?_
  refine Z_astore_nR (v := rv ad 1 o2) (i := 2) (vs' := [some (.ref (ad 0)), some (.int x1), some (rv ad 1 o2)]) (pc' := 6) (rv_or _ _ _) dX7_livingMan_5 rfl (by decide) rfl rfl ?_
  refine Z_aload_nR (v := rv ad 1 o2) (i := 2) (pc' := 7) (rv_or _ _ _) dX7_livingMan_6 rfl rfl rfl ?_
  cases o2 with
  | none =>
    replace hF := zopt_n hF
    refine Z_ifnullN (tgt := 21) dX7_livingMan_7 (by decide) ?_
    refine Z_null (pc' := 22) dX7_livingMan_21 rfl ?_
    cases hF
    exact Z_aret dX7_livingMan_22 rfl (Or.inl ⟨_, rfl⟩) (rv_or ad 1 none) (Nat.le_refl _) (Nat.le_refl _) ⟨rfl, rfl⟩
  | some i3 =>
    replace hF := zopt_s hF
    refine Z_ifnull (pc' := 10) dX7_livingMan_7 rfl ?_
    refine Z_aload_n (i := 2) (pc' := 11) dX7_livingMan_10 rfl rfl rfl ?_
    obtain ⟨h4, hF⟩ := ck_of hF
    refine Z_get (v := .int (y1.2 41 i3)) (pc' := 14) 1 zinX3 rfl (by decide) lkX7_109 (eC_man hG h4) rfl dX7_livingMan_11 rfl ?_
    refine Z_if_eq (tgt := 21) (pc' := 17) dX7_livingMan_14 (by decide) rfl (fun h5 => ?_) (fun h5 => ?_)
    · rw [if_pos h5] at hF
      refine Z_null (pc' := 22) dX7_livingMan_21 rfl ?_
      cases hF
      exact Z_aret dX7_livingMan_22 rfl (Or.inl ⟨_, rfl⟩) (rv_or ad 1 none) (Nat.le_refl _) (Nat.le_refl _) ⟨rfl, rfl⟩
    · rw [if_neg h5] at hF
      refine Z_aload_n (i := 2) (pc' := 18) dX7_livingMan_17 rfl rfl rfl ?_
      refine Z_goto (tgt := 22) dX7_livingMan_18 (by decide) ?_
      cases hF
      exact Z_aret dX7_livingMan_22 rfl (Or.inl ⟨_, rfl⟩) (rv_or ad 1 (some i3)) (Nat.le_refl _) (Nat.le_refl _) ⟨rfl, rfl⟩
abbrev rmX7_anyTreasure : Room := { frames := 0, cells := 0, slots := 0, locals := 0 }
def c7_anyTreasure (c : Nat → Nat) (x1 : Int32) (σ : zS) : Option (Option Nat × zS) := (if x1 < 0 then some (none, σ) else (if (σ 32 0) ≤ x1 then some (none, σ) else (if zIn x1 24 = true then zl (zo (c 4) x1) (fun (o4 : Option Nat) => some (o4, σ)) else none)))
set_option maxHeartbeats 4000000 in
set_option maxRecDepth 100000 in
theorem qX7_anyTreasure (l : Launch) {c ad dec : Nat → Nat} (hG : cG c ad dec) {x1 : Int32} {σ : zS} {w : Option Nat × zS} (hF : c7_anyTreasure c x1 σ = some w) : zMet l yX7_anyTreasure cX7_anyTreasure 2 (some (.object "GiftRing$Treasure")) rmX7_anyTreasure [.ref (ad 0), .int x1] (mC c ad dec σ) (fun v M' => v = (some (rv ad 2 w.1)) ∧ M' = (mC c ad dec w.2)) := by
  refine zMet.ofZ (vs := [some (.ref (ad 0)), some (.int x1)]) (by decide) rfl (zCt_of _ ⟨rfl, ⟨rfl, trivial⟩⟩) (Nat.le_of_ble_eq_true rfl) (fun D => ?_)
  unfold c7_anyTreasure at hF
  refine Z_iload_n (i := 1) (pc' := 1) dX7_anyTreasure_0 rfl rfl rfl ?_
  refine Z_if_lt (tgt := 21) (pc' := 4) dX7_anyTreasure_1 (by decide) rfl (fun h1 => ?_) (fun h1 => ?_)
  · rw [if_pos h1] at hF
    refine Z_null (pc' := 22) dX7_anyTreasure_21 rfl ?_
    cases hF
    exact Z_aret dX7_anyTreasure_22 rfl (Or.inl ⟨_, rfl⟩) (rv_or ad 2 none) (Nat.le_refl _) (Nat.le_refl _) ⟨rfl, rfl⟩
  · rw [if_neg h1] at hF
    refine Z_iload_n (i := 1) (pc' := 5) dX7_anyTreasure_4 rfl rfl rfl ?_
    refine Z_aload_n (i := 0) (pc' := 6) dX7_anyTreasure_5 rfl rfl rfl ?_
    refine Z_get (v := .int (σ 32 0)) (pc' := 9) 9 zinX7 rfl (by decide) lkX7_60 (eC_0 hG) rfl dX7_anyTreasure_6 rfl ?_
    refine Z_icmp_ge (tgt := 21) (pc' := 12) dX7_anyTreasure_9 (by decide) rfl (fun h2 => ?_) (fun h2 => ?_)
    · rw [if_pos h2] at hF
      refine Z_null (pc' := 22) dX7_anyTreasure_21 rfl ?_
      cases hF
      exact Z_aret dX7_anyTreasure_22 rfl (Or.inl ⟨_, rfl⟩) (rv_or ad 2 none) (Nat.le_refl _) (Nat.le_refl _) ⟨rfl, rfl⟩
    · rw [if_neg h2] at hF
      refine Z_aload_n (i := 0) (pc' := 13) dX7_anyTreasure_12 rfl rfl rfl ?_
      refine Z_get (v := .ref (ad 56)) (pc' := 16) 3 zinX7 rfl (by decide) lkX7_31 (eC_0 hG) rfl dX7_anyTreasure_13 rfl ?_
      refine Z_iload_n (i := 1) (pc' := 17) dX7_anyTreasure_16 rfl rfl rfl ?_
      obtain ⟨h3, hF⟩ := ck_of hF
      obtain ⟨o4, ho4, hF⟩ := zl_of hF
      refine Z_aaldC (pc' := 18) (o := o4) (eC_7 hG) (zIn_in h3) ho4 dX7_anyTreasure_17 rfl ?_
      refine Z_goto (tgt := 22) dX7_anyTreasure_18 (by decide) ?_
      cases hF
      exact Z_aret dX7_anyTreasure_22 rfl (Or.inl ⟨_, rfl⟩) (rv_or ad 2 o4) (Nat.le_refl _) (Nat.le_refl _) ⟨rfl, rfl⟩
abbrev rmX7_stepsBetween : Room := { frames := 1, cells := 0, slots := 0, locals := 21 }
def c7_stepsBetween (c : Nat → Nat) (x1 : Int32) (x2 : Int32) (σ : zS) : Option (Int32 × zS) := zl (if 0 ≤ (x1 - x2) then (x1 - x2) else 0 - (x1 - x2)) (fun (v1 : Int32) => some ((if ((σ 30 0) - v1) < v1 then ((σ 30 0) - v1) else v1), σ))
set_option maxHeartbeats 4000000 in
set_option maxRecDepth 100000 in
theorem qX7_stepsBetween (l : Launch) {c ad dec : Nat → Nat} (hG : cG c ad dec) {x1 : Int32} {x2 : Int32} {σ : zS} {w : Int32 × zS} (hF : c7_stepsBetween c x1 x2 σ = some w) : zMet l yX7_stepsBetween cX7_stepsBetween 4 (some .int) rmX7_stepsBetween [.ref (ad 0), .int x1, .int x2] (mC c ad dec σ) (fun v M' => v = (some (.int w.1)) ∧ M' = (mC c ad dec w.2)) := by
  refine zMet.ofZ (vs := [some (.ref (ad 0)), some (.int x1), some (.int x2), none]) (by decide) rfl (zCt_of _ ⟨rfl, ⟨rfl, ⟨rfl, trivial⟩⟩⟩) (Nat.le_of_ble_eq_true rfl) (fun D => ?_)
  unfold c7_stepsBetween at hF
  refine Z_iload_n (i := 1) (pc' := 1) dX7_stepsBetween_0 rfl rfl rfl ?_
  refine Z_iload_n (i := 2) (pc' := 2) dX7_stepsBetween_1 rfl rfl rfl ?_
  refine Z_isub (pc' := 3) dX7_stepsBetween_2 rfl ?_
  refine Z_mabs (pc' := 6) mlX7_113 (Nat.le_of_ble_eq_true rfl) (Nat.le_of_ble_eq_true rfl) (Nat.zero_le _) (Nat.zero_le _) dX7_stepsBetween_3 rfl ?_
  obtain ⟨v1, hv1, hF⟩ := zl_of hF
  refine Z_istore_nE (i := 3) (x' := v1) (vs' := [some (.ref (ad 0)), some (.int x1), some (.int x2), some (.int v1)]) (pc' := 7) dX7_stepsBetween_6 rfl hv1 (by decide) rfl rfl ?_
  refine Z_iload_n (i := 3) (pc' := 8) dX7_stepsBetween_7 rfl rfl rfl ?_
  refine Z_aload_n (i := 0) (pc' := 9) dX7_stepsBetween_8 rfl rfl rfl ?_
  refine Z_get (v := .int (σ 30 0)) (pc' := 12) 7 zinX7 rfl (by decide) lkX7_53 (eC_0 hG) rfl dX7_stepsBetween_9 rfl ?_
  refine Z_iload_n (i := 3) (pc' := 13) dX7_stepsBetween_12 rfl rfl rfl ?_
  refine Z_isub (pc' := 14) dX7_stepsBetween_13 rfl ?_
  refine Z_mmin (pc' := 17) mlX7_119 (Nat.le_of_ble_eq_true rfl) (Nat.le_of_ble_eq_true rfl) (Nat.zero_le _) (Nat.zero_le _) dX7_stepsBetween_14 rfl ?_
  cases hF
  exact Z_iret (ty := .int) (w := (if ((σ 30 0) - v1) < v1 then ((σ 30 0) - v1) else v1)) dX7_stepsBetween_17 rfl rfl (Nat.le_refl _) (Nat.le_refl _) ⟨rfl, rfl⟩
abbrev rmX7_feed : Room := { frames := 1, cells := 0, slots := 0, locals := 22 }
def c7_feed (c : Nat → Nat) (x1 : Int32) (x2 : Int32) (x3 : Int32) (x4 : Int32) (x5 : Int32) (σ : zS) : Option (Int32 × zS) := (if ((σ 34 0) + (20 : Int32)) ≤ (40 : Int32) then ((c5_append c x1 σ).bind (fun y2 => ((c5_append c x2 y2.2).bind (fun y3 => ((c5_append c x3 y3.2).bind (fun y4 => ((c5_append c x4 y4.2).bind (fun y5 => ((c5_append c x5 y5.2).bind (fun y6 => some ((y6.2 34 0), y6.2))))))))))) else some ((-1 : Int32), σ))
set_option maxHeartbeats 4000000 in
set_option maxRecDepth 100000 in
theorem qX7_feed (l : Launch) {c ad dec : Nat → Nat} (hG : cG c ad dec) {x1 : Int32} {x2 : Int32} {x3 : Int32} {x4 : Int32} {x5 : Int32} {σ : zS} {w : Int32 × zS} (hF : c7_feed c x1 x2 x3 x4 x5 σ = some w) : zMet l yX7_feed cX7_feed 6 (some .int) rmX7_feed [.ref (ad 0), .int x1, .int x2, .int x3, .int x4, .int x5] (mC c ad dec σ) (fun v M' => v = (some (.int w.1)) ∧ M' = (mC c ad dec w.2)) := by
  refine zMet.ofZ (vs := [some (.ref (ad 0)), some (.int x1), some (.int x2), some (.int x3), some (.int x4), some (.int x5)]) (by decide) rfl (zCt_of _ ⟨rfl, ⟨rfl, ⟨rfl, ⟨rfl, ⟨rfl, ⟨rfl, trivial⟩⟩⟩⟩⟩⟩) (Nat.le_of_ble_eq_true rfl) (fun D => ?_)
  unfold c7_feed at hF
  refine Z_aload_n (i := 0) (pc' := 1) dX7_feed_0 rfl rfl rfl ?_
  refine Z_get (v := .ref (ad 8)) (pc' := 4) 0 zinX7 rfl (by decide) lkX7_10 (eC_0 hG) rfl dX7_feed_1 rfl ?_
  refine Z_get (v := .int (σ 34 0)) (pc' := 7) 1 zinX5 rfl (by decide) lkX7_66 (eC_1 hG) rfl dX7_feed_4 rfl ?_
  refine Z_bipush (v := 20) (pc' := 9) dX7_feed_7 (by decide) rfl ?_
  refine Z_iadd (pc' := 10) dX7_feed_9 rfl ?_
  refine Z_bipush (v := 40) (pc' := 12) dX7_feed_10 (by decide) rfl ?_
  refine Z_icmp_le (tgt := 17) (pc' := 15) dX7_feed_12 (by decide) rfl (fun h1 => ?_) (fun h1 => ?_)
  · rw [if_pos h1] at hF
    refine Z_aload_n (i := 0) (pc' := 18) dX7_feed_17 rfl rfl rfl ?_
    refine Z_get (v := .ref (ad 8)) (pc' := 21) 0 zinX7 rfl (by decide) lkX7_10 (eC_0 hG) rfl dX7_feed_18 rfl ?_
    refine Z_iload_n (i := 1) (pc' := 22) dX7_feed_21 rfl rfl rfl ?_
    obtain ⟨y2, hy2, hF⟩ := bd_of hF
    refine Z_callVv (As := [.int x1]) (st := []) (pc' := 25) (k' := 0) (n' := 0) (qX5_append l hG hy2) ckX5_append kvX5_append mlX7_69 (eC_1 hG) rfl rfl rfl (Nat.le_of_ble_eq_true rfl) ⟨Nat.le_of_ble_eq_true rfl, Nat.le_of_ble_eq_true rfl⟩ ⟨Nat.le_of_ble_eq_true rfl, Nat.le_of_ble_eq_true rfl⟩ dX7_feed_22 rfl rfl rfl ?_
    refine Z_aload_n (i := 0) (pc' := 26) dX7_feed_25 rfl rfl rfl ?_
    refine Z_get (v := .ref (ad 8)) (pc' := 29) 0 zinX7 rfl (by decide) lkX7_10 (eC_0 hG) rfl dX7_feed_26 rfl ?_
    refine Z_iload_n (i := 2) (pc' := 30) dX7_feed_29 rfl rfl rfl ?_
    obtain ⟨y3, hy3, hF⟩ := bd_of hF
    refine Z_callVv (As := [.int x2]) (st := []) (pc' := 33) (k' := 0) (n' := 0) (qX5_append l hG hy3) ckX5_append kvX5_append mlX7_69 (eC_1 hG) rfl rfl rfl (Nat.le_of_ble_eq_true rfl) ⟨Nat.le_of_ble_eq_true rfl, Nat.le_of_ble_eq_true rfl⟩ ⟨Nat.le_of_ble_eq_true rfl, Nat.le_of_ble_eq_true rfl⟩ dX7_feed_30 rfl rfl rfl ?_
    refine Z_aload_n (i := 0) (pc' := 34) dX7_feed_33 rfl rfl rfl ?_
    refine Z_get (v := .ref (ad 8)) (pc' := 37) 0 zinX7 rfl (by decide) lkX7_10 (eC_0 hG) rfl dX7_feed_34 rfl ?_
    refine Z_iload_n (i := 3) (pc' := 38) dX7_feed_37 rfl rfl rfl ?_
    obtain ⟨y4, hy4, hF⟩ := bd_of hF
    refine Z_callVv (As := [.int x3]) (st := []) (pc' := 41) (k' := 0) (n' := 0) (qX5_append l hG hy4) ckX5_append kvX5_append mlX7_69 (eC_1 hG) rfl rfl rfl (Nat.le_of_ble_eq_true rfl) ⟨Nat.le_of_ble_eq_true rfl, Nat.le_of_ble_eq_true rfl⟩ ⟨Nat.le_of_ble_eq_true rfl, Nat.le_of_ble_eq_true rfl⟩ dX7_feed_38 rfl rfl rfl ?_
    refine Z_aload_n (i := 0) (pc' := 42) dX7_feed_41 rfl rfl rfl ?_
    refine Z_get (v := .ref (ad 8)) (pc' := 45) 0 zinX7 rfl (by decide) lkX7_10 (eC_0 hG) rfl dX7_feed_42 rfl ?_
    refine Z_iload (i := 4) (pc' := 47) dX7_feed_45 rfl rfl ?_
    obtain ⟨y5, hy5, hF⟩ := bd_of hF
    refine Z_callVv (As := [.int x4]) (st := []) (pc' := 50) (k' := 0) (n' := 0) (qX5_append l hG hy5) ckX5_append kvX5_append mlX7_69 (eC_1 hG) rfl rfl rfl (Nat.le_of_ble_eq_true rfl) ⟨Nat.le_of_ble_eq_true rfl, Nat.le_of_ble_eq_true rfl⟩ ⟨Nat.le_of_ble_eq_true rfl, Nat.le_of_ble_eq_true rfl⟩ dX7_feed_47 rfl rfl rfl ?_
    refine Z_aload_n (i := 0) (pc' := 51) dX7_feed_50 rfl rfl rfl ?_
    refine Z_get (v := .ref (ad 8)) (pc' := 54) 0 zinX7 rfl (by decide) lkX7_10 (eC_0 hG) rfl dX7_feed_51 rfl ?_
    refine Z_iload (i := 5) (pc' := 56) dX7_feed_54 rfl rfl ?_
    obtain ⟨y6, hy6, hF⟩ := bd_of hF
    refine Z_callVv (As := [.int x5]) (st := []) (pc' := 59) (k' := 0) (n' := 0) (qX5_append l hG hy6) ckX5_append kvX5_append mlX7_69 (eC_1 hG) rfl rfl rfl (Nat.le_of_ble_eq_true rfl) ⟨Nat.le_of_ble_eq_true rfl, Nat.le_of_ble_eq_true rfl⟩ ⟨Nat.le_of_ble_eq_true rfl, Nat.le_of_ble_eq_true rfl⟩ dX7_feed_56 rfl rfl rfl ?_
    refine Z_aload_n (i := 0) (pc' := 60) dX7_feed_59 rfl rfl rfl ?_
    refine Z_get (v := .ref (ad 8)) (pc' := 63) 0 zinX7 rfl (by decide) lkX7_10 (eC_0 hG) rfl dX7_feed_60 rfl ?_
    refine Z_get (v := .int (y6.2 34 0)) (pc' := 66) 1 zinX5 rfl (by decide) lkX7_66 (eC_1 hG) rfl dX7_feed_63 rfl ?_
    cases hF
    exact Z_iret (ty := .int) (w := (y6.2 34 0)) dX7_feed_66 rfl rfl (Nat.le_refl _) (Nat.le_refl _) ⟨rfl, rfl⟩
  · rw [if_neg h1] at hF
    refine Z_iconst (v := -1) (pc' := 16) dX7_feed_15 (by decide) rfl ?_
    cases hF
    exact Z_iret (ty := .int) (w := (-1 : Int32)) dX7_feed_16 rfl rfl (Nat.le_refl _) (Nat.le_refl _) ⟨rfl, rfl⟩
abbrev rmX7_islands : Room := { frames := 0, cells := 0, slots := 0, locals := 0 }
def c7_islands (c : Nat → Nat) (x1 : Int32) (σ : zS) : Option (Int32 × zS) := (if x1 < (3 : Int32) then some ((0 : Int32), σ) else (if (8 : Int32) < x1 then some ((0 : Int32), σ) else (if (σ 31 0) ≤ 0 then zl (zs σ 30 0 x1) (fun (σ4 : zS) => some ((1 : Int32), σ4)) else some ((0 : Int32), σ))))
set_option maxHeartbeats 4000000 in
set_option maxRecDepth 100000 in
theorem qX7_islands (l : Launch) {c ad dec : Nat → Nat} (hG : cG c ad dec) {x1 : Int32} {σ : zS} {w : Int32 × zS} (hF : c7_islands c x1 σ = some w) : zMet l yX7_islands cX7_islands 2 (some .boolean) rmX7_islands [.ref (ad 0), .int x1] (mC c ad dec σ) (fun v M' => v = (some (.int w.1)) ∧ M' = (mC c ad dec w.2)) := by
  refine zMet.ofZ (vs := [some (.ref (ad 0)), some (.int x1)]) (by decide) rfl (zCt_of _ ⟨rfl, ⟨rfl, trivial⟩⟩) (Nat.le_of_ble_eq_true rfl) (fun D => ?_)
  unfold c7_islands at hF
  refine Z_iload_n (i := 1) (pc' := 1) dX7_islands_0 rfl rfl rfl ?_
  refine Z_iconst (v := 3) (pc' := 2) dX7_islands_1 (by decide) rfl ?_
  refine Z_icmp_lt (tgt := 18) (pc' := 5) dX7_islands_2 (by decide) rfl (fun h1 => ?_) (fun h1 => ?_)
  · rw [if_pos h1] at hF
    refine Z_iconst (v := 0) (pc' := 19) dX7_islands_18 (by decide) rfl ?_
    cases hF
    exact Z_iret (ty := .boolean) (w := (0 : Int32)) dX7_islands_19 rfl rfl (Nat.le_refl _) (Nat.le_refl _) ⟨rfl, rfl⟩
  · rw [if_neg h1] at hF
    refine Z_iload_n (i := 1) (pc' := 6) dX7_islands_5 rfl rfl rfl ?_
    refine Z_bipush (v := 8) (pc' := 8) dX7_islands_6 (by decide) rfl ?_
    refine Z_icmp_gt (tgt := 18) (pc' := 11) dX7_islands_8 (by decide) rfl (fun h2 => ?_) (fun h2 => ?_)
    · rw [if_pos h2] at hF
      refine Z_iconst (v := 0) (pc' := 19) dX7_islands_18 (by decide) rfl ?_
      cases hF
      exact Z_iret (ty := .boolean) (w := (0 : Int32)) dX7_islands_19 rfl rfl (Nat.le_refl _) (Nat.le_refl _) ⟨rfl, rfl⟩
    · rw [if_neg h2] at hF
      refine Z_aload_n (i := 0) (pc' := 12) dX7_islands_11 rfl rfl rfl ?_
      refine Z_get (v := .int (σ 31 0)) (pc' := 15) 8 zinX7 rfl (by decide) lkX7_57 (eC_0 hG) rfl dX7_islands_12 rfl ?_
      refine Z_if_le (tgt := 20) (pc' := 18) dX7_islands_15 (by decide) rfl (fun h3 => ?_) (fun h3 => ?_)
      · rw [if_pos h3] at hF
        refine Z_aload_n (i := 0) (pc' := 21) dX7_islands_20 rfl rfl rfl ?_
        refine Z_iload_n (i := 1) (pc' := 22) dX7_islands_21 rfl rfl rfl ?_
        obtain ⟨σ4, hσ4, hF⟩ := zl_of hF
        refine Z_put (pc' := 25) 7 zinX7 tyX7_ok nmX7 rfl (by decide) lkX7_53 rfl (eC_0 hG) rfl rfl rfl (Nat.le_of_ble_eq_true rfl) rfl dX7_islands_22 rfl ?_
        refine Z_mem (pC_30 hG hσ4) ?_
        refine Z_iconst (v := 1) (pc' := 26) dX7_islands_25 (by decide) rfl ?_
        cases hF
        exact Z_iret (ty := .boolean) (w := (1 : Int32)) dX7_islands_26 rfl rfl (Nat.le_refl _) (Nat.le_refl _) ⟨rfl, rfl⟩
      · rw [if_neg h3] at hF
        refine Z_iconst (v := 0) (pc' := 19) dX7_islands_18 (by decide) rfl ?_
        cases hF
        exact Z_iret (ty := .boolean) (w := (0 : Int32)) dX7_islands_19 rfl rfl (Nat.le_refl _) (Nat.le_refl _) ⟨rfl, rfl⟩
abbrev rmX7_partners : Room := { frames := 2, cells := 0, slots := 0, locals := 44 }
def c7_partners (c : Nat → Nat) (x1 : Int32) (x2 : Int32) (σ : zS) : Option (Int32 × zS) := ((c7_livingMan c x1 σ).bind (fun y1 => zl y1.1 (fun (o2 : Option Nat) => ((c7_livingMan c x2 y1.2).bind (fun y3 => zl y3.1 (fun (o4 : Option Nat) => (zopt o2 (some ((0 : Int32), y3.2)) (fun (i5 : Nat) => (zopt o4 (some ((0 : Int32), y3.2)) (fun (i6 : Nat) => (if i5 < c 0 then ((c3_isPartnerOf c i5 x2 y3.2).bind (fun y7 => (if y7.1 = 0 then (if i6 < c 0 then ((c7_stepsBetween c (y7.2 40 i5) (y7.2 40 i6) y7.2).bind (fun y11 => (if y11.1 = (1 : Int32) then ((c3_addPartner c i5 x2 y11.2).bind (fun y13 => ((c3_addPartner c i6 x1 y13.2).bind (fun y14 => some ((1 : Int32), y14.2))))) else some ((0 : Int32), y11.2)))) else none) else some ((0 : Int32), y7.2)))) else none)))))))))))
set_option maxHeartbeats 4000000 in
set_option maxRecDepth 100000 in
theorem qX7_partners (l : Launch) {c ad dec : Nat → Nat} (hG : cG c ad dec) {x1 : Int32} {x2 : Int32} {σ : zS} {w : Int32 × zS} (hF : c7_partners c x1 x2 σ = some w) : zMet l yX7_partners cX7_partners 5 (some .boolean) rmX7_partners [.ref (ad 0), .int x1, .int x2] (mC c ad dec σ) (fun v M' => v = (some (.int w.1)) ∧ M' = (mC c ad dec w.2)) := by
  refine zMet.ofZ (vs := [some (.ref (ad 0)), some (.int x1), some (.int x2), none, none]) (by decide) rfl (zCt_of _ ⟨rfl, ⟨rfl, ⟨rfl, trivial⟩⟩⟩) (Nat.le_of_ble_eq_true rfl) (fun D => ?_)
  unfold c7_partners at hF
  refine Z_aload_n (i := 0) (pc' := 1) dX7_partners_0 rfl rfl rfl ?_
  refine Z_iload_n (i := 1) (pc' := 2) dX7_partners_1 rfl rfl rfl ?_
  obtain ⟨y1, hy1, hF⟩ := bd_of hF
  obtain ⟨o2, ho2, hF⟩ := zl_of hF
  refine Z_callVr (kd := 1) (ad := ad) (o := o2) (As := [.int x1]) (st := []) (pc' := 5) (k' := 0) (n' := 0) ho2 (qX7_livingMan l hG hy1) ckX7_livingMan kvX7_livingMan mlX7_83 (eC_0 hG) rfl rfl rfl (Nat.le_of_ble_eq_true rfl) ⟨Nat.le_of_ble_eq_true rfl, Nat.le_of_ble_eq_true rfl⟩ ⟨Nat.le_of_ble_eq_true rfl, Nat.le_of_ble_eq_true rfl⟩ dX7_partners_2 rfl rfl rfl ?_
  refine Z_astore_nR (v := rv ad 1 o2) (i := 3) (vs' := [some (.ref (ad 0)), some (.int x1), some (.int x2), some (rv ad 1 o2), none]) (pc' := 6) (rv_or _ _ _) dX7_partners_5 rfl (by decide) rfl rfl ?_
  refine Z_aload_n (i := 0) (pc' := 7) dX7_partners_6 rfl rfl rfl ?_
  refine Z_iload_n (i := 2) (pc' := 8) dX7_partners_7 rfl rfl rfl ?_
  obtain ⟨y3, hy3, hF⟩ := bd_of hF
  obtain ⟨o4, ho4, hF⟩ := zl_of hF
  refine Z_callVr (kd := 1) (ad := ad) (o := o4) (As := [.int x2]) (st := []) (pc' := 11) (k' := 0) (n' := 0) ho4 (qX7_livingMan l hG hy3) ckX7_livingMan kvX7_livingMan mlX7_83 (eC_0 hG) rfl rfl rfl (Nat.le_of_ble_eq_true rfl) ⟨Nat.le_of_ble_eq_true rfl, Nat.le_of_ble_eq_true rfl⟩ ⟨Nat.le_of_ble_eq_true rfl, Nat.le_of_ble_eq_true rfl⟩ dX7_partners_8 rfl rfl rfl ?_
  refine Z_astoreR (v := rv ad 1 o4) (i := 4) (vs' := [some (.ref (ad 0)), some (.int x1), some (.int x2), some (rv ad 1 o2), some (rv ad 1 o4)]) (pc' := 13) (rv_or _ _ _) dX7_partners_11 (by decide) rfl rfl ?_
  refine Z_aload_nR (v := rv ad 1 o2) (i := 3) (pc' := 14) (rv_or _ _ _) dX7_partners_13 rfl rfl rfl ?_
  cases o2 with
  | none =>
    replace hF := zopt_n hF
    refine Z_ifnullN (tgt := 30) dX7_partners_14 (by decide) ?_
    refine Z_iconst (v := 0) (pc' := 31) dX7_partners_30 (by decide) rfl ?_
    cases hF
    exact Z_iret (ty := .boolean) (w := (0 : Int32)) dX7_partners_31 rfl rfl (Nat.le_refl _) (Nat.le_refl _) ⟨rfl, rfl⟩
  | some i5 =>
    replace hF := zopt_s hF
    refine Z_ifnull (pc' := 17) dX7_partners_14 rfl ?_
    refine Z_aloadR (v := rv ad 1 o4) (i := 4) (pc' := 19) (rv_or _ _ _) dX7_partners_17 rfl rfl ?_
    cases o4 with
    | none =>
      replace hF := zopt_n hF
      refine Z_ifnullN (tgt := 30) dX7_partners_19 (by decide) ?_
      refine Z_iconst (v := 0) (pc' := 31) dX7_partners_30 (by decide) rfl ?_
      cases hF
      exact Z_iret (ty := .boolean) (w := (0 : Int32)) dX7_partners_31 rfl rfl (Nat.le_refl _) (Nat.le_refl _) ⟨rfl, rfl⟩
    | some i6 =>
      replace hF := zopt_s hF
      refine Z_ifnull (pc' := 22) dX7_partners_19 rfl ?_
      refine Z_aload_n (i := 3) (pc' := 23) dX7_partners_22 rfl rfl rfl ?_
      refine Z_iload_n (i := 2) (pc' := 24) dX7_partners_23 rfl rfl rfl ?_
      obtain ⟨h8, hF⟩ := ck_of hF
      obtain ⟨y7, hy7, hF⟩ := bd_of hF
      refine Z_callVi (As := [.int x2]) (st := []) (pc' := 27) (k' := 0) (n' := 0) (qX3_isPartnerOf l hG hy7) ckX3_isPartnerOf kvX3_isPartnerOf mlX7_87 (eC_man hG h8) rfl rfl rfl (Nat.le_of_ble_eq_true rfl) ⟨Nat.le_of_ble_eq_true rfl, Nat.le_of_ble_eq_true rfl⟩ ⟨Nat.le_of_ble_eq_true rfl, Nat.le_of_ble_eq_true rfl⟩ dX7_partners_24 rfl rfl rfl ?_
      refine Z_if_eq (tgt := 32) (pc' := 30) dX7_partners_27 (by decide) rfl (fun h9 => ?_) (fun h9 => ?_)
      · rw [if_pos h9] at hF
        refine Z_aload_n (i := 0) (pc' := 33) dX7_partners_32 rfl rfl rfl ?_
        refine Z_aload_n (i := 3) (pc' := 34) dX7_partners_33 rfl rfl rfl ?_
        refine Z_get (v := .int (y7.2 40 i5)) (pc' := 37) 0 zinX3 rfl (by decide) lkX7_90 (eC_man hG h8) rfl dX7_partners_34 rfl ?_
        refine Z_aload (i := 4) (pc' := 39) dX7_partners_37 rfl rfl ?_
        obtain ⟨h10, hF⟩ := ck_of hF
        refine Z_get (v := .int (y7.2 40 i6)) (pc' := 42) 0 zinX3 rfl (by decide) lkX7_90 (eC_man hG h10) rfl dX7_partners_39 rfl ?_
        obtain ⟨y11, hy11, hF⟩ := bd_of hF
        refine Z_callVi (As := [.int (y7.2 40 i5), .int (y7.2 40 i6)]) (st := []) (pc' := 45) (k' := 0) (n' := 0) (qX7_stepsBetween l hG hy11) ckX7_stepsBetween kvX7_stepsBetween mlX7_93 (eC_0 hG) rfl rfl rfl (Nat.le_of_ble_eq_true rfl) ⟨Nat.le_of_ble_eq_true rfl, Nat.le_of_ble_eq_true rfl⟩ ⟨Nat.le_of_ble_eq_true rfl, Nat.le_of_ble_eq_true rfl⟩ dX7_partners_42 rfl rfl rfl ?_
        refine Z_iconst (v := 1) (pc' := 46) dX7_partners_45 (by decide) rfl ?_
        refine Z_icmp_eq (tgt := 51) (pc' := 49) dX7_partners_46 (by decide) rfl (fun h12 => ?_) (fun h12 => ?_)
        · rw [if_pos h12] at hF
          refine Z_aload_n (i := 3) (pc' := 52) dX7_partners_51 rfl rfl rfl ?_
          refine Z_iload_n (i := 2) (pc' := 53) dX7_partners_52 rfl rfl rfl ?_
          obtain ⟨y13, hy13, hF⟩ := bd_of hF
          refine Z_callVv (As := [.int x2]) (st := []) (pc' := 56) (k' := 0) (n' := 0) (qX3_addPartner l hG hy13) ckX3_addPartner kvX3_addPartner mlX7_97 (eC_man hG h8) rfl rfl rfl (Nat.le_of_ble_eq_true rfl) ⟨Nat.le_of_ble_eq_true rfl, Nat.le_of_ble_eq_true rfl⟩ ⟨Nat.le_of_ble_eq_true rfl, Nat.le_of_ble_eq_true rfl⟩ dX7_partners_53 rfl rfl rfl ?_
          refine Z_aload (i := 4) (pc' := 58) dX7_partners_56 rfl rfl ?_
          refine Z_iload_n (i := 1) (pc' := 59) dX7_partners_58 rfl rfl rfl ?_
          obtain ⟨y14, hy14, hF⟩ := bd_of hF
          refine Z_callVv (As := [.int x1]) (st := []) (pc' := 62) (k' := 0) (n' := 0) (qX3_addPartner l hG hy14) ckX3_addPartner kvX3_addPartner mlX7_97 (eC_man hG h10) rfl rfl rfl (Nat.le_of_ble_eq_true rfl) ⟨Nat.le_of_ble_eq_true rfl, Nat.le_of_ble_eq_true rfl⟩ ⟨Nat.le_of_ble_eq_true rfl, Nat.le_of_ble_eq_true rfl⟩ dX7_partners_59 rfl rfl rfl ?_
          refine Z_iconst (v := 1) (pc' := 63) dX7_partners_62 (by decide) rfl ?_
          cases hF
          exact Z_iret (ty := .boolean) (w := (1 : Int32)) dX7_partners_63 rfl rfl (Nat.le_refl _) (Nat.le_refl _) ⟨rfl, rfl⟩
        · rw [if_neg h12] at hF
          refine Z_iconst (v := 0) (pc' := 50) dX7_partners_49 (by decide) rfl ?_
          cases hF
          exact Z_iret (ty := .boolean) (w := (0 : Int32)) dX7_partners_50 rfl rfl (Nat.le_refl _) (Nat.le_refl _) ⟨rfl, rfl⟩
      · rw [if_neg h9] at hF
        refine Z_iconst (v := 0) (pc' := 31) dX7_partners_30 (by decide) rfl ?_
        cases hF
        exact Z_iret (ty := .boolean) (w := (0 : Int32)) dX7_partners_31 rfl rfl (Nat.le_refl _) (Nat.le_refl _) ⟨rfl, rfl⟩
abbrev rmX7_isOnWay : Room := { frames := 2, cells := 0, slots := 0, locals := 43 }
def c7_isOnWay (c : Nat → Nat) (x1 : Int32) (x2 : Int32) (x3 : Int32) (σ : zS) : Option (Int32 × zS) := ((c7_livingMan c x1 σ).bind (fun y1 => zl y1.1 (fun (o2 : Option Nat) => ((c7_livingMan c x2 y1.2).bind (fun y3 => zl y3.1 (fun (o4 : Option Nat) => (zopt o2 (some ((0 : Int32), y3.2)) (fun (i5 : Nat) => (zopt o4 (some ((0 : Int32), y3.2)) (fun (i6 : Nat) => (if i5 < c 0 then ((c3_isPartnerOf c i5 x2 y3.2).bind (fun y7 => (if y7.1 = 0 then some ((0 : Int32), y7.2) else (if x3 = 0 then zl ((y7.2 40 i5) + (1 : Int32)) (fun (v19 : Int32) => (if v19 < (y7.2 30 0) then (if i6 < c 0 then (if (y7.2 40 i6) = v19 then some ((1 : Int32), y7.2) else some ((0 : Int32), y7.2)) else none) else zl (v19 - (y7.2 30 0)) (fun (v23 : Int32) => (if i6 < c 0 then (if (y7.2 40 i6) = v23 then some ((1 : Int32), y7.2) else some ((0 : Int32), y7.2)) else none)))) else zl ((y7.2 30 0) - (1 : Int32)) (fun (v11 : Int32) => zl ((y7.2 40 i5) + v11) (fun (v12 : Int32) => (if v12 < (y7.2 30 0) then (if i6 < c 0 then (if (y7.2 40 i6) = v12 then some ((1 : Int32), y7.2) else some ((0 : Int32), y7.2)) else none) else zl (v12 - (y7.2 30 0)) (fun (v16 : Int32) => (if i6 < c 0 then (if (y7.2 40 i6) = v16 then some ((1 : Int32), y7.2) else some ((0 : Int32), y7.2)) else none))))))))) else none)))))))))))
set_option maxHeartbeats 4000000 in
set_option maxRecDepth 100000 in
theorem qX7_isOnWay (l : Launch) {c ad dec : Nat → Nat} (hG : cG c ad dec) {x1 : Int32} {x2 : Int32} {x3 : Int32} {σ : zS} {w : Int32 × zS} (hF : c7_isOnWay c x1 x2 x3 σ = some w) : zMet l yX7_isOnWay cX7_isOnWay 8 (some .boolean) rmX7_isOnWay [.ref (ad 0), .int x1, .int x2, .int x3] (mC c ad dec σ) (fun v M' => v = (some (.int w.1)) ∧ M' = (mC c ad dec w.2)) := by
  refine zMet.ofZ (vs := [some (.ref (ad 0)), some (.int x1), some (.int x2), some (.int x3), none, none, none, none]) (by decide) rfl (zCt_of _ ⟨rfl, ⟨rfl, ⟨rfl, ⟨rfl, trivial⟩⟩⟩⟩) (Nat.le_of_ble_eq_true rfl) (fun D => ?_)
  unfold c7_isOnWay at hF
  refine Z_aload_n (i := 0) (pc' := 1) dX7_isOnWay_0 rfl rfl rfl ?_
  refine Z_iload_n (i := 1) (pc' := 2) dX7_isOnWay_1 rfl rfl rfl ?_
  obtain ⟨y1, hy1, hF⟩ := bd_of hF
  obtain ⟨o2, ho2, hF⟩ := zl_of hF
  refine Z_callVr (kd := 1) (ad := ad) (o := o2) (As := [.int x1]) (st := []) (pc' := 5) (k' := 0) (n' := 0) ho2 (qX7_livingMan l hG hy1) ckX7_livingMan kvX7_livingMan mlX7_83 (eC_0 hG) rfl rfl rfl (Nat.le_of_ble_eq_true rfl) ⟨Nat.le_of_ble_eq_true rfl, Nat.le_of_ble_eq_true rfl⟩ ⟨Nat.le_of_ble_eq_true rfl, Nat.le_of_ble_eq_true rfl⟩ dX7_isOnWay_2 rfl rfl rfl ?_
  refine Z_astoreR (v := rv ad 1 o2) (i := 4) (vs' := [some (.ref (ad 0)), some (.int x1), some (.int x2), some (.int x3), some (rv ad 1 o2), none, none, none]) (pc' := 7) (rv_or _ _ _) dX7_isOnWay_5 (by decide) rfl rfl ?_
  refine Z_aload_n (i := 0) (pc' := 8) dX7_isOnWay_7 rfl rfl rfl ?_
  refine Z_iload_n (i := 2) (pc' := 9) dX7_isOnWay_8 rfl rfl rfl ?_
  obtain ⟨y3, hy3, hF⟩ := bd_of hF
  obtain ⟨o4, ho4, hF⟩ := zl_of hF
  refine Z_callVr (kd := 1) (ad := ad) (o := o4) (As := [.int x2]) (st := []) (pc' := 12) (k' := 0) (n' := 0) ho4 (qX7_livingMan l hG hy3) ckX7_livingMan kvX7_livingMan mlX7_83 (eC_0 hG) rfl rfl rfl (Nat.le_of_ble_eq_true rfl) ⟨Nat.le_of_ble_eq_true rfl, Nat.le_of_ble_eq_true rfl⟩ ⟨Nat.le_of_ble_eq_true rfl, Nat.le_of_ble_eq_true rfl⟩ dX7_isOnWay_9 rfl rfl rfl ?_
  refine Z_astoreR (v := rv ad 1 o4) (i := 5) (vs' := [some (.ref (ad 0)), some (.int x1), some (.int x2), some (.int x3), some (rv ad 1 o2), some (rv ad 1 o4), none, none]) (pc' := 14) (rv_or _ _ _) dX7_isOnWay_12 (by decide) rfl rfl ?_
  refine Z_aloadR (v := rv ad 1 o2) (i := 4) (pc' := 16) (rv_or _ _ _) dX7_isOnWay_14 rfl rfl ?_
  cases o2 with
  | none =>
    replace hF := zopt_n hF
    refine Z_ifnullN (tgt := 33) dX7_isOnWay_16 (by decide) ?_
    refine Z_iconst (v := 0) (pc' := 34) dX7_isOnWay_33 (by decide) rfl ?_
    cases hF
    exact Z_iret (ty := .boolean) (w := (0 : Int32)) dX7_isOnWay_34 rfl rfl (Nat.le_refl _) (Nat.le_refl _) ⟨rfl, rfl⟩
  | some i5 =>
    replace hF := zopt_s hF
    refine Z_ifnull (pc' := 19) dX7_isOnWay_16 rfl ?_
    refine Z_aloadR (v := rv ad 1 o4) (i := 5) (pc' := 21) (rv_or _ _ _) dX7_isOnWay_19 rfl rfl ?_
    cases o4 with
    | none =>
      replace hF := zopt_n hF
      refine Z_ifnullN (tgt := 33) dX7_isOnWay_21 (by decide) ?_
      refine Z_iconst (v := 0) (pc' := 34) dX7_isOnWay_33 (by decide) rfl ?_
      cases hF
      exact Z_iret (ty := .boolean) (w := (0 : Int32)) dX7_isOnWay_34 rfl rfl (Nat.le_refl _) (Nat.le_refl _) ⟨rfl, rfl⟩
    | some i6 =>
      replace hF := zopt_s hF
      refine Z_ifnull (pc' := 24) dX7_isOnWay_21 rfl ?_
      refine Z_aload (i := 4) (pc' := 26) dX7_isOnWay_24 rfl rfl ?_
      refine Z_iload_n (i := 2) (pc' := 27) dX7_isOnWay_26 rfl rfl rfl ?_
      obtain ⟨h8, hF⟩ := ck_of hF
      obtain ⟨y7, hy7, hF⟩ := bd_of hF
      refine Z_callVi (As := [.int x2]) (st := []) (pc' := 30) (k' := 0) (n' := 0) (qX3_isPartnerOf l hG hy7) ckX3_isPartnerOf kvX3_isPartnerOf mlX7_87 (eC_man hG h8) rfl rfl rfl (Nat.le_of_ble_eq_true rfl) ⟨Nat.le_of_ble_eq_true rfl, Nat.le_of_ble_eq_true rfl⟩ ⟨Nat.le_of_ble_eq_true rfl, Nat.le_of_ble_eq_true rfl⟩ dX7_isOnWay_27 rfl rfl rfl ?_
      refine Z_if_ne (tgt := 35) (pc' := 33) dX7_isOnWay_30 (by decide) rfl (fun h9 => ?_) (fun h9 => ?_)
      · rw [if_neg h9] at hF
        refine Z_iload_n (i := 3) (pc' := 36) dX7_isOnWay_35 rfl rfl rfl ?_
        refine Z_if_ne (tgt := 43) (pc' := 39) dX7_isOnWay_36 (by decide) rfl (fun h10 => ?_) (fun h10 => ?_)
        · rw [if_neg h10] at hF
          refine Z_aload_n (i := 0) (pc' := 44) dX7_isOnWay_43 rfl rfl rfl ?_
          refine Z_get (v := .int (y7.2 30 0)) (pc' := 47) 7 zinX7 rfl (by decide) lkX7_53 (eC_0 hG) rfl dX7_isOnWay_44 rfl ?_
          refine Z_iconst (v := 1) (pc' := 48) dX7_isOnWay_47 (by decide) rfl ?_
          refine Z_isub (pc' := 49) dX7_isOnWay_48 rfl ?_
          obtain ⟨v11, hv11, hF⟩ := zl_of hF
          refine Z_istoreE (i := 6) (x' := v11) (vs' := [some (.ref (ad 0)), some (.int x1), some (.int x2), some (.int x3), some (.ref (ad (8 * i5 + 1))), some (.ref (ad (8 * i6 + 1))), some (.int v11), none]) (pc' := 51) dX7_isOnWay_49 hv11 (by decide) rfl rfl ?_
          refine Z_aload (i := 4) (pc' := 53) dX7_isOnWay_51 rfl rfl ?_
          refine Z_get (v := .int (y7.2 40 i5)) (pc' := 56) 0 zinX3 rfl (by decide) lkX7_90 (eC_man hG h8) rfl dX7_isOnWay_53 rfl ?_
          refine Z_iload (i := 6) (pc' := 58) dX7_isOnWay_56 rfl rfl ?_
          refine Z_iadd (pc' := 59) dX7_isOnWay_58 rfl ?_
          obtain ⟨v12, hv12, hF⟩ := zl_of hF
          refine Z_istoreE (i := 7) (x' := v12) (vs' := [some (.ref (ad 0)), some (.int x1), some (.int x2), some (.int x3), some (.ref (ad (8 * i5 + 1))), some (.ref (ad (8 * i6 + 1))), some (.int v11), some (.int v12)]) (pc' := 61) dX7_isOnWay_59 hv12 (by decide) rfl rfl ?_
          refine Z_iload (i := 7) (pc' := 63) dX7_isOnWay_61 rfl rfl ?_
          refine Z_aload_n (i := 0) (pc' := 64) dX7_isOnWay_63 rfl rfl rfl ?_
          refine Z_get (v := .int (y7.2 30 0)) (pc' := 67) 7 zinX7 rfl (by decide) lkX7_53 (eC_0 hG) rfl dX7_isOnWay_64 rfl ?_
          refine Z_icmp_lt (tgt := 79) (pc' := 70) dX7_isOnWay_67 (by decide) rfl (fun h13 => ?_) (fun h13 => ?_)
          · rw [if_pos h13] at hF
            refine Z_aload (i := 5) (pc' := 81) dX7_isOnWay_79 rfl rfl ?_
            obtain ⟨h14, hF⟩ := ck_of hF
            refine Z_get (v := .int (y7.2 40 i6)) (pc' := 84) 0 zinX3 rfl (by decide) lkX7_90 (eC_man hG h14) rfl dX7_isOnWay_81 rfl ?_
            refine Z_iload (i := 7) (pc' := 86) dX7_isOnWay_84 rfl rfl ?_
            refine Z_icmp_ne (tgt := 93) (pc' := 89) dX7_isOnWay_86 (by decide) rfl (fun h15 => ?_) (fun h15 => ?_)
            · rw [if_neg h15] at hF
              refine Z_iconst (v := 0) (pc' := 94) dX7_isOnWay_93 (by decide) rfl ?_
              cases hF
              exact Z_iret (ty := .boolean) (w := (0 : Int32)) dX7_isOnWay_94 rfl rfl (Nat.le_refl _) (Nat.le_refl _) ⟨rfl, rfl⟩
            · rw [if_pos h15] at hF
              refine Z_iconst (v := 1) (pc' := 90) dX7_isOnWay_89 (by decide) rfl ?_
              refine Z_goto (tgt := 94) dX7_isOnWay_90 (by decide) ?_
              cases hF
              exact Z_iret (ty := .boolean) (w := (1 : Int32)) dX7_isOnWay_94 rfl rfl (Nat.le_refl _) (Nat.le_refl _) ⟨rfl, rfl⟩
          · rw [if_neg h13] at hF
            refine Z_iload (i := 7) (pc' := 72) dX7_isOnWay_70 rfl rfl ?_
            refine Z_aload_n (i := 0) (pc' := 73) dX7_isOnWay_72 rfl rfl rfl ?_
            refine Z_get (v := .int (y7.2 30 0)) (pc' := 76) 7 zinX7 rfl (by decide) lkX7_53 (eC_0 hG) rfl dX7_isOnWay_73 rfl ?_
            refine Z_isub (pc' := 77) dX7_isOnWay_76 rfl ?_
            obtain ⟨v16, hv16, hF⟩ := zl_of hF
            refine Z_istoreE (i := 7) (x' := v16) (vs' := [some (.ref (ad 0)), some (.int x1), some (.int x2), some (.int x3), some (.ref (ad (8 * i5 + 1))), some (.ref (ad (8 * i6 + 1))), some (.int v11), some (.int v16)]) (pc' := 79) dX7_isOnWay_77 hv16 (by decide) rfl rfl ?_
            refine Z_aload (i := 5) (pc' := 81) dX7_isOnWay_79 rfl rfl ?_
            obtain ⟨h17, hF⟩ := ck_of hF
            refine Z_get (v := .int (y7.2 40 i6)) (pc' := 84) 0 zinX3 rfl (by decide) lkX7_90 (eC_man hG h17) rfl dX7_isOnWay_81 rfl ?_
            refine Z_iload (i := 7) (pc' := 86) dX7_isOnWay_84 rfl rfl ?_
            refine Z_icmp_ne (tgt := 93) (pc' := 89) dX7_isOnWay_86 (by decide) rfl (fun h18 => ?_) (fun h18 => ?_)
            · rw [if_neg h18] at hF
              refine Z_iconst (v := 0) (pc' := 94) dX7_isOnWay_93 (by decide) rfl ?_
              cases hF
              exact Z_iret (ty := .boolean) (w := (0 : Int32)) dX7_isOnWay_94 rfl rfl (Nat.le_refl _) (Nat.le_refl _) ⟨rfl, rfl⟩
            · rw [if_pos h18] at hF
              refine Z_iconst (v := 1) (pc' := 90) dX7_isOnWay_89 (by decide) rfl ?_
              refine Z_goto (tgt := 94) dX7_isOnWay_90 (by decide) ?_
              cases hF
              exact Z_iret (ty := .boolean) (w := (1 : Int32)) dX7_isOnWay_94 rfl rfl (Nat.le_refl _) (Nat.le_refl _) ⟨rfl, rfl⟩
        · rw [if_pos h10] at hF
          refine Z_iconst (v := 1) (pc' := 40) dX7_isOnWay_39 (by decide) rfl ?_
          refine Z_goto (tgt := 49) dX7_isOnWay_40 (by decide) ?_
          refine Z_istoreE (i := 6) (x' := (1 : Int32)) (vs' := [some (.ref (ad 0)), some (.int x1), some (.int x2), some (.int x3), some (.ref (ad (8 * i5 + 1))), some (.ref (ad (8 * i6 + 1))), some (.int (1 : Int32)), none]) (pc' := 51) dX7_isOnWay_49 rfl (by decide) rfl rfl ?_
          refine Z_aload (i := 4) (pc' := 53) dX7_isOnWay_51 rfl rfl ?_
          refine Z_get (v := .int (y7.2 40 i5)) (pc' := 56) 0 zinX3 rfl (by decide) lkX7_90 (eC_man hG h8) rfl dX7_isOnWay_53 rfl ?_
          refine Z_iload (i := 6) (pc' := 58) dX7_isOnWay_56 rfl rfl ?_
          refine Z_iadd (pc' := 59) dX7_isOnWay_58 rfl ?_
          obtain ⟨v19, hv19, hF⟩ := zl_of hF
          refine Z_istoreE (i := 7) (x' := v19) (vs' := [some (.ref (ad 0)), some (.int x1), some (.int x2), some (.int x3), some (.ref (ad (8 * i5 + 1))), some (.ref (ad (8 * i6 + 1))), some (.int (1 : Int32)), some (.int v19)]) (pc' := 61) dX7_isOnWay_59 hv19 (by decide) rfl rfl ?_
          refine Z_iload (i := 7) (pc' := 63) dX7_isOnWay_61 rfl rfl ?_
          refine Z_aload_n (i := 0) (pc' := 64) dX7_isOnWay_63 rfl rfl rfl ?_
          refine Z_get (v := .int (y7.2 30 0)) (pc' := 67) 7 zinX7 rfl (by decide) lkX7_53 (eC_0 hG) rfl dX7_isOnWay_64 rfl ?_
          refine Z_icmp_lt (tgt := 79) (pc' := 70) dX7_isOnWay_67 (by decide) rfl (fun h20 => ?_) (fun h20 => ?_)
          · rw [if_pos h20] at hF
            refine Z_aload (i := 5) (pc' := 81) dX7_isOnWay_79 rfl rfl ?_
            obtain ⟨h21, hF⟩ := ck_of hF
            refine Z_get (v := .int (y7.2 40 i6)) (pc' := 84) 0 zinX3 rfl (by decide) lkX7_90 (eC_man hG h21) rfl dX7_isOnWay_81 rfl ?_
            refine Z_iload (i := 7) (pc' := 86) dX7_isOnWay_84 rfl rfl ?_
            refine Z_icmp_ne (tgt := 93) (pc' := 89) dX7_isOnWay_86 (by decide) rfl (fun h22 => ?_) (fun h22 => ?_)
            · rw [if_neg h22] at hF
              refine Z_iconst (v := 0) (pc' := 94) dX7_isOnWay_93 (by decide) rfl ?_
              cases hF
              exact Z_iret (ty := .boolean) (w := (0 : Int32)) dX7_isOnWay_94 rfl rfl (Nat.le_refl _) (Nat.le_refl _) ⟨rfl, rfl⟩
            · rw [if_pos h22] at hF
              refine Z_iconst (v := 1) (pc' := 90) dX7_isOnWay_89 (by decide) rfl ?_
              refine Z_goto (tgt := 94) dX7_isOnWay_90 (by decide) ?_
              cases hF
              exact Z_iret (ty := .boolean) (w := (1 : Int32)) dX7_isOnWay_94 rfl rfl (Nat.le_refl _) (Nat.le_refl _) ⟨rfl, rfl⟩
          · rw [if_neg h20] at hF
            refine Z_iload (i := 7) (pc' := 72) dX7_isOnWay_70 rfl rfl ?_
            refine Z_aload_n (i := 0) (pc' := 73) dX7_isOnWay_72 rfl rfl rfl ?_
            refine Z_get (v := .int (y7.2 30 0)) (pc' := 76) 7 zinX7 rfl (by decide) lkX7_53 (eC_0 hG) rfl dX7_isOnWay_73 rfl ?_
            refine Z_isub (pc' := 77) dX7_isOnWay_76 rfl ?_
            obtain ⟨v23, hv23, hF⟩ := zl_of hF
            refine Z_istoreE (i := 7) (x' := v23) (vs' := [some (.ref (ad 0)), some (.int x1), some (.int x2), some (.int x3), some (.ref (ad (8 * i5 + 1))), some (.ref (ad (8 * i6 + 1))), some (.int (1 : Int32)), some (.int v23)]) (pc' := 79) dX7_isOnWay_77 hv23 (by decide) rfl rfl ?_
            refine Z_aload (i := 5) (pc' := 81) dX7_isOnWay_79 rfl rfl ?_
            obtain ⟨h24, hF⟩ := ck_of hF
            refine Z_get (v := .int (y7.2 40 i6)) (pc' := 84) 0 zinX3 rfl (by decide) lkX7_90 (eC_man hG h24) rfl dX7_isOnWay_81 rfl ?_
            refine Z_iload (i := 7) (pc' := 86) dX7_isOnWay_84 rfl rfl ?_
            refine Z_icmp_ne (tgt := 93) (pc' := 89) dX7_isOnWay_86 (by decide) rfl (fun h25 => ?_) (fun h25 => ?_)
            · rw [if_neg h25] at hF
              refine Z_iconst (v := 0) (pc' := 94) dX7_isOnWay_93 (by decide) rfl ?_
              cases hF
              exact Z_iret (ty := .boolean) (w := (0 : Int32)) dX7_isOnWay_94 rfl rfl (Nat.le_refl _) (Nat.le_refl _) ⟨rfl, rfl⟩
            · rw [if_pos h25] at hF
              refine Z_iconst (v := 1) (pc' := 90) dX7_isOnWay_89 (by decide) rfl ?_
              refine Z_goto (tgt := 94) dX7_isOnWay_90 (by decide) ?_
              cases hF
              exact Z_iret (ty := .boolean) (w := (1 : Int32)) dX7_isOnWay_94 rfl rfl (Nat.le_refl _) (Nat.le_refl _) ⟨rfl, rfl⟩
      · rw [if_pos h9] at hF
        refine Z_iconst (v := 0) (pc' := 34) dX7_isOnWay_33 (by decide) rfl ?_
        cases hF
        exact Z_iret (ty := .boolean) (w := (0 : Int32)) dX7_isOnWay_34 rfl rfl (Nat.le_refl _) (Nat.le_refl _) ⟨rfl, rfl⟩
abbrev rmX7_season : Room := { frames := 1, cells := 0, slots := 0, locals := 21 }
def c7_season_L24 (N : Nat) (c : Nat → Nat) (x1_ : Int32) (σ : zS) : Option (zS) := match N with
  | 0 => none
  | n + 1 => (if (σ 32 0) ≤ x1_ then some (σ) else (if zIn x1_ 24 = true then zl (zo (c 4) x1_) (fun (o5 : Option Nat) => (Option.bind o5 (fun (i6 : Nat) => (if i6 < c 1 then ((c7_anyMan c (σ 52 i6) σ).bind (fun y8 => zl y8.1 (fun (o9 : Option Nat) => (zopt o9 (zl (x1_ + 1) (fun (v11 : Int32) => (c7_season_L24 n c v11 y8.2))) (fun (i10 : Nat) => (if (y8.2 55 i6) = 0 then ((c0_seasonsToHold c  y8.2).bind (fun y14 => (if ((y8.2 33 0) - (y8.2 53 i6)) ≤ y14.1 then zl (x1_ + 1) (fun (v16 : Int32) => (c7_season_L24 n c v16 y14.2)) else (if i10 < c 0 then zl (zs y14.2 42 i10 ((y14.2 42 i10) - (((y14.2 51 i6) + (9 : Int32)) / (10 : Int32)))) (fun (σ18 : zS) => zl (x1_ + 1) (fun (v19 : Int32) => (c7_season_L24 n c v19 σ18))) else none)))) else zl (x1_ + 1) (fun (v13 : Int32) => (c7_season_L24 n c v13 y8.2)))))))) else none)))) else none))
def c7_season (c : Nat → Nat)  (σ : zS) : Option (Int32 × zS) := (if (σ 33 0) < (1000 : Int32) then zl (zs σ 33 0 ((σ 33 0) + (1 : Int32))) (fun (σ2 : zS) => ((c7_season_L24 zF c (0 : Int32) σ2).bind (fun r20 => some ((r20 33 0), r20)))) else some ((-1 : Int32), σ))
set_option maxHeartbeats 4000000 in
set_option maxRecDepth 100000 in
theorem qX7_season_L24 {l : Launch} {D : va_G} {M0 : zM} {Q : Option Value → zM → Prop} {c ad dec : Nat → Nat} (hG : cG c ad dec) : ∀ (n : Nat) (x1_ : Int32) (σ : zS) (r : (zS)), c7_season_L24 n c x1_ σ = some r → (Z l yX7_season cX7_season 4 (some .int) rmX7_season 0 0 D M0 Q 0 0 103 [some (.ref (ad 0)), none, none, none] [] (mC c ad dec r)) → Z l yX7_season cX7_season 4 (some .int) rmX7_season 0 0 D M0 Q 0 0 24 [some (.ref (ad 0)), some (.int x1_), none, none] [] (mC c ad dec σ) := by
  intro n
  induction n with
  | zero =>
    intro x1_ σ r hF hE
    exact absurd (show (none : Option (zS)) = some r from hF) (by simp)
  | succ n ih =>
    intro x1_ σ r hF hE
    replace hF : (if (σ 32 0) ≤ x1_ then some (σ) else (if zIn x1_ 24 = true then zl (zo (c 4) x1_) (fun (o5 : Option Nat) => (Option.bind o5 (fun (i6 : Nat) => (if i6 < c 1 then ((c7_anyMan c (σ 52 i6) σ).bind (fun y8 => zl y8.1 (fun (o9 : Option Nat) => (zopt o9 (zl (x1_ + 1) (fun (v11 : Int32) => (c7_season_L24 n c v11 y8.2))) (fun (i10 : Nat) => (if (y8.2 55 i6) = 0 then ((c0_seasonsToHold c  y8.2).bind (fun y14 => (if ((y8.2 33 0) - (y8.2 53 i6)) ≤ y14.1 then zl (x1_ + 1) (fun (v16 : Int32) => (c7_season_L24 n c v16 y14.2)) else (if i10 < c 0 then zl (zs y14.2 42 i10 ((y14.2 42 i10) - (((y14.2 51 i6) + (9 : Int32)) / (10 : Int32)))) (fun (σ18 : zS) => zl (x1_ + 1) (fun (v19 : Int32) => (c7_season_L24 n c v19 σ18))) else none)))) else zl (x1_ + 1) (fun (v13 : Int32) => (c7_season_L24 n c v13 y8.2)))))))) else none)))) else none)) = some r := hF
    refine Z_iload_n (i := 1) (pc' := 25) dX7_season_24 rfl rfl rfl ?_
    refine Z_aload_n (i := 0) (pc' := 26) dX7_season_25 rfl rfl rfl ?_
    refine Z_get (v := .int (σ 32 0)) (pc' := 29) 9 zinX7 rfl (by decide) lkX7_60 (eC_0 hG) rfl dX7_season_26 rfl ?_
    refine Z_icmp_ge (tgt := 103) (pc' := 32) dX7_season_29 (by decide) rfl (fun h3 => ?_) (fun h3 => ?_)
    · rw [if_pos h3] at hF
      cases hF
      exact Z_sub (vs' := [some (.ref (ad 0)), none, none, none]) (zSb_of _ _ ⟨rfl, trivial⟩) hE
    · rw [if_neg h3] at hF
      refine Z_aload_n (i := 0) (pc' := 33) dX7_season_32 rfl rfl rfl ?_
      refine Z_get (v := .ref (ad 56)) (pc' := 36) 3 zinX7 rfl (by decide) lkX7_31 (eC_0 hG) rfl dX7_season_33 rfl ?_
      refine Z_iload_n (i := 1) (pc' := 37) dX7_season_36 rfl rfl rfl ?_
      obtain ⟨h4, hF⟩ := ck_of hF
      obtain ⟨o5, ho5, hF⟩ := zl_of hF
      refine Z_aaldC (pc' := 38) (o := o5) (eC_7 hG) (zIn_in h4) ho5 dX7_season_37 rfl ?_
      refine Z_astore_nR (v := rv ad 2 o5) (i := 2) (vs' := [some (.ref (ad 0)), some (.int x1_), some (rv ad 2 o5), none]) (pc' := 39) (rv_or _ _ _) dX7_season_38 rfl (by decide) rfl rfl ?_
      refine Z_aload_n (i := 0) (pc' := 40) dX7_season_39 rfl rfl rfl ?_
      refine Z_aload_nR (v := rv ad 2 o5) (i := 2) (pc' := 41) (rv_or _ _ _) dX7_season_40 rfl rfl rfl ?_
      obtain ⟨i6, hi6, hN⟩ := bd_of hF
      clear hF
      subst hi6
      have hF := hN
      clear hN
      obtain ⟨h7, hF⟩ := ck_of hF
      refine Z_get (v := .int (σ 52 i6)) (pc' := 44) 2 zinX6 rfl (by decide) lkX7_197 (eC_tr hG h7) rfl dX7_season_41 rfl ?_
      obtain ⟨y8, hy8, hF⟩ := bd_of hF
      obtain ⟨o9, ho9, hF⟩ := zl_of hF
      refine Z_callVr (kd := 1) (ad := ad) (o := o9) (As := [.int (σ 52 i6)]) (st := []) (pc' := 47) (k' := 0) (n' := 0) ho9 (qX7_anyMan l hG hy8) ckX7_anyMan kvX7_anyMan mlX7_106 (eC_0 hG) rfl rfl rfl (Nat.le_of_ble_eq_true rfl) ⟨Nat.le_of_ble_eq_true rfl, Nat.le_of_ble_eq_true rfl⟩ ⟨Nat.le_of_ble_eq_true rfl, Nat.le_of_ble_eq_true rfl⟩ dX7_season_44 rfl rfl rfl ?_
      refine Z_astore_nR (v := rv ad 1 o9) (i := 3) (vs' := [some (.ref (ad 0)), some (.int x1_), some (.ref (ad (8 * i6 + 2))), some (rv ad 1 o9)]) (pc' := 48) (rv_or _ _ _) dX7_season_47 rfl (by decide) rfl rfl ?_
      refine Z_aload_nR (v := rv ad 1 o9) (i := 3) (pc' := 49) (rv_or _ _ _) dX7_season_48 rfl rfl rfl ?_
      cases o9 with
      | none =>
        replace hF := zopt_n hF
        refine Z_ifnullN (tgt := 97) dX7_season_49 (by decide) ?_
        obtain ⟨v11, hv11, hF⟩ := zl_of hF
        refine Z_iinc (i := 1) (v := v11) (vs' := [some (.ref (ad 0)), some (.int v11), some (.ref (ad (8 * i6 + 2))), some (.null)]) (pc' := 100) dX7_season_97 rfl (by rw [hv11]; rfl) (by decide) rfl rfl ?_
        refine Z_goto (tgt := 24) dX7_season_100 (by decide) ?_
        exact Z_sub (vs' := [some (.ref (ad 0)), some (.int v11), none, none]) (zSb_of _ _ ⟨rfl, ⟨rfl, trivial⟩⟩) (ih v11 y8.2 _ hF hE)
      | some i10 =>
        replace hF := zopt_s hF
        refine Z_ifnull (pc' := 52) dX7_season_49 rfl ?_
        refine Z_aload_n (i := 2) (pc' := 53) dX7_season_52 rfl rfl rfl ?_
        refine Z_get (v := .int (y8.2 55 i6)) (pc' := 56) 5 zinX6 rfl (by decide) lkX7_200 (eC_tr hG h7) rfl dX7_season_53 rfl ?_
        refine Z_if_ne (tgt := 97) (pc' := 59) dX7_season_56 (by decide) rfl (fun h12 => ?_) (fun h12 => ?_)
        · rw [if_neg h12] at hF
          obtain ⟨v13, hv13, hF⟩ := zl_of hF
          refine Z_iinc (i := 1) (v := v13) (vs' := [some (.ref (ad 0)), some (.int v13), some (.ref (ad (8 * i6 + 2))), some (.ref (ad (8 * i10 + 1)))]) (pc' := 100) dX7_season_97 rfl (by rw [hv13]; rfl) (by decide) rfl rfl ?_
          refine Z_goto (tgt := 24) dX7_season_100 (by decide) ?_
          exact Z_sub (vs' := [some (.ref (ad 0)), some (.int v13), none, none]) (zSb_of _ _ ⟨rfl, ⟨rfl, trivial⟩⟩) (ih v13 y8.2 _ hF hE)
        · rw [if_pos h12] at hF
          refine Z_aload_n (i := 0) (pc' := 60) dX7_season_59 rfl rfl rfl ?_
          refine Z_get (v := .int (y8.2 33 0)) (pc' := 63) 10 zinX7 rfl (by decide) lkX7_63 (eC_0 hG) rfl dX7_season_60 rfl ?_
          refine Z_aload_n (i := 2) (pc' := 64) dX7_season_63 rfl rfl rfl ?_
          refine Z_get (v := .int (y8.2 53 i6)) (pc' := 67) 3 zinX6 rfl (by decide) lkX7_203 (eC_tr hG h7) rfl dX7_season_64 rfl ?_
          refine Z_isub (pc' := 68) dX7_season_67 rfl ?_
          refine Z_aload_n (i := 0) (pc' := 69) dX7_season_68 rfl rfl rfl ?_
          refine Z_get (v := .ref (ad 24)) (pc' := 72) 1 zinX7 rfl (by decide) lkX7_19 (eC_0 hG) rfl dX7_season_69 rfl ?_
          obtain ⟨y14, hy14, hF⟩ := bd_of hF
          refine Z_callVi (As := []) (st := [.int ((y8.2 33 0) - (y8.2 53 i6))]) (pc' := 75) (k' := 0) (n' := 0) (qX0_seasonsToHold l hG hy14) ckX0_seasonsToHold kvX0_seasonsToHold mlX7_206 (eC_3 hG) rfl rfl rfl (Nat.le_of_ble_eq_true rfl) ⟨Nat.le_of_ble_eq_true rfl, Nat.le_of_ble_eq_true rfl⟩ ⟨Nat.le_of_ble_eq_true rfl, Nat.le_of_ble_eq_true rfl⟩ dX7_season_72 rfl rfl rfl ?_
          refine Z_icmp_le (tgt := 97) (pc' := 78) dX7_season_75 (by decide) rfl (fun h15 => ?_) (fun h15 => ?_)
          · rw [if_pos h15] at hF
            obtain ⟨v16, hv16, hF⟩ := zl_of hF
            refine Z_iinc (i := 1) (v := v16) (vs' := [some (.ref (ad 0)), some (.int v16), some (.ref (ad (8 * i6 + 2))), some (.ref (ad (8 * i10 + 1)))]) (pc' := 100) dX7_season_97 rfl (by rw [hv16]; rfl) (by decide) rfl rfl ?_
            refine Z_goto (tgt := 24) dX7_season_100 (by decide) ?_
            exact Z_sub (vs' := [some (.ref (ad 0)), some (.int v16), none, none]) (zSb_of _ _ ⟨rfl, ⟨rfl, trivial⟩⟩) (ih v16 y14.2 _ hF hE)
          · rw [if_neg h15] at hF
            refine Z_aload_n (i := 3) (pc' := 79) dX7_season_78 rfl rfl rfl ?_
            refine Z_dup (pc' := 80) rfl dX7_season_79 rfl ?_
            obtain ⟨h17, hF⟩ := ck_of hF
            refine Z_get (v := .int (y14.2 42 i10)) (pc' := 83) 2 zinX3 rfl (by decide) lkX7_143 (eC_man hG h17) rfl dX7_season_80 rfl ?_
            refine Z_aload_n (i := 2) (pc' := 84) dX7_season_83 rfl rfl rfl ?_
            refine Z_get (v := .int (y14.2 51 i6)) (pc' := 87) 1 zinX6 rfl (by decide) lkX7_146 (eC_tr hG h7) rfl dX7_season_84 rfl ?_
            refine Z_bipush (v := 9) (pc' := 89) dX7_season_87 (by decide) rfl ?_
            refine Z_iadd (pc' := 90) dX7_season_89 rfl ?_
            refine Z_bipush (v := 10) (pc' := 92) dX7_season_90 (by decide) rfl ?_
            refine Z_idiv (pc' := 93) (by decide) dX7_season_92 rfl ?_
            refine Z_isub (pc' := 94) dX7_season_93 rfl ?_
            obtain ⟨σ18, hσ18, hF⟩ := zl_of hF
            refine Z_put (pc' := 97) 2 zinX3 tyX3_ok nmX3 rfl (by decide) lkX7_143 rfl (eC_man hG h17) rfl rfl rfl (Nat.le_of_ble_eq_true rfl) rfl dX7_season_94 rfl ?_
            refine Z_mem (pman_42 hG h17 hσ18) ?_
            obtain ⟨v19, hv19, hF⟩ := zl_of hF
            refine Z_iinc (i := 1) (v := v19) (vs' := [some (.ref (ad 0)), some (.int v19), some (.ref (ad (8 * i6 + 2))), some (.ref (ad (8 * i10 + 1)))]) (pc' := 100) dX7_season_97 rfl (by rw [hv19]; rfl) (by decide) rfl rfl ?_
            refine Z_goto (tgt := 24) dX7_season_100 (by decide) ?_
            exact Z_sub (vs' := [some (.ref (ad 0)), some (.int v19), none, none]) (zSb_of _ _ ⟨rfl, ⟨rfl, trivial⟩⟩) (ih v19 σ18 _ hF hE)
set_option maxHeartbeats 4000000 in
set_option maxRecDepth 100000 in
theorem qX7_season (l : Launch) {c ad dec : Nat → Nat} (hG : cG c ad dec)  {σ : zS} {w : Int32 × zS} (hF : c7_season c  σ = some w) : zMet l yX7_season cX7_season 4 (some .int) rmX7_season [.ref (ad 0)] (mC c ad dec σ) (fun v M' => v = (some (.int w.1)) ∧ M' = (mC c ad dec w.2)) := by
  refine zMet.ofZ (vs := [some (.ref (ad 0)), none, none, none]) (by decide) rfl (zCt_of _ ⟨rfl, trivial⟩) (Nat.le_of_ble_eq_true rfl) (fun D => ?_)
  unfold c7_season at hF
  refine Z_aload_n (i := 0) (pc' := 1) dX7_season_0 rfl rfl rfl ?_
  refine Z_get (v := .int (σ 33 0)) (pc' := 4) 10 zinX7 rfl (by decide) lkX7_63 (eC_0 hG) rfl dX7_season_1 rfl ?_
  refine Z_sipush (v := 1000) (pc' := 7) dX7_season_4 (by decide) rfl ?_
  refine Z_icmp_lt (tgt := 12) (pc' := 10) dX7_season_7 (by decide) rfl (fun h1 => ?_) (fun h1 => ?_)
  · rw [if_pos h1] at hF
    refine Z_aload_n (i := 0) (pc' := 13) dX7_season_12 rfl rfl rfl ?_
    refine Z_dup (pc' := 14) rfl dX7_season_13 rfl ?_
    refine Z_get (v := .int (σ 33 0)) (pc' := 17) 10 zinX7 rfl (by decide) lkX7_63 (eC_0 hG) rfl dX7_season_14 rfl ?_
    refine Z_iconst (v := 1) (pc' := 18) dX7_season_17 (by decide) rfl ?_
    refine Z_iadd (pc' := 19) dX7_season_18 rfl ?_
    obtain ⟨σ2, hσ2, hF⟩ := zl_of hF
    refine Z_put (pc' := 22) 10 zinX7 tyX7_ok nmX7 rfl (by decide) lkX7_63 rfl (eC_0 hG) rfl rfl rfl (Nat.le_of_ble_eq_true rfl) rfl dX7_season_19 rfl ?_
    refine Z_mem (pC_33 hG hσ2) ?_
    refine Z_iconst (v := 0) (pc' := 23) dX7_season_22 (by decide) rfl ?_
    refine Z_istore_nE (i := 1) (x' := (0 : Int32)) (vs' := [some (.ref (ad 0)), some (.int (0 : Int32)), none, none]) (pc' := 24) dX7_season_23 rfl rfl (by decide) rfl rfl ?_
    obtain ⟨r20, hr20, hF⟩ := bd_of hF
    refine Z_sub (vs' := [some (.ref (ad 0)), some (.int (0 : Int32)), none, none]) (zSb_of _ _ ⟨rfl, ⟨rfl, trivial⟩⟩) (qX7_season_L24 hG zF (0 : Int32) σ2 _ hr20 ?_)
    refine Z_aload_n (i := 0) (pc' := 104) dX7_season_103 rfl rfl rfl ?_
    refine Z_get (v := .int (r20 33 0)) (pc' := 107) 10 zinX7 rfl (by decide) lkX7_63 (eC_0 hG) rfl dX7_season_104 rfl ?_
    cases hF
    exact Z_iret (ty := .int) (w := (r20 33 0)) dX7_season_107 rfl rfl (Nat.le_refl _) (Nat.le_refl _) ⟨rfl, rfl⟩
  · rw [if_neg h1] at hF
    refine Z_iconst (v := -1) (pc' := 11) dX7_season_10 (by decide) rfl ?_
    cases hF
    exact Z_iret (ty := .int) (w := (-1 : Int32)) dX7_season_11 rfl rfl (Nat.le_refl _) (Nat.le_refl _) ⟨rfl, rfl⟩
abbrev rmX7_passTreasures : Room := { frames := 1, cells := 0, slots := 0, locals := 22 }
def c7_passTreasures_L2 (N : Nat) (c : Nat → Nat) (x1_ : Int32) (x2_ : Int32) (x3_ : Int32) (σ : zS) : Option (zS) := match N with
  | 0 => none
  | n + 1 => (if (σ 32 0) ≤ x3_ then some (σ) else (if zIn x3_ 24 = true then zl (zo (c 4) x3_) (fun (o3 : Option Nat) => (Option.bind o3 (fun (i4 : Nat) => (if i4 < c 1 then ((c6_isHeldBy c i4 x1_ σ).bind (fun y5 => (if y5.1 = 0 then zl (x3_ + 1) (fun (v8 : Int32) => (c7_passTreasures_L2 n c x1_ x2_ v8 y5.2)) else zl (zo (c 4) x3_) (fun (o9 : Option Nat) => (Option.bind o9 (fun (i10 : Nat) => (if i10 < c 1 then ((c6_comeTo c i10 x2_ (y5.2 33 0) y5.2).bind (fun y11 => zl (x3_ + 1) (fun (v13 : Int32) => (c7_passTreasures_L2 n c x1_ x2_ v13 y11.2)))) else none))))))) else none)))) else none))
def c7_passTreasures (c : Nat → Nat) (x1 : Int32) (x2 : Int32) (σ : zS) : Option (Int32 × zS) := ((c7_passTreasures_L2 zF c x1 x2 (0 : Int32) σ).bind (fun r14 => some (0, r14)))
set_option maxHeartbeats 4000000 in
set_option maxRecDepth 100000 in
theorem qX7_passTreasures_L2 {l : Launch} {D : va_G} {M0 : zM} {Q : Option Value → zM → Prop} {c ad dec : Nat → Nat} (hG : cG c ad dec) : ∀ (n : Nat) (x1_ : Int32) (x2_ : Int32) (x3_ : Int32) (σ : zS) (r : (zS)), c7_passTreasures_L2 n c x1_ x2_ x3_ σ = some r → (Z l yX7_passTreasures cX7_passTreasures 4 none rmX7_passTreasures 0 0 D M0 Q 0 0 43 [none, none, none, none] [] (mC c ad dec r)) → Z l yX7_passTreasures cX7_passTreasures 4 none rmX7_passTreasures 0 0 D M0 Q 0 0 2 [some (.ref (ad 0)), some (.int x1_), some (.int x2_), some (.int x3_)] [] (mC c ad dec σ) := by
  intro n
  induction n with
  | zero =>
    intro x1_ x2_ x3_ σ r hF hE
    exact absurd (show (none : Option (zS)) = some r from hF) (by simp)
  | succ n ih =>
    intro x1_ x2_ x3_ σ r hF hE
    replace hF : (if (σ 32 0) ≤ x3_ then some (σ) else (if zIn x3_ 24 = true then zl (zo (c 4) x3_) (fun (o3 : Option Nat) => (Option.bind o3 (fun (i4 : Nat) => (if i4 < c 1 then ((c6_isHeldBy c i4 x1_ σ).bind (fun y5 => (if y5.1 = 0 then zl (x3_ + 1) (fun (v8 : Int32) => (c7_passTreasures_L2 n c x1_ x2_ v8 y5.2)) else zl (zo (c 4) x3_) (fun (o9 : Option Nat) => (Option.bind o9 (fun (i10 : Nat) => (if i10 < c 1 then ((c6_comeTo c i10 x2_ (y5.2 33 0) y5.2).bind (fun y11 => zl (x3_ + 1) (fun (v13 : Int32) => (c7_passTreasures_L2 n c x1_ x2_ v13 y11.2)))) else none))))))) else none)))) else none)) = some r := hF
    refine Z_iload_n (i := 3) (pc' := 3) dX7_passTreasures_2 rfl rfl rfl ?_
    refine Z_aload_n (i := 0) (pc' := 4) dX7_passTreasures_3 rfl rfl rfl ?_
    refine Z_get (v := .int (σ 32 0)) (pc' := 7) 9 zinX7 rfl (by decide) lkX7_60 (eC_0 hG) rfl dX7_passTreasures_4 rfl ?_
    refine Z_icmp_ge (tgt := 43) (pc' := 10) dX7_passTreasures_7 (by decide) rfl (fun h1 => ?_) (fun h1 => ?_)
    · rw [if_pos h1] at hF
      cases hF
      exact Z_sub (vs' := [none, none, none, none]) (zSb_of _ _ trivial) hE
    · rw [if_neg h1] at hF
      refine Z_aload_n (i := 0) (pc' := 11) dX7_passTreasures_10 rfl rfl rfl ?_
      refine Z_get (v := .ref (ad 56)) (pc' := 14) 3 zinX7 rfl (by decide) lkX7_31 (eC_0 hG) rfl dX7_passTreasures_11 rfl ?_
      refine Z_iload_n (i := 3) (pc' := 15) dX7_passTreasures_14 rfl rfl rfl ?_
      obtain ⟨h2, hF⟩ := ck_of hF
      obtain ⟨o3, ho3, hF⟩ := zl_of hF
      refine Z_aaldC (pc' := 16) (o := o3) (eC_7 hG) (zIn_in h2) ho3 dX7_passTreasures_15 rfl ?_
      refine Z_iload_n (i := 1) (pc' := 17) dX7_passTreasures_16 rfl rfl rfl ?_
      obtain ⟨i4, hi4, hN⟩ := bd_of hF
      clear hF
      subst hi4
      have hF := hN
      clear hN
      obtain ⟨h6, hF⟩ := ck_of hF
      obtain ⟨y5, hy5, hF⟩ := bd_of hF
      refine Z_callVi (As := [.int x1_]) (st := []) (pc' := 20) (k' := 0) (n' := 0) (qX6_isHeldBy l hG hy5) ckX6_isHeldBy kvX6_isHeldBy mlX7_126 (eC_tr hG h6) rfl rfl rfl (Nat.le_of_ble_eq_true rfl) ⟨Nat.le_of_ble_eq_true rfl, Nat.le_of_ble_eq_true rfl⟩ ⟨Nat.le_of_ble_eq_true rfl, Nat.le_of_ble_eq_true rfl⟩ dX7_passTreasures_17 rfl rfl rfl ?_
      refine Z_if_eq (tgt := 37) (pc' := 23) dX7_passTreasures_20 (by decide) rfl (fun h7 => ?_) (fun h7 => ?_)
      · rw [if_pos h7] at hF
        obtain ⟨v8, hv8, hF⟩ := zl_of hF
        refine Z_iinc (i := 3) (v := v8) (vs' := [some (.ref (ad 0)), some (.int x1_), some (.int x2_), some (.int v8)]) (pc' := 40) dX7_passTreasures_37 rfl (by rw [hv8]; rfl) (by decide) rfl rfl ?_
        refine Z_goto (tgt := 2) dX7_passTreasures_40 (by decide) ?_
        exact Z_sub (vs' := [some (.ref (ad 0)), some (.int x1_), some (.int x2_), some (.int v8)]) (zSb_of _ _ ⟨rfl, ⟨rfl, ⟨rfl, ⟨rfl, trivial⟩⟩⟩⟩) (ih x1_ x2_ v8 y5.2 _ hF hE)
      · rw [if_neg h7] at hF
        refine Z_aload_n (i := 0) (pc' := 24) dX7_passTreasures_23 rfl rfl rfl ?_
        refine Z_get (v := .ref (ad 56)) (pc' := 27) 3 zinX7 rfl (by decide) lkX7_31 (eC_0 hG) rfl dX7_passTreasures_24 rfl ?_
        refine Z_iload_n (i := 3) (pc' := 28) dX7_passTreasures_27 rfl rfl rfl ?_
        obtain ⟨o9, ho9, hF⟩ := zl_of hF
        refine Z_aaldC (pc' := 29) (o := o9) (eC_7 hG) (zIn_in h2) ho9 dX7_passTreasures_28 rfl ?_
        refine Z_iload_n (i := 2) (pc' := 30) dX7_passTreasures_29 rfl rfl rfl ?_
        refine Z_aload_n (i := 0) (pc' := 31) dX7_passTreasures_30 rfl rfl rfl ?_
        refine Z_get (v := .int (y5.2 33 0)) (pc' := 34) 10 zinX7 rfl (by decide) lkX7_63 (eC_0 hG) rfl dX7_passTreasures_31 rfl ?_
        obtain ⟨i10, hi10, hN⟩ := bd_of hF
        clear hF
        subst hi10
        have hF := hN
        clear hN
        obtain ⟨h12, hF⟩ := ck_of hF
        obtain ⟨y11, hy11, hF⟩ := bd_of hF
        refine Z_callVv (As := [.int x2_, .int (y5.2 33 0)]) (st := []) (pc' := 37) (k' := 0) (n' := 0) (qX6_comeTo l hG hy11) ckX6_comeTo kvX6_comeTo mlX7_103 (eC_tr hG h12) rfl rfl rfl (Nat.le_of_ble_eq_true rfl) ⟨Nat.le_of_ble_eq_true rfl, Nat.le_of_ble_eq_true rfl⟩ ⟨Nat.le_of_ble_eq_true rfl, Nat.le_of_ble_eq_true rfl⟩ dX7_passTreasures_34 rfl rfl rfl ?_
        obtain ⟨v13, hv13, hF⟩ := zl_of hF
        refine Z_iinc (i := 3) (v := v13) (vs' := [some (.ref (ad 0)), some (.int x1_), some (.int x2_), some (.int v13)]) (pc' := 40) dX7_passTreasures_37 rfl (by rw [hv13]; rfl) (by decide) rfl rfl ?_
        refine Z_goto (tgt := 2) dX7_passTreasures_40 (by decide) ?_
        exact Z_sub (vs' := [some (.ref (ad 0)), some (.int x1_), some (.int x2_), some (.int v13)]) (zSb_of _ _ ⟨rfl, ⟨rfl, ⟨rfl, ⟨rfl, trivial⟩⟩⟩⟩) (ih x1_ x2_ v13 y11.2 _ hF hE)
set_option maxHeartbeats 4000000 in
set_option maxRecDepth 100000 in
theorem qX7_passTreasures (l : Launch) {c ad dec : Nat → Nat} (hG : cG c ad dec) {x1 : Int32} {x2 : Int32} {σ : zS} {w : Int32 × zS} (hF : c7_passTreasures c x1 x2 σ = some w) : zMet l yX7_passTreasures cX7_passTreasures 4 none rmX7_passTreasures [.ref (ad 0), .int x1, .int x2] (mC c ad dec σ) (fun v M' => v = none ∧ M' = (mC c ad dec w.2)) := by
  refine zMet.ofZ (vs := [some (.ref (ad 0)), some (.int x1), some (.int x2), none]) (by decide) rfl (zCt_of _ ⟨rfl, ⟨rfl, ⟨rfl, trivial⟩⟩⟩) (Nat.le_of_ble_eq_true rfl) (fun D => ?_)
  unfold c7_passTreasures at hF
  refine Z_iconst (v := 0) (pc' := 1) dX7_passTreasures_0 (by decide) rfl ?_
  refine Z_istore_nE (i := 3) (x' := (0 : Int32)) (vs' := [some (.ref (ad 0)), some (.int x1), some (.int x2), some (.int (0 : Int32))]) (pc' := 2) dX7_passTreasures_1 rfl rfl (by decide) rfl rfl ?_
  obtain ⟨r14, hr14, hF⟩ := bd_of hF
  refine Z_sub (vs' := [some (.ref (ad 0)), some (.int x1), some (.int x2), some (.int (0 : Int32))]) (zSb_of _ _ ⟨rfl, ⟨rfl, ⟨rfl, ⟨rfl, trivial⟩⟩⟩⟩) (qX7_passTreasures_L2 hG zF x1 x2 (0 : Int32) σ _ hr14 ?_)
  cases hF
  exact Z_vret dX7_passTreasures_43 rfl (Nat.le_refl _) (Nat.le_refl _) ⟨rfl, rfl⟩
abbrev rmX7_passPartners : Room := { frames := 1, cells := 0, slots := 0, locals := 21 }
def c7_passPartners_L2 (N : Nat) (c : Nat → Nat) (x1_ : Int32) (x2_ : Int32) (x3_ : Int32) (σ : zS) : Option (zS) := match N with
  | 0 => none
  | n + 1 => (if (σ 31 0) ≤ x3_ then some (σ) else (if zIn x3_ 16 = true then zl (zo (c 3) x3_) (fun (o3 : Option Nat) => (Option.bind o3 (fun (i4 : Nat) => (if i4 < c 0 then ((c3_isPartnerOf c i4 x1_ σ).bind (fun y5 => (if y5.1 = 0 then zl (x3_ + 1) (fun (v8 : Int32) => (c7_passPartners_L2 n c x1_ x2_ v8 y5.2)) else zl (zo (c 3) x3_) (fun (o9 : Option Nat) => (Option.bind o9 (fun (i10 : Nat) => (if i10 < c 0 then ((c3_dropPartner c i10 x1_ y5.2).bind (fun y11 => zl (zo (c 3) x3_) (fun (o13 : Option Nat) => (Option.bind o13 (fun (i14 : Nat) => (if i14 < c 0 then ((c3_addPartner c i14 x2_ y11.2).bind (fun y15 => (if zIn x1_ 16 = true then zl (zo (c 3) x1_) (fun (o18 : Option Nat) => (Option.bind o18 (fun (i19 : Nat) => (if i19 < c 0 then ((c3_dropPartner c i19 x3_ y15.2).bind (fun y20 => (if zIn x2_ 16 = true then zl (zo (c 3) x2_) (fun (o23 : Option Nat) => (Option.bind o23 (fun (i24 : Nat) => (if i24 < c 0 then ((c3_addPartner c i24 x3_ y20.2).bind (fun y25 => zl (x3_ + 1) (fun (v27 : Int32) => (c7_passPartners_L2 n c x1_ x2_ v27 y25.2)))) else none)))) else none))) else none)))) else none))) else none)))))) else none))))))) else none)))) else none))
def c7_passPartners (c : Nat → Nat) (x1 : Int32) (x2 : Int32) (σ : zS) : Option (Int32 × zS) := ((c7_passPartners_L2 zF c x1 x2 (0 : Int32) σ).bind (fun r28 => some (0, r28)))
set_option maxHeartbeats 4000000 in
set_option maxRecDepth 100000 in
theorem qX7_passPartners_L2 {l : Launch} {D : va_G} {M0 : zM} {Q : Option Value → zM → Prop} {c ad dec : Nat → Nat} (hG : cG c ad dec) : ∀ (n : Nat) (x1_ : Int32) (x2_ : Int32) (x3_ : Int32) (σ : zS) (r : (zS)), c7_passPartners_L2 n c x1_ x2_ x3_ σ = some r → (Z l yX7_passPartners cX7_passPartners 4 none rmX7_passPartners 0 0 D M0 Q 0 0 69 [none, none, none, none] [] (mC c ad dec r)) → Z l yX7_passPartners cX7_passPartners 4 none rmX7_passPartners 0 0 D M0 Q 0 0 2 [some (.ref (ad 0)), some (.int x1_), some (.int x2_), some (.int x3_)] [] (mC c ad dec σ) := by
  intro n
  induction n with
  | zero =>
    intro x1_ x2_ x3_ σ r hF hE
    exact absurd (show (none : Option (zS)) = some r from hF) (by simp)
  | succ n ih =>
    intro x1_ x2_ x3_ σ r hF hE
    replace hF : (if (σ 31 0) ≤ x3_ then some (σ) else (if zIn x3_ 16 = true then zl (zo (c 3) x3_) (fun (o3 : Option Nat) => (Option.bind o3 (fun (i4 : Nat) => (if i4 < c 0 then ((c3_isPartnerOf c i4 x1_ σ).bind (fun y5 => (if y5.1 = 0 then zl (x3_ + 1) (fun (v8 : Int32) => (c7_passPartners_L2 n c x1_ x2_ v8 y5.2)) else zl (zo (c 3) x3_) (fun (o9 : Option Nat) => (Option.bind o9 (fun (i10 : Nat) => (if i10 < c 0 then ((c3_dropPartner c i10 x1_ y5.2).bind (fun y11 => zl (zo (c 3) x3_) (fun (o13 : Option Nat) => (Option.bind o13 (fun (i14 : Nat) => (if i14 < c 0 then ((c3_addPartner c i14 x2_ y11.2).bind (fun y15 => (if zIn x1_ 16 = true then zl (zo (c 3) x1_) (fun (o18 : Option Nat) => (Option.bind o18 (fun (i19 : Nat) => (if i19 < c 0 then ((c3_dropPartner c i19 x3_ y15.2).bind (fun y20 => (if zIn x2_ 16 = true then zl (zo (c 3) x2_) (fun (o23 : Option Nat) => (Option.bind o23 (fun (i24 : Nat) => (if i24 < c 0 then ((c3_addPartner c i24 x3_ y20.2).bind (fun y25 => zl (x3_ + 1) (fun (v27 : Int32) => (c7_passPartners_L2 n c x1_ x2_ v27 y25.2)))) else none)))) else none))) else none)))) else none))) else none)))))) else none))))))) else none)))) else none)) = some r := hF
    refine Z_iload_n (i := 3) (pc' := 3) dX7_passPartners_2 rfl rfl rfl ?_
    refine Z_aload_n (i := 0) (pc' := 4) dX7_passPartners_3 rfl rfl rfl ?_
    refine Z_get (v := .int (σ 31 0)) (pc' := 7) 8 zinX7 rfl (by decide) lkX7_57 (eC_0 hG) rfl dX7_passPartners_4 rfl ?_
    refine Z_icmp_ge (tgt := 69) (pc' := 10) dX7_passPartners_7 (by decide) rfl (fun h1 => ?_) (fun h1 => ?_)
    · rw [if_pos h1] at hF
      cases hF
      exact Z_sub (vs' := [none, none, none, none]) (zSb_of _ _ trivial) hE
    · rw [if_neg h1] at hF
      refine Z_aload_n (i := 0) (pc' := 11) dX7_passPartners_10 rfl rfl rfl ?_
      refine Z_get (v := .ref (ad 48)) (pc' := 14) 2 zinX7 rfl (by decide) lkX7_25 (eC_0 hG) rfl dX7_passPartners_11 rfl ?_
      refine Z_iload_n (i := 3) (pc' := 15) dX7_passPartners_14 rfl rfl rfl ?_
      obtain ⟨h2, hF⟩ := ck_of hF
      obtain ⟨o3, ho3, hF⟩ := zl_of hF
      refine Z_aaldC (pc' := 16) (o := o3) (eC_6 hG) (zIn_in h2) ho3 dX7_passPartners_15 rfl ?_
      refine Z_iload_n (i := 1) (pc' := 17) dX7_passPartners_16 rfl rfl rfl ?_
      obtain ⟨i4, hi4, hN⟩ := bd_of hF
      clear hF
      subst hi4
      have hF := hN
      clear hN
      obtain ⟨h6, hF⟩ := ck_of hF
      obtain ⟨y5, hy5, hF⟩ := bd_of hF
      refine Z_callVi (As := [.int x1_]) (st := []) (pc' := 20) (k' := 0) (n' := 0) (qX3_isPartnerOf l hG hy5) ckX3_isPartnerOf kvX3_isPartnerOf mlX7_87 (eC_man hG h6) rfl rfl rfl (Nat.le_of_ble_eq_true rfl) ⟨Nat.le_of_ble_eq_true rfl, Nat.le_of_ble_eq_true rfl⟩ ⟨Nat.le_of_ble_eq_true rfl, Nat.le_of_ble_eq_true rfl⟩ dX7_passPartners_17 rfl rfl rfl ?_
      refine Z_if_eq (tgt := 63) (pc' := 23) dX7_passPartners_20 (by decide) rfl (fun h7 => ?_) (fun h7 => ?_)
      · rw [if_pos h7] at hF
        obtain ⟨v8, hv8, hF⟩ := zl_of hF
        refine Z_iinc (i := 3) (v := v8) (vs' := [some (.ref (ad 0)), some (.int x1_), some (.int x2_), some (.int v8)]) (pc' := 66) dX7_passPartners_63 rfl (by rw [hv8]; rfl) (by decide) rfl rfl ?_
        refine Z_goto (tgt := 2) dX7_passPartners_66 (by decide) ?_
        exact Z_sub (vs' := [some (.ref (ad 0)), some (.int x1_), some (.int x2_), some (.int v8)]) (zSb_of _ _ ⟨rfl, ⟨rfl, ⟨rfl, ⟨rfl, trivial⟩⟩⟩⟩) (ih x1_ x2_ v8 y5.2 _ hF hE)
      · rw [if_neg h7] at hF
        refine Z_aload_n (i := 0) (pc' := 24) dX7_passPartners_23 rfl rfl rfl ?_
        refine Z_get (v := .ref (ad 48)) (pc' := 27) 2 zinX7 rfl (by decide) lkX7_25 (eC_0 hG) rfl dX7_passPartners_24 rfl ?_
        refine Z_iload_n (i := 3) (pc' := 28) dX7_passPartners_27 rfl rfl rfl ?_
        obtain ⟨o9, ho9, hF⟩ := zl_of hF
        refine Z_aaldC (pc' := 29) (o := o9) (eC_6 hG) (zIn_in h2) ho9 dX7_passPartners_28 rfl ?_
        refine Z_iload_n (i := 1) (pc' := 30) dX7_passPartners_29 rfl rfl rfl ?_
        obtain ⟨i10, hi10, hN⟩ := bd_of hF
        clear hF
        subst hi10
        have hF := hN
        clear hN
        obtain ⟨h12, hF⟩ := ck_of hF
        obtain ⟨y11, hy11, hF⟩ := bd_of hF
        refine Z_callVv (As := [.int x1_]) (st := []) (pc' := 33) (k' := 0) (n' := 0) (qX3_dropPartner l hG hy11) ckX3_dropPartner kvX3_dropPartner mlX7_218 (eC_man hG h12) rfl rfl rfl (Nat.le_of_ble_eq_true rfl) ⟨Nat.le_of_ble_eq_true rfl, Nat.le_of_ble_eq_true rfl⟩ ⟨Nat.le_of_ble_eq_true rfl, Nat.le_of_ble_eq_true rfl⟩ dX7_passPartners_30 rfl rfl rfl ?_
        refine Z_aload_n (i := 0) (pc' := 34) dX7_passPartners_33 rfl rfl rfl ?_
        refine Z_get (v := .ref (ad 48)) (pc' := 37) 2 zinX7 rfl (by decide) lkX7_25 (eC_0 hG) rfl dX7_passPartners_34 rfl ?_
        refine Z_iload_n (i := 3) (pc' := 38) dX7_passPartners_37 rfl rfl rfl ?_
        obtain ⟨o13, ho13, hF⟩ := zl_of hF
        refine Z_aaldC (pc' := 39) (o := o13) (eC_6 hG) (zIn_in h2) ho13 dX7_passPartners_38 rfl ?_
        refine Z_iload_n (i := 2) (pc' := 40) dX7_passPartners_39 rfl rfl rfl ?_
        obtain ⟨i14, hi14, hN⟩ := bd_of hF
        clear hF
        subst hi14
        have hF := hN
        clear hN
        obtain ⟨h16, hF⟩ := ck_of hF
        obtain ⟨y15, hy15, hF⟩ := bd_of hF
        refine Z_callVv (As := [.int x2_]) (st := []) (pc' := 43) (k' := 0) (n' := 0) (qX3_addPartner l hG hy15) ckX3_addPartner kvX3_addPartner mlX7_97 (eC_man hG h16) rfl rfl rfl (Nat.le_of_ble_eq_true rfl) ⟨Nat.le_of_ble_eq_true rfl, Nat.le_of_ble_eq_true rfl⟩ ⟨Nat.le_of_ble_eq_true rfl, Nat.le_of_ble_eq_true rfl⟩ dX7_passPartners_40 rfl rfl rfl ?_
        refine Z_aload_n (i := 0) (pc' := 44) dX7_passPartners_43 rfl rfl rfl ?_
        refine Z_get (v := .ref (ad 48)) (pc' := 47) 2 zinX7 rfl (by decide) lkX7_25 (eC_0 hG) rfl dX7_passPartners_44 rfl ?_
        refine Z_iload_n (i := 1) (pc' := 48) dX7_passPartners_47 rfl rfl rfl ?_
        obtain ⟨h17, hF⟩ := ck_of hF
        obtain ⟨o18, ho18, hF⟩ := zl_of hF
        refine Z_aaldC (pc' := 49) (o := o18) (eC_6 hG) (zIn_in h17) ho18 dX7_passPartners_48 rfl ?_
        refine Z_iload_n (i := 3) (pc' := 50) dX7_passPartners_49 rfl rfl rfl ?_
        obtain ⟨i19, hi19, hN⟩ := bd_of hF
        clear hF
        subst hi19
        have hF := hN
        clear hN
        obtain ⟨h21, hF⟩ := ck_of hF
        obtain ⟨y20, hy20, hF⟩ := bd_of hF
        refine Z_callVv (As := [.int x3_]) (st := []) (pc' := 53) (k' := 0) (n' := 0) (qX3_dropPartner l hG hy20) ckX3_dropPartner kvX3_dropPartner mlX7_218 (eC_man hG h21) rfl rfl rfl (Nat.le_of_ble_eq_true rfl) ⟨Nat.le_of_ble_eq_true rfl, Nat.le_of_ble_eq_true rfl⟩ ⟨Nat.le_of_ble_eq_true rfl, Nat.le_of_ble_eq_true rfl⟩ dX7_passPartners_50 rfl rfl rfl ?_
        refine Z_aload_n (i := 0) (pc' := 54) dX7_passPartners_53 rfl rfl rfl ?_
        refine Z_get (v := .ref (ad 48)) (pc' := 57) 2 zinX7 rfl (by decide) lkX7_25 (eC_0 hG) rfl dX7_passPartners_54 rfl ?_
        refine Z_iload_n (i := 2) (pc' := 58) dX7_passPartners_57 rfl rfl rfl ?_
        obtain ⟨h22, hF⟩ := ck_of hF
        obtain ⟨o23, ho23, hF⟩ := zl_of hF
        refine Z_aaldC (pc' := 59) (o := o23) (eC_6 hG) (zIn_in h22) ho23 dX7_passPartners_58 rfl ?_
        refine Z_iload_n (i := 3) (pc' := 60) dX7_passPartners_59 rfl rfl rfl ?_
        obtain ⟨i24, hi24, hN⟩ := bd_of hF
        clear hF
        subst hi24
        have hF := hN
        clear hN
        obtain ⟨h26, hF⟩ := ck_of hF
        obtain ⟨y25, hy25, hF⟩ := bd_of hF
        refine Z_callVv (As := [.int x3_]) (st := []) (pc' := 63) (k' := 0) (n' := 0) (qX3_addPartner l hG hy25) ckX3_addPartner kvX3_addPartner mlX7_97 (eC_man hG h26) rfl rfl rfl (Nat.le_of_ble_eq_true rfl) ⟨Nat.le_of_ble_eq_true rfl, Nat.le_of_ble_eq_true rfl⟩ ⟨Nat.le_of_ble_eq_true rfl, Nat.le_of_ble_eq_true rfl⟩ dX7_passPartners_60 rfl rfl rfl ?_
        obtain ⟨v27, hv27, hF⟩ := zl_of hF
        refine Z_iinc (i := 3) (v := v27) (vs' := [some (.ref (ad 0)), some (.int x1_), some (.int x2_), some (.int v27)]) (pc' := 66) dX7_passPartners_63 rfl (by rw [hv27]; rfl) (by decide) rfl rfl ?_
        refine Z_goto (tgt := 2) dX7_passPartners_66 (by decide) ?_
        exact Z_sub (vs' := [some (.ref (ad 0)), some (.int x1_), some (.int x2_), some (.int v27)]) (zSb_of _ _ ⟨rfl, ⟨rfl, ⟨rfl, ⟨rfl, trivial⟩⟩⟩⟩) (ih x1_ x2_ v27 y25.2 _ hF hE)
set_option maxHeartbeats 4000000 in
set_option maxRecDepth 100000 in
theorem qX7_passPartners (l : Launch) {c ad dec : Nat → Nat} (hG : cG c ad dec) {x1 : Int32} {x2 : Int32} {σ : zS} {w : Int32 × zS} (hF : c7_passPartners c x1 x2 σ = some w) : zMet l yX7_passPartners cX7_passPartners 4 none rmX7_passPartners [.ref (ad 0), .int x1, .int x2] (mC c ad dec σ) (fun v M' => v = none ∧ M' = (mC c ad dec w.2)) := by
  refine zMet.ofZ (vs := [some (.ref (ad 0)), some (.int x1), some (.int x2), none]) (by decide) rfl (zCt_of _ ⟨rfl, ⟨rfl, ⟨rfl, trivial⟩⟩⟩) (Nat.le_of_ble_eq_true rfl) (fun D => ?_)
  unfold c7_passPartners at hF
  refine Z_iconst (v := 0) (pc' := 1) dX7_passPartners_0 (by decide) rfl ?_
  refine Z_istore_nE (i := 3) (x' := (0 : Int32)) (vs' := [some (.ref (ad 0)), some (.int x1), some (.int x2), some (.int (0 : Int32))]) (pc' := 2) dX7_passPartners_1 rfl rfl (by decide) rfl rfl ?_
  obtain ⟨r28, hr28, hF⟩ := bd_of hF
  refine Z_sub (vs' := [some (.ref (ad 0)), some (.int x1), some (.int x2), some (.int (0 : Int32))]) (zSb_of _ _ ⟨rfl, ⟨rfl, ⟨rfl, ⟨rfl, trivial⟩⟩⟩⟩) (qX7_passPartners_L2 hG zF x1 x2 (0 : Int32) σ _ hr28 ?_)
  cases hF
  exact Z_vret dX7_passPartners_69 rfl (Nat.le_refl _) (Nat.le_refl _) ⟨rfl, rfl⟩
abbrev rmX7_dies : Room := { frames := 2, cells := 0, slots := 0, locals := 45 }
def c7_dies (c : Nat → Nat) (x1 : Int32) (x2 : Int32) (σ : zS) : Option (Int32 × zS) := ((c7_livingMan c x1 σ).bind (fun y1 => zl y1.1 (fun (o2 : Option Nat) => ((c7_livingMan c x2 y1.2).bind (fun y3 => zl y3.1 (fun (o4 : Option Nat) => (zopt o2 (some ((0 : Int32), y3.2)) (fun (i5 : Nat) => (zopt o4 (some ((0 : Int32), y3.2)) (fun (i6 : Nat) => (if x1 = x2 then some ((0 : Int32), y3.2) else (if i5 < c 0 then (if i6 < c 0 then (if (y3.2 40 i5) = (y3.2 40 i6) then zl (zs y3.2 41 i5 (0 : Int32)) (fun (σ11 : zS) => ((c7_passTreasures c x1 x2 σ11).bind (fun y12 => ((c2_pass c x1 x2 y12.2).bind (fun y13 => ((c7_passPartners c x1 x2 y13.2).bind (fun y14 => some ((1 : Int32), y14.2)))))))) else some ((0 : Int32), y3.2)) else none) else none))))))))))))
set_option maxHeartbeats 4000000 in
set_option maxRecDepth 100000 in
theorem qX7_dies (l : Launch) {c ad dec : Nat → Nat} (hG : cG c ad dec) {x1 : Int32} {x2 : Int32} {σ : zS} {w : Int32 × zS} (hF : c7_dies c x1 x2 σ = some w) : zMet l yX7_dies cX7_dies 5 (some .boolean) rmX7_dies [.ref (ad 0), .int x1, .int x2] (mC c ad dec σ) (fun v M' => v = (some (.int w.1)) ∧ M' = (mC c ad dec w.2)) := by
  refine zMet.ofZ (vs := [some (.ref (ad 0)), some (.int x1), some (.int x2), none, none]) (by decide) rfl (zCt_of _ ⟨rfl, ⟨rfl, ⟨rfl, trivial⟩⟩⟩) (Nat.le_of_ble_eq_true rfl) (fun D => ?_)
  unfold c7_dies at hF
  refine Z_aload_n (i := 0) (pc' := 1) dX7_dies_0 rfl rfl rfl ?_
  refine Z_iload_n (i := 1) (pc' := 2) dX7_dies_1 rfl rfl rfl ?_
  obtain ⟨y1, hy1, hF⟩ := bd_of hF
  obtain ⟨o2, ho2, hF⟩ := zl_of hF
  refine Z_callVr (kd := 1) (ad := ad) (o := o2) (As := [.int x1]) (st := []) (pc' := 5) (k' := 0) (n' := 0) ho2 (qX7_livingMan l hG hy1) ckX7_livingMan kvX7_livingMan mlX7_83 (eC_0 hG) rfl rfl rfl (Nat.le_of_ble_eq_true rfl) ⟨Nat.le_of_ble_eq_true rfl, Nat.le_of_ble_eq_true rfl⟩ ⟨Nat.le_of_ble_eq_true rfl, Nat.le_of_ble_eq_true rfl⟩ dX7_dies_2 rfl rfl rfl ?_
  refine Z_astore_nR (v := rv ad 1 o2) (i := 3) (vs' := [some (.ref (ad 0)), some (.int x1), some (.int x2), some (rv ad 1 o2), none]) (pc' := 6) (rv_or _ _ _) dX7_dies_5 rfl (by decide) rfl rfl ?_
  refine Z_aload_n (i := 0) (pc' := 7) dX7_dies_6 rfl rfl rfl ?_
  refine Z_iload_n (i := 2) (pc' := 8) dX7_dies_7 rfl rfl rfl ?_
  obtain ⟨y3, hy3, hF⟩ := bd_of hF
  obtain ⟨o4, ho4, hF⟩ := zl_of hF
  refine Z_callVr (kd := 1) (ad := ad) (o := o4) (As := [.int x2]) (st := []) (pc' := 11) (k' := 0) (n' := 0) ho4 (qX7_livingMan l hG hy3) ckX7_livingMan kvX7_livingMan mlX7_83 (eC_0 hG) rfl rfl rfl (Nat.le_of_ble_eq_true rfl) ⟨Nat.le_of_ble_eq_true rfl, Nat.le_of_ble_eq_true rfl⟩ ⟨Nat.le_of_ble_eq_true rfl, Nat.le_of_ble_eq_true rfl⟩ dX7_dies_8 rfl rfl rfl ?_
  refine Z_astoreR (v := rv ad 1 o4) (i := 4) (vs' := [some (.ref (ad 0)), some (.int x1), some (.int x2), some (rv ad 1 o2), some (rv ad 1 o4)]) (pc' := 13) (rv_or _ _ _) dX7_dies_11 (by decide) rfl rfl ?_
  refine Z_aload_nR (v := rv ad 1 o2) (i := 3) (pc' := 14) (rv_or _ _ _) dX7_dies_13 rfl rfl rfl ?_
  cases o2 with
  | none =>
    replace hF := zopt_n hF
    refine Z_ifnullN (tgt := 39) dX7_dies_14 (by decide) ?_
    refine Z_iconst (v := 0) (pc' := 40) dX7_dies_39 (by decide) rfl ?_
    cases hF
    exact Z_iret (ty := .boolean) (w := (0 : Int32)) dX7_dies_40 rfl rfl (Nat.le_refl _) (Nat.le_refl _) ⟨rfl, rfl⟩
  | some i5 =>
    replace hF := zopt_s hF
    refine Z_ifnull (pc' := 17) dX7_dies_14 rfl ?_
    refine Z_aloadR (v := rv ad 1 o4) (i := 4) (pc' := 19) (rv_or _ _ _) dX7_dies_17 rfl rfl ?_
    cases o4 with
    | none =>
      replace hF := zopt_n hF
      refine Z_ifnullN (tgt := 39) dX7_dies_19 (by decide) ?_
      refine Z_iconst (v := 0) (pc' := 40) dX7_dies_39 (by decide) rfl ?_
      cases hF
      exact Z_iret (ty := .boolean) (w := (0 : Int32)) dX7_dies_40 rfl rfl (Nat.le_refl _) (Nat.le_refl _) ⟨rfl, rfl⟩
    | some i6 =>
      replace hF := zopt_s hF
      refine Z_ifnull (pc' := 22) dX7_dies_19 rfl ?_
      refine Z_iload_n (i := 1) (pc' := 23) dX7_dies_22 rfl rfl rfl ?_
      refine Z_iload_n (i := 2) (pc' := 24) dX7_dies_23 rfl rfl rfl ?_
      refine Z_icmp_eq (tgt := 39) (pc' := 27) dX7_dies_24 (by decide) rfl (fun h7 => ?_) (fun h7 => ?_)
      · rw [if_pos h7] at hF
        refine Z_iconst (v := 0) (pc' := 40) dX7_dies_39 (by decide) rfl ?_
        cases hF
        exact Z_iret (ty := .boolean) (w := (0 : Int32)) dX7_dies_40 rfl rfl (Nat.le_refl _) (Nat.le_refl _) ⟨rfl, rfl⟩
      · rw [if_neg h7] at hF
        refine Z_aload_n (i := 3) (pc' := 28) dX7_dies_27 rfl rfl rfl ?_
        obtain ⟨h8, hF⟩ := ck_of hF
        refine Z_get (v := .int (y3.2 40 i5)) (pc' := 31) 0 zinX3 rfl (by decide) lkX7_90 (eC_man hG h8) rfl dX7_dies_28 rfl ?_
        refine Z_aload (i := 4) (pc' := 33) dX7_dies_31 rfl rfl ?_
        obtain ⟨h9, hF⟩ := ck_of hF
        refine Z_get (v := .int (y3.2 40 i6)) (pc' := 36) 0 zinX3 rfl (by decide) lkX7_90 (eC_man hG h9) rfl dX7_dies_33 rfl ?_
        refine Z_icmp_eq (tgt := 41) (pc' := 39) dX7_dies_36 (by decide) rfl (fun h10 => ?_) (fun h10 => ?_)
        · rw [if_pos h10] at hF
          refine Z_aload_n (i := 3) (pc' := 42) dX7_dies_41 rfl rfl rfl ?_
          refine Z_iconst (v := 0) (pc' := 43) dX7_dies_42 (by decide) rfl ?_
          obtain ⟨σ11, hσ11, hF⟩ := zl_of hF
          refine Z_put (pc' := 46) 1 zinX3 tyX3_ok nmX3 rfl (by decide) lkX7_109 rfl (eC_man hG h8) rfl rfl rfl (Nat.le_of_ble_eq_true rfl) rfl dX7_dies_43 rfl ?_
          refine Z_mem (pman_41 hG h8 hσ11) ?_
          refine Z_aload_n (i := 0) (pc' := 47) dX7_dies_46 rfl rfl rfl ?_
          refine Z_iload_n (i := 1) (pc' := 48) dX7_dies_47 rfl rfl rfl ?_
          refine Z_iload_n (i := 2) (pc' := 49) dX7_dies_48 rfl rfl rfl ?_
          obtain ⟨y12, hy12, hF⟩ := bd_of hF
          refine Z_callVv (As := [.int x1, .int x2]) (st := []) (pc' := 52) (k' := 0) (n' := 0) (qX7_passTreasures l hG hy12) ckX7_passTreasures kvX7_passTreasures mlX7_209 (eC_0 hG) rfl rfl rfl (Nat.le_of_ble_eq_true rfl) ⟨Nat.le_of_ble_eq_true rfl, Nat.le_of_ble_eq_true rfl⟩ ⟨Nat.le_of_ble_eq_true rfl, Nat.le_of_ble_eq_true rfl⟩ dX7_dies_49 rfl rfl rfl ?_
          refine Z_aload_n (i := 0) (pc' := 53) dX7_dies_52 rfl rfl rfl ?_
          refine Z_get (v := .ref (ad 64)) (pc' := 56) 4 zinX7 rfl (by decide) lkX7_38 (eC_0 hG) rfl dX7_dies_53 rfl ?_
          refine Z_iload_n (i := 1) (pc' := 57) dX7_dies_56 rfl rfl rfl ?_
          refine Z_iload_n (i := 2) (pc' := 58) dX7_dies_57 rfl rfl rfl ?_
          obtain ⟨y13, hy13, hF⟩ := bd_of hF
          refine Z_callVv (As := [.int x1, .int x2]) (st := []) (pc' := 61) (k' := 0) (n' := 0) (qX2_pass l hG hy13) ckX2_pass kvX2_pass mlX7_212 (eC_8 hG) rfl rfl rfl (Nat.le_of_ble_eq_true rfl) ⟨Nat.le_of_ble_eq_true rfl, Nat.le_of_ble_eq_true rfl⟩ ⟨Nat.le_of_ble_eq_true rfl, Nat.le_of_ble_eq_true rfl⟩ dX7_dies_58 rfl rfl rfl ?_
          refine Z_aload_n (i := 0) (pc' := 62) dX7_dies_61 rfl rfl rfl ?_
          refine Z_iload_n (i := 1) (pc' := 63) dX7_dies_62 rfl rfl rfl ?_
          refine Z_iload_n (i := 2) (pc' := 64) dX7_dies_63 rfl rfl rfl ?_
          obtain ⟨y14, hy14, hF⟩ := bd_of hF
          refine Z_callVv (As := [.int x1, .int x2]) (st := []) (pc' := 67) (k' := 0) (n' := 0) (qX7_passPartners l hG hy14) ckX7_passPartners kvX7_passPartners mlX7_215 (eC_0 hG) rfl rfl rfl (Nat.le_of_ble_eq_true rfl) ⟨Nat.le_of_ble_eq_true rfl, Nat.le_of_ble_eq_true rfl⟩ ⟨Nat.le_of_ble_eq_true rfl, Nat.le_of_ble_eq_true rfl⟩ dX7_dies_64 rfl rfl rfl ?_
          refine Z_iconst (v := 1) (pc' := 68) dX7_dies_67 (by decide) rfl ?_
          cases hF
          exact Z_iret (ty := .boolean) (w := (1 : Int32)) dX7_dies_68 rfl rfl (Nat.le_refl _) (Nat.le_refl _) ⟨rfl, rfl⟩
        · rw [if_neg h10] at hF
          refine Z_iconst (v := 0) (pc' := 40) dX7_dies_39 (by decide) rfl ?_
          cases hF
          exact Z_iret (ty := .boolean) (w := (0 : Int32)) dX7_dies_40 rfl rfl (Nat.le_refl _) (Nat.le_refl _) ⟨rfl, rfl⟩
abbrev rmX7_lost : Room := { frames := 1, cells := 0, slots := 0, locals := 21 }
def c7_lost (c : Nat → Nat) (x1 : Int32) (σ : zS) : Option (Int32 × zS) := ((c7_anyTreasure c x1 σ).bind (fun y1 => zl y1.1 (fun (o2 : Option Nat) => (zopt o2 (some ((0 : Int32), y1.2)) (fun (i3 : Nat) => (if i3 < c 1 then (if (y1.2 55 i3) = 0 then zl (zs y1.2 55 i3 (1 : Int32)) (fun (σ6 : zS) => zl (zs σ6 56 i3 (σ6 33 0)) (fun (σ7 : zS) => some ((1 : Int32), σ7))) else some ((0 : Int32), y1.2)) else none))))))
set_option maxHeartbeats 4000000 in
set_option maxRecDepth 100000 in
theorem qX7_lost (l : Launch) {c ad dec : Nat → Nat} (hG : cG c ad dec) {x1 : Int32} {σ : zS} {w : Int32 × zS} (hF : c7_lost c x1 σ = some w) : zMet l yX7_lost cX7_lost 3 (some .boolean) rmX7_lost [.ref (ad 0), .int x1] (mC c ad dec σ) (fun v M' => v = (some (.int w.1)) ∧ M' = (mC c ad dec w.2)) := by
  refine zMet.ofZ (vs := [some (.ref (ad 0)), some (.int x1), none]) (by decide) rfl (zCt_of _ ⟨rfl, ⟨rfl, trivial⟩⟩) (Nat.le_of_ble_eq_true rfl) (fun D => ?_)
  unfold c7_lost at hF
  refine Z_aload_n (i := 0) (pc' := 1) dX7_lost_0 rfl rfl rfl ?_
  refine Z_iload_n (i := 1) (pc' := 2) dX7_lost_1 rfl rfl rfl ?_
  obtain ⟨y1, hy1, hF⟩ := bd_of hF
  obtain ⟨o2, ho2, hF⟩ := zl_of hF
  refine Z_callVr (kd := 2) (ad := ad) (o := o2) (As := [.int x1]) (st := []) (pc' := 5) (k' := 0) (n' := 0) ho2 (qX7_anyTreasure l hG hy1) ckX7_anyTreasure kvX7_anyTreasure mlX7_122 (eC_0 hG) rfl rfl rfl (Nat.le_of_ble_eq_true rfl) ⟨Nat.le_of_ble_eq_true rfl, Nat.le_of_ble_eq_true rfl⟩ ⟨Nat.le_of_ble_eq_true rfl, Nat.le_of_ble_eq_true rfl⟩ dX7_lost_2 rfl rfl rfl ?_
  refine Z_astore_nR (v := rv ad 2 o2) (i := 2) (vs' := [some (.ref (ad 0)), some (.int x1), some (rv ad 2 o2)]) (pc' := 6) (rv_or _ _ _) dX7_lost_5 rfl (by decide) rfl rfl ?_
  refine Z_aload_nR (v := rv ad 2 o2) (i := 2) (pc' := 7) (rv_or _ _ _) dX7_lost_6 rfl rfl rfl ?_
  cases o2 with
  | none =>
    replace hF := zopt_n hF
    refine Z_ifnullN (tgt := 17) dX7_lost_7 (by decide) ?_
    refine Z_iconst (v := 0) (pc' := 18) dX7_lost_17 (by decide) rfl ?_
    cases hF
    exact Z_iret (ty := .boolean) (w := (0 : Int32)) dX7_lost_18 rfl rfl (Nat.le_refl _) (Nat.le_refl _) ⟨rfl, rfl⟩
  | some i3 =>
    replace hF := zopt_s hF
    refine Z_ifnull (pc' := 10) dX7_lost_7 rfl ?_
    refine Z_aload_n (i := 2) (pc' := 11) dX7_lost_10 rfl rfl rfl ?_
    obtain ⟨h4, hF⟩ := ck_of hF
    refine Z_get (v := .int (y1.2 55 i3)) (pc' := 14) 5 zinX6 rfl (by decide) lkX7_200 (eC_tr hG h4) rfl dX7_lost_11 rfl ?_
    refine Z_if_eq (tgt := 19) (pc' := 17) dX7_lost_14 (by decide) rfl (fun h5 => ?_) (fun h5 => ?_)
    · rw [if_pos h5] at hF
      refine Z_aload_n (i := 2) (pc' := 20) dX7_lost_19 rfl rfl rfl ?_
      refine Z_iconst (v := 1) (pc' := 21) dX7_lost_20 (by decide) rfl ?_
      obtain ⟨σ6, hσ6, hF⟩ := zl_of hF
      refine Z_put (pc' := 24) 5 zinX6 tyX6_ok nmX6 rfl (by decide) lkX7_200 rfl (eC_tr hG h4) rfl rfl rfl (Nat.le_of_ble_eq_true rfl) rfl dX7_lost_21 rfl ?_
      refine Z_mem (ptr_55 hG h4 hσ6) ?_
      refine Z_aload_n (i := 2) (pc' := 25) dX7_lost_24 rfl rfl rfl ?_
      refine Z_aload_n (i := 0) (pc' := 26) dX7_lost_25 rfl rfl rfl ?_
      refine Z_get (v := .int (σ6 33 0)) (pc' := 29) 10 zinX7 rfl (by decide) lkX7_63 (eC_0 hG) rfl dX7_lost_26 rfl ?_
      obtain ⟨σ7, hσ7, hF⟩ := zl_of hF
      refine Z_put (pc' := 32) 6 zinX6 tyX6_ok nmX6 rfl (by decide) lkX7_221 rfl (eC_tr hG h4) rfl rfl rfl (Nat.le_of_ble_eq_true rfl) rfl dX7_lost_29 rfl ?_
      refine Z_mem (ptr_56 hG h4 hσ7) ?_
      refine Z_iconst (v := 1) (pc' := 33) dX7_lost_32 (by decide) rfl ?_
      cases hF
      exact Z_iret (ty := .boolean) (w := (1 : Int32)) dX7_lost_33 rfl rfl (Nat.le_refl _) (Nat.le_refl _) ⟨rfl, rfl⟩
    · rw [if_neg h5] at hF
      refine Z_iconst (v := 0) (pc' := 18) dX7_lost_17 (by decide) rfl ?_
      cases hF
      exact Z_iret (ty := .boolean) (w := (0 : Int32)) dX7_lost_18 rfl rfl (Nat.le_refl _) (Nat.le_refl _) ⟨rfl, rfl⟩
abbrev rmX7_hasCome : Room := { frames := 2, cells := 0, slots := 0, locals := 44 }
def c7_hasCome (c : Nat → Nat) (x1 : Int32) (x2 : Int32) (x3 : Int32) (σ : zS) : Option (Int32 × zS) := ((c7_anyMan c x2 σ).bind (fun y1 => zl y1.1 (fun (o2 : Option Nat) => (zopt o2 (some ((0 : Int32), y1.2)) (fun (i3 : Nat) => (if i3 < c 0 then ((c7_stepsBetween c (y1.2 40 i3) x3 y1.2).bind (fun y5 => (if (y5.2 33 0) < (x1 + y5.1) then some ((0 : Int32), y5.2) else some ((1 : Int32), y5.2)))) else none))))))
set_option maxHeartbeats 4000000 in
set_option maxRecDepth 100000 in
theorem qX7_hasCome (l : Launch) {c ad dec : Nat → Nat} (hG : cG c ad dec) {x1 : Int32} {x2 : Int32} {x3 : Int32} {σ : zS} {w : Int32 × zS} (hF : c7_hasCome c x1 x2 x3 σ = some w) : zMet l yX7_hasCome cX7_hasCome 5 (some .boolean) rmX7_hasCome [.ref (ad 0), .int x1, .int x2, .int x3] (mC c ad dec σ) (fun v M' => v = (some (.int w.1)) ∧ M' = (mC c ad dec w.2)) := by
  refine zMet.ofZ (vs := [some (.ref (ad 0)), some (.int x1), some (.int x2), some (.int x3), none]) (by decide) rfl (zCt_of _ ⟨rfl, ⟨rfl, ⟨rfl, ⟨rfl, trivial⟩⟩⟩⟩) (Nat.le_of_ble_eq_true rfl) (fun D => ?_)
  unfold c7_hasCome at hF
  refine Z_aload_n (i := 0) (pc' := 1) dX7_hasCome_0 rfl rfl rfl ?_
  refine Z_iload_n (i := 2) (pc' := 2) dX7_hasCome_1 rfl rfl rfl ?_
  obtain ⟨y1, hy1, hF⟩ := bd_of hF
  obtain ⟨o2, ho2, hF⟩ := zl_of hF
  refine Z_callVr (kd := 1) (ad := ad) (o := o2) (As := [.int x2]) (st := []) (pc' := 5) (k' := 0) (n' := 0) ho2 (qX7_anyMan l hG hy1) ckX7_anyMan kvX7_anyMan mlX7_106 (eC_0 hG) rfl rfl rfl (Nat.le_of_ble_eq_true rfl) ⟨Nat.le_of_ble_eq_true rfl, Nat.le_of_ble_eq_true rfl⟩ ⟨Nat.le_of_ble_eq_true rfl, Nat.le_of_ble_eq_true rfl⟩ dX7_hasCome_2 rfl rfl rfl ?_
  refine Z_astoreR (v := rv ad 1 o2) (i := 4) (vs' := [some (.ref (ad 0)), some (.int x1), some (.int x2), some (.int x3), some (rv ad 1 o2)]) (pc' := 7) (rv_or _ _ _) dX7_hasCome_5 (by decide) rfl rfl ?_
  refine Z_aloadR (v := rv ad 1 o2) (i := 4) (pc' := 9) (rv_or _ _ _) dX7_hasCome_7 rfl rfl ?_
  cases o2 with
  | none =>
    replace hF := zopt_n hF
    refine Z_ifnullN (tgt := 35) dX7_hasCome_9 (by decide) ?_
    refine Z_iconst (v := 0) (pc' := 36) dX7_hasCome_35 (by decide) rfl ?_
    cases hF
    exact Z_iret (ty := .boolean) (w := (0 : Int32)) dX7_hasCome_36 rfl rfl (Nat.le_refl _) (Nat.le_refl _) ⟨rfl, rfl⟩
  | some i3 =>
    replace hF := zopt_s hF
    refine Z_ifnull (pc' := 12) dX7_hasCome_9 rfl ?_
    refine Z_iload_n (i := 1) (pc' := 13) dX7_hasCome_12 rfl rfl rfl ?_
    refine Z_aload_n (i := 0) (pc' := 14) dX7_hasCome_13 rfl rfl rfl ?_
    refine Z_aload (i := 4) (pc' := 16) dX7_hasCome_14 rfl rfl ?_
    obtain ⟨h4, hF⟩ := ck_of hF
    refine Z_get (v := .int (y1.2 40 i3)) (pc' := 19) 0 zinX3 rfl (by decide) lkX7_90 (eC_man hG h4) rfl dX7_hasCome_16 rfl ?_
    refine Z_iload_n (i := 3) (pc' := 20) dX7_hasCome_19 rfl rfl rfl ?_
    obtain ⟨y5, hy5, hF⟩ := bd_of hF
    refine Z_callVi (As := [.int (y1.2 40 i3), .int x3]) (st := [.int x1]) (pc' := 23) (k' := 0) (n' := 0) (qX7_stepsBetween l hG hy5) ckX7_stepsBetween kvX7_stepsBetween mlX7_93 (eC_0 hG) rfl rfl rfl (Nat.le_of_ble_eq_true rfl) ⟨Nat.le_of_ble_eq_true rfl, Nat.le_of_ble_eq_true rfl⟩ ⟨Nat.le_of_ble_eq_true rfl, Nat.le_of_ble_eq_true rfl⟩ dX7_hasCome_20 rfl rfl rfl ?_
    refine Z_iadd (pc' := 24) dX7_hasCome_23 rfl ?_
    refine Z_aload_n (i := 0) (pc' := 25) dX7_hasCome_24 rfl rfl rfl ?_
    refine Z_get (v := .int (y5.2 33 0)) (pc' := 28) 10 zinX7 rfl (by decide) lkX7_63 (eC_0 hG) rfl dX7_hasCome_25 rfl ?_
    refine Z_icmp_gt (tgt := 35) (pc' := 31) dX7_hasCome_28 (by decide) rfl (fun h6 => ?_) (fun h6 => ?_)
    · rw [if_pos h6] at hF
      refine Z_iconst (v := 0) (pc' := 36) dX7_hasCome_35 (by decide) rfl ?_
      cases hF
      exact Z_iret (ty := .boolean) (w := (0 : Int32)) dX7_hasCome_36 rfl rfl (Nat.le_refl _) (Nat.le_refl _) ⟨rfl, rfl⟩
    · rw [if_neg h6] at hF
      refine Z_iconst (v := 1) (pc' := 32) dX7_hasCome_31 (by decide) rfl ?_
      refine Z_goto (tgt := 36) dX7_hasCome_32 (by decide) ?_
      cases hF
      exact Z_iret (ty := .boolean) (w := (1 : Int32)) dX7_hasCome_36 rfl rfl (Nat.le_refl _) (Nat.le_refl _) ⟨rfl, rfl⟩
abbrev rmX7_known : Room := { frames := 3, cells := 0, slots := 0, locals := 68 }
def c7_known_L54 (N : Nat) (c : Nat → Nat) (x1_ : Int32) (i3_ : Nat) (x4_ : Int32) (σ : zS) : Option ((Int32 × zS) ⊕ (zS)) := match N with
  | 0 => none
  | n + 1 => (if x4_ < 0 then some (.inr (σ)) else (if i3_ < c 1 then (if zIn x4_ 80 = true then ((c7_hasCome c (σ (1001 + 2 * i3_) (x4_).toNatClampNeg) (σ (1000 + 2 * i3_) (x4_).toNatClampNeg) x1_ σ).bind (fun y12 => (if y12.1 = 0 then zl (x4_ + (-1)) (fun (v14 : Int32) => (c7_known_L54 n c x1_ i3_ v14 y12.2)) else some (.inl ((y12.2 (1000 + 2 * i3_) (x4_).toNatClampNeg), y12.2))))) else none) else none))
def c7_known (c : Nat → Nat) (x1 : Int32) (x2 : Int32) (σ : zS) : Option (Int32 × zS) := ((c7_anyTreasure c x2 σ).bind (fun y1 => zl y1.1 (fun (o2 : Option Nat) => (zopt o2 (some ((-1 : Int32), y1.2)) (fun (i3 : Nat) => ((c7_isIsland c x1 y1.2).bind (fun y4 => (if y4.1 = 0 then some ((-1 : Int32), y4.2) else (if i3 < c 1 then (if (y4.2 55 i3) = 0 then zl ((y4.2 57 i3) - (1 : Int32)) (fun (v8 : Int32) => ((c7_known_L54 zF c x1 i3 v8 y4.2).bind (zsum (fun w => some w) (fun q16 => some ((-1 : Int32), q16))))) else ((c7_hasCome c (y4.2 56 i3) (y4.2 52 i3) x1 y4.2).bind (fun y17 => (if y17.1 = 0 then zl ((y17.2 57 i3) - (1 : Int32)) (fun (v19 : Int32) => ((c7_known_L54 zF c x1 i3 v19 y17.2).bind (zsum (fun w => some w) (fun q21 => some ((-1 : Int32), q21))))) else some ((-2 : Int32), y17.2))))) else none)))))))))
set_option maxHeartbeats 4000000 in
set_option maxRecDepth 100000 in
theorem qX7_known_L54 {l : Launch} {D : va_G} {M0 : zM} {Q : Option Value → zM → Prop} {c ad dec : Nat → Nat} (hG : cG c ad dec) : ∀ (n : Nat) (x1_ : Int32) (i3_ : Nat) (x4_ : Int32) (σ : zS) (r : ((Int32 × zS) ⊕ (zS))), c7_known_L54 n c x1_ i3_ x4_ σ = some r → ((∀ a, r = .inl a → Q (some (.int a.1)) (mC c ad dec a.2))) → ((∀ q, r = .inr q → Z l yX7_known cX7_known 5 (some .int) rmX7_known 0 0 D M0 Q 0 0 95 [none, none, none, none, none] [] (mC c ad dec q))) → Z l yX7_known cX7_known 5 (some .int) rmX7_known 0 0 D M0 Q 0 0 54 [some (.ref (ad 0)), some (.int x1_), none, some (.ref (ad (8 * i3_ + 2))), some (.int x4_)] [] (mC c ad dec σ) := by
  intro n
  induction n with
  | zero =>
    intro x1_ i3_ x4_ σ r hF hI hE
    exact absurd (show (none : Option ((Int32 × zS) ⊕ (zS))) = some r from hF) (by simp)
  | succ n ih =>
    intro x1_ i3_ x4_ σ r hF hI hE
    replace hF : (if x4_ < 0 then some (.inr (σ)) else (if i3_ < c 1 then (if zIn x4_ 80 = true then ((c7_hasCome c (σ (1001 + 2 * i3_) (x4_).toNatClampNeg) (σ (1000 + 2 * i3_) (x4_).toNatClampNeg) x1_ σ).bind (fun y12 => (if y12.1 = 0 then zl (x4_ + (-1)) (fun (v14 : Int32) => (c7_known_L54 n c x1_ i3_ v14 y12.2)) else some (.inl ((y12.2 (1000 + 2 * i3_) (x4_).toNatClampNeg), y12.2))))) else none) else none)) = some r := hF
    refine Z_iload (i := 4) (pc' := 56) dX7_known_54 rfl rfl ?_
    refine Z_if_lt (tgt := 95) (pc' := 59) dX7_known_56 (by decide) rfl (fun h9 => ?_) (fun h9 => ?_)
    · rw [if_pos h9] at hF
      cases hF
      exact Z_sub (vs' := [none, none, none, none, none]) (zSb_of _ _ trivial) (hE _ rfl)
    · rw [if_neg h9] at hF
      refine Z_aload_n (i := 0) (pc' := 60) dX7_known_59 rfl rfl rfl ?_
      refine Z_aload_n (i := 3) (pc' := 61) dX7_known_60 rfl rfl rfl ?_
      obtain ⟨h10, hF⟩ := ck_of hF
      refine Z_get (v := .ref (ad (8 * i3_ + 4))) (pc' := 64) 8 zinX6 rfl (by decide) lkX7_230 (eC_tr hG h10) rfl dX7_known_61 rfl ?_
      refine Z_iload (i := 4) (pc' := 66) dX7_known_64 rfl rfl ?_
      obtain ⟨h11, hF⟩ := ck_of hF
      refine Z_iald (pc' := 67) (eC_hf hG h10) (zIn_in h11) dX7_known_66 rfl ?_
      refine Z_aload_n (i := 3) (pc' := 68) dX7_known_67 rfl rfl rfl ?_
      refine Z_get (v := .ref (ad (8 * i3_ + 3))) (pc' := 71) 7 zinX6 rfl (by decide) lkX7_233 (eC_tr hG h10) rfl dX7_known_68 rfl ?_
      refine Z_iload (i := 4) (pc' := 73) dX7_known_71 rfl rfl ?_
      refine Z_iald (pc' := 74) (eC_hb hG h10) (zIn_in h11) dX7_known_73 rfl ?_
      refine Z_iload_n (i := 1) (pc' := 75) dX7_known_74 rfl rfl rfl ?_
      obtain ⟨y12, hy12, hF⟩ := bd_of hF
      refine Z_callVi (As := [.int (σ (1001 + 2 * i3_) (x4_).toNatClampNeg), .int (σ (1000 + 2 * i3_) (x4_).toNatClampNeg), .int x1_]) (st := []) (pc' := 78) (k' := 0) (n' := 0) (qX7_hasCome l hG hy12) ckX7_hasCome kvX7_hasCome mlX7_224 (eC_0 hG) rfl rfl rfl (Nat.le_of_ble_eq_true rfl) ⟨Nat.le_of_ble_eq_true rfl, Nat.le_of_ble_eq_true rfl⟩ ⟨Nat.le_of_ble_eq_true rfl, Nat.le_of_ble_eq_true rfl⟩ dX7_known_75 rfl rfl rfl ?_
      refine Z_if_eq (tgt := 89) (pc' := 81) dX7_known_78 (by decide) rfl (fun h13 => ?_) (fun h13 => ?_)
      · rw [if_pos h13] at hF
        obtain ⟨v14, hv14, hF⟩ := zl_of hF
        refine Z_iinc (i := 4) (v := v14) (vs' := [some (.ref (ad 0)), some (.int x1_), none, some (.ref (ad (8 * i3_ + 2))), some (.int v14)]) (pc' := 92) dX7_known_89 rfl (by rw [hv14]; rfl) (by decide) rfl rfl ?_
        refine Z_goto (tgt := 54) dX7_known_92 (by decide) ?_
        exact Z_sub (vs' := [some (.ref (ad 0)), some (.int x1_), none, some (.ref (ad (8 * i3_ + 2))), some (.int v14)]) (zSb_of _ _ ⟨rfl, ⟨rfl, ⟨rfl, ⟨rfl, trivial⟩⟩⟩⟩) (ih x1_ i3_ v14 y12.2 _ hF hI hE)
      · rw [if_neg h13] at hF
        refine Z_aload_n (i := 3) (pc' := 82) dX7_known_81 rfl rfl rfl ?_
        refine Z_get (v := .ref (ad (8 * i3_ + 3))) (pc' := 85) 7 zinX6 rfl (by decide) lkX7_233 (eC_tr hG h10) rfl dX7_known_82 rfl ?_
        refine Z_iload (i := 4) (pc' := 87) dX7_known_85 rfl rfl ?_
        refine Z_iald (pc' := 88) (eC_hb hG h10) (zIn_in h11) dX7_known_87 rfl ?_
        cases hF
        exact Z_iret (ty := .int) (w := (y12.2 (1000 + 2 * i3_) (x4_).toNatClampNeg)) dX7_known_88 rfl rfl (Nat.le_refl _) (Nat.le_refl _) (hI _ rfl)
set_option maxHeartbeats 4000000 in
set_option maxRecDepth 100000 in
theorem qX7_known (l : Launch) {c ad dec : Nat → Nat} (hG : cG c ad dec) {x1 : Int32} {x2 : Int32} {σ : zS} {w : Int32 × zS} (hF : c7_known c x1 x2 σ = some w) : zMet l yX7_known cX7_known 5 (some .int) rmX7_known [.ref (ad 0), .int x1, .int x2] (mC c ad dec σ) (fun v M' => v = (some (.int w.1)) ∧ M' = (mC c ad dec w.2)) := by
  refine zMet.ofZ (vs := [some (.ref (ad 0)), some (.int x1), some (.int x2), none, none]) (by decide) rfl (zCt_of _ ⟨rfl, ⟨rfl, ⟨rfl, trivial⟩⟩⟩) (Nat.le_of_ble_eq_true rfl) (fun D => ?_)
  unfold c7_known at hF
  refine Z_aload_n (i := 0) (pc' := 1) dX7_known_0 rfl rfl rfl ?_
  refine Z_iload_n (i := 2) (pc' := 2) dX7_known_1 rfl rfl rfl ?_
  obtain ⟨y1, hy1, hF⟩ := bd_of hF
  obtain ⟨o2, ho2, hF⟩ := zl_of hF
  refine Z_callVr (kd := 2) (ad := ad) (o := o2) (As := [.int x2]) (st := []) (pc' := 5) (k' := 0) (n' := 0) ho2 (qX7_anyTreasure l hG hy1) ckX7_anyTreasure kvX7_anyTreasure mlX7_122 (eC_0 hG) rfl rfl rfl (Nat.le_of_ble_eq_true rfl) ⟨Nat.le_of_ble_eq_true rfl, Nat.le_of_ble_eq_true rfl⟩ ⟨Nat.le_of_ble_eq_true rfl, Nat.le_of_ble_eq_true rfl⟩ dX7_known_2 rfl rfl rfl ?_
  refine Z_astore_nR (v := rv ad 2 o2) (i := 3) (vs' := [some (.ref (ad 0)), some (.int x1), some (.int x2), some (rv ad 2 o2), none]) (pc' := 6) (rv_or _ _ _) dX7_known_5 rfl (by decide) rfl rfl ?_
  refine Z_aload_nR (v := rv ad 2 o2) (i := 3) (pc' := 7) (rv_or _ _ _) dX7_known_6 rfl rfl rfl ?_
  cases o2 with
  | none =>
    replace hF := zopt_n hF
    refine Z_ifnullN (tgt := 18) dX7_known_7 (by decide) ?_
    refine Z_iconst (v := -1) (pc' := 19) dX7_known_18 (by decide) rfl ?_
    cases hF
    exact Z_iret (ty := .int) (w := (-1 : Int32)) dX7_known_19 rfl rfl (Nat.le_refl _) (Nat.le_refl _) ⟨rfl, rfl⟩
  | some i3 =>
    replace hF := zopt_s hF
    refine Z_ifnull (pc' := 10) dX7_known_7 rfl ?_
    refine Z_aload_n (i := 0) (pc' := 11) dX7_known_10 rfl rfl rfl ?_
    refine Z_iload_n (i := 1) (pc' := 12) dX7_known_11 rfl rfl rfl ?_
    obtain ⟨y4, hy4, hF⟩ := bd_of hF
    refine Z_callVi (As := [.int x1]) (st := []) (pc' := 15) (k' := 0) (n' := 0) (qX7_isIsland l hG hy4) ckX7_isIsland kvX7_isIsland mlX7_77 (eC_0 hG) rfl rfl rfl (Nat.le_of_ble_eq_true rfl) ⟨Nat.le_of_ble_eq_true rfl, Nat.le_of_ble_eq_true rfl⟩ ⟨Nat.le_of_ble_eq_true rfl, Nat.le_of_ble_eq_true rfl⟩ dX7_known_12 rfl rfl rfl ?_
    refine Z_if_ne (tgt := 20) (pc' := 18) dX7_known_15 (by decide) rfl (fun h5 => ?_) (fun h5 => ?_)
    · rw [if_neg h5] at hF
      refine Z_aload_n (i := 3) (pc' := 21) dX7_known_20 rfl rfl rfl ?_
      obtain ⟨h6, hF⟩ := ck_of hF
      refine Z_get (v := .int (y4.2 55 i3)) (pc' := 24) 5 zinX6 rfl (by decide) lkX7_200 (eC_tr hG h6) rfl dX7_known_21 rfl ?_
      refine Z_if_eq (tgt := 46) (pc' := 27) dX7_known_24 (by decide) rfl (fun h7 => ?_) (fun h7 => ?_)
      · rw [if_pos h7] at hF
        refine Z_aload_n (i := 3) (pc' := 47) dX7_known_46 rfl rfl rfl ?_
        refine Z_get (v := .int (y4.2 57 i3)) (pc' := 50) 9 zinX6 rfl (by decide) lkX7_227 (eC_tr hG h6) rfl dX7_known_47 rfl ?_
        refine Z_iconst (v := 1) (pc' := 51) dX7_known_50 (by decide) rfl ?_
        refine Z_isub (pc' := 52) dX7_known_51 rfl ?_
        obtain ⟨v8, hv8, hF⟩ := zl_of hF
        refine Z_istoreE (i := 4) (x' := v8) (vs' := [some (.ref (ad 0)), some (.int x1), some (.int x2), some (.ref (ad (8 * i3 + 2))), some (.int v8)]) (pc' := 54) dX7_known_52 hv8 (by decide) rfl rfl ?_
        obtain ⟨r15, hr15, hF⟩ := bd_of hF
        refine Z_sub (vs' := [some (.ref (ad 0)), some (.int x1), none, some (.ref (ad (8 * i3 + 2))), some (.int v8)]) (zSb_of _ _ ⟨rfl, ⟨rfl, ⟨rfl, ⟨rfl, trivial⟩⟩⟩⟩) (qX7_known_L54 hG zF x1 i3 v8 y4.2 _ hr15 (fun w hw => ?_) (fun q16 hq16 => ?_))
        · rw [hw] at hF
          have hF := zsum_l hF
          cases hF
          exact ⟨rfl, rfl⟩
        · rw [hq16] at hF
          replace hF := zsum_r hF
          refine Z_iconst (v := -1) (pc' := 96) dX7_known_95 (by decide) rfl ?_
          cases hF
          exact Z_iret (ty := .int) (w := (-1 : Int32)) dX7_known_96 rfl rfl (Nat.le_refl _) (Nat.le_refl _) ⟨rfl, rfl⟩
      · rw [if_neg h7] at hF
        refine Z_aload_n (i := 0) (pc' := 28) dX7_known_27 rfl rfl rfl ?_
        refine Z_aload_n (i := 3) (pc' := 29) dX7_known_28 rfl rfl rfl ?_
        refine Z_get (v := .int (y4.2 56 i3)) (pc' := 32) 6 zinX6 rfl (by decide) lkX7_221 (eC_tr hG h6) rfl dX7_known_29 rfl ?_
        refine Z_aload_n (i := 3) (pc' := 33) dX7_known_32 rfl rfl rfl ?_
        refine Z_get (v := .int (y4.2 52 i3)) (pc' := 36) 2 zinX6 rfl (by decide) lkX7_197 (eC_tr hG h6) rfl dX7_known_33 rfl ?_
        refine Z_iload_n (i := 1) (pc' := 37) dX7_known_36 rfl rfl rfl ?_
        obtain ⟨y17, hy17, hF⟩ := bd_of hF
        refine Z_callVi (As := [.int (y4.2 56 i3), .int (y4.2 52 i3), .int x1]) (st := []) (pc' := 40) (k' := 0) (n' := 0) (qX7_hasCome l hG hy17) ckX7_hasCome kvX7_hasCome mlX7_224 (eC_0 hG) rfl rfl rfl (Nat.le_of_ble_eq_true rfl) ⟨Nat.le_of_ble_eq_true rfl, Nat.le_of_ble_eq_true rfl⟩ ⟨Nat.le_of_ble_eq_true rfl, Nat.le_of_ble_eq_true rfl⟩ dX7_known_37 rfl rfl rfl ?_
        refine Z_if_eq (tgt := 46) (pc' := 43) dX7_known_40 (by decide) rfl (fun h18 => ?_) (fun h18 => ?_)
        · rw [if_pos h18] at hF
          refine Z_aload_n (i := 3) (pc' := 47) dX7_known_46 rfl rfl rfl ?_
          refine Z_get (v := .int (y17.2 57 i3)) (pc' := 50) 9 zinX6 rfl (by decide) lkX7_227 (eC_tr hG h6) rfl dX7_known_47 rfl ?_
          refine Z_iconst (v := 1) (pc' := 51) dX7_known_50 (by decide) rfl ?_
          refine Z_isub (pc' := 52) dX7_known_51 rfl ?_
          obtain ⟨v19, hv19, hF⟩ := zl_of hF
          refine Z_istoreE (i := 4) (x' := v19) (vs' := [some (.ref (ad 0)), some (.int x1), some (.int x2), some (.ref (ad (8 * i3 + 2))), some (.int v19)]) (pc' := 54) dX7_known_52 hv19 (by decide) rfl rfl ?_
          obtain ⟨r20, hr20, hF⟩ := bd_of hF
          refine Z_sub (vs' := [some (.ref (ad 0)), some (.int x1), none, some (.ref (ad (8 * i3 + 2))), some (.int v19)]) (zSb_of _ _ ⟨rfl, ⟨rfl, ⟨rfl, ⟨rfl, trivial⟩⟩⟩⟩) (qX7_known_L54 hG zF x1 i3 v19 y17.2 _ hr20 (fun w hw => ?_) (fun q21 hq21 => ?_))
          · rw [hw] at hF
            have hF := zsum_l hF
            cases hF
            exact ⟨rfl, rfl⟩
          · rw [hq21] at hF
            replace hF := zsum_r hF
            refine Z_iconst (v := -1) (pc' := 96) dX7_known_95 (by decide) rfl ?_
            cases hF
            exact Z_iret (ty := .int) (w := (-1 : Int32)) dX7_known_96 rfl rfl (Nat.le_refl _) (Nat.le_refl _) ⟨rfl, rfl⟩
        · rw [if_neg h18] at hF
          refine Z_bipush (v := -2) (pc' := 45) dX7_known_43 (by decide) rfl ?_
          cases hF
          exact Z_iret (ty := .int) (w := (-2 : Int32)) dX7_known_45 rfl rfl (Nat.le_refl _) (Nat.le_refl _) ⟨rfl, rfl⟩
    · rw [if_pos h5] at hF
      refine Z_iconst (v := -1) (pc' := 19) dX7_known_18 (by decide) rfl ?_
      cases hF
      exact Z_iret (ty := .int) (w := (-1 : Int32)) dX7_known_19 rfl rfl (Nat.le_refl _) (Nat.le_refl _) ⟨rfl, rfl⟩
abbrev rmX7_way : Room := { frames := 2, cells := 0, slots := 0, locals := 41 }
def c7_way (c : Nat → Nat) (x1 : Int32) (x2 : Int32) (σ : zS) : Option (Int32 × zS) := ((c7_anyTreasure c x1 σ).bind (fun y1 => zl y1.1 (fun (o2 : Option Nat) => (zopt o2 (some ((-1 : Int32), y1.2)) (fun (i3 : Nat) => (if x2 < 0 then some ((-1 : Int32), y1.2) else (if i3 < c 1 then ((c6_holdersKept c i3 y1.2).bind (fun y5 => (if x2 < y5.1 then (if zIn x2 80 = true then some ((y5.2 (1000 + 2 * i3) (x2).toNatClampNeg), y5.2) else none) else some ((-1 : Int32), y5.2)))) else none)))))))
set_option maxHeartbeats 4000000 in
set_option maxRecDepth 100000 in
theorem qX7_way (l : Launch) {c ad dec : Nat → Nat} (hG : cG c ad dec) {x1 : Int32} {x2 : Int32} {σ : zS} {w : Int32 × zS} (hF : c7_way c x1 x2 σ = some w) : zMet l yX7_way cX7_way 4 (some .int) rmX7_way [.ref (ad 0), .int x1, .int x2] (mC c ad dec σ) (fun v M' => v = (some (.int w.1)) ∧ M' = (mC c ad dec w.2)) := by
  refine zMet.ofZ (vs := [some (.ref (ad 0)), some (.int x1), some (.int x2), none]) (by decide) rfl (zCt_of _ ⟨rfl, ⟨rfl, ⟨rfl, trivial⟩⟩⟩) (Nat.le_of_ble_eq_true rfl) (fun D => ?_)
  unfold c7_way at hF
  refine Z_aload_n (i := 0) (pc' := 1) dX7_way_0 rfl rfl rfl ?_
  refine Z_iload_n (i := 1) (pc' := 2) dX7_way_1 rfl rfl rfl ?_
  obtain ⟨y1, hy1, hF⟩ := bd_of hF
  obtain ⟨o2, ho2, hF⟩ := zl_of hF
  refine Z_callVr (kd := 2) (ad := ad) (o := o2) (As := [.int x1]) (st := []) (pc' := 5) (k' := 0) (n' := 0) ho2 (qX7_anyTreasure l hG hy1) ckX7_anyTreasure kvX7_anyTreasure mlX7_122 (eC_0 hG) rfl rfl rfl (Nat.le_of_ble_eq_true rfl) ⟨Nat.le_of_ble_eq_true rfl, Nat.le_of_ble_eq_true rfl⟩ ⟨Nat.le_of_ble_eq_true rfl, Nat.le_of_ble_eq_true rfl⟩ dX7_way_2 rfl rfl rfl ?_
  refine Z_astore_nR (v := rv ad 2 o2) (i := 3) (vs' := [some (.ref (ad 0)), some (.int x1), some (.int x2), some (rv ad 2 o2)]) (pc' := 6) (rv_or _ _ _) dX7_way_5 rfl (by decide) rfl rfl ?_
  refine Z_aload_nR (v := rv ad 2 o2) (i := 3) (pc' := 7) (rv_or _ _ _) dX7_way_6 rfl rfl rfl ?_
  cases o2 with
  | none =>
    replace hF := zopt_n hF
    refine Z_ifnullN (tgt := 22) dX7_way_7 (by decide) ?_
    refine Z_iconst (v := -1) (pc' := 23) dX7_way_22 (by decide) rfl ?_
    cases hF
    exact Z_iret (ty := .int) (w := (-1 : Int32)) dX7_way_23 rfl rfl (Nat.le_refl _) (Nat.le_refl _) ⟨rfl, rfl⟩
  | some i3 =>
    replace hF := zopt_s hF
    refine Z_ifnull (pc' := 10) dX7_way_7 rfl ?_
    refine Z_iload_n (i := 2) (pc' := 11) dX7_way_10 rfl rfl rfl ?_
    refine Z_if_lt (tgt := 22) (pc' := 14) dX7_way_11 (by decide) rfl (fun h4 => ?_) (fun h4 => ?_)
    · rw [if_pos h4] at hF
      refine Z_iconst (v := -1) (pc' := 23) dX7_way_22 (by decide) rfl ?_
      cases hF
      exact Z_iret (ty := .int) (w := (-1 : Int32)) dX7_way_23 rfl rfl (Nat.le_refl _) (Nat.le_refl _) ⟨rfl, rfl⟩
    · rw [if_neg h4] at hF
      refine Z_iload_n (i := 2) (pc' := 15) dX7_way_14 rfl rfl rfl ?_
      refine Z_aload_n (i := 3) (pc' := 16) dX7_way_15 rfl rfl rfl ?_
      obtain ⟨h6, hF⟩ := ck_of hF
      obtain ⟨y5, hy5, hF⟩ := bd_of hF
      refine Z_callVi (As := []) (st := [.int x2]) (pc' := 19) (k' := 0) (n' := 0) (qX6_holdersKept l hG hy5) ckX6_holdersKept kvX6_holdersKept mlX7_236 (eC_tr hG h6) rfl rfl rfl (Nat.le_of_ble_eq_true rfl) ⟨Nat.le_of_ble_eq_true rfl, Nat.le_of_ble_eq_true rfl⟩ ⟨Nat.le_of_ble_eq_true rfl, Nat.le_of_ble_eq_true rfl⟩ dX7_way_16 rfl rfl rfl ?_
      refine Z_icmp_lt (tgt := 24) (pc' := 22) dX7_way_19 (by decide) rfl (fun h7 => ?_) (fun h7 => ?_)
      · rw [if_pos h7] at hF
        refine Z_aload_n (i := 3) (pc' := 25) dX7_way_24 rfl rfl rfl ?_
        refine Z_get (v := .ref (ad (8 * i3 + 3))) (pc' := 28) 7 zinX6 rfl (by decide) lkX7_233 (eC_tr hG h6) rfl dX7_way_25 rfl ?_
        refine Z_iload_n (i := 2) (pc' := 29) dX7_way_28 rfl rfl rfl ?_
        obtain ⟨h8, hF⟩ := ck_of hF
        refine Z_iald (pc' := 30) (eC_hb hG h6) (zIn_in h8) dX7_way_29 rfl ?_
        cases hF
        exact Z_iret (ty := .int) (w := (y5.2 (1000 + 2 * i3) (x2).toNatClampNeg)) dX7_way_30 rfl rfl (Nat.le_refl _) (Nat.le_refl _) ⟨rfl, rfl⟩
      · rw [if_neg h7] at hF
        refine Z_iconst (v := -1) (pc' := 23) dX7_way_22 (by decide) rfl ?_
        cases hF
        exact Z_iret (ty := .int) (w := (-1 : Int32)) dX7_way_23 rfl rfl (Nat.le_refl _) (Nat.le_refl _) ⟨rfl, rfl⟩
abbrev rmX7_closings : Room := { frames := 4, cells := 0, slots := 0, locals := 94 }
def c7_closings_L19 (N : Nat) (c : Nat → Nat) (x1_ : Int32) (x2_ : Int32) (σ : zS) : Option (zS) := match N with
  | 0 => none
  | n + 1 => (if (σ 32 0) ≤ x2_ then some (σ) else (if zIn x2_ 24 = true then zl (zo (c 4) x2_) (fun (o7 : Option Nat) => (Option.bind o7 (fun (i8 : Nat) => (if i8 < c 1 then ((c6_isHeldBy c i8 x1_ σ).bind (fun y9 => (if y9.1 = 0 then zl (x2_ + 1) (fun (v12 : Int32) => (c7_closings_L19 n c x1_ v12 y9.2)) else ((c6_canBeGivenIn c i8 (y9.2 33 0) y9.2).bind (fun y13 => (if y13.1 = 0 then zl (x2_ + 1) (fun (v15 : Int32) => (c7_closings_L19 n c x1_ v15 y13.2)) else ((c4_addTreasure c x2_ i8 y13.2).bind (fun y16 => zl (x2_ + 1) (fun (v17 : Int32) => (c7_closings_L19 n c x1_ v17 y16.2)))))))))) else none)))) else none))
def c7_closings_L70 (N : Nat) (c : Nat → Nat) (x1_ : Int32) (x2_ : Int32) (σ : zS) : Option (zS) := match N with
  | 0 => none
  | n + 1 => (if (σ 35 0) ≤ x2_ then some (σ) else (if zIn x2_ 200 = true then zl (zo (c 5) x2_) (fun (o21 : Option Nat) => (Option.bind o21 (fun (i22 : Nat) => (if i22 < c 2 then ((c1_isOpen c i22 σ).bind (fun y23 => (if y23.1 = 0 then zl (x2_ + 1) (fun (v26 : Int32) => (c7_closings_L70 n c x1_ v26 y23.2)) else (if (y23.2 60 i22) = x1_ then ((c4_addDebt c i22 y23.2).bind (fun y29 => zl (x2_ + 1) (fun (v30 : Int32) => (c7_closings_L70 n c x1_ v30 y29.2)))) else zl (x2_ + 1) (fun (v28 : Int32) => (c7_closings_L70 n c x1_ v28 y23.2)))))) else none)))) else none))
def c7_closings (c : Nat → Nat) (x1 : Int32) (σ : zS) : Option (Int32 × zS) := ((c7_livingMan c x1 σ).bind (fun y1 => zl y1.1 (fun (o2 : Option Nat) => (zopt o2 (some ((-1 : Int32), y1.2)) (fun (i3 : Nat) => ((c4_clear c  y1.2).bind (fun y4 => ((c7_closings_L19 zF c x1 (0 : Int32) y4.2).bind (fun r18 => ((c7_closings_L70 zF c x1 (0 : Int32) r18).bind (fun r31 => ((c4_solve c  r31).bind (fun y32 => some (y32.1, y32.2))))))))))))))
set_option maxHeartbeats 4000000 in
set_option maxRecDepth 100000 in
theorem qX7_closings_L19 {l : Launch} {D : va_G} {M0 : zM} {Q : Option Value → zM → Prop} {c ad dec : Nat → Nat} (hG : cG c ad dec) : ∀ (n : Nat) (x1_ : Int32) (x2_ : Int32) (σ : zS) (r : (zS)), c7_closings_L19 n c x1_ x2_ σ = some r → (Z l yX7_closings cX7_closings 4 (some .int) rmX7_closings 0 0 D M0 Q 0 0 68 [some (.ref (ad 0)), some (.int x1_), none, none] [] (mC c ad dec r)) → Z l yX7_closings cX7_closings 4 (some .int) rmX7_closings 0 0 D M0 Q 0 0 19 [some (.ref (ad 0)), some (.int x1_), some (.int x2_), none] [] (mC c ad dec σ) := by
  intro n
  induction n with
  | zero =>
    intro x1_ x2_ σ r hF hE
    exact absurd (show (none : Option (zS)) = some r from hF) (by simp)
  | succ n ih =>
    intro x1_ x2_ σ r hF hE
    replace hF : (if (σ 32 0) ≤ x2_ then some (σ) else (if zIn x2_ 24 = true then zl (zo (c 4) x2_) (fun (o7 : Option Nat) => (Option.bind o7 (fun (i8 : Nat) => (if i8 < c 1 then ((c6_isHeldBy c i8 x1_ σ).bind (fun y9 => (if y9.1 = 0 then zl (x2_ + 1) (fun (v12 : Int32) => (c7_closings_L19 n c x1_ v12 y9.2)) else ((c6_canBeGivenIn c i8 (y9.2 33 0) y9.2).bind (fun y13 => (if y13.1 = 0 then zl (x2_ + 1) (fun (v15 : Int32) => (c7_closings_L19 n c x1_ v15 y13.2)) else ((c4_addTreasure c x2_ i8 y13.2).bind (fun y16 => zl (x2_ + 1) (fun (v17 : Int32) => (c7_closings_L19 n c x1_ v17 y16.2)))))))))) else none)))) else none)) = some r := hF
    refine Z_iload_n (i := 2) (pc' := 20) dX7_closings_19 rfl rfl rfl ?_
    refine Z_aload_n (i := 0) (pc' := 21) dX7_closings_20 rfl rfl rfl ?_
    refine Z_get (v := .int (σ 32 0)) (pc' := 24) 9 zinX7 rfl (by decide) lkX7_60 (eC_0 hG) rfl dX7_closings_21 rfl ?_
    refine Z_icmp_ge (tgt := 68) (pc' := 27) dX7_closings_24 (by decide) rfl (fun h5 => ?_) (fun h5 => ?_)
    · rw [if_pos h5] at hF
      cases hF
      exact Z_sub (vs' := [some (.ref (ad 0)), some (.int x1_), none, none]) (zSb_of _ _ ⟨rfl, ⟨rfl, trivial⟩⟩) hE
    · rw [if_neg h5] at hF
      refine Z_aload_n (i := 0) (pc' := 28) dX7_closings_27 rfl rfl rfl ?_
      refine Z_get (v := .ref (ad 56)) (pc' := 31) 3 zinX7 rfl (by decide) lkX7_31 (eC_0 hG) rfl dX7_closings_28 rfl ?_
      refine Z_iload_n (i := 2) (pc' := 32) dX7_closings_31 rfl rfl rfl ?_
      obtain ⟨h6, hF⟩ := ck_of hF
      obtain ⟨o7, ho7, hF⟩ := zl_of hF
      refine Z_aaldC (pc' := 33) (o := o7) (eC_7 hG) (zIn_in h6) ho7 dX7_closings_32 rfl ?_
      refine Z_astore_nR (v := rv ad 2 o7) (i := 3) (vs' := [some (.ref (ad 0)), some (.int x1_), some (.int x2_), some (rv ad 2 o7)]) (pc' := 34) (rv_or _ _ _) dX7_closings_33 rfl (by decide) rfl rfl ?_
      refine Z_aload_nR (v := rv ad 2 o7) (i := 3) (pc' := 35) (rv_or _ _ _) dX7_closings_34 rfl rfl rfl ?_
      refine Z_iload_n (i := 1) (pc' := 36) dX7_closings_35 rfl rfl rfl ?_
      obtain ⟨i8, hi8, hN⟩ := bd_of hF
      clear hF
      subst hi8
      have hF := hN
      clear hN
      obtain ⟨h10, hF⟩ := ck_of hF
      obtain ⟨y9, hy9, hF⟩ := bd_of hF
      refine Z_callVi (As := [.int x1_]) (st := []) (pc' := 39) (k' := 0) (n' := 0) (qX6_isHeldBy l hG hy9) ckX6_isHeldBy kvX6_isHeldBy mlX7_126 (eC_tr hG h10) rfl rfl rfl (Nat.le_of_ble_eq_true rfl) ⟨Nat.le_of_ble_eq_true rfl, Nat.le_of_ble_eq_true rfl⟩ ⟨Nat.le_of_ble_eq_true rfl, Nat.le_of_ble_eq_true rfl⟩ dX7_closings_36 rfl rfl rfl ?_
      refine Z_if_eq (tgt := 62) (pc' := 42) dX7_closings_39 (by decide) rfl (fun h11 => ?_) (fun h11 => ?_)
      · rw [if_pos h11] at hF
        obtain ⟨v12, hv12, hF⟩ := zl_of hF
        refine Z_iinc (i := 2) (v := v12) (vs' := [some (.ref (ad 0)), some (.int x1_), some (.int v12), some (.ref (ad (8 * i8 + 2)))]) (pc' := 65) dX7_closings_62 rfl (by rw [hv12]; rfl) (by decide) rfl rfl ?_
        refine Z_goto (tgt := 19) dX7_closings_65 (by decide) ?_
        exact Z_sub (vs' := [some (.ref (ad 0)), some (.int x1_), some (.int v12), none]) (zSb_of _ _ ⟨rfl, ⟨rfl, ⟨rfl, trivial⟩⟩⟩) (ih x1_ v12 y9.2 _ hF hE)
      · rw [if_neg h11] at hF
        refine Z_aload_n (i := 3) (pc' := 43) dX7_closings_42 rfl rfl rfl ?_
        refine Z_aload_n (i := 0) (pc' := 44) dX7_closings_43 rfl rfl rfl ?_
        refine Z_get (v := .int (y9.2 33 0)) (pc' := 47) 10 zinX7 rfl (by decide) lkX7_63 (eC_0 hG) rfl dX7_closings_44 rfl ?_
        obtain ⟨y13, hy13, hF⟩ := bd_of hF
        refine Z_callVi (As := [.int (y9.2 33 0)]) (st := []) (pc' := 50) (k' := 0) (n' := 0) (qX6_canBeGivenIn l hG hy13) ckX6_canBeGivenIn kvX6_canBeGivenIn mlX7_129 (eC_tr hG h10) rfl rfl rfl (Nat.le_of_ble_eq_true rfl) ⟨Nat.le_of_ble_eq_true rfl, Nat.le_of_ble_eq_true rfl⟩ ⟨Nat.le_of_ble_eq_true rfl, Nat.le_of_ble_eq_true rfl⟩ dX7_closings_47 rfl rfl rfl ?_
        refine Z_if_eq (tgt := 62) (pc' := 53) dX7_closings_50 (by decide) rfl (fun h14 => ?_) (fun h14 => ?_)
        · rw [if_pos h14] at hF
          obtain ⟨v15, hv15, hF⟩ := zl_of hF
          refine Z_iinc (i := 2) (v := v15) (vs' := [some (.ref (ad 0)), some (.int x1_), some (.int v15), some (.ref (ad (8 * i8 + 2)))]) (pc' := 65) dX7_closings_62 rfl (by rw [hv15]; rfl) (by decide) rfl rfl ?_
          refine Z_goto (tgt := 19) dX7_closings_65 (by decide) ?_
          exact Z_sub (vs' := [some (.ref (ad 0)), some (.int x1_), some (.int v15), none]) (zSb_of _ _ ⟨rfl, ⟨rfl, ⟨rfl, trivial⟩⟩⟩) (ih x1_ v15 y13.2 _ hF hE)
        · rw [if_neg h14] at hF
          refine Z_aload_n (i := 0) (pc' := 54) dX7_closings_53 rfl rfl rfl ?_
          refine Z_get (v := .ref (ad 80)) (pc' := 57) 5 zinX7 rfl (by decide) lkX7_45 (eC_0 hG) rfl dX7_closings_54 rfl ?_
          refine Z_iload_n (i := 2) (pc' := 58) dX7_closings_57 rfl rfl rfl ?_
          refine Z_aload_n (i := 3) (pc' := 59) dX7_closings_58 rfl rfl rfl ?_
          obtain ⟨y16, hy16, hF⟩ := bd_of hF
          refine Z_callVv (As := [.int x2_, .ref (ad (8 * i8 + 2))]) (st := []) (pc' := 62) (k' := 0) (n' := 0) (qX4_addTreasure l hG hy16) ckX4_addTreasure kvX4_addTreasure mlX7_242 (eC_10 hG) rfl rfl rfl (Nat.le_of_ble_eq_true rfl) ⟨Nat.le_of_ble_eq_true rfl, Nat.le_of_ble_eq_true rfl⟩ ⟨Nat.le_of_ble_eq_true rfl, Nat.le_of_ble_eq_true rfl⟩ dX7_closings_59 rfl rfl rfl ?_
          obtain ⟨v17, hv17, hF⟩ := zl_of hF
          refine Z_iinc (i := 2) (v := v17) (vs' := [some (.ref (ad 0)), some (.int x1_), some (.int v17), some (.ref (ad (8 * i8 + 2)))]) (pc' := 65) dX7_closings_62 rfl (by rw [hv17]; rfl) (by decide) rfl rfl ?_
          refine Z_goto (tgt := 19) dX7_closings_65 (by decide) ?_
          exact Z_sub (vs' := [some (.ref (ad 0)), some (.int x1_), some (.int v17), none]) (zSb_of _ _ ⟨rfl, ⟨rfl, ⟨rfl, trivial⟩⟩⟩) (ih x1_ v17 y16.2 _ hF hE)
set_option maxHeartbeats 4000000 in
set_option maxRecDepth 100000 in
theorem qX7_closings_L70 {l : Launch} {D : va_G} {M0 : zM} {Q : Option Value → zM → Prop} {c ad dec : Nat → Nat} (hG : cG c ad dec) : ∀ (n : Nat) (x1_ : Int32) (x2_ : Int32) (σ : zS) (r : (zS)), c7_closings_L70 n c x1_ x2_ σ = some r → (Z l yX7_closings cX7_closings 4 (some .int) rmX7_closings 0 0 D M0 Q 0 0 120 [some (.ref (ad 0)), none, none, none] [] (mC c ad dec r)) → Z l yX7_closings cX7_closings 4 (some .int) rmX7_closings 0 0 D M0 Q 0 0 70 [some (.ref (ad 0)), some (.int x1_), some (.int x2_), none] [] (mC c ad dec σ) := by
  intro n
  induction n with
  | zero =>
    intro x1_ x2_ σ r hF hE
    exact absurd (show (none : Option (zS)) = some r from hF) (by simp)
  | succ n ih =>
    intro x1_ x2_ σ r hF hE
    replace hF : (if (σ 35 0) ≤ x2_ then some (σ) else (if zIn x2_ 200 = true then zl (zo (c 5) x2_) (fun (o21 : Option Nat) => (Option.bind o21 (fun (i22 : Nat) => (if i22 < c 2 then ((c1_isOpen c i22 σ).bind (fun y23 => (if y23.1 = 0 then zl (x2_ + 1) (fun (v26 : Int32) => (c7_closings_L70 n c x1_ v26 y23.2)) else (if (y23.2 60 i22) = x1_ then ((c4_addDebt c i22 y23.2).bind (fun y29 => zl (x2_ + 1) (fun (v30 : Int32) => (c7_closings_L70 n c x1_ v30 y29.2)))) else zl (x2_ + 1) (fun (v28 : Int32) => (c7_closings_L70 n c x1_ v28 y23.2)))))) else none)))) else none)) = some r := hF
    refine Z_iload_n (i := 2) (pc' := 71) dX7_closings_70 rfl rfl rfl ?_
    refine Z_aload_n (i := 0) (pc' := 72) dX7_closings_71 rfl rfl rfl ?_
    refine Z_get (v := .ref (ad 64)) (pc' := 75) 4 zinX7 rfl (by decide) lkX7_38 (eC_0 hG) rfl dX7_closings_72 rfl ?_
    refine Z_get (v := .int (σ 35 0)) (pc' := 78) 1 zinX2 rfl (by decide) lkX7_246 (eC_8 hG) rfl dX7_closings_75 rfl ?_
    refine Z_icmp_ge (tgt := 120) (pc' := 81) dX7_closings_78 (by decide) rfl (fun h19 => ?_) (fun h19 => ?_)
    · rw [if_pos h19] at hF
      cases hF
      exact Z_sub (vs' := [some (.ref (ad 0)), none, none, none]) (zSb_of _ _ ⟨rfl, trivial⟩) hE
    · rw [if_neg h19] at hF
      refine Z_aload_n (i := 0) (pc' := 82) dX7_closings_81 rfl rfl rfl ?_
      refine Z_get (v := .ref (ad 64)) (pc' := 85) 4 zinX7 rfl (by decide) lkX7_38 (eC_0 hG) rfl dX7_closings_82 rfl ?_
      refine Z_get (v := .ref (ad 72)) (pc' := 88) 0 zinX2 rfl (by decide) lkX7_247 (eC_8 hG) rfl dX7_closings_85 rfl ?_
      refine Z_iload_n (i := 2) (pc' := 89) dX7_closings_88 rfl rfl rfl ?_
      obtain ⟨h20, hF⟩ := ck_of hF
      obtain ⟨o21, ho21, hF⟩ := zl_of hF
      refine Z_aaldC (pc' := 90) (o := o21) (eC_9 hG) (zIn_in h20) ho21 dX7_closings_89 rfl ?_
      refine Z_astore_nR (v := rv ad 5 o21) (i := 3) (vs' := [some (.ref (ad 0)), some (.int x1_), some (.int x2_), some (rv ad 5 o21)]) (pc' := 91) (rv_or _ _ _) dX7_closings_90 rfl (by decide) rfl rfl ?_
      refine Z_aload_nR (v := rv ad 5 o21) (i := 3) (pc' := 92) (rv_or _ _ _) dX7_closings_91 rfl rfl rfl ?_
      obtain ⟨i22, hi22, hN⟩ := bd_of hF
      clear hF
      subst hi22
      have hF := hN
      clear hN
      obtain ⟨h24, hF⟩ := ck_of hF
      obtain ⟨y23, hy23, hF⟩ := bd_of hF
      refine Z_callVi (As := []) (st := []) (pc' := 95) (k' := 0) (n' := 0) (qX1_isOpen l hG hy23) ckX1_isOpen kvX1_isOpen mlX7_251 (eC_db hG h24) rfl rfl rfl (Nat.le_of_ble_eq_true rfl) ⟨Nat.le_of_ble_eq_true rfl, Nat.le_of_ble_eq_true rfl⟩ ⟨Nat.le_of_ble_eq_true rfl, Nat.le_of_ble_eq_true rfl⟩ dX7_closings_92 rfl rfl rfl ?_
      refine Z_if_eq (tgt := 114) (pc' := 98) dX7_closings_95 (by decide) rfl (fun h25 => ?_) (fun h25 => ?_)
      · rw [if_pos h25] at hF
        obtain ⟨v26, hv26, hF⟩ := zl_of hF
        refine Z_iinc (i := 2) (v := v26) (vs' := [some (.ref (ad 0)), some (.int x1_), some (.int v26), some (.ref (ad (8 * i22 + 5)))]) (pc' := 117) dX7_closings_114 rfl (by rw [hv26]; rfl) (by decide) rfl rfl ?_
        refine Z_goto (tgt := 70) dX7_closings_117 (by decide) ?_
        exact Z_sub (vs' := [some (.ref (ad 0)), some (.int x1_), some (.int v26), none]) (zSb_of _ _ ⟨rfl, ⟨rfl, ⟨rfl, trivial⟩⟩⟩) (ih x1_ v26 y23.2 _ hF hE)
      · rw [if_neg h25] at hF
        refine Z_aload_n (i := 3) (pc' := 99) dX7_closings_98 rfl rfl rfl ?_
        refine Z_get (v := .int (y23.2 60 i22)) (pc' := 102) 0 zinX1 rfl (by decide) lkX7_254 (eC_db hG h24) rfl dX7_closings_99 rfl ?_
        refine Z_iload_n (i := 1) (pc' := 103) dX7_closings_102 rfl rfl rfl ?_
        refine Z_icmp_ne (tgt := 114) (pc' := 106) dX7_closings_103 (by decide) rfl (fun h27 => ?_) (fun h27 => ?_)
        · rw [if_neg h27] at hF
          obtain ⟨v28, hv28, hF⟩ := zl_of hF
          refine Z_iinc (i := 2) (v := v28) (vs' := [some (.ref (ad 0)), some (.int x1_), some (.int v28), some (.ref (ad (8 * i22 + 5)))]) (pc' := 117) dX7_closings_114 rfl (by rw [hv28]; rfl) (by decide) rfl rfl ?_
          refine Z_goto (tgt := 70) dX7_closings_117 (by decide) ?_
          exact Z_sub (vs' := [some (.ref (ad 0)), some (.int x1_), some (.int v28), none]) (zSb_of _ _ ⟨rfl, ⟨rfl, ⟨rfl, trivial⟩⟩⟩) (ih x1_ v28 y23.2 _ hF hE)
        · rw [if_pos h27] at hF
          refine Z_aload_n (i := 0) (pc' := 107) dX7_closings_106 rfl rfl rfl ?_
          refine Z_get (v := .ref (ad 80)) (pc' := 110) 5 zinX7 rfl (by decide) lkX7_45 (eC_0 hG) rfl dX7_closings_107 rfl ?_
          refine Z_aload_n (i := 3) (pc' := 111) dX7_closings_110 rfl rfl rfl ?_
          obtain ⟨y29, hy29, hF⟩ := bd_of hF
          refine Z_callVv (As := [.ref (ad (8 * i22 + 5))]) (st := []) (pc' := 114) (k' := 0) (n' := 0) (qX4_addDebt l hG hy29) ckX4_addDebt kvX4_addDebt mlX7_257 (eC_10 hG) rfl rfl rfl (Nat.le_of_ble_eq_true rfl) ⟨Nat.le_of_ble_eq_true rfl, Nat.le_of_ble_eq_true rfl⟩ ⟨Nat.le_of_ble_eq_true rfl, Nat.le_of_ble_eq_true rfl⟩ dX7_closings_111 rfl rfl rfl ?_
          obtain ⟨v30, hv30, hF⟩ := zl_of hF
          refine Z_iinc (i := 2) (v := v30) (vs' := [some (.ref (ad 0)), some (.int x1_), some (.int v30), some (.ref (ad (8 * i22 + 5)))]) (pc' := 117) dX7_closings_114 rfl (by rw [hv30]; rfl) (by decide) rfl rfl ?_
          refine Z_goto (tgt := 70) dX7_closings_117 (by decide) ?_
          exact Z_sub (vs' := [some (.ref (ad 0)), some (.int x1_), some (.int v30), none]) (zSb_of _ _ ⟨rfl, ⟨rfl, ⟨rfl, trivial⟩⟩⟩) (ih x1_ v30 y29.2 _ hF hE)
set_option maxHeartbeats 4000000 in
set_option maxRecDepth 100000 in
theorem qX7_closings (l : Launch) {c ad dec : Nat → Nat} (hG : cG c ad dec) {x1 : Int32} {σ : zS} {w : Int32 × zS} (hF : c7_closings c x1 σ = some w) : zMet l yX7_closings cX7_closings 4 (some .int) rmX7_closings [.ref (ad 0), .int x1] (mC c ad dec σ) (fun v M' => v = (some (.int w.1)) ∧ M' = (mC c ad dec w.2)) := by
  refine zMet.ofZ (vs := [some (.ref (ad 0)), some (.int x1), none, none]) (by decide) rfl (zCt_of _ ⟨rfl, ⟨rfl, trivial⟩⟩) (Nat.le_of_ble_eq_true rfl) (fun D => ?_)
  unfold c7_closings at hF
  refine Z_aload_n (i := 0) (pc' := 1) dX7_closings_0 rfl rfl rfl ?_
  refine Z_iload_n (i := 1) (pc' := 2) dX7_closings_1 rfl rfl rfl ?_
  obtain ⟨y1, hy1, hF⟩ := bd_of hF
  obtain ⟨o2, ho2, hF⟩ := zl_of hF
  refine Z_callVr (kd := 1) (ad := ad) (o := o2) (As := [.int x1]) (st := []) (pc' := 5) (k' := 0) (n' := 0) ho2 (qX7_livingMan l hG hy1) ckX7_livingMan kvX7_livingMan mlX7_83 (eC_0 hG) rfl rfl rfl (Nat.le_of_ble_eq_true rfl) ⟨Nat.le_of_ble_eq_true rfl, Nat.le_of_ble_eq_true rfl⟩ ⟨Nat.le_of_ble_eq_true rfl, Nat.le_of_ble_eq_true rfl⟩ dX7_closings_2 rfl rfl rfl ?_
  cases o2 with
  | none =>
    replace hF := zopt_n hF
    refine Z_ifnonnullN (pc' := 8) dX7_closings_5 rfl ?_
    refine Z_iconst (v := -1) (pc' := 9) dX7_closings_8 (by decide) rfl ?_
    cases hF
    exact Z_iret (ty := .int) (w := (-1 : Int32)) dX7_closings_9 rfl rfl (Nat.le_refl _) (Nat.le_refl _) ⟨rfl, rfl⟩
  | some i3 =>
    replace hF := zopt_s hF
    refine Z_ifnonnull (tgt := 10) dX7_closings_5 (by decide) ?_
    refine Z_aload_n (i := 0) (pc' := 11) dX7_closings_10 rfl rfl rfl ?_
    refine Z_get (v := .ref (ad 80)) (pc' := 14) 5 zinX7 rfl (by decide) lkX7_45 (eC_0 hG) rfl dX7_closings_11 rfl ?_
    obtain ⟨y4, hy4, hF⟩ := bd_of hF
    refine Z_callVv (As := []) (st := []) (pc' := 17) (k' := 0) (n' := 0) (qX4_clear l hG hy4) ckX4_clear kvX4_clear mlX7_239 (eC_10 hG) rfl rfl rfl (Nat.le_of_ble_eq_true rfl) ⟨Nat.le_of_ble_eq_true rfl, Nat.le_of_ble_eq_true rfl⟩ ⟨Nat.le_of_ble_eq_true rfl, Nat.le_of_ble_eq_true rfl⟩ dX7_closings_14 rfl rfl rfl ?_
    refine Z_iconst (v := 0) (pc' := 18) dX7_closings_17 (by decide) rfl ?_
    refine Z_istore_nE (i := 2) (x' := (0 : Int32)) (vs' := [some (.ref (ad 0)), some (.int x1), some (.int (0 : Int32)), none]) (pc' := 19) dX7_closings_18 rfl rfl (by decide) rfl rfl ?_
    obtain ⟨r18, hr18, hF⟩ := bd_of hF
    refine Z_sub (vs' := [some (.ref (ad 0)), some (.int x1), some (.int (0 : Int32)), none]) (zSb_of _ _ ⟨rfl, ⟨rfl, ⟨rfl, trivial⟩⟩⟩) (qX7_closings_L19 hG zF x1 (0 : Int32) y4.2 _ hr18 ?_)
    refine Z_iconst (v := 0) (pc' := 69) dX7_closings_68 (by decide) rfl ?_
    refine Z_istore_nE (i := 2) (x' := (0 : Int32)) (vs' := [some (.ref (ad 0)), some (.int x1), some (.int (0 : Int32)), none]) (pc' := 70) dX7_closings_69 rfl rfl (by decide) rfl rfl ?_
    obtain ⟨r31, hr31, hF⟩ := bd_of hF
    refine Z_sub (vs' := [some (.ref (ad 0)), some (.int x1), some (.int (0 : Int32)), none]) (zSb_of _ _ ⟨rfl, ⟨rfl, ⟨rfl, trivial⟩⟩⟩) (qX7_closings_L70 hG zF x1 (0 : Int32) r18 _ hr31 ?_)
    refine Z_aload_n (i := 0) (pc' := 121) dX7_closings_120 rfl rfl rfl ?_
    refine Z_get (v := .ref (ad 80)) (pc' := 124) 5 zinX7 rfl (by decide) lkX7_45 (eC_0 hG) rfl dX7_closings_121 rfl ?_
    obtain ⟨y32, hy32, hF⟩ := bd_of hF
    refine Z_callVi (As := []) (st := []) (pc' := 127) (k' := 0) (n' := 0) (qX4_solve l hG hy32) ckX4_solve kvX4_solve mlX7_260 (eC_10 hG) rfl rfl rfl (Nat.le_of_ble_eq_true rfl) ⟨Nat.le_of_ble_eq_true rfl, Nat.le_of_ble_eq_true rfl⟩ ⟨Nat.le_of_ble_eq_true rfl, Nat.le_of_ble_eq_true rfl⟩ dX7_closings_124 rfl rfl rfl ?_
    cases hF
    exact Z_iret (ty := .int) (w := y32.1) dX7_closings_127 rfl rfl (Nat.le_refl _) (Nat.le_refl _) ⟨rfl, rfl⟩
abbrev rmX7_closing : Room := { frames := 0, cells := 0, slots := 0, locals := 0 }
def c7_closing (c : Nat → Nat) (x1 : Int32) (σ : zS) : Option (Int32 × zS) := (if x1 < 0 then some ((-1 : Int32), σ) else (if x1 < (σ 37 0) then (if zIn x1 6 = true then some ((σ 17 (x1).toNatClampNeg), σ) else none) else some ((-1 : Int32), σ)))
set_option maxHeartbeats 4000000 in
set_option maxRecDepth 100000 in
theorem qX7_closing (l : Launch) {c ad dec : Nat → Nat} (hG : cG c ad dec) {x1 : Int32} {σ : zS} {w : Int32 × zS} (hF : c7_closing c x1 σ = some w) : zMet l yX7_closing cX7_closing 2 (some .int) rmX7_closing [.ref (ad 0), .int x1] (mC c ad dec σ) (fun v M' => v = (some (.int w.1)) ∧ M' = (mC c ad dec w.2)) := by
  refine zMet.ofZ (vs := [some (.ref (ad 0)), some (.int x1)]) (by decide) rfl (zCt_of _ ⟨rfl, ⟨rfl, trivial⟩⟩) (Nat.le_of_ble_eq_true rfl) (fun D => ?_)
  unfold c7_closing at hF
  refine Z_iload_n (i := 1) (pc' := 1) dX7_closing_0 rfl rfl rfl ?_
  refine Z_if_lt (tgt := 15) (pc' := 4) dX7_closing_1 (by decide) rfl (fun h1 => ?_) (fun h1 => ?_)
  · rw [if_pos h1] at hF
    refine Z_iconst (v := -1) (pc' := 16) dX7_closing_15 (by decide) rfl ?_
    cases hF
    exact Z_iret (ty := .int) (w := (-1 : Int32)) dX7_closing_16 rfl rfl (Nat.le_refl _) (Nat.le_refl _) ⟨rfl, rfl⟩
  · rw [if_neg h1] at hF
    refine Z_iload_n (i := 1) (pc' := 5) dX7_closing_4 rfl rfl rfl ?_
    refine Z_aload_n (i := 0) (pc' := 6) dX7_closing_5 rfl rfl rfl ?_
    refine Z_get (v := .ref (ad 80)) (pc' := 9) 5 zinX7 rfl (by decide) lkX7_45 (eC_0 hG) rfl dX7_closing_6 rfl ?_
    refine Z_get (v := .int (σ 37 0)) (pc' := 12) 6 zinX4 rfl (by decide) lkX7_263 (eC_10 hG) rfl dX7_closing_9 rfl ?_
    refine Z_icmp_lt (tgt := 17) (pc' := 15) dX7_closing_12 (by decide) rfl (fun h2 => ?_) (fun h2 => ?_)
    · rw [if_pos h2] at hF
      refine Z_aload_n (i := 0) (pc' := 18) dX7_closing_17 rfl rfl rfl ?_
      refine Z_get (v := .ref (ad 80)) (pc' := 21) 5 zinX7 rfl (by decide) lkX7_45 (eC_0 hG) rfl dX7_closing_18 rfl ?_
      refine Z_get (v := .ref (ad 136)) (pc' := 24) 8 zinX4 rfl (by decide) lkX7_266 (eC_10 hG) rfl dX7_closing_21 rfl ?_
      refine Z_iload_n (i := 1) (pc' := 25) dX7_closing_24 rfl rfl rfl ?_
      obtain ⟨h3, hF⟩ := ck_of hF
      refine Z_iald (pc' := 26) (eC_17 hG) (zIn_in h3) dX7_closing_25 rfl ?_
      cases hF
      exact Z_iret (ty := .int) (w := (σ 17 (x1).toNatClampNeg)) dX7_closing_26 rfl rfl (Nat.le_refl _) (Nat.le_refl _) ⟨rfl, rfl⟩
    · rw [if_neg h2] at hF
      refine Z_iconst (v := -1) (pc' := 16) dX7_closing_15 (by decide) rfl ?_
      cases hF
      exact Z_iret (ty := .int) (w := (-1 : Int32)) dX7_closing_16 rfl rfl (Nat.le_refl _) (Nat.le_refl _) ⟨rfl, rfl⟩
abbrev rmX7_firstAt : Room := { frames := 3, cells := 0, slots := 0, locals := 70 }
def c7_firstAt_L3 (N : Nat) (c : Nat → Nat) (x1_ : Int32) (x2_ : Int32) (x3_ : Int32) (x4_ : Int32) (σ : zS) : Option ((Int32 × zS) ⊕ (zS)) := match N with
  | 0 => none
  | n + 1 => (if (σ 31 0) ≤ x4_ then some (.inr (σ)) else (if zIn x4_ 16 = true then (if (σ 18 (x4_).toNatClampNeg) = x3_ then ((c7_isOnWay c x1_ x4_ x2_ σ).bind (fun y5 => (if y5.1 = 0 then zl (x4_ + 1) (fun (v7 : Int32) => (c7_firstAt_L3 n c x1_ x2_ x3_ v7 y5.2)) else some (.inl (x4_, y5.2))))) else zl (x4_ + 1) (fun (v4 : Int32) => (c7_firstAt_L3 n c x1_ x2_ x3_ v4 σ))) else none))
def c7_firstAt (c : Nat → Nat) (x1 : Int32) (x2 : Int32) (x3 : Int32) (σ : zS) : Option (Int32 × zS) := ((c7_firstAt_L3 zF c x1 x2 x3 (0 : Int32) σ).bind (zsum (fun w => some w) (fun q9 => some ((-1 : Int32), q9))))
set_option maxHeartbeats 4000000 in
set_option maxRecDepth 100000 in
theorem qX7_firstAt_L3 {l : Launch} {D : va_G} {M0 : zM} {Q : Option Value → zM → Prop} {c ad dec : Nat → Nat} (hG : cG c ad dec) : ∀ (n : Nat) (x1_ : Int32) (x2_ : Int32) (x3_ : Int32) (x4_ : Int32) (σ : zS) (r : ((Int32 × zS) ⊕ (zS))), c7_firstAt_L3 n c x1_ x2_ x3_ x4_ σ = some r → ((∀ a, r = .inl a → Q (some (.int a.1)) (mC c ad dec a.2))) → ((∀ q, r = .inr q → Z l yX7_firstAt cX7_firstAt 5 (some .int) rmX7_firstAt 0 0 D M0 Q 0 0 43 [none, none, none, none, none] [] (mC c ad dec q))) → Z l yX7_firstAt cX7_firstAt 5 (some .int) rmX7_firstAt 0 0 D M0 Q 0 0 3 [some (.ref (ad 0)), some (.int x1_), some (.int x2_), some (.int x3_), some (.int x4_)] [] (mC c ad dec σ) := by
  intro n
  induction n with
  | zero =>
    intro x1_ x2_ x3_ x4_ σ r hF hI hE
    exact absurd (show (none : Option ((Int32 × zS) ⊕ (zS))) = some r from hF) (by simp)
  | succ n ih =>
    intro x1_ x2_ x3_ x4_ σ r hF hI hE
    replace hF : (if (σ 31 0) ≤ x4_ then some (.inr (σ)) else (if zIn x4_ 16 = true then (if (σ 18 (x4_).toNatClampNeg) = x3_ then ((c7_isOnWay c x1_ x4_ x2_ σ).bind (fun y5 => (if y5.1 = 0 then zl (x4_ + 1) (fun (v7 : Int32) => (c7_firstAt_L3 n c x1_ x2_ x3_ v7 y5.2)) else some (.inl (x4_, y5.2))))) else zl (x4_ + 1) (fun (v4 : Int32) => (c7_firstAt_L3 n c x1_ x2_ x3_ v4 σ))) else none)) = some r := hF
    refine Z_iload (i := 4) (pc' := 5) dX7_firstAt_3 rfl rfl ?_
    refine Z_aload_n (i := 0) (pc' := 6) dX7_firstAt_5 rfl rfl rfl ?_
    refine Z_get (v := .int (σ 31 0)) (pc' := 9) 8 zinX7 rfl (by decide) lkX7_57 (eC_0 hG) rfl dX7_firstAt_6 rfl ?_
    refine Z_icmp_ge (tgt := 43) (pc' := 12) dX7_firstAt_9 (by decide) rfl (fun h1 => ?_) (fun h1 => ?_)
    · rw [if_pos h1] at hF
      cases hF
      exact Z_sub (vs' := [none, none, none, none, none]) (zSb_of _ _ trivial) (hE _ rfl)
    · rw [if_neg h1] at hF
      refine Z_aload_n (i := 0) (pc' := 13) dX7_firstAt_12 rfl rfl rfl ?_
      refine Z_get (v := .ref (ad 144)) (pc' := 16) 6 zinX7 rfl (by decide) lkX7_49 (eC_0 hG) rfl dX7_firstAt_13 rfl ?_
      refine Z_iload (i := 4) (pc' := 18) dX7_firstAt_16 rfl rfl ?_
      obtain ⟨h2, hF⟩ := ck_of hF
      refine Z_iald (pc' := 19) (eC_18 hG) (zIn_in h2) dX7_firstAt_18 rfl ?_
      refine Z_iload_n (i := 3) (pc' := 20) dX7_firstAt_19 rfl rfl rfl ?_
      refine Z_icmp_ne (tgt := 37) (pc' := 23) dX7_firstAt_20 (by decide) rfl (fun h3 => ?_) (fun h3 => ?_)
      · rw [if_neg h3] at hF
        obtain ⟨v4, hv4, hF⟩ := zl_of hF
        refine Z_iinc (i := 4) (v := v4) (vs' := [some (.ref (ad 0)), some (.int x1_), some (.int x2_), some (.int x3_), some (.int v4)]) (pc' := 40) dX7_firstAt_37 rfl (by rw [hv4]; rfl) (by decide) rfl rfl ?_
        refine Z_goto (tgt := 3) dX7_firstAt_40 (by decide) ?_
        exact Z_sub (vs' := [some (.ref (ad 0)), some (.int x1_), some (.int x2_), some (.int x3_), some (.int v4)]) (zSb_of _ _ ⟨rfl, ⟨rfl, ⟨rfl, ⟨rfl, ⟨rfl, trivial⟩⟩⟩⟩⟩) (ih x1_ x2_ x3_ v4 σ _ hF hI hE)
      · rw [if_pos h3] at hF
        refine Z_aload_n (i := 0) (pc' := 24) dX7_firstAt_23 rfl rfl rfl ?_
        refine Z_iload_n (i := 1) (pc' := 25) dX7_firstAt_24 rfl rfl rfl ?_
        refine Z_iload (i := 4) (pc' := 27) dX7_firstAt_25 rfl rfl ?_
        refine Z_iload_n (i := 2) (pc' := 28) dX7_firstAt_27 rfl rfl rfl ?_
        obtain ⟨y5, hy5, hF⟩ := bd_of hF
        refine Z_callVi (As := [.int x1_, .int x4_, .int x2_]) (st := []) (pc' := 31) (k' := 0) (n' := 0) (qX7_isOnWay l hG hy5) ckX7_isOnWay kvX7_isOnWay mlX7_135 (eC_0 hG) rfl rfl rfl (Nat.le_of_ble_eq_true rfl) ⟨Nat.le_of_ble_eq_true rfl, Nat.le_of_ble_eq_true rfl⟩ ⟨Nat.le_of_ble_eq_true rfl, Nat.le_of_ble_eq_true rfl⟩ dX7_firstAt_28 rfl rfl rfl ?_
        refine Z_if_eq (tgt := 37) (pc' := 34) dX7_firstAt_31 (by decide) rfl (fun h6 => ?_) (fun h6 => ?_)
        · rw [if_pos h6] at hF
          obtain ⟨v7, hv7, hF⟩ := zl_of hF
          refine Z_iinc (i := 4) (v := v7) (vs' := [some (.ref (ad 0)), some (.int x1_), some (.int x2_), some (.int x3_), some (.int v7)]) (pc' := 40) dX7_firstAt_37 rfl (by rw [hv7]; rfl) (by decide) rfl rfl ?_
          refine Z_goto (tgt := 3) dX7_firstAt_40 (by decide) ?_
          exact Z_sub (vs' := [some (.ref (ad 0)), some (.int x1_), some (.int x2_), some (.int x3_), some (.int v7)]) (zSb_of _ _ ⟨rfl, ⟨rfl, ⟨rfl, ⟨rfl, ⟨rfl, trivial⟩⟩⟩⟩⟩) (ih x1_ x2_ x3_ v7 y5.2 _ hF hI hE)
        · rw [if_neg h6] at hF
          refine Z_iload (i := 4) (pc' := 36) dX7_firstAt_34 rfl rfl ?_
          cases hF
          exact Z_iret (ty := .int) (w := x4_) dX7_firstAt_36 rfl rfl (Nat.le_refl _) (Nat.le_refl _) (hI _ rfl)
set_option maxHeartbeats 4000000 in
set_option maxRecDepth 100000 in
theorem qX7_firstAt (l : Launch) {c ad dec : Nat → Nat} (hG : cG c ad dec) {x1 : Int32} {x2 : Int32} {x3 : Int32} {σ : zS} {w : Int32 × zS} (hF : c7_firstAt c x1 x2 x3 σ = some w) : zMet l yX7_firstAt cX7_firstAt 5 (some .int) rmX7_firstAt [.ref (ad 0), .int x1, .int x2, .int x3] (mC c ad dec σ) (fun v M' => v = (some (.int w.1)) ∧ M' = (mC c ad dec w.2)) := by
  refine zMet.ofZ (vs := [some (.ref (ad 0)), some (.int x1), some (.int x2), some (.int x3), none]) (by decide) rfl (zCt_of _ ⟨rfl, ⟨rfl, ⟨rfl, ⟨rfl, trivial⟩⟩⟩⟩) (Nat.le_of_ble_eq_true rfl) (fun D => ?_)
  unfold c7_firstAt at hF
  refine Z_iconst (v := 0) (pc' := 1) dX7_firstAt_0 (by decide) rfl ?_
  refine Z_istoreE (i := 4) (x' := (0 : Int32)) (vs' := [some (.ref (ad 0)), some (.int x1), some (.int x2), some (.int x3), some (.int (0 : Int32))]) (pc' := 3) dX7_firstAt_1 rfl (by decide) rfl rfl ?_
  obtain ⟨r8, hr8, hF⟩ := bd_of hF
  refine Z_sub (vs' := [some (.ref (ad 0)), some (.int x1), some (.int x2), some (.int x3), some (.int (0 : Int32))]) (zSb_of _ _ ⟨rfl, ⟨rfl, ⟨rfl, ⟨rfl, ⟨rfl, trivial⟩⟩⟩⟩⟩) (qX7_firstAt_L3 hG zF x1 x2 x3 (0 : Int32) σ _ hr8 (fun w hw => ?_) (fun q9 hq9 => ?_))
  · rw [hw] at hF
    have hF := zsum_l hF
    cases hF
    exact ⟨rfl, rfl⟩
  · rw [hq9] at hF
    replace hF := zsum_r hF
    refine Z_iconst (v := -1) (pc' := 44) dX7_firstAt_43 (by decide) rfl ?_
    cases hF
    exact Z_iret (ty := .int) (w := (-1 : Int32)) dX7_firstAt_44 rfl rfl (Nat.le_refl _) (Nat.le_refl _) ⟨rfl, rfl⟩
abbrev rmX7_measureGiftsTo : Room := { frames := 4, cells := 0, slots := 0, locals := 94 }
def c7_measureGiftsTo_L28 (N : Nat) (c : Nat → Nat) (x2_ : Int32) (x3_ : Int32) (x4_ : Int32) (σ : zS) : Option (zS) := match N with
  | 0 => none
  | n + 1 => (if (σ 31 0) ≤ x4_ then some (σ) else (if zIn x4_ 16 = true then (if (σ 18 (x4_).toNatClampNeg) = (-1 : Int32) then ((c7_firstAt c x4_ x2_ (x3_ - (1 : Int32)) σ).bind (fun y9 => (if y9.1 = (-1 : Int32) then zl (x4_ + 1) (fun (v11 : Int32) => (c7_measureGiftsTo_L28 n c x2_ x3_ v11 y9.2)) else zl (zs y9.2 18 (x4_).toNatClampNeg x3_) (fun (σ12 : zS) => zl (x4_ + 1) (fun (v13 : Int32) => (c7_measureGiftsTo_L28 n c x2_ x3_ v13 σ12)))))) else zl (x4_ + 1) (fun (v8 : Int32) => (c7_measureGiftsTo_L28 n c x2_ x3_ v8 σ))) else none))
def c7_measureGiftsTo_L17 (N : Nat) (c : Nat → Nat) (x2_ : Int32) (x3_ : Int32) (σ : zS) : Option (zS) := match N with
  | 0 => none
  | n + 1 => (if (σ 31 0) ≤ x3_ then some (σ) else ((c7_measureGiftsTo_L28 zF c x2_ x3_ (0 : Int32) σ).bind (fun r5 => zl (x3_ + 1) (fun (v6 : Int32) => (c7_measureGiftsTo_L17 n c x2_ v6 r5)))))
def c7_measureGiftsTo (c : Nat → Nat) (x1 : Int32) (x2 : Int32) (σ : zS) : Option (Int32 × zS) := zl (zsf σ 18 16 (-1 : Int32)) (fun (σ1 : zS) => (if zIn x1 16 = true then zl (zs σ1 18 (x1).toNatClampNeg (0 : Int32)) (fun (σ3 : zS) => ((c7_measureGiftsTo_L17 zF c x2 (1 : Int32) σ3).bind (fun r7 => some (0, r7)))) else none))
set_option maxHeartbeats 4000000 in
set_option maxRecDepth 100000 in
theorem qX7_measureGiftsTo_L28 {l : Launch} {D : va_G} {M0 : zM} {Q : Option Value → zM → Prop} {c ad dec : Nat → Nat} (hG : cG c ad dec) : ∀ (n : Nat) (x2_ : Int32) (x3_ : Int32) (x4_ : Int32) (σ : zS) (r : (zS)), c7_measureGiftsTo_L28 n c x2_ x3_ x4_ σ = some r → (Z l yX7_measureGiftsTo cX7_measureGiftsTo 5 none rmX7_measureGiftsTo 0 0 D M0 Q 0 0 76 [some (.ref (ad 0)), none, some (.int x2_), some (.int x3_), none] [] (mC c ad dec r)) → Z l yX7_measureGiftsTo cX7_measureGiftsTo 5 none rmX7_measureGiftsTo 0 0 D M0 Q 0 0 28 [some (.ref (ad 0)), none, some (.int x2_), some (.int x3_), some (.int x4_)] [] (mC c ad dec σ) := by
  intro n
  induction n with
  | zero =>
    intro x2_ x3_ x4_ σ r hF hE
    exact absurd (show (none : Option (zS)) = some r from hF) (by simp)
  | succ n ih =>
    intro x2_ x3_ x4_ σ r hF hE
    replace hF : (if (σ 31 0) ≤ x4_ then some (σ) else (if zIn x4_ 16 = true then (if (σ 18 (x4_).toNatClampNeg) = (-1 : Int32) then ((c7_firstAt c x4_ x2_ (x3_ - (1 : Int32)) σ).bind (fun y9 => (if y9.1 = (-1 : Int32) then zl (x4_ + 1) (fun (v11 : Int32) => (c7_measureGiftsTo_L28 n c x2_ x3_ v11 y9.2)) else zl (zs y9.2 18 (x4_).toNatClampNeg x3_) (fun (σ12 : zS) => zl (x4_ + 1) (fun (v13 : Int32) => (c7_measureGiftsTo_L28 n c x2_ x3_ v13 σ12)))))) else zl (x4_ + 1) (fun (v8 : Int32) => (c7_measureGiftsTo_L28 n c x2_ x3_ v8 σ))) else none)) = some r := hF
    refine Z_iload (i := 4) (pc' := 30) dX7_measureGiftsTo_28 rfl rfl ?_
    refine Z_aload_n (i := 0) (pc' := 31) dX7_measureGiftsTo_30 rfl rfl rfl ?_
    refine Z_get (v := .int (σ 31 0)) (pc' := 34) 8 zinX7 rfl (by decide) lkX7_57 (eC_0 hG) rfl dX7_measureGiftsTo_31 rfl ?_
    refine Z_icmp_ge (tgt := 76) (pc' := 37) dX7_measureGiftsTo_34 (by decide) rfl (fun h5 => ?_) (fun h5 => ?_)
    · rw [if_pos h5] at hF
      cases hF
      exact Z_sub (vs' := [some (.ref (ad 0)), none, some (.int x2_), some (.int x3_), none]) (zSb_of _ _ ⟨rfl, ⟨rfl, ⟨rfl, trivial⟩⟩⟩) hE
    · rw [if_neg h5] at hF
      refine Z_aload_n (i := 0) (pc' := 38) dX7_measureGiftsTo_37 rfl rfl rfl ?_
      refine Z_get (v := .ref (ad 144)) (pc' := 41) 6 zinX7 rfl (by decide) lkX7_49 (eC_0 hG) rfl dX7_measureGiftsTo_38 rfl ?_
      refine Z_iload (i := 4) (pc' := 43) dX7_measureGiftsTo_41 rfl rfl ?_
      obtain ⟨h6, hF⟩ := ck_of hF
      refine Z_iald (pc' := 44) (eC_18 hG) (zIn_in h6) dX7_measureGiftsTo_43 rfl ?_
      refine Z_iconst (v := -1) (pc' := 45) dX7_measureGiftsTo_44 (by decide) rfl ?_
      refine Z_icmp_ne (tgt := 70) (pc' := 48) dX7_measureGiftsTo_45 (by decide) rfl (fun h7 => ?_) (fun h7 => ?_)
      · rw [if_neg h7] at hF
        obtain ⟨v8, hv8, hF⟩ := zl_of hF
        refine Z_iinc (i := 4) (v := v8) (vs' := [some (.ref (ad 0)), none, some (.int x2_), some (.int x3_), some (.int v8)]) (pc' := 73) dX7_measureGiftsTo_70 rfl (by rw [hv8]; rfl) (by decide) rfl rfl ?_
        refine Z_goto (tgt := 28) dX7_measureGiftsTo_73 (by decide) ?_
        exact Z_sub (vs' := [some (.ref (ad 0)), none, some (.int x2_), some (.int x3_), some (.int v8)]) (zSb_of _ _ ⟨rfl, ⟨rfl, ⟨rfl, ⟨rfl, trivial⟩⟩⟩⟩) (ih x2_ x3_ v8 σ _ hF hE)
      · rw [if_pos h7] at hF
        refine Z_aload_n (i := 0) (pc' := 49) dX7_measureGiftsTo_48 rfl rfl rfl ?_
        refine Z_iload (i := 4) (pc' := 51) dX7_measureGiftsTo_49 rfl rfl ?_
        refine Z_iload_n (i := 2) (pc' := 52) dX7_measureGiftsTo_51 rfl rfl rfl ?_
        refine Z_iload_n (i := 3) (pc' := 53) dX7_measureGiftsTo_52 rfl rfl rfl ?_
        refine Z_iconst (v := 1) (pc' := 54) dX7_measureGiftsTo_53 (by decide) rfl ?_
        refine Z_isub (pc' := 55) dX7_measureGiftsTo_54 rfl ?_
        obtain ⟨y9, hy9, hF⟩ := bd_of hF
        refine Z_callVi (As := [.int x4_, .int x2_, .int (x3_ - (1 : Int32))]) (st := []) (pc' := 58) (k' := 0) (n' := 0) (qX7_firstAt l hG hy9) ckX7_firstAt kvX7_firstAt mlX7_284 (eC_0 hG) rfl rfl rfl (Nat.le_of_ble_eq_true rfl) ⟨Nat.le_of_ble_eq_true rfl, Nat.le_of_ble_eq_true rfl⟩ ⟨Nat.le_of_ble_eq_true rfl, Nat.le_of_ble_eq_true rfl⟩ dX7_measureGiftsTo_55 rfl rfl rfl ?_
        refine Z_iconst (v := -1) (pc' := 59) dX7_measureGiftsTo_58 (by decide) rfl ?_
        refine Z_icmp_eq (tgt := 70) (pc' := 62) dX7_measureGiftsTo_59 (by decide) rfl (fun h10 => ?_) (fun h10 => ?_)
        · rw [if_pos h10] at hF
          obtain ⟨v11, hv11, hF⟩ := zl_of hF
          refine Z_iinc (i := 4) (v := v11) (vs' := [some (.ref (ad 0)), none, some (.int x2_), some (.int x3_), some (.int v11)]) (pc' := 73) dX7_measureGiftsTo_70 rfl (by rw [hv11]; rfl) (by decide) rfl rfl ?_
          refine Z_goto (tgt := 28) dX7_measureGiftsTo_73 (by decide) ?_
          exact Z_sub (vs' := [some (.ref (ad 0)), none, some (.int x2_), some (.int x3_), some (.int v11)]) (zSb_of _ _ ⟨rfl, ⟨rfl, ⟨rfl, ⟨rfl, trivial⟩⟩⟩⟩) (ih x2_ x3_ v11 y9.2 _ hF hE)
        · rw [if_neg h10] at hF
          refine Z_aload_n (i := 0) (pc' := 63) dX7_measureGiftsTo_62 rfl rfl rfl ?_
          refine Z_get (v := .ref (ad 144)) (pc' := 66) 6 zinX7 rfl (by decide) lkX7_49 (eC_0 hG) rfl dX7_measureGiftsTo_63 rfl ?_
          refine Z_iload (i := 4) (pc' := 68) dX7_measureGiftsTo_66 rfl rfl ?_
          refine Z_iload_n (i := 3) (pc' := 69) dX7_measureGiftsTo_68 rfl rfl rfl ?_
          obtain ⟨σ12, hσ12, hF⟩ := zl_of hF
          refine Z_iast (pc' := 70) (eC_18 hG) (zIn_in h6) dX7_measureGiftsTo_69 rfl ?_
          refine Z_mem (sC_18 hG hσ12) ?_
          obtain ⟨v13, hv13, hF⟩ := zl_of hF
          refine Z_iinc (i := 4) (v := v13) (vs' := [some (.ref (ad 0)), none, some (.int x2_), some (.int x3_), some (.int v13)]) (pc' := 73) dX7_measureGiftsTo_70 rfl (by rw [hv13]; rfl) (by decide) rfl rfl ?_
          refine Z_goto (tgt := 28) dX7_measureGiftsTo_73 (by decide) ?_
          exact Z_sub (vs' := [some (.ref (ad 0)), none, some (.int x2_), some (.int x3_), some (.int v13)]) (zSb_of _ _ ⟨rfl, ⟨rfl, ⟨rfl, ⟨rfl, trivial⟩⟩⟩⟩) (ih x2_ x3_ v13 σ12 _ hF hE)
set_option maxHeartbeats 4000000 in
set_option maxRecDepth 100000 in
theorem qX7_measureGiftsTo_L17 {l : Launch} {D : va_G} {M0 : zM} {Q : Option Value → zM → Prop} {c ad dec : Nat → Nat} (hG : cG c ad dec) : ∀ (n : Nat) (x2_ : Int32) (x3_ : Int32) (σ : zS) (r : (zS)), c7_measureGiftsTo_L17 n c x2_ x3_ σ = some r → (Z l yX7_measureGiftsTo cX7_measureGiftsTo 5 none rmX7_measureGiftsTo 0 0 D M0 Q 0 0 82 [none, none, none, none, none] [] (mC c ad dec r)) → Z l yX7_measureGiftsTo cX7_measureGiftsTo 5 none rmX7_measureGiftsTo 0 0 D M0 Q 0 0 17 [some (.ref (ad 0)), none, some (.int x2_), some (.int x3_), none] [] (mC c ad dec σ) := by
  intro n
  induction n with
  | zero =>
    intro x2_ x3_ σ r hF hE
    exact absurd (show (none : Option (zS)) = some r from hF) (by simp)
  | succ n ih =>
    intro x2_ x3_ σ r hF hE
    replace hF : (if (σ 31 0) ≤ x3_ then some (σ) else ((c7_measureGiftsTo_L28 zF c x2_ x3_ (0 : Int32) σ).bind (fun r5 => zl (x3_ + 1) (fun (v6 : Int32) => (c7_measureGiftsTo_L17 n c x2_ v6 r5))))) = some r := hF
    refine Z_iload_n (i := 3) (pc' := 18) dX7_measureGiftsTo_17 rfl rfl rfl ?_
    refine Z_aload_n (i := 0) (pc' := 19) dX7_measureGiftsTo_18 rfl rfl rfl ?_
    refine Z_get (v := .int (σ 31 0)) (pc' := 22) 8 zinX7 rfl (by decide) lkX7_57 (eC_0 hG) rfl dX7_measureGiftsTo_19 rfl ?_
    refine Z_icmp_ge (tgt := 82) (pc' := 25) dX7_measureGiftsTo_22 (by decide) rfl (fun h4 => ?_) (fun h4 => ?_)
    · rw [if_pos h4] at hF
      cases hF
      exact Z_sub (vs' := [none, none, none, none, none]) (zSb_of _ _ trivial) hE
    · rw [if_neg h4] at hF
      refine Z_iconst (v := 0) (pc' := 26) dX7_measureGiftsTo_25 (by decide) rfl ?_
      refine Z_istoreE (i := 4) (x' := (0 : Int32)) (vs' := [some (.ref (ad 0)), none, some (.int x2_), some (.int x3_), some (.int (0 : Int32))]) (pc' := 28) dX7_measureGiftsTo_26 rfl (by decide) rfl rfl ?_
      obtain ⟨r5, hr5, hF⟩ := bd_of hF
      refine Z_sub (vs' := [some (.ref (ad 0)), none, some (.int x2_), some (.int x3_), some (.int (0 : Int32))]) (zSb_of _ _ ⟨rfl, ⟨rfl, ⟨rfl, ⟨rfl, trivial⟩⟩⟩⟩) (qX7_measureGiftsTo_L28 hG zF x2_ x3_ (0 : Int32) σ _ hr5 ?_)
      obtain ⟨v6, hv6, hF⟩ := zl_of hF
      refine Z_iinc (i := 3) (v := v6) (vs' := [some (.ref (ad 0)), none, some (.int x2_), some (.int v6), none]) (pc' := 79) dX7_measureGiftsTo_76 rfl (by rw [hv6]; rfl) (by decide) rfl rfl ?_
      refine Z_goto (tgt := 17) dX7_measureGiftsTo_79 (by decide) ?_
      exact Z_sub (vs' := [some (.ref (ad 0)), none, some (.int x2_), some (.int v6), none]) (zSb_of _ _ ⟨rfl, ⟨rfl, ⟨rfl, trivial⟩⟩⟩) (ih x2_ v6 r5 _ hF hE)
set_option maxHeartbeats 4000000 in
set_option maxRecDepth 100000 in
theorem qX7_measureGiftsTo (l : Launch) {c ad dec : Nat → Nat} (hG : cG c ad dec) {x1 : Int32} {x2 : Int32} {σ : zS} {w : Int32 × zS} (hF : c7_measureGiftsTo c x1 x2 σ = some w) : zMet l yX7_measureGiftsTo cX7_measureGiftsTo 5 none rmX7_measureGiftsTo [.ref (ad 0), .int x1, .int x2] (mC c ad dec σ) (fun v M' => v = none ∧ M' = (mC c ad dec w.2)) := by
  refine zMet.ofZ (vs := [some (.ref (ad 0)), some (.int x1), some (.int x2), none, none]) (by decide) rfl (zCt_of _ ⟨rfl, ⟨rfl, ⟨rfl, trivial⟩⟩⟩) (Nat.le_of_ble_eq_true rfl) (fun D => ?_)
  unfold c7_measureGiftsTo at hF
  refine Z_aload_n (i := 0) (pc' := 1) dX7_measureGiftsTo_0 rfl rfl rfl ?_
  refine Z_get (v := .ref (ad 144)) (pc' := 4) 6 zinX7 rfl (by decide) lkX7_49 (eC_0 hG) rfl dX7_measureGiftsTo_1 rfl ?_
  refine Z_iconst (v := -1) (pc' := 5) dX7_measureGiftsTo_4 (by decide) rfl ?_
  obtain ⟨σ1, hσ1, hF⟩ := zl_of hF
  refine Z_callSv (As := [.ref (ad 144), .int (-1 : Int32)]) (st := []) (pc' := 8) (k' := 0) (n' := 0) (qJ7_fill_53178 l (eC_18 hG)) ckJ7_fill_53178 ksJ7_fill_53178 mlX7_278 rfl rfl (Nat.le_of_ble_eq_true rfl) ⟨Nat.le_of_ble_eq_true rfl, Nat.le_of_ble_eq_true rfl⟩ ⟨Nat.le_of_ble_eq_true rfl, Nat.le_of_ble_eq_true rfl⟩ dX7_measureGiftsTo_5 rfl rfl rfl ?_
  refine Z_mem (fC_18 hG hσ1) ?_
  refine Z_aload_n (i := 0) (pc' := 9) dX7_measureGiftsTo_8 rfl rfl rfl ?_
  refine Z_get (v := .ref (ad 144)) (pc' := 12) 6 zinX7 rfl (by decide) lkX7_49 (eC_0 hG) rfl dX7_measureGiftsTo_9 rfl ?_
  refine Z_iload_n (i := 1) (pc' := 13) dX7_measureGiftsTo_12 rfl rfl rfl ?_
  refine Z_iconst (v := 0) (pc' := 14) dX7_measureGiftsTo_13 (by decide) rfl ?_
  obtain ⟨h2, hF⟩ := ck_of hF
  obtain ⟨σ3, hσ3, hF⟩ := zl_of hF
  refine Z_iast (pc' := 15) (eC_18 hG) (zIn_in h2) dX7_measureGiftsTo_14 rfl ?_
  refine Z_mem (sC_18 hG hσ3) ?_
  refine Z_iconst (v := 1) (pc' := 16) dX7_measureGiftsTo_15 (by decide) rfl ?_
  refine Z_istore_nE (i := 3) (x' := (1 : Int32)) (vs' := [some (.ref (ad 0)), some (.int x1), some (.int x2), some (.int (1 : Int32)), none]) (pc' := 17) dX7_measureGiftsTo_16 rfl rfl (by decide) rfl rfl ?_
  obtain ⟨r7, hr7, hF⟩ := bd_of hF
  refine Z_sub (vs' := [some (.ref (ad 0)), none, some (.int x2), some (.int (1 : Int32)), none]) (zSb_of _ _ ⟨rfl, ⟨rfl, ⟨rfl, trivial⟩⟩⟩) (qX7_measureGiftsTo_L17 hG zF x2 (1 : Int32) σ3 _ hr7 ?_)
  cases hF
  exact Z_vret dX7_measureGiftsTo_82 rfl (Nat.le_refl _) (Nat.le_refl _) ⟨rfl, rfl⟩
abbrev rmX7_nextOnWay : Room := { frames := 4, cells := 0, slots := 0, locals := 94 }
def c7_nextOnWay (c : Nat → Nat) (x1 : Int32) (x2 : Int32) (σ : zS) : Option (Int32 × zS) := (if x1 < 0 then some ((-1 : Int32), σ) else (if x1 < (σ 31 0) then (if zIn x1 16 = true then ((c7_firstAt c x1 x2 ((σ 18 (x1).toNatClampNeg) - (1 : Int32)) σ).bind (fun y4 => some (y4.1, y4.2))) else none) else some ((-1 : Int32), σ)))
set_option maxHeartbeats 4000000 in
set_option maxRecDepth 100000 in
theorem qX7_nextOnWay (l : Launch) {c ad dec : Nat → Nat} (hG : cG c ad dec) {x1 : Int32} {x2 : Int32} {σ : zS} {w : Int32 × zS} (hF : c7_nextOnWay c x1 x2 σ = some w) : zMet l yX7_nextOnWay cX7_nextOnWay 3 (some .int) rmX7_nextOnWay [.ref (ad 0), .int x1, .int x2] (mC c ad dec σ) (fun v M' => v = (some (.int w.1)) ∧ M' = (mC c ad dec w.2)) := by
  refine zMet.ofZ (vs := [some (.ref (ad 0)), some (.int x1), some (.int x2)]) (by decide) rfl (zCt_of _ ⟨rfl, ⟨rfl, ⟨rfl, trivial⟩⟩⟩) (Nat.le_of_ble_eq_true rfl) (fun D => ?_)
  unfold c7_nextOnWay at hF
  refine Z_iload_n (i := 1) (pc' := 1) dX7_nextOnWay_0 rfl rfl rfl ?_
  refine Z_if_lt (tgt := 12) (pc' := 4) dX7_nextOnWay_1 (by decide) rfl (fun h1 => ?_) (fun h1 => ?_)
  · rw [if_pos h1] at hF
    refine Z_iconst (v := -1) (pc' := 13) dX7_nextOnWay_12 (by decide) rfl ?_
    refine Z_goto (tgt := 30) dX7_nextOnWay_13 (by decide) ?_
    cases hF
    exact Z_iret (ty := .int) (w := (-1 : Int32)) dX7_nextOnWay_30 rfl rfl (Nat.le_refl _) (Nat.le_refl _) ⟨rfl, rfl⟩
  · rw [if_neg h1] at hF
    refine Z_iload_n (i := 1) (pc' := 5) dX7_nextOnWay_4 rfl rfl rfl ?_
    refine Z_aload_n (i := 0) (pc' := 6) dX7_nextOnWay_5 rfl rfl rfl ?_
    refine Z_get (v := .int (σ 31 0)) (pc' := 9) 8 zinX7 rfl (by decide) lkX7_57 (eC_0 hG) rfl dX7_nextOnWay_6 rfl ?_
    refine Z_icmp_lt (tgt := 16) (pc' := 12) dX7_nextOnWay_9 (by decide) rfl (fun h2 => ?_) (fun h2 => ?_)
    · rw [if_pos h2] at hF
      refine Z_aload_n (i := 0) (pc' := 17) dX7_nextOnWay_16 rfl rfl rfl ?_
      refine Z_iload_n (i := 1) (pc' := 18) dX7_nextOnWay_17 rfl rfl rfl ?_
      refine Z_iload_n (i := 2) (pc' := 19) dX7_nextOnWay_18 rfl rfl rfl ?_
      refine Z_aload_n (i := 0) (pc' := 20) dX7_nextOnWay_19 rfl rfl rfl ?_
      refine Z_get (v := .ref (ad 144)) (pc' := 23) 6 zinX7 rfl (by decide) lkX7_49 (eC_0 hG) rfl dX7_nextOnWay_20 rfl ?_
      refine Z_iload_n (i := 1) (pc' := 24) dX7_nextOnWay_23 rfl rfl rfl ?_
      obtain ⟨h3, hF⟩ := ck_of hF
      refine Z_iald (pc' := 25) (eC_18 hG) (zIn_in h3) dX7_nextOnWay_24 rfl ?_
      refine Z_iconst (v := 1) (pc' := 26) dX7_nextOnWay_25 (by decide) rfl ?_
      refine Z_isub (pc' := 27) dX7_nextOnWay_26 rfl ?_
      obtain ⟨y4, hy4, hF⟩ := bd_of hF
      refine Z_callVi (As := [.int x1, .int x2, .int ((σ 18 (x1).toNatClampNeg) - (1 : Int32))]) (st := []) (pc' := 30) (k' := 0) (n' := 0) (qX7_firstAt l hG hy4) ckX7_firstAt kvX7_firstAt mlX7_284 (eC_0 hG) rfl rfl rfl (Nat.le_of_ble_eq_true rfl) ⟨Nat.le_of_ble_eq_true rfl, Nat.le_of_ble_eq_true rfl⟩ ⟨Nat.le_of_ble_eq_true rfl, Nat.le_of_ble_eq_true rfl⟩ dX7_nextOnWay_27 rfl rfl rfl ?_
      cases hF
      exact Z_iret (ty := .int) (w := y4.1) dX7_nextOnWay_30 rfl rfl (Nat.le_refl _) (Nat.le_refl _) ⟨rfl, rfl⟩
    · rw [if_neg h2] at hF
      refine Z_iconst (v := -1) (pc' := 13) dX7_nextOnWay_12 (by decide) rfl ?_
      refine Z_goto (tgt := 30) dX7_nextOnWay_13 (by decide) ?_
      cases hF
      exact Z_iret (ty := .int) (w := (-1 : Int32)) dX7_nextOnWay_30 rfl rfl (Nat.le_refl _) (Nat.le_refl _) ⟨rfl, rfl⟩
abbrev rmX7_soonest : Room := { frames := 5, cells := 0, slots := 0, locals := 118 }
def c7_soonest (c : Nat → Nat) (x1 : Int32) (x2 : Int32) (σ : zS) : Option (Int32 × zS) := ((c7_anyTreasure c x1 σ).bind (fun y1 => zl y1.1 (fun (o2 : Option Nat) => (zopt o2 (some ((-1 : Int32), y1.2)) (fun (i3 : Nat) => (if i3 < c 1 then (if (y1.2 55 i3) = 0 then ((c7_livingMan c x2 y1.2).bind (fun y6 => zl y6.1 (fun (o7 : Option Nat) => (zopt o7 (some ((-1 : Int32), y6.2)) (fun (i8 : Nat) => ((c7_anyMan c (y6.2 52 i3) y6.2).bind (fun y9 => zl y9.1 (fun (o10 : Option Nat) => (zopt o10 (some ((-1 : Int32), y9.2)) (fun (i11 : Nat) => ((c7_measureGiftsTo c x2 (y9.2 50 i3) y9.2).bind (fun y12 => (if zIn (y12.2 52 i3) 16 = true then some ((y12.2 18 (y12.2 52 i3).toNatClampNeg), y12.2) else none))))))))))))) else some ((-1 : Int32), y1.2)) else none))))))
set_option maxHeartbeats 4000000 in
set_option maxRecDepth 100000 in
theorem qX7_soonest (l : Launch) {c ad dec : Nat → Nat} (hG : cG c ad dec) {x1 : Int32} {x2 : Int32} {σ : zS} {w : Int32 × zS} (hF : c7_soonest c x1 x2 σ = some w) : zMet l yX7_soonest cX7_soonest 4 (some .int) rmX7_soonest [.ref (ad 0), .int x1, .int x2] (mC c ad dec σ) (fun v M' => v = (some (.int w.1)) ∧ M' = (mC c ad dec w.2)) := by
  refine zMet.ofZ (vs := [some (.ref (ad 0)), some (.int x1), some (.int x2), none]) (by decide) rfl (zCt_of _ ⟨rfl, ⟨rfl, ⟨rfl, trivial⟩⟩⟩) (Nat.le_of_ble_eq_true rfl) (fun D => ?_)
  unfold c7_soonest at hF
  refine Z_aload_n (i := 0) (pc' := 1) dX7_soonest_0 rfl rfl rfl ?_
  refine Z_iload_n (i := 1) (pc' := 2) dX7_soonest_1 rfl rfl rfl ?_
  obtain ⟨y1, hy1, hF⟩ := bd_of hF
  obtain ⟨o2, ho2, hF⟩ := zl_of hF
  refine Z_callVr (kd := 2) (ad := ad) (o := o2) (As := [.int x1]) (st := []) (pc' := 5) (k' := 0) (n' := 0) ho2 (qX7_anyTreasure l hG hy1) ckX7_anyTreasure kvX7_anyTreasure mlX7_122 (eC_0 hG) rfl rfl rfl (Nat.le_of_ble_eq_true rfl) ⟨Nat.le_of_ble_eq_true rfl, Nat.le_of_ble_eq_true rfl⟩ ⟨Nat.le_of_ble_eq_true rfl, Nat.le_of_ble_eq_true rfl⟩ dX7_soonest_2 rfl rfl rfl ?_
  refine Z_astore_nR (v := rv ad 2 o2) (i := 3) (vs' := [some (.ref (ad 0)), some (.int x1), some (.int x2), some (rv ad 2 o2)]) (pc' := 6) (rv_or _ _ _) dX7_soonest_5 rfl (by decide) rfl rfl ?_
  refine Z_aload_nR (v := rv ad 2 o2) (i := 3) (pc' := 7) (rv_or _ _ _) dX7_soonest_6 rfl rfl rfl ?_
  cases o2 with
  | none =>
    replace hF := zopt_n hF
    refine Z_ifnullN (tgt := 36) dX7_soonest_7 (by decide) ?_
    refine Z_iconst (v := -1) (pc' := 37) dX7_soonest_36 (by decide) rfl ?_
    cases hF
    exact Z_iret (ty := .int) (w := (-1 : Int32)) dX7_soonest_37 rfl rfl (Nat.le_refl _) (Nat.le_refl _) ⟨rfl, rfl⟩
  | some i3 =>
    replace hF := zopt_s hF
    refine Z_ifnull (pc' := 10) dX7_soonest_7 rfl ?_
    refine Z_aload_n (i := 3) (pc' := 11) dX7_soonest_10 rfl rfl rfl ?_
    obtain ⟨h4, hF⟩ := ck_of hF
    refine Z_get (v := .int (y1.2 55 i3)) (pc' := 14) 5 zinX6 rfl (by decide) lkX7_200 (eC_tr hG h4) rfl dX7_soonest_11 rfl ?_
    refine Z_if_ne (tgt := 36) (pc' := 17) dX7_soonest_14 (by decide) rfl (fun h5 => ?_) (fun h5 => ?_)
    · rw [if_neg h5] at hF
      refine Z_iconst (v := -1) (pc' := 37) dX7_soonest_36 (by decide) rfl ?_
      cases hF
      exact Z_iret (ty := .int) (w := (-1 : Int32)) dX7_soonest_37 rfl rfl (Nat.le_refl _) (Nat.le_refl _) ⟨rfl, rfl⟩
    · rw [if_pos h5] at hF
      refine Z_aload_n (i := 0) (pc' := 18) dX7_soonest_17 rfl rfl rfl ?_
      refine Z_iload_n (i := 2) (pc' := 19) dX7_soonest_18 rfl rfl rfl ?_
      obtain ⟨y6, hy6, hF⟩ := bd_of hF
      obtain ⟨o7, ho7, hF⟩ := zl_of hF
      refine Z_callVr (kd := 1) (ad := ad) (o := o7) (As := [.int x2]) (st := []) (pc' := 22) (k' := 0) (n' := 0) ho7 (qX7_livingMan l hG hy6) ckX7_livingMan kvX7_livingMan mlX7_83 (eC_0 hG) rfl rfl rfl (Nat.le_of_ble_eq_true rfl) ⟨Nat.le_of_ble_eq_true rfl, Nat.le_of_ble_eq_true rfl⟩ ⟨Nat.le_of_ble_eq_true rfl, Nat.le_of_ble_eq_true rfl⟩ dX7_soonest_19 rfl rfl rfl ?_
      cases o7 with
      | none =>
        replace hF := zopt_n hF
        refine Z_ifnullN (tgt := 36) dX7_soonest_22 (by decide) ?_
        refine Z_iconst (v := -1) (pc' := 37) dX7_soonest_36 (by decide) rfl ?_
        cases hF
        exact Z_iret (ty := .int) (w := (-1 : Int32)) dX7_soonest_37 rfl rfl (Nat.le_refl _) (Nat.le_refl _) ⟨rfl, rfl⟩
      | some i8 =>
        replace hF := zopt_s hF
        refine Z_ifnull (pc' := 25) dX7_soonest_22 rfl ?_
        refine Z_aload_n (i := 0) (pc' := 26) dX7_soonest_25 rfl rfl rfl ?_
        refine Z_aload_n (i := 3) (pc' := 27) dX7_soonest_26 rfl rfl rfl ?_
        refine Z_get (v := .int (y6.2 52 i3)) (pc' := 30) 2 zinX6 rfl (by decide) lkX7_197 (eC_tr hG h4) rfl dX7_soonest_27 rfl ?_
        obtain ⟨y9, hy9, hF⟩ := bd_of hF
        obtain ⟨o10, ho10, hF⟩ := zl_of hF
        refine Z_callVr (kd := 1) (ad := ad) (o := o10) (As := [.int (y6.2 52 i3)]) (st := []) (pc' := 33) (k' := 0) (n' := 0) ho10 (qX7_anyMan l hG hy9) ckX7_anyMan kvX7_anyMan mlX7_106 (eC_0 hG) rfl rfl rfl (Nat.le_of_ble_eq_true rfl) ⟨Nat.le_of_ble_eq_true rfl, Nat.le_of_ble_eq_true rfl⟩ ⟨Nat.le_of_ble_eq_true rfl, Nat.le_of_ble_eq_true rfl⟩ dX7_soonest_30 rfl rfl rfl ?_
        cases o10 with
        | none =>
          replace hF := zopt_n hF
          refine Z_ifnonnullN (pc' := 36) dX7_soonest_33 rfl ?_
          refine Z_iconst (v := -1) (pc' := 37) dX7_soonest_36 (by decide) rfl ?_
          cases hF
          exact Z_iret (ty := .int) (w := (-1 : Int32)) dX7_soonest_37 rfl rfl (Nat.le_refl _) (Nat.le_refl _) ⟨rfl, rfl⟩
        | some i11 =>
          replace hF := zopt_s hF
          refine Z_ifnonnull (tgt := 38) dX7_soonest_33 (by decide) ?_
          refine Z_aload_n (i := 0) (pc' := 39) dX7_soonest_38 rfl rfl rfl ?_
          refine Z_iload_n (i := 2) (pc' := 40) dX7_soonest_39 rfl rfl rfl ?_
          refine Z_aload_n (i := 3) (pc' := 41) dX7_soonest_40 rfl rfl rfl ?_
          refine Z_get (v := .int (y9.2 50 i3)) (pc' := 44) 0 zinX6 rfl (by decide) lkX7_132 (eC_tr hG h4) rfl dX7_soonest_41 rfl ?_
          obtain ⟨y12, hy12, hF⟩ := bd_of hF
          refine Z_callVv (As := [.int x2, .int (y9.2 50 i3)]) (st := []) (pc' := 47) (k' := 0) (n' := 0) (qX7_measureGiftsTo l hG hy12) ckX7_measureGiftsTo kvX7_measureGiftsTo mlX7_269 (eC_0 hG) rfl rfl rfl (Nat.le_of_ble_eq_true rfl) ⟨Nat.le_of_ble_eq_true rfl, Nat.le_of_ble_eq_true rfl⟩ ⟨Nat.le_of_ble_eq_true rfl, Nat.le_of_ble_eq_true rfl⟩ dX7_soonest_44 rfl rfl rfl ?_
          refine Z_aload_n (i := 0) (pc' := 48) dX7_soonest_47 rfl rfl rfl ?_
          refine Z_get (v := .ref (ad 144)) (pc' := 51) 6 zinX7 rfl (by decide) lkX7_49 (eC_0 hG) rfl dX7_soonest_48 rfl ?_
          refine Z_aload_n (i := 3) (pc' := 52) dX7_soonest_51 rfl rfl rfl ?_
          refine Z_get (v := .int (y12.2 52 i3)) (pc' := 55) 2 zinX6 rfl (by decide) lkX7_197 (eC_tr hG h4) rfl dX7_soonest_52 rfl ?_
          obtain ⟨h13, hF⟩ := ck_of hF
          refine Z_iald (pc' := 56) (eC_18 hG) (zIn_in h13) dX7_soonest_55 rfl ?_
          cases hF
          exact Z_iret (ty := .int) (w := (y12.2 18 (y12.2 52 i3).toNatClampNeg)) dX7_soonest_56 rfl rfl (Nat.le_refl _) (Nat.le_refl _) ⟨rfl, rfl⟩
abbrev rmX7_through : Room := { frames := 6, cells := 0, slots := 0, locals := 141 }
def c7_through_L48 (N : Nat) (c : Nat → Nat) (x3_ : Int32) (i5_ : Nat) (x6_ : Int32) (x7_ : Int32) (σ : zS) : Option (Int32 × zS) := match N with
  | 0 => none
  | n + 1 => (if x3_ ≤ x7_ then some (x6_, σ) else (if i5_ < c 1 then ((c7_nextOnWay c x6_ (σ 50 i5_) σ).bind (fun y12 => zl (x7_ + 1) (fun (v13 : Int32) => (c7_through_L48 n c x3_ i5_ y12.1 v13 y12.2)))) else none))
def c7_through (c : Nat → Nat) (x1 : Int32) (x2 : Int32) (x3 : Int32) (σ : zS) : Option (Int32 × zS) := ((c7_soonest c x1 x2 σ).bind (fun y1 => ((c7_anyTreasure c x1 y1.2).bind (fun y2 => zl y2.1 (fun (o3 : Option Nat) => (if y1.1 = (-1 : Int32) then some ((-1 : Int32), y2.2) else (zopt o3 (some ((-1 : Int32), y2.2)) (fun (i5 : Nat) => (if x3 < 0 then some ((-1 : Int32), y2.2) else (if x3 ≤ y1.1 then (if i5 < c 1 then zl (y2.2 52 i5) (fun (v9 : Int32) => ((c7_through_L48 zF c x3 i5 v9 (0 : Int32) y2.2).bind (fun r14 => some (r14.1, r14.2)))) else none) else some ((-1 : Int32), y2.2)))))))))))
set_option maxHeartbeats 4000000 in
set_option maxRecDepth 100000 in
theorem qX7_through_L48 {l : Launch} {D : va_G} {M0 : zM} {Q : Option Value → zM → Prop} {c ad dec : Nat → Nat} (hG : cG c ad dec) : ∀ (n : Nat) (x3_ : Int32) (i5_ : Nat) (x6_ : Int32) (x7_ : Int32) (σ : zS) (r : (Int32 × zS)), c7_through_L48 n c x3_ i5_ x6_ x7_ σ = some r → (Z l yX7_through cX7_through 8 (some .int) rmX7_through 0 0 D M0 Q 0 0 73 [none, none, none, none, none, none, some (.int r.1), none] [] (mC c ad dec r.2)) → Z l yX7_through cX7_through 8 (some .int) rmX7_through 0 0 D M0 Q 0 0 48 [some (.ref (ad 0)), none, none, some (.int x3_), none, some (.ref (ad (8 * i5_ + 2))), some (.int x6_), some (.int x7_)] [] (mC c ad dec σ) := by
  intro n
  induction n with
  | zero =>
    intro x3_ i5_ x6_ x7_ σ r hF hE
    exact absurd (show (none : Option (Int32 × zS)) = some r from hF) (by simp)
  | succ n ih =>
    intro x3_ i5_ x6_ x7_ σ r hF hE
    replace hF : (if x3_ ≤ x7_ then some (x6_, σ) else (if i5_ < c 1 then ((c7_nextOnWay c x6_ (σ 50 i5_) σ).bind (fun y12 => zl (x7_ + 1) (fun (v13 : Int32) => (c7_through_L48 n c x3_ i5_ y12.1 v13 y12.2)))) else none)) = some r := hF
    refine Z_iload (i := 7) (pc' := 50) dX7_through_48 rfl rfl ?_
    refine Z_iload_n (i := 3) (pc' := 51) dX7_through_50 rfl rfl rfl ?_
    refine Z_icmp_ge (tgt := 73) (pc' := 54) dX7_through_51 (by decide) rfl (fun h10 => ?_) (fun h10 => ?_)
    · rw [if_pos h10] at hF
      cases hF
      exact Z_sub (vs' := [none, none, none, none, none, none, some (.int x6_), none]) (zSb_of _ _ ⟨rfl, trivial⟩) hE
    · rw [if_neg h10] at hF
      refine Z_aload_n (i := 0) (pc' := 55) dX7_through_54 rfl rfl rfl ?_
      refine Z_iload (i := 6) (pc' := 57) dX7_through_55 rfl rfl ?_
      refine Z_aload (i := 5) (pc' := 59) dX7_through_57 rfl rfl ?_
      obtain ⟨h11, hF⟩ := ck_of hF
      refine Z_get (v := .int (σ 50 i5_)) (pc' := 62) 0 zinX6 rfl (by decide) lkX7_132 (eC_tr hG h11) rfl dX7_through_59 rfl ?_
      obtain ⟨y12, hy12, hF⟩ := bd_of hF
      refine Z_callVi (As := [.int x6_, .int (σ 50 i5_)]) (st := []) (pc' := 65) (k' := 0) (n' := 0) (qX7_nextOnWay l hG hy12) ckX7_nextOnWay kvX7_nextOnWay mlX7_275 (eC_0 hG) rfl rfl rfl (Nat.le_of_ble_eq_true rfl) ⟨Nat.le_of_ble_eq_true rfl, Nat.le_of_ble_eq_true rfl⟩ ⟨Nat.le_of_ble_eq_true rfl, Nat.le_of_ble_eq_true rfl⟩ dX7_through_62 rfl rfl rfl ?_
      refine Z_istoreE (i := 6) (x' := y12.1) (vs' := [some (.ref (ad 0)), none, none, some (.int x3_), none, some (.ref (ad (8 * i5_ + 2))), some (.int y12.1), some (.int x7_)]) (pc' := 67) dX7_through_65 rfl (by decide) rfl rfl ?_
      obtain ⟨v13, hv13, hF⟩ := zl_of hF
      refine Z_iinc (i := 7) (v := v13) (vs' := [some (.ref (ad 0)), none, none, some (.int x3_), none, some (.ref (ad (8 * i5_ + 2))), some (.int y12.1), some (.int v13)]) (pc' := 70) dX7_through_67 rfl (by rw [hv13]; rfl) (by decide) rfl rfl ?_
      refine Z_goto (tgt := 48) dX7_through_70 (by decide) ?_
      exact Z_sub (vs' := [some (.ref (ad 0)), none, none, some (.int x3_), none, some (.ref (ad (8 * i5_ + 2))), some (.int y12.1), some (.int v13)]) (zSb_of _ _ ⟨rfl, ⟨rfl, ⟨rfl, ⟨rfl, ⟨rfl, trivial⟩⟩⟩⟩⟩) (ih x3_ i5_ y12.1 v13 y12.2 _ hF hE)
set_option maxHeartbeats 4000000 in
set_option maxRecDepth 100000 in
theorem qX7_through (l : Launch) {c ad dec : Nat → Nat} (hG : cG c ad dec) {x1 : Int32} {x2 : Int32} {x3 : Int32} {σ : zS} {w : Int32 × zS} (hF : c7_through c x1 x2 x3 σ = some w) : zMet l yX7_through cX7_through 8 (some .int) rmX7_through [.ref (ad 0), .int x1, .int x2, .int x3] (mC c ad dec σ) (fun v M' => v = (some (.int w.1)) ∧ M' = (mC c ad dec w.2)) := by
  refine zMet.ofZ (vs := [some (.ref (ad 0)), some (.int x1), some (.int x2), some (.int x3), none, none, none, none]) (by decide) rfl (zCt_of _ ⟨rfl, ⟨rfl, ⟨rfl, ⟨rfl, trivial⟩⟩⟩⟩) (Nat.le_of_ble_eq_true rfl) (fun D => ?_)
  unfold c7_through at hF
  refine Z_aload_n (i := 0) (pc' := 1) dX7_through_0 rfl rfl rfl ?_
  refine Z_iload_n (i := 1) (pc' := 2) dX7_through_1 rfl rfl rfl ?_
  refine Z_iload_n (i := 2) (pc' := 3) dX7_through_2 rfl rfl rfl ?_
  obtain ⟨y1, hy1, hF⟩ := bd_of hF
  refine Z_callVi (As := [.int x1, .int x2]) (st := []) (pc' := 6) (k' := 0) (n' := 0) (qX7_soonest l hG hy1) ckX7_soonest kvX7_soonest mlX7_272 (eC_0 hG) rfl rfl rfl (Nat.le_of_ble_eq_true rfl) ⟨Nat.le_of_ble_eq_true rfl, Nat.le_of_ble_eq_true rfl⟩ ⟨Nat.le_of_ble_eq_true rfl, Nat.le_of_ble_eq_true rfl⟩ dX7_through_3 rfl rfl rfl ?_
  refine Z_istoreE (i := 4) (x' := y1.1) (vs' := [some (.ref (ad 0)), some (.int x1), some (.int x2), some (.int x3), some (.int y1.1), none, none, none]) (pc' := 8) dX7_through_6 rfl (by decide) rfl rfl ?_
  refine Z_aload_n (i := 0) (pc' := 9) dX7_through_8 rfl rfl rfl ?_
  refine Z_iload_n (i := 1) (pc' := 10) dX7_through_9 rfl rfl rfl ?_
  obtain ⟨y2, hy2, hF⟩ := bd_of hF
  obtain ⟨o3, ho3, hF⟩ := zl_of hF
  refine Z_callVr (kd := 2) (ad := ad) (o := o3) (As := [.int x1]) (st := []) (pc' := 13) (k' := 0) (n' := 0) ho3 (qX7_anyTreasure l hG hy2) ckX7_anyTreasure kvX7_anyTreasure mlX7_122 (eC_0 hG) rfl rfl rfl (Nat.le_of_ble_eq_true rfl) ⟨Nat.le_of_ble_eq_true rfl, Nat.le_of_ble_eq_true rfl⟩ ⟨Nat.le_of_ble_eq_true rfl, Nat.le_of_ble_eq_true rfl⟩ dX7_through_10 rfl rfl rfl ?_
  refine Z_astoreR (v := rv ad 2 o3) (i := 5) (vs' := [some (.ref (ad 0)), some (.int x1), some (.int x2), some (.int x3), some (.int y1.1), some (rv ad 2 o3), none, none]) (pc' := 15) (rv_or _ _ _) dX7_through_13 (by decide) rfl rfl ?_
  refine Z_iload (i := 4) (pc' := 17) dX7_through_15 rfl rfl ?_
  refine Z_iconst (v := -1) (pc' := 18) dX7_through_17 (by decide) rfl ?_
  refine Z_icmp_eq (tgt := 36) (pc' := 21) dX7_through_18 (by decide) rfl (fun h4 => ?_) (fun h4 => ?_)
  · rw [if_pos h4] at hF
    refine Z_iconst (v := -1) (pc' := 37) dX7_through_36 (by decide) rfl ?_
    cases hF
    exact Z_iret (ty := .int) (w := (-1 : Int32)) dX7_through_37 rfl rfl (Nat.le_refl _) (Nat.le_refl _) ⟨rfl, rfl⟩
  · rw [if_neg h4] at hF
    refine Z_aloadR (v := rv ad 2 o3) (i := 5) (pc' := 23) (rv_or _ _ _) dX7_through_21 rfl rfl ?_
    cases o3 with
    | none =>
      replace hF := zopt_n hF
      refine Z_ifnullN (tgt := 36) dX7_through_23 (by decide) ?_
      refine Z_iconst (v := -1) (pc' := 37) dX7_through_36 (by decide) rfl ?_
      cases hF
      exact Z_iret (ty := .int) (w := (-1 : Int32)) dX7_through_37 rfl rfl (Nat.le_refl _) (Nat.le_refl _) ⟨rfl, rfl⟩
    | some i5 =>
      replace hF := zopt_s hF
      refine Z_ifnull (pc' := 26) dX7_through_23 rfl ?_
      refine Z_iload_n (i := 3) (pc' := 27) dX7_through_26 rfl rfl rfl ?_
      refine Z_if_lt (tgt := 36) (pc' := 30) dX7_through_27 (by decide) rfl (fun h6 => ?_) (fun h6 => ?_)
      · rw [if_pos h6] at hF
        refine Z_iconst (v := -1) (pc' := 37) dX7_through_36 (by decide) rfl ?_
        cases hF
        exact Z_iret (ty := .int) (w := (-1 : Int32)) dX7_through_37 rfl rfl (Nat.le_refl _) (Nat.le_refl _) ⟨rfl, rfl⟩
      · rw [if_neg h6] at hF
        refine Z_iload_n (i := 3) (pc' := 31) dX7_through_30 rfl rfl rfl ?_
        refine Z_iload (i := 4) (pc' := 33) dX7_through_31 rfl rfl ?_
        refine Z_icmp_le (tgt := 38) (pc' := 36) dX7_through_33 (by decide) rfl (fun h7 => ?_) (fun h7 => ?_)
        · rw [if_pos h7] at hF
          refine Z_aload (i := 5) (pc' := 40) dX7_through_38 rfl rfl ?_
          obtain ⟨h8, hF⟩ := ck_of hF
          refine Z_get (v := .int (y2.2 52 i5)) (pc' := 43) 2 zinX6 rfl (by decide) lkX7_197 (eC_tr hG h8) rfl dX7_through_40 rfl ?_
          obtain ⟨v9, hv9, hF⟩ := zl_of hF
          refine Z_istoreE (i := 6) (x' := v9) (vs' := [some (.ref (ad 0)), some (.int x1), some (.int x2), some (.int x3), some (.int y1.1), some (.ref (ad (8 * i5 + 2))), some (.int v9), none]) (pc' := 45) dX7_through_43 hv9 (by decide) rfl rfl ?_
          refine Z_iconst (v := 0) (pc' := 46) dX7_through_45 (by decide) rfl ?_
          refine Z_istoreE (i := 7) (x' := (0 : Int32)) (vs' := [some (.ref (ad 0)), some (.int x1), some (.int x2), some (.int x3), some (.int y1.1), some (.ref (ad (8 * i5 + 2))), some (.int v9), some (.int (0 : Int32))]) (pc' := 48) dX7_through_46 rfl (by decide) rfl rfl ?_
          obtain ⟨r14, hr14, hF⟩ := bd_of hF
          refine Z_sub (vs' := [some (.ref (ad 0)), none, none, some (.int x3), none, some (.ref (ad (8 * i5 + 2))), some (.int v9), some (.int (0 : Int32))]) (zSb_of _ _ ⟨rfl, ⟨rfl, ⟨rfl, ⟨rfl, ⟨rfl, trivial⟩⟩⟩⟩⟩) (qX7_through_L48 hG zF x3 i5 v9 (0 : Int32) y2.2 _ hr14 ?_)
          refine Z_iload (i := 6) (pc' := 75) dX7_through_73 rfl rfl ?_
          cases hF
          exact Z_iret (ty := .int) (w := r14.1) dX7_through_75 rfl rfl (Nat.le_refl _) (Nat.le_refl _) ⟨rfl, rfl⟩
        · rw [if_neg h7] at hF
          refine Z_iconst (v := -1) (pc' := 37) dX7_through_36 (by decide) rfl ?_
          cases hF
          exact Z_iret (ty := .int) (w := (-1 : Int32)) dX7_through_37 rfl rfl (Nat.le_refl _) (Nat.le_refl _) ⟨rfl, rfl⟩
abbrev rmX7_treasuresHeldBy : Room := { frames := 1, cells := 0, slots := 0, locals := 21 }
def c7_treasuresHeldBy_L4 (N : Nat) (c : Nat → Nat) (x1_ : Int32) (x2_ : Int32) (x3_ : Int32) (σ : zS) : Option (Int32 × zS) := match N with
  | 0 => none
  | n + 1 => (if (σ 32 0) ≤ x3_ then some (x2_, σ) else (if zIn x3_ 24 = true then zl (zo (c 4) x3_) (fun (o3 : Option Nat) => (Option.bind o3 (fun (i4 : Nat) => (if i4 < c 1 then ((c6_isHeldBy c i4 x1_ σ).bind (fun y5 => (if y5.1 = 0 then zl (x3_ + 1) (fun (v8 : Int32) => (c7_treasuresHeldBy_L4 n c x1_ x2_ v8 y5.2)) else zl (x2_ + 1) (fun (v9 : Int32) => zl (x3_ + 1) (fun (v10 : Int32) => (c7_treasuresHeldBy_L4 n c x1_ v9 v10 y5.2)))))) else none)))) else none))
def c7_treasuresHeldBy (c : Nat → Nat) (x1 : Int32) (σ : zS) : Option (Int32 × zS) := ((c7_treasuresHeldBy_L4 zF c x1 (0 : Int32) (0 : Int32) σ).bind (fun r11 => some (r11.1, r11.2)))
set_option maxHeartbeats 4000000 in
set_option maxRecDepth 100000 in
theorem qX7_treasuresHeldBy_L4 {l : Launch} {D : va_G} {M0 : zM} {Q : Option Value → zM → Prop} {c ad dec : Nat → Nat} (hG : cG c ad dec) : ∀ (n : Nat) (x1_ : Int32) (x2_ : Int32) (x3_ : Int32) (σ : zS) (r : (Int32 × zS)), c7_treasuresHeldBy_L4 n c x1_ x2_ x3_ σ = some r → (Z l yX7_treasuresHeldBy cX7_treasuresHeldBy 4 (some .int) rmX7_treasuresHeldBy 0 0 D M0 Q 0 0 34 [none, none, some (.int r.1), none] [] (mC c ad dec r.2)) → Z l yX7_treasuresHeldBy cX7_treasuresHeldBy 4 (some .int) rmX7_treasuresHeldBy 0 0 D M0 Q 0 0 4 [some (.ref (ad 0)), some (.int x1_), some (.int x2_), some (.int x3_)] [] (mC c ad dec σ) := by
  intro n
  induction n with
  | zero =>
    intro x1_ x2_ x3_ σ r hF hE
    exact absurd (show (none : Option (Int32 × zS)) = some r from hF) (by simp)
  | succ n ih =>
    intro x1_ x2_ x3_ σ r hF hE
    replace hF : (if (σ 32 0) ≤ x3_ then some (x2_, σ) else (if zIn x3_ 24 = true then zl (zo (c 4) x3_) (fun (o3 : Option Nat) => (Option.bind o3 (fun (i4 : Nat) => (if i4 < c 1 then ((c6_isHeldBy c i4 x1_ σ).bind (fun y5 => (if y5.1 = 0 then zl (x3_ + 1) (fun (v8 : Int32) => (c7_treasuresHeldBy_L4 n c x1_ x2_ v8 y5.2)) else zl (x2_ + 1) (fun (v9 : Int32) => zl (x3_ + 1) (fun (v10 : Int32) => (c7_treasuresHeldBy_L4 n c x1_ v9 v10 y5.2)))))) else none)))) else none)) = some r := hF
    refine Z_iload_n (i := 3) (pc' := 5) dX7_treasuresHeldBy_4 rfl rfl rfl ?_
    refine Z_aload_n (i := 0) (pc' := 6) dX7_treasuresHeldBy_5 rfl rfl rfl ?_
    refine Z_get (v := .int (σ 32 0)) (pc' := 9) 9 zinX7 rfl (by decide) lkX7_60 (eC_0 hG) rfl dX7_treasuresHeldBy_6 rfl ?_
    refine Z_icmp_ge (tgt := 34) (pc' := 12) dX7_treasuresHeldBy_9 (by decide) rfl (fun h1 => ?_) (fun h1 => ?_)
    · rw [if_pos h1] at hF
      cases hF
      exact Z_sub (vs' := [none, none, some (.int x2_), none]) (zSb_of _ _ ⟨rfl, trivial⟩) hE
    · rw [if_neg h1] at hF
      refine Z_aload_n (i := 0) (pc' := 13) dX7_treasuresHeldBy_12 rfl rfl rfl ?_
      refine Z_get (v := .ref (ad 56)) (pc' := 16) 3 zinX7 rfl (by decide) lkX7_31 (eC_0 hG) rfl dX7_treasuresHeldBy_13 rfl ?_
      refine Z_iload_n (i := 3) (pc' := 17) dX7_treasuresHeldBy_16 rfl rfl rfl ?_
      obtain ⟨h2, hF⟩ := ck_of hF
      obtain ⟨o3, ho3, hF⟩ := zl_of hF
      refine Z_aaldC (pc' := 18) (o := o3) (eC_7 hG) (zIn_in h2) ho3 dX7_treasuresHeldBy_17 rfl ?_
      refine Z_iload_n (i := 1) (pc' := 19) dX7_treasuresHeldBy_18 rfl rfl rfl ?_
      obtain ⟨i4, hi4, hN⟩ := bd_of hF
      clear hF
      subst hi4
      have hF := hN
      clear hN
      obtain ⟨h6, hF⟩ := ck_of hF
      obtain ⟨y5, hy5, hF⟩ := bd_of hF
      refine Z_callVi (As := [.int x1_]) (st := []) (pc' := 22) (k' := 0) (n' := 0) (qX6_isHeldBy l hG hy5) ckX6_isHeldBy kvX6_isHeldBy mlX7_126 (eC_tr hG h6) rfl rfl rfl (Nat.le_of_ble_eq_true rfl) ⟨Nat.le_of_ble_eq_true rfl, Nat.le_of_ble_eq_true rfl⟩ ⟨Nat.le_of_ble_eq_true rfl, Nat.le_of_ble_eq_true rfl⟩ dX7_treasuresHeldBy_19 rfl rfl rfl ?_
      refine Z_if_eq (tgt := 28) (pc' := 25) dX7_treasuresHeldBy_22 (by decide) rfl (fun h7 => ?_) (fun h7 => ?_)
      · rw [if_pos h7] at hF
        obtain ⟨v8, hv8, hF⟩ := zl_of hF
        refine Z_iinc (i := 3) (v := v8) (vs' := [some (.ref (ad 0)), some (.int x1_), some (.int x2_), some (.int v8)]) (pc' := 31) dX7_treasuresHeldBy_28 rfl (by rw [hv8]; rfl) (by decide) rfl rfl ?_
        refine Z_goto (tgt := 4) dX7_treasuresHeldBy_31 (by decide) ?_
        exact Z_sub (vs' := [some (.ref (ad 0)), some (.int x1_), some (.int x2_), some (.int v8)]) (zSb_of _ _ ⟨rfl, ⟨rfl, ⟨rfl, ⟨rfl, trivial⟩⟩⟩⟩) (ih x1_ x2_ v8 y5.2 _ hF hE)
      · rw [if_neg h7] at hF
        obtain ⟨v9, hv9, hF⟩ := zl_of hF
        refine Z_iinc (i := 2) (v := v9) (vs' := [some (.ref (ad 0)), some (.int x1_), some (.int v9), some (.int x3_)]) (pc' := 28) dX7_treasuresHeldBy_25 rfl (by rw [hv9]; rfl) (by decide) rfl rfl ?_
        obtain ⟨v10, hv10, hF⟩ := zl_of hF
        refine Z_iinc (i := 3) (v := v10) (vs' := [some (.ref (ad 0)), some (.int x1_), some (.int v9), some (.int v10)]) (pc' := 31) dX7_treasuresHeldBy_28 rfl (by rw [hv10]; rfl) (by decide) rfl rfl ?_
        refine Z_goto (tgt := 4) dX7_treasuresHeldBy_31 (by decide) ?_
        exact Z_sub (vs' := [some (.ref (ad 0)), some (.int x1_), some (.int v9), some (.int v10)]) (zSb_of _ _ ⟨rfl, ⟨rfl, ⟨rfl, ⟨rfl, trivial⟩⟩⟩⟩) (ih x1_ v9 v10 y5.2 _ hF hE)
set_option maxHeartbeats 4000000 in
set_option maxRecDepth 100000 in
theorem qX7_treasuresHeldBy (l : Launch) {c ad dec : Nat → Nat} (hG : cG c ad dec) {x1 : Int32} {σ : zS} {w : Int32 × zS} (hF : c7_treasuresHeldBy c x1 σ = some w) : zMet l yX7_treasuresHeldBy cX7_treasuresHeldBy 4 (some .int) rmX7_treasuresHeldBy [.ref (ad 0), .int x1] (mC c ad dec σ) (fun v M' => v = (some (.int w.1)) ∧ M' = (mC c ad dec w.2)) := by
  refine zMet.ofZ (vs := [some (.ref (ad 0)), some (.int x1), none, none]) (by decide) rfl (zCt_of _ ⟨rfl, ⟨rfl, trivial⟩⟩) (Nat.le_of_ble_eq_true rfl) (fun D => ?_)
  unfold c7_treasuresHeldBy at hF
  refine Z_iconst (v := 0) (pc' := 1) dX7_treasuresHeldBy_0 (by decide) rfl ?_
  refine Z_istore_nE (i := 2) (x' := (0 : Int32)) (vs' := [some (.ref (ad 0)), some (.int x1), some (.int (0 : Int32)), none]) (pc' := 2) dX7_treasuresHeldBy_1 rfl rfl (by decide) rfl rfl ?_
  refine Z_iconst (v := 0) (pc' := 3) dX7_treasuresHeldBy_2 (by decide) rfl ?_
  refine Z_istore_nE (i := 3) (x' := (0 : Int32)) (vs' := [some (.ref (ad 0)), some (.int x1), some (.int (0 : Int32)), some (.int (0 : Int32))]) (pc' := 4) dX7_treasuresHeldBy_3 rfl rfl (by decide) rfl rfl ?_
  obtain ⟨r11, hr11, hF⟩ := bd_of hF
  refine Z_sub (vs' := [some (.ref (ad 0)), some (.int x1), some (.int (0 : Int32)), some (.int (0 : Int32))]) (zSb_of _ _ ⟨rfl, ⟨rfl, ⟨rfl, ⟨rfl, trivial⟩⟩⟩⟩) (qX7_treasuresHeldBy_L4 hG zF x1 (0 : Int32) (0 : Int32) σ _ hr11 ?_)
  refine Z_iload_n (i := 2) (pc' := 35) dX7_treasuresHeldBy_34 rfl rfl rfl ?_
  cases hF
  exact Z_iret (ty := .int) (w := r11.1) dX7_treasuresHeldBy_35 rfl rfl (Nat.le_refl _) (Nat.le_refl _) ⟨rfl, rfl⟩
abbrev rmX7_look : Room := { frames := 3, cells := 0, slots := 0, locals := 65 }
def c7_look (c : Nat → Nat) (x1 : Int32) (x2 : Int32) (σ : zS) : Option (Int32 × zS) := ((c7_anyMan c x1 σ).bind (fun y1 => zl y1.1 (fun (o2 : Option Nat) => (zopt o2 (some ((-1 : Int32), y1.2)) (fun (i3 : Nat) => (if x2 = (0 : Int32) then (if i3 < c 0 then some ((y1.2 40 i3), y1.2) else none) else (if x2 = (1 : Int32) then (if i3 < c 0 then (if (y1.2 41 i3) = 0 then some ((0 : Int32), y1.2) else some ((1 : Int32), y1.2)) else none) else (if x2 = (2 : Int32) then (if i3 < c 0 then some ((y1.2 42 i3), y1.2) else none) else (if x2 = (3 : Int32) then ((c7_treasuresHeldBy c x1 y1.2).bind (fun y16 => some (y16.1, y16.2))) else (if x2 = (4 : Int32) then ((c2_openOnes c x1 (-1 : Int32) y1.2).bind (fun y17 => some (y17.1, y17.2))) else (if x2 = (5 : Int32) then ((c2_openOnes c (-1 : Int32) x1 y1.2).bind (fun y18 => some (y18.1, y18.2))) else (if x2 = (6 : Int32) then ((c2_lateOnesOf c x1 (y1.2 33 0) y1.2).bind (fun y19 => some (y19.1, y19.2))) else (if x2 = (7 : Int32) then (if i3 < c 0 then ((j_bitCount (y1.2 43 i3)).bind (fun (y21 : Int32) => some (y21, y1.2))) else none) else some ((-1 : Int32), y1.2))))))))))))))
set_option maxHeartbeats 4000000 in
set_option maxRecDepth 100000 in
theorem qX7_look (l : Launch) {c ad dec : Nat → Nat} (hG : cG c ad dec) {x1 : Int32} {x2 : Int32} {σ : zS} {w : Int32 × zS} (hF : c7_look c x1 x2 σ = some w) : zMet l yX7_look cX7_look 4 (some .int) rmX7_look [.ref (ad 0), .int x1, .int x2] (mC c ad dec σ) (fun v M' => v = (some (.int w.1)) ∧ M' = (mC c ad dec w.2)) := by
  refine zMet.ofZ (vs := [some (.ref (ad 0)), some (.int x1), some (.int x2), none]) (by decide) rfl (zCt_of _ ⟨rfl, ⟨rfl, ⟨rfl, trivial⟩⟩⟩) (Nat.le_of_ble_eq_true rfl) (fun D => ?_)
  unfold c7_look at hF
  refine Z_aload_n (i := 0) (pc' := 1) dX7_look_0 rfl rfl rfl ?_
  refine Z_iload_n (i := 1) (pc' := 2) dX7_look_1 rfl rfl rfl ?_
  obtain ⟨y1, hy1, hF⟩ := bd_of hF
  obtain ⟨o2, ho2, hF⟩ := zl_of hF
  refine Z_callVr (kd := 1) (ad := ad) (o := o2) (As := [.int x1]) (st := []) (pc' := 5) (k' := 0) (n' := 0) ho2 (qX7_anyMan l hG hy1) ckX7_anyMan kvX7_anyMan mlX7_106 (eC_0 hG) rfl rfl rfl (Nat.le_of_ble_eq_true rfl) ⟨Nat.le_of_ble_eq_true rfl, Nat.le_of_ble_eq_true rfl⟩ ⟨Nat.le_of_ble_eq_true rfl, Nat.le_of_ble_eq_true rfl⟩ dX7_look_2 rfl rfl rfl ?_
  refine Z_astore_nR (v := rv ad 1 o2) (i := 3) (vs' := [some (.ref (ad 0)), some (.int x1), some (.int x2), some (rv ad 1 o2)]) (pc' := 6) (rv_or _ _ _) dX7_look_5 rfl (by decide) rfl rfl ?_
  refine Z_aload_nR (v := rv ad 1 o2) (i := 3) (pc' := 7) (rv_or _ _ _) dX7_look_6 rfl rfl rfl ?_
  cases o2 with
  | none =>
    replace hF := zopt_n hF
    refine Z_ifnonnullN (pc' := 10) dX7_look_7 rfl ?_
    refine Z_iconst (v := -1) (pc' := 11) dX7_look_10 (by decide) rfl ?_
    cases hF
    exact Z_iret (ty := .int) (w := (-1 : Int32)) dX7_look_11 rfl rfl (Nat.le_refl _) (Nat.le_refl _) ⟨rfl, rfl⟩
  | some i3 =>
    replace hF := zopt_s hF
    refine Z_ifnonnull (tgt := 12) dX7_look_7 (by decide) ?_
    refine Z_iload_n (i := 2) (pc' := 13) dX7_look_12 rfl rfl rfl ?_
    by_cases h4 : x2 = (0 : Int32)
    · rw [if_pos h4] at hF
      refine Z_tin (j := 0) (tgt := 60) dX7_look_13 h4 (by decide) (by decide) rfl (by decide) ?_
      refine Z_aload_n (i := 3) (pc' := 61) dX7_look_60 rfl rfl rfl ?_
      obtain ⟨h12, hF⟩ := ck_of hF
      refine Z_get (v := .int (y1.2 40 i3)) (pc' := 64) 0 zinX3 rfl (by decide) lkX7_90 (eC_man hG h12) rfl dX7_look_61 rfl ?_
      cases hF
      exact Z_iret (ty := .int) (w := (y1.2 40 i3)) dX7_look_64 rfl rfl (Nat.le_refl _) (Nat.le_refl _) ⟨rfl, rfl⟩
    · rw [if_neg h4] at hF
      by_cases h5 : x2 = (1 : Int32)
      · rw [if_pos h5] at hF
        refine Z_tin (j := 1) (tgt := 65) dX7_look_13 h5 (by decide) (by decide) rfl (by decide) ?_
        refine Z_aload_n (i := 3) (pc' := 66) dX7_look_65 rfl rfl rfl ?_
        obtain ⟨h13, hF⟩ := ck_of hF
        refine Z_get (v := .int (y1.2 41 i3)) (pc' := 69) 1 zinX3 rfl (by decide) lkX7_109 (eC_man hG h13) rfl dX7_look_66 rfl ?_
        refine Z_if_eq (tgt := 76) (pc' := 72) dX7_look_69 (by decide) rfl (fun h14 => ?_) (fun h14 => ?_)
        · rw [if_pos h14] at hF
          refine Z_iconst (v := 0) (pc' := 77) dX7_look_76 (by decide) rfl ?_
          cases hF
          exact Z_iret (ty := .int) (w := (0 : Int32)) dX7_look_77 rfl rfl (Nat.le_refl _) (Nat.le_refl _) ⟨rfl, rfl⟩
        · rw [if_neg h14] at hF
          refine Z_iconst (v := 1) (pc' := 73) dX7_look_72 (by decide) rfl ?_
          refine Z_goto (tgt := 77) dX7_look_73 (by decide) ?_
          cases hF
          exact Z_iret (ty := .int) (w := (1 : Int32)) dX7_look_77 rfl rfl (Nat.le_refl _) (Nat.le_refl _) ⟨rfl, rfl⟩
      · rw [if_neg h5] at hF
        by_cases h6 : x2 = (2 : Int32)
        · rw [if_pos h6] at hF
          refine Z_tin (j := 2) (tgt := 78) dX7_look_13 h6 (by decide) (by decide) rfl (by decide) ?_
          refine Z_aload_n (i := 3) (pc' := 79) dX7_look_78 rfl rfl rfl ?_
          obtain ⟨h15, hF⟩ := ck_of hF
          refine Z_get (v := .int (y1.2 42 i3)) (pc' := 82) 2 zinX3 rfl (by decide) lkX7_143 (eC_man hG h15) rfl dX7_look_79 rfl ?_
          cases hF
          exact Z_iret (ty := .int) (w := (y1.2 42 i3)) dX7_look_82 rfl rfl (Nat.le_refl _) (Nat.le_refl _) ⟨rfl, rfl⟩
        · rw [if_neg h6] at hF
          by_cases h7 : x2 = (3 : Int32)
          · rw [if_pos h7] at hF
            refine Z_tin (j := 3) (tgt := 83) dX7_look_13 h7 (by decide) (by decide) rfl (by decide) ?_
            refine Z_aload_n (i := 0) (pc' := 84) dX7_look_83 rfl rfl rfl ?_
            refine Z_iload_n (i := 1) (pc' := 85) dX7_look_84 rfl rfl rfl ?_
            obtain ⟨y16, hy16, hF⟩ := bd_of hF
            refine Z_callVi (As := [.int x1]) (st := []) (pc' := 88) (k' := 0) (n' := 0) (qX7_treasuresHeldBy l hG hy16) ckX7_treasuresHeldBy kvX7_treasuresHeldBy mlX7_288 (eC_0 hG) rfl rfl rfl (Nat.le_of_ble_eq_true rfl) ⟨Nat.le_of_ble_eq_true rfl, Nat.le_of_ble_eq_true rfl⟩ ⟨Nat.le_of_ble_eq_true rfl, Nat.le_of_ble_eq_true rfl⟩ dX7_look_85 rfl rfl rfl ?_
            cases hF
            exact Z_iret (ty := .int) (w := y16.1) dX7_look_88 rfl rfl (Nat.le_refl _) (Nat.le_refl _) ⟨rfl, rfl⟩
          · rw [if_neg h7] at hF
            by_cases h8 : x2 = (4 : Int32)
            · rw [if_pos h8] at hF
              refine Z_tin (j := 4) (tgt := 89) dX7_look_13 h8 (by decide) (by decide) rfl (by decide) ?_
              refine Z_aload_n (i := 0) (pc' := 90) dX7_look_89 rfl rfl rfl ?_
              refine Z_get (v := .ref (ad 64)) (pc' := 93) 4 zinX7 rfl (by decide) lkX7_38 (eC_0 hG) rfl dX7_look_90 rfl ?_
              refine Z_iload_n (i := 1) (pc' := 94) dX7_look_93 rfl rfl rfl ?_
              refine Z_iconst (v := -1) (pc' := 95) dX7_look_94 (by decide) rfl ?_
              obtain ⟨y17, hy17, hF⟩ := bd_of hF
              refine Z_callVi (As := [.int x1, .int (-1 : Int32)]) (st := []) (pc' := 98) (k' := 0) (n' := 0) (qX2_openOnes l hG hy17) ckX2_openOnes kvX2_openOnes mlX7_291 (eC_8 hG) rfl rfl rfl (Nat.le_of_ble_eq_true rfl) ⟨Nat.le_of_ble_eq_true rfl, Nat.le_of_ble_eq_true rfl⟩ ⟨Nat.le_of_ble_eq_true rfl, Nat.le_of_ble_eq_true rfl⟩ dX7_look_95 rfl rfl rfl ?_
              cases hF
              exact Z_iret (ty := .int) (w := y17.1) dX7_look_98 rfl rfl (Nat.le_refl _) (Nat.le_refl _) ⟨rfl, rfl⟩
            · rw [if_neg h8] at hF
              by_cases h9 : x2 = (5 : Int32)
              · rw [if_pos h9] at hF
                refine Z_tin (j := 5) (tgt := 99) dX7_look_13 h9 (by decide) (by decide) rfl (by decide) ?_
                refine Z_aload_n (i := 0) (pc' := 100) dX7_look_99 rfl rfl rfl ?_
                refine Z_get (v := .ref (ad 64)) (pc' := 103) 4 zinX7 rfl (by decide) lkX7_38 (eC_0 hG) rfl dX7_look_100 rfl ?_
                refine Z_iconst (v := -1) (pc' := 104) dX7_look_103 (by decide) rfl ?_
                refine Z_iload_n (i := 1) (pc' := 105) dX7_look_104 rfl rfl rfl ?_
                obtain ⟨y18, hy18, hF⟩ := bd_of hF
                refine Z_callVi (As := [.int (-1 : Int32), .int x1]) (st := []) (pc' := 108) (k' := 0) (n' := 0) (qX2_openOnes l hG hy18) ckX2_openOnes kvX2_openOnes mlX7_291 (eC_8 hG) rfl rfl rfl (Nat.le_of_ble_eq_true rfl) ⟨Nat.le_of_ble_eq_true rfl, Nat.le_of_ble_eq_true rfl⟩ ⟨Nat.le_of_ble_eq_true rfl, Nat.le_of_ble_eq_true rfl⟩ dX7_look_105 rfl rfl rfl ?_
                cases hF
                exact Z_iret (ty := .int) (w := y18.1) dX7_look_108 rfl rfl (Nat.le_refl _) (Nat.le_refl _) ⟨rfl, rfl⟩
              · rw [if_neg h9] at hF
                by_cases h10 : x2 = (6 : Int32)
                · rw [if_pos h10] at hF
                  refine Z_tin (j := 6) (tgt := 109) dX7_look_13 h10 (by decide) (by decide) rfl (by decide) ?_
                  refine Z_aload_n (i := 0) (pc' := 110) dX7_look_109 rfl rfl rfl ?_
                  refine Z_get (v := .ref (ad 64)) (pc' := 113) 4 zinX7 rfl (by decide) lkX7_38 (eC_0 hG) rfl dX7_look_110 rfl ?_
                  refine Z_iload_n (i := 1) (pc' := 114) dX7_look_113 rfl rfl rfl ?_
                  refine Z_aload_n (i := 0) (pc' := 115) dX7_look_114 rfl rfl rfl ?_
                  refine Z_get (v := .int (y1.2 33 0)) (pc' := 118) 10 zinX7 rfl (by decide) lkX7_63 (eC_0 hG) rfl dX7_look_115 rfl ?_
                  obtain ⟨y19, hy19, hF⟩ := bd_of hF
                  refine Z_callVi (As := [.int x1, .int (y1.2 33 0)]) (st := []) (pc' := 121) (k' := 0) (n' := 0) (qX2_lateOnesOf l hG hy19) ckX2_lateOnesOf kvX2_lateOnesOf mlX7_294 (eC_8 hG) rfl rfl rfl (Nat.le_of_ble_eq_true rfl) ⟨Nat.le_of_ble_eq_true rfl, Nat.le_of_ble_eq_true rfl⟩ ⟨Nat.le_of_ble_eq_true rfl, Nat.le_of_ble_eq_true rfl⟩ dX7_look_118 rfl rfl rfl ?_
                  cases hF
                  exact Z_iret (ty := .int) (w := y19.1) dX7_look_121 rfl rfl (Nat.le_refl _) (Nat.le_refl _) ⟨rfl, rfl⟩
                · rw [if_neg h10] at hF
                  by_cases h11 : x2 = (7 : Int32)
                  · rw [if_pos h11] at hF
                    refine Z_tin (j := 7) (tgt := 122) dX7_look_13 h11 (by decide) (by decide) rfl (by decide) ?_
                    refine Z_aload_n (i := 3) (pc' := 123) dX7_look_122 rfl rfl rfl ?_
                    obtain ⟨h20, hF⟩ := ck_of hF
                    refine Z_get (v := .int (y1.2 43 i3)) (pc' := 126) 3 zinX3 rfl (by decide) lkX7_297 (eC_man hG h20) rfl dX7_look_123 rfl ?_
                    obtain ⟨y21, hy21, hF⟩ := bd_of hF
                    refine Z_callSi (r := y21) (As := [.int (y1.2 43 i3)]) (st := []) (pc' := 129) (k' := 0) (n' := 0) (qJ6_bitCount_0f7a4 l hy21) ckJ6_bitCount_0f7a4 ksJ6_bitCount_0f7a4 mlX7_300 rfl rfl (Nat.le_of_ble_eq_true rfl) ⟨Nat.le_of_ble_eq_true rfl, Nat.le_of_ble_eq_true rfl⟩ ⟨Nat.le_of_ble_eq_true rfl, Nat.le_of_ble_eq_true rfl⟩ dX7_look_126 rfl rfl rfl ?_
                    cases hF
                    exact Z_iret (ty := .int) (w := y21) dX7_look_129 rfl rfl (Nat.le_refl _) (Nat.le_refl _) ⟨rfl, rfl⟩
                  · rw [if_neg h11] at hF
                    refine Z_tout (hi := 7) (tgt := 130) dX7_look_13 (lt_s (lt_s (lt_s (lt_s (lt_s (lt_s (lt_s (lt_s lt_0 h4) h5) h6) h7) h8) h9) h10) h11) (by decide) ?_
                    refine Z_iconst (v := -1) (pc' := 131) dX7_look_130 (by decide) rfl ?_
                    cases hF
                    exact Z_iret (ty := .int) (w := (-1 : Int32)) dX7_look_131 rfl rfl (Nat.le_refl _) (Nat.le_refl _) ⟨rfl, rfl⟩
abbrev rmX7_told : Room := { frames := 2, cells := 0, slots := 0, locals := 41 }
def c7_told (c : Nat → Nat) (x1 : Int32) (x2 : Int32) (σ : zS) : Option (Int32 × zS) := ((c7_anyTreasure c x1 σ).bind (fun y1 => zl y1.1 (fun (o2 : Option Nat) => (zopt o2 (some ((-1 : Int32), y1.2)) (fun (i3 : Nat) => (if x2 = (0 : Int32) then (if i3 < c 1 then some ((y1.2 50 i3), y1.2) else none) else (if x2 = (1 : Int32) then (if i3 < c 1 then some ((y1.2 51 i3), y1.2) else none) else (if x2 = (2 : Int32) then (if i3 < c 1 then (if (y1.2 55 i3) = 0 then some ((y1.2 52 i3), y1.2) else some ((-1 : Int32), y1.2)) else none) else (if x2 = (3 : Int32) then (if i3 < c 1 then some ((y1.2 53 i3), y1.2) else none) else (if x2 = (4 : Int32) then (if i3 < c 1 then ((c6_holdersKept c i3 y1.2).bind (fun y14 => some (y14.1, y14.2))) else none) else some ((-1 : Int32), y1.2)))))))))))
set_option maxHeartbeats 4000000 in
set_option maxRecDepth 100000 in
theorem qX7_told (l : Launch) {c ad dec : Nat → Nat} (hG : cG c ad dec) {x1 : Int32} {x2 : Int32} {σ : zS} {w : Int32 × zS} (hF : c7_told c x1 x2 σ = some w) : zMet l yX7_told cX7_told 4 (some .int) rmX7_told [.ref (ad 0), .int x1, .int x2] (mC c ad dec σ) (fun v M' => v = (some (.int w.1)) ∧ M' = (mC c ad dec w.2)) := by
  refine zMet.ofZ (vs := [some (.ref (ad 0)), some (.int x1), some (.int x2), none]) (by decide) rfl (zCt_of _ ⟨rfl, ⟨rfl, ⟨rfl, trivial⟩⟩⟩) (Nat.le_of_ble_eq_true rfl) (fun D => ?_)
  unfold c7_told at hF
  refine Z_aload_n (i := 0) (pc' := 1) dX7_told_0 rfl rfl rfl ?_
  refine Z_iload_n (i := 1) (pc' := 2) dX7_told_1 rfl rfl rfl ?_
  obtain ⟨y1, hy1, hF⟩ := bd_of hF
  obtain ⟨o2, ho2, hF⟩ := zl_of hF
  refine Z_callVr (kd := 2) (ad := ad) (o := o2) (As := [.int x1]) (st := []) (pc' := 5) (k' := 0) (n' := 0) ho2 (qX7_anyTreasure l hG hy1) ckX7_anyTreasure kvX7_anyTreasure mlX7_122 (eC_0 hG) rfl rfl rfl (Nat.le_of_ble_eq_true rfl) ⟨Nat.le_of_ble_eq_true rfl, Nat.le_of_ble_eq_true rfl⟩ ⟨Nat.le_of_ble_eq_true rfl, Nat.le_of_ble_eq_true rfl⟩ dX7_told_2 rfl rfl rfl ?_
  refine Z_astore_nR (v := rv ad 2 o2) (i := 3) (vs' := [some (.ref (ad 0)), some (.int x1), some (.int x2), some (rv ad 2 o2)]) (pc' := 6) (rv_or _ _ _) dX7_told_5 rfl (by decide) rfl rfl ?_
  refine Z_aload_nR (v := rv ad 2 o2) (i := 3) (pc' := 7) (rv_or _ _ _) dX7_told_6 rfl rfl rfl ?_
  cases o2 with
  | none =>
    replace hF := zopt_n hF
    refine Z_ifnonnullN (pc' := 10) dX7_told_7 rfl ?_
    refine Z_iconst (v := -1) (pc' := 11) dX7_told_10 (by decide) rfl ?_
    cases hF
    exact Z_iret (ty := .int) (w := (-1 : Int32)) dX7_told_11 rfl rfl (Nat.le_refl _) (Nat.le_refl _) ⟨rfl, rfl⟩
  | some i3 =>
    replace hF := zopt_s hF
    refine Z_ifnonnull (tgt := 12) dX7_told_7 (by decide) ?_
    refine Z_iload_n (i := 2) (pc' := 13) dX7_told_12 rfl rfl rfl ?_
    by_cases h4 : x2 = (0 : Int32)
    · rw [if_pos h4] at hF
      refine Z_tin (j := 0) (tgt := 48) dX7_told_13 h4 (by decide) (by decide) rfl (by decide) ?_
      refine Z_aload_n (i := 3) (pc' := 49) dX7_told_48 rfl rfl rfl ?_
      obtain ⟨h9, hF⟩ := ck_of hF
      refine Z_get (v := .int (y1.2 50 i3)) (pc' := 52) 0 zinX6 rfl (by decide) lkX7_132 (eC_tr hG h9) rfl dX7_told_49 rfl ?_
      cases hF
      exact Z_iret (ty := .int) (w := (y1.2 50 i3)) dX7_told_52 rfl rfl (Nat.le_refl _) (Nat.le_refl _) ⟨rfl, rfl⟩
    · rw [if_neg h4] at hF
      by_cases h5 : x2 = (1 : Int32)
      · rw [if_pos h5] at hF
        refine Z_tin (j := 1) (tgt := 53) dX7_told_13 h5 (by decide) (by decide) rfl (by decide) ?_
        refine Z_aload_n (i := 3) (pc' := 54) dX7_told_53 rfl rfl rfl ?_
        obtain ⟨h10, hF⟩ := ck_of hF
        refine Z_get (v := .int (y1.2 51 i3)) (pc' := 57) 1 zinX6 rfl (by decide) lkX7_146 (eC_tr hG h10) rfl dX7_told_54 rfl ?_
        cases hF
        exact Z_iret (ty := .int) (w := (y1.2 51 i3)) dX7_told_57 rfl rfl (Nat.le_refl _) (Nat.le_refl _) ⟨rfl, rfl⟩
      · rw [if_neg h5] at hF
        by_cases h6 : x2 = (2 : Int32)
        · rw [if_pos h6] at hF
          refine Z_tin (j := 2) (tgt := 58) dX7_told_13 h6 (by decide) (by decide) rfl (by decide) ?_
          refine Z_aload_n (i := 3) (pc' := 59) dX7_told_58 rfl rfl rfl ?_
          obtain ⟨h11, hF⟩ := ck_of hF
          refine Z_get (v := .int (y1.2 55 i3)) (pc' := 62) 5 zinX6 rfl (by decide) lkX7_200 (eC_tr hG h11) rfl dX7_told_59 rfl ?_
          refine Z_if_eq (tgt := 69) (pc' := 65) dX7_told_62 (by decide) rfl (fun h12 => ?_) (fun h12 => ?_)
          · rw [if_pos h12] at hF
            refine Z_aload_n (i := 3) (pc' := 70) dX7_told_69 rfl rfl rfl ?_
            refine Z_get (v := .int (y1.2 52 i3)) (pc' := 73) 2 zinX6 rfl (by decide) lkX7_197 (eC_tr hG h11) rfl dX7_told_70 rfl ?_
            cases hF
            exact Z_iret (ty := .int) (w := (y1.2 52 i3)) dX7_told_73 rfl rfl (Nat.le_refl _) (Nat.le_refl _) ⟨rfl, rfl⟩
          · rw [if_neg h12] at hF
            refine Z_iconst (v := -1) (pc' := 66) dX7_told_65 (by decide) rfl ?_
            refine Z_goto (tgt := 73) dX7_told_66 (by decide) ?_
            cases hF
            exact Z_iret (ty := .int) (w := (-1 : Int32)) dX7_told_73 rfl rfl (Nat.le_refl _) (Nat.le_refl _) ⟨rfl, rfl⟩
        · rw [if_neg h6] at hF
          by_cases h7 : x2 = (3 : Int32)
          · rw [if_pos h7] at hF
            refine Z_tin (j := 3) (tgt := 74) dX7_told_13 h7 (by decide) (by decide) rfl (by decide) ?_
            refine Z_aload_n (i := 3) (pc' := 75) dX7_told_74 rfl rfl rfl ?_
            obtain ⟨h13, hF⟩ := ck_of hF
            refine Z_get (v := .int (y1.2 53 i3)) (pc' := 78) 3 zinX6 rfl (by decide) lkX7_203 (eC_tr hG h13) rfl dX7_told_75 rfl ?_
            cases hF
            exact Z_iret (ty := .int) (w := (y1.2 53 i3)) dX7_told_78 rfl rfl (Nat.le_refl _) (Nat.le_refl _) ⟨rfl, rfl⟩
          · rw [if_neg h7] at hF
            by_cases h8 : x2 = (4 : Int32)
            · rw [if_pos h8] at hF
              refine Z_tin (j := 4) (tgt := 79) dX7_told_13 h8 (by decide) (by decide) rfl (by decide) ?_
              refine Z_aload_n (i := 3) (pc' := 80) dX7_told_79 rfl rfl rfl ?_
              obtain ⟨h15, hF⟩ := ck_of hF
              obtain ⟨y14, hy14, hF⟩ := bd_of hF
              refine Z_callVi (As := []) (st := []) (pc' := 83) (k' := 0) (n' := 0) (qX6_holdersKept l hG hy14) ckX6_holdersKept kvX6_holdersKept mlX7_236 (eC_tr hG h15) rfl rfl rfl (Nat.le_of_ble_eq_true rfl) ⟨Nat.le_of_ble_eq_true rfl, Nat.le_of_ble_eq_true rfl⟩ ⟨Nat.le_of_ble_eq_true rfl, Nat.le_of_ble_eq_true rfl⟩ dX7_told_80 rfl rfl rfl ?_
              cases hF
              exact Z_iret (ty := .int) (w := y14.1) dX7_told_83 rfl rfl (Nat.le_refl _) (Nat.le_refl _) ⟨rfl, rfl⟩
            · rw [if_neg h8] at hF
              refine Z_tout (hi := 4) (tgt := 84) dX7_told_13 (lt_s (lt_s (lt_s (lt_s (lt_s lt_0 h4) h5) h6) h7) h8) (by decide) ?_
              refine Z_iconst (v := -1) (pc' := 85) dX7_told_84 (by decide) rfl ?_
              cases hF
              exact Z_iret (ty := .int) (w := (-1 : Int32)) dX7_told_85 rfl rfl (Nat.le_refl _) (Nat.le_refl _) ⟨rfl, rfl⟩
abbrev rmX7_debt : Room := { frames := 3, cells := 0, slots := 0, locals := 62 }
def c7_debt (c : Nat → Nat) (x1 : Int32) (x2 : Int32) (σ : zS) : Option (Int32 × zS) := (if x1 < 0 then some ((-1 : Int32), σ) else (if x1 < (σ 35 0) then (if zIn x1 200 = true then zl (zo (c 5) x1) (fun (o4 : Option Nat) => (if x2 = (0 : Int32) then (Option.bind o4 (fun (i13 : Nat) => (if i13 < c 2 then some ((σ 60 i13), σ) else none))) else (if x2 = (1 : Int32) then (Option.bind o4 (fun (i15 : Nat) => (if i15 < c 2 then some ((σ 61 i15), σ) else none))) else (if x2 = (2 : Int32) then (Option.bind o4 (fun (i17 : Nat) => (if i17 < c 2 then some ((σ 63 i17), σ) else none))) else (if x2 = (3 : Int32) then (Option.bind o4 (fun (i19 : Nat) => (if i19 < c 2 then some ((σ 64 i19), σ) else none))) else (if x2 = (4 : Int32) then (Option.bind o4 (fun (i21 : Nat) => (if i21 < c 2 then some ((σ 65 i21), σ) else none))) else (if x2 = (5 : Int32) then (Option.bind o4 (fun (i23 : Nat) => (if i23 < c 2 then ((c1_stateIn c i23 (σ 33 0) σ).bind (fun y24 => some (y24.1, y24.2))) else none))) else (if x2 = (6 : Int32) then (Option.bind o4 (fun (i26 : Nat) => (if i26 < c 2 then some ((σ 62 i26), σ) else none))) else (if x2 = (7 : Int32) then (Option.bind o4 (fun (i28 : Nat) => (if i28 < c 2 then some ((σ 66 i28), σ) else none))) else some ((-1 : Int32), σ)))))))))) else none) else some ((-1 : Int32), σ)))
set_option maxHeartbeats 4000000 in
set_option maxRecDepth 100000 in
theorem qX7_debt (l : Launch) {c ad dec : Nat → Nat} (hG : cG c ad dec) {x1 : Int32} {x2 : Int32} {σ : zS} {w : Int32 × zS} (hF : c7_debt c x1 x2 σ = some w) : zMet l yX7_debt cX7_debt 4 (some .int) rmX7_debt [.ref (ad 0), .int x1, .int x2] (mC c ad dec σ) (fun v M' => v = (some (.int w.1)) ∧ M' = (mC c ad dec w.2)) := by
  refine zMet.ofZ (vs := [some (.ref (ad 0)), some (.int x1), some (.int x2), none]) (by decide) rfl (zCt_of _ ⟨rfl, ⟨rfl, ⟨rfl, trivial⟩⟩⟩) (Nat.le_of_ble_eq_true rfl) (fun D => ?_)
  unfold c7_debt at hF
  refine Z_iload_n (i := 1) (pc' := 1) dX7_debt_0 rfl rfl rfl ?_
  refine Z_if_lt (tgt := 15) (pc' := 4) dX7_debt_1 (by decide) rfl (fun h1 => ?_) (fun h1 => ?_)
  · rw [if_pos h1] at hF
    refine Z_iconst (v := -1) (pc' := 16) dX7_debt_15 (by decide) rfl ?_
    cases hF
    exact Z_iret (ty := .int) (w := (-1 : Int32)) dX7_debt_16 rfl rfl (Nat.le_refl _) (Nat.le_refl _) ⟨rfl, rfl⟩
  · rw [if_neg h1] at hF
    refine Z_iload_n (i := 1) (pc' := 5) dX7_debt_4 rfl rfl rfl ?_
    refine Z_aload_n (i := 0) (pc' := 6) dX7_debt_5 rfl rfl rfl ?_
    refine Z_get (v := .ref (ad 64)) (pc' := 9) 4 zinX7 rfl (by decide) lkX7_38 (eC_0 hG) rfl dX7_debt_6 rfl ?_
    refine Z_get (v := .int (σ 35 0)) (pc' := 12) 1 zinX2 rfl (by decide) lkX7_246 (eC_8 hG) rfl dX7_debt_9 rfl ?_
    refine Z_icmp_lt (tgt := 17) (pc' := 15) dX7_debt_12 (by decide) rfl (fun h2 => ?_) (fun h2 => ?_)
    · rw [if_pos h2] at hF
      refine Z_aload_n (i := 0) (pc' := 18) dX7_debt_17 rfl rfl rfl ?_
      refine Z_get (v := .ref (ad 64)) (pc' := 21) 4 zinX7 rfl (by decide) lkX7_38 (eC_0 hG) rfl dX7_debt_18 rfl ?_
      refine Z_get (v := .ref (ad 72)) (pc' := 24) 0 zinX2 rfl (by decide) lkX7_247 (eC_8 hG) rfl dX7_debt_21 rfl ?_
      refine Z_iload_n (i := 1) (pc' := 25) dX7_debt_24 rfl rfl rfl ?_
      obtain ⟨h3, hF⟩ := ck_of hF
      obtain ⟨o4, ho4, hF⟩ := zl_of hF
      refine Z_aaldC (pc' := 26) (o := o4) (eC_9 hG) (zIn_in h3) ho4 dX7_debt_25 rfl ?_
      refine Z_astore_nR (v := rv ad 5 o4) (i := 3) (vs' := [some (.ref (ad 0)), some (.int x1), some (.int x2), some (rv ad 5 o4)]) (pc' := 27) (rv_or _ _ _) dX7_debt_26 rfl (by decide) rfl rfl ?_
      refine Z_iload_n (i := 2) (pc' := 28) dX7_debt_27 rfl rfl rfl ?_
      by_cases h5 : x2 = (0 : Int32)
      · rw [if_pos h5] at hF
        refine Z_tin (j := 0) (tgt := 76) dX7_debt_28 h5 (by decide) (by decide) rfl (by decide) ?_
        refine Z_aload_nR (v := rv ad 5 o4) (i := 3) (pc' := 77) (rv_or _ _ _) dX7_debt_76 rfl rfl rfl ?_
        obtain ⟨i13, hi13, hN⟩ := bd_of hF
        clear hF
        subst hi13
        have hF := hN
        clear hN
        obtain ⟨h14, hF⟩ := ck_of hF
        refine Z_get (v := .int (σ 60 i13)) (pc' := 80) 0 zinX1 rfl (by decide) lkX7_254 (eC_db hG h14) rfl dX7_debt_77 rfl ?_
        cases hF
        exact Z_iret (ty := .int) (w := (σ 60 i13)) dX7_debt_80 rfl rfl (Nat.le_refl _) (Nat.le_refl _) ⟨rfl, rfl⟩
      · rw [if_neg h5] at hF
        by_cases h6 : x2 = (1 : Int32)
        · rw [if_pos h6] at hF
          refine Z_tin (j := 1) (tgt := 81) dX7_debt_28 h6 (by decide) (by decide) rfl (by decide) ?_
          refine Z_aload_nR (v := rv ad 5 o4) (i := 3) (pc' := 82) (rv_or _ _ _) dX7_debt_81 rfl rfl rfl ?_
          obtain ⟨i15, hi15, hN⟩ := bd_of hF
          clear hF
          subst hi15
          have hF := hN
          clear hN
          obtain ⟨h16, hF⟩ := ck_of hF
          refine Z_get (v := .int (σ 61 i15)) (pc' := 85) 1 zinX1 rfl (by decide) lkX7_305 (eC_db hG h16) rfl dX7_debt_82 rfl ?_
          cases hF
          exact Z_iret (ty := .int) (w := (σ 61 i15)) dX7_debt_85 rfl rfl (Nat.le_refl _) (Nat.le_refl _) ⟨rfl, rfl⟩
        · rw [if_neg h6] at hF
          by_cases h7 : x2 = (2 : Int32)
          · rw [if_pos h7] at hF
            refine Z_tin (j := 2) (tgt := 86) dX7_debt_28 h7 (by decide) (by decide) rfl (by decide) ?_
            refine Z_aload_nR (v := rv ad 5 o4) (i := 3) (pc' := 87) (rv_or _ _ _) dX7_debt_86 rfl rfl rfl ?_
            obtain ⟨i17, hi17, hN⟩ := bd_of hF
            clear hF
            subst hi17
            have hF := hN
            clear hN
            obtain ⟨h18, hF⟩ := ck_of hF
            refine Z_get (v := .int (σ 63 i17)) (pc' := 90) 3 zinX1 rfl (by decide) lkX7_308 (eC_db hG h18) rfl dX7_debt_87 rfl ?_
            cases hF
            exact Z_iret (ty := .int) (w := (σ 63 i17)) dX7_debt_90 rfl rfl (Nat.le_refl _) (Nat.le_refl _) ⟨rfl, rfl⟩
          · rw [if_neg h7] at hF
            by_cases h8 : x2 = (3 : Int32)
            · rw [if_pos h8] at hF
              refine Z_tin (j := 3) (tgt := 91) dX7_debt_28 h8 (by decide) (by decide) rfl (by decide) ?_
              refine Z_aload_nR (v := rv ad 5 o4) (i := 3) (pc' := 92) (rv_or _ _ _) dX7_debt_91 rfl rfl rfl ?_
              obtain ⟨i19, hi19, hN⟩ := bd_of hF
              clear hF
              subst hi19
              have hF := hN
              clear hN
              obtain ⟨h20, hF⟩ := ck_of hF
              refine Z_get (v := .int (σ 64 i19)) (pc' := 95) 4 zinX1 rfl (by decide) lkX7_185 (eC_db hG h20) rfl dX7_debt_92 rfl ?_
              cases hF
              exact Z_iret (ty := .int) (w := (σ 64 i19)) dX7_debt_95 rfl rfl (Nat.le_refl _) (Nat.le_refl _) ⟨rfl, rfl⟩
            · rw [if_neg h8] at hF
              by_cases h9 : x2 = (4 : Int32)
              · rw [if_pos h9] at hF
                refine Z_tin (j := 4) (tgt := 96) dX7_debt_28 h9 (by decide) (by decide) rfl (by decide) ?_
                refine Z_aload_nR (v := rv ad 5 o4) (i := 3) (pc' := 97) (rv_or _ _ _) dX7_debt_96 rfl rfl rfl ?_
                obtain ⟨i21, hi21, hN⟩ := bd_of hF
                clear hF
                subst hi21
                have hF := hN
                clear hN
                obtain ⟨h22, hF⟩ := ck_of hF
                refine Z_get (v := .int (σ 65 i21)) (pc' := 100) 5 zinX1 rfl (by decide) lkX7_191 (eC_db hG h22) rfl dX7_debt_97 rfl ?_
                cases hF
                exact Z_iret (ty := .int) (w := (σ 65 i21)) dX7_debt_100 rfl rfl (Nat.le_refl _) (Nat.le_refl _) ⟨rfl, rfl⟩
              · rw [if_neg h9] at hF
                by_cases h10 : x2 = (5 : Int32)
                · rw [if_pos h10] at hF
                  refine Z_tin (j := 5) (tgt := 101) dX7_debt_28 h10 (by decide) (by decide) rfl (by decide) ?_
                  refine Z_aload_nR (v := rv ad 5 o4) (i := 3) (pc' := 102) (rv_or _ _ _) dX7_debt_101 rfl rfl rfl ?_
                  refine Z_aload_n (i := 0) (pc' := 103) dX7_debt_102 rfl rfl rfl ?_
                  refine Z_get (v := .int (σ 33 0)) (pc' := 106) 10 zinX7 rfl (by decide) lkX7_63 (eC_0 hG) rfl dX7_debt_103 rfl ?_
                  obtain ⟨i23, hi23, hN⟩ := bd_of hF
                  clear hF
                  subst hi23
                  have hF := hN
                  clear hN
                  obtain ⟨h25, hF⟩ := ck_of hF
                  obtain ⟨y24, hy24, hF⟩ := bd_of hF
                  refine Z_callVi (As := [.int (σ 33 0)]) (st := []) (pc' := 109) (k' := 0) (n' := 0) (qX1_stateIn l hG hy24) ckX1_stateIn kvX1_stateIn mlX7_309 (eC_db hG h25) rfl rfl rfl (Nat.le_of_ble_eq_true rfl) ⟨Nat.le_of_ble_eq_true rfl, Nat.le_of_ble_eq_true rfl⟩ ⟨Nat.le_of_ble_eq_true rfl, Nat.le_of_ble_eq_true rfl⟩ dX7_debt_106 rfl rfl rfl ?_
                  cases hF
                  exact Z_iret (ty := .int) (w := y24.1) dX7_debt_109 rfl rfl (Nat.le_refl _) (Nat.le_refl _) ⟨rfl, rfl⟩
                · rw [if_neg h10] at hF
                  by_cases h11 : x2 = (6 : Int32)
                  · rw [if_pos h11] at hF
                    refine Z_tin (j := 6) (tgt := 110) dX7_debt_28 h11 (by decide) (by decide) rfl (by decide) ?_
                    refine Z_aload_nR (v := rv ad 5 o4) (i := 3) (pc' := 111) (rv_or _ _ _) dX7_debt_110 rfl rfl rfl ?_
                    obtain ⟨i26, hi26, hN⟩ := bd_of hF
                    clear hF
                    subst hi26
                    have hF := hN
                    clear hN
                    obtain ⟨h27, hF⟩ := ck_of hF
                    refine Z_get (v := .int (σ 62 i26)) (pc' := 114) 2 zinX1 rfl (by decide) lkX7_312 (eC_db hG h27) rfl dX7_debt_111 rfl ?_
                    cases hF
                    exact Z_iret (ty := .int) (w := (σ 62 i26)) dX7_debt_114 rfl rfl (Nat.le_refl _) (Nat.le_refl _) ⟨rfl, rfl⟩
                  · rw [if_neg h11] at hF
                    by_cases h12 : x2 = (7 : Int32)
                    · rw [if_pos h12] at hF
                      refine Z_tin (j := 7) (tgt := 115) dX7_debt_28 h12 (by decide) (by decide) rfl (by decide) ?_
                      refine Z_aload_nR (v := rv ad 5 o4) (i := 3) (pc' := 116) (rv_or _ _ _) dX7_debt_115 rfl rfl rfl ?_
                      obtain ⟨i28, hi28, hN⟩ := bd_of hF
                      clear hF
                      subst hi28
                      have hF := hN
                      clear hN
                      obtain ⟨h29, hF⟩ := ck_of hF
                      refine Z_get (v := .int (σ 66 i28)) (pc' := 119) 6 zinX1 rfl (by decide) lkX7_156 (eC_db hG h29) rfl dX7_debt_116 rfl ?_
                      cases hF
                      exact Z_iret (ty := .int) (w := (σ 66 i28)) dX7_debt_119 rfl rfl (Nat.le_refl _) (Nat.le_refl _) ⟨rfl, rfl⟩
                    · rw [if_neg h12] at hF
                      refine Z_tout (hi := 7) (tgt := 120) dX7_debt_28 (lt_s (lt_s (lt_s (lt_s (lt_s (lt_s (lt_s (lt_s lt_0 h5) h6) h7) h8) h9) h10) h11) h12) (by decide) ?_
                      refine Z_iconst (v := -1) (pc' := 121) dX7_debt_120 (by decide) rfl ?_
                      cases hF
                      exact Z_iret (ty := .int) (w := (-1 : Int32)) dX7_debt_121 rfl rfl (Nat.le_refl _) (Nat.le_refl _) ⟨rfl, rfl⟩
    · rw [if_neg h2] at hF
      refine Z_iconst (v := -1) (pc' := 16) dX7_debt_15 (by decide) rfl ?_
      cases hF
      exact Z_iret (ty := .int) (w := (-1 : Int32)) dX7_debt_16 rfl rfl (Nat.le_refl _) (Nat.le_refl _) ⟨rfl, rfl⟩
abbrev rmX7_quarrel : Room := { frames := 3, cells := 0, slots := 0, locals := 66 }
def c7_quarrel (c : Nat → Nat) (x1 : Int32) (x2 : Int32) (σ : zS) : Option (Int32 × zS) := ((c7_anyMan c x1 σ).bind (fun y1 => zl y1.1 (fun (o2 : Option Nat) => (zopt o2 (some ((-1 : Int32), y1.2)) (fun (i3 : Nat) => ((c7_anyMan c x2 y1.2).bind (fun y4 => zl y4.1 (fun (o5 : Option Nat) => (zopt o5 (some ((-1 : Int32), y4.2)) (fun (i6 : Nat) => (if x1 = x2 then some ((-1 : Int32), y4.2) else ((c2_haveQuarrel c x1 x2 (y4.2 33 0) y4.2).bind (fun y8 => (if y8.1 = 0 then some ((0 : Int32), y8.2) else some ((1 : Int32), y8.2)))))))))))))))
set_option maxHeartbeats 4000000 in
set_option maxRecDepth 100000 in
theorem qX7_quarrel (l : Launch) {c ad dec : Nat → Nat} (hG : cG c ad dec) {x1 : Int32} {x2 : Int32} {σ : zS} {w : Int32 × zS} (hF : c7_quarrel c x1 x2 σ = some w) : zMet l yX7_quarrel cX7_quarrel 3 (some .int) rmX7_quarrel [.ref (ad 0), .int x1, .int x2] (mC c ad dec σ) (fun v M' => v = (some (.int w.1)) ∧ M' = (mC c ad dec w.2)) := by
  refine zMet.ofZ (vs := [some (.ref (ad 0)), some (.int x1), some (.int x2)]) (by decide) rfl (zCt_of _ ⟨rfl, ⟨rfl, ⟨rfl, trivial⟩⟩⟩) (Nat.le_of_ble_eq_true rfl) (fun D => ?_)
  unfold c7_quarrel at hF
  refine Z_aload_n (i := 0) (pc' := 1) dX7_quarrel_0 rfl rfl rfl ?_
  refine Z_iload_n (i := 1) (pc' := 2) dX7_quarrel_1 rfl rfl rfl ?_
  obtain ⟨y1, hy1, hF⟩ := bd_of hF
  obtain ⟨o2, ho2, hF⟩ := zl_of hF
  refine Z_callVr (kd := 1) (ad := ad) (o := o2) (As := [.int x1]) (st := []) (pc' := 5) (k' := 0) (n' := 0) ho2 (qX7_anyMan l hG hy1) ckX7_anyMan kvX7_anyMan mlX7_106 (eC_0 hG) rfl rfl rfl (Nat.le_of_ble_eq_true rfl) ⟨Nat.le_of_ble_eq_true rfl, Nat.le_of_ble_eq_true rfl⟩ ⟨Nat.le_of_ble_eq_true rfl, Nat.le_of_ble_eq_true rfl⟩ dX7_quarrel_2 rfl rfl rfl ?_
  cases o2 with
  | none =>
    replace hF := zopt_n hF
    refine Z_ifnullN (tgt := 21) dX7_quarrel_5 (by decide) ?_
    refine Z_iconst (v := -1) (pc' := 22) dX7_quarrel_21 (by decide) rfl ?_
    cases hF
    exact Z_iret (ty := .int) (w := (-1 : Int32)) dX7_quarrel_22 rfl rfl (Nat.le_refl _) (Nat.le_refl _) ⟨rfl, rfl⟩
  | some i3 =>
    replace hF := zopt_s hF
    refine Z_ifnull (pc' := 8) dX7_quarrel_5 rfl ?_
    refine Z_aload_n (i := 0) (pc' := 9) dX7_quarrel_8 rfl rfl rfl ?_
    refine Z_iload_n (i := 2) (pc' := 10) dX7_quarrel_9 rfl rfl rfl ?_
    obtain ⟨y4, hy4, hF⟩ := bd_of hF
    obtain ⟨o5, ho5, hF⟩ := zl_of hF
    refine Z_callVr (kd := 1) (ad := ad) (o := o5) (As := [.int x2]) (st := []) (pc' := 13) (k' := 0) (n' := 0) ho5 (qX7_anyMan l hG hy4) ckX7_anyMan kvX7_anyMan mlX7_106 (eC_0 hG) rfl rfl rfl (Nat.le_of_ble_eq_true rfl) ⟨Nat.le_of_ble_eq_true rfl, Nat.le_of_ble_eq_true rfl⟩ ⟨Nat.le_of_ble_eq_true rfl, Nat.le_of_ble_eq_true rfl⟩ dX7_quarrel_10 rfl rfl rfl ?_
    cases o5 with
    | none =>
      replace hF := zopt_n hF
      refine Z_ifnullN (tgt := 21) dX7_quarrel_13 (by decide) ?_
      refine Z_iconst (v := -1) (pc' := 22) dX7_quarrel_21 (by decide) rfl ?_
      cases hF
      exact Z_iret (ty := .int) (w := (-1 : Int32)) dX7_quarrel_22 rfl rfl (Nat.le_refl _) (Nat.le_refl _) ⟨rfl, rfl⟩
    | some i6 =>
      replace hF := zopt_s hF
      refine Z_ifnull (pc' := 16) dX7_quarrel_13 rfl ?_
      refine Z_iload_n (i := 1) (pc' := 17) dX7_quarrel_16 rfl rfl rfl ?_
      refine Z_iload_n (i := 2) (pc' := 18) dX7_quarrel_17 rfl rfl rfl ?_
      refine Z_icmp_ne (tgt := 23) (pc' := 21) dX7_quarrel_18 (by decide) rfl (fun h7 => ?_) (fun h7 => ?_)
      · rw [if_neg h7] at hF
        refine Z_aload_n (i := 0) (pc' := 24) dX7_quarrel_23 rfl rfl rfl ?_
        refine Z_get (v := .ref (ad 64)) (pc' := 27) 4 zinX7 rfl (by decide) lkX7_38 (eC_0 hG) rfl dX7_quarrel_24 rfl ?_
        refine Z_iload_n (i := 1) (pc' := 28) dX7_quarrel_27 rfl rfl rfl ?_
        refine Z_iload_n (i := 2) (pc' := 29) dX7_quarrel_28 rfl rfl rfl ?_
        refine Z_aload_n (i := 0) (pc' := 30) dX7_quarrel_29 rfl rfl rfl ?_
        refine Z_get (v := .int (y4.2 33 0)) (pc' := 33) 10 zinX7 rfl (by decide) lkX7_63 (eC_0 hG) rfl dX7_quarrel_30 rfl ?_
        obtain ⟨y8, hy8, hF⟩ := bd_of hF
        refine Z_callVi (As := [.int x1, .int x2, .int (y4.2 33 0)]) (st := []) (pc' := 36) (k' := 0) (n' := 0) (qX2_haveQuarrel l hG hy8) ckX2_haveQuarrel kvX2_haveQuarrel mlX7_161 (eC_8 hG) rfl rfl rfl (Nat.le_of_ble_eq_true rfl) ⟨Nat.le_of_ble_eq_true rfl, Nat.le_of_ble_eq_true rfl⟩ ⟨Nat.le_of_ble_eq_true rfl, Nat.le_of_ble_eq_true rfl⟩ dX7_quarrel_33 rfl rfl rfl ?_
        refine Z_if_eq (tgt := 43) (pc' := 39) dX7_quarrel_36 (by decide) rfl (fun h9 => ?_) (fun h9 => ?_)
        · rw [if_pos h9] at hF
          refine Z_iconst (v := 0) (pc' := 44) dX7_quarrel_43 (by decide) rfl ?_
          cases hF
          exact Z_iret (ty := .int) (w := (0 : Int32)) dX7_quarrel_44 rfl rfl (Nat.le_refl _) (Nat.le_refl _) ⟨rfl, rfl⟩
        · rw [if_neg h9] at hF
          refine Z_iconst (v := 1) (pc' := 40) dX7_quarrel_39 (by decide) rfl ?_
          refine Z_goto (tgt := 44) dX7_quarrel_40 (by decide) ?_
          cases hF
          exact Z_iret (ty := .int) (w := (1 : Int32)) dX7_quarrel_44 rfl rfl (Nat.le_refl _) (Nat.le_refl _) ⟨rfl, rfl⟩
      · rw [if_pos h7] at hF
        refine Z_iconst (v := -1) (pc' := 22) dX7_quarrel_21 (by decide) rfl ?_
        cases hF
        exact Z_iret (ty := .int) (w := (-1 : Int32)) dX7_quarrel_22 rfl rfl (Nat.le_refl _) (Nat.le_refl _) ⟨rfl, rfl⟩
abbrev rmX7_livingMen : Room := { frames := 0, cells := 0, slots := 0, locals := 0 }
def c7_livingMen_L4 (N : Nat) (c : Nat → Nat) (x1_ : Int32) (x2_ : Int32) (σ : zS) : Option (Int32 × zS) := match N with
  | 0 => none
  | n + 1 => (if (σ 31 0) ≤ x2_ then some (x1_, σ) else (if zIn x2_ 16 = true then zl (zo (c 3) x2_) (fun (o3 : Option Nat) => (Option.bind o3 (fun (i4 : Nat) => (if i4 < c 0 then (if (σ 41 i4) = 0 then zl (x2_ + 1) (fun (v7 : Int32) => (c7_livingMen_L4 n c x1_ v7 σ)) else zl (x1_ + 1) (fun (v8 : Int32) => zl (x2_ + 1) (fun (v9 : Int32) => (c7_livingMen_L4 n c v8 v9 σ)))) else none)))) else none))
def c7_livingMen (c : Nat → Nat)  (σ : zS) : Option (Int32 × zS) := ((c7_livingMen_L4 zF c (0 : Int32) (0 : Int32) σ).bind (fun r10 => some (r10.1, r10.2)))
set_option maxHeartbeats 4000000 in
set_option maxRecDepth 100000 in
theorem qX7_livingMen_L4 {l : Launch} {D : va_G} {M0 : zM} {Q : Option Value → zM → Prop} {c ad dec : Nat → Nat} (hG : cG c ad dec) : ∀ (n : Nat) (x1_ : Int32) (x2_ : Int32) (σ : zS) (r : (Int32 × zS)), c7_livingMen_L4 n c x1_ x2_ σ = some r → (Z l yX7_livingMen cX7_livingMen 3 (some .int) rmX7_livingMen 0 0 D M0 Q 0 0 33 [none, some (.int r.1), none] [] (mC c ad dec r.2)) → Z l yX7_livingMen cX7_livingMen 3 (some .int) rmX7_livingMen 0 0 D M0 Q 0 0 4 [some (.ref (ad 0)), some (.int x1_), some (.int x2_)] [] (mC c ad dec σ) := by
  intro n
  induction n with
  | zero =>
    intro x1_ x2_ σ r hF hE
    exact absurd (show (none : Option (Int32 × zS)) = some r from hF) (by simp)
  | succ n ih =>
    intro x1_ x2_ σ r hF hE
    replace hF : (if (σ 31 0) ≤ x2_ then some (x1_, σ) else (if zIn x2_ 16 = true then zl (zo (c 3) x2_) (fun (o3 : Option Nat) => (Option.bind o3 (fun (i4 : Nat) => (if i4 < c 0 then (if (σ 41 i4) = 0 then zl (x2_ + 1) (fun (v7 : Int32) => (c7_livingMen_L4 n c x1_ v7 σ)) else zl (x1_ + 1) (fun (v8 : Int32) => zl (x2_ + 1) (fun (v9 : Int32) => (c7_livingMen_L4 n c v8 v9 σ)))) else none)))) else none)) = some r := hF
    refine Z_iload_n (i := 2) (pc' := 5) dX7_livingMen_4 rfl rfl rfl ?_
    refine Z_aload_n (i := 0) (pc' := 6) dX7_livingMen_5 rfl rfl rfl ?_
    refine Z_get (v := .int (σ 31 0)) (pc' := 9) 8 zinX7 rfl (by decide) lkX7_57 (eC_0 hG) rfl dX7_livingMen_6 rfl ?_
    refine Z_icmp_ge (tgt := 33) (pc' := 12) dX7_livingMen_9 (by decide) rfl (fun h1 => ?_) (fun h1 => ?_)
    · rw [if_pos h1] at hF
      cases hF
      exact Z_sub (vs' := [none, some (.int x1_), none]) (zSb_of _ _ ⟨rfl, trivial⟩) hE
    · rw [if_neg h1] at hF
      refine Z_aload_n (i := 0) (pc' := 13) dX7_livingMen_12 rfl rfl rfl ?_
      refine Z_get (v := .ref (ad 48)) (pc' := 16) 2 zinX7 rfl (by decide) lkX7_25 (eC_0 hG) rfl dX7_livingMen_13 rfl ?_
      refine Z_iload_n (i := 2) (pc' := 17) dX7_livingMen_16 rfl rfl rfl ?_
      obtain ⟨h2, hF⟩ := ck_of hF
      obtain ⟨o3, ho3, hF⟩ := zl_of hF
      refine Z_aaldC (pc' := 18) (o := o3) (eC_6 hG) (zIn_in h2) ho3 dX7_livingMen_17 rfl ?_
      obtain ⟨i4, hi4, hN⟩ := bd_of hF
      clear hF
      subst hi4
      have hF := hN
      clear hN
      obtain ⟨h5, hF⟩ := ck_of hF
      refine Z_get (v := .int (σ 41 i4)) (pc' := 21) 1 zinX3 rfl (by decide) lkX7_109 (eC_man hG h5) rfl dX7_livingMen_18 rfl ?_
      refine Z_if_eq (tgt := 27) (pc' := 24) dX7_livingMen_21 (by decide) rfl (fun h6 => ?_) (fun h6 => ?_)
      · rw [if_pos h6] at hF
        obtain ⟨v7, hv7, hF⟩ := zl_of hF
        refine Z_iinc (i := 2) (v := v7) (vs' := [some (.ref (ad 0)), some (.int x1_), some (.int v7)]) (pc' := 30) dX7_livingMen_27 rfl (by rw [hv7]; rfl) (by decide) rfl rfl ?_
        refine Z_goto (tgt := 4) dX7_livingMen_30 (by decide) ?_
        exact Z_sub (vs' := [some (.ref (ad 0)), some (.int x1_), some (.int v7)]) (zSb_of _ _ ⟨rfl, ⟨rfl, ⟨rfl, trivial⟩⟩⟩) (ih x1_ v7 σ _ hF hE)
      · rw [if_neg h6] at hF
        obtain ⟨v8, hv8, hF⟩ := zl_of hF
        refine Z_iinc (i := 1) (v := v8) (vs' := [some (.ref (ad 0)), some (.int v8), some (.int x2_)]) (pc' := 27) dX7_livingMen_24 rfl (by rw [hv8]; rfl) (by decide) rfl rfl ?_
        obtain ⟨v9, hv9, hF⟩ := zl_of hF
        refine Z_iinc (i := 2) (v := v9) (vs' := [some (.ref (ad 0)), some (.int v8), some (.int v9)]) (pc' := 30) dX7_livingMen_27 rfl (by rw [hv9]; rfl) (by decide) rfl rfl ?_
        refine Z_goto (tgt := 4) dX7_livingMen_30 (by decide) ?_
        exact Z_sub (vs' := [some (.ref (ad 0)), some (.int v8), some (.int v9)]) (zSb_of _ _ ⟨rfl, ⟨rfl, ⟨rfl, trivial⟩⟩⟩) (ih v8 v9 σ _ hF hE)
set_option maxHeartbeats 4000000 in
set_option maxRecDepth 100000 in
theorem qX7_livingMen (l : Launch) {c ad dec : Nat → Nat} (hG : cG c ad dec)  {σ : zS} {w : Int32 × zS} (hF : c7_livingMen c  σ = some w) : zMet l yX7_livingMen cX7_livingMen 3 (some .int) rmX7_livingMen [.ref (ad 0)] (mC c ad dec σ) (fun v M' => v = (some (.int w.1)) ∧ M' = (mC c ad dec w.2)) := by
  refine zMet.ofZ (vs := [some (.ref (ad 0)), none, none]) (by decide) rfl (zCt_of _ ⟨rfl, trivial⟩) (Nat.le_of_ble_eq_true rfl) (fun D => ?_)
  unfold c7_livingMen at hF
  refine Z_iconst (v := 0) (pc' := 1) dX7_livingMen_0 (by decide) rfl ?_
  refine Z_istore_nE (i := 1) (x' := (0 : Int32)) (vs' := [some (.ref (ad 0)), some (.int (0 : Int32)), none]) (pc' := 2) dX7_livingMen_1 rfl rfl (by decide) rfl rfl ?_
  refine Z_iconst (v := 0) (pc' := 3) dX7_livingMen_2 (by decide) rfl ?_
  refine Z_istore_nE (i := 2) (x' := (0 : Int32)) (vs' := [some (.ref (ad 0)), some (.int (0 : Int32)), some (.int (0 : Int32))]) (pc' := 4) dX7_livingMen_3 rfl rfl (by decide) rfl rfl ?_
  obtain ⟨r10, hr10, hF⟩ := bd_of hF
  refine Z_sub (vs' := [some (.ref (ad 0)), some (.int (0 : Int32)), some (.int (0 : Int32))]) (zSb_of _ _ ⟨rfl, ⟨rfl, ⟨rfl, trivial⟩⟩⟩) (qX7_livingMen_L4 hG zF (0 : Int32) (0 : Int32) σ _ hr10 ?_)
  refine Z_iload_n (i := 1) (pc' := 34) dX7_livingMen_33 rfl rfl rfl ?_
  cases hF
  exact Z_iret (ty := .int) (w := r10.1) dX7_livingMen_34 rfl rfl (Nat.le_refl _) (Nat.le_refl _) ⟨rfl, rfl⟩
abbrev rmX7_lostTreasures : Room := { frames := 0, cells := 0, slots := 0, locals := 0 }
def c7_lostTreasures_L4 (N : Nat) (c : Nat → Nat) (x1_ : Int32) (x2_ : Int32) (σ : zS) : Option (Int32 × zS) := match N with
  | 0 => none
  | n + 1 => (if (σ 32 0) ≤ x2_ then some (x1_, σ) else (if zIn x2_ 24 = true then zl (zo (c 4) x2_) (fun (o3 : Option Nat) => (Option.bind o3 (fun (i4 : Nat) => (if i4 < c 1 then (if (σ 55 i4) = 0 then zl (x2_ + 1) (fun (v7 : Int32) => (c7_lostTreasures_L4 n c x1_ v7 σ)) else zl (x1_ + 1) (fun (v8 : Int32) => zl (x2_ + 1) (fun (v9 : Int32) => (c7_lostTreasures_L4 n c v8 v9 σ)))) else none)))) else none))
def c7_lostTreasures (c : Nat → Nat)  (σ : zS) : Option (Int32 × zS) := ((c7_lostTreasures_L4 zF c (0 : Int32) (0 : Int32) σ).bind (fun r10 => some (r10.1, r10.2)))
set_option maxHeartbeats 4000000 in
set_option maxRecDepth 100000 in
theorem qX7_lostTreasures_L4 {l : Launch} {D : va_G} {M0 : zM} {Q : Option Value → zM → Prop} {c ad dec : Nat → Nat} (hG : cG c ad dec) : ∀ (n : Nat) (x1_ : Int32) (x2_ : Int32) (σ : zS) (r : (Int32 × zS)), c7_lostTreasures_L4 n c x1_ x2_ σ = some r → (Z l yX7_lostTreasures cX7_lostTreasures 3 (some .int) rmX7_lostTreasures 0 0 D M0 Q 0 0 33 [none, some (.int r.1), none] [] (mC c ad dec r.2)) → Z l yX7_lostTreasures cX7_lostTreasures 3 (some .int) rmX7_lostTreasures 0 0 D M0 Q 0 0 4 [some (.ref (ad 0)), some (.int x1_), some (.int x2_)] [] (mC c ad dec σ) := by
  intro n
  induction n with
  | zero =>
    intro x1_ x2_ σ r hF hE
    exact absurd (show (none : Option (Int32 × zS)) = some r from hF) (by simp)
  | succ n ih =>
    intro x1_ x2_ σ r hF hE
    replace hF : (if (σ 32 0) ≤ x2_ then some (x1_, σ) else (if zIn x2_ 24 = true then zl (zo (c 4) x2_) (fun (o3 : Option Nat) => (Option.bind o3 (fun (i4 : Nat) => (if i4 < c 1 then (if (σ 55 i4) = 0 then zl (x2_ + 1) (fun (v7 : Int32) => (c7_lostTreasures_L4 n c x1_ v7 σ)) else zl (x1_ + 1) (fun (v8 : Int32) => zl (x2_ + 1) (fun (v9 : Int32) => (c7_lostTreasures_L4 n c v8 v9 σ)))) else none)))) else none)) = some r := hF
    refine Z_iload_n (i := 2) (pc' := 5) dX7_lostTreasures_4 rfl rfl rfl ?_
    refine Z_aload_n (i := 0) (pc' := 6) dX7_lostTreasures_5 rfl rfl rfl ?_
    refine Z_get (v := .int (σ 32 0)) (pc' := 9) 9 zinX7 rfl (by decide) lkX7_60 (eC_0 hG) rfl dX7_lostTreasures_6 rfl ?_
    refine Z_icmp_ge (tgt := 33) (pc' := 12) dX7_lostTreasures_9 (by decide) rfl (fun h1 => ?_) (fun h1 => ?_)
    · rw [if_pos h1] at hF
      cases hF
      exact Z_sub (vs' := [none, some (.int x1_), none]) (zSb_of _ _ ⟨rfl, trivial⟩) hE
    · rw [if_neg h1] at hF
      refine Z_aload_n (i := 0) (pc' := 13) dX7_lostTreasures_12 rfl rfl rfl ?_
      refine Z_get (v := .ref (ad 56)) (pc' := 16) 3 zinX7 rfl (by decide) lkX7_31 (eC_0 hG) rfl dX7_lostTreasures_13 rfl ?_
      refine Z_iload_n (i := 2) (pc' := 17) dX7_lostTreasures_16 rfl rfl rfl ?_
      obtain ⟨h2, hF⟩ := ck_of hF
      obtain ⟨o3, ho3, hF⟩ := zl_of hF
      refine Z_aaldC (pc' := 18) (o := o3) (eC_7 hG) (zIn_in h2) ho3 dX7_lostTreasures_17 rfl ?_
      obtain ⟨i4, hi4, hN⟩ := bd_of hF
      clear hF
      subst hi4
      have hF := hN
      clear hN
      obtain ⟨h5, hF⟩ := ck_of hF
      refine Z_get (v := .int (σ 55 i4)) (pc' := 21) 5 zinX6 rfl (by decide) lkX7_200 (eC_tr hG h5) rfl dX7_lostTreasures_18 rfl ?_
      refine Z_if_eq (tgt := 27) (pc' := 24) dX7_lostTreasures_21 (by decide) rfl (fun h6 => ?_) (fun h6 => ?_)
      · rw [if_pos h6] at hF
        obtain ⟨v7, hv7, hF⟩ := zl_of hF
        refine Z_iinc (i := 2) (v := v7) (vs' := [some (.ref (ad 0)), some (.int x1_), some (.int v7)]) (pc' := 30) dX7_lostTreasures_27 rfl (by rw [hv7]; rfl) (by decide) rfl rfl ?_
        refine Z_goto (tgt := 4) dX7_lostTreasures_30 (by decide) ?_
        exact Z_sub (vs' := [some (.ref (ad 0)), some (.int x1_), some (.int v7)]) (zSb_of _ _ ⟨rfl, ⟨rfl, ⟨rfl, trivial⟩⟩⟩) (ih x1_ v7 σ _ hF hE)
      · rw [if_neg h6] at hF
        obtain ⟨v8, hv8, hF⟩ := zl_of hF
        refine Z_iinc (i := 1) (v := v8) (vs' := [some (.ref (ad 0)), some (.int v8), some (.int x2_)]) (pc' := 27) dX7_lostTreasures_24 rfl (by rw [hv8]; rfl) (by decide) rfl rfl ?_
        obtain ⟨v9, hv9, hF⟩ := zl_of hF
        refine Z_iinc (i := 2) (v := v9) (vs' := [some (.ref (ad 0)), some (.int v8), some (.int v9)]) (pc' := 30) dX7_lostTreasures_27 rfl (by rw [hv9]; rfl) (by decide) rfl rfl ?_
        refine Z_goto (tgt := 4) dX7_lostTreasures_30 (by decide) ?_
        exact Z_sub (vs' := [some (.ref (ad 0)), some (.int v8), some (.int v9)]) (zSb_of _ _ ⟨rfl, ⟨rfl, ⟨rfl, trivial⟩⟩⟩) (ih v8 v9 σ _ hF hE)
set_option maxHeartbeats 4000000 in
set_option maxRecDepth 100000 in
theorem qX7_lostTreasures (l : Launch) {c ad dec : Nat → Nat} (hG : cG c ad dec)  {σ : zS} {w : Int32 × zS} (hF : c7_lostTreasures c  σ = some w) : zMet l yX7_lostTreasures cX7_lostTreasures 3 (some .int) rmX7_lostTreasures [.ref (ad 0)] (mC c ad dec σ) (fun v M' => v = (some (.int w.1)) ∧ M' = (mC c ad dec w.2)) := by
  refine zMet.ofZ (vs := [some (.ref (ad 0)), none, none]) (by decide) rfl (zCt_of _ ⟨rfl, trivial⟩) (Nat.le_of_ble_eq_true rfl) (fun D => ?_)
  unfold c7_lostTreasures at hF
  refine Z_iconst (v := 0) (pc' := 1) dX7_lostTreasures_0 (by decide) rfl ?_
  refine Z_istore_nE (i := 1) (x' := (0 : Int32)) (vs' := [some (.ref (ad 0)), some (.int (0 : Int32)), none]) (pc' := 2) dX7_lostTreasures_1 rfl rfl (by decide) rfl rfl ?_
  refine Z_iconst (v := 0) (pc' := 3) dX7_lostTreasures_2 (by decide) rfl ?_
  refine Z_istore_nE (i := 2) (x' := (0 : Int32)) (vs' := [some (.ref (ad 0)), some (.int (0 : Int32)), some (.int (0 : Int32))]) (pc' := 4) dX7_lostTreasures_3 rfl rfl (by decide) rfl rfl ?_
  obtain ⟨r10, hr10, hF⟩ := bd_of hF
  refine Z_sub (vs' := [some (.ref (ad 0)), some (.int (0 : Int32)), some (.int (0 : Int32))]) (zSb_of _ _ ⟨rfl, ⟨rfl, ⟨rfl, trivial⟩⟩⟩) (qX7_lostTreasures_L4 hG zF (0 : Int32) (0 : Int32) σ _ hr10 ?_)
  refine Z_iload_n (i := 1) (pc' := 34) dX7_lostTreasures_33 rfl rfl rfl ?_
  cases hF
  exact Z_iret (ty := .int) (w := r10.1) dX7_lostTreasures_34 rfl rfl (Nat.le_refl _) (Nat.le_refl _) ⟨rfl, rfl⟩
abbrev rmX7_count : Room := { frames := 2, cells := 0, slots := 0, locals := 45 }
def c7_count (c : Nat → Nat) (x1 : Int32) (σ : zS) : Option (Int32 × zS) := (if x1 = (0 : Int32) then some ((σ 30 0), σ) else (if x1 = (1 : Int32) then some ((σ 31 0), σ) else (if x1 = (2 : Int32) then ((c7_livingMen c  σ).bind (fun y15 => some (y15.1, y15.2))) else (if x1 = (3 : Int32) then some ((σ 32 0), σ) else (if x1 = (4 : Int32) then ((c7_lostTreasures c  σ).bind (fun y16 => some (y16.1, y16.2))) else (if x1 = (5 : Int32) then some ((σ 35 0), σ) else (if x1 = (6 : Int32) then ((c2_openOnes c (-1 : Int32) (-1 : Int32) σ).bind (fun y17 => some (y17.1, y17.2))) else (if x1 = (7 : Int32) then some ((σ 33 0), σ) else (if x1 = (8 : Int32) then some ((σ 34 0), σ) else (if x1 = (9 : Int32) then some ((-1 : Int32), σ) else (if x1 = (10 : Int32) then ((c0_term c (x1 - (10 : Int32)) σ).bind (fun y18 => some (y18.1, y18.2))) else (if x1 = (11 : Int32) then ((c0_term c (x1 - (10 : Int32)) σ).bind (fun y19 => some (y19.1, y19.2))) else (if x1 = (12 : Int32) then ((c0_term c (x1 - (10 : Int32)) σ).bind (fun y20 => some (y20.1, y20.2))) else (if x1 = (13 : Int32) then ((c0_term c (x1 - (10 : Int32)) σ).bind (fun y21 => some (y21.1, y21.2))) else some ((-1 : Int32), σ)))))))))))))))
set_option maxHeartbeats 4000000 in
set_option maxRecDepth 100000 in
theorem qX7_count (l : Launch) {c ad dec : Nat → Nat} (hG : cG c ad dec) {x1 : Int32} {σ : zS} {w : Int32 × zS} (hF : c7_count c x1 σ = some w) : zMet l yX7_count cX7_count 2 (some .int) rmX7_count [.ref (ad 0), .int x1] (mC c ad dec σ) (fun v M' => v = (some (.int w.1)) ∧ M' = (mC c ad dec w.2)) := by
  refine zMet.ofZ (vs := [some (.ref (ad 0)), some (.int x1)]) (by decide) rfl (zCt_of _ ⟨rfl, ⟨rfl, trivial⟩⟩) (Nat.le_of_ble_eq_true rfl) (fun D => ?_)
  unfold c7_count at hF
  refine Z_iload_n (i := 1) (pc' := 1) dX7_count_0 rfl rfl rfl ?_
  by_cases h1 : x1 = (0 : Int32)
  · rw [if_pos h1] at hF
    refine Z_tin (j := 0) (tgt := 72) dX7_count_1 h1 (by decide) (by decide) rfl (by decide) ?_
    refine Z_aload_n (i := 0) (pc' := 73) dX7_count_72 rfl rfl rfl ?_
    refine Z_get (v := .int (σ 30 0)) (pc' := 76) 7 zinX7 rfl (by decide) lkX7_53 (eC_0 hG) rfl dX7_count_73 rfl ?_
    cases hF
    exact Z_iret (ty := .int) (w := (σ 30 0)) dX7_count_76 rfl rfl (Nat.le_refl _) (Nat.le_refl _) ⟨rfl, rfl⟩
  · rw [if_neg h1] at hF
    by_cases h2 : x1 = (1 : Int32)
    · rw [if_pos h2] at hF
      refine Z_tin (j := 1) (tgt := 77) dX7_count_1 h2 (by decide) (by decide) rfl (by decide) ?_
      refine Z_aload_n (i := 0) (pc' := 78) dX7_count_77 rfl rfl rfl ?_
      refine Z_get (v := .int (σ 31 0)) (pc' := 81) 8 zinX7 rfl (by decide) lkX7_57 (eC_0 hG) rfl dX7_count_78 rfl ?_
      cases hF
      exact Z_iret (ty := .int) (w := (σ 31 0)) dX7_count_81 rfl rfl (Nat.le_refl _) (Nat.le_refl _) ⟨rfl, rfl⟩
    · rw [if_neg h2] at hF
      by_cases h3 : x1 = (2 : Int32)
      · rw [if_pos h3] at hF
        refine Z_tin (j := 2) (tgt := 82) dX7_count_1 h3 (by decide) (by decide) rfl (by decide) ?_
        refine Z_aload_n (i := 0) (pc' := 83) dX7_count_82 rfl rfl rfl ?_
        obtain ⟨y15, hy15, hF⟩ := bd_of hF
        refine Z_callVi (As := []) (st := []) (pc' := 86) (k' := 0) (n' := 0) (qX7_livingMen l hG hy15) ckX7_livingMen kvX7_livingMen mlX7_315 (eC_0 hG) rfl rfl rfl (Nat.le_of_ble_eq_true rfl) ⟨Nat.le_of_ble_eq_true rfl, Nat.le_of_ble_eq_true rfl⟩ ⟨Nat.le_of_ble_eq_true rfl, Nat.le_of_ble_eq_true rfl⟩ dX7_count_83 rfl rfl rfl ?_
        cases hF
        exact Z_iret (ty := .int) (w := y15.1) dX7_count_86 rfl rfl (Nat.le_refl _) (Nat.le_refl _) ⟨rfl, rfl⟩
      · rw [if_neg h3] at hF
        by_cases h4 : x1 = (3 : Int32)
        · rw [if_pos h4] at hF
          refine Z_tin (j := 3) (tgt := 87) dX7_count_1 h4 (by decide) (by decide) rfl (by decide) ?_
          refine Z_aload_n (i := 0) (pc' := 88) dX7_count_87 rfl rfl rfl ?_
          refine Z_get (v := .int (σ 32 0)) (pc' := 91) 9 zinX7 rfl (by decide) lkX7_60 (eC_0 hG) rfl dX7_count_88 rfl ?_
          cases hF
          exact Z_iret (ty := .int) (w := (σ 32 0)) dX7_count_91 rfl rfl (Nat.le_refl _) (Nat.le_refl _) ⟨rfl, rfl⟩
        · rw [if_neg h4] at hF
          by_cases h5 : x1 = (4 : Int32)
          · rw [if_pos h5] at hF
            refine Z_tin (j := 4) (tgt := 92) dX7_count_1 h5 (by decide) (by decide) rfl (by decide) ?_
            refine Z_aload_n (i := 0) (pc' := 93) dX7_count_92 rfl rfl rfl ?_
            obtain ⟨y16, hy16, hF⟩ := bd_of hF
            refine Z_callVi (As := []) (st := []) (pc' := 96) (k' := 0) (n' := 0) (qX7_lostTreasures l hG hy16) ckX7_lostTreasures kvX7_lostTreasures mlX7_318 (eC_0 hG) rfl rfl rfl (Nat.le_of_ble_eq_true rfl) ⟨Nat.le_of_ble_eq_true rfl, Nat.le_of_ble_eq_true rfl⟩ ⟨Nat.le_of_ble_eq_true rfl, Nat.le_of_ble_eq_true rfl⟩ dX7_count_93 rfl rfl rfl ?_
            cases hF
            exact Z_iret (ty := .int) (w := y16.1) dX7_count_96 rfl rfl (Nat.le_refl _) (Nat.le_refl _) ⟨rfl, rfl⟩
          · rw [if_neg h5] at hF
            by_cases h6 : x1 = (5 : Int32)
            · rw [if_pos h6] at hF
              refine Z_tin (j := 5) (tgt := 97) dX7_count_1 h6 (by decide) (by decide) rfl (by decide) ?_
              refine Z_aload_n (i := 0) (pc' := 98) dX7_count_97 rfl rfl rfl ?_
              refine Z_get (v := .ref (ad 64)) (pc' := 101) 4 zinX7 rfl (by decide) lkX7_38 (eC_0 hG) rfl dX7_count_98 rfl ?_
              refine Z_get (v := .int (σ 35 0)) (pc' := 104) 1 zinX2 rfl (by decide) lkX7_246 (eC_8 hG) rfl dX7_count_101 rfl ?_
              cases hF
              exact Z_iret (ty := .int) (w := (σ 35 0)) dX7_count_104 rfl rfl (Nat.le_refl _) (Nat.le_refl _) ⟨rfl, rfl⟩
            · rw [if_neg h6] at hF
              by_cases h7 : x1 = (6 : Int32)
              · rw [if_pos h7] at hF
                refine Z_tin (j := 6) (tgt := 105) dX7_count_1 h7 (by decide) (by decide) rfl (by decide) ?_
                refine Z_aload_n (i := 0) (pc' := 106) dX7_count_105 rfl rfl rfl ?_
                refine Z_get (v := .ref (ad 64)) (pc' := 109) 4 zinX7 rfl (by decide) lkX7_38 (eC_0 hG) rfl dX7_count_106 rfl ?_
                refine Z_iconst (v := -1) (pc' := 110) dX7_count_109 (by decide) rfl ?_
                refine Z_iconst (v := -1) (pc' := 111) dX7_count_110 (by decide) rfl ?_
                obtain ⟨y17, hy17, hF⟩ := bd_of hF
                refine Z_callVi (As := [.int (-1 : Int32), .int (-1 : Int32)]) (st := []) (pc' := 114) (k' := 0) (n' := 0) (qX2_openOnes l hG hy17) ckX2_openOnes kvX2_openOnes mlX7_291 (eC_8 hG) rfl rfl rfl (Nat.le_of_ble_eq_true rfl) ⟨Nat.le_of_ble_eq_true rfl, Nat.le_of_ble_eq_true rfl⟩ ⟨Nat.le_of_ble_eq_true rfl, Nat.le_of_ble_eq_true rfl⟩ dX7_count_111 rfl rfl rfl ?_
                cases hF
                exact Z_iret (ty := .int) (w := y17.1) dX7_count_114 rfl rfl (Nat.le_refl _) (Nat.le_refl _) ⟨rfl, rfl⟩
              · rw [if_neg h7] at hF
                by_cases h8 : x1 = (7 : Int32)
                · rw [if_pos h8] at hF
                  refine Z_tin (j := 7) (tgt := 115) dX7_count_1 h8 (by decide) (by decide) rfl (by decide) ?_
                  refine Z_aload_n (i := 0) (pc' := 116) dX7_count_115 rfl rfl rfl ?_
                  refine Z_get (v := .int (σ 33 0)) (pc' := 119) 10 zinX7 rfl (by decide) lkX7_63 (eC_0 hG) rfl dX7_count_116 rfl ?_
                  cases hF
                  exact Z_iret (ty := .int) (w := (σ 33 0)) dX7_count_119 rfl rfl (Nat.le_refl _) (Nat.le_refl _) ⟨rfl, rfl⟩
                · rw [if_neg h8] at hF
                  by_cases h9 : x1 = (8 : Int32)
                  · rw [if_pos h9] at hF
                    refine Z_tin (j := 8) (tgt := 120) dX7_count_1 h9 (by decide) (by decide) rfl (by decide) ?_
                    refine Z_aload_n (i := 0) (pc' := 121) dX7_count_120 rfl rfl rfl ?_
                    refine Z_get (v := .ref (ad 8)) (pc' := 124) 0 zinX7 rfl (by decide) lkX7_10 (eC_0 hG) rfl dX7_count_121 rfl ?_
                    refine Z_get (v := .int (σ 34 0)) (pc' := 127) 1 zinX5 rfl (by decide) lkX7_66 (eC_1 hG) rfl dX7_count_124 rfl ?_
                    cases hF
                    exact Z_iret (ty := .int) (w := (σ 34 0)) dX7_count_127 rfl rfl (Nat.le_refl _) (Nat.le_refl _) ⟨rfl, rfl⟩
                  · rw [if_neg h9] at hF
                    by_cases h10 : x1 = (9 : Int32)
                    · rw [if_pos h10] at hF
                      refine Z_tin (j := 9) (tgt := 140) dX7_count_1 h10 (by decide) (by decide) rfl (by decide) ?_
                      refine Z_iconst (v := -1) (pc' := 141) dX7_count_140 (by decide) rfl ?_
                      cases hF
                      exact Z_iret (ty := .int) (w := (-1 : Int32)) dX7_count_141 rfl rfl (Nat.le_refl _) (Nat.le_refl _) ⟨rfl, rfl⟩
                    · rw [if_neg h10] at hF
                      by_cases h11 : x1 = (10 : Int32)
                      · rw [if_pos h11] at hF
                        refine Z_tin (j := 10) (tgt := 128) dX7_count_1 h11 (by decide) (by decide) rfl (by decide) ?_
                        refine Z_aload_n (i := 0) (pc' := 129) dX7_count_128 rfl rfl rfl ?_
                        refine Z_get (v := .ref (ad 24)) (pc' := 132) 1 zinX7 rfl (by decide) lkX7_19 (eC_0 hG) rfl dX7_count_129 rfl ?_
                        refine Z_iload_n (i := 1) (pc' := 133) dX7_count_132 rfl rfl rfl ?_
                        refine Z_bipush (v := 10) (pc' := 135) dX7_count_133 (by decide) rfl ?_
                        refine Z_isub (pc' := 136) dX7_count_135 rfl ?_
                        obtain ⟨y18, hy18, hF⟩ := bd_of hF
                        refine Z_callVi (As := [.int (x1 - (10 : Int32))]) (st := []) (pc' := 139) (k' := 0) (n' := 0) (qX0_term l hG hy18) ckX0_term kvX0_term mlX7_321 (eC_3 hG) rfl rfl rfl (Nat.le_of_ble_eq_true rfl) ⟨Nat.le_of_ble_eq_true rfl, Nat.le_of_ble_eq_true rfl⟩ ⟨Nat.le_of_ble_eq_true rfl, Nat.le_of_ble_eq_true rfl⟩ dX7_count_136 rfl rfl rfl ?_
                        cases hF
                        exact Z_iret (ty := .int) (w := y18.1) dX7_count_139 rfl rfl (Nat.le_refl _) (Nat.le_refl _) ⟨rfl, rfl⟩
                      · rw [if_neg h11] at hF
                        by_cases h12 : x1 = (11 : Int32)
                        · rw [if_pos h12] at hF
                          refine Z_tin (j := 11) (tgt := 128) dX7_count_1 h12 (by decide) (by decide) rfl (by decide) ?_
                          refine Z_aload_n (i := 0) (pc' := 129) dX7_count_128 rfl rfl rfl ?_
                          refine Z_get (v := .ref (ad 24)) (pc' := 132) 1 zinX7 rfl (by decide) lkX7_19 (eC_0 hG) rfl dX7_count_129 rfl ?_
                          refine Z_iload_n (i := 1) (pc' := 133) dX7_count_132 rfl rfl rfl ?_
                          refine Z_bipush (v := 10) (pc' := 135) dX7_count_133 (by decide) rfl ?_
                          refine Z_isub (pc' := 136) dX7_count_135 rfl ?_
                          obtain ⟨y19, hy19, hF⟩ := bd_of hF
                          refine Z_callVi (As := [.int (x1 - (10 : Int32))]) (st := []) (pc' := 139) (k' := 0) (n' := 0) (qX0_term l hG hy19) ckX0_term kvX0_term mlX7_321 (eC_3 hG) rfl rfl rfl (Nat.le_of_ble_eq_true rfl) ⟨Nat.le_of_ble_eq_true rfl, Nat.le_of_ble_eq_true rfl⟩ ⟨Nat.le_of_ble_eq_true rfl, Nat.le_of_ble_eq_true rfl⟩ dX7_count_136 rfl rfl rfl ?_
                          cases hF
                          exact Z_iret (ty := .int) (w := y19.1) dX7_count_139 rfl rfl (Nat.le_refl _) (Nat.le_refl _) ⟨rfl, rfl⟩
                        · rw [if_neg h12] at hF
                          by_cases h13 : x1 = (12 : Int32)
                          · rw [if_pos h13] at hF
                            refine Z_tin (j := 12) (tgt := 128) dX7_count_1 h13 (by decide) (by decide) rfl (by decide) ?_
                            refine Z_aload_n (i := 0) (pc' := 129) dX7_count_128 rfl rfl rfl ?_
                            refine Z_get (v := .ref (ad 24)) (pc' := 132) 1 zinX7 rfl (by decide) lkX7_19 (eC_0 hG) rfl dX7_count_129 rfl ?_
                            refine Z_iload_n (i := 1) (pc' := 133) dX7_count_132 rfl rfl rfl ?_
                            refine Z_bipush (v := 10) (pc' := 135) dX7_count_133 (by decide) rfl ?_
                            refine Z_isub (pc' := 136) dX7_count_135 rfl ?_
                            obtain ⟨y20, hy20, hF⟩ := bd_of hF
                            refine Z_callVi (As := [.int (x1 - (10 : Int32))]) (st := []) (pc' := 139) (k' := 0) (n' := 0) (qX0_term l hG hy20) ckX0_term kvX0_term mlX7_321 (eC_3 hG) rfl rfl rfl (Nat.le_of_ble_eq_true rfl) ⟨Nat.le_of_ble_eq_true rfl, Nat.le_of_ble_eq_true rfl⟩ ⟨Nat.le_of_ble_eq_true rfl, Nat.le_of_ble_eq_true rfl⟩ dX7_count_136 rfl rfl rfl ?_
                            cases hF
                            exact Z_iret (ty := .int) (w := y20.1) dX7_count_139 rfl rfl (Nat.le_refl _) (Nat.le_refl _) ⟨rfl, rfl⟩
                          · rw [if_neg h13] at hF
                            by_cases h14 : x1 = (13 : Int32)
                            · rw [if_pos h14] at hF
                              refine Z_tin (j := 13) (tgt := 128) dX7_count_1 h14 (by decide) (by decide) rfl (by decide) ?_
                              refine Z_aload_n (i := 0) (pc' := 129) dX7_count_128 rfl rfl rfl ?_
                              refine Z_get (v := .ref (ad 24)) (pc' := 132) 1 zinX7 rfl (by decide) lkX7_19 (eC_0 hG) rfl dX7_count_129 rfl ?_
                              refine Z_iload_n (i := 1) (pc' := 133) dX7_count_132 rfl rfl rfl ?_
                              refine Z_bipush (v := 10) (pc' := 135) dX7_count_133 (by decide) rfl ?_
                              refine Z_isub (pc' := 136) dX7_count_135 rfl ?_
                              obtain ⟨y21, hy21, hF⟩ := bd_of hF
                              refine Z_callVi (As := [.int (x1 - (10 : Int32))]) (st := []) (pc' := 139) (k' := 0) (n' := 0) (qX0_term l hG hy21) ckX0_term kvX0_term mlX7_321 (eC_3 hG) rfl rfl rfl (Nat.le_of_ble_eq_true rfl) ⟨Nat.le_of_ble_eq_true rfl, Nat.le_of_ble_eq_true rfl⟩ ⟨Nat.le_of_ble_eq_true rfl, Nat.le_of_ble_eq_true rfl⟩ dX7_count_136 rfl rfl rfl ?_
                              cases hF
                              exact Z_iret (ty := .int) (w := y21.1) dX7_count_139 rfl rfl (Nat.le_refl _) (Nat.le_refl _) ⟨rfl, rfl⟩
                            · rw [if_neg h14] at hF
                              refine Z_tout (hi := 13) (tgt := 140) dX7_count_1 (lt_s (lt_s (lt_s (lt_s (lt_s (lt_s (lt_s (lt_s (lt_s (lt_s (lt_s (lt_s (lt_s (lt_s lt_0 h1) h2) h3) h4) h5) h6) h7) h8) h9) h10) h11) h12) h13) h14) (by decide) ?_
                              refine Z_iconst (v := -1) (pc' := 141) dX7_count_140 (by decide) rfl ?_
                              cases hF
                              exact Z_iret (ty := .int) (w := (-1 : Int32)) dX7_count_141 rfl rfl (Nat.le_refl _) (Nat.le_refl _) ⟨rfl, rfl⟩
