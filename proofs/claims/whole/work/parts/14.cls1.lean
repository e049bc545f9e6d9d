abbrev rmX1_isOpen : Room := { frames := 0, cells := 0, slots := 0, locals := 0 }
def c1_isOpen (c : Nat → Nat) (i0 : Nat) (σ : zS) : Option (Int32 × zS) := (if i0 < c 2 then (if (σ 66 i0) = (-1 : Int32) then some ((1 : Int32), σ) else some ((0 : Int32), σ)) else none)
set_option maxHeartbeats 4000000 in
set_option maxRecDepth 100000 in
theorem qX1_isOpen (l : Launch) {c ad dec : Nat → Nat} (hG : cG c ad dec) {i0 : Nat} {σ : zS} {w : Int32 × zS} (hF : c1_isOpen c i0 σ = some w) : zMet l yX1_isOpen cX1_isOpen 1 (some .boolean) rmX1_isOpen [.ref (ad (8 * i0 + 5))] (mC c ad dec σ) (fun v M' => v = (some (.int w.1)) ∧ M' = (mC c ad dec w.2)) := by
  refine zMet.ofZ (vs := [some (.ref (ad (8 * i0 + 5)))]) (by decide) rfl (zCt_of _ ⟨rfl, trivial⟩) (Nat.le_of_ble_eq_true rfl) (fun D => ?_)
  unfold c1_isOpen at hF
  refine Z_aload_n (i := 0) (pc' := 1) dX1_isOpen_0 rfl rfl rfl ?_
  obtain ⟨h1, hF⟩ := ck_of hF
  refine Z_get (v := .int (σ 66 i0)) (pc' := 4) 6 zinX1 rfl (by decide) lkX1_18 (eC_db hG h1) rfl dX1_isOpen_1 rfl ?_
  refine Z_iconst (v := -1) (pc' := 5) dX1_isOpen_4 (by decide) rfl ?_
  refine Z_icmp_ne (tgt := 12) (pc' := 8) dX1_isOpen_5 (by decide) rfl (fun h2 => ?_) (fun h2 => ?_)
  · rw [if_neg h2] at hF
    refine Z_iconst (v := 0) (pc' := 13) dX1_isOpen_12 (by decide) rfl ?_
    cases hF
    exact Z_iret (ty := .boolean) (w := (0 : Int32)) dX1_isOpen_13 rfl rfl (Nat.le_refl _) (Nat.le_refl _) ⟨rfl, rfl⟩
  · rw [if_pos h2] at hF
    refine Z_iconst (v := 1) (pc' := 9) dX1_isOpen_8 (by decide) rfl ?_
    refine Z_goto (tgt := 13) dX1_isOpen_9 (by decide) ?_
    cases hF
    exact Z_iret (ty := .boolean) (w := (1 : Int32)) dX1_isOpen_13 rfl rfl (Nat.le_refl _) (Nat.le_refl _) ⟨rfl, rfl⟩
abbrev rmX1_isLateIn : Room := { frames := 1, cells := 0, slots := 0, locals := 20 }
def c1_isLateIn (c : Nat → Nat) (i0 : Nat) (x1 : Int32) (σ : zS) : Option (Int32 × zS) := (if i0 < c 2 then ((c1_isOpen c i0 σ).bind (fun y1 => (if y1.1 = 0 then some ((0 : Int32), y1.2) else (if x1 ≤ (y1.2 65 i0) then some ((0 : Int32), y1.2) else some ((1 : Int32), y1.2))))) else none)
set_option maxHeartbeats 4000000 in
set_option maxRecDepth 100000 in
theorem qX1_isLateIn (l : Launch) {c ad dec : Nat → Nat} (hG : cG c ad dec) {i0 : Nat} {x1 : Int32} {σ : zS} {w : Int32 × zS} (hF : c1_isLateIn c i0 x1 σ = some w) : zMet l yX1_isLateIn cX1_isLateIn 2 (some .boolean) rmX1_isLateIn [.ref (ad (8 * i0 + 5)), .int x1] (mC c ad dec σ) (fun v M' => v = (some (.int w.1)) ∧ M' = (mC c ad dec w.2)) := by
  refine zMet.ofZ (vs := [some (.ref (ad (8 * i0 + 5))), some (.int x1)]) (by decide) rfl (zCt_of _ ⟨rfl, ⟨rfl, trivial⟩⟩) (Nat.le_of_ble_eq_true rfl) (fun D => ?_)
  unfold c1_isLateIn at hF
  refine Z_aload_n (i := 0) (pc' := 1) dX1_isLateIn_0 rfl rfl rfl ?_
  obtain ⟨h2, hF⟩ := ck_of hF
  obtain ⟨y1, hy1, hF⟩ := bd_of hF
  refine Z_callVi (As := []) (st := []) (pc' := 4) (k' := 0) (n' := 0) (qX1_isOpen l hG hy1) ckX1_isOpen kvX1_isOpen mlX1_37 (eC_db hG h2) rfl rfl rfl (Nat.le_of_ble_eq_true rfl) ⟨Nat.le_of_ble_eq_true rfl, Nat.le_of_ble_eq_true rfl⟩ ⟨Nat.le_of_ble_eq_true rfl, Nat.le_of_ble_eq_true rfl⟩ dX1_isLateIn_1 rfl rfl rfl ?_
  refine Z_if_eq (tgt := 19) (pc' := 7) dX1_isLateIn_4 (by decide) rfl (fun h3 => ?_) (fun h3 => ?_)
  · rw [if_pos h3] at hF
    refine Z_iconst (v := 0) (pc' := 20) dX1_isLateIn_19 (by decide) rfl ?_
    cases hF
    exact Z_iret (ty := .boolean) (w := (0 : Int32)) dX1_isLateIn_20 rfl rfl (Nat.le_refl _) (Nat.le_refl _) ⟨rfl, rfl⟩
  · rw [if_neg h3] at hF
    refine Z_iload_n (i := 1) (pc' := 8) dX1_isLateIn_7 rfl rfl rfl ?_
    refine Z_aload_n (i := 0) (pc' := 9) dX1_isLateIn_8 rfl rfl rfl ?_
    refine Z_get (v := .int (y1.2 65 i0)) (pc' := 12) 5 zinX1 rfl (by decide) lkX1_15 (eC_db hG h2) rfl dX1_isLateIn_9 rfl ?_
    refine Z_icmp_le (tgt := 19) (pc' := 15) dX1_isLateIn_12 (by decide) rfl (fun h4 => ?_) (fun h4 => ?_)
    · rw [if_pos h4] at hF
      refine Z_iconst (v := 0) (pc' := 20) dX1_isLateIn_19 (by decide) rfl ?_
      cases hF
      exact Z_iret (ty := .boolean) (w := (0 : Int32)) dX1_isLateIn_20 rfl rfl (Nat.le_refl _) (Nat.le_refl _) ⟨rfl, rfl⟩
    · rw [if_neg h4] at hF
      refine Z_iconst (v := 1) (pc' := 16) dX1_isLateIn_15 (by decide) rfl ?_
      refine Z_goto (tgt := 20) dX1_isLateIn_16 (by decide) ?_
      cases hF
      exact Z_iret (ty := .boolean) (w := (1 : Int32)) dX1_isLateIn_20 rfl rfl (Nat.le_refl _) (Nat.le_refl _) ⟨rfl, rfl⟩
abbrev rmX1_stateIn : Room := { frames := 2, cells := 0, slots := 0, locals := 41 }
def c1_stateIn (c : Nat → Nat) (i0 : Nat) (x1 : Int32) (σ : zS) : Option (Int32 × zS) := (if i0 < c 2 then ((c1_isOpen c i0 σ).bind (fun y1 => (if y1.1 = 0 then some ((1 : Int32), y1.2) else ((c1_isLateIn c i0 x1 y1.2).bind (fun y4 => (if y4.1 = 0 then some ((0 : Int32), y4.2) else some ((2 : Int32), y4.2))))))) else none)
set_option maxHeartbeats 4000000 in
set_option maxRecDepth 100000 in
theorem qX1_stateIn (l : Launch) {c ad dec : Nat → Nat} (hG : cG c ad dec) {i0 : Nat} {x1 : Int32} {σ : zS} {w : Int32 × zS} (hF : c1_stateIn c i0 x1 σ = some w) : zMet l yX1_stateIn cX1_stateIn 2 (some .int) rmX1_stateIn [.ref (ad (8 * i0 + 5)), .int x1] (mC c ad dec σ) (fun v M' => v = (some (.int w.1)) ∧ M' = (mC c ad dec w.2)) := by
  refine zMet.ofZ (vs := [some (.ref (ad (8 * i0 + 5))), some (.int x1)]) (by decide) rfl (zCt_of _ ⟨rfl, ⟨rfl, trivial⟩⟩) (Nat.le_of_ble_eq_true rfl) (fun D => ?_)
  unfold c1_stateIn at hF
  refine Z_aload_n (i := 0) (pc' := 1) dX1_stateIn_0 rfl rfl rfl ?_
  obtain ⟨h2, hF⟩ := ck_of hF
  obtain ⟨y1, hy1, hF⟩ := bd_of hF
  refine Z_callVi (As := []) (st := []) (pc' := 4) (k' := 0) (n' := 0) (qX1_isOpen l hG hy1) ckX1_isOpen kvX1_isOpen mlX1_37 (eC_db hG h2) rfl rfl rfl (Nat.le_of_ble_eq_true rfl) ⟨Nat.le_of_ble_eq_true rfl, Nat.le_of_ble_eq_true rfl⟩ ⟨Nat.le_of_ble_eq_true rfl, Nat.le_of_ble_eq_true rfl⟩ dX1_stateIn_1 rfl rfl rfl ?_
  refine Z_if_ne (tgt := 9) (pc' := 7) dX1_stateIn_4 (by decide) rfl (fun h3 => ?_) (fun h3 => ?_)
  · rw [if_neg h3] at hF
    refine Z_aload_n (i := 0) (pc' := 10) dX1_stateIn_9 rfl rfl rfl ?_
    refine Z_iload_n (i := 1) (pc' := 11) dX1_stateIn_10 rfl rfl rfl ?_
    obtain ⟨y4, hy4, hF⟩ := bd_of hF
    refine Z_callVi (As := [.int x1]) (st := []) (pc' := 14) (k' := 0) (n' := 0) (qX1_isLateIn l hG hy4) ckX1_isLateIn kvX1_isLateIn mlX1_41 (eC_db hG h2) rfl rfl rfl (Nat.le_of_ble_eq_true rfl) ⟨Nat.le_of_ble_eq_true rfl, Nat.le_of_ble_eq_true rfl⟩ ⟨Nat.le_of_ble_eq_true rfl, Nat.le_of_ble_eq_true rfl⟩ dX1_stateIn_11 rfl rfl rfl ?_
    refine Z_if_eq (tgt := 21) (pc' := 17) dX1_stateIn_14 (by decide) rfl (fun h5 => ?_) (fun h5 => ?_)
    · rw [if_pos h5] at hF
      refine Z_iconst (v := 0) (pc' := 22) dX1_stateIn_21 (by decide) rfl ?_
      cases hF
      exact Z_iret (ty := .int) (w := (0 : Int32)) dX1_stateIn_22 rfl rfl (Nat.le_refl _) (Nat.le_refl _) ⟨rfl, rfl⟩
    · rw [if_neg h5] at hF
      refine Z_iconst (v := 2) (pc' := 18) dX1_stateIn_17 (by decide) rfl ?_
      refine Z_goto (tgt := 22) dX1_stateIn_18 (by decide) ?_
      cases hF
      exact Z_iret (ty := .int) (w := (2 : Int32)) dX1_stateIn_22 rfl rfl (Nat.le_refl _) (Nat.le_refl _) ⟨rfl, rfl⟩
  · rw [if_pos h3] at hF
    refine Z_iconst (v := 1) (pc' := 8) dX1_stateIn_7 (by decide) rfl ?_
    cases hF
    exact Z_iret (ty := .int) (w := (1 : Int32)) dX1_stateIn_8 rfl rfl (Nat.le_refl _) (Nat.le_refl _) ⟨rfl, rfl⟩
abbrev rmX1_isBetween : Room := { frames := 0, cells := 0, slots := 0, locals := 0 }
def c1_isBetween (c : Nat → Nat) (i0 : Nat) (x1 : Int32) (x2 : Int32) (σ : zS) : Option (Int32 × zS) := (if i0 < c 2 then (if (σ 60 i0) = x1 then (if (σ 61 i0) = x2 then some ((1 : Int32), σ) else some ((0 : Int32), σ)) else some ((0 : Int32), σ)) else none)
set_option maxHeartbeats 4000000 in
set_option maxRecDepth 100000 in
theorem qX1_isBetween (l : Launch) {c ad dec : Nat → Nat} (hG : cG c ad dec) {i0 : Nat} {x1 : Int32} {x2 : Int32} {σ : zS} {w : Int32 × zS} (hF : c1_isBetween c i0 x1 x2 σ = some w) : zMet l yX1_isBetween cX1_isBetween 3 (some .boolean) rmX1_isBetween [.ref (ad (8 * i0 + 5)), .int x1, .int x2] (mC c ad dec σ) (fun v M' => v = (some (.int w.1)) ∧ M' = (mC c ad dec w.2)) := by
  refine zMet.ofZ (vs := [some (.ref (ad (8 * i0 + 5))), some (.int x1), some (.int x2)]) (by decide) rfl (zCt_of _ ⟨rfl, ⟨rfl, ⟨rfl, trivial⟩⟩⟩) (Nat.le_of_ble_eq_true rfl) (fun D => ?_)
  unfold c1_isBetween at hF
  refine Z_aload_n (i := 0) (pc' := 1) dX1_isBetween_0 rfl rfl rfl ?_
  obtain ⟨h1, hF⟩ := ck_of hF
  refine Z_get (v := .int (σ 60 i0)) (pc' := 4) 0 zinX1 rfl (by decide) lkX1_25 (eC_db hG h1) rfl dX1_isBetween_1 rfl ?_
  refine Z_iload_n (i := 1) (pc' := 5) dX1_isBetween_4 rfl rfl rfl ?_
  refine Z_icmp_ne (tgt := 20) (pc' := 8) dX1_isBetween_5 (by decide) rfl (fun h2 => ?_) (fun h2 => ?_)
  · rw [if_neg h2] at hF
    refine Z_iconst (v := 0) (pc' := 21) dX1_isBetween_20 (by decide) rfl ?_
    cases hF
    exact Z_iret (ty := .boolean) (w := (0 : Int32)) dX1_isBetween_21 rfl rfl (Nat.le_refl _) (Nat.le_refl _) ⟨rfl, rfl⟩
  · rw [if_pos h2] at hF
    refine Z_aload_n (i := 0) (pc' := 9) dX1_isBetween_8 rfl rfl rfl ?_
    refine Z_get (v := .int (σ 61 i0)) (pc' := 12) 1 zinX1 rfl (by decide) lkX1_28 (eC_db hG h1) rfl dX1_isBetween_9 rfl ?_
    refine Z_iload_n (i := 2) (pc' := 13) dX1_isBetween_12 rfl rfl rfl ?_
    refine Z_icmp_ne (tgt := 20) (pc' := 16) dX1_isBetween_13 (by decide) rfl (fun h3 => ?_) (fun h3 => ?_)
    · rw [if_neg h3] at hF
      refine Z_iconst (v := 0) (pc' := 21) dX1_isBetween_20 (by decide) rfl ?_
      cases hF
      exact Z_iret (ty := .boolean) (w := (0 : Int32)) dX1_isBetween_21 rfl rfl (Nat.le_refl _) (Nat.le_refl _) ⟨rfl, rfl⟩
    · rw [if_pos h3] at hF
      refine Z_iconst (v := 1) (pc' := 17) dX1_isBetween_16 (by decide) rfl ?_
      refine Z_goto (tgt := 21) dX1_isBetween_17 (by decide) ?_
      cases hF
      exact Z_iret (ty := .boolean) (w := (1 : Int32)) dX1_isBetween_21 rfl rfl (Nat.le_refl _) (Nat.le_refl _) ⟨rfl, rfl⟩
abbrev rmX1_winTime : Room := { frames := 0, cells := 0, slots := 0, locals := 0 }
def c1_winTime (c : Nat → Nat) (i0 : Nat) (x1 : Int32) (σ : zS) : Option (Int32 × zS) := (if i0 < c 2 then (if (σ 67 i0) = 0 then zl (zs σ 67 i0 (1 : Int32)) (fun (σ3 : zS) => zl (zs σ3 65 i0 ((σ3 65 i0) + x1)) (fun (σ4 : zS) => some (0, σ4))) else some (0, σ)) else none)
set_option maxHeartbeats 4000000 in
set_option maxRecDepth 100000 in
theorem qX1_winTime (l : Launch) {c ad dec : Nat → Nat} (hG : cG c ad dec) {i0 : Nat} {x1 : Int32} {σ : zS} {w : Int32 × zS} (hF : c1_winTime c i0 x1 σ = some w) : zMet l yX1_winTime cX1_winTime 2 none rmX1_winTime [.ref (ad (8 * i0 + 5)), .int x1] (mC c ad dec σ) (fun v M' => v = none ∧ M' = (mC c ad dec w.2)) := by
  refine zMet.ofZ (vs := [some (.ref (ad (8 * i0 + 5))), some (.int x1)]) (by decide) rfl (zCt_of _ ⟨rfl, ⟨rfl, trivial⟩⟩) (Nat.le_of_ble_eq_true rfl) (fun D => ?_)
  unfold c1_winTime at hF
  refine Z_aload_n (i := 0) (pc' := 1) dX1_winTime_0 rfl rfl rfl ?_
  obtain ⟨h1, hF⟩ := ck_of hF
  refine Z_get (v := .int (σ 67 i0)) (pc' := 4) 7 zinX1 rfl (by decide) lkX1_21 (eC_db hG h1) rfl dX1_winTime_1 rfl ?_
  refine Z_if_ne (tgt := 22) (pc' := 7) dX1_winTime_4 (by decide) rfl (fun h2 => ?_) (fun h2 => ?_)
  · rw [if_neg h2] at hF
    cases hF
    exact Z_vret dX1_winTime_22 rfl (Nat.le_refl _) (Nat.le_refl _) ⟨rfl, rfl⟩
  · rw [if_pos h2] at hF
    refine Z_aload_n (i := 0) (pc' := 8) dX1_winTime_7 rfl rfl rfl ?_
    refine Z_iconst (v := 1) (pc' := 9) dX1_winTime_8 (by decide) rfl ?_
    obtain ⟨σ3, hσ3, hF⟩ := zl_of hF
    refine Z_put (pc' := 12) 7 zinX1 tyX1_ok nmX1 rfl (by decide) lkX1_21 rfl (eC_db hG h1) rfl rfl rfl (Nat.le_of_ble_eq_true rfl) rfl dX1_winTime_9 rfl ?_
    refine Z_mem (pdb_67 hG h1 hσ3) ?_
    refine Z_aload_n (i := 0) (pc' := 13) dX1_winTime_12 rfl rfl rfl ?_
    refine Z_dup (pc' := 14) rfl dX1_winTime_13 rfl ?_
    refine Z_get (v := .int (σ3 65 i0)) (pc' := 17) 5 zinX1 rfl (by decide) lkX1_15 (eC_db hG h1) rfl dX1_winTime_14 rfl ?_
    refine Z_iload_n (i := 1) (pc' := 18) dX1_winTime_17 rfl rfl rfl ?_
    refine Z_iadd (pc' := 19) dX1_winTime_18 rfl ?_
    obtain ⟨σ4, hσ4, hF⟩ := zl_of hF
    refine Z_put (pc' := 22) 5 zinX1 tyX1_ok nmX1 rfl (by decide) lkX1_15 rfl (eC_db hG h1) rfl rfl rfl (Nat.le_of_ble_eq_true rfl) rfl dX1_winTime_19 rfl ?_
    refine Z_mem (pdb_65 hG h1 hσ4) ?_
    cases hF
    exact Z_vret dX1_winTime_22 rfl (Nat.le_refl _) (Nat.le_refl _) ⟨rfl, rfl⟩
abbrev rmX3_isPartnerOf : Room := { frames := 0, cells := 0, slots := 0, locals := 0 }
def c3_isPartnerOf (c : Nat → Nat) (i0 : Nat) (x1 : Int32) (σ : zS) : Option (Int32 × zS) := (if i0 < c 0 then (if ((σ 43 i0) &&& ((1 : Int32) <<< (x1 &&& 31))) = 0 then some ((0 : Int32), σ) else some ((1 : Int32), σ)) else none)
set_option maxHeartbeats 4000000 in
set_option maxRecDepth 100000 in
theorem qX3_isPartnerOf (l : Launch) {c ad dec : Nat → Nat} (hG : cG c ad dec) {i0 : Nat} {x1 : Int32} {σ : zS} {w : Int32 × zS} (hF : c3_isPartnerOf c i0 x1 σ = some w) : zMet l yX3_isPartnerOf cX3_isPartnerOf 2 (some .boolean) rmX3_isPartnerOf [.ref (ad (8 * i0 + 1)), .int x1] (mC c ad dec σ) (fun v M' => v = (some (.int w.1)) ∧ M' = (mC c ad dec w.2)) := by
  refine zMet.ofZ (vs := [some (.ref (ad (8 * i0 + 1))), some (.int x1)]) (by decide) rfl (zCt_of _ ⟨rfl, ⟨rfl, trivial⟩⟩) (Nat.le_of_ble_eq_true rfl) (fun D => ?_)
  unfold c3_isPartnerOf at hF
  refine Z_aload_n (i := 0) (pc' := 1) dX3_isPartnerOf_0 rfl rfl rfl ?_
  obtain ⟨h1, hF⟩ := ck_of hF
  refine Z_get (v := .int (σ 43 i0)) (pc' := 4) 3 zinX3 rfl (by decide) lkX3_17 (eC_man hG h1) rfl dX3_isPartnerOf_1 rfl ?_
  refine Z_iconst (v := 1) (pc' := 5) dX3_isPartnerOf_4 (by decide) rfl ?_
  refine Z_iload_n (i := 1) (pc' := 6) dX3_isPartnerOf_5 rfl rfl rfl ?_
  refine Z_ishl (pc' := 7) dX3_isPartnerOf_6 rfl ?_
  refine Z_iand (pc' := 8) dX3_isPartnerOf_7 rfl ?_
  refine Z_if_eq (tgt := 15) (pc' := 11) dX3_isPartnerOf_8 (by decide) rfl (fun h2 => ?_) (fun h2 => ?_)
  · rw [if_pos h2] at hF
    refine Z_iconst (v := 0) (pc' := 16) dX3_isPartnerOf_15 (by decide) rfl ?_
    cases hF
    exact Z_iret (ty := .boolean) (w := (0 : Int32)) dX3_isPartnerOf_16 rfl rfl (Nat.le_refl _) (Nat.le_refl _) ⟨rfl, rfl⟩
  · rw [if_neg h2] at hF
    refine Z_iconst (v := 1) (pc' := 12) dX3_isPartnerOf_11 (by decide) rfl ?_
    refine Z_goto (tgt := 16) dX3_isPartnerOf_12 (by decide) ?_
    cases hF
    exact Z_iret (ty := .boolean) (w := (1 : Int32)) dX3_isPartnerOf_16 rfl rfl (Nat.le_refl _) (Nat.le_refl _) ⟨rfl, rfl⟩
abbrev rmX3_addPartner : Room := { frames := 0, cells := 0, slots := 0, locals := 0 }
def c3_addPartner (c : Nat → Nat) (i0 : Nat) (x1 : Int32) (σ : zS) : Option (Int32 × zS) := (if i0 < c 0 then zl (zs σ 43 i0 ((σ 43 i0) ||| ((1 : Int32) <<< (x1 &&& 31)))) (fun (σ2 : zS) => some (0, σ2)) else none)
set_option maxHeartbeats 4000000 in
set_option maxRecDepth 100000 in
theorem qX3_addPartner (l : Launch) {c ad dec : Nat → Nat} (hG : cG c ad dec) {i0 : Nat} {x1 : Int32} {σ : zS} {w : Int32 × zS} (hF : c3_addPartner c i0 x1 σ = some w) : zMet l yX3_addPartner cX3_addPartner 2 none rmX3_addPartner [.ref (ad (8 * i0 + 1)), .int x1] (mC c ad dec σ) (fun v M' => v = none ∧ M' = (mC c ad dec w.2)) := by
  refine zMet.ofZ (vs := [some (.ref (ad (8 * i0 + 1))), some (.int x1)]) (by decide) rfl (zCt_of _ ⟨rfl, ⟨rfl, trivial⟩⟩) (Nat.le_of_ble_eq_true rfl) (fun D => ?_)
  unfold c3_addPartner at hF
  refine Z_aload_n (i := 0) (pc' := 1) dX3_addPartner_0 rfl rfl rfl ?_
  refine Z_dup (pc' := 2) rfl dX3_addPartner_1 rfl ?_
  obtain ⟨h1, hF⟩ := ck_of hF
  refine Z_get (v := .int (σ 43 i0)) (pc' := 5) 3 zinX3 rfl (by decide) lkX3_17 (eC_man hG h1) rfl dX3_addPartner_2 rfl ?_
  refine Z_iconst (v := 1) (pc' := 6) dX3_addPartner_5 (by decide) rfl ?_
  refine Z_iload_n (i := 1) (pc' := 7) dX3_addPartner_6 rfl rfl rfl ?_
  refine Z_ishl (pc' := 8) dX3_addPartner_7 rfl ?_
  refine Z_ior (pc' := 9) dX3_addPartner_8 rfl ?_
  obtain ⟨σ2, hσ2, hF⟩ := zl_of hF
  refine Z_put (pc' := 12) 3 zinX3 tyX3_ok nmX3 rfl (by decide) lkX3_17 rfl (eC_man hG h1) rfl rfl rfl (Nat.le_of_ble_eq_true rfl) rfl dX3_addPartner_9 rfl ?_
  refine Z_mem (pman_43 hG h1 hσ2) ?_
  cases hF
  exact Z_vret dX3_addPartner_12 rfl (Nat.le_refl _) (Nat.le_refl _) ⟨rfl, rfl⟩
abbrev rmX3_dropPartner : Room := { frames := 0, cells := 0, slots := 0, locals := 0 }
def c3_dropPartner (c : Nat → Nat) (i0 : Nat) (x1 : Int32) (σ : zS) : Option (Int32 × zS) := (if i0 < c 0 then zl (zs σ 43 i0 ((σ 43 i0) &&& (((1 : Int32) <<< (x1 &&& 31)) ^^^ (-1 : Int32)))) (fun (σ2 : zS) => some (0, σ2)) else none)
set_option maxHeartbeats 4000000 in
set_option maxRecDepth 100000 in
theorem qX3_dropPartner (l : Launch) {c ad dec : Nat → Nat} (hG : cG c ad dec) {i0 : Nat} {x1 : Int32} {σ : zS} {w : Int32 × zS} (hF : c3_dropPartner c i0 x1 σ = some w) : zMet l yX3_dropPartner cX3_dropPartner 2 none rmX3_dropPartner [.ref (ad (8 * i0 + 1)), .int x1] (mC c ad dec σ) (fun v M' => v = none ∧ M' = (mC c ad dec w.2)) := by
  refine zMet.ofZ (vs := [some (.ref (ad (8 * i0 + 1))), some (.int x1)]) (by decide) rfl (zCt_of _ ⟨rfl, ⟨rfl, trivial⟩⟩) (Nat.le_of_ble_eq_true rfl) (fun D => ?_)
  unfold c3_dropPartner at hF
  refine Z_aload_n (i := 0) (pc' := 1) dX3_dropPartner_0 rfl rfl rfl ?_
  refine Z_dup (pc' := 2) rfl dX3_dropPartner_1 rfl ?_
  obtain ⟨h1, hF⟩ := ck_of hF
  refine Z_get (v := .int (σ 43 i0)) (pc' := 5) 3 zinX3 rfl (by decide) lkX3_17 (eC_man hG h1) rfl dX3_dropPartner_2 rfl ?_
  refine Z_iconst (v := 1) (pc' := 6) dX3_dropPartner_5 (by decide) rfl ?_
  refine Z_iload_n (i := 1) (pc' := 7) dX3_dropPartner_6 rfl rfl rfl ?_
  refine Z_ishl (pc' := 8) dX3_dropPartner_7 rfl ?_
  refine Z_iconst (v := -1) (pc' := 9) dX3_dropPartner_8 (by decide) rfl ?_
  refine Z_ixor (pc' := 10) dX3_dropPartner_9 rfl ?_
  refine Z_iand (pc' := 11) dX3_dropPartner_10 rfl ?_
  obtain ⟨σ2, hσ2, hF⟩ := zl_of hF
  refine Z_put (pc' := 14) 3 zinX3 tyX3_ok nmX3 rfl (by decide) lkX3_17 rfl (eC_man hG h1) rfl rfl rfl (Nat.le_of_ble_eq_true rfl) rfl dX3_dropPartner_11 rfl ?_
  refine Z_mem (pman_43 hG h1 hσ2) ?_
  cases hF
  exact Z_vret dX3_dropPartner_14 rfl (Nat.le_refl _) (Nat.le_refl _) ⟨rfl, rfl⟩
abbrev rmX6_comeTo : Room := { frames := 0, cells := 0, slots := 0, locals := 0 }
def c6_comeTo (c : Nat → Nat) (i0 : Nat) (x1 : Int32) (x2 : Int32) (σ : zS) : Option (Int32 × zS) := (if i0 < c 1 then zl (zs σ 52 i0 x1) (fun (σ2 : zS) => zl (zs σ2 53 i0 x2) (fun (σ3 : zS) => (if (80 : Int32) ≤ (σ3 57 i0) then some (0, σ3) else (if zIn (σ3 57 i0) 80 = true then zl (zs σ3 (1000 + 2 * i0) (σ3 57 i0).toNatClampNeg x1) (fun (σ6 : zS) => (if zIn (σ6 57 i0) 80 = true then zl (zs σ6 (1001 + 2 * i0) (σ6 57 i0).toNatClampNeg x2) (fun (σ8 : zS) => zl (zs σ8 57 i0 ((σ8 57 i0) + (1 : Int32))) (fun (σ9 : zS) => some (0, σ9))) else none)) else none)))) else none)
set_option maxHeartbeats 4000000 in
set_option maxRecDepth 100000 in
theorem qX6_comeTo (l : Launch) {c ad dec : Nat → Nat} (hG : cG c ad dec) {i0 : Nat} {x1 : Int32} {x2 : Int32} {σ : zS} {w : Int32 × zS} (hF : c6_comeTo c i0 x1 x2 σ = some w) : zMet l yX6_comeTo cX6_comeTo 3 none rmX6_comeTo [.ref (ad (8 * i0 + 2)), .int x1, .int x2] (mC c ad dec σ) (fun v M' => v = none ∧ M' = (mC c ad dec w.2)) := by
  refine zMet.ofZ (vs := [some (.ref (ad (8 * i0 + 2))), some (.int x1), some (.int x2)]) (by decide) rfl (zCt_of _ ⟨rfl, ⟨rfl, ⟨rfl, trivial⟩⟩⟩) (Nat.le_of_ble_eq_true rfl) (fun D => ?_)
  unfold c6_comeTo at hF
  refine Z_aload_n (i := 0) (pc' := 1) dX6_comeTo_0 rfl rfl rfl ?_
  refine Z_iload_n (i := 1) (pc' := 2) dX6_comeTo_1 rfl rfl rfl ?_
  obtain ⟨h1, hF⟩ := ck_of hF
  obtain ⟨σ2, hσ2, hF⟩ := zl_of hF
  refine Z_put (pc' := 5) 2 zinX6 tyX6_ok nmX6 rfl (by decide) lkX6_9 rfl (eC_tr hG h1) rfl rfl rfl (Nat.le_of_ble_eq_true rfl) rfl dX6_comeTo_2 rfl ?_
  refine Z_mem (ptr_52 hG h1 hσ2) ?_
  refine Z_aload_n (i := 0) (pc' := 6) dX6_comeTo_5 rfl rfl rfl ?_
  refine Z_iload_n (i := 2) (pc' := 7) dX6_comeTo_6 rfl rfl rfl ?_
  obtain ⟨σ3, hσ3, hF⟩ := zl_of hF
  refine Z_put (pc' := 10) 3 zinX6 tyX6_ok nmX6 rfl (by decide) lkX6_15 rfl (eC_tr hG h1) rfl rfl rfl (Nat.le_of_ble_eq_true rfl) rfl dX6_comeTo_7 rfl ?_
  refine Z_mem (ptr_53 hG h1 hσ3) ?_
  refine Z_aload_n (i := 0) (pc' := 11) dX6_comeTo_10 rfl rfl rfl ?_
  refine Z_get (v := .int (σ3 57 i0)) (pc' := 14) 9 zinX6 rfl (by decide) lkX6_35 (eC_tr hG h1) rfl dX6_comeTo_11 rfl ?_
  refine Z_bipush (v := 80) (pc' := 16) dX6_comeTo_14 (by decide) rfl ?_
  refine Z_icmp_ge (tgt := 49) (pc' := 19) dX6_comeTo_16 (by decide) rfl (fun h4 => ?_) (fun h4 => ?_)
  · rw [if_pos h4] at hF
    cases hF
    exact Z_vret dX6_comeTo_49 rfl (Nat.le_refl _) (Nat.le_refl _) ⟨rfl, rfl⟩
  · rw [if_neg h4] at hF
    refine Z_aload_n (i := 0) (pc' := 20) dX6_comeTo_19 rfl rfl rfl ?_
    refine Z_get (v := .ref (ad (8 * i0 + 3))) (pc' := 23) 7 zinX6 rfl (by decide) lkX6_28 (eC_tr hG h1) rfl dX6_comeTo_20 rfl ?_
    refine Z_aload_n (i := 0) (pc' := 24) dX6_comeTo_23 rfl rfl rfl ?_
    refine Z_get (v := .int (σ3 57 i0)) (pc' := 27) 9 zinX6 rfl (by decide) lkX6_35 (eC_tr hG h1) rfl dX6_comeTo_24 rfl ?_
    refine Z_iload_n (i := 1) (pc' := 28) dX6_comeTo_27 rfl rfl rfl ?_
    obtain ⟨h5, hF⟩ := ck_of hF
    obtain ⟨σ6, hσ6, hF⟩ := zl_of hF
    refine Z_iast (pc' := 29) (eC_hb hG h1) (zIn_in h5) dX6_comeTo_28 rfl ?_
    refine Z_mem (sC_hb hG h1 hσ6) ?_
    refine Z_aload_n (i := 0) (pc' := 30) dX6_comeTo_29 rfl rfl rfl ?_
    refine Z_get (v := .ref (ad (8 * i0 + 4))) (pc' := 33) 8 zinX6 rfl (by decide) lkX6_32 (eC_tr hG h1) rfl dX6_comeTo_30 rfl ?_
    refine Z_aload_n (i := 0) (pc' := 34) dX6_comeTo_33 rfl rfl rfl ?_
    refine Z_get (v := .int (σ6 57 i0)) (pc' := 37) 9 zinX6 rfl (by decide) lkX6_35 (eC_tr hG h1) rfl dX6_comeTo_34 rfl ?_
    refine Z_iload_n (i := 2) (pc' := 38) dX6_comeTo_37 rfl rfl rfl ?_
    obtain ⟨h7, hF⟩ := ck_of hF
    obtain ⟨σ8, hσ8, hF⟩ := zl_of hF
    refine Z_iast (pc' := 39) (eC_hf hG h1) (zIn_in h7) dX6_comeTo_38 rfl ?_
    refine Z_mem (sC_hf hG h1 hσ8) ?_
    refine Z_aload_n (i := 0) (pc' := 40) dX6_comeTo_39 rfl rfl rfl ?_
    refine Z_dup (pc' := 41) rfl dX6_comeTo_40 rfl ?_
    refine Z_get (v := .int (σ8 57 i0)) (pc' := 44) 9 zinX6 rfl (by decide) lkX6_35 (eC_tr hG h1) rfl dX6_comeTo_41 rfl ?_
    refine Z_iconst (v := 1) (pc' := 45) dX6_comeTo_44 (by decide) rfl ?_
    refine Z_iadd (pc' := 46) dX6_comeTo_45 rfl ?_
    obtain ⟨σ9, hσ9, hF⟩ := zl_of hF
    refine Z_put (pc' := 49) 9 zinX6 tyX6_ok nmX6 rfl (by decide) lkX6_35 rfl (eC_tr hG h1) rfl rfl rfl (Nat.le_of_ble_eq_true rfl) rfl dX6_comeTo_46 rfl ?_
    refine Z_mem (ptr_57 hG h1 hσ9) ?_
    cases hF
    exact Z_vret dX6_comeTo_49 rfl (Nat.le_refl _) (Nat.le_refl _) ⟨rfl, rfl⟩
abbrev rmX6_isHeldBy : Room := { frames := 0, cells := 0, slots := 0, locals := 0 }
def c6_isHeldBy (c : Nat → Nat) (i0 : Nat) (x1 : Int32) (σ : zS) : Option (Int32 × zS) := (if i0 < c 1 then (if (σ 55 i0) = 0 then (if (σ 52 i0) = x1 then some ((1 : Int32), σ) else some ((0 : Int32), σ)) else some ((0 : Int32), σ)) else none)
set_option maxHeartbeats 4000000 in
set_option maxRecDepth 100000 in
theorem qX6_isHeldBy (l : Launch) {c ad dec : Nat → Nat} (hG : cG c ad dec) {i0 : Nat} {x1 : Int32} {σ : zS} {w : Int32 × zS} (hF : c6_isHeldBy c i0 x1 σ = some w) : zMet l yX6_isHeldBy cX6_isHeldBy 2 (some .boolean) rmX6_isHeldBy [.ref (ad (8 * i0 + 2)), .int x1] (mC c ad dec σ) (fun v M' => v = (some (.int w.1)) ∧ M' = (mC c ad dec w.2)) := by
  refine zMet.ofZ (vs := [some (.ref (ad (8 * i0 + 2))), some (.int x1)]) (by decide) rfl (zCt_of _ ⟨rfl, ⟨rfl, trivial⟩⟩) (Nat.le_of_ble_eq_true rfl) (fun D => ?_)
  unfold c6_isHeldBy at hF
  refine Z_aload_n (i := 0) (pc' := 1) dX6_isHeldBy_0 rfl rfl rfl ?_
  obtain ⟨h1, hF⟩ := ck_of hF
  refine Z_get (v := .int (σ 55 i0)) (pc' := 4) 5 zinX6 rfl (by decide) lkX6_21 (eC_tr hG h1) rfl dX6_isHeldBy_1 rfl ?_
  refine Z_if_ne (tgt := 19) (pc' := 7) dX6_isHeldBy_4 (by decide) rfl (fun h2 => ?_) (fun h2 => ?_)
  · rw [if_neg h2] at hF
    refine Z_iconst (v := 0) (pc' := 20) dX6_isHeldBy_19 (by decide) rfl ?_
    cases hF
    exact Z_iret (ty := .boolean) (w := (0 : Int32)) dX6_isHeldBy_20 rfl rfl (Nat.le_refl _) (Nat.le_refl _) ⟨rfl, rfl⟩
  · rw [if_pos h2] at hF
    refine Z_aload_n (i := 0) (pc' := 8) dX6_isHeldBy_7 rfl rfl rfl ?_
    refine Z_get (v := .int (σ 52 i0)) (pc' := 11) 2 zinX6 rfl (by decide) lkX6_9 (eC_tr hG h1) rfl dX6_isHeldBy_8 rfl ?_
    refine Z_iload_n (i := 1) (pc' := 12) dX6_isHeldBy_11 rfl rfl rfl ?_
    refine Z_icmp_ne (tgt := 19) (pc' := 15) dX6_isHeldBy_12 (by decide) rfl (fun h3 => ?_) (fun h3 => ?_)
    · rw [if_neg h3] at hF
      refine Z_iconst (v := 0) (pc' := 20) dX6_isHeldBy_19 (by decide) rfl ?_
      cases hF
      exact Z_iret (ty := .boolean) (w := (0 : Int32)) dX6_isHeldBy_20 rfl rfl (Nat.le_refl _) (Nat.le_refl _) ⟨rfl, rfl⟩
    · rw [if_pos h3] at hF
      refine Z_iconst (v := 1) (pc' := 16) dX6_isHeldBy_15 (by decide) rfl ?_
      refine Z_goto (tgt := 20) dX6_isHeldBy_16 (by decide) ?_
      cases hF
      exact Z_iret (ty := .boolean) (w := (1 : Int32)) dX6_isHeldBy_20 rfl rfl (Nat.le_refl _) (Nat.le_refl _) ⟨rfl, rfl⟩
abbrev rmX6_canBeGivenIn : Room := { frames := 0, cells := 0, slots := 0, locals := 0 }
def c6_canBeGivenIn (c : Nat → Nat) (i0 : Nat) (x1 : Int32) (σ : zS) : Option (Int32 × zS) := (if i0 < c 1 then (if (σ 55 i0) = 0 then (if (σ 54 i0) = x1 then some ((0 : Int32), σ) else (if (64 : Int32) ≤ (σ 57 i0) then some ((0 : Int32), σ) else some ((1 : Int32), σ))) else some ((0 : Int32), σ)) else none)
set_option maxHeartbeats 4000000 in
set_option maxRecDepth 100000 in
theorem qX6_canBeGivenIn (l : Launch) {c ad dec : Nat → Nat} (hG : cG c ad dec) {i0 : Nat} {x1 : Int32} {σ : zS} {w : Int32 × zS} (hF : c6_canBeGivenIn c i0 x1 σ = some w) : zMet l yX6_canBeGivenIn cX6_canBeGivenIn 2 (some .boolean) rmX6_canBeGivenIn [.ref (ad (8 * i0 + 2)), .int x1] (mC c ad dec σ) (fun v M' => v = (some (.int w.1)) ∧ M' = (mC c ad dec w.2)) := by
  refine zMet.ofZ (vs := [some (.ref (ad (8 * i0 + 2))), some (.int x1)]) (by decide) rfl (zCt_of _ ⟨rfl, ⟨rfl, trivial⟩⟩) (Nat.le_of_ble_eq_true rfl) (fun D => ?_)
  unfold c6_canBeGivenIn at hF
  refine Z_aload_n (i := 0) (pc' := 1) dX6_canBeGivenIn_0 rfl rfl rfl ?_
  obtain ⟨h1, hF⟩ := ck_of hF
  refine Z_get (v := .int (σ 55 i0)) (pc' := 4) 5 zinX6 rfl (by decide) lkX6_21 (eC_tr hG h1) rfl dX6_canBeGivenIn_1 rfl ?_
  refine Z_if_ne (tgt := 28) (pc' := 7) dX6_canBeGivenIn_4 (by decide) rfl (fun h2 => ?_) (fun h2 => ?_)
  · rw [if_neg h2] at hF
    refine Z_iconst (v := 0) (pc' := 29) dX6_canBeGivenIn_28 (by decide) rfl ?_
    cases hF
    exact Z_iret (ty := .boolean) (w := (0 : Int32)) dX6_canBeGivenIn_29 rfl rfl (Nat.le_refl _) (Nat.le_refl _) ⟨rfl, rfl⟩
  · rw [if_pos h2] at hF
    refine Z_aload_n (i := 0) (pc' := 8) dX6_canBeGivenIn_7 rfl rfl rfl ?_
    refine Z_get (v := .int (σ 54 i0)) (pc' := 11) 4 zinX6 rfl (by decide) lkX6_18 (eC_tr hG h1) rfl dX6_canBeGivenIn_8 rfl ?_
    refine Z_iload_n (i := 1) (pc' := 12) dX6_canBeGivenIn_11 rfl rfl rfl ?_
    refine Z_icmp_eq (tgt := 28) (pc' := 15) dX6_canBeGivenIn_12 (by decide) rfl (fun h3 => ?_) (fun h3 => ?_)
    · rw [if_pos h3] at hF
      refine Z_iconst (v := 0) (pc' := 29) dX6_canBeGivenIn_28 (by decide) rfl ?_
      cases hF
      exact Z_iret (ty := .boolean) (w := (0 : Int32)) dX6_canBeGivenIn_29 rfl rfl (Nat.le_refl _) (Nat.le_refl _) ⟨rfl, rfl⟩
    · rw [if_neg h3] at hF
      refine Z_aload_n (i := 0) (pc' := 16) dX6_canBeGivenIn_15 rfl rfl rfl ?_
      refine Z_get (v := .int (σ 57 i0)) (pc' := 19) 9 zinX6 rfl (by decide) lkX6_35 (eC_tr hG h1) rfl dX6_canBeGivenIn_16 rfl ?_
      refine Z_bipush (v := 64) (pc' := 21) dX6_canBeGivenIn_19 (by decide) rfl ?_
      refine Z_icmp_ge (tgt := 28) (pc' := 24) dX6_canBeGivenIn_21 (by decide) rfl (fun h4 => ?_) (fun h4 => ?_)
      · rw [if_pos h4] at hF
        refine Z_iconst (v := 0) (pc' := 29) dX6_canBeGivenIn_28 (by decide) rfl ?_
        cases hF
        exact Z_iret (ty := .boolean) (w := (0 : Int32)) dX6_canBeGivenIn_29 rfl rfl (Nat.le_refl _) (Nat.le_refl _) ⟨rfl, rfl⟩
      · rw [if_neg h4] at hF
        refine Z_iconst (v := 1) (pc' := 25) dX6_canBeGivenIn_24 (by decide) rfl ?_
        refine Z_goto (tgt := 29) dX6_canBeGivenIn_25 (by decide) ?_
        cases hF
        exact Z_iret (ty := .boolean) (w := (1 : Int32)) dX6_canBeGivenIn_29 rfl rfl (Nat.le_refl _) (Nat.le_refl _) ⟨rfl, rfl⟩
abbrev rmX6_holdersKept : Room := { frames := 1, cells := 0, slots := 0, locals := 21 }
def c6_holdersKept (c : Nat → Nat) (i0 : Nat) (σ : zS) : Option (Int32 × zS) := (if i0 < c 1 then some ((if (64 : Int32) < (σ 57 i0) then (64 : Int32) else (σ 57 i0)), σ) else none)
set_option maxHeartbeats 4000000 in
set_option maxRecDepth 100000 in
theorem qX6_holdersKept (l : Launch) {c ad dec : Nat → Nat} (hG : cG c ad dec) {i0 : Nat} {σ : zS} {w : Int32 × zS} (hF : c6_holdersKept c i0 σ = some w) : zMet l yX6_holdersKept cX6_holdersKept 1 (some .int) rmX6_holdersKept [.ref (ad (8 * i0 + 2))] (mC c ad dec σ) (fun v M' => v = (some (.int w.1)) ∧ M' = (mC c ad dec w.2)) := by
  refine zMet.ofZ (vs := [some (.ref (ad (8 * i0 + 2)))]) (by decide) rfl (zCt_of _ ⟨rfl, trivial⟩) (Nat.le_of_ble_eq_true rfl) (fun D => ?_)
  unfold c6_holdersKept at hF
  refine Z_aload_n (i := 0) (pc' := 1) dX6_holdersKept_0 rfl rfl rfl ?_
  obtain ⟨h1, hF⟩ := ck_of hF
  refine Z_get (v := .int (σ 57 i0)) (pc' := 4) 9 zinX6 rfl (by decide) lkX6_35 (eC_tr hG h1) rfl dX6_holdersKept_1 rfl ?_
  refine Z_bipush (v := 64) (pc' := 6) dX6_holdersKept_4 (by decide) rfl ?_
  refine Z_mmin (pc' := 9) mlX6_44 (Nat.le_of_ble_eq_true rfl) (Nat.le_of_ble_eq_true rfl) (Nat.zero_le _) (Nat.zero_le _) dX6_holdersKept_6 rfl ?_
  cases hF
  exact Z_iret (ty := .int) (w := (if (64 : Int32) < (σ 57 i0) then (64 : Int32) else (σ 57 i0))) dX6_holdersKept_9 rfl rfl (Nat.le_refl _) (Nat.le_refl _) ⟨rfl, rfl⟩
abbrev rmX5_append : Room := { frames := 0, cells := 0, slots := 0, locals := 0 }
def c5_append_L3 (N : Nat) (c : Nat → Nat) (x1_ : Int32) (x2_ : Int32) (σ : zS) : Option (zS) := match N with
  | 0 => none
  | n + 1 => (if x2_ < 0 then some (σ) else (if (40 : Int32) ≤ (σ 34 0) then some (σ) else (if zIn (σ 34 0) 40 = true then zl (zs σ 2 (σ 34 0).toNatClampNeg (((x1_).toUInt32 >>> ((x2_).toUInt32 &&& Int32.toUInt32 31)).toInt32 &&& (255 : Int32))) (fun (σ4 : zS) => zl (zs σ4 34 0 ((σ4 34 0) + (1 : Int32))) (fun (σ5 : zS) => zl (x2_ + (-8)) (fun (v6 : Int32) => (c5_append_L3 n c x1_ v6 σ5)))) else none)))
def c5_append (c : Nat → Nat) (x1 : Int32) (σ : zS) : Option (Int32 × zS) := ((c5_append_L3 zF c x1 (24 : Int32) σ).bind (fun r7 => some (0, r7)))
set_option maxHeartbeats 4000000 in
set_option maxRecDepth 100000 in
theorem qX5_append_L3 {l : Launch} {D : va_G} {M0 : zM} {Q : Option Value → zM → Prop} {c ad dec : Nat → Nat} (hG : cG c ad dec) : ∀ (n : Nat) (x1_ : Int32) (x2_ : Int32) (σ : zS) (r : (zS)), c5_append_L3 n c x1_ x2_ σ = some r → (Z l yX5_append cX5_append 3 none rmX5_append 0 0 D M0 Q 0 0 51 [none, none, none] [] (mC c ad dec r)) → Z l yX5_append cX5_append 3 none rmX5_append 0 0 D M0 Q 0 0 3 [some (.ref (ad 8)), some (.int x1_), some (.int x2_)] [] (mC c ad dec σ) := by
  intro n
  induction n with
  | zero =>
    intro x1_ x2_ σ r hF hE
    exact absurd (show (none : Option (zS)) = some r from hF) (by simp)
  | succ n ih =>
    intro x1_ x2_ σ r hF hE
    replace hF : (if x2_ < 0 then some (σ) else (if (40 : Int32) ≤ (σ 34 0) then some (σ) else (if zIn (σ 34 0) 40 = true then zl (zs σ 2 (σ 34 0).toNatClampNeg (((x1_).toUInt32 >>> ((x2_).toUInt32 &&& Int32.toUInt32 31)).toInt32 &&& (255 : Int32))) (fun (σ4 : zS) => zl (zs σ4 34 0 ((σ4 34 0) + (1 : Int32))) (fun (σ5 : zS) => zl (x2_ + (-8)) (fun (v6 : Int32) => (c5_append_L3 n c x1_ v6 σ5)))) else none))) = some r := hF
    refine Z_iload_n (i := 2) (pc' := 4) dX5_append_3 rfl rfl rfl ?_
    refine Z_if_lt (tgt := 51) (pc' := 7) dX5_append_4 (by decide) rfl (fun h1 => ?_) (fun h1 => ?_)
    · rw [if_pos h1] at hF
      cases hF
      exact Z_sub (vs' := [none, none, none]) (zSb_of _ _ trivial) hE
    · rw [if_neg h1] at hF
      refine Z_aload_n (i := 0) (pc' := 8) dX5_append_7 rfl rfl rfl ?_
      refine Z_get (v := .int (σ 34 0)) (pc' := 11) 1 zinX5 rfl (by decide) lkX5_15 (eC_1 hG) rfl dX5_append_8 rfl ?_
      refine Z_aload_n (i := 0) (pc' := 12) dX5_append_11 rfl rfl rfl ?_
      refine Z_get (v := .ref (ad 16)) (pc' := 15) 0 zinX5 rfl (by decide) lkX5_9 (eC_1 hG) rfl dX5_append_12 rfl ?_
      refine Z_alen (v := 40) (pc' := 16) (eC_2 hG) (by decide) dX5_append_15 rfl ?_
      refine Z_icmp_ge (tgt := 51) (pc' := 19) dX5_append_16 (by decide) rfl (fun h2 => ?_) (fun h2 => ?_)
      · rw [if_pos h2] at hF
        cases hF
        exact Z_sub (vs' := [none, none, none]) (zSb_of _ _ trivial) hE
      · rw [if_neg h2] at hF
        refine Z_aload_n (i := 0) (pc' := 20) dX5_append_19 rfl rfl rfl ?_
        refine Z_get (v := .ref (ad 16)) (pc' := 23) 0 zinX5 rfl (by decide) lkX5_9 (eC_1 hG) rfl dX5_append_20 rfl ?_
        refine Z_aload_n (i := 0) (pc' := 24) dX5_append_23 rfl rfl rfl ?_
        refine Z_get (v := .int (σ 34 0)) (pc' := 27) 1 zinX5 rfl (by decide) lkX5_15 (eC_1 hG) rfl dX5_append_24 rfl ?_
        refine Z_iload_n (i := 1) (pc' := 28) dX5_append_27 rfl rfl rfl ?_
        refine Z_iload_n (i := 2) (pc' := 29) dX5_append_28 rfl rfl rfl ?_
        refine Z_iushr (pc' := 30) dX5_append_29 rfl ?_
        refine Z_sipush (v := 255) (pc' := 33) dX5_append_30 (by decide) rfl ?_
        refine Z_iand (pc' := 34) dX5_append_33 rfl ?_
        obtain ⟨h3, hF⟩ := ck_of hF
        obtain ⟨σ4, hσ4, hF⟩ := zl_of hF
        refine Z_iast (pc' := 35) (eC_2 hG) (zIn_in h3) dX5_append_34 rfl ?_
        refine Z_mem (sC_2 hG hσ4) ?_
        refine Z_aload_n (i := 0) (pc' := 36) dX5_append_35 rfl rfl rfl ?_
        refine Z_dup (pc' := 37) rfl dX5_append_36 rfl ?_
        refine Z_get (v := .int (σ4 34 0)) (pc' := 40) 1 zinX5 rfl (by decide) lkX5_15 (eC_1 hG) rfl dX5_append_37 rfl ?_
        refine Z_iconst (v := 1) (pc' := 41) dX5_append_40 (by decide) rfl ?_
        refine Z_iadd (pc' := 42) dX5_append_41 rfl ?_
        obtain ⟨σ5, hσ5, hF⟩ := zl_of hF
        refine Z_put (pc' := 45) 1 zinX5 tyX5_ok nmX5 rfl (by decide) lkX5_15 rfl (eC_1 hG) rfl rfl rfl (Nat.le_of_ble_eq_true rfl) rfl dX5_append_42 rfl ?_
        refine Z_mem (pC_34 hG hσ5) ?_
        obtain ⟨v6, hv6, hF⟩ := zl_of hF
        refine Z_iinc (i := 2) (v := v6) (vs' := [some (.ref (ad 8)), some (.int x1_), some (.int v6)]) (pc' := 48) dX5_append_45 rfl (by rw [hv6]; rfl) (by decide) rfl rfl ?_
        refine Z_goto (tgt := 3) dX5_append_48 (by decide) ?_
        exact Z_sub (vs' := [some (.ref (ad 8)), some (.int x1_), some (.int v6)]) (zSb_of _ _ ⟨rfl, ⟨rfl, ⟨rfl, trivial⟩⟩⟩) (ih x1_ v6 σ5 _ hF hE)
set_option maxHeartbeats 4000000 in
set_option maxRecDepth 100000 in
theorem qX5_append (l : Launch) {c ad dec : Nat → Nat} (hG : cG c ad dec) {x1 : Int32} {σ : zS} {w : Int32 × zS} (hF : c5_append c x1 σ = some w) : zMet l yX5_append cX5_append 3 none rmX5_append [.ref (ad 8), .int x1] (mC c ad dec σ) (fun v M' => v = none ∧ M' = (mC c ad dec w.2)) := by
  refine zMet.ofZ (vs := [some (.ref (ad 8)), some (.int x1), none]) (by decide) rfl (zCt_of _ ⟨rfl, ⟨rfl, trivial⟩⟩) (Nat.le_of_ble_eq_true rfl) (fun D => ?_)
  unfold c5_append at hF
  refine Z_bipush (v := 24) (pc' := 2) dX5_append_0 (by decide) rfl ?_
  refine Z_istore_nE (i := 2) (x' := (24 : Int32)) (vs' := [some (.ref (ad 8)), some (.int x1), some (.int (24 : Int32))]) (pc' := 3) dX5_append_2 rfl rfl (by decide) rfl rfl ?_
  obtain ⟨r7, hr7, hF⟩ := bd_of hF
  refine Z_sub (vs' := [some (.ref (ad 8)), some (.int x1), some (.int (24 : Int32))]) (zSb_of _ _ ⟨rfl, ⟨rfl, ⟨rfl, trivial⟩⟩⟩) (qX5_append_L3 hG zF x1 (24 : Int32) σ _ hr7 ?_)
  cases hF
  exact Z_vret dX5_append_51 rfl (Nat.le_refl _) (Nat.le_refl _) ⟨rfl, rfl⟩
abbrev rmX5_byteAt : Room := { frames := 0, cells := 0, slots := 0, locals := 0 }
def c5_byteAt (c : Nat → Nat) (x1 : Int32) (x2 : Int32) (σ : zS) : Option (Int32 × zS) := (if x1 < 0 then some ((-1 : Int32), σ) else (if x2 ≤ x1 then some ((-1 : Int32), σ) else (if (σ 34 0) ≤ x1 then some ((-1 : Int32), σ) else (if zIn x1 40 = true then some ((σ 2 (x1).toNatClampNeg), σ) else none))))
set_option maxHeartbeats 4000000 in
set_option maxRecDepth 100000 in
theorem qX5_byteAt (l : Launch) {c ad dec : Nat → Nat} (hG : cG c ad dec) {x1 : Int32} {x2 : Int32} {σ : zS} {w : Int32 × zS} (hF : c5_byteAt c x1 x2 σ = some w) : zMet l yX5_byteAt cX5_byteAt 3 (some .int) rmX5_byteAt [.ref (ad 8), .int x1, .int x2] (mC c ad dec σ) (fun v M' => v = (some (.int w.1)) ∧ M' = (mC c ad dec w.2)) := by
  refine zMet.ofZ (vs := [some (.ref (ad 8)), some (.int x1), some (.int x2)]) (by decide) rfl (zCt_of _ ⟨rfl, ⟨rfl, ⟨rfl, trivial⟩⟩⟩) (Nat.le_of_ble_eq_true rfl) (fun D => ?_)
  unfold c5_byteAt at hF
  refine Z_iload_n (i := 1) (pc' := 1) dX5_byteAt_0 rfl rfl rfl ?_
  refine Z_if_lt (tgt := 26) (pc' := 4) dX5_byteAt_1 (by decide) rfl (fun h1 => ?_) (fun h1 => ?_)
  · rw [if_pos h1] at hF
    refine Z_iconst (v := -1) (pc' := 27) dX5_byteAt_26 (by decide) rfl ?_
    cases hF
    exact Z_iret (ty := .int) (w := (-1 : Int32)) dX5_byteAt_27 rfl rfl (Nat.le_refl _) (Nat.le_refl _) ⟨rfl, rfl⟩
  · rw [if_neg h1] at hF
    refine Z_iload_n (i := 1) (pc' := 5) dX5_byteAt_4 rfl rfl rfl ?_
    refine Z_iload_n (i := 2) (pc' := 6) dX5_byteAt_5 rfl rfl rfl ?_
    refine Z_icmp_ge (tgt := 26) (pc' := 9) dX5_byteAt_6 (by decide) rfl (fun h2 => ?_) (fun h2 => ?_)
    · rw [if_pos h2] at hF
      refine Z_iconst (v := -1) (pc' := 27) dX5_byteAt_26 (by decide) rfl ?_
      cases hF
      exact Z_iret (ty := .int) (w := (-1 : Int32)) dX5_byteAt_27 rfl rfl (Nat.le_refl _) (Nat.le_refl _) ⟨rfl, rfl⟩
    · rw [if_neg h2] at hF
      refine Z_iload_n (i := 1) (pc' := 10) dX5_byteAt_9 rfl rfl rfl ?_
      refine Z_aload_n (i := 0) (pc' := 11) dX5_byteAt_10 rfl rfl rfl ?_
      refine Z_get (v := .int (σ 34 0)) (pc' := 14) 1 zinX5 rfl (by decide) lkX5_15 (eC_1 hG) rfl dX5_byteAt_11 rfl ?_
      refine Z_icmp_ge (tgt := 26) (pc' := 17) dX5_byteAt_14 (by decide) rfl (fun h3 => ?_) (fun h3 => ?_)
      · rw [if_pos h3] at hF
        refine Z_iconst (v := -1) (pc' := 27) dX5_byteAt_26 (by decide) rfl ?_
        cases hF
        exact Z_iret (ty := .int) (w := (-1 : Int32)) dX5_byteAt_27 rfl rfl (Nat.le_refl _) (Nat.le_refl _) ⟨rfl, rfl⟩
      · rw [if_neg h3] at hF
        refine Z_aload_n (i := 0) (pc' := 18) dX5_byteAt_17 rfl rfl rfl ?_
        refine Z_get (v := .ref (ad 16)) (pc' := 21) 0 zinX5 rfl (by decide) lkX5_9 (eC_1 hG) rfl dX5_byteAt_18 rfl ?_
        refine Z_iload_n (i := 1) (pc' := 22) dX5_byteAt_21 rfl rfl rfl ?_
        obtain ⟨h4, hF⟩ := ck_of hF
        refine Z_iald (pc' := 23) (eC_2 hG) (zIn_in h4) dX5_byteAt_22 rfl ?_
        refine Z_goto (tgt := 27) dX5_byteAt_23 (by decide) ?_
        cases hF
        exact Z_iret (ty := .int) (w := (σ 2 (x1).toNatClampNeg)) dX5_byteAt_27 rfl rfl (Nat.le_refl _) (Nat.le_refl _) ⟨rfl, rfl⟩
abbrev rmX0_term : Room := { frames := 0, cells := 0, slots := 0, locals := 0 }
def c0_term (c : Nat → Nat) (x1 : Int32) (σ : zS) : Option (Int32 × zS) := (if x1 < 0 then some ((-1 : Int32), σ) else (if (4 : Int32) ≤ x1 then some ((-1 : Int32), σ) else (if zIn x1 4 = true then some ((σ 4 (x1).toNatClampNeg), σ) else none)))
set_option maxHeartbeats 4000000 in
set_option maxRecDepth 100000 in
theorem qX0_term (l : Launch) {c ad dec : Nat → Nat} (hG : cG c ad dec) {x1 : Int32} {σ : zS} {w : Int32 × zS} (hF : c0_term c x1 σ = some w) : zMet l yX0_term cX0_term 2 (some .int) rmX0_term [.ref (ad 24), .int x1] (mC c ad dec σ) (fun v M' => v = (some (.int w.1)) ∧ M' = (mC c ad dec w.2)) := by
  refine zMet.ofZ (vs := [some (.ref (ad 24)), some (.int x1)]) (by decide) rfl (zCt_of _ ⟨rfl, ⟨rfl, trivial⟩⟩) (Nat.le_of_ble_eq_true rfl) (fun D => ?_)
  unfold c0_term at hF
  refine Z_iload_n (i := 1) (pc' := 1) dX0_term_0 rfl rfl rfl ?_
  refine Z_if_lt (tgt := 22) (pc' := 4) dX0_term_1 (by decide) rfl (fun h1 => ?_) (fun h1 => ?_)
  · rw [if_pos h1] at hF
    refine Z_iconst (v := -1) (pc' := 23) dX0_term_22 (by decide) rfl ?_
    cases hF
    exact Z_iret (ty := .int) (w := (-1 : Int32)) dX0_term_23 rfl rfl (Nat.le_refl _) (Nat.le_refl _) ⟨rfl, rfl⟩
  · rw [if_neg h1] at hF
    refine Z_iload_n (i := 1) (pc' := 5) dX0_term_4 rfl rfl rfl ?_
    refine Z_aload_n (i := 0) (pc' := 6) dX0_term_5 rfl rfl rfl ?_
    refine Z_get (v := .ref (ad 32)) (pc' := 9) 0 zinX0 rfl (by decide) lkX0_20 (eC_3 hG) rfl dX0_term_6 rfl ?_
    refine Z_alen (v := 4) (pc' := 10) (eC_4 hG) (by decide) dX0_term_9 rfl ?_
    refine Z_icmp_ge (tgt := 22) (pc' := 13) dX0_term_10 (by decide) rfl (fun h2 => ?_) (fun h2 => ?_)
    · rw [if_pos h2] at hF
      refine Z_iconst (v := -1) (pc' := 23) dX0_term_22 (by decide) rfl ?_
      cases hF
      exact Z_iret (ty := .int) (w := (-1 : Int32)) dX0_term_23 rfl rfl (Nat.le_refl _) (Nat.le_refl _) ⟨rfl, rfl⟩
    · rw [if_neg h2] at hF
      refine Z_aload_n (i := 0) (pc' := 14) dX0_term_13 rfl rfl rfl ?_
      refine Z_get (v := .ref (ad 32)) (pc' := 17) 0 zinX0 rfl (by decide) lkX0_20 (eC_3 hG) rfl dX0_term_14 rfl ?_
      refine Z_iload_n (i := 1) (pc' := 18) dX0_term_17 rfl rfl rfl ?_
      obtain ⟨h3, hF⟩ := ck_of hF
      refine Z_iald (pc' := 19) (eC_4 hG) (zIn_in h3) dX0_term_18 rfl ?_
      refine Z_goto (tgt := 23) dX0_term_19 (by decide) ?_
      cases hF
      exact Z_iret (ty := .int) (w := (σ 4 (x1).toNatClampNeg)) dX0_term_23 rfl rfl (Nat.le_refl _) (Nat.le_refl _) ⟨rfl, rfl⟩
abbrev rmX0_needFor : Room := { frames := 0, cells := 0, slots := 0, locals := 0 }
def c0_needFor (c : Nat → Nat) (x1 : Int32) (σ : zS) : Option (Int32 × zS) := some (((((σ 4 (0 : Int32).toNatClampNeg) * x1) + (99 : Int32)) / (100 : Int32)), σ)
set_option maxHeartbeats 4000000 in
set_option maxRecDepth 100000 in
theorem qX0_needFor (l : Launch) {c ad dec : Nat → Nat} (hG : cG c ad dec) {x1 : Int32} {σ : zS} {w : Int32 × zS} (hF : c0_needFor c x1 σ = some w) : zMet l yX0_needFor cX0_needFor 2 (some .int) rmX0_needFor [.ref (ad 24), .int x1] (mC c ad dec σ) (fun v M' => v = (some (.int w.1)) ∧ M' = (mC c ad dec w.2)) := by
  refine zMet.ofZ (vs := [some (.ref (ad 24)), some (.int x1)]) (by decide) rfl (zCt_of _ ⟨rfl, ⟨rfl, trivial⟩⟩) (Nat.le_of_ble_eq_true rfl) (fun D => ?_)
  unfold c0_needFor at hF
  refine Z_aload_n (i := 0) (pc' := 1) dX0_needFor_0 rfl rfl rfl ?_
  refine Z_get (v := .ref (ad 32)) (pc' := 4) 0 zinX0 rfl (by decide) lkX0_20 (eC_3 hG) rfl dX0_needFor_1 rfl ?_
  refine Z_iconst (v := 0) (pc' := 5) dX0_needFor_4 (by decide) rfl ?_
  refine Z_iald (pc' := 6) (eC_4 hG) (zIn_in (by decide)) dX0_needFor_5 rfl ?_
  refine Z_iload_n (i := 1) (pc' := 7) dX0_needFor_6 rfl rfl rfl ?_
  refine Z_imul (pc' := 8) dX0_needFor_7 rfl ?_
  refine Z_bipush (v := 99) (pc' := 10) dX0_needFor_8 (by decide) rfl ?_
  refine Z_iadd (pc' := 11) dX0_needFor_10 rfl ?_
  refine Z_bipush (v := 100) (pc' := 13) dX0_needFor_11 (by decide) rfl ?_
  refine Z_idiv (pc' := 14) (by decide) dX0_needFor_13 rfl ?_
  cases hF
  exact Z_iret (ty := .int) (w := ((((σ 4 (0 : Int32).toNatClampNeg) * x1) + (99 : Int32)) / (100 : Int32))) dX0_needFor_14 rfl rfl (Nat.le_refl _) (Nat.le_refl _) ⟨rfl, rfl⟩
abbrev rmX0_seasonsTillDue : Room := { frames := 0, cells := 0, slots := 0, locals := 0 }
def c0_seasonsTillDue (c : Nat → Nat)  (σ : zS) : Option (Int32 × zS) := some ((σ 4 (1 : Int32).toNatClampNeg), σ)
set_option maxHeartbeats 4000000 in
set_option maxRecDepth 100000 in
theorem qX0_seasonsTillDue (l : Launch) {c ad dec : Nat → Nat} (hG : cG c ad dec)  {σ : zS} {w : Int32 × zS} (hF : c0_seasonsTillDue c  σ = some w) : zMet l yX0_seasonsTillDue cX0_seasonsTillDue 1 (some .int) rmX0_seasonsTillDue [.ref (ad 24)] (mC c ad dec σ) (fun v M' => v = (some (.int w.1)) ∧ M' = (mC c ad dec w.2)) := by
  refine zMet.ofZ (vs := [some (.ref (ad 24))]) (by decide) rfl (zCt_of _ ⟨rfl, trivial⟩) (Nat.le_of_ble_eq_true rfl) (fun D => ?_)
  unfold c0_seasonsTillDue at hF
  refine Z_aload_n (i := 0) (pc' := 1) dX0_seasonsTillDue_0 rfl rfl rfl ?_
  refine Z_get (v := .ref (ad 32)) (pc' := 4) 0 zinX0 rfl (by decide) lkX0_20 (eC_3 hG) rfl dX0_seasonsTillDue_1 rfl ?_
  refine Z_iconst (v := 1) (pc' := 5) dX0_seasonsTillDue_4 (by decide) rfl ?_
  refine Z_iald (pc' := 6) (eC_4 hG) (zIn_in (by decide)) dX0_seasonsTillDue_5 rfl ?_
  cases hF
  exact Z_iret (ty := .int) (w := (σ 4 (1 : Int32).toNatClampNeg)) dX0_seasonsTillDue_6 rfl rfl (Nat.le_refl _) (Nat.le_refl _) ⟨rfl, rfl⟩
abbrev rmX0_seasonsWon : Room := { frames := 0, cells := 0, slots := 0, locals := 0 }
def c0_seasonsWon (c : Nat → Nat)  (σ : zS) : Option (Int32 × zS) := some ((σ 4 (2 : Int32).toNatClampNeg), σ)
set_option maxHeartbeats 4000000 in
set_option maxRecDepth 100000 in
theorem qX0_seasonsWon (l : Launch) {c ad dec : Nat → Nat} (hG : cG c ad dec)  {σ : zS} {w : Int32 × zS} (hF : c0_seasonsWon c  σ = some w) : zMet l yX0_seasonsWon cX0_seasonsWon 1 (some .int) rmX0_seasonsWon [.ref (ad 24)] (mC c ad dec σ) (fun v M' => v = (some (.int w.1)) ∧ M' = (mC c ad dec w.2)) := by
  refine zMet.ofZ (vs := [some (.ref (ad 24))]) (by decide) rfl (zCt_of _ ⟨rfl, trivial⟩) (Nat.le_of_ble_eq_true rfl) (fun D => ?_)
  unfold c0_seasonsWon at hF
  refine Z_aload_n (i := 0) (pc' := 1) dX0_seasonsWon_0 rfl rfl rfl ?_
  refine Z_get (v := .ref (ad 32)) (pc' := 4) 0 zinX0 rfl (by decide) lkX0_20 (eC_3 hG) rfl dX0_seasonsWon_1 rfl ?_
  refine Z_iconst (v := 2) (pc' := 5) dX0_seasonsWon_4 (by decide) rfl ?_
  refine Z_iald (pc' := 6) (eC_4 hG) (zIn_in (by decide)) dX0_seasonsWon_5 rfl ?_
  cases hF
  exact Z_iret (ty := .int) (w := (σ 4 (2 : Int32).toNatClampNeg)) dX0_seasonsWon_6 rfl rfl (Nat.le_refl _) (Nat.le_refl _) ⟨rfl, rfl⟩
abbrev rmX0_seasonsToHold : Room := { frames := 0, cells := 0, slots := 0, locals := 0 }
def c0_seasonsToHold (c : Nat → Nat)  (σ : zS) : Option (Int32 × zS) := some ((σ 4 (3 : Int32).toNatClampNeg), σ)
set_option maxHeartbeats 4000000 in
set_option maxRecDepth 100000 in
theorem qX0_seasonsToHold (l : Launch) {c ad dec : Nat → Nat} (hG : cG c ad dec)  {σ : zS} {w : Int32 × zS} (hF : c0_seasonsToHold c  σ = some w) : zMet l yX0_seasonsToHold cX0_seasonsToHold 1 (some .int) rmX0_seasonsToHold [.ref (ad 24)] (mC c ad dec σ) (fun v M' => v = (some (.int w.1)) ∧ M' = (mC c ad dec w.2)) := by
  refine zMet.ofZ (vs := [some (.ref (ad 24))]) (by decide) rfl (zCt_of _ ⟨rfl, trivial⟩) (Nat.le_of_ble_eq_true rfl) (fun D => ?_)
  unfold c0_seasonsToHold at hF
  refine Z_aload_n (i := 0) (pc' := 1) dX0_seasonsToHold_0 rfl rfl rfl ?_
  refine Z_get (v := .ref (ad 32)) (pc' := 4) 0 zinX0 rfl (by decide) lkX0_20 (eC_3 hG) rfl dX0_seasonsToHold_1 rfl ?_
  refine Z_iconst (v := 3) (pc' := 5) dX0_seasonsToHold_4 (by decide) rfl ?_
  refine Z_iald (pc' := 6) (eC_4 hG) (zIn_in (by decide)) dX0_seasonsToHold_5 rfl ?_
  cases hF
  exact Z_iret (ty := .int) (w := (σ 4 (3 : Int32).toNatClampNeg)) dX0_seasonsToHold_6 rfl rfl (Nat.le_refl _) (Nat.le_refl _) ⟨rfl, rfl⟩
abbrev rmX0_faultAt : Room := { frames := 0, cells := 0, slots := 0, locals := 0 }
def c0_faultAt (c : Nat → Nat) (x0 : Int32) (x1 : Int32) (σ : zS) : Option (Int32 × zS) := some ((((100 : Int32) * x0) + x1), σ)
set_option maxHeartbeats 4000000 in
set_option maxRecDepth 100000 in
theorem qX0_faultAt (l : Launch) {c ad dec : Nat → Nat} (hG : cG c ad dec) {x0 : Int32} {x1 : Int32} {σ : zS} {w : Int32 × zS} (hF : c0_faultAt c x0 x1 σ = some w) : zMet l yX0_faultAt cX0_faultAt 2 (some .int) rmX0_faultAt [.int x0, .int x1] (mC c ad dec σ) (fun v M' => v = (some (.int w.1)) ∧ M' = (mC c ad dec w.2)) := by
  refine zMet.ofZ (vs := [some (.int x0), some (.int x1)]) (by decide) rfl (zCt_of _ ⟨rfl, ⟨rfl, trivial⟩⟩) (Nat.le_of_ble_eq_true rfl) (fun D => ?_)
  unfold c0_faultAt at hF
  refine Z_bipush (v := 100) (pc' := 2) dX0_faultAt_0 (by decide) rfl ?_
  refine Z_iload_n (i := 0) (pc' := 3) dX0_faultAt_2 rfl rfl rfl ?_
  refine Z_imul (pc' := 4) dX0_faultAt_3 rfl ?_
  refine Z_iload_n (i := 1) (pc' := 5) dX0_faultAt_4 rfl rfl rfl ?_
  refine Z_iadd (pc' := 6) dX0_faultAt_5 rfl ?_
  cases hF
  exact Z_iret (ty := .int) (w := (((100 : Int32) * x0) + x1)) dX0_faultAt_6 rfl rfl (Nat.le_refl _) (Nat.le_refl _) ⟨rfl, rfl⟩
abbrev rmX0_isDigit : Room := { frames := 0, cells := 0, slots := 0, locals := 0 }
def c0_isDigit (c : Nat → Nat) (x0 : Int32) (σ : zS) : Option (Int32 × zS) := (if x0 < (48 : Int32) then some ((0 : Int32), σ) else (if (57 : Int32) < x0 then some ((0 : Int32), σ) else some ((1 : Int32), σ)))
set_option maxHeartbeats 4000000 in
set_option maxRecDepth 100000 in
theorem qX0_isDigit (l : Launch) {c ad dec : Nat → Nat} (hG : cG c ad dec) {x0 : Int32} {σ : zS} {w : Int32 × zS} (hF : c0_isDigit c x0 σ = some w) : zMet l yX0_isDigit cX0_isDigit 1 (some .boolean) rmX0_isDigit [.int x0] (mC c ad dec σ) (fun v M' => v = (some (.int w.1)) ∧ M' = (mC c ad dec w.2)) := by
  refine zMet.ofZ (vs := [some (.int x0)]) (by decide) rfl (zCt_of _ ⟨rfl, trivial⟩) (Nat.le_of_ble_eq_true rfl) (fun D => ?_)
  unfold c0_isDigit at hF
  refine Z_iload_n (i := 0) (pc' := 1) dX0_isDigit_0 rfl rfl rfl ?_
  refine Z_bipush (v := 48) (pc' := 3) dX0_isDigit_1 (by decide) rfl ?_
  refine Z_icmp_lt (tgt := 16) (pc' := 6) dX0_isDigit_3 (by decide) rfl (fun h1 => ?_) (fun h1 => ?_)
  · rw [if_pos h1] at hF
    refine Z_iconst (v := 0) (pc' := 17) dX0_isDigit_16 (by decide) rfl ?_
    cases hF
    exact Z_iret (ty := .boolean) (w := (0 : Int32)) dX0_isDigit_17 rfl rfl (Nat.le_refl _) (Nat.le_refl _) ⟨rfl, rfl⟩
  · rw [if_neg h1] at hF
    refine Z_iload_n (i := 0) (pc' := 7) dX0_isDigit_6 rfl rfl rfl ?_
    refine Z_bipush (v := 57) (pc' := 9) dX0_isDigit_7 (by decide) rfl ?_
    refine Z_icmp_gt (tgt := 16) (pc' := 12) dX0_isDigit_9 (by decide) rfl (fun h2 => ?_) (fun h2 => ?_)
    · rw [if_pos h2] at hF
      refine Z_iconst (v := 0) (pc' := 17) dX0_isDigit_16 (by decide) rfl ?_
      cases hF
      exact Z_iret (ty := .boolean) (w := (0 : Int32)) dX0_isDigit_17 rfl rfl (Nat.le_refl _) (Nat.le_refl _) ⟨rfl, rfl⟩
    · rw [if_neg h2] at hF
      refine Z_iconst (v := 1) (pc' := 13) dX0_isDigit_12 (by decide) rfl ?_
      refine Z_goto (tgt := 17) dX0_isDigit_13 (by decide) ?_
      cases hF
      exact Z_iret (ty := .boolean) (w := (1 : Int32)) dX0_isDigit_17 rfl rfl (Nat.le_refl _) (Nat.le_refl _) ⟨rfl, rfl⟩
abbrev rmX0_digitsFrom : Room := { frames := 1, cells := 0, slots := 0, locals := 22 }
def c0_digitsFrom_L2 (N : Nat) (c : Nat → Nat) (x1_ : Int32) (x2_ : Int32) (x3_ : Int32) (σ : zS) : Option (Int32 × zS) := match N with
  | 0 => none
  | n + 1 => (if (4 : Int32) < x3_ then some (x3_, σ) else ((c5_byteAt c (x1_ + x3_) x2_ σ).bind (fun y2 => ((c0_isDigit c y2.1 y2.2).bind (fun y3 => (if y3.1 = 0 then some (x3_, y3.2) else zl (x3_ + 1) (fun (v5 : Int32) => (c0_digitsFrom_L2 n c x1_ x2_ v5 y3.2))))))))
def c0_digitsFrom (c : Nat → Nat) (x1 : Int32) (x2 : Int32) (σ : zS) : Option (Int32 × zS) := ((c0_digitsFrom_L2 zF c x1 x2 (0 : Int32) σ).bind (fun r6 => some (r6.1, r6.2)))
set_option maxHeartbeats 4000000 in
set_option maxRecDepth 100000 in
theorem qX0_digitsFrom_L2 {l : Launch} {D : va_G} {M0 : zM} {Q : Option Value → zM → Prop} {c ad dec : Nat → Nat} (hG : cG c ad dec) : ∀ (n : Nat) (x1_ : Int32) (x2_ : Int32) (x3_ : Int32) (σ : zS) (r : (Int32 × zS)), c0_digitsFrom_L2 n c x1_ x2_ x3_ σ = some r → (Z l yX0_digitsFrom cX0_digitsFrom 4 (some .int) rmX0_digitsFrom 0 0 D M0 Q 0 0 27 [none, none, none, some (.int r.1)] [] (mC c ad dec r.2)) → Z l yX0_digitsFrom cX0_digitsFrom 4 (some .int) rmX0_digitsFrom 0 0 D M0 Q 0 0 2 [some (.ref (ad 8)), some (.int x1_), some (.int x2_), some (.int x3_)] [] (mC c ad dec σ) := by
  intro n
  induction n with
  | zero =>
    intro x1_ x2_ x3_ σ r hF hE
    exact absurd (show (none : Option (Int32 × zS)) = some r from hF) (by simp)
  | succ n ih =>
    intro x1_ x2_ x3_ σ r hF hE
    replace hF : (if (4 : Int32) < x3_ then some (x3_, σ) else ((c5_byteAt c (x1_ + x3_) x2_ σ).bind (fun y2 => ((c0_isDigit c y2.1 y2.2).bind (fun y3 => (if y3.1 = 0 then some (x3_, y3.2) else zl (x3_ + 1) (fun (v5 : Int32) => (c0_digitsFrom_L2 n c x1_ x2_ v5 y3.2)))))))) = some r := hF
    refine Z_iload_n (i := 3) (pc' := 3) dX0_digitsFrom_2 rfl rfl rfl ?_
    refine Z_iconst (v := 4) (pc' := 4) dX0_digitsFrom_3 (by decide) rfl ?_
    refine Z_icmp_gt (tgt := 27) (pc' := 7) dX0_digitsFrom_4 (by decide) rfl (fun h1 => ?_) (fun h1 => ?_)
    · rw [if_pos h1] at hF
      cases hF
      exact Z_sub (vs' := [none, none, none, some (.int x3_)]) (zSb_of _ _ ⟨rfl, trivial⟩) hE
    · rw [if_neg h1] at hF
      refine Z_aload_n (i := 0) (pc' := 8) dX0_digitsFrom_7 rfl rfl rfl ?_
      refine Z_iload_n (i := 1) (pc' := 9) dX0_digitsFrom_8 rfl rfl rfl ?_
      refine Z_iload_n (i := 3) (pc' := 10) dX0_digitsFrom_9 rfl rfl rfl ?_
      refine Z_iadd (pc' := 11) dX0_digitsFrom_10 rfl ?_
      refine Z_iload_n (i := 2) (pc' := 12) dX0_digitsFrom_11 rfl rfl rfl ?_
      obtain ⟨y2, hy2, hF⟩ := bd_of hF
      refine Z_callVi (As := [.int (x1_ + x3_), .int x2_]) (st := []) (pc' := 15) (k' := 0) (n' := 0) (qX5_byteAt l hG hy2) ckX5_byteAt kvX5_byteAt mlX0_40 (eC_1 hG) rfl rfl rfl (Nat.le_of_ble_eq_true rfl) ⟨Nat.le_of_ble_eq_true rfl, Nat.le_of_ble_eq_true rfl⟩ ⟨Nat.le_of_ble_eq_true rfl, Nat.le_of_ble_eq_true rfl⟩ dX0_digitsFrom_12 rfl rfl rfl ?_
      obtain ⟨y3, hy3, hF⟩ := bd_of hF
      refine Z_callSi (As := [.int y2.1]) (st := []) (pc' := 18) (k' := 0) (n' := 0) (qX0_isDigit l hG hy3) ckX0_isDigit ksX0_isDigit mlX0_74 rfl rfl (Nat.le_of_ble_eq_true rfl) ⟨Nat.le_of_ble_eq_true rfl, Nat.le_of_ble_eq_true rfl⟩ ⟨Nat.le_of_ble_eq_true rfl, Nat.le_of_ble_eq_true rfl⟩ dX0_digitsFrom_15 rfl rfl rfl ?_
      refine Z_if_eq (tgt := 27) (pc' := 21) dX0_digitsFrom_18 (by decide) rfl (fun h4 => ?_) (fun h4 => ?_)
      · rw [if_pos h4] at hF
        cases hF
        exact Z_sub (vs' := [none, none, none, some (.int x3_)]) (zSb_of _ _ ⟨rfl, trivial⟩) hE
      · rw [if_neg h4] at hF
        obtain ⟨v5, hv5, hF⟩ := zl_of hF
        refine Z_iinc (i := 3) (v := v5) (vs' := [some (.ref (ad 8)), some (.int x1_), some (.int x2_), some (.int v5)]) (pc' := 24) dX0_digitsFrom_21 rfl (by rw [hv5]; rfl) (by decide) rfl rfl ?_
        refine Z_goto (tgt := 2) dX0_digitsFrom_24 (by decide) ?_
        exact Z_sub (vs' := [some (.ref (ad 8)), some (.int x1_), some (.int x2_), some (.int v5)]) (zSb_of _ _ ⟨rfl, ⟨rfl, ⟨rfl, ⟨rfl, trivial⟩⟩⟩⟩) (ih x1_ x2_ v5 y3.2 _ hF hE)
set_option maxHeartbeats 4000000 in
set_option maxRecDepth 100000 in
theorem qX0_digitsFrom (l : Launch) {c ad dec : Nat → Nat} (hG : cG c ad dec) {x1 : Int32} {x2 : Int32} {σ : zS} {w : Int32 × zS} (hF : c0_digitsFrom c x1 x2 σ = some w) : zMet l yX0_digitsFrom cX0_digitsFrom 4 (some .int) rmX0_digitsFrom [.ref (ad 8), .int x1, .int x2] (mC c ad dec σ) (fun v M' => v = (some (.int w.1)) ∧ M' = (mC c ad dec w.2)) := by
  refine zMet.ofZ (vs := [some (.ref (ad 8)), some (.int x1), some (.int x2), none]) (by decide) rfl (zCt_of _ ⟨rfl, ⟨rfl, ⟨rfl, trivial⟩⟩⟩) (Nat.le_of_ble_eq_true rfl) (fun D => ?_)
  unfold c0_digitsFrom at hF
  refine Z_iconst (v := 0) (pc' := 1) dX0_digitsFrom_0 (by decide) rfl ?_
  refine Z_istore_nE (i := 3) (x' := (0 : Int32)) (vs' := [some (.ref (ad 8)), some (.int x1), some (.int x2), some (.int (0 : Int32))]) (pc' := 2) dX0_digitsFrom_1 rfl rfl (by decide) rfl rfl ?_
  obtain ⟨r6, hr6, hF⟩ := bd_of hF
  refine Z_sub (vs' := [some (.ref (ad 8)), some (.int x1), some (.int x2), some (.int (0 : Int32))]) (zSb_of _ _ ⟨rfl, ⟨rfl, ⟨rfl, ⟨rfl, trivial⟩⟩⟩⟩) (qX0_digitsFrom_L2 hG zF x1 x2 (0 : Int32) σ _ hr6 ?_)
  refine Z_iload_n (i := 3) (pc' := 28) dX0_digitsFrom_27 rfl rfl rfl ?_
  cases hF
  exact Z_iret (ty := .int) (w := r6.1) dX0_digitsFrom_28 rfl rfl (Nat.le_refl _) (Nat.le_refl _) ⟨rfl, rfl⟩
abbrev rmX0_numberAt : Room := { frames := 1, cells := 0, slots := 0, locals := 22 }
def c0_numberAt_L6 (N : Nat) (c : Nat → Nat) (x1_ : Int32) (x2_ : Int32) (x3_ : Int32) (x4_ : Int32) (x5_ : Int32) (σ : zS) : Option (Int32 × zS) := match N with
  | 0 => none
  | n + 1 => (if x2_ ≤ x5_ then some (x4_, σ) else ((c5_byteAt c (x1_ + x5_) x3_ σ).bind (fun y2 => zl ((((10 : Int32) * x4_) + y2.1) - (48 : Int32)) (fun (v3 : Int32) => zl (x5_ + 1) (fun (v4 : Int32) => (c0_numberAt_L6 n c x1_ x2_ x3_ v3 v4 y2.2))))))
def c0_numberAt (c : Nat → Nat) (x1 : Int32) (x2 : Int32) (x3 : Int32) (σ : zS) : Option (Int32 × zS) := ((c0_numberAt_L6 zF c x1 x2 x3 (0 : Int32) (0 : Int32) σ).bind (fun r5 => some (r5.1, r5.2)))
set_option maxHeartbeats 4000000 in
set_option maxRecDepth 100000 in
theorem qX0_numberAt_L6 {l : Launch} {D : va_G} {M0 : zM} {Q : Option Value → zM → Prop} {c ad dec : Nat → Nat} (hG : cG c ad dec) : ∀ (n : Nat) (x1_ : Int32) (x2_ : Int32) (x3_ : Int32) (x4_ : Int32) (x5_ : Int32) (σ : zS) (r : (Int32 × zS)), c0_numberAt_L6 n c x1_ x2_ x3_ x4_ x5_ σ = some r → (Z l yX0_numberAt cX0_numberAt 6 (some .int) rmX0_numberAt 0 0 D M0 Q 0 0 38 [none, none, none, none, some (.int r.1), none] [] (mC c ad dec r.2)) → Z l yX0_numberAt cX0_numberAt 6 (some .int) rmX0_numberAt 0 0 D M0 Q 0 0 6 [some (.ref (ad 8)), some (.int x1_), some (.int x2_), some (.int x3_), some (.int x4_), some (.int x5_)] [] (mC c ad dec σ) := by
  intro n
  induction n with
  | zero =>
    intro x1_ x2_ x3_ x4_ x5_ σ r hF hE
    exact absurd (show (none : Option (Int32 × zS)) = some r from hF) (by simp)
  | succ n ih =>
    intro x1_ x2_ x3_ x4_ x5_ σ r hF hE
    replace hF : (if x2_ ≤ x5_ then some (x4_, σ) else ((c5_byteAt c (x1_ + x5_) x3_ σ).bind (fun y2 => zl ((((10 : Int32) * x4_) + y2.1) - (48 : Int32)) (fun (v3 : Int32) => zl (x5_ + 1) (fun (v4 : Int32) => (c0_numberAt_L6 n c x1_ x2_ x3_ v3 v4 y2.2)))))) = some r := hF
    refine Z_iload (i := 5) (pc' := 8) dX0_numberAt_6 rfl rfl ?_
    refine Z_iload_n (i := 2) (pc' := 9) dX0_numberAt_8 rfl rfl rfl ?_
    refine Z_icmp_ge (tgt := 38) (pc' := 12) dX0_numberAt_9 (by decide) rfl (fun h1 => ?_) (fun h1 => ?_)
    · rw [if_pos h1] at hF
      cases hF
      exact Z_sub (vs' := [none, none, none, none, some (.int x4_), none]) (zSb_of _ _ ⟨rfl, trivial⟩) hE
    · rw [if_neg h1] at hF
      refine Z_bipush (v := 10) (pc' := 14) dX0_numberAt_12 (by decide) rfl ?_
      refine Z_iload (i := 4) (pc' := 16) dX0_numberAt_14 rfl rfl ?_
      refine Z_imul (pc' := 17) dX0_numberAt_16 rfl ?_
      refine Z_aload_n (i := 0) (pc' := 18) dX0_numberAt_17 rfl rfl rfl ?_
      refine Z_iload_n (i := 1) (pc' := 19) dX0_numberAt_18 rfl rfl rfl ?_
      refine Z_iload (i := 5) (pc' := 21) dX0_numberAt_19 rfl rfl ?_
      refine Z_iadd (pc' := 22) dX0_numberAt_21 rfl ?_
      refine Z_iload_n (i := 3) (pc' := 23) dX0_numberAt_22 rfl rfl rfl ?_
      obtain ⟨y2, hy2, hF⟩ := bd_of hF
      refine Z_callVi (As := [.int (x1_ + x5_), .int x3_]) (st := [.int ((10 : Int32) * x4_)]) (pc' := 26) (k' := 0) (n' := 0) (qX5_byteAt l hG hy2) ckX5_byteAt kvX5_byteAt mlX0_40 (eC_1 hG) rfl rfl rfl (Nat.le_of_ble_eq_true rfl) ⟨Nat.le_of_ble_eq_true rfl, Nat.le_of_ble_eq_true rfl⟩ ⟨Nat.le_of_ble_eq_true rfl, Nat.le_of_ble_eq_true rfl⟩ dX0_numberAt_23 rfl rfl rfl ?_
      refine Z_iadd (pc' := 27) dX0_numberAt_26 rfl ?_
      refine Z_bipush (v := 48) (pc' := 29) dX0_numberAt_27 (by decide) rfl ?_
      refine Z_isub (pc' := 30) dX0_numberAt_29 rfl ?_
      obtain ⟨v3, hv3, hF⟩ := zl_of hF
      refine Z_istoreE (i := 4) (x' := v3) (vs' := [some (.ref (ad 8)), some (.int x1_), some (.int x2_), some (.int x3_), some (.int v3), some (.int x5_)]) (pc' := 32) dX0_numberAt_30 hv3 (by decide) rfl rfl ?_
      obtain ⟨v4, hv4, hF⟩ := zl_of hF
      refine Z_iinc (i := 5) (v := v4) (vs' := [some (.ref (ad 8)), some (.int x1_), some (.int x2_), some (.int x3_), some (.int v3), some (.int v4)]) (pc' := 35) dX0_numberAt_32 rfl (by rw [hv4]; rfl) (by decide) rfl rfl ?_
      refine Z_goto (tgt := 6) dX0_numberAt_35 (by decide) ?_
      exact Z_sub (vs' := [some (.ref (ad 8)), some (.int x1_), some (.int x2_), some (.int x3_), some (.int v3), some (.int v4)]) (zSb_of _ _ ⟨rfl, ⟨rfl, ⟨rfl, ⟨rfl, ⟨rfl, ⟨rfl, trivial⟩⟩⟩⟩⟩⟩) (ih x1_ x2_ x3_ v3 v4 y2.2 _ hF hE)
set_option maxHeartbeats 4000000 in
set_option maxRecDepth 100000 in
theorem qX0_numberAt (l : Launch) {c ad dec : Nat → Nat} (hG : cG c ad dec) {x1 : Int32} {x2 : Int32} {x3 : Int32} {σ : zS} {w : Int32 × zS} (hF : c0_numberAt c x1 x2 x3 σ = some w) : zMet l yX0_numberAt cX0_numberAt 6 (some .int) rmX0_numberAt [.ref (ad 8), .int x1, .int x2, .int x3] (mC c ad dec σ) (fun v M' => v = (some (.int w.1)) ∧ M' = (mC c ad dec w.2)) := by
  refine zMet.ofZ (vs := [some (.ref (ad 8)), some (.int x1), some (.int x2), some (.int x3), none, none]) (by decide) rfl (zCt_of _ ⟨rfl, ⟨rfl, ⟨rfl, ⟨rfl, trivial⟩⟩⟩⟩) (Nat.le_of_ble_eq_true rfl) (fun D => ?_)
  unfold c0_numberAt at hF
  refine Z_iconst (v := 0) (pc' := 1) dX0_numberAt_0 (by decide) rfl ?_
  refine Z_istoreE (i := 4) (x' := (0 : Int32)) (vs' := [some (.ref (ad 8)), some (.int x1), some (.int x2), some (.int x3), some (.int (0 : Int32)), none]) (pc' := 3) dX0_numberAt_1 rfl (by decide) rfl rfl ?_
  refine Z_iconst (v := 0) (pc' := 4) dX0_numberAt_3 (by decide) rfl ?_
  refine Z_istoreE (i := 5) (x' := (0 : Int32)) (vs' := [some (.ref (ad 8)), some (.int x1), some (.int x2), some (.int x3), some (.int (0 : Int32)), some (.int (0 : Int32))]) (pc' := 6) dX0_numberAt_4 rfl (by decide) rfl rfl ?_
  obtain ⟨r5, hr5, hF⟩ := bd_of hF
  refine Z_sub (vs' := [some (.ref (ad 8)), some (.int x1), some (.int x2), some (.int x3), some (.int (0 : Int32)), some (.int (0 : Int32))]) (zSb_of _ _ ⟨rfl, ⟨rfl, ⟨rfl, ⟨rfl, ⟨rfl, ⟨rfl, trivial⟩⟩⟩⟩⟩⟩) (qX0_numberAt_L6 hG zF x1 x2 x3 (0 : Int32) (0 : Int32) σ _ hr5 ?_)
  refine Z_iload (i := 4) (pc' := 40) dX0_numberAt_38 rfl rfl ?_
  cases hF
  exact Z_iret (ty := .int) (w := r5.1) dX0_numberAt_40 rfl rfl (Nat.le_refl _) (Nat.le_refl _) ⟨rfl, rfl⟩
abbrev rmX2_isFull : Room := { frames := 0, cells := 0, slots := 0, locals := 0 }
def c2_isFull (c : Nat → Nat)  (σ : zS) : Option (Int32 × zS) := (if (σ 35 0) < (200 : Int32) then some ((0 : Int32), σ) else some ((1 : Int32), σ))
set_option maxHeartbeats 4000000 in
set_option maxRecDepth 100000 in
theorem qX2_isFull (l : Launch) {c ad dec : Nat → Nat} (hG : cG c ad dec)  {σ : zS} {w : Int32 × zS} (hF : c2_isFull c  σ = some w) : zMet l yX2_isFull cX2_isFull 1 (some .boolean) rmX2_isFull [.ref (ad 64)] (mC c ad dec σ) (fun v M' => v = (some (.int w.1)) ∧ M' = (mC c ad dec w.2)) := by
  refine zMet.ofZ (vs := [some (.ref (ad 64))]) (by decide) rfl (zCt_of _ ⟨rfl, trivial⟩) (Nat.le_of_ble_eq_true rfl) (fun D => ?_)
  unfold c2_isFull at hF
  refine Z_aload_n (i := 0) (pc' := 1) dX2_isFull_0 rfl rfl rfl ?_
  refine Z_get (v := .int (σ 35 0)) (pc' := 4) 1 zinX2 rfl (by decide) lkX2_17 (eC_8 hG) rfl dX2_isFull_1 rfl ?_
  refine Z_sipush (v := 200) (pc' := 7) dX2_isFull_4 (by decide) rfl ?_
  refine Z_icmp_lt (tgt := 14) (pc' := 10) dX2_isFull_7 (by decide) rfl (fun h1 => ?_) (fun h1 => ?_)
  · rw [if_pos h1] at hF
    refine Z_iconst (v := 0) (pc' := 15) dX2_isFull_14 (by decide) rfl ?_
    cases hF
    exact Z_iret (ty := .boolean) (w := (0 : Int32)) dX2_isFull_15 rfl rfl (Nat.le_refl _) (Nat.le_refl _) ⟨rfl, rfl⟩
  · rw [if_neg h1] at hF
    refine Z_iconst (v := 1) (pc' := 11) dX2_isFull_10 (by decide) rfl ?_
    refine Z_goto (tgt := 15) dX2_isFull_11 (by decide) ?_
    cases hF
    exact Z_iret (ty := .boolean) (w := (1 : Int32)) dX2_isFull_15 rfl rfl (Nat.le_refl _) (Nat.le_refl _) ⟨rfl, rfl⟩
abbrev rmX2_isOpenFor : Room := { frames := 1, cells := 0, slots := 0, locals := 22 }
def c2_isOpenFor (c : Nat → Nat) (i0 : Nat) (x1 : Int32) (x2 : Int32) (x3 : Int32) (σ : zS) : Option (Int32 × zS) := (if i0 < c 2 then ((c1_isOpen c i0 σ).bind (fun y1 => (if y1.1 = 0 then some ((0 : Int32), y1.2) else (if (y1.2 63 i0) = x3 then ((c1_isBetween c i0 x1 x2 y1.2).bind (fun y5 => (if y5.1 = 0 then some ((0 : Int32), y5.2) else some ((1 : Int32), y5.2)))) else some ((0 : Int32), y1.2))))) else none)
set_option maxHeartbeats 4000000 in
set_option maxRecDepth 100000 in
theorem qX2_isOpenFor (l : Launch) {c ad dec : Nat → Nat} (hG : cG c ad dec) {i0 : Nat} {x1 : Int32} {x2 : Int32} {x3 : Int32} {σ : zS} {w : Int32 × zS} (hF : c2_isOpenFor c i0 x1 x2 x3 σ = some w) : zMet l yX2_isOpenFor cX2_isOpenFor 4 (some .boolean) rmX2_isOpenFor [.ref (ad (8 * i0 + 5)), .int x1, .int x2, .int x3] (mC c ad dec σ) (fun v M' => v = (some (.int w.1)) ∧ M' = (mC c ad dec w.2)) := by
  refine zMet.ofZ (vs := [some (.ref (ad (8 * i0 + 5))), some (.int x1), some (.int x2), some (.int x3)]) (by decide) rfl (zCt_of _ ⟨rfl, ⟨rfl, ⟨rfl, ⟨rfl, trivial⟩⟩⟩⟩) (Nat.le_of_ble_eq_true rfl) (fun D => ?_)
  unfold c2_isOpenFor at hF
  refine Z_aload_n (i := 0) (pc' := 1) dX2_isOpenFor_0 rfl rfl rfl ?_
  obtain ⟨h2, hF⟩ := ck_of hF
  obtain ⟨y1, hy1, hF⟩ := bd_of hF
  refine Z_callVi (As := []) (st := []) (pc' := 4) (k' := 0) (n' := 0) (qX1_isOpen l hG hy1) ckX1_isOpen kvX1_isOpen mlX2_32 (eC_db hG h2) rfl rfl rfl (Nat.le_of_ble_eq_true rfl) ⟨Nat.le_of_ble_eq_true rfl, Nat.le_of_ble_eq_true rfl⟩ ⟨Nat.le_of_ble_eq_true rfl, Nat.le_of_ble_eq_true rfl⟩ dX2_isOpenFor_1 rfl rfl rfl ?_
  refine Z_if_eq (tgt := 28) (pc' := 7) dX2_isOpenFor_4 (by decide) rfl (fun h3 => ?_) (fun h3 => ?_)
  · rw [if_pos h3] at hF
    refine Z_iconst (v := 0) (pc' := 29) dX2_isOpenFor_28 (by decide) rfl ?_
    cases hF
    exact Z_iret (ty := .boolean) (w := (0 : Int32)) dX2_isOpenFor_29 rfl rfl (Nat.le_refl _) (Nat.le_refl _) ⟨rfl, rfl⟩
  · rw [if_neg h3] at hF
    refine Z_aload_n (i := 0) (pc' := 8) dX2_isOpenFor_7 rfl rfl rfl ?_
    refine Z_get (v := .int (y1.2 63 i0)) (pc' := 11) 3 zinX1 rfl (by decide) lkX2_35 (eC_db hG h2) rfl dX2_isOpenFor_8 rfl ?_
    refine Z_iload_n (i := 3) (pc' := 12) dX2_isOpenFor_11 rfl rfl rfl ?_
    refine Z_icmp_ne (tgt := 28) (pc' := 15) dX2_isOpenFor_12 (by decide) rfl (fun h4 => ?_) (fun h4 => ?_)
    · rw [if_neg h4] at hF
      refine Z_iconst (v := 0) (pc' := 29) dX2_isOpenFor_28 (by decide) rfl ?_
      cases hF
      exact Z_iret (ty := .boolean) (w := (0 : Int32)) dX2_isOpenFor_29 rfl rfl (Nat.le_refl _) (Nat.le_refl _) ⟨rfl, rfl⟩
    · rw [if_pos h4] at hF
      refine Z_aload_n (i := 0) (pc' := 16) dX2_isOpenFor_15 rfl rfl rfl ?_
      refine Z_iload_n (i := 1) (pc' := 17) dX2_isOpenFor_16 rfl rfl rfl ?_
      refine Z_iload_n (i := 2) (pc' := 18) dX2_isOpenFor_17 rfl rfl rfl ?_
      obtain ⟨y5, hy5, hF⟩ := bd_of hF
      refine Z_callVi (As := [.int x1, .int x2]) (st := []) (pc' := 21) (k' := 0) (n' := 0) (qX1_isBetween l hG hy5) ckX1_isBetween kvX1_isBetween mlX2_38 (eC_db hG h2) rfl rfl rfl (Nat.le_of_ble_eq_true rfl) ⟨Nat.le_of_ble_eq_true rfl, Nat.le_of_ble_eq_true rfl⟩ ⟨Nat.le_of_ble_eq_true rfl, Nat.le_of_ble_eq_true rfl⟩ dX2_isOpenFor_18 rfl rfl rfl ?_
      refine Z_if_eq (tgt := 28) (pc' := 24) dX2_isOpenFor_21 (by decide) rfl (fun h6 => ?_) (fun h6 => ?_)
      · rw [if_pos h6] at hF
        refine Z_iconst (v := 0) (pc' := 29) dX2_isOpenFor_28 (by decide) rfl ?_
        cases hF
        exact Z_iret (ty := .boolean) (w := (0 : Int32)) dX2_isOpenFor_29 rfl rfl (Nat.le_refl _) (Nat.le_refl _) ⟨rfl, rfl⟩
      · rw [if_neg h6] at hF
        refine Z_iconst (v := 1) (pc' := 25) dX2_isOpenFor_24 (by decide) rfl ?_
        refine Z_goto (tgt := 29) dX2_isOpenFor_25 (by decide) ?_
        cases hF
        exact Z_iret (ty := .boolean) (w := (1 : Int32)) dX2_isOpenFor_29 rfl rfl (Nat.le_refl _) (Nat.le_refl _) ⟨rfl, rfl⟩
abbrev rmX2_greatestWithin : Room := { frames := 2, cells := 0, slots := 0, locals := 45 }
def c2_greatestWithin_L6 (N : Nat) (c : Nat → Nat) (x1_ : Int32) (x2_ : Int32) (x3_ : Int32) (x4_ : Int32) (o5_ : Option Nat) (x6_ : Int32) (σ : zS) : Option (Option Nat × zS) := match N with
  | 0 => none
  | n + 1 => (if (σ 35 0) ≤ x6_ then some (o5_, σ) else (if zIn x6_ 200 = true then zl (zo (c 5) x6_) (fun (o3 : Option Nat) => (Option.bind o3 (fun (i4 : Nat) => ((c2_isOpenFor c i4 x1_ x2_ x3_ σ).bind (fun y5 => (if y5.1 = 0 then zl (x6_ + 1) (fun (v7 : Int32) => (c2_greatestWithin_L6 n c x1_ x2_ x3_ x4_ o5_ v7 y5.2)) else (if i4 < c 2 then (if x4_ < (y5.2 64 i4) then zl (x6_ + 1) (fun (v10 : Int32) => (c2_greatestWithin_L6 n c x1_ x2_ x3_ x4_ o5_ v10 y5.2)) else (zopt o5_ (zl (x6_ + 1) (fun (v12 : Int32) => (c2_greatestWithin_L6 n c x1_ x2_ x3_ x4_ (some i4) v12 y5.2))) (fun (i11 : Nat) => (if i11 < c 2 then (if (y5.2 64 i4) ≤ (y5.2 64 i11) then zl (x6_ + 1) (fun (v15 : Int32) => (c2_greatestWithin_L6 n c x1_ x2_ x3_ x4_ (some i11) v15 y5.2)) else zl (x6_ + 1) (fun (v16 : Int32) => (c2_greatestWithin_L6 n c x1_ x2_ x3_ x4_ (some i4) v16 y5.2))) else none)))) else none))))))) else none))
def c2_greatestWithin (c : Nat → Nat) (x1 : Int32) (x2 : Int32) (x3 : Int32) (x4 : Int32) (σ : zS) : Option (Option Nat × zS) := ((c2_greatestWithin_L6 zF c x1 x2 x3 x4 none (0 : Int32) σ).bind (fun r17 => some (r17.1, r17.2)))
set_option maxHeartbeats 4000000 in
set_option maxRecDepth 100000 in
theorem qX2_greatestWithin_L6 {l : Launch} {D : va_G} {M0 : zM} {Q : Option Value → zM → Prop} {c ad dec : Nat → Nat} (hG : cG c ad dec) : ∀ (n : Nat) (x1_ : Int32) (x2_ : Int32) (x3_ : Int32) (x4_ : Int32) (o5_ : Option Nat) (x6_ : Int32) (σ : zS) (r : (Option Nat × zS)), c2_greatestWithin_L6 n c x1_ x2_ x3_ x4_ o5_ x6_ σ = some r → (Z l yX2_greatestWithin cX2_greatestWithin 8 (some (.object "GiftRing$Debt")) rmX2_greatestWithin 0 0 D M0 Q 0 0 73 [none, none, none, none, none, some (rv ad 5 r.1), none, none] [] (mC c ad dec r.2)) → Z l yX2_greatestWithin cX2_greatestWithin 8 (some (.object "GiftRing$Debt")) rmX2_greatestWithin 0 0 D M0 Q 0 0 6 [some (.ref (ad 64)), some (.int x1_), some (.int x2_), some (.int x3_), some (.int x4_), some (rv ad 5 o5_), some (.int x6_), none] [] (mC c ad dec σ) := by
  intro n
  induction n with
  | zero =>
    intro x1_ x2_ x3_ x4_ o5_ x6_ σ r hF hE
    exact absurd (show (none : Option (Option Nat × zS)) = some r from hF) (by simp)
  | succ n ih =>
    intro x1_ x2_ x3_ x4_ o5_ x6_ σ r hF hE
    replace hF : (if (σ 35 0) ≤ x6_ then some (o5_, σ) else (if zIn x6_ 200 = true then zl (zo (c 5) x6_) (fun (o3 : Option Nat) => (Option.bind o3 (fun (i4 : Nat) => ((c2_isOpenFor c i4 x1_ x2_ x3_ σ).bind (fun y5 => (if y5.1 = 0 then zl (x6_ + 1) (fun (v7 : Int32) => (c2_greatestWithin_L6 n c x1_ x2_ x3_ x4_ o5_ v7 y5.2)) else (if i4 < c 2 then (if x4_ < (y5.2 64 i4) then zl (x6_ + 1) (fun (v10 : Int32) => (c2_greatestWithin_L6 n c x1_ x2_ x3_ x4_ o5_ v10 y5.2)) else (zopt o5_ (zl (x6_ + 1) (fun (v12 : Int32) => (c2_greatestWithin_L6 n c x1_ x2_ x3_ x4_ (some i4) v12 y5.2))) (fun (i11 : Nat) => (if i11 < c 2 then (if (y5.2 64 i4) ≤ (y5.2 64 i11) then zl (x6_ + 1) (fun (v15 : Int32) => (c2_greatestWithin_L6 n c x1_ x2_ x3_ x4_ (some i11) v15 y5.2)) else zl (x6_ + 1) (fun (v16 : Int32) => (c2_greatestWithin_L6 n c x1_ x2_ x3_ x4_ (some i4) v16 y5.2))) else none)))) else none))))))) else none)) = some r := hF
    refine Z_iload (i := 6) (pc' := 8) dX2_greatestWithin_6 rfl rfl ?_
    refine Z_aload_n (i := 0) (pc' := 9) dX2_greatestWithin_8 rfl rfl rfl ?_
    refine Z_get (v := .int (σ 35 0)) (pc' := 12) 1 zinX2 rfl (by decide) lkX2_17 (eC_8 hG) rfl dX2_greatestWithin_9 rfl ?_
    refine Z_icmp_ge (tgt := 73) (pc' := 15) dX2_greatestWithin_12 (by decide) rfl (fun h1 => ?_) (fun h1 => ?_)
    · rw [if_pos h1] at hF
      cases hF
      exact Z_sub (vs' := [none, none, none, none, none, some (rv ad 5 o5_), none, none]) (zSb_of _ _ ⟨rfl, trivial⟩) hE
    · rw [if_neg h1] at hF
      refine Z_aload_n (i := 0) (pc' := 16) dX2_greatestWithin_15 rfl rfl rfl ?_
      refine Z_get (v := .ref (ad 72)) (pc' := 19) 0 zinX2 rfl (by decide) lkX2_11 (eC_8 hG) rfl dX2_greatestWithin_16 rfl ?_
      refine Z_iload (i := 6) (pc' := 21) dX2_greatestWithin_19 rfl rfl ?_
      obtain ⟨h2, hF⟩ := ck_of hF
      obtain ⟨o3, ho3, hF⟩ := zl_of hF
      refine Z_aaldC (pc' := 22) (o := o3) (eC_9 hG) (zIn_in h2) ho3 dX2_greatestWithin_21 rfl ?_
      refine Z_astoreR (v := rv ad 5 o3) (i := 7) (vs' := [some (.ref (ad 64)), some (.int x1_), some (.int x2_), some (.int x3_), some (.int x4_), some (rv ad 5 o5_), some (.int x6_), some (rv ad 5 o3)]) (pc' := 24) (rv_or _ _ _) dX2_greatestWithin_22 (by decide) rfl rfl ?_
      refine Z_aloadR (v := rv ad 5 o3) (i := 7) (pc' := 26) (rv_or _ _ _) dX2_greatestWithin_24 rfl rfl ?_
      refine Z_iload_n (i := 1) (pc' := 27) dX2_greatestWithin_26 rfl rfl rfl ?_
      refine Z_iload_n (i := 2) (pc' := 28) dX2_greatestWithin_27 rfl rfl rfl ?_
      refine Z_iload_n (i := 3) (pc' := 29) dX2_greatestWithin_28 rfl rfl rfl ?_
      obtain ⟨i4, hi4, hN⟩ := bd_of hF
      clear hF
      subst hi4
      have hF := hN
      clear hN
      obtain ⟨y5, hy5, hF⟩ := bd_of hF
      refine Z_callSi (As := [.ref (ad (8 * i4 + 5)), .int x1_, .int x2_, .int x3_]) (st := []) (pc' := 32) (k' := 0) (n' := 0) (qX2_isOpenFor l hG hy5) ckX2_isOpenFor ksX2_isOpenFor mlX2_25 rfl rfl (Nat.le_of_ble_eq_true rfl) ⟨Nat.le_of_ble_eq_true rfl, Nat.le_of_ble_eq_true rfl⟩ ⟨Nat.le_of_ble_eq_true rfl, Nat.le_of_ble_eq_true rfl⟩ dX2_greatestWithin_29 rfl rfl rfl ?_
      refine Z_if_eq (tgt := 67) (pc' := 35) dX2_greatestWithin_32 (by decide) rfl (fun h6 => ?_) (fun h6 => ?_)
      · rw [if_pos h6] at hF
        obtain ⟨v7, hv7, hF⟩ := zl_of hF
        refine Z_iinc (i := 6) (v := v7) (vs' := [some (.ref (ad 64)), some (.int x1_), some (.int x2_), some (.int x3_), some (.int x4_), some (rv ad 5 o5_), some (.int v7), some (.ref (ad (8 * i4 + 5)))]) (pc' := 70) dX2_greatestWithin_67 rfl (by rw [hv7]; rfl) (by decide) rfl rfl ?_
        refine Z_goto (tgt := 6) dX2_greatestWithin_70 (by decide) ?_
        exact Z_sub (vs' := [some (.ref (ad 64)), some (.int x1_), some (.int x2_), some (.int x3_), some (.int x4_), some (rv ad 5 o5_), some (.int v7), none]) (zSb_of _ _ ⟨rfl, ⟨rfl, ⟨rfl, ⟨rfl, ⟨rfl, ⟨rfl, ⟨rfl, trivial⟩⟩⟩⟩⟩⟩⟩) (ih x1_ x2_ x3_ x4_ o5_ v7 y5.2 _ hF hE)
      · rw [if_neg h6] at hF
        refine Z_aload (i := 7) (pc' := 37) dX2_greatestWithin_35 rfl rfl ?_
        obtain ⟨h8, hF⟩ := ck_of hF
        refine Z_get (v := .int (y5.2 64 i4)) (pc' := 40) 4 zinX1 rfl (by decide) lkX2_29 (eC_db hG h8) rfl dX2_greatestWithin_37 rfl ?_
        refine Z_iload (i := 4) (pc' := 42) dX2_greatestWithin_40 rfl rfl ?_
        refine Z_icmp_gt (tgt := 67) (pc' := 45) dX2_greatestWithin_42 (by decide) rfl (fun h9 => ?_) (fun h9 => ?_)
        · rw [if_pos h9] at hF
          obtain ⟨v10, hv10, hF⟩ := zl_of hF
          refine Z_iinc (i := 6) (v := v10) (vs' := [some (.ref (ad 64)), some (.int x1_), some (.int x2_), some (.int x3_), some (.int x4_), some (rv ad 5 o5_), some (.int v10), some (.ref (ad (8 * i4 + 5)))]) (pc' := 70) dX2_greatestWithin_67 rfl (by rw [hv10]; rfl) (by decide) rfl rfl ?_
          refine Z_goto (tgt := 6) dX2_greatestWithin_70 (by decide) ?_
          exact Z_sub (vs' := [some (.ref (ad 64)), some (.int x1_), some (.int x2_), some (.int x3_), some (.int x4_), some (rv ad 5 o5_), some (.int v10), none]) (zSb_of _ _ ⟨rfl, ⟨rfl, ⟨rfl, ⟨rfl, ⟨rfl, ⟨rfl, ⟨rfl, trivial⟩⟩⟩⟩⟩⟩⟩) (ih x1_ x2_ x3_ x4_ o5_ v10 y5.2 _ hF hE)
        · rw [if_neg h9] at hF
          refine Z_aloadR (v := rv ad 5 o5_) (i := 5) (pc' := 47) (rv_or _ _ _) dX2_greatestWithin_45 rfl rfl ?_
          cases o5_ with
          | none =>
            replace hF := zopt_n hF
            refine Z_ifnullN (tgt := 63) dX2_greatestWithin_47 (by decide) ?_
            refine Z_aload (i := 7) (pc' := 65) dX2_greatestWithin_63 rfl rfl ?_
            refine Z_astore (i := 5) (vs' := [some (.ref (ad 64)), some (.int x1_), some (.int x2_), some (.int x3_), some (.int x4_), some (.ref (ad (8 * i4 + 5))), some (.int x6_), some (.ref (ad (8 * i4 + 5)))]) (pc' := 67) dX2_greatestWithin_65 (by decide) rfl rfl ?_
            obtain ⟨v12, hv12, hF⟩ := zl_of hF
            refine Z_iinc (i := 6) (v := v12) (vs' := [some (.ref (ad 64)), some (.int x1_), some (.int x2_), some (.int x3_), some (.int x4_), some (.ref (ad (8 * i4 + 5))), some (.int v12), some (.ref (ad (8 * i4 + 5)))]) (pc' := 70) dX2_greatestWithin_67 rfl (by rw [hv12]; rfl) (by decide) rfl rfl ?_
            refine Z_goto (tgt := 6) dX2_greatestWithin_70 (by decide) ?_
            exact Z_sub (vs' := [some (.ref (ad 64)), some (.int x1_), some (.int x2_), some (.int x3_), some (.int x4_), some (.ref (ad (8 * i4 + 5))), some (.int v12), none]) (zSb_of _ _ ⟨rfl, ⟨rfl, ⟨rfl, ⟨rfl, ⟨rfl, ⟨rfl, ⟨rfl, trivial⟩⟩⟩⟩⟩⟩⟩) (ih x1_ x2_ x3_ x4_ (some i4) v12 y5.2 _ hF hE)
          | some i11 =>
            replace hF := zopt_s hF
            refine Z_ifnull (pc' := 50) dX2_greatestWithin_47 rfl ?_
            refine Z_aload (i := 7) (pc' := 52) dX2_greatestWithin_50 rfl rfl ?_
            refine Z_get (v := .int (y5.2 64 i4)) (pc' := 55) 4 zinX1 rfl (by decide) lkX2_29 (eC_db hG h8) rfl dX2_greatestWithin_52 rfl ?_
            refine Z_aload (i := 5) (pc' := 57) dX2_greatestWithin_55 rfl rfl ?_
            obtain ⟨h13, hF⟩ := ck_of hF
            refine Z_get (v := .int (y5.2 64 i11)) (pc' := 60) 4 zinX1 rfl (by decide) lkX2_29 (eC_db hG h13) rfl dX2_greatestWithin_57 rfl ?_
            refine Z_icmp_le (tgt := 67) (pc' := 63) dX2_greatestWithin_60 (by decide) rfl (fun h14 => ?_) (fun h14 => ?_)
            · rw [if_pos h14] at hF
              obtain ⟨v15, hv15, hF⟩ := zl_of hF
              refine Z_iinc (i := 6) (v := v15) (vs' := [some (.ref (ad 64)), some (.int x1_), some (.int x2_), some (.int x3_), some (.int x4_), some (.ref (ad (8 * i11 + 5))), some (.int v15), some (.ref (ad (8 * i4 + 5)))]) (pc' := 70) dX2_greatestWithin_67 rfl (by rw [hv15]; rfl) (by decide) rfl rfl ?_
              refine Z_goto (tgt := 6) dX2_greatestWithin_70 (by decide) ?_
              exact Z_sub (vs' := [some (.ref (ad 64)), some (.int x1_), some (.int x2_), some (.int x3_), some (.int x4_), some (.ref (ad (8 * i11 + 5))), some (.int v15), none]) (zSb_of _ _ ⟨rfl, ⟨rfl, ⟨rfl, ⟨rfl, ⟨rfl, ⟨rfl, ⟨rfl, trivial⟩⟩⟩⟩⟩⟩⟩) (ih x1_ x2_ x3_ x4_ (some i11) v15 y5.2 _ hF hE)
            · rw [if_neg h14] at hF
              refine Z_aload (i := 7) (pc' := 65) dX2_greatestWithin_63 rfl rfl ?_
              refine Z_astore (i := 5) (vs' := [some (.ref (ad 64)), some (.int x1_), some (.int x2_), some (.int x3_), some (.int x4_), some (.ref (ad (8 * i4 + 5))), some (.int x6_), some (.ref (ad (8 * i4 + 5)))]) (pc' := 67) dX2_greatestWithin_65 (by decide) rfl rfl ?_
              obtain ⟨v16, hv16, hF⟩ := zl_of hF
              refine Z_iinc (i := 6) (v := v16) (vs' := [some (.ref (ad 64)), some (.int x1_), some (.int x2_), some (.int x3_), some (.int x4_), some (.ref (ad (8 * i4 + 5))), some (.int v16), some (.ref (ad (8 * i4 + 5)))]) (pc' := 70) dX2_greatestWithin_67 rfl (by rw [hv16]; rfl) (by decide) rfl rfl ?_
              refine Z_goto (tgt := 6) dX2_greatestWithin_70 (by decide) ?_
              exact Z_sub (vs' := [some (.ref (ad 64)), some (.int x1_), some (.int x2_), some (.int x3_), some (.int x4_), some (.ref (ad (8 * i4 + 5))), some (.int v16), none]) (zSb_of _ _ ⟨rfl, ⟨rfl, ⟨rfl, ⟨rfl, ⟨rfl, ⟨rfl, ⟨rfl, trivial⟩⟩⟩⟩⟩⟩⟩) (ih x1_ x2_ x3_ x4_ (some i4) v16 y5.2 _ hF hE)
set_option maxHeartbeats 4000000 in
set_option maxRecDepth 100000 in
theorem qX2_greatestWithin (l : Launch) {c ad dec : Nat → Nat} (hG : cG c ad dec) {x1 : Int32} {x2 : Int32} {x3 : Int32} {x4 : Int32} {σ : zS} {w : Option Nat × zS} (hF : c2_greatestWithin c x1 x2 x3 x4 σ = some w) : zMet l yX2_greatestWithin cX2_greatestWithin 8 (some (.object "GiftRing$Debt")) rmX2_greatestWithin [.ref (ad 64), .int x1, .int x2, .int x3, .int x4] (mC c ad dec σ) (fun v M' => v = (some (rv ad 5 w.1)) ∧ M' = (mC c ad dec w.2)) := by
  refine zMet.ofZ (vs := [some (.ref (ad 64)), some (.int x1), some (.int x2), some (.int x3), some (.int x4), none, none, none]) (by decide) rfl (zCt_of _ ⟨rfl, ⟨rfl, ⟨rfl, ⟨rfl, ⟨rfl, trivial⟩⟩⟩⟩⟩) (Nat.le_of_ble_eq_true rfl) (fun D => ?_)
  unfold c2_greatestWithin at hF
  refine Z_null (pc' := 1) dX2_greatestWithin_0 rfl ?_
  refine Z_astoreN (i := 5) (vs' := [some (.ref (ad 64)), some (.int x1), some (.int x2), some (.int x3), some (.int x4), some (.null), none, none]) (pc' := 3) dX2_greatestWithin_1 (by decide) rfl rfl ?_
  refine Z_iconst (v := 0) (pc' := 4) dX2_greatestWithin_3 (by decide) rfl ?_
  refine Z_istoreE (i := 6) (x' := (0 : Int32)) (vs' := [some (.ref (ad 64)), some (.int x1), some (.int x2), some (.int x3), some (.int x4), some (.null), some (.int (0 : Int32)), none]) (pc' := 6) dX2_greatestWithin_4 rfl (by decide) rfl rfl ?_
  obtain ⟨r17, hr17, hF⟩ := bd_of hF
  refine Z_sub (vs' := [some (.ref (ad 64)), some (.int x1), some (.int x2), some (.int x3), some (.int x4), some (.null), some (.int (0 : Int32)), none]) (zSb_of _ _ ⟨rfl, ⟨rfl, ⟨rfl, ⟨rfl, ⟨rfl, ⟨rfl, ⟨rfl, trivial⟩⟩⟩⟩⟩⟩⟩) (qX2_greatestWithin_L6 hG zF x1 x2 x3 x4 none (0 : Int32) σ _ hr17 ?_)
  refine Z_aloadR (v := rv ad 5 r17.1) (i := 5) (pc' := 75) (rv_or _ _ _) dX2_greatestWithin_73 rfl rfl ?_
  cases hF
  exact Z_aret dX2_greatestWithin_75 rfl (Or.inl ⟨_, rfl⟩) (rv_or ad 5 r17.1) (Nat.le_refl _) (Nat.le_refl _) ⟨rfl, rfl⟩
abbrev rmX2_firstOpen : Room := { frames := 2, cells := 0, slots := 0, locals := 45 }
def c2_firstOpen_L3 (N : Nat) (c : Nat → Nat) (x1_ : Int32) (x2_ : Int32) (x3_ : Int32) (x4_ : Int32) (σ : zS) : Option ((Option Nat × zS) ⊕ (zS)) := match N with
  | 0 => none
  | n + 1 => (if (σ 35 0) ≤ x4_ then some (.inr (σ)) else (if zIn x4_ 200 = true then zl (zo (c 5) x4_) (fun (o3 : Option Nat) => (Option.bind o3 (fun (i4 : Nat) => ((c2_isOpenFor c i4 x1_ x2_ x3_ σ).bind (fun y5 => (if y5.1 = 0 then zl (x4_ + 1) (fun (v7 : Int32) => (c2_firstOpen_L3 n c x1_ x2_ x3_ v7 y5.2)) else zl (zo (c 5) x4_) (fun (o8 : Option Nat) => some (.inl (o8, y5.2))))))))) else none))
def c2_firstOpen (c : Nat → Nat) (x1 : Int32) (x2 : Int32) (x3 : Int32) (σ : zS) : Option (Option Nat × zS) := ((c2_firstOpen_L3 zF c x1 x2 x3 (0 : Int32) σ).bind (zsum (fun w => some w) (fun q10 => some (none, q10))))
set_option maxHeartbeats 4000000 in
set_option maxRecDepth 100000 in
theorem qX2_firstOpen_L3 {l : Launch} {D : va_G} {M0 : zM} {Q : Option Value → zM → Prop} {c ad dec : Nat → Nat} (hG : cG c ad dec) : ∀ (n : Nat) (x1_ : Int32) (x2_ : Int32) (x3_ : Int32) (x4_ : Int32) (σ : zS) (r : ((Option Nat × zS) ⊕ (zS))), c2_firstOpen_L3 n c x1_ x2_ x3_ x4_ σ = some r → ((∀ a, r = .inl a → Q (some (rv ad 5 a.1)) (mC c ad dec a.2))) → ((∀ q, r = .inr q → Z l yX2_firstOpen cX2_firstOpen 5 (some (.object "GiftRing$Debt")) rmX2_firstOpen 0 0 D M0 Q 0 0 42 [none, none, none, none, none] [] (mC c ad dec q))) → Z l yX2_firstOpen cX2_firstOpen 5 (some (.object "GiftRing$Debt")) rmX2_firstOpen 0 0 D M0 Q 0 0 3 [some (.ref (ad 64)), some (.int x1_), some (.int x2_), some (.int x3_), some (.int x4_)] [] (mC c ad dec σ) := by
  intro n
  induction n with
  | zero =>
    intro x1_ x2_ x3_ x4_ σ r hF hI hE
    exact absurd (show (none : Option ((Option Nat × zS) ⊕ (zS))) = some r from hF) (by simp)
  | succ n ih =>
    intro x1_ x2_ x3_ x4_ σ r hF hI hE
    replace hF : (if (σ 35 0) ≤ x4_ then some (.inr (σ)) else (if zIn x4_ 200 = true then zl (zo (c 5) x4_) (fun (o3 : Option Nat) => (Option.bind o3 (fun (i4 : Nat) => ((c2_isOpenFor c i4 x1_ x2_ x3_ σ).bind (fun y5 => (if y5.1 = 0 then zl (x4_ + 1) (fun (v7 : Int32) => (c2_firstOpen_L3 n c x1_ x2_ x3_ v7 y5.2)) else zl (zo (c 5) x4_) (fun (o8 : Option Nat) => some (.inl (o8, y5.2))))))))) else none)) = some r := hF
    refine Z_iload (i := 4) (pc' := 5) dX2_firstOpen_3 rfl rfl ?_
    refine Z_aload_n (i := 0) (pc' := 6) dX2_firstOpen_5 rfl rfl rfl ?_
    refine Z_get (v := .int (σ 35 0)) (pc' := 9) 1 zinX2 rfl (by decide) lkX2_17 (eC_8 hG) rfl dX2_firstOpen_6 rfl ?_
    refine Z_icmp_ge (tgt := 42) (pc' := 12) dX2_firstOpen_9 (by decide) rfl (fun h1 => ?_) (fun h1 => ?_)
    · rw [if_pos h1] at hF
      cases hF
      exact Z_sub (vs' := [none, none, none, none, none]) (zSb_of _ _ trivial) (hE _ rfl)
    · rw [if_neg h1] at hF
      refine Z_aload_n (i := 0) (pc' := 13) dX2_firstOpen_12 rfl rfl rfl ?_
      refine Z_get (v := .ref (ad 72)) (pc' := 16) 0 zinX2 rfl (by decide) lkX2_11 (eC_8 hG) rfl dX2_firstOpen_13 rfl ?_
      refine Z_iload (i := 4) (pc' := 18) dX2_firstOpen_16 rfl rfl ?_
      obtain ⟨h2, hF⟩ := ck_of hF
      obtain ⟨o3, ho3, hF⟩ := zl_of hF
      refine Z_aaldC (pc' := 19) (o := o3) (eC_9 hG) (zIn_in h2) ho3 dX2_firstOpen_18 rfl ?_
      refine Z_iload_n (i := 1) (pc' := 20) dX2_firstOpen_19 rfl rfl rfl ?_
      refine Z_iload_n (i := 2) (pc' := 21) dX2_firstOpen_20 rfl rfl rfl ?_
      refine Z_iload_n (i := 3) (pc' := 22) dX2_firstOpen_21 rfl rfl rfl ?_
      obtain ⟨i4, hi4, hN⟩ := bd_of hF
      clear hF
      subst hi4
      have hF := hN
      clear hN
      obtain ⟨y5, hy5, hF⟩ := bd_of hF
      refine Z_callSi (As := [.ref (ad (8 * i4 + 5)), .int x1_, .int x2_, .int x3_]) (st := []) (pc' := 25) (k' := 0) (n' := 0) (qX2_isOpenFor l hG hy5) ckX2_isOpenFor ksX2_isOpenFor mlX2_25 rfl rfl (Nat.le_of_ble_eq_true rfl) ⟨Nat.le_of_ble_eq_true rfl, Nat.le_of_ble_eq_true rfl⟩ ⟨Nat.le_of_ble_eq_true rfl, Nat.le_of_ble_eq_true rfl⟩ dX2_firstOpen_22 rfl rfl rfl ?_
      refine Z_if_eq (tgt := 36) (pc' := 28) dX2_firstOpen_25 (by decide) rfl (fun h6 => ?_) (fun h6 => ?_)
      · rw [if_pos h6] at hF
        obtain ⟨v7, hv7, hF⟩ := zl_of hF
        refine Z_iinc (i := 4) (v := v7) (vs' := [some (.ref (ad 64)), some (.int x1_), some (.int x2_), some (.int x3_), some (.int v7)]) (pc' := 39) dX2_firstOpen_36 rfl (by rw [hv7]; rfl) (by decide) rfl rfl ?_
        refine Z_goto (tgt := 3) dX2_firstOpen_39 (by decide) ?_
        exact Z_sub (vs' := [some (.ref (ad 64)), some (.int x1_), some (.int x2_), some (.int x3_), some (.int v7)]) (zSb_of _ _ ⟨rfl, ⟨rfl, ⟨rfl, ⟨rfl, ⟨rfl, trivial⟩⟩⟩⟩⟩) (ih x1_ x2_ x3_ v7 y5.2 _ hF hI hE)
      · rw [if_neg h6] at hF
        refine Z_aload_n (i := 0) (pc' := 29) dX2_firstOpen_28 rfl rfl rfl ?_
        refine Z_get (v := .ref (ad 72)) (pc' := 32) 0 zinX2 rfl (by decide) lkX2_11 (eC_8 hG) rfl dX2_firstOpen_29 rfl ?_
        refine Z_iload (i := 4) (pc' := 34) dX2_firstOpen_32 rfl rfl ?_
        obtain ⟨o8, ho8, hF⟩ := zl_of hF
        refine Z_aaldC (pc' := 35) (o := o8) (eC_9 hG) (zIn_in h2) ho8 dX2_firstOpen_34 rfl ?_
        cases hF
        exact Z_aret dX2_firstOpen_35 rfl (Or.inl ⟨_, rfl⟩) (rv_or ad 5 o8) (Nat.le_refl _) (Nat.le_refl _) (hI _ rfl)
set_option maxHeartbeats 4000000 in
set_option maxRecDepth 100000 in
theorem qX2_firstOpen (l : Launch) {c ad dec : Nat → Nat} (hG : cG c ad dec) {x1 : Int32} {x2 : Int32} {x3 : Int32} {σ : zS} {w : Option Nat × zS} (hF : c2_firstOpen c x1 x2 x3 σ = some w) : zMet l yX2_firstOpen cX2_firstOpen 5 (some (.object "GiftRing$Debt")) rmX2_firstOpen [.ref (ad 64), .int x1, .int x2, .int x3] (mC c ad dec σ) (fun v M' => v = (some (rv ad 5 w.1)) ∧ M' = (mC c ad dec w.2)) := by
  refine zMet.ofZ (vs := [some (.ref (ad 64)), some (.int x1), some (.int x2), some (.int x3), none]) (by decide) rfl (zCt_of _ ⟨rfl, ⟨rfl, ⟨rfl, ⟨rfl, trivial⟩⟩⟩⟩) (Nat.le_of_ble_eq_true rfl) (fun D => ?_)
  unfold c2_firstOpen at hF
  refine Z_iconst (v := 0) (pc' := 1) dX2_firstOpen_0 (by decide) rfl ?_
  refine Z_istoreE (i := 4) (x' := (0 : Int32)) (vs' := [some (.ref (ad 64)), some (.int x1), some (.int x2), some (.int x3), some (.int (0 : Int32))]) (pc' := 3) dX2_firstOpen_1 rfl (by decide) rfl rfl ?_
  obtain ⟨r9, hr9, hF⟩ := bd_of hF
  refine Z_sub (vs' := [some (.ref (ad 64)), some (.int x1), some (.int x2), some (.int x3), some (.int (0 : Int32))]) (zSb_of _ _ ⟨rfl, ⟨rfl, ⟨rfl, ⟨rfl, ⟨rfl, trivial⟩⟩⟩⟩⟩) (qX2_firstOpen_L3 hG zF x1 x2 x3 (0 : Int32) σ _ hr9 (fun w hw => ?_) (fun q10 hq10 => ?_))
  · rw [hw] at hF
    have hF := zsum_l hF
    cases hF
    exact ⟨rfl, rfl⟩
  · rw [hq10] at hF
    replace hF := zsum_r hF
    refine Z_null (pc' := 43) dX2_firstOpen_42 rfl ?_
    cases hF
    exact Z_aret dX2_firstOpen_43 rfl (Or.inl ⟨_, rfl⟩) (rv_or ad 5 none) (Nat.le_refl _) (Nat.le_refl _) ⟨rfl, rfl⟩
abbrev rmX2_haveQuarrel : Room := { frames := 2, cells := 0, slots := 0, locals := 41 }
def c2_haveQuarrel_L3 (N : Nat) (c : Nat → Nat) (x1_ : Int32) (x2_ : Int32) (x3_ : Int32) (x4_ : Int32) (σ : zS) : Option ((Int32 × zS) ⊕ (zS)) := match N with
  | 0 => none
  | n + 1 => (if (σ 35 0) ≤ x4_ then some (.inr (σ)) else (if zIn x4_ 200 = true then zl (zo (c 5) x4_) (fun (o3 : Option Nat) => (Option.bind o3 (fun (i4 : Nat) => (if i4 < c 2 then ((c1_isLateIn c i4 x3_ σ).bind (fun y5 => (if y5.1 = 0 then zl (x4_ + 1) (fun (v8 : Int32) => (c2_haveQuarrel_L3 n c x1_ x2_ x3_ v8 y5.2)) else ((c1_isBetween c i4 x1_ x2_ y5.2).bind (fun y9 => (if y9.1 = 0 then ((c1_isBetween c i4 x2_ x1_ y9.2).bind (fun y11 => (if y11.1 = 0 then zl (x4_ + 1) (fun (v13 : Int32) => (c2_haveQuarrel_L3 n c x1_ x2_ x3_ v13 y11.2)) else some (.inl ((1 : Int32), y11.2))))) else some (.inl ((1 : Int32), y9.2)))))))) else none)))) else none))
def c2_haveQuarrel (c : Nat → Nat) (x1 : Int32) (x2 : Int32) (x3 : Int32) (σ : zS) : Option (Int32 × zS) := ((c2_haveQuarrel_L3 zF c x1 x2 x3 (0 : Int32) σ).bind (zsum (fun w => some w) (fun q15 => some ((0 : Int32), q15))))
set_option maxHeartbeats 4000000 in
set_option maxRecDepth 100000 in
theorem qX2_haveQuarrel_L3 {l : Launch} {D : va_G} {M0 : zM} {Q : Option Value → zM → Prop} {c ad dec : Nat → Nat} (hG : cG c ad dec) : ∀ (n : Nat) (x1_ : Int32) (x2_ : Int32) (x3_ : Int32) (x4_ : Int32) (σ : zS) (r : ((Int32 × zS) ⊕ (zS))), c2_haveQuarrel_L3 n c x1_ x2_ x3_ x4_ σ = some r → ((∀ a, r = .inl a → Q (some (.int a.1)) (mC c ad dec a.2))) → ((∀ q, r = .inr q → Z l yX2_haveQuarrel cX2_haveQuarrel 6 (some .boolean) rmX2_haveQuarrel 0 0 D M0 Q 0 0 58 [none, none, none, none, none, none] [] (mC c ad dec q))) → Z l yX2_haveQuarrel cX2_haveQuarrel 6 (some .boolean) rmX2_haveQuarrel 0 0 D M0 Q 0 0 3 [some (.ref (ad 64)), some (.int x1_), some (.int x2_), some (.int x3_), some (.int x4_), none] [] (mC c ad dec σ) := by
  intro n
  induction n with
  | zero =>
    intro x1_ x2_ x3_ x4_ σ r hF hI hE
    exact absurd (show (none : Option ((Int32 × zS) ⊕ (zS))) = some r from hF) (by simp)
  | succ n ih =>
    intro x1_ x2_ x3_ x4_ σ r hF hI hE
    replace hF : (if (σ 35 0) ≤ x4_ then some (.inr (σ)) else (if zIn x4_ 200 = true then zl (zo (c 5) x4_) (fun (o3 : Option Nat) => (Option.bind o3 (fun (i4 : Nat) => (if i4 < c 2 then ((c1_isLateIn c i4 x3_ σ).bind (fun y5 => (if y5.1 = 0 then zl (x4_ + 1) (fun (v8 : Int32) => (c2_haveQuarrel_L3 n c x1_ x2_ x3_ v8 y5.2)) else ((c1_isBetween c i4 x1_ x2_ y5.2).bind (fun y9 => (if y9.1 = 0 then ((c1_isBetween c i4 x2_ x1_ y9.2).bind (fun y11 => (if y11.1 = 0 then zl (x4_ + 1) (fun (v13 : Int32) => (c2_haveQuarrel_L3 n c x1_ x2_ x3_ v13 y11.2)) else some (.inl ((1 : Int32), y11.2))))) else some (.inl ((1 : Int32), y9.2)))))))) else none)))) else none)) = some r := hF
    refine Z_iload (i := 4) (pc' := 5) dX2_haveQuarrel_3 rfl rfl ?_
    refine Z_aload_n (i := 0) (pc' := 6) dX2_haveQuarrel_5 rfl rfl rfl ?_
    refine Z_get (v := .int (σ 35 0)) (pc' := 9) 1 zinX2 rfl (by decide) lkX2_17 (eC_8 hG) rfl dX2_haveQuarrel_6 rfl ?_
    refine Z_icmp_ge (tgt := 58) (pc' := 12) dX2_haveQuarrel_9 (by decide) rfl (fun h1 => ?_) (fun h1 => ?_)
    · rw [if_pos h1] at hF
      cases hF
      exact Z_sub (vs' := [none, none, none, none, none, none]) (zSb_of _ _ trivial) (hE _ rfl)
    · rw [if_neg h1] at hF
      refine Z_aload_n (i := 0) (pc' := 13) dX2_haveQuarrel_12 rfl rfl rfl ?_
      refine Z_get (v := .ref (ad 72)) (pc' := 16) 0 zinX2 rfl (by decide) lkX2_11 (eC_8 hG) rfl dX2_haveQuarrel_13 rfl ?_
      refine Z_iload (i := 4) (pc' := 18) dX2_haveQuarrel_16 rfl rfl ?_
      obtain ⟨h2, hF⟩ := ck_of hF
      obtain ⟨o3, ho3, hF⟩ := zl_of hF
      refine Z_aaldC (pc' := 19) (o := o3) (eC_9 hG) (zIn_in h2) ho3 dX2_haveQuarrel_18 rfl ?_
      refine Z_astoreR (v := rv ad 5 o3) (i := 5) (vs' := [some (.ref (ad 64)), some (.int x1_), some (.int x2_), some (.int x3_), some (.int x4_), some (rv ad 5 o3)]) (pc' := 21) (rv_or _ _ _) dX2_haveQuarrel_19 (by decide) rfl rfl ?_
      refine Z_aloadR (v := rv ad 5 o3) (i := 5) (pc' := 23) (rv_or _ _ _) dX2_haveQuarrel_21 rfl rfl ?_
      refine Z_iload_n (i := 3) (pc' := 24) dX2_haveQuarrel_23 rfl rfl rfl ?_
      obtain ⟨i4, hi4, hN⟩ := bd_of hF
      clear hF
      subst hi4
      have hF := hN
      clear hN
      obtain ⟨h6, hF⟩ := ck_of hF
      obtain ⟨y5, hy5, hF⟩ := bd_of hF
      refine Z_callVi (As := [.int x3_]) (st := []) (pc' := 27) (k' := 0) (n' := 0) (qX1_isLateIn l hG hy5) ckX1_isLateIn kvX1_isLateIn mlX2_42 (eC_db hG h6) rfl rfl rfl (Nat.le_of_ble_eq_true rfl) ⟨Nat.le_of_ble_eq_true rfl, Nat.le_of_ble_eq_true rfl⟩ ⟨Nat.le_of_ble_eq_true rfl, Nat.le_of_ble_eq_true rfl⟩ dX2_haveQuarrel_24 rfl rfl rfl ?_
      refine Z_if_eq (tgt := 52) (pc' := 30) dX2_haveQuarrel_27 (by decide) rfl (fun h7 => ?_) (fun h7 => ?_)
      · rw [if_pos h7] at hF
        obtain ⟨v8, hv8, hF⟩ := zl_of hF
        refine Z_iinc (i := 4) (v := v8) (vs' := [some (.ref (ad 64)), some (.int x1_), some (.int x2_), some (.int x3_), some (.int v8), some (.ref (ad (8 * i4 + 5)))]) (pc' := 55) dX2_haveQuarrel_52 rfl (by rw [hv8]; rfl) (by decide) rfl rfl ?_
        refine Z_goto (tgt := 3) dX2_haveQuarrel_55 (by decide) ?_
        exact Z_sub (vs' := [some (.ref (ad 64)), some (.int x1_), some (.int x2_), some (.int x3_), some (.int v8), none]) (zSb_of _ _ ⟨rfl, ⟨rfl, ⟨rfl, ⟨rfl, ⟨rfl, trivial⟩⟩⟩⟩⟩) (ih x1_ x2_ x3_ v8 y5.2 _ hF hI hE)
      · rw [if_neg h7] at hF
        refine Z_aload (i := 5) (pc' := 32) dX2_haveQuarrel_30 rfl rfl ?_
        refine Z_iload_n (i := 1) (pc' := 33) dX2_haveQuarrel_32 rfl rfl rfl ?_
        refine Z_iload_n (i := 2) (pc' := 34) dX2_haveQuarrel_33 rfl rfl rfl ?_
        obtain ⟨y9, hy9, hF⟩ := bd_of hF
        refine Z_callVi (As := [.int x1_, .int x2_]) (st := []) (pc' := 37) (k' := 0) (n' := 0) (qX1_isBetween l hG hy9) ckX1_isBetween kvX1_isBetween mlX2_38 (eC_db hG h6) rfl rfl rfl (Nat.le_of_ble_eq_true rfl) ⟨Nat.le_of_ble_eq_true rfl, Nat.le_of_ble_eq_true rfl⟩ ⟨Nat.le_of_ble_eq_true rfl, Nat.le_of_ble_eq_true rfl⟩ dX2_haveQuarrel_34 rfl rfl rfl ?_
        refine Z_if_ne (tgt := 50) (pc' := 40) dX2_haveQuarrel_37 (by decide) rfl (fun h10 => ?_) (fun h10 => ?_)
        · rw [if_neg h10] at hF
          refine Z_iconst (v := 1) (pc' := 51) dX2_haveQuarrel_50 (by decide) rfl ?_
          cases hF
          exact Z_iret (ty := .boolean) (w := (1 : Int32)) dX2_haveQuarrel_51 rfl rfl (Nat.le_refl _) (Nat.le_refl _) (hI _ rfl)
        · rw [if_pos h10] at hF
          refine Z_aload (i := 5) (pc' := 42) dX2_haveQuarrel_40 rfl rfl ?_
          refine Z_iload_n (i := 2) (pc' := 43) dX2_haveQuarrel_42 rfl rfl rfl ?_
          refine Z_iload_n (i := 1) (pc' := 44) dX2_haveQuarrel_43 rfl rfl rfl ?_
          obtain ⟨y11, hy11, hF⟩ := bd_of hF
          refine Z_callVi (As := [.int x2_, .int x1_]) (st := []) (pc' := 47) (k' := 0) (n' := 0) (qX1_isBetween l hG hy11) ckX1_isBetween kvX1_isBetween mlX2_38 (eC_db hG h6) rfl rfl rfl (Nat.le_of_ble_eq_true rfl) ⟨Nat.le_of_ble_eq_true rfl, Nat.le_of_ble_eq_true rfl⟩ ⟨Nat.le_of_ble_eq_true rfl, Nat.le_of_ble_eq_true rfl⟩ dX2_haveQuarrel_44 rfl rfl rfl ?_
          refine Z_if_eq (tgt := 52) (pc' := 50) dX2_haveQuarrel_47 (by decide) rfl (fun h12 => ?_) (fun h12 => ?_)
          · rw [if_pos h12] at hF
            obtain ⟨v13, hv13, hF⟩ := zl_of hF
            refine Z_iinc (i := 4) (v := v13) (vs' := [some (.ref (ad 64)), some (.int x1_), some (.int x2_), some (.int x3_), some (.int v13), some (.ref (ad (8 * i4 + 5)))]) (pc' := 55) dX2_haveQuarrel_52 rfl (by rw [hv13]; rfl) (by decide) rfl rfl ?_
            refine Z_goto (tgt := 3) dX2_haveQuarrel_55 (by decide) ?_
            exact Z_sub (vs' := [some (.ref (ad 64)), some (.int x1_), some (.int x2_), some (.int x3_), some (.int v13), none]) (zSb_of _ _ ⟨rfl, ⟨rfl, ⟨rfl, ⟨rfl, ⟨rfl, trivial⟩⟩⟩⟩⟩) (ih x1_ x2_ x3_ v13 y11.2 _ hF hI hE)
          · rw [if_neg h12] at hF
            refine Z_iconst (v := 1) (pc' := 51) dX2_haveQuarrel_50 (by decide) rfl ?_
            cases hF
            exact Z_iret (ty := .boolean) (w := (1 : Int32)) dX2_haveQuarrel_51 rfl rfl (Nat.le_refl _) (Nat.le_refl _) (hI _ rfl)
set_option maxHeartbeats 4000000 in
set_option maxRecDepth 100000 in
theorem qX2_haveQuarrel (l : Launch) {c ad dec : Nat → Nat} (hG : cG c ad dec) {x1 : Int32} {x2 : Int32} {x3 : Int32} {σ : zS} {w : Int32 × zS} (hF : c2_haveQuarrel c x1 x2 x3 σ = some w) : zMet l yX2_haveQuarrel cX2_haveQuarrel 6 (some .boolean) rmX2_haveQuarrel [.ref (ad 64), .int x1, .int x2, .int x3] (mC c ad dec σ) (fun v M' => v = (some (.int w.1)) ∧ M' = (mC c ad dec w.2)) := by
  refine zMet.ofZ (vs := [some (.ref (ad 64)), some (.int x1), some (.int x2), some (.int x3), none, none]) (by decide) rfl (zCt_of _ ⟨rfl, ⟨rfl, ⟨rfl, ⟨rfl, trivial⟩⟩⟩⟩) (Nat.le_of_ble_eq_true rfl) (fun D => ?_)
  unfold c2_haveQuarrel at hF
  refine Z_iconst (v := 0) (pc' := 1) dX2_haveQuarrel_0 (by decide) rfl ?_
  refine Z_istoreE (i := 4) (x' := (0 : Int32)) (vs' := [some (.ref (ad 64)), some (.int x1), some (.int x2), some (.int x3), some (.int (0 : Int32)), none]) (pc' := 3) dX2_haveQuarrel_1 rfl (by decide) rfl rfl ?_
  obtain ⟨r14, hr14, hF⟩ := bd_of hF
  refine Z_sub (vs' := [some (.ref (ad 64)), some (.int x1), some (.int x2), some (.int x3), some (.int (0 : Int32)), none]) (zSb_of _ _ ⟨rfl, ⟨rfl, ⟨rfl, ⟨rfl, ⟨rfl, trivial⟩⟩⟩⟩⟩) (qX2_haveQuarrel_L3 hG zF x1 x2 x3 (0 : Int32) σ _ hr14 (fun w hw => ?_) (fun q15 hq15 => ?_))
  · rw [hw] at hF
    have hF := zsum_l hF
    cases hF
    exact ⟨rfl, rfl⟩
  · rw [hq15] at hF
    replace hF := zsum_r hF
    refine Z_iconst (v := 0) (pc' := 59) dX2_haveQuarrel_58 (by decide) rfl ?_
    cases hF
    exact Z_iret (ty := .boolean) (w := (0 : Int32)) dX2_haveQuarrel_59 rfl rfl (Nat.le_refl _) (Nat.le_refl _) ⟨rfl, rfl⟩
abbrev rmX2_pass : Room := { frames := 0, cells := 0, slots := 0, locals := 0 }
def c2_pass_L2 (N : Nat) (c : Nat → Nat) (x1_ : Int32) (x2_ : Int32) (x3_ : Int32) (σ : zS) : Option (zS) := match N with
  | 0 => none
  | n + 1 => (if (σ 35 0) ≤ x3_ then some (σ) else (if zIn x3_ 200 = true then zl (zo (c 5) x3_) (fun (o3 : Option Nat) => (Option.bind o3 (fun (i4 : Nat) => (if i4 < c 2 then (if (σ 60 i4) = x1_ then zl (zs σ 60 i4 x2_) (fun (σ11 : zS) => (if (σ11 61 i4) = x1_ then zl (zs σ11 61 i4 x2_) (fun (σ14 : zS) => zl (x3_ + 1) (fun (v15 : Int32) => (c2_pass_L2 n c x1_ x2_ v15 σ14))) else zl (x3_ + 1) (fun (v13 : Int32) => (c2_pass_L2 n c x1_ x2_ v13 σ11)))) else (if (σ 61 i4) = x1_ then zl (zs σ 61 i4 x2_) (fun (σ9 : zS) => zl (x3_ + 1) (fun (v10 : Int32) => (c2_pass_L2 n c x1_ x2_ v10 σ9))) else zl (x3_ + 1) (fun (v8 : Int32) => (c2_pass_L2 n c x1_ x2_ v8 σ)))) else none)))) else none))
def c2_pass (c : Nat → Nat) (x1 : Int32) (x2 : Int32) (σ : zS) : Option (Int32 × zS) := ((c2_pass_L2 zF c x1 x2 (0 : Int32) σ).bind (fun r16 => some (0, r16)))
set_option maxHeartbeats 4000000 in
set_option maxRecDepth 100000 in
theorem qX2_pass_L2 {l : Launch} {D : va_G} {M0 : zM} {Q : Option Value → zM → Prop} {c ad dec : Nat → Nat} (hG : cG c ad dec) : ∀ (n : Nat) (x1_ : Int32) (x2_ : Int32) (x3_ : Int32) (σ : zS) (r : (zS)), c2_pass_L2 n c x1_ x2_ x3_ σ = some r → (Z l yX2_pass cX2_pass 5 none rmX2_pass 0 0 D M0 Q 0 0 54 [none, none, none, none, none] [] (mC c ad dec r)) → Z l yX2_pass cX2_pass 5 none rmX2_pass 0 0 D M0 Q 0 0 2 [some (.ref (ad 64)), some (.int x1_), some (.int x2_), some (.int x3_), none] [] (mC c ad dec σ) := by
  intro n
  induction n with
  | zero =>
    intro x1_ x2_ x3_ σ r hF hE
    exact absurd (show (none : Option (zS)) = some r from hF) (by simp)
  | succ n ih =>
    intro x1_ x2_ x3_ σ r hF hE
    replace hF : (if (σ 35 0) ≤ x3_ then some (σ) else (if zIn x3_ 200 = true then zl (zo (c 5) x3_) (fun (o3 : Option Nat) => (Option.bind o3 (fun (i4 : Nat) => (if i4 < c 2 then (if (σ 60 i4) = x1_ then zl (zs σ 60 i4 x2_) (fun (σ11 : zS) => (if (σ11 61 i4) = x1_ then zl (zs σ11 61 i4 x2_) (fun (σ14 : zS) => zl (x3_ + 1) (fun (v15 : Int32) => (c2_pass_L2 n c x1_ x2_ v15 σ14))) else zl (x3_ + 1) (fun (v13 : Int32) => (c2_pass_L2 n c x1_ x2_ v13 σ11)))) else (if (σ 61 i4) = x1_ then zl (zs σ 61 i4 x2_) (fun (σ9 : zS) => zl (x3_ + 1) (fun (v10 : Int32) => (c2_pass_L2 n c x1_ x2_ v10 σ9))) else zl (x3_ + 1) (fun (v8 : Int32) => (c2_pass_L2 n c x1_ x2_ v8 σ)))) else none)))) else none)) = some r := hF
    refine Z_iload_n (i := 3) (pc' := 3) dX2_pass_2 rfl rfl rfl ?_
    refine Z_aload_n (i := 0) (pc' := 4) dX2_pass_3 rfl rfl rfl ?_
    refine Z_get (v := .int (σ 35 0)) (pc' := 7) 1 zinX2 rfl (by decide) lkX2_17 (eC_8 hG) rfl dX2_pass_4 rfl ?_
    refine Z_icmp_ge (tgt := 54) (pc' := 10) dX2_pass_7 (by decide) rfl (fun h1 => ?_) (fun h1 => ?_)
    · rw [if_pos h1] at hF
      cases hF
      exact Z_sub (vs' := [none, none, none, none, none]) (zSb_of _ _ trivial) hE
    · rw [if_neg h1] at hF
      refine Z_aload_n (i := 0) (pc' := 11) dX2_pass_10 rfl rfl rfl ?_
      refine Z_get (v := .ref (ad 72)) (pc' := 14) 0 zinX2 rfl (by decide) lkX2_11 (eC_8 hG) rfl dX2_pass_11 rfl ?_
      refine Z_iload_n (i := 3) (pc' := 15) dX2_pass_14 rfl rfl rfl ?_
      obtain ⟨h2, hF⟩ := ck_of hF
      obtain ⟨o3, ho3, hF⟩ := zl_of hF
      refine Z_aaldC (pc' := 16) (o := o3) (eC_9 hG) (zIn_in h2) ho3 dX2_pass_15 rfl ?_
      refine Z_astoreR (v := rv ad 5 o3) (i := 4) (vs' := [some (.ref (ad 64)), some (.int x1_), some (.int x2_), some (.int x3_), some (rv ad 5 o3)]) (pc' := 18) (rv_or _ _ _) dX2_pass_16 (by decide) rfl rfl ?_
      refine Z_aloadR (v := rv ad 5 o3) (i := 4) (pc' := 20) (rv_or _ _ _) dX2_pass_18 rfl rfl ?_
      obtain ⟨i4, hi4, hN⟩ := bd_of hF
      clear hF
      subst hi4
      have hF := hN
      clear hN
      obtain ⟨h5, hF⟩ := ck_of hF
      refine Z_get (v := .int (σ 60 i4)) (pc' := 23) 0 zinX1 rfl (by decide) lkX2_46 (eC_db hG h5) rfl dX2_pass_20 rfl ?_
      refine Z_iload_n (i := 1) (pc' := 24) dX2_pass_23 rfl rfl rfl ?_
      refine Z_icmp_ne (tgt := 33) (pc' := 27) dX2_pass_24 (by decide) rfl (fun h6 => ?_) (fun h6 => ?_)
      · rw [if_neg h6] at hF
        refine Z_aload (i := 4) (pc' := 35) dX2_pass_33 rfl rfl ?_
        refine Z_get (v := .int (σ 61 i4)) (pc' := 38) 1 zinX1 rfl (by decide) lkX2_49 (eC_db hG h5) rfl dX2_pass_35 rfl ?_
        refine Z_iload_n (i := 1) (pc' := 39) dX2_pass_38 rfl rfl rfl ?_
        refine Z_icmp_ne (tgt := 48) (pc' := 42) dX2_pass_39 (by decide) rfl (fun h7 => ?_) (fun h7 => ?_)
        · rw [if_neg h7] at hF
          obtain ⟨v8, hv8, hF⟩ := zl_of hF
          refine Z_iinc (i := 3) (v := v8) (vs' := [some (.ref (ad 64)), some (.int x1_), some (.int x2_), some (.int v8), some (.ref (ad (8 * i4 + 5)))]) (pc' := 51) dX2_pass_48 rfl (by rw [hv8]; rfl) (by decide) rfl rfl ?_
          refine Z_goto (tgt := 2) dX2_pass_51 (by decide) ?_
          exact Z_sub (vs' := [some (.ref (ad 64)), some (.int x1_), some (.int x2_), some (.int v8), none]) (zSb_of _ _ ⟨rfl, ⟨rfl, ⟨rfl, ⟨rfl, trivial⟩⟩⟩⟩) (ih x1_ x2_ v8 σ _ hF hE)
        · rw [if_pos h7] at hF
          refine Z_aload (i := 4) (pc' := 44) dX2_pass_42 rfl rfl ?_
          refine Z_iload_n (i := 2) (pc' := 45) dX2_pass_44 rfl rfl rfl ?_
          obtain ⟨σ9, hσ9, hF⟩ := zl_of hF
          refine Z_put (pc' := 48) 1 zinX1 tyX1_ok nmX1 rfl (by decide) lkX2_49 rfl (eC_db hG h5) rfl rfl rfl (Nat.le_of_ble_eq_true rfl) rfl dX2_pass_45 rfl ?_
          refine Z_mem (pdb_61 hG h5 hσ9) ?_
          obtain ⟨v10, hv10, hF⟩ := zl_of hF
          refine Z_iinc (i := 3) (v := v10) (vs' := [some (.ref (ad 64)), some (.int x1_), some (.int x2_), some (.int v10), some (.ref (ad (8 * i4 + 5)))]) (pc' := 51) dX2_pass_48 rfl (by rw [hv10]; rfl) (by decide) rfl rfl ?_
          refine Z_goto (tgt := 2) dX2_pass_51 (by decide) ?_
          exact Z_sub (vs' := [some (.ref (ad 64)), some (.int x1_), some (.int x2_), some (.int v10), none]) (zSb_of _ _ ⟨rfl, ⟨rfl, ⟨rfl, ⟨rfl, trivial⟩⟩⟩⟩) (ih x1_ x2_ v10 σ9 _ hF hE)
      · rw [if_pos h6] at hF
        refine Z_aload (i := 4) (pc' := 29) dX2_pass_27 rfl rfl ?_
        refine Z_iload_n (i := 2) (pc' := 30) dX2_pass_29 rfl rfl rfl ?_
        obtain ⟨σ11, hσ11, hF⟩ := zl_of hF
        refine Z_put (pc' := 33) 0 zinX1 tyX1_ok nmX1 rfl (by decide) lkX2_46 rfl (eC_db hG h5) rfl rfl rfl (Nat.le_of_ble_eq_true rfl) rfl dX2_pass_30 rfl ?_
        refine Z_mem (pdb_60 hG h5 hσ11) ?_
        refine Z_aload (i := 4) (pc' := 35) dX2_pass_33 rfl rfl ?_
        refine Z_get (v := .int (σ11 61 i4)) (pc' := 38) 1 zinX1 rfl (by decide) lkX2_49 (eC_db hG h5) rfl dX2_pass_35 rfl ?_
        refine Z_iload_n (i := 1) (pc' := 39) dX2_pass_38 rfl rfl rfl ?_
        refine Z_icmp_ne (tgt := 48) (pc' := 42) dX2_pass_39 (by decide) rfl (fun h12 => ?_) (fun h12 => ?_)
        · rw [if_neg h12] at hF
          obtain ⟨v13, hv13, hF⟩ := zl_of hF
          refine Z_iinc (i := 3) (v := v13) (vs' := [some (.ref (ad 64)), some (.int x1_), some (.int x2_), some (.int v13), some (.ref (ad (8 * i4 + 5)))]) (pc' := 51) dX2_pass_48 rfl (by rw [hv13]; rfl) (by decide) rfl rfl ?_
          refine Z_goto (tgt := 2) dX2_pass_51 (by decide) ?_
          exact Z_sub (vs' := [some (.ref (ad 64)), some (.int x1_), some (.int x2_), some (.int v13), none]) (zSb_of _ _ ⟨rfl, ⟨rfl, ⟨rfl, ⟨rfl, trivial⟩⟩⟩⟩) (ih x1_ x2_ v13 σ11 _ hF hE)
        · rw [if_pos h12] at hF
          refine Z_aload (i := 4) (pc' := 44) dX2_pass_42 rfl rfl ?_
          refine Z_iload_n (i := 2) (pc' := 45) dX2_pass_44 rfl rfl rfl ?_
          obtain ⟨σ14, hσ14, hF⟩ := zl_of hF
          refine Z_put (pc' := 48) 1 zinX1 tyX1_ok nmX1 rfl (by decide) lkX2_49 rfl (eC_db hG h5) rfl rfl rfl (Nat.le_of_ble_eq_true rfl) rfl dX2_pass_45 rfl ?_
          refine Z_mem (pdb_61 hG h5 hσ14) ?_
          obtain ⟨v15, hv15, hF⟩ := zl_of hF
          refine Z_iinc (i := 3) (v := v15) (vs' := [some (.ref (ad 64)), some (.int x1_), some (.int x2_), some (.int v15), some (.ref (ad (8 * i4 + 5)))]) (pc' := 51) dX2_pass_48 rfl (by rw [hv15]; rfl) (by decide) rfl rfl ?_
          refine Z_goto (tgt := 2) dX2_pass_51 (by decide) ?_
          exact Z_sub (vs' := [some (.ref (ad 64)), some (.int x1_), some (.int x2_), some (.int v15), none]) (zSb_of _ _ ⟨rfl, ⟨rfl, ⟨rfl, ⟨rfl, trivial⟩⟩⟩⟩) (ih x1_ x2_ v15 σ14 _ hF hE)
set_option maxHeartbeats 4000000 in
set_option maxRecDepth 100000 in
theorem qX2_pass (l : Launch) {c ad dec : Nat → Nat} (hG : cG c ad dec) {x1 : Int32} {x2 : Int32} {σ : zS} {w : Int32 × zS} (hF : c2_pass c x1 x2 σ = some w) : zMet l yX2_pass cX2_pass 5 none rmX2_pass [.ref (ad 64), .int x1, .int x2] (mC c ad dec σ) (fun v M' => v = none ∧ M' = (mC c ad dec w.2)) := by
  refine zMet.ofZ (vs := [some (.ref (ad 64)), some (.int x1), some (.int x2), none, none]) (by decide) rfl (zCt_of _ ⟨rfl, ⟨rfl, ⟨rfl, trivial⟩⟩⟩) (Nat.le_of_ble_eq_true rfl) (fun D => ?_)
  unfold c2_pass at hF
  refine Z_iconst (v := 0) (pc' := 1) dX2_pass_0 (by decide) rfl ?_
  refine Z_istore_nE (i := 3) (x' := (0 : Int32)) (vs' := [some (.ref (ad 64)), some (.int x1), some (.int x2), some (.int (0 : Int32)), none]) (pc' := 2) dX2_pass_1 rfl rfl (by decide) rfl rfl ?_
  obtain ⟨r16, hr16, hF⟩ := bd_of hF
  refine Z_sub (vs' := [some (.ref (ad 64)), some (.int x1), some (.int x2), some (.int (0 : Int32)), none]) (zSb_of _ _ ⟨rfl, ⟨rfl, ⟨rfl, ⟨rfl, trivial⟩⟩⟩⟩) (qX2_pass_L2 hG zF x1 x2 (0 : Int32) σ _ hr16 ?_)
  cases hF
  exact Z_vret dX2_pass_54 rfl (Nat.le_refl _) (Nat.le_refl _) ⟨rfl, rfl⟩
abbrev rmX2_openOnes : Room := { frames := 1, cells := 0, slots := 0, locals := 20 }
def c2_openOnes_L5 (N : Nat) (c : Nat → Nat) (x1_ : Int32) (x2_ : Int32) (x3_ : Int32) (x4_ : Int32) (σ : zS) : Option (Int32 × zS) := match N with
  | 0 => none
  | n + 1 => (if (σ 35 0) ≤ x4_ then some (x3_, σ) else (if zIn x4_ 200 = true then zl (zo (c 5) x4_) (fun (o3 : Option Nat) => (Option.bind o3 (fun (i4 : Nat) => (if i4 < c 2 then ((c1_isOpen c i4 σ).bind (fun y5 => (if y5.1 = 0 then zl (x4_ + 1) (fun (v8 : Int32) => (c2_openOnes_L5 n c x1_ x2_ x3_ v8 y5.2)) else (if x1_ = (-1 : Int32) then (if x2_ = (-1 : Int32) then zl (x3_ + 1) (fun (v11 : Int32) => zl (x4_ + 1) (fun (v12 : Int32) => (c2_openOnes_L5 n c x1_ x2_ v11 v12 y5.2))) else (if (y5.2 61 i4) = x2_ then zl (x3_ + 1) (fun (v15 : Int32) => zl (x4_ + 1) (fun (v16 : Int32) => (c2_openOnes_L5 n c x1_ x2_ v15 v16 y5.2))) else zl (x4_ + 1) (fun (v14 : Int32) => (c2_openOnes_L5 n c x1_ x2_ x3_ v14 y5.2)))) else (if (y5.2 60 i4) = x1_ then (if x2_ = (-1 : Int32) then zl (x3_ + 1) (fun (v20 : Int32) => zl (x4_ + 1) (fun (v21 : Int32) => (c2_openOnes_L5 n c x1_ x2_ v20 v21 y5.2))) else (if (y5.2 61 i4) = x2_ then zl (x3_ + 1) (fun (v24 : Int32) => zl (x4_ + 1) (fun (v25 : Int32) => (c2_openOnes_L5 n c x1_ x2_ v24 v25 y5.2))) else zl (x4_ + 1) (fun (v23 : Int32) => (c2_openOnes_L5 n c x1_ x2_ x3_ v23 y5.2)))) else zl (x4_ + 1) (fun (v18 : Int32) => (c2_openOnes_L5 n c x1_ x2_ x3_ v18 y5.2))))))) else none)))) else none))
def c2_openOnes (c : Nat → Nat) (x1 : Int32) (x2 : Int32) (σ : zS) : Option (Int32 × zS) := ((c2_openOnes_L5 zF c x1 x2 (0 : Int32) (0 : Int32) σ).bind (fun r26 => some (r26.1, r26.2)))
set_option maxHeartbeats 4000000 in
set_option maxRecDepth 100000 in
theorem qX2_openOnes_L5 {l : Launch} {D : va_G} {M0 : zM} {Q : Option Value → zM → Prop} {c ad dec : Nat → Nat} (hG : cG c ad dec) : ∀ (n : Nat) (x1_ : Int32) (x2_ : Int32) (x3_ : Int32) (x4_ : Int32) (σ : zS) (r : (Int32 × zS)), c2_openOnes_L5 n c x1_ x2_ x3_ x4_ σ = some r → (Z l yX2_openOnes cX2_openOnes 6 (some .int) rmX2_openOnes 0 0 D M0 Q 0 0 68 [none, none, none, some (.int r.1), none, none] [] (mC c ad dec r.2)) → Z l yX2_openOnes cX2_openOnes 6 (some .int) rmX2_openOnes 0 0 D M0 Q 0 0 5 [some (.ref (ad 64)), some (.int x1_), some (.int x2_), some (.int x3_), some (.int x4_), none] [] (mC c ad dec σ) := by
  intro n
  induction n with
  | zero =>
    intro x1_ x2_ x3_ x4_ σ r hF hE
    exact absurd (show (none : Option (Int32 × zS)) = some r from hF) (by simp)
  | succ n ih =>
    intro x1_ x2_ x3_ x4_ σ r hF hE
    replace hF : (if (σ 35 0) ≤ x4_ then some (x3_, σ) else (if zIn x4_ 200 = true then zl (zo (c 5) x4_) (fun (o3 : Option Nat) => (Option.bind o3 (fun (i4 : Nat) => (if i4 < c 2 then ((c1_isOpen c i4 σ).bind (fun y5 => (if y5.1 = 0 then zl (x4_ + 1) (fun (v8 : Int32) => (c2_openOnes_L5 n c x1_ x2_ x3_ v8 y5.2)) else (if x1_ = (-1 : Int32) then (if x2_ = (-1 : Int32) then zl (x3_ + 1) (fun (v11 : Int32) => zl (x4_ + 1) (fun (v12 : Int32) => (c2_openOnes_L5 n c x1_ x2_ v11 v12 y5.2))) else (if (y5.2 61 i4) = x2_ then zl (x3_ + 1) (fun (v15 : Int32) => zl (x4_ + 1) (fun (v16 : Int32) => (c2_openOnes_L5 n c x1_ x2_ v15 v16 y5.2))) else zl (x4_ + 1) (fun (v14 : Int32) => (c2_openOnes_L5 n c x1_ x2_ x3_ v14 y5.2)))) else (if (y5.2 60 i4) = x1_ then (if x2_ = (-1 : Int32) then zl (x3_ + 1) (fun (v20 : Int32) => zl (x4_ + 1) (fun (v21 : Int32) => (c2_openOnes_L5 n c x1_ x2_ v20 v21 y5.2))) else (if (y5.2 61 i4) = x2_ then zl (x3_ + 1) (fun (v24 : Int32) => zl (x4_ + 1) (fun (v25 : Int32) => (c2_openOnes_L5 n c x1_ x2_ v24 v25 y5.2))) else zl (x4_ + 1) (fun (v23 : Int32) => (c2_openOnes_L5 n c x1_ x2_ x3_ v23 y5.2)))) else zl (x4_ + 1) (fun (v18 : Int32) => (c2_openOnes_L5 n c x1_ x2_ x3_ v18 y5.2))))))) else none)))) else none)) = some r := hF
    refine Z_iload (i := 4) (pc' := 7) dX2_openOnes_5 rfl rfl ?_
    refine Z_aload_n (i := 0) (pc' := 8) dX2_openOnes_7 rfl rfl rfl ?_
    refine Z_get (v := .int (σ 35 0)) (pc' := 11) 1 zinX2 rfl (by decide) lkX2_17 (eC_8 hG) rfl dX2_openOnes_8 rfl ?_
    refine Z_icmp_ge (tgt := 68) (pc' := 14) dX2_openOnes_11 (by decide) rfl (fun h1 => ?_) (fun h1 => ?_)
    · rw [if_pos h1] at hF
      cases hF
      exact Z_sub (vs' := [none, none, none, some (.int x3_), none, none]) (zSb_of _ _ ⟨rfl, trivial⟩) hE
    · rw [if_neg h1] at hF
      refine Z_aload_n (i := 0) (pc' := 15) dX2_openOnes_14 rfl rfl rfl ?_
      refine Z_get (v := .ref (ad 72)) (pc' := 18) 0 zinX2 rfl (by decide) lkX2_11 (eC_8 hG) rfl dX2_openOnes_15 rfl ?_
      refine Z_iload (i := 4) (pc' := 20) dX2_openOnes_18 rfl rfl ?_
      obtain ⟨h2, hF⟩ := ck_of hF
      obtain ⟨o3, ho3, hF⟩ := zl_of hF
      refine Z_aaldC (pc' := 21) (o := o3) (eC_9 hG) (zIn_in h2) ho3 dX2_openOnes_20 rfl ?_
      refine Z_astoreR (v := rv ad 5 o3) (i := 5) (vs' := [some (.ref (ad 64)), some (.int x1_), some (.int x2_), some (.int x3_), some (.int x4_), some (rv ad 5 o3)]) (pc' := 23) (rv_or _ _ _) dX2_openOnes_21 (by decide) rfl rfl ?_
      refine Z_aloadR (v := rv ad 5 o3) (i := 5) (pc' := 25) (rv_or _ _ _) dX2_openOnes_23 rfl rfl ?_
      obtain ⟨i4, hi4, hN⟩ := bd_of hF
      clear hF
      subst hi4
      have hF := hN
      clear hN
      obtain ⟨h6, hF⟩ := ck_of hF
      obtain ⟨y5, hy5, hF⟩ := bd_of hF
      refine Z_callVi (As := []) (st := []) (pc' := 28) (k' := 0) (n' := 0) (qX1_isOpen l hG hy5) ckX1_isOpen kvX1_isOpen mlX2_32 (eC_db hG h6) rfl rfl rfl (Nat.le_of_ble_eq_true rfl) ⟨Nat.le_of_ble_eq_true rfl, Nat.le_of_ble_eq_true rfl⟩ ⟨Nat.le_of_ble_eq_true rfl, Nat.le_of_ble_eq_true rfl⟩ dX2_openOnes_25 rfl rfl rfl ?_
      refine Z_if_eq (tgt := 62) (pc' := 31) dX2_openOnes_28 (by decide) rfl (fun h7 => ?_) (fun h7 => ?_)
      · rw [if_pos h7] at hF
        obtain ⟨v8, hv8, hF⟩ := zl_of hF
        refine Z_iinc (i := 4) (v := v8) (vs' := [some (.ref (ad 64)), some (.int x1_), some (.int x2_), some (.int x3_), some (.int v8), some (.ref (ad (8 * i4 + 5)))]) (pc' := 65) dX2_openOnes_62 rfl (by rw [hv8]; rfl) (by decide) rfl rfl ?_
        refine Z_goto (tgt := 5) dX2_openOnes_65 (by decide) ?_
        exact Z_sub (vs' := [some (.ref (ad 64)), some (.int x1_), some (.int x2_), some (.int x3_), some (.int v8), none]) (zSb_of _ _ ⟨rfl, ⟨rfl, ⟨rfl, ⟨rfl, ⟨rfl, trivial⟩⟩⟩⟩⟩) (ih x1_ x2_ x3_ v8 y5.2 _ hF hE)
      · rw [if_neg h7] at hF
        refine Z_iload_n (i := 1) (pc' := 32) dX2_openOnes_31 rfl rfl rfl ?_
        refine Z_iconst (v := -1) (pc' := 33) dX2_openOnes_32 (by decide) rfl ?_
        refine Z_icmp_eq (tgt := 45) (pc' := 36) dX2_openOnes_33 (by decide) rfl (fun h9 => ?_) (fun h9 => ?_)
        · rw [if_pos h9] at hF
          refine Z_iload_n (i := 2) (pc' := 46) dX2_openOnes_45 rfl rfl rfl ?_
          refine Z_iconst (v := -1) (pc' := 47) dX2_openOnes_46 (by decide) rfl ?_
          refine Z_icmp_eq (tgt := 59) (pc' := 50) dX2_openOnes_47 (by decide) rfl (fun h10 => ?_) (fun h10 => ?_)
          · rw [if_pos h10] at hF
            obtain ⟨v11, hv11, hF⟩ := zl_of hF
            refine Z_iinc (i := 3) (v := v11) (vs' := [some (.ref (ad 64)), some (.int x1_), some (.int x2_), some (.int v11), some (.int x4_), some (.ref (ad (8 * i4 + 5)))]) (pc' := 62) dX2_openOnes_59 rfl (by rw [hv11]; rfl) (by decide) rfl rfl ?_
            obtain ⟨v12, hv12, hF⟩ := zl_of hF
            refine Z_iinc (i := 4) (v := v12) (vs' := [some (.ref (ad 64)), some (.int x1_), some (.int x2_), some (.int v11), some (.int v12), some (.ref (ad (8 * i4 + 5)))]) (pc' := 65) dX2_openOnes_62 rfl (by rw [hv12]; rfl) (by decide) rfl rfl ?_
            refine Z_goto (tgt := 5) dX2_openOnes_65 (by decide) ?_
            exact Z_sub (vs' := [some (.ref (ad 64)), some (.int x1_), some (.int x2_), some (.int v11), some (.int v12), none]) (zSb_of _ _ ⟨rfl, ⟨rfl, ⟨rfl, ⟨rfl, ⟨rfl, trivial⟩⟩⟩⟩⟩) (ih x1_ x2_ v11 v12 y5.2 _ hF hE)
          · rw [if_neg h10] at hF
            refine Z_aload (i := 5) (pc' := 52) dX2_openOnes_50 rfl rfl ?_
            refine Z_get (v := .int (y5.2 61 i4)) (pc' := 55) 1 zinX1 rfl (by decide) lkX2_49 (eC_db hG h6) rfl dX2_openOnes_52 rfl ?_
            refine Z_iload_n (i := 2) (pc' := 56) dX2_openOnes_55 rfl rfl rfl ?_
            refine Z_icmp_ne (tgt := 62) (pc' := 59) dX2_openOnes_56 (by decide) rfl (fun h13 => ?_) (fun h13 => ?_)
            · rw [if_neg h13] at hF
              obtain ⟨v14, hv14, hF⟩ := zl_of hF
              refine Z_iinc (i := 4) (v := v14) (vs' := [some (.ref (ad 64)), some (.int x1_), some (.int x2_), some (.int x3_), some (.int v14), some (.ref (ad (8 * i4 + 5)))]) (pc' := 65) dX2_openOnes_62 rfl (by rw [hv14]; rfl) (by decide) rfl rfl ?_
              refine Z_goto (tgt := 5) dX2_openOnes_65 (by decide) ?_
              exact Z_sub (vs' := [some (.ref (ad 64)), some (.int x1_), some (.int x2_), some (.int x3_), some (.int v14), none]) (zSb_of _ _ ⟨rfl, ⟨rfl, ⟨rfl, ⟨rfl, ⟨rfl, trivial⟩⟩⟩⟩⟩) (ih x1_ x2_ x3_ v14 y5.2 _ hF hE)
            · rw [if_pos h13] at hF
              obtain ⟨v15, hv15, hF⟩ := zl_of hF
              refine Z_iinc (i := 3) (v := v15) (vs' := [some (.ref (ad 64)), some (.int x1_), some (.int x2_), some (.int v15), some (.int x4_), some (.ref (ad (8 * i4 + 5)))]) (pc' := 62) dX2_openOnes_59 rfl (by rw [hv15]; rfl) (by decide) rfl rfl ?_
              obtain ⟨v16, hv16, hF⟩ := zl_of hF
              refine Z_iinc (i := 4) (v := v16) (vs' := [some (.ref (ad 64)), some (.int x1_), some (.int x2_), some (.int v15), some (.int v16), some (.ref (ad (8 * i4 + 5)))]) (pc' := 65) dX2_openOnes_62 rfl (by rw [hv16]; rfl) (by decide) rfl rfl ?_
              refine Z_goto (tgt := 5) dX2_openOnes_65 (by decide) ?_
              exact Z_sub (vs' := [some (.ref (ad 64)), some (.int x1_), some (.int x2_), some (.int v15), some (.int v16), none]) (zSb_of _ _ ⟨rfl, ⟨rfl, ⟨rfl, ⟨rfl, ⟨rfl, trivial⟩⟩⟩⟩⟩) (ih x1_ x2_ v15 v16 y5.2 _ hF hE)
        · rw [if_neg h9] at hF
          refine Z_aload (i := 5) (pc' := 38) dX2_openOnes_36 rfl rfl ?_
          refine Z_get (v := .int (y5.2 60 i4)) (pc' := 41) 0 zinX1 rfl (by decide) lkX2_46 (eC_db hG h6) rfl dX2_openOnes_38 rfl ?_
          refine Z_iload_n (i := 1) (pc' := 42) dX2_openOnes_41 rfl rfl rfl ?_
          refine Z_icmp_ne (tgt := 62) (pc' := 45) dX2_openOnes_42 (by decide) rfl (fun h17 => ?_) (fun h17 => ?_)
          · rw [if_neg h17] at hF
            obtain ⟨v18, hv18, hF⟩ := zl_of hF
            refine Z_iinc (i := 4) (v := v18) (vs' := [some (.ref (ad 64)), some (.int x1_), some (.int x2_), some (.int x3_), some (.int v18), some (.ref (ad (8 * i4 + 5)))]) (pc' := 65) dX2_openOnes_62 rfl (by rw [hv18]; rfl) (by decide) rfl rfl ?_
            refine Z_goto (tgt := 5) dX2_openOnes_65 (by decide) ?_
            exact Z_sub (vs' := [some (.ref (ad 64)), some (.int x1_), some (.int x2_), some (.int x3_), some (.int v18), none]) (zSb_of _ _ ⟨rfl, ⟨rfl, ⟨rfl, ⟨rfl, ⟨rfl, trivial⟩⟩⟩⟩⟩) (ih x1_ x2_ x3_ v18 y5.2 _ hF hE)
          · rw [if_pos h17] at hF
            refine Z_iload_n (i := 2) (pc' := 46) dX2_openOnes_45 rfl rfl rfl ?_
            refine Z_iconst (v := -1) (pc' := 47) dX2_openOnes_46 (by decide) rfl ?_
            refine Z_icmp_eq (tgt := 59) (pc' := 50) dX2_openOnes_47 (by decide) rfl (fun h19 => ?_) (fun h19 => ?_)
            · rw [if_pos h19] at hF
              obtain ⟨v20, hv20, hF⟩ := zl_of hF
              refine Z_iinc (i := 3) (v := v20) (vs' := [some (.ref (ad 64)), some (.int x1_), some (.int x2_), some (.int v20), some (.int x4_), some (.ref (ad (8 * i4 + 5)))]) (pc' := 62) dX2_openOnes_59 rfl (by rw [hv20]; rfl) (by decide) rfl rfl ?_
              obtain ⟨v21, hv21, hF⟩ := zl_of hF
              refine Z_iinc (i := 4) (v := v21) (vs' := [some (.ref (ad 64)), some (.int x1_), some (.int x2_), some (.int v20), some (.int v21), some (.ref (ad (8 * i4 + 5)))]) (pc' := 65) dX2_openOnes_62 rfl (by rw [hv21]; rfl) (by decide) rfl rfl ?_
              refine Z_goto (tgt := 5) dX2_openOnes_65 (by decide) ?_
              exact Z_sub (vs' := [some (.ref (ad 64)), some (.int x1_), some (.int x2_), some (.int v20), some (.int v21), none]) (zSb_of _ _ ⟨rfl, ⟨rfl, ⟨rfl, ⟨rfl, ⟨rfl, trivial⟩⟩⟩⟩⟩) (ih x1_ x2_ v20 v21 y5.2 _ hF hE)
            · rw [if_neg h19] at hF
              refine Z_aload (i := 5) (pc' := 52) dX2_openOnes_50 rfl rfl ?_
              refine Z_get (v := .int (y5.2 61 i4)) (pc' := 55) 1 zinX1 rfl (by decide) lkX2_49 (eC_db hG h6) rfl dX2_openOnes_52 rfl ?_
              refine Z_iload_n (i := 2) (pc' := 56) dX2_openOnes_55 rfl rfl rfl ?_
              refine Z_icmp_ne (tgt := 62) (pc' := 59) dX2_openOnes_56 (by decide) rfl (fun h22 => ?_) (fun h22 => ?_)
              · rw [if_neg h22] at hF
                obtain ⟨v23, hv23, hF⟩ := zl_of hF
                refine Z_iinc (i := 4) (v := v23) (vs' := [some (.ref (ad 64)), some (.int x1_), some (.int x2_), some (.int x3_), some (.int v23), some (.ref (ad (8 * i4 + 5)))]) (pc' := 65) dX2_openOnes_62 rfl (by rw [hv23]; rfl) (by decide) rfl rfl ?_
                refine Z_goto (tgt := 5) dX2_openOnes_65 (by decide) ?_
                exact Z_sub (vs' := [some (.ref (ad 64)), some (.int x1_), some (.int x2_), some (.int x3_), some (.int v23), none]) (zSb_of _ _ ⟨rfl, ⟨rfl, ⟨rfl, ⟨rfl, ⟨rfl, trivial⟩⟩⟩⟩⟩) (ih x1_ x2_ x3_ v23 y5.2 _ hF hE)
              · rw [if_pos h22] at hF
                obtain ⟨v24, hv24, hF⟩ := zl_of hF
                refine Z_iinc (i := 3) (v := v24) (vs' := [some (.ref (ad 64)), some (.int x1_), some (.int x2_), some (.int v24), some (.int x4_), some (.ref (ad (8 * i4 + 5)))]) (pc' := 62) dX2_openOnes_59 rfl (by rw [hv24]; rfl) (by decide) rfl rfl ?_
                obtain ⟨v25, hv25, hF⟩ := zl_of hF
                refine Z_iinc (i := 4) (v := v25) (vs' := [some (.ref (ad 64)), some (.int x1_), some (.int x2_), some (.int v24), some (.int v25), some (.ref (ad (8 * i4 + 5)))]) (pc' := 65) dX2_openOnes_62 rfl (by rw [hv25]; rfl) (by decide) rfl rfl ?_
                refine Z_goto (tgt := 5) dX2_openOnes_65 (by decide) ?_
                exact Z_sub (vs' := [some (.ref (ad 64)), some (.int x1_), some (.int x2_), some (.int v24), some (.int v25), none]) (zSb_of _ _ ⟨rfl, ⟨rfl, ⟨rfl, ⟨rfl, ⟨rfl, trivial⟩⟩⟩⟩⟩) (ih x1_ x2_ v24 v25 y5.2 _ hF hE)
set_option maxHeartbeats 4000000 in
set_option maxRecDepth 100000 in
theorem qX2_openOnes (l : Launch) {c ad dec : Nat → Nat} (hG : cG c ad dec) {x1 : Int32} {x2 : Int32} {σ : zS} {w : Int32 × zS} (hF : c2_openOnes c x1 x2 σ = some w) : zMet l yX2_openOnes cX2_openOnes 6 (some .int) rmX2_openOnes [.ref (ad 64), .int x1, .int x2] (mC c ad dec σ) (fun v M' => v = (some (.int w.1)) ∧ M' = (mC c ad dec w.2)) := by
  refine zMet.ofZ (vs := [some (.ref (ad 64)), some (.int x1), some (.int x2), none, none, none]) (by decide) rfl (zCt_of _ ⟨rfl, ⟨rfl, ⟨rfl, trivial⟩⟩⟩) (Nat.le_of_ble_eq_true rfl) (fun D => ?_)
  unfold c2_openOnes at hF
  refine Z_iconst (v := 0) (pc' := 1) dX2_openOnes_0 (by decide) rfl ?_
  refine Z_istore_nE (i := 3) (x' := (0 : Int32)) (vs' := [some (.ref (ad 64)), some (.int x1), some (.int x2), some (.int (0 : Int32)), none, none]) (pc' := 2) dX2_openOnes_1 rfl rfl (by decide) rfl rfl ?_
  refine Z_iconst (v := 0) (pc' := 3) dX2_openOnes_2 (by decide) rfl ?_
  refine Z_istoreE (i := 4) (x' := (0 : Int32)) (vs' := [some (.ref (ad 64)), some (.int x1), some (.int x2), some (.int (0 : Int32)), some (.int (0 : Int32)), none]) (pc' := 5) dX2_openOnes_3 rfl (by decide) rfl rfl ?_
  obtain ⟨r26, hr26, hF⟩ := bd_of hF
  refine Z_sub (vs' := [some (.ref (ad 64)), some (.int x1), some (.int x2), some (.int (0 : Int32)), some (.int (0 : Int32)), none]) (zSb_of _ _ ⟨rfl, ⟨rfl, ⟨rfl, ⟨rfl, ⟨rfl, trivial⟩⟩⟩⟩⟩) (qX2_openOnes_L5 hG zF x1 x2 (0 : Int32) (0 : Int32) σ _ hr26 ?_)
  refine Z_iload_n (i := 3) (pc' := 69) dX2_openOnes_68 rfl rfl rfl ?_
  cases hF
  exact Z_iret (ty := .int) (w := r26.1) dX2_openOnes_69 rfl rfl (Nat.le_refl _) (Nat.le_refl _) ⟨rfl, rfl⟩
abbrev rmX2_lateOnesOf : Room := { frames := 2, cells := 0, slots := 0, locals := 41 }
def c2_lateOnesOf_L5 (N : Nat) (c : Nat → Nat) (x1_ : Int32) (x2_ : Int32) (x3_ : Int32) (x4_ : Int32) (σ : zS) : Option (Int32 × zS) := match N with
  | 0 => none
  | n + 1 => (if (σ 35 0) ≤ x4_ then some (x3_, σ) else (if zIn x4_ 200 = true then zl (zo (c 5) x4_) (fun (o3 : Option Nat) => (Option.bind o3 (fun (i4 : Nat) => (if i4 < c 2 then ((c1_isLateIn c i4 x2_ σ).bind (fun y5 => (if y5.1 = 0 then zl (x4_ + 1) (fun (v8 : Int32) => (c2_lateOnesOf_L5 n c x1_ x2_ x3_ v8 y5.2)) else zl (zo (c 5) x4_) (fun (o9 : Option Nat) => (Option.bind o9 (fun (i10 : Nat) => (if i10 < c 2 then (if (y5.2 60 i10) = x1_ then zl (x3_ + 1) (fun (v14 : Int32) => zl (x4_ + 1) (fun (v15 : Int32) => (c2_lateOnesOf_L5 n c x1_ x2_ v14 v15 y5.2))) else zl (x4_ + 1) (fun (v13 : Int32) => (c2_lateOnesOf_L5 n c x1_ x2_ x3_ v13 y5.2))) else none))))))) else none)))) else none))
def c2_lateOnesOf (c : Nat → Nat) (x1 : Int32) (x2 : Int32) (σ : zS) : Option (Int32 × zS) := ((c2_lateOnesOf_L5 zF c x1 x2 (0 : Int32) (0 : Int32) σ).bind (fun r16 => some (r16.1, r16.2)))
set_option maxHeartbeats 4000000 in
set_option maxRecDepth 100000 in
theorem qX2_lateOnesOf_L5 {l : Launch} {D : va_G} {M0 : zM} {Q : Option Value → zM → Prop} {c ad dec : Nat → Nat} (hG : cG c ad dec) : ∀ (n : Nat) (x1_ : Int32) (x2_ : Int32) (x3_ : Int32) (x4_ : Int32) (σ : zS) (r : (Int32 × zS)), c2_lateOnesOf_L5 n c x1_ x2_ x3_ x4_ σ = some r → (Z l yX2_lateOnesOf cX2_lateOnesOf 5 (some .int) rmX2_lateOnesOf 0 0 D M0 Q 0 0 51 [none, none, none, some (.int r.1), none] [] (mC c ad dec r.2)) → Z l yX2_lateOnesOf cX2_lateOnesOf 5 (some .int) rmX2_lateOnesOf 0 0 D M0 Q 0 0 5 [some (.ref (ad 64)), some (.int x1_), some (.int x2_), some (.int x3_), some (.int x4_)] [] (mC c ad dec σ) := by
  intro n
  induction n with
  | zero =>
    intro x1_ x2_ x3_ x4_ σ r hF hE
    exact absurd (show (none : Option (Int32 × zS)) = some r from hF) (by simp)
  | succ n ih =>
    intro x1_ x2_ x3_ x4_ σ r hF hE
    replace hF : (if (σ 35 0) ≤ x4_ then some (x3_, σ) else (if zIn x4_ 200 = true then zl (zo (c 5) x4_) (fun (o3 : Option Nat) => (Option.bind o3 (fun (i4 : Nat) => (if i4 < c 2 then ((c1_isLateIn c i4 x2_ σ).bind (fun y5 => (if y5.1 = 0 then zl (x4_ + 1) (fun (v8 : Int32) => (c2_lateOnesOf_L5 n c x1_ x2_ x3_ v8 y5.2)) else zl (zo (c 5) x4_) (fun (o9 : Option Nat) => (Option.bind o9 (fun (i10 : Nat) => (if i10 < c 2 then (if (y5.2 60 i10) = x1_ then zl (x3_ + 1) (fun (v14 : Int32) => zl (x4_ + 1) (fun (v15 : Int32) => (c2_lateOnesOf_L5 n c x1_ x2_ v14 v15 y5.2))) else zl (x4_ + 1) (fun (v13 : Int32) => (c2_lateOnesOf_L5 n c x1_ x2_ x3_ v13 y5.2))) else none))))))) else none)))) else none)) = some r := hF
    refine Z_iload (i := 4) (pc' := 7) dX2_lateOnesOf_5 rfl rfl ?_
    refine Z_aload_n (i := 0) (pc' := 8) dX2_lateOnesOf_7 rfl rfl rfl ?_
    refine Z_get (v := .int (σ 35 0)) (pc' := 11) 1 zinX2 rfl (by decide) lkX2_17 (eC_8 hG) rfl dX2_lateOnesOf_8 rfl ?_
    refine Z_icmp_ge (tgt := 51) (pc' := 14) dX2_lateOnesOf_11 (by decide) rfl (fun h1 => ?_) (fun h1 => ?_)
    · rw [if_pos h1] at hF
      cases hF
      exact Z_sub (vs' := [none, none, none, some (.int x3_), none]) (zSb_of _ _ ⟨rfl, trivial⟩) hE
    · rw [if_neg h1] at hF
      refine Z_aload_n (i := 0) (pc' := 15) dX2_lateOnesOf_14 rfl rfl rfl ?_
      refine Z_get (v := .ref (ad 72)) (pc' := 18) 0 zinX2 rfl (by decide) lkX2_11 (eC_8 hG) rfl dX2_lateOnesOf_15 rfl ?_
      refine Z_iload (i := 4) (pc' := 20) dX2_lateOnesOf_18 rfl rfl ?_
      obtain ⟨h2, hF⟩ := ck_of hF
      obtain ⟨o3, ho3, hF⟩ := zl_of hF
      refine Z_aaldC (pc' := 21) (o := o3) (eC_9 hG) (zIn_in h2) ho3 dX2_lateOnesOf_20 rfl ?_
      refine Z_iload_n (i := 2) (pc' := 22) dX2_lateOnesOf_21 rfl rfl rfl ?_
      obtain ⟨i4, hi4, hN⟩ := bd_of hF
      clear hF
      subst hi4
      have hF := hN
      clear hN
      obtain ⟨h6, hF⟩ := ck_of hF
      obtain ⟨y5, hy5, hF⟩ := bd_of hF
      refine Z_callVi (As := [.int x2_]) (st := []) (pc' := 25) (k' := 0) (n' := 0) (qX1_isLateIn l hG hy5) ckX1_isLateIn kvX1_isLateIn mlX2_42 (eC_db hG h6) rfl rfl rfl (Nat.le_of_ble_eq_true rfl) ⟨Nat.le_of_ble_eq_true rfl, Nat.le_of_ble_eq_true rfl⟩ ⟨Nat.le_of_ble_eq_true rfl, Nat.le_of_ble_eq_true rfl⟩ dX2_lateOnesOf_22 rfl rfl rfl ?_
      refine Z_if_eq (tgt := 45) (pc' := 28) dX2_lateOnesOf_25 (by decide) rfl (fun h7 => ?_) (fun h7 => ?_)
      · rw [if_pos h7] at hF
        obtain ⟨v8, hv8, hF⟩ := zl_of hF
        refine Z_iinc (i := 4) (v := v8) (vs' := [some (.ref (ad 64)), some (.int x1_), some (.int x2_), some (.int x3_), some (.int v8)]) (pc' := 48) dX2_lateOnesOf_45 rfl (by rw [hv8]; rfl) (by decide) rfl rfl ?_
        refine Z_goto (tgt := 5) dX2_lateOnesOf_48 (by decide) ?_
        exact Z_sub (vs' := [some (.ref (ad 64)), some (.int x1_), some (.int x2_), some (.int x3_), some (.int v8)]) (zSb_of _ _ ⟨rfl, ⟨rfl, ⟨rfl, ⟨rfl, ⟨rfl, trivial⟩⟩⟩⟩⟩) (ih x1_ x2_ x3_ v8 y5.2 _ hF hE)
      · rw [if_neg h7] at hF
        refine Z_aload_n (i := 0) (pc' := 29) dX2_lateOnesOf_28 rfl rfl rfl ?_
        refine Z_get (v := .ref (ad 72)) (pc' := 32) 0 zinX2 rfl (by decide) lkX2_11 (eC_8 hG) rfl dX2_lateOnesOf_29 rfl ?_
        refine Z_iload (i := 4) (pc' := 34) dX2_lateOnesOf_32 rfl rfl ?_
        obtain ⟨o9, ho9, hF⟩ := zl_of hF
        refine Z_aaldC (pc' := 35) (o := o9) (eC_9 hG) (zIn_in h2) ho9 dX2_lateOnesOf_34 rfl ?_
        obtain ⟨i10, hi10, hN⟩ := bd_of hF
        clear hF
        subst hi10
        have hF := hN
        clear hN
        obtain ⟨h11, hF⟩ := ck_of hF
        refine Z_get (v := .int (y5.2 60 i10)) (pc' := 38) 0 zinX1 rfl (by decide) lkX2_46 (eC_db hG h11) rfl dX2_lateOnesOf_35 rfl ?_
        refine Z_iload_n (i := 1) (pc' := 39) dX2_lateOnesOf_38 rfl rfl rfl ?_
        refine Z_icmp_ne (tgt := 45) (pc' := 42) dX2_lateOnesOf_39 (by decide) rfl (fun h12 => ?_) (fun h12 => ?_)
        · rw [if_neg h12] at hF
          obtain ⟨v13, hv13, hF⟩ := zl_of hF
          refine Z_iinc (i := 4) (v := v13) (vs' := [some (.ref (ad 64)), some (.int x1_), some (.int x2_), some (.int x3_), some (.int v13)]) (pc' := 48) dX2_lateOnesOf_45 rfl (by rw [hv13]; rfl) (by decide) rfl rfl ?_
          refine Z_goto (tgt := 5) dX2_lateOnesOf_48 (by decide) ?_
          exact Z_sub (vs' := [some (.ref (ad 64)), some (.int x1_), some (.int x2_), some (.int x3_), some (.int v13)]) (zSb_of _ _ ⟨rfl, ⟨rfl, ⟨rfl, ⟨rfl, ⟨rfl, trivial⟩⟩⟩⟩⟩) (ih x1_ x2_ x3_ v13 y5.2 _ hF hE)
        · rw [if_pos h12] at hF
          obtain ⟨v14, hv14, hF⟩ := zl_of hF
          refine Z_iinc (i := 3) (v := v14) (vs' := [some (.ref (ad 64)), some (.int x1_), some (.int x2_), some (.int v14), some (.int x4_)]) (pc' := 45) dX2_lateOnesOf_42 rfl (by rw [hv14]; rfl) (by decide) rfl rfl ?_
          obtain ⟨v15, hv15, hF⟩ := zl_of hF
          refine Z_iinc (i := 4) (v := v15) (vs' := [some (.ref (ad 64)), some (.int x1_), some (.int x2_), some (.int v14), some (.int v15)]) (pc' := 48) dX2_lateOnesOf_45 rfl (by rw [hv15]; rfl) (by decide) rfl rfl ?_
          refine Z_goto (tgt := 5) dX2_lateOnesOf_48 (by decide) ?_
          exact Z_sub (vs' := [some (.ref (ad 64)), some (.int x1_), some (.int x2_), some (.int v14), some (.int v15)]) (zSb_of _ _ ⟨rfl, ⟨rfl, ⟨rfl, ⟨rfl, ⟨rfl, trivial⟩⟩⟩⟩⟩) (ih x1_ x2_ v14 v15 y5.2 _ hF hE)
set_option maxHeartbeats 4000000 in
set_option maxRecDepth 100000 in
theorem qX2_lateOnesOf (l : Launch) {c ad dec : Nat → Nat} (hG : cG c ad dec) {x1 : Int32} {x2 : Int32} {σ : zS} {w : Int32 × zS} (hF : c2_lateOnesOf c x1 x2 σ = some w) : zMet l yX2_lateOnesOf cX2_lateOnesOf 5 (some .int) rmX2_lateOnesOf [.ref (ad 64), .int x1, .int x2] (mC c ad dec σ) (fun v M' => v = (some (.int w.1)) ∧ M' = (mC c ad dec w.2)) := by
  refine zMet.ofZ (vs := [some (.ref (ad 64)), some (.int x1), some (.int x2), none, none]) (by decide) rfl (zCt_of _ ⟨rfl, ⟨rfl, ⟨rfl, trivial⟩⟩⟩) (Nat.le_of_ble_eq_true rfl) (fun D => ?_)
  unfold c2_lateOnesOf at hF
  refine Z_iconst (v := 0) (pc' := 1) dX2_lateOnesOf_0 (by decide) rfl ?_
  refine Z_istore_nE (i := 3) (x' := (0 : Int32)) (vs' := [some (.ref (ad 64)), some (.int x1), some (.int x2), some (.int (0 : Int32)), none]) (pc' := 2) dX2_lateOnesOf_1 rfl rfl (by decide) rfl rfl ?_
  refine Z_iconst (v := 0) (pc' := 3) dX2_lateOnesOf_2 (by decide) rfl ?_
  refine Z_istoreE (i := 4) (x' := (0 : Int32)) (vs' := [some (.ref (ad 64)), some (.int x1), some (.int x2), some (.int (0 : Int32)), some (.int (0 : Int32))]) (pc' := 5) dX2_lateOnesOf_3 rfl (by decide) rfl rfl ?_
  obtain ⟨r16, hr16, hF⟩ := bd_of hF
  refine Z_sub (vs' := [some (.ref (ad 64)), some (.int x1), some (.int x2), some (.int (0 : Int32)), some (.int (0 : Int32))]) (zSb_of _ _ ⟨rfl, ⟨rfl, ⟨rfl, ⟨rfl, ⟨rfl, trivial⟩⟩⟩⟩⟩) (qX2_lateOnesOf_L5 hG zF x1 x2 (0 : Int32) (0 : Int32) σ _ hr16 ?_)
  refine Z_iload_n (i := 3) (pc' := 52) dX2_lateOnesOf_51 rfl rfl rfl ?_
  cases hF
  exact Z_iret (ty := .int) (w := r16.1) dX2_lateOnesOf_52 rfl rfl (Nat.le_refl _) (Nat.le_refl _) ⟨rfl, rfl⟩
abbrev rmX4_clear : Room := { frames := 0, cells := 0, slots := 0, locals := 0 }
def c4_clear (c : Nat → Nat)  (σ : zS) : Option (Int32 × zS) := zl (zs σ 36 0 (0 : Int32)) (fun (σ1 : zS) => zl (zs σ1 37 0 (0 : Int32)) (fun (σ2 : zS) => some (0, σ2)))
set_option maxHeartbeats 4000000 in
set_option maxRecDepth 100000 in
theorem qX4_clear (l : Launch) {c ad dec : Nat → Nat} (hG : cG c ad dec)  {σ : zS} {w : Int32 × zS} (hF : c4_clear c  σ = some w) : zMet l yX4_clear cX4_clear 1 none rmX4_clear [.ref (ad 80)] (mC c ad dec σ) (fun v M' => v = none ∧ M' = (mC c ad dec w.2)) := by
  refine zMet.ofZ (vs := [some (.ref (ad 80))]) (by decide) rfl (zCt_of _ ⟨rfl, trivial⟩) (Nat.le_of_ble_eq_true rfl) (fun D => ?_)
  unfold c4_clear at hF
  refine Z_aload_n (i := 0) (pc' := 1) dX4_clear_0 rfl rfl rfl ?_
  refine Z_iconst (v := 0) (pc' := 2) dX4_clear_1 (by decide) rfl ?_
  obtain ⟨σ1, hσ1, hF⟩ := zl_of hF
  refine Z_put (pc' := 5) 3 zinX4 tyX4_ok nmX4 rfl (by decide) lkX4_21 rfl (eC_10 hG) rfl rfl rfl (Nat.le_of_ble_eq_true rfl) rfl dX4_clear_2 rfl ?_
  refine Z_mem (pC_36 hG hσ1) ?_
  refine Z_aload_n (i := 0) (pc' := 6) dX4_clear_5 rfl rfl rfl ?_
  refine Z_iconst (v := 0) (pc' := 7) dX4_clear_6 (by decide) rfl ?_
  obtain ⟨σ2, hσ2, hF⟩ := zl_of hF
  refine Z_put (pc' := 10) 6 zinX4 tyX4_ok nmX4 rfl (by decide) lkX4_31 rfl (eC_10 hG) rfl rfl rfl (Nat.le_of_ble_eq_true rfl) rfl dX4_clear_7 rfl ?_
  refine Z_mem (pC_37 hG hσ2) ?_
  cases hF
  exact Z_vret dX4_clear_10 rfl (Nat.le_refl _) (Nat.le_refl _) ⟨rfl, rfl⟩
abbrev rmX4_addTreasure : Room := { frames := 0, cells := 0, slots := 0, locals := 0 }
def c4_addTreasure (c : Nat → Nat) (x1 : Int32) (i2 : Nat) (σ : zS) : Option (Int32 × zS) := (if (8 : Int32) ≤ (σ 36 0) then some (0, σ) else (if zIn (σ 36 0) 8 = true then zl (zs σ 11 (σ 36 0).toNatClampNeg x1) (fun (σ3 : zS) => (if i2 < c 1 then (if zIn (σ3 36 0) 8 = true then zl (zs σ3 12 (σ3 36 0).toNatClampNeg (σ3 50 i2)) (fun (σ6 : zS) => (if zIn (σ6 36 0) 8 = true then zl (zs σ6 13 (σ6 36 0).toNatClampNeg (σ6 51 i2)) (fun (σ8 : zS) => zl (zs σ8 36 0 ((σ8 36 0) + (1 : Int32))) (fun (σ9 : zS) => some (0, σ9))) else none)) else none) else none)) else none))
set_option maxHeartbeats 4000000 in
set_option maxRecDepth 100000 in
theorem qX4_addTreasure (l : Launch) {c ad dec : Nat → Nat} (hG : cG c ad dec) {x1 : Int32} {i2 : Nat} {σ : zS} {w : Int32 × zS} (hF : c4_addTreasure c x1 i2 σ = some w) : zMet l yX4_addTreasure cX4_addTreasure 3 none rmX4_addTreasure [.ref (ad 80), .int x1, .ref (ad (8 * i2 + 2))] (mC c ad dec σ) (fun v M' => v = none ∧ M' = (mC c ad dec w.2)) := by
  refine zMet.ofZ (vs := [some (.ref (ad 80)), some (.int x1), some (.ref (ad (8 * i2 + 2)))]) (by decide) rfl (zCt_of _ ⟨rfl, ⟨rfl, ⟨rfl, trivial⟩⟩⟩) (Nat.le_of_ble_eq_true rfl) (fun D => ?_)
  unfold c4_addTreasure at hF
  refine Z_aload_n (i := 0) (pc' := 1) dX4_addTreasure_0 rfl rfl rfl ?_
  refine Z_get (v := .int (σ 36 0)) (pc' := 4) 3 zinX4 rfl (by decide) lkX4_21 (eC_10 hG) rfl dX4_addTreasure_1 rfl ?_
  refine Z_bipush (v := 8) (pc' := 6) dX4_addTreasure_4 (by decide) rfl ?_
  refine Z_icmp_ge (tgt := 55) (pc' := 9) dX4_addTreasure_6 (by decide) rfl (fun h1 => ?_) (fun h1 => ?_)
  · rw [if_pos h1] at hF
    cases hF
    exact Z_vret dX4_addTreasure_55 rfl (Nat.le_refl _) (Nat.le_refl _) ⟨rfl, rfl⟩
  · rw [if_neg h1] at hF
    refine Z_aload_n (i := 0) (pc' := 10) dX4_addTreasure_9 rfl rfl rfl ?_
    refine Z_get (v := .ref (ad 88)) (pc' := 13) 0 zinX4 rfl (by decide) lkX4_11 (eC_10 hG) rfl dX4_addTreasure_10 rfl ?_
    refine Z_aload_n (i := 0) (pc' := 14) dX4_addTreasure_13 rfl rfl rfl ?_
    refine Z_get (v := .int (σ 36 0)) (pc' := 17) 3 zinX4 rfl (by decide) lkX4_21 (eC_10 hG) rfl dX4_addTreasure_14 rfl ?_
    refine Z_iload_n (i := 1) (pc' := 18) dX4_addTreasure_17 rfl rfl rfl ?_
    obtain ⟨h2, hF⟩ := ck_of hF
    obtain ⟨σ3, hσ3, hF⟩ := zl_of hF
    refine Z_iast (pc' := 19) (eC_11 hG) (zIn_in h2) dX4_addTreasure_18 rfl ?_
    refine Z_mem (sC_11 hG hσ3) ?_
    refine Z_aload_n (i := 0) (pc' := 20) dX4_addTreasure_19 rfl rfl rfl ?_
    refine Z_get (v := .ref (ad 96)) (pc' := 23) 1 zinX4 rfl (by decide) lkX4_15 (eC_10 hG) rfl dX4_addTreasure_20 rfl ?_
    refine Z_aload_n (i := 0) (pc' := 24) dX4_addTreasure_23 rfl rfl rfl ?_
    refine Z_get (v := .int (σ3 36 0)) (pc' := 27) 3 zinX4 rfl (by decide) lkX4_21 (eC_10 hG) rfl dX4_addTreasure_24 rfl ?_
    refine Z_aload_n (i := 2) (pc' := 28) dX4_addTreasure_27 rfl rfl rfl ?_
    obtain ⟨h4, hF⟩ := ck_of hF
    refine Z_get (v := .int (σ3 50 i2)) (pc' := 31) 0 zinX6 rfl (by decide) lkX4_42 (eC_tr hG h4) rfl dX4_addTreasure_28 rfl ?_
    obtain ⟨h5, hF⟩ := ck_of hF
    obtain ⟨σ6, hσ6, hF⟩ := zl_of hF
    refine Z_iast (pc' := 32) (eC_12 hG) (zIn_in h5) dX4_addTreasure_31 rfl ?_
    refine Z_mem (sC_12 hG hσ6) ?_
    refine Z_aload_n (i := 0) (pc' := 33) dX4_addTreasure_32 rfl rfl rfl ?_
    refine Z_get (v := .ref (ad 104)) (pc' := 36) 2 zinX4 rfl (by decide) lkX4_18 (eC_10 hG) rfl dX4_addTreasure_33 rfl ?_
    refine Z_aload_n (i := 0) (pc' := 37) dX4_addTreasure_36 rfl rfl rfl ?_
    refine Z_get (v := .int (σ6 36 0)) (pc' := 40) 3 zinX4 rfl (by decide) lkX4_21 (eC_10 hG) rfl dX4_addTreasure_37 rfl ?_
    refine Z_aload_n (i := 2) (pc' := 41) dX4_addTreasure_40 rfl rfl rfl ?_
    refine Z_get (v := .int (σ6 51 i2)) (pc' := 44) 1 zinX6 rfl (by decide) lkX4_47 (eC_tr hG h4) rfl dX4_addTreasure_41 rfl ?_
    obtain ⟨h7, hF⟩ := ck_of hF
    obtain ⟨σ8, hσ8, hF⟩ := zl_of hF
    refine Z_iast (pc' := 45) (eC_13 hG) (zIn_in h7) dX4_addTreasure_44 rfl ?_
    refine Z_mem (sC_13 hG hσ8) ?_
    refine Z_aload_n (i := 0) (pc' := 46) dX4_addTreasure_45 rfl rfl rfl ?_
    refine Z_dup (pc' := 47) rfl dX4_addTreasure_46 rfl ?_
    refine Z_get (v := .int (σ8 36 0)) (pc' := 50) 3 zinX4 rfl (by decide) lkX4_21 (eC_10 hG) rfl dX4_addTreasure_47 rfl ?_
    refine Z_iconst (v := 1) (pc' := 51) dX4_addTreasure_50 (by decide) rfl ?_
    refine Z_iadd (pc' := 52) dX4_addTreasure_51 rfl ?_
    obtain ⟨σ9, hσ9, hF⟩ := zl_of hF
    refine Z_put (pc' := 55) 3 zinX4 tyX4_ok nmX4 rfl (by decide) lkX4_21 rfl (eC_10 hG) rfl rfl rfl (Nat.le_of_ble_eq_true rfl) rfl dX4_addTreasure_52 rfl ?_
    refine Z_mem (pC_36 hG hσ9) ?_
    cases hF
    exact Z_vret dX4_addTreasure_55 rfl (Nat.le_refl _) (Nat.le_refl _) ⟨rfl, rfl⟩
abbrev rmX4_addDebt : Room := { frames := 0, cells := 0, slots := 0, locals := 0 }
def c4_addDebt (c : Nat → Nat) (i1 : Nat) (σ : zS) : Option (Int32 × zS) := (if (6 : Int32) ≤ (σ 37 0) then some (0, σ) else (if i1 < c 2 then (if zIn (σ 37 0) 6 = true then zl (zs σ 14 (σ 37 0).toNatClampNeg (σ 63 i1)) (fun (σ4 : zS) => (if zIn (σ4 37 0) 6 = true then zl (zs σ4 15 (σ4 37 0).toNatClampNeg (σ4 64 i1)) (fun (σ6 : zS) => zl (zs σ6 37 0 ((σ6 37 0) + (1 : Int32))) (fun (σ7 : zS) => some (0, σ7))) else none)) else none) else none))
set_option maxHeartbeats 4000000 in
set_option maxRecDepth 100000 in
theorem qX4_addDebt (l : Launch) {c ad dec : Nat → Nat} (hG : cG c ad dec) {i1 : Nat} {σ : zS} {w : Int32 × zS} (hF : c4_addDebt c i1 σ = some w) : zMet l yX4_addDebt cX4_addDebt 2 none rmX4_addDebt [.ref (ad 80), .ref (ad (8 * i1 + 5))] (mC c ad dec σ) (fun v M' => v = none ∧ M' = (mC c ad dec w.2)) := by
  refine zMet.ofZ (vs := [some (.ref (ad 80)), some (.ref (ad (8 * i1 + 5)))]) (by decide) rfl (zCt_of _ ⟨rfl, ⟨rfl, trivial⟩⟩) (Nat.le_of_ble_eq_true rfl) (fun D => ?_)
  unfold c4_addDebt at hF
  refine Z_aload_n (i := 0) (pc' := 1) dX4_addDebt_0 rfl rfl rfl ?_
  refine Z_get (v := .int (σ 37 0)) (pc' := 4) 6 zinX4 rfl (by decide) lkX4_31 (eC_10 hG) rfl dX4_addDebt_1 rfl ?_
  refine Z_bipush (v := 6) (pc' := 6) dX4_addDebt_4 (by decide) rfl ?_
  refine Z_icmp_ge (tgt := 45) (pc' := 9) dX4_addDebt_6 (by decide) rfl (fun h1 => ?_) (fun h1 => ?_)
  · rw [if_pos h1] at hF
    cases hF
    exact Z_vret dX4_addDebt_45 rfl (Nat.le_refl _) (Nat.le_refl _) ⟨rfl, rfl⟩
  · rw [if_neg h1] at hF
    refine Z_aload_n (i := 0) (pc' := 10) dX4_addDebt_9 rfl rfl rfl ?_
    refine Z_get (v := .ref (ad 112)) (pc' := 13) 4 zinX4 rfl (by decide) lkX4_25 (eC_10 hG) rfl dX4_addDebt_10 rfl ?_
    refine Z_aload_n (i := 0) (pc' := 14) dX4_addDebt_13 rfl rfl rfl ?_
    refine Z_get (v := .int (σ 37 0)) (pc' := 17) 6 zinX4 rfl (by decide) lkX4_31 (eC_10 hG) rfl dX4_addDebt_14 rfl ?_
    refine Z_aload_n (i := 1) (pc' := 18) dX4_addDebt_17 rfl rfl rfl ?_
    obtain ⟨h2, hF⟩ := ck_of hF
    refine Z_get (v := .int (σ 63 i1)) (pc' := 21) 3 zinX1 rfl (by decide) lkX4_50 (eC_db hG h2) rfl dX4_addDebt_18 rfl ?_
    obtain ⟨h3, hF⟩ := ck_of hF
    obtain ⟨σ4, hσ4, hF⟩ := zl_of hF
    refine Z_iast (pc' := 22) (eC_14 hG) (zIn_in h3) dX4_addDebt_21 rfl ?_
    refine Z_mem (sC_14 hG hσ4) ?_
    refine Z_aload_n (i := 0) (pc' := 23) dX4_addDebt_22 rfl rfl rfl ?_
    refine Z_get (v := .ref (ad 120)) (pc' := 26) 5 zinX4 rfl (by decide) lkX4_28 (eC_10 hG) rfl dX4_addDebt_23 rfl ?_
    refine Z_aload_n (i := 0) (pc' := 27) dX4_addDebt_26 rfl rfl rfl ?_
    refine Z_get (v := .int (σ4 37 0)) (pc' := 30) 6 zinX4 rfl (by decide) lkX4_31 (eC_10 hG) rfl dX4_addDebt_27 rfl ?_
    refine Z_aload_n (i := 1) (pc' := 31) dX4_addDebt_30 rfl rfl rfl ?_
    refine Z_get (v := .int (σ4 64 i1)) (pc' := 34) 4 zinX1 rfl (by decide) lkX4_53 (eC_db hG h2) rfl dX4_addDebt_31 rfl ?_
    obtain ⟨h5, hF⟩ := ck_of hF
    obtain ⟨σ6, hσ6, hF⟩ := zl_of hF
    refine Z_iast (pc' := 35) (eC_15 hG) (zIn_in h5) dX4_addDebt_34 rfl ?_
    refine Z_mem (sC_15 hG hσ6) ?_
    refine Z_aload_n (i := 0) (pc' := 36) dX4_addDebt_35 rfl rfl rfl ?_
    refine Z_dup (pc' := 37) rfl dX4_addDebt_36 rfl ?_
    refine Z_get (v := .int (σ6 37 0)) (pc' := 40) 6 zinX4 rfl (by decide) lkX4_31 (eC_10 hG) rfl dX4_addDebt_37 rfl ?_
    refine Z_iconst (v := 1) (pc' := 41) dX4_addDebt_40 (by decide) rfl ?_
    refine Z_iadd (pc' := 42) dX4_addDebt_41 rfl ?_
    obtain ⟨σ7, hσ7, hF⟩ := zl_of hF
    refine Z_put (pc' := 45) 6 zinX4 tyX4_ok nmX4 rfl (by decide) lkX4_31 rfl (eC_10 hG) rfl rfl rfl (Nat.le_of_ble_eq_true rfl) rfl dX4_addDebt_42 rfl ?_
    refine Z_mem (pC_37 hG hσ7) ?_
    cases hF
    exact Z_vret dX4_addDebt_45 rfl (Nat.le_refl _) (Nat.le_refl _) ⟨rfl, rfl⟩
abbrev rmX4_canClose : Room := { frames := 0, cells := 0, slots := 0, locals := 0 }
def c4_canClose (c : Nat → Nat) (x1 : Int32) (x2 : Int32) (x3 : Int32) (σ : zS) : Option (Int32 × zS) := (if (x3 &&& ((1 : Int32) <<< (x1 &&& 31))) = 0 then (if zIn x1 8 = true then (if zIn x2 6 = true then (if (σ 12 (x1).toNatClampNeg) = (σ 14 (x2).toNatClampNeg) then some ((0 : Int32), σ) else (if (σ 13 (x1).toNatClampNeg) < (σ 15 (x2).toNatClampNeg) then some ((0 : Int32), σ) else some ((1 : Int32), σ))) else none) else none) else some ((0 : Int32), σ))
set_option maxHeartbeats 4000000 in
set_option maxRecDepth 100000 in
theorem qX4_canClose (l : Launch) {c ad dec : Nat → Nat} (hG : cG c ad dec) {x1 : Int32} {x2 : Int32} {x3 : Int32} {σ : zS} {w : Int32 × zS} (hF : c4_canClose c x1 x2 x3 σ = some w) : zMet l yX4_canClose cX4_canClose 4 (some .boolean) rmX4_canClose [.ref (ad 80), .int x1, .int x2, .int x3] (mC c ad dec σ) (fun v M' => v = (some (.int w.1)) ∧ M' = (mC c ad dec w.2)) := by
  refine zMet.ofZ (vs := [some (.ref (ad 80)), some (.int x1), some (.int x2), some (.int x3)]) (by decide) rfl (zCt_of _ ⟨rfl, ⟨rfl, ⟨rfl, ⟨rfl, trivial⟩⟩⟩⟩) (Nat.le_of_ble_eq_true rfl) (fun D => ?_)
  unfold c4_canClose at hF
  refine Z_iload_n (i := 3) (pc' := 1) dX4_canClose_0 rfl rfl rfl ?_
  refine Z_iconst (v := 1) (pc' := 2) dX4_canClose_1 (by decide) rfl ?_
  refine Z_iload_n (i := 1) (pc' := 3) dX4_canClose_2 rfl rfl rfl ?_
  refine Z_ishl (pc' := 4) dX4_canClose_3 rfl ?_
  refine Z_iand (pc' := 5) dX4_canClose_4 rfl ?_
  refine Z_if_ne (tgt := 42) (pc' := 8) dX4_canClose_5 (by decide) rfl (fun h1 => ?_) (fun h1 => ?_)
  · rw [if_neg h1] at hF
    refine Z_iconst (v := 0) (pc' := 43) dX4_canClose_42 (by decide) rfl ?_
    cases hF
    exact Z_iret (ty := .boolean) (w := (0 : Int32)) dX4_canClose_43 rfl rfl (Nat.le_refl _) (Nat.le_refl _) ⟨rfl, rfl⟩
  · rw [if_pos h1] at hF
    refine Z_aload_n (i := 0) (pc' := 9) dX4_canClose_8 rfl rfl rfl ?_
    refine Z_get (v := .ref (ad 96)) (pc' := 12) 1 zinX4 rfl (by decide) lkX4_15 (eC_10 hG) rfl dX4_canClose_9 rfl ?_
    refine Z_iload_n (i := 1) (pc' := 13) dX4_canClose_12 rfl rfl rfl ?_
    obtain ⟨h2, hF⟩ := ck_of hF
    refine Z_iald (pc' := 14) (eC_12 hG) (zIn_in h2) dX4_canClose_13 rfl ?_
    refine Z_aload_n (i := 0) (pc' := 15) dX4_canClose_14 rfl rfl rfl ?_
    refine Z_get (v := .ref (ad 112)) (pc' := 18) 4 zinX4 rfl (by decide) lkX4_25 (eC_10 hG) rfl dX4_canClose_15 rfl ?_
    refine Z_iload_n (i := 2) (pc' := 19) dX4_canClose_18 rfl rfl rfl ?_
    obtain ⟨h3, hF⟩ := ck_of hF
    refine Z_iald (pc' := 20) (eC_14 hG) (zIn_in h3) dX4_canClose_19 rfl ?_
    refine Z_icmp_eq (tgt := 42) (pc' := 23) dX4_canClose_20 (by decide) rfl (fun h4 => ?_) (fun h4 => ?_)
    · rw [if_pos h4] at hF
      refine Z_iconst (v := 0) (pc' := 43) dX4_canClose_42 (by decide) rfl ?_
      cases hF
      exact Z_iret (ty := .boolean) (w := (0 : Int32)) dX4_canClose_43 rfl rfl (Nat.le_refl _) (Nat.le_refl _) ⟨rfl, rfl⟩
    · rw [if_neg h4] at hF
      refine Z_aload_n (i := 0) (pc' := 24) dX4_canClose_23 rfl rfl rfl ?_
      refine Z_get (v := .ref (ad 120)) (pc' := 27) 5 zinX4 rfl (by decide) lkX4_28 (eC_10 hG) rfl dX4_canClose_24 rfl ?_
      refine Z_iload_n (i := 2) (pc' := 28) dX4_canClose_27 rfl rfl rfl ?_
      refine Z_iald (pc' := 29) (eC_15 hG) (zIn_in h3) dX4_canClose_28 rfl ?_
      refine Z_aload_n (i := 0) (pc' := 30) dX4_canClose_29 rfl rfl rfl ?_
      refine Z_get (v := .ref (ad 104)) (pc' := 33) 2 zinX4 rfl (by decide) lkX4_18 (eC_10 hG) rfl dX4_canClose_30 rfl ?_
      refine Z_iload_n (i := 1) (pc' := 34) dX4_canClose_33 rfl rfl rfl ?_
      refine Z_iald (pc' := 35) (eC_13 hG) (zIn_in h2) dX4_canClose_34 rfl ?_
      refine Z_icmp_gt (tgt := 42) (pc' := 38) dX4_canClose_35 (by decide) rfl (fun h5 => ?_) (fun h5 => ?_)
      · rw [if_pos h5] at hF
        refine Z_iconst (v := 0) (pc' := 43) dX4_canClose_42 (by decide) rfl ?_
        cases hF
        exact Z_iret (ty := .boolean) (w := (0 : Int32)) dX4_canClose_43 rfl rfl (Nat.le_refl _) (Nat.le_refl _) ⟨rfl, rfl⟩
      · rw [if_neg h5] at hF
        refine Z_iconst (v := 1) (pc' := 39) dX4_canClose_38 (by decide) rfl ?_
        refine Z_goto (tgt := 43) dX4_canClose_39 (by decide) ?_
        cases hF
        exact Z_iret (ty := .boolean) (w := (1 : Int32)) dX4_canClose_43 rfl rfl (Nat.le_refl _) (Nat.le_refl _) ⟨rfl, rfl⟩
abbrev rmX4_weightWith : Room := { frames := 0, cells := 0, slots := 0, locals := 0 }
def c4_weightWith (c : Nat → Nat) (x1 : Int32) (x2 : Int32) (x3 : Int32) (σ : zS) : Option (Int32 × zS) := (if zIn x1 8 = true then (if zIn (x2 + (1 : Int32)) 7 = true then (if zIn (x3 ||| ((1 : Int32) <<< (x1 &&& 31))) 256 = true then some ((((10000 : Int32) - (σ 13 (x1).toNatClampNeg)) + (σ (19 + (x2 + (1 : Int32)).toNatClampNeg) (x3 ||| ((1 : Int32) <<< (x1 &&& 31))).toNatClampNeg)), σ) else none) else none) else none)
set_option maxHeartbeats 4000000 in
set_option maxRecDepth 100000 in
theorem qX4_weightWith (l : Launch) {c ad dec : Nat → Nat} (hG : cG c ad dec) {x1 : Int32} {x2 : Int32} {x3 : Int32} {σ : zS} {w : Int32 × zS} (hF : c4_weightWith c x1 x2 x3 σ = some w) : zMet l yX4_weightWith cX4_weightWith 4 (some .int) rmX4_weightWith [.ref (ad 80), .int x1, .int x2, .int x3] (mC c ad dec σ) (fun v M' => v = (some (.int w.1)) ∧ M' = (mC c ad dec w.2)) := by
  refine zMet.ofZ (vs := [some (.ref (ad 80)), some (.int x1), some (.int x2), some (.int x3)]) (by decide) rfl (zCt_of _ ⟨rfl, ⟨rfl, ⟨rfl, ⟨rfl, trivial⟩⟩⟩⟩) (Nat.le_of_ble_eq_true rfl) (fun D => ?_)
  unfold c4_weightWith at hF
  refine Z_sipush (v := 10000) (pc' := 3) dX4_weightWith_0 (by decide) rfl ?_
  refine Z_aload_n (i := 0) (pc' := 4) dX4_weightWith_3 rfl rfl rfl ?_
  refine Z_get (v := .ref (ad 104)) (pc' := 7) 2 zinX4 rfl (by decide) lkX4_18 (eC_10 hG) rfl dX4_weightWith_4 rfl ?_
  refine Z_iload_n (i := 1) (pc' := 8) dX4_weightWith_7 rfl rfl rfl ?_
  obtain ⟨h1, hF⟩ := ck_of hF
  refine Z_iald (pc' := 9) (eC_13 hG) (zIn_in h1) dX4_weightWith_8 rfl ?_
  refine Z_isub (pc' := 10) dX4_weightWith_9 rfl ?_
  refine Z_aload_n (i := 0) (pc' := 11) dX4_weightWith_10 rfl rfl rfl ?_
  refine Z_get (v := .ref (ad 128)) (pc' := 14) 7 zinX4 rfl (by decide) lkX4_36 (eC_10 hG) rfl dX4_weightWith_11 rfl ?_
  refine Z_iload_n (i := 2) (pc' := 15) dX4_weightWith_14 rfl rfl rfl ?_
  refine Z_iconst (v := 1) (pc' := 16) dX4_weightWith_15 (by decide) rfl ?_
  refine Z_iadd (pc' := 17) dX4_weightWith_16 rfl ?_
  obtain ⟨h2, hF⟩ := ck_of hF
  refine Z_aaldB (pc' := 18) (eC_16 hG) h2 dX4_weightWith_17 rfl ?_
  refine Z_iload_n (i := 3) (pc' := 19) dX4_weightWith_18 rfl rfl rfl ?_
  refine Z_iconst (v := 1) (pc' := 20) dX4_weightWith_19 (by decide) rfl ?_
  refine Z_iload_n (i := 1) (pc' := 21) dX4_weightWith_20 rfl rfl rfl ?_
  refine Z_ishl (pc' := 22) dX4_weightWith_21 rfl ?_
  refine Z_ior (pc' := 23) dX4_weightWith_22 rfl ?_
  obtain ⟨h3, hF⟩ := ck_of hF
  refine Z_iald (pc' := 24) (eC_bt hG (zIn_lt h2)) (zIn_in h3) dX4_weightWith_23 rfl ?_
  refine Z_iadd (pc' := 25) dX4_weightWith_24 rfl ?_
  cases hF
  exact Z_iret (ty := .int) (w := (((10000 : Int32) - (σ 13 (x1).toNatClampNeg)) + (σ (19 + (x2 + (1 : Int32)).toNatClampNeg) (x3 ||| ((1 : Int32) <<< (x1 &&& 31))).toNatClampNeg))) dX4_weightWith_25 rfl rfl (Nat.le_refl _) (Nat.le_refl _) ⟨rfl, rfl⟩
abbrev rmX4_weigh : Room := { frames := 1, cells := 0, slots := 0, locals := 23 }
def c4_weigh_L14 (N : Nat) (c : Nat → Nat) (x1_ : Int32) (x2_ : Int32) (x3_ : Int32) (x4_ : Int32) (σ : zS) : Option (Int32 × zS) := match N with
  | 0 => none
  | n + 1 => (if (σ 36 0) ≤ x4_ then some (x3_, σ) else ((c4_canClose c x4_ x1_ x2_ σ).bind (fun y5 => (if y5.1 = 0 then zl (x4_ + 1) (fun (v7 : Int32) => (c4_weigh_L14 n c x1_ x2_ x3_ v7 y5.2)) else ((c4_weightWith c x4_ x1_ x2_ y5.2).bind (fun y8 => zl (if x3_ < y8.1 then y8.1 else x3_) (fun (v9 : Int32) => zl (x4_ + 1) (fun (v10 : Int32) => (c4_weigh_L14 n c x1_ x2_ v9 v10 y8.2)))))))))
def c4_weigh (c : Nat → Nat) (x1 : Int32) (x2 : Int32) (σ : zS) : Option (Int32 × zS) := (if zIn (x1 + (1 : Int32)) 7 = true then (if zIn x2 256 = true then zl (σ (19 + (x1 + (1 : Int32)).toNatClampNeg) (x2).toNatClampNeg) (fun (v3 : Int32) => ((c4_weigh_L14 zF c x1 x2 v3 (0 : Int32) σ).bind (fun r11 => some (r11.1, r11.2)))) else none) else none)
set_option maxHeartbeats 4000000 in
set_option maxRecDepth 100000 in
theorem qX4_weigh_L14 {l : Launch} {D : va_G} {M0 : zM} {Q : Option Value → zM → Prop} {c ad dec : Nat → Nat} (hG : cG c ad dec) : ∀ (n : Nat) (x1_ : Int32) (x2_ : Int32) (x3_ : Int32) (x4_ : Int32) (σ : zS) (r : (Int32 × zS)), c4_weigh_L14 n c x1_ x2_ x3_ x4_ σ = some r → (Z l yX4_weigh cX4_weigh 5 (some .int) rmX4_weigh 0 0 D M0 Q 0 0 53 [none, none, none, some (.int r.1), none] [] (mC c ad dec r.2)) → Z l yX4_weigh cX4_weigh 5 (some .int) rmX4_weigh 0 0 D M0 Q 0 0 14 [some (.ref (ad 80)), some (.int x1_), some (.int x2_), some (.int x3_), some (.int x4_)] [] (mC c ad dec σ) := by
  intro n
  induction n with
  | zero =>
    intro x1_ x2_ x3_ x4_ σ r hF hE
    exact absurd (show (none : Option (Int32 × zS)) = some r from hF) (by simp)
  | succ n ih =>
    intro x1_ x2_ x3_ x4_ σ r hF hE
    replace hF : (if (σ 36 0) ≤ x4_ then some (x3_, σ) else ((c4_canClose c x4_ x1_ x2_ σ).bind (fun y5 => (if y5.1 = 0 then zl (x4_ + 1) (fun (v7 : Int32) => (c4_weigh_L14 n c x1_ x2_ x3_ v7 y5.2)) else ((c4_weightWith c x4_ x1_ x2_ y5.2).bind (fun y8 => zl (if x3_ < y8.1 then y8.1 else x3_) (fun (v9 : Int32) => zl (x4_ + 1) (fun (v10 : Int32) => (c4_weigh_L14 n c x1_ x2_ v9 v10 y8.2))))))))) = some r := hF
    refine Z_iload (i := 4) (pc' := 16) dX4_weigh_14 rfl rfl ?_
    refine Z_aload_n (i := 0) (pc' := 17) dX4_weigh_16 rfl rfl rfl ?_
    refine Z_get (v := .int (σ 36 0)) (pc' := 20) 3 zinX4 rfl (by decide) lkX4_21 (eC_10 hG) rfl dX4_weigh_17 rfl ?_
    refine Z_icmp_ge (tgt := 53) (pc' := 23) dX4_weigh_20 (by decide) rfl (fun h4 => ?_) (fun h4 => ?_)
    · rw [if_pos h4] at hF
      cases hF
      exact Z_sub (vs' := [none, none, none, some (.int x3_), none]) (zSb_of _ _ ⟨rfl, trivial⟩) hE
    · rw [if_neg h4] at hF
      refine Z_aload_n (i := 0) (pc' := 24) dX4_weigh_23 rfl rfl rfl ?_
      refine Z_iload (i := 4) (pc' := 26) dX4_weigh_24 rfl rfl ?_
      refine Z_iload_n (i := 1) (pc' := 27) dX4_weigh_26 rfl rfl rfl ?_
      refine Z_iload_n (i := 2) (pc' := 28) dX4_weigh_27 rfl rfl rfl ?_
      obtain ⟨y5, hy5, hF⟩ := bd_of hF
      refine Z_callVi (As := [.int x4_, .int x1_, .int x2_]) (st := []) (pc' := 31) (k' := 0) (n' := 0) (qX4_canClose l hG hy5) ckX4_canClose kvX4_canClose mlX4_72 (eC_10 hG) rfl rfl rfl (Nat.le_of_ble_eq_true rfl) ⟨Nat.le_of_ble_eq_true rfl, Nat.le_of_ble_eq_true rfl⟩ ⟨Nat.le_of_ble_eq_true rfl, Nat.le_of_ble_eq_true rfl⟩ dX4_weigh_28 rfl rfl rfl ?_
      refine Z_if_eq (tgt := 47) (pc' := 34) dX4_weigh_31 (by decide) rfl (fun h6 => ?_) (fun h6 => ?_)
      · rw [if_pos h6] at hF
        obtain ⟨v7, hv7, hF⟩ := zl_of hF
        refine Z_iinc (i := 4) (v := v7) (vs' := [some (.ref (ad 80)), some (.int x1_), some (.int x2_), some (.int x3_), some (.int v7)]) (pc' := 50) dX4_weigh_47 rfl (by rw [hv7]; rfl) (by decide) rfl rfl ?_
        refine Z_goto (tgt := 14) dX4_weigh_50 (by decide) ?_
        exact Z_sub (vs' := [some (.ref (ad 80)), some (.int x1_), some (.int x2_), some (.int x3_), some (.int v7)]) (zSb_of _ _ ⟨rfl, ⟨rfl, ⟨rfl, ⟨rfl, ⟨rfl, trivial⟩⟩⟩⟩⟩) (ih x1_ x2_ x3_ v7 y5.2 _ hF hE)
      · rw [if_neg h6] at hF
        refine Z_iload_n (i := 3) (pc' := 35) dX4_weigh_34 rfl rfl rfl ?_
        refine Z_aload_n (i := 0) (pc' := 36) dX4_weigh_35 rfl rfl rfl ?_
        refine Z_iload (i := 4) (pc' := 38) dX4_weigh_36 rfl rfl ?_
        refine Z_iload_n (i := 1) (pc' := 39) dX4_weigh_38 rfl rfl rfl ?_
        refine Z_iload_n (i := 2) (pc' := 40) dX4_weigh_39 rfl rfl rfl ?_
        obtain ⟨y8, hy8, hF⟩ := bd_of hF
        refine Z_callVi (As := [.int x4_, .int x1_, .int x2_]) (st := [.int x3_]) (pc' := 43) (k' := 0) (n' := 0) (qX4_weightWith l hG hy8) ckX4_weightWith kvX4_weightWith mlX4_76 (eC_10 hG) rfl rfl rfl (Nat.le_of_ble_eq_true rfl) ⟨Nat.le_of_ble_eq_true rfl, Nat.le_of_ble_eq_true rfl⟩ ⟨Nat.le_of_ble_eq_true rfl, Nat.le_of_ble_eq_true rfl⟩ dX4_weigh_40 rfl rfl rfl ?_
        refine Z_mmax (pc' := 46) mlX4_80 (Nat.le_of_ble_eq_true rfl) (Nat.le_of_ble_eq_true rfl) (Nat.zero_le _) (Nat.zero_le _) dX4_weigh_43 rfl ?_
        obtain ⟨v9, hv9, hF⟩ := zl_of hF
        refine Z_istore_nE (i := 3) (x' := v9) (vs' := [some (.ref (ad 80)), some (.int x1_), some (.int x2_), some (.int v9), some (.int x4_)]) (pc' := 47) dX4_weigh_46 rfl hv9 (by decide) rfl rfl ?_
        obtain ⟨v10, hv10, hF⟩ := zl_of hF
        refine Z_iinc (i := 4) (v := v10) (vs' := [some (.ref (ad 80)), some (.int x1_), some (.int x2_), some (.int v9), some (.int v10)]) (pc' := 50) dX4_weigh_47 rfl (by rw [hv10]; rfl) (by decide) rfl rfl ?_
        refine Z_goto (tgt := 14) dX4_weigh_50 (by decide) ?_
        exact Z_sub (vs' := [some (.ref (ad 80)), some (.int x1_), some (.int x2_), some (.int v9), some (.int v10)]) (zSb_of _ _ ⟨rfl, ⟨rfl, ⟨rfl, ⟨rfl, ⟨rfl, trivial⟩⟩⟩⟩⟩) (ih x1_ x2_ v9 v10 y8.2 _ hF hE)
set_option maxHeartbeats 4000000 in
set_option maxRecDepth 100000 in
theorem qX4_weigh (l : Launch) {c ad dec : Nat → Nat} (hG : cG c ad dec) {x1 : Int32} {x2 : Int32} {σ : zS} {w : Int32 × zS} (hF : c4_weigh c x1 x2 σ = some w) : zMet l yX4_weigh cX4_weigh 5 (some .int) rmX4_weigh [.ref (ad 80), .int x1, .int x2] (mC c ad dec σ) (fun v M' => v = (some (.int w.1)) ∧ M' = (mC c ad dec w.2)) := by
  refine zMet.ofZ (vs := [some (.ref (ad 80)), some (.int x1), some (.int x2), none, none]) (by decide) rfl (zCt_of _ ⟨rfl, ⟨rfl, ⟨rfl, trivial⟩⟩⟩) (Nat.le_of_ble_eq_true rfl) (fun D => ?_)
  unfold c4_weigh at hF
  refine Z_aload_n (i := 0) (pc' := 1) dX4_weigh_0 rfl rfl rfl ?_
  refine Z_get (v := .ref (ad 128)) (pc' := 4) 7 zinX4 rfl (by decide) lkX4_36 (eC_10 hG) rfl dX4_weigh_1 rfl ?_
  refine Z_iload_n (i := 1) (pc' := 5) dX4_weigh_4 rfl rfl rfl ?_
  refine Z_iconst (v := 1) (pc' := 6) dX4_weigh_5 (by decide) rfl ?_
  refine Z_iadd (pc' := 7) dX4_weigh_6 rfl ?_
  obtain ⟨h1, hF⟩ := ck_of hF
  refine Z_aaldB (pc' := 8) (eC_16 hG) h1 dX4_weigh_7 rfl ?_
  refine Z_iload_n (i := 2) (pc' := 9) dX4_weigh_8 rfl rfl rfl ?_
  obtain ⟨h2, hF⟩ := ck_of hF
  refine Z_iald (pc' := 10) (eC_bt hG (zIn_lt h1)) (zIn_in h2) dX4_weigh_9 rfl ?_
  obtain ⟨v3, hv3, hF⟩ := zl_of hF
  refine Z_istore_nE (i := 3) (x' := v3) (vs' := [some (.ref (ad 80)), some (.int x1), some (.int x2), some (.int v3), none]) (pc' := 11) dX4_weigh_10 rfl hv3 (by decide) rfl rfl ?_
  refine Z_iconst (v := 0) (pc' := 12) dX4_weigh_11 (by decide) rfl ?_
  refine Z_istoreE (i := 4) (x' := (0 : Int32)) (vs' := [some (.ref (ad 80)), some (.int x1), some (.int x2), some (.int v3), some (.int (0 : Int32))]) (pc' := 14) dX4_weigh_12 rfl (by decide) rfl rfl ?_
  obtain ⟨r11, hr11, hF⟩ := bd_of hF
  refine Z_sub (vs' := [some (.ref (ad 80)), some (.int x1), some (.int x2), some (.int v3), some (.int (0 : Int32))]) (zSb_of _ _ ⟨rfl, ⟨rfl, ⟨rfl, ⟨rfl, ⟨rfl, trivial⟩⟩⟩⟩⟩) (qX4_weigh_L14 hG zF x1 x2 v3 (0 : Int32) σ _ hr11 ?_)
  refine Z_iload_n (i := 3) (pc' := 54) dX4_weigh_53 rfl rfl rfl ?_
  cases hF
  exact Z_iret (ty := .int) (w := r11.1) dX4_weigh_54 rfl rfl (Nat.le_refl _) (Nat.le_refl _) ⟨rfl, rfl⟩
abbrev rmX4_weighAll : Room := { frames := 2, cells := 0, slots := 0, locals := 47 }
def c4_weighAll_L33 (N : Nat) (c : Nat → Nat) (x1_ : Int32) (x2_ : Int32) (x3_ : Int32) (σ : zS) : Option (zS) := match N with
  | 0 => none
  | n + 1 => (if x1_ ≤ x3_ then some (σ) else (if zIn x2_ 7 = true then ((c4_weigh c x2_ x3_ σ).bind (fun y8 => (if zIn x3_ 256 = true then zl (zs y8.2 (19 + (x2_).toNatClampNeg) (x3_).toNatClampNeg y8.1) (fun (σ10 : zS) => zl (x3_ + 1) (fun (v11 : Int32) => (c4_weighAll_L33 n c x1_ x2_ v11 σ10))) else none))) else none))
def c4_weighAll_L27 (N : Nat) (c : Nat → Nat) (x1_ : Int32) (x2_ : Int32) (σ : zS) : Option (zS) := match N with
  | 0 => none
  | n + 1 => (if x2_ < 0 then some (σ) else ((c4_weighAll_L33 zF c x1_ x2_ (0 : Int32) σ).bind (fun r6 => zl (x2_ + (-1)) (fun (v7 : Int32) => (c4_weighAll_L27 n c x1_ v7 r6)))))
def c4_weighAll (c : Nat → Nat)  (σ : zS) : Option (Int32 × zS) := zl ((1 : Int32) <<< ((σ 36 0) &&& 31)) (fun (v1 : Int32) => (if zIn (σ 37 0) 7 = true then zl (zsf σ (19 + (σ 37 0).toNatClampNeg) 256 (0 : Int32)) (fun (σ3 : zS) => zl ((σ3 37 0) - (1 : Int32)) (fun (v4 : Int32) => ((c4_weighAll_L27 zF c v1 v4 σ3).bind (fun r8 => some (0, r8))))) else none))
set_option maxHeartbeats 4000000 in
set_option maxRecDepth 100000 in
theorem qX4_weighAll_L33 {l : Launch} {D : va_G} {M0 : zM} {Q : Option Value → zM → Prop} {c ad dec : Nat → Nat} (hG : cG c ad dec) : ∀ (n : Nat) (x1_ : Int32) (x2_ : Int32) (x3_ : Int32) (σ : zS) (r : (zS)), c4_weighAll_L33 n c x1_ x2_ x3_ σ = some r → (Z l yX4_weighAll cX4_weighAll 4 none rmX4_weighAll 0 0 D M0 Q 0 0 58 [some (.ref (ad 80)), some (.int x1_), some (.int x2_), none] [] (mC c ad dec r)) → Z l yX4_weighAll cX4_weighAll 4 none rmX4_weighAll 0 0 D M0 Q 0 0 33 [some (.ref (ad 80)), some (.int x1_), some (.int x2_), some (.int x3_)] [] (mC c ad dec σ) := by
  intro n
  induction n with
  | zero =>
    intro x1_ x2_ x3_ σ r hF hE
    exact absurd (show (none : Option (zS)) = some r from hF) (by simp)
  | succ n ih =>
    intro x1_ x2_ x3_ σ r hF hE
    replace hF : (if x1_ ≤ x3_ then some (σ) else (if zIn x2_ 7 = true then ((c4_weigh c x2_ x3_ σ).bind (fun y8 => (if zIn x3_ 256 = true then zl (zs y8.2 (19 + (x2_).toNatClampNeg) (x3_).toNatClampNeg y8.1) (fun (σ10 : zS) => zl (x3_ + 1) (fun (v11 : Int32) => (c4_weighAll_L33 n c x1_ x2_ v11 σ10))) else none))) else none)) = some r := hF
    refine Z_iload_n (i := 3) (pc' := 34) dX4_weighAll_33 rfl rfl rfl ?_
    refine Z_iload_n (i := 1) (pc' := 35) dX4_weighAll_34 rfl rfl rfl ?_
    refine Z_icmp_ge (tgt := 58) (pc' := 38) dX4_weighAll_35 (by decide) rfl (fun h6 => ?_) (fun h6 => ?_)
    · rw [if_pos h6] at hF
      cases hF
      exact Z_sub (vs' := [some (.ref (ad 80)), some (.int x1_), some (.int x2_), none]) (zSb_of _ _ ⟨rfl, ⟨rfl, ⟨rfl, trivial⟩⟩⟩) hE
    · rw [if_neg h6] at hF
      refine Z_aload_n (i := 0) (pc' := 39) dX4_weighAll_38 rfl rfl rfl ?_
      refine Z_get (v := .ref (ad 128)) (pc' := 42) 7 zinX4 rfl (by decide) lkX4_36 (eC_10 hG) rfl dX4_weighAll_39 rfl ?_
      refine Z_iload_n (i := 2) (pc' := 43) dX4_weighAll_42 rfl rfl rfl ?_
      obtain ⟨h7, hF⟩ := ck_of hF
      refine Z_aaldB (pc' := 44) (eC_16 hG) h7 dX4_weighAll_43 rfl ?_
      refine Z_iload_n (i := 3) (pc' := 45) dX4_weighAll_44 rfl rfl rfl ?_
      refine Z_aload_n (i := 0) (pc' := 46) dX4_weighAll_45 rfl rfl rfl ?_
      refine Z_iload_n (i := 2) (pc' := 47) dX4_weighAll_46 rfl rfl rfl ?_
      refine Z_iload_n (i := 3) (pc' := 48) dX4_weighAll_47 rfl rfl rfl ?_
      obtain ⟨y8, hy8, hF⟩ := bd_of hF
      refine Z_callVi (As := [.int x2_, .int x3_]) (st := [.int x3_, .ref (ad (8 * (19 + (x2_).toNatClampNeg)))]) (pc' := 51) (k' := 0) (n' := 0) (qX4_weigh l hG hy8) ckX4_weigh kvX4_weigh mlX4_69 (eC_10 hG) rfl rfl rfl (Nat.le_of_ble_eq_true rfl) ⟨Nat.le_of_ble_eq_true rfl, Nat.le_of_ble_eq_true rfl⟩ ⟨Nat.le_of_ble_eq_true rfl, Nat.le_of_ble_eq_true rfl⟩ dX4_weighAll_48 rfl rfl rfl ?_
      obtain ⟨h9, hF⟩ := ck_of hF
      obtain ⟨σ10, hσ10, hF⟩ := zl_of hF
      refine Z_iast (pc' := 52) (eC_bt hG (zIn_lt h7)) (zIn_in h9) dX4_weighAll_51 rfl ?_
      refine Z_mem (sC_bt hG (zIn_lt h7) hσ10) ?_
      obtain ⟨v11, hv11, hF⟩ := zl_of hF
      refine Z_iinc (i := 3) (v := v11) (vs' := [some (.ref (ad 80)), some (.int x1_), some (.int x2_), some (.int v11)]) (pc' := 55) dX4_weighAll_52 rfl (by rw [hv11]; rfl) (by decide) rfl rfl ?_
      refine Z_goto (tgt := 33) dX4_weighAll_55 (by decide) ?_
      exact Z_sub (vs' := [some (.ref (ad 80)), some (.int x1_), some (.int x2_), some (.int v11)]) (zSb_of _ _ ⟨rfl, ⟨rfl, ⟨rfl, ⟨rfl, trivial⟩⟩⟩⟩) (ih x1_ x2_ v11 σ10 _ hF hE)
set_option maxHeartbeats 4000000 in
set_option maxRecDepth 100000 in
theorem qX4_weighAll_L27 {l : Launch} {D : va_G} {M0 : zM} {Q : Option Value → zM → Prop} {c ad dec : Nat → Nat} (hG : cG c ad dec) : ∀ (n : Nat) (x1_ : Int32) (x2_ : Int32) (σ : zS) (r : (zS)), c4_weighAll_L27 n c x1_ x2_ σ = some r → (Z l yX4_weighAll cX4_weighAll 4 none rmX4_weighAll 0 0 D M0 Q 0 0 64 [none, none, none, none] [] (mC c ad dec r)) → Z l yX4_weighAll cX4_weighAll 4 none rmX4_weighAll 0 0 D M0 Q 0 0 27 [some (.ref (ad 80)), some (.int x1_), some (.int x2_), none] [] (mC c ad dec σ) := by
  intro n
  induction n with
  | zero =>
    intro x1_ x2_ σ r hF hE
    exact absurd (show (none : Option (zS)) = some r from hF) (by simp)
  | succ n ih =>
    intro x1_ x2_ σ r hF hE
    replace hF : (if x2_ < 0 then some (σ) else ((c4_weighAll_L33 zF c x1_ x2_ (0 : Int32) σ).bind (fun r6 => zl (x2_ + (-1)) (fun (v7 : Int32) => (c4_weighAll_L27 n c x1_ v7 r6))))) = some r := hF
    refine Z_iload_n (i := 2) (pc' := 28) dX4_weighAll_27 rfl rfl rfl ?_
    refine Z_if_lt (tgt := 64) (pc' := 31) dX4_weighAll_28 (by decide) rfl (fun h5 => ?_) (fun h5 => ?_)
    · rw [if_pos h5] at hF
      cases hF
      exact Z_sub (vs' := [none, none, none, none]) (zSb_of _ _ trivial) hE
    · rw [if_neg h5] at hF
      refine Z_iconst (v := 0) (pc' := 32) dX4_weighAll_31 (by decide) rfl ?_
      refine Z_istore_nE (i := 3) (x' := (0 : Int32)) (vs' := [some (.ref (ad 80)), some (.int x1_), some (.int x2_), some (.int (0 : Int32))]) (pc' := 33) dX4_weighAll_32 rfl rfl (by decide) rfl rfl ?_
      obtain ⟨r6, hr6, hF⟩ := bd_of hF
      refine Z_sub (vs' := [some (.ref (ad 80)), some (.int x1_), some (.int x2_), some (.int (0 : Int32))]) (zSb_of _ _ ⟨rfl, ⟨rfl, ⟨rfl, ⟨rfl, trivial⟩⟩⟩⟩) (qX4_weighAll_L33 hG zF x1_ x2_ (0 : Int32) σ _ hr6 ?_)
      obtain ⟨v7, hv7, hF⟩ := zl_of hF
      refine Z_iinc (i := 2) (v := v7) (vs' := [some (.ref (ad 80)), some (.int x1_), some (.int v7), none]) (pc' := 61) dX4_weighAll_58 rfl (by rw [hv7]; rfl) (by decide) rfl rfl ?_
      refine Z_goto (tgt := 27) dX4_weighAll_61 (by decide) ?_
      exact Z_sub (vs' := [some (.ref (ad 80)), some (.int x1_), some (.int v7), none]) (zSb_of _ _ ⟨rfl, ⟨rfl, ⟨rfl, trivial⟩⟩⟩) (ih x1_ v7 r6 _ hF hE)
set_option maxHeartbeats 4000000 in
set_option maxRecDepth 100000 in
theorem qX4_weighAll (l : Launch) {c ad dec : Nat → Nat} (hG : cG c ad dec)  {σ : zS} {w : Int32 × zS} (hF : c4_weighAll c  σ = some w) : zMet l yX4_weighAll cX4_weighAll 4 none rmX4_weighAll [.ref (ad 80)] (mC c ad dec σ) (fun v M' => v = none ∧ M' = (mC c ad dec w.2)) := by
  refine zMet.ofZ (vs := [some (.ref (ad 80)), none, none, none]) (by decide) rfl (zCt_of _ ⟨rfl, trivial⟩) (Nat.le_of_ble_eq_true rfl) (fun D => ?_)
  unfold c4_weighAll at hF
  refine Z_iconst (v := 1) (pc' := 1) dX4_weighAll_0 (by decide) rfl ?_
  refine Z_aload_n (i := 0) (pc' := 2) dX4_weighAll_1 rfl rfl rfl ?_
  refine Z_get (v := .int (σ 36 0)) (pc' := 5) 3 zinX4 rfl (by decide) lkX4_21 (eC_10 hG) rfl dX4_weighAll_2 rfl ?_
  refine Z_ishl (pc' := 6) dX4_weighAll_5 rfl ?_
  obtain ⟨v1, hv1, hF⟩ := zl_of hF
  refine Z_istore_nE (i := 1) (x' := v1) (vs' := [some (.ref (ad 80)), some (.int v1), none, none]) (pc' := 7) dX4_weighAll_6 rfl hv1 (by decide) rfl rfl ?_
  refine Z_aload_n (i := 0) (pc' := 8) dX4_weighAll_7 rfl rfl rfl ?_
  refine Z_get (v := .ref (ad 128)) (pc' := 11) 7 zinX4 rfl (by decide) lkX4_36 (eC_10 hG) rfl dX4_weighAll_8 rfl ?_
  refine Z_aload_n (i := 0) (pc' := 12) dX4_weighAll_11 rfl rfl rfl ?_
  refine Z_get (v := .int (σ 37 0)) (pc' := 15) 6 zinX4 rfl (by decide) lkX4_31 (eC_10 hG) rfl dX4_weighAll_12 rfl ?_
  obtain ⟨h2, hF⟩ := ck_of hF
  refine Z_aaldB (pc' := 16) (eC_16 hG) h2 dX4_weighAll_15 rfl ?_
  refine Z_iconst (v := 0) (pc' := 17) dX4_weighAll_16 (by decide) rfl ?_
  obtain ⟨σ3, hσ3, hF⟩ := zl_of hF
  refine Z_callSv (As := [.ref (ad (8 * (19 + (σ 37 0).toNatClampNeg))), .int (0 : Int32)]) (st := []) (pc' := 20) (k' := 0) (n' := 0) (qJ7_fill_53178 l (eC_bt hG (zIn_lt h2))) ckJ7_fill_53178 ksJ7_fill_53178 mlX4_63 rfl rfl (Nat.le_of_ble_eq_true rfl) ⟨Nat.le_of_ble_eq_true rfl, Nat.le_of_ble_eq_true rfl⟩ ⟨Nat.le_of_ble_eq_true rfl, Nat.le_of_ble_eq_true rfl⟩ dX4_weighAll_17 rfl rfl rfl ?_
  refine Z_mem (fC_bt hG (zIn_lt h2) hσ3) ?_
  refine Z_aload_n (i := 0) (pc' := 21) dX4_weighAll_20 rfl rfl rfl ?_
  refine Z_get (v := .int (σ3 37 0)) (pc' := 24) 6 zinX4 rfl (by decide) lkX4_31 (eC_10 hG) rfl dX4_weighAll_21 rfl ?_
  refine Z_iconst (v := 1) (pc' := 25) dX4_weighAll_24 (by decide) rfl ?_
  refine Z_isub (pc' := 26) dX4_weighAll_25 rfl ?_
  obtain ⟨v4, hv4, hF⟩ := zl_of hF
  refine Z_istore_nE (i := 2) (x' := v4) (vs' := [some (.ref (ad 80)), some (.int v1), some (.int v4), none]) (pc' := 27) dX4_weighAll_26 rfl hv4 (by decide) rfl rfl ?_
  obtain ⟨r8, hr8, hF⟩ := bd_of hF
  refine Z_sub (vs' := [some (.ref (ad 80)), some (.int v1), some (.int v4), none]) (zSb_of _ _ ⟨rfl, ⟨rfl, ⟨rfl, trivial⟩⟩⟩) (qX4_weighAll_L27 hG zF v1 v4 σ3 _ hr8 ?_)
  cases hF
  exact Z_vret dX4_weighAll_64 rfl (Nat.le_refl _) (Nat.le_refl _) ⟨rfl, rfl⟩
abbrev rmX4_choiceFor : Room := { frames := 1, cells := 0, slots := 0, locals := 23 }
def c4_choiceFor_L2 (N : Nat) (c : Nat → Nat) (x1_ : Int32) (x2_ : Int32) (x3_ : Int32) (σ : zS) : Option ((Int32 × zS) ⊕ (zS)) := match N with
  | 0 => none
  | n + 1 => (if (σ 36 0) ≤ x3_ then some (.inr (σ)) else ((c4_canClose c x3_ x1_ x2_ σ).bind (fun y2 => (if y2.1 = 0 then zl (x3_ + 1) (fun (v4 : Int32) => (c4_choiceFor_L2 n c x1_ x2_ v4 y2.2)) else ((c4_weightWith c x3_ x1_ x2_ y2.2).bind (fun y5 => (if zIn x1_ 7 = true then (if zIn x2_ 256 = true then (if y5.1 = (y5.2 (19 + (x1_).toNatClampNeg) (x2_).toNatClampNeg) then some (.inl (x3_, y5.2)) else zl (x3_ + 1) (fun (v9 : Int32) => (c4_choiceFor_L2 n c x1_ x2_ v9 y5.2))) else none) else none)))))))
def c4_choiceFor (c : Nat → Nat) (x1 : Int32) (x2 : Int32) (σ : zS) : Option (Int32 × zS) := ((c4_choiceFor_L2 zF c x1 x2 (0 : Int32) σ).bind (zsum (fun w => some w) (fun q11 => some ((-1 : Int32), q11))))
set_option maxHeartbeats 4000000 in
set_option maxRecDepth 100000 in
theorem qX4_choiceFor_L2 {l : Launch} {D : va_G} {M0 : zM} {Q : Option Value → zM → Prop} {c ad dec : Nat → Nat} (hG : cG c ad dec) : ∀ (n : Nat) (x1_ : Int32) (x2_ : Int32) (x3_ : Int32) (σ : zS) (r : ((Int32 × zS) ⊕ (zS))), c4_choiceFor_L2 n c x1_ x2_ x3_ σ = some r → ((∀ a, r = .inl a → Q (some (.int a.1)) (mC c ad dec a.2))) → ((∀ q, r = .inr q → Z l yX4_choiceFor cX4_choiceFor 4 (some .int) rmX4_choiceFor 0 0 D M0 Q 0 0 46 [none, none, none, none] [] (mC c ad dec q))) → Z l yX4_choiceFor cX4_choiceFor 4 (some .int) rmX4_choiceFor 0 0 D M0 Q 0 0 2 [some (.ref (ad 80)), some (.int x1_), some (.int x2_), some (.int x3_)] [] (mC c ad dec σ) := by
  intro n
  induction n with
  | zero =>
    intro x1_ x2_ x3_ σ r hF hI hE
    exact absurd (show (none : Option ((Int32 × zS) ⊕ (zS))) = some r from hF) (by simp)
  | succ n ih =>
    intro x1_ x2_ x3_ σ r hF hI hE
    replace hF : (if (σ 36 0) ≤ x3_ then some (.inr (σ)) else ((c4_canClose c x3_ x1_ x2_ σ).bind (fun y2 => (if y2.1 = 0 then zl (x3_ + 1) (fun (v4 : Int32) => (c4_choiceFor_L2 n c x1_ x2_ v4 y2.2)) else ((c4_weightWith c x3_ x1_ x2_ y2.2).bind (fun y5 => (if zIn x1_ 7 = true then (if zIn x2_ 256 = true then (if y5.1 = (y5.2 (19 + (x1_).toNatClampNeg) (x2_).toNatClampNeg) then some (.inl (x3_, y5.2)) else zl (x3_ + 1) (fun (v9 : Int32) => (c4_choiceFor_L2 n c x1_ x2_ v9 y5.2))) else none) else none))))))) = some r := hF
    refine Z_iload_n (i := 3) (pc' := 3) dX4_choiceFor_2 rfl rfl rfl ?_
    refine Z_aload_n (i := 0) (pc' := 4) dX4_choiceFor_3 rfl rfl rfl ?_
    refine Z_get (v := .int (σ 36 0)) (pc' := 7) 3 zinX4 rfl (by decide) lkX4_21 (eC_10 hG) rfl dX4_choiceFor_4 rfl ?_
    refine Z_icmp_ge (tgt := 46) (pc' := 10) dX4_choiceFor_7 (by decide) rfl (fun h1 => ?_) (fun h1 => ?_)
    · rw [if_pos h1] at hF
      cases hF
      exact Z_sub (vs' := [none, none, none, none]) (zSb_of _ _ trivial) (hE _ rfl)
    · rw [if_neg h1] at hF
      refine Z_aload_n (i := 0) (pc' := 11) dX4_choiceFor_10 rfl rfl rfl ?_
      refine Z_iload_n (i := 3) (pc' := 12) dX4_choiceFor_11 rfl rfl rfl ?_
      refine Z_iload_n (i := 1) (pc' := 13) dX4_choiceFor_12 rfl rfl rfl ?_
      refine Z_iload_n (i := 2) (pc' := 14) dX4_choiceFor_13 rfl rfl rfl ?_
      obtain ⟨y2, hy2, hF⟩ := bd_of hF
      refine Z_callVi (As := [.int x3_, .int x1_, .int x2_]) (st := []) (pc' := 17) (k' := 0) (n' := 0) (qX4_canClose l hG hy2) ckX4_canClose kvX4_canClose mlX4_72 (eC_10 hG) rfl rfl rfl (Nat.le_of_ble_eq_true rfl) ⟨Nat.le_of_ble_eq_true rfl, Nat.le_of_ble_eq_true rfl⟩ ⟨Nat.le_of_ble_eq_true rfl, Nat.le_of_ble_eq_true rfl⟩ dX4_choiceFor_14 rfl rfl rfl ?_
      refine Z_if_eq (tgt := 40) (pc' := 20) dX4_choiceFor_17 (by decide) rfl (fun h3 => ?_) (fun h3 => ?_)
      · rw [if_pos h3] at hF
        obtain ⟨v4, hv4, hF⟩ := zl_of hF
        refine Z_iinc (i := 3) (v := v4) (vs' := [some (.ref (ad 80)), some (.int x1_), some (.int x2_), some (.int v4)]) (pc' := 43) dX4_choiceFor_40 rfl (by rw [hv4]; rfl) (by decide) rfl rfl ?_
        refine Z_goto (tgt := 2) dX4_choiceFor_43 (by decide) ?_
        exact Z_sub (vs' := [some (.ref (ad 80)), some (.int x1_), some (.int x2_), some (.int v4)]) (zSb_of _ _ ⟨rfl, ⟨rfl, ⟨rfl, ⟨rfl, trivial⟩⟩⟩⟩) (ih x1_ x2_ v4 y2.2 _ hF hI hE)
      · rw [if_neg h3] at hF
        refine Z_aload_n (i := 0) (pc' := 21) dX4_choiceFor_20 rfl rfl rfl ?_
        refine Z_iload_n (i := 3) (pc' := 22) dX4_choiceFor_21 rfl rfl rfl ?_
        refine Z_iload_n (i := 1) (pc' := 23) dX4_choiceFor_22 rfl rfl rfl ?_
        refine Z_iload_n (i := 2) (pc' := 24) dX4_choiceFor_23 rfl rfl rfl ?_
        obtain ⟨y5, hy5, hF⟩ := bd_of hF
        refine Z_callVi (As := [.int x3_, .int x1_, .int x2_]) (st := []) (pc' := 27) (k' := 0) (n' := 0) (qX4_weightWith l hG hy5) ckX4_weightWith kvX4_weightWith mlX4_76 (eC_10 hG) rfl rfl rfl (Nat.le_of_ble_eq_true rfl) ⟨Nat.le_of_ble_eq_true rfl, Nat.le_of_ble_eq_true rfl⟩ ⟨Nat.le_of_ble_eq_true rfl, Nat.le_of_ble_eq_true rfl⟩ dX4_choiceFor_24 rfl rfl rfl ?_
        refine Z_aload_n (i := 0) (pc' := 28) dX4_choiceFor_27 rfl rfl rfl ?_
        refine Z_get (v := .ref (ad 128)) (pc' := 31) 7 zinX4 rfl (by decide) lkX4_36 (eC_10 hG) rfl dX4_choiceFor_28 rfl ?_
        refine Z_iload_n (i := 1) (pc' := 32) dX4_choiceFor_31 rfl rfl rfl ?_
        obtain ⟨h6, hF⟩ := ck_of hF
        refine Z_aaldB (pc' := 33) (eC_16 hG) h6 dX4_choiceFor_32 rfl ?_
        refine Z_iload_n (i := 2) (pc' := 34) dX4_choiceFor_33 rfl rfl rfl ?_
        obtain ⟨h7, hF⟩ := ck_of hF
        refine Z_iald (pc' := 35) (eC_bt hG (zIn_lt h6)) (zIn_in h7) dX4_choiceFor_34 rfl ?_
        refine Z_icmp_ne (tgt := 40) (pc' := 38) dX4_choiceFor_35 (by decide) rfl (fun h8 => ?_) (fun h8 => ?_)
        · rw [if_neg h8] at hF
          obtain ⟨v9, hv9, hF⟩ := zl_of hF
          refine Z_iinc (i := 3) (v := v9) (vs' := [some (.ref (ad 80)), some (.int x1_), some (.int x2_), some (.int v9)]) (pc' := 43) dX4_choiceFor_40 rfl (by rw [hv9]; rfl) (by decide) rfl rfl ?_
          refine Z_goto (tgt := 2) dX4_choiceFor_43 (by decide) ?_
          exact Z_sub (vs' := [some (.ref (ad 80)), some (.int x1_), some (.int x2_), some (.int v9)]) (zSb_of _ _ ⟨rfl, ⟨rfl, ⟨rfl, ⟨rfl, trivial⟩⟩⟩⟩) (ih x1_ x2_ v9 y5.2 _ hF hI hE)
        · rw [if_pos h8] at hF
          refine Z_iload_n (i := 3) (pc' := 39) dX4_choiceFor_38 rfl rfl rfl ?_
          cases hF
          exact Z_iret (ty := .int) (w := x3_) dX4_choiceFor_39 rfl rfl (Nat.le_refl _) (Nat.le_refl _) (hI _ rfl)
set_option maxHeartbeats 4000000 in
set_option maxRecDepth 100000 in
theorem qX4_choiceFor (l : Launch) {c ad dec : Nat → Nat} (hG : cG c ad dec) {x1 : Int32} {x2 : Int32} {σ : zS} {w : Int32 × zS} (hF : c4_choiceFor c x1 x2 σ = some w) : zMet l yX4_choiceFor cX4_choiceFor 4 (some .int) rmX4_choiceFor [.ref (ad 80), .int x1, .int x2] (mC c ad dec σ) (fun v M' => v = (some (.int w.1)) ∧ M' = (mC c ad dec w.2)) := by
  refine zMet.ofZ (vs := [some (.ref (ad 80)), some (.int x1), some (.int x2), none]) (by decide) rfl (zCt_of _ ⟨rfl, ⟨rfl, ⟨rfl, trivial⟩⟩⟩) (Nat.le_of_ble_eq_true rfl) (fun D => ?_)
  unfold c4_choiceFor at hF
  refine Z_iconst (v := 0) (pc' := 1) dX4_choiceFor_0 (by decide) rfl ?_
  refine Z_istore_nE (i := 3) (x' := (0 : Int32)) (vs' := [some (.ref (ad 80)), some (.int x1), some (.int x2), some (.int (0 : Int32))]) (pc' := 2) dX4_choiceFor_1 rfl rfl (by decide) rfl rfl ?_
  obtain ⟨r10, hr10, hF⟩ := bd_of hF
  refine Z_sub (vs' := [some (.ref (ad 80)), some (.int x1), some (.int x2), some (.int (0 : Int32))]) (zSb_of _ _ ⟨rfl, ⟨rfl, ⟨rfl, ⟨rfl, trivial⟩⟩⟩⟩) (qX4_choiceFor_L2 hG zF x1 x2 (0 : Int32) σ _ hr10 (fun w hw => ?_) (fun q11 hq11 => ?_))
  · rw [hw] at hF
    have hF := zsum_l hF
    cases hF
    exact ⟨rfl, rfl⟩
  · rw [hq11] at hF
    replace hF := zsum_r hF
    refine Z_iconst (v := -1) (pc' := 47) dX4_choiceFor_46 (by decide) rfl ?_
    cases hF
    exact Z_iret (ty := .int) (w := (-1 : Int32)) dX4_choiceFor_47 rfl rfl (Nat.le_refl _) (Nat.le_refl _) ⟨rfl, rfl⟩
abbrev rmX4_solve : Room := { frames := 3, cells := 0, slots := 0, locals := 70 }
def c4_solve_L10 (N : Nat) (c : Nat → Nat) (x1_ : Int32) (x2_ : Int32) (x3_ : Int32) (σ : zS) : Option (Int32 × zS) := match N with
  | 0 => none
  | n + 1 => (if (σ 37 0) ≤ x3_ then some (x1_, σ) else ((c4_choiceFor c x3_ x2_ σ).bind (fun y3 => (if zIn x3_ 6 = true then zl (zs y3.2 17 (x3_).toNatClampNeg (-1 : Int32)) (fun (σ5 : zS) => (if y3.1 = (-1 : Int32) then zl (x3_ + 1) (fun (v7 : Int32) => (c4_solve_L10 n c x1_ x2_ v7 σ5)) else (if zIn y3.1 8 = true then zl (zs σ5 17 (x3_).toNatClampNeg (σ5 11 (y3.1).toNatClampNeg)) (fun (σ9 : zS) => zl (x2_ ||| ((1 : Int32) <<< (y3.1 &&& 31))) (fun (v10 : Int32) => zl (x1_ + 1) (fun (v11 : Int32) => zl (x3_ + 1) (fun (v12 : Int32) => (c4_solve_L10 n c v11 v10 v12 σ9))))) else none))) else none))))
def c4_solve (c : Nat → Nat)  (σ : zS) : Option (Int32 × zS) := ((c4_weighAll c  σ).bind (fun y1 => ((c4_solve_L10 zF c (0 : Int32) (0 : Int32) (0 : Int32) y1.2).bind (fun r13 => some (r13.1, r13.2)))))
set_option maxHeartbeats 4000000 in
set_option maxRecDepth 100000 in
theorem qX4_solve_L10 {l : Launch} {D : va_G} {M0 : zM} {Q : Option Value → zM → Prop} {c ad dec : Nat → Nat} (hG : cG c ad dec) : ∀ (n : Nat) (x1_ : Int32) (x2_ : Int32) (x3_ : Int32) (σ : zS) (r : (Int32 × zS)), c4_solve_L10 n c x1_ x2_ x3_ σ = some r → (Z l yX4_solve cX4_solve 5 (some .int) rmX4_solve 0 0 D M0 Q 0 0 68 [none, some (.int r.1), none, none, none] [] (mC c ad dec r.2)) → Z l yX4_solve cX4_solve 5 (some .int) rmX4_solve 0 0 D M0 Q 0 0 10 [some (.ref (ad 80)), some (.int x1_), some (.int x2_), some (.int x3_), none] [] (mC c ad dec σ) := by
  intro n
  induction n with
  | zero =>
    intro x1_ x2_ x3_ σ r hF hE
    exact absurd (show (none : Option (Int32 × zS)) = some r from hF) (by simp)
  | succ n ih =>
    intro x1_ x2_ x3_ σ r hF hE
    replace hF : (if (σ 37 0) ≤ x3_ then some (x1_, σ) else ((c4_choiceFor c x3_ x2_ σ).bind (fun y3 => (if zIn x3_ 6 = true then zl (zs y3.2 17 (x3_).toNatClampNeg (-1 : Int32)) (fun (σ5 : zS) => (if y3.1 = (-1 : Int32) then zl (x3_ + 1) (fun (v7 : Int32) => (c4_solve_L10 n c x1_ x2_ v7 σ5)) else (if zIn y3.1 8 = true then zl (zs σ5 17 (x3_).toNatClampNeg (σ5 11 (y3.1).toNatClampNeg)) (fun (σ9 : zS) => zl (x2_ ||| ((1 : Int32) <<< (y3.1 &&& 31))) (fun (v10 : Int32) => zl (x1_ + 1) (fun (v11 : Int32) => zl (x3_ + 1) (fun (v12 : Int32) => (c4_solve_L10 n c v11 v10 v12 σ9))))) else none))) else none)))) = some r := hF
    refine Z_iload_n (i := 3) (pc' := 11) dX4_solve_10 rfl rfl rfl ?_
    refine Z_aload_n (i := 0) (pc' := 12) dX4_solve_11 rfl rfl rfl ?_
    refine Z_get (v := .int (σ 37 0)) (pc' := 15) 6 zinX4 rfl (by decide) lkX4_31 (eC_10 hG) rfl dX4_solve_12 rfl ?_
    refine Z_icmp_ge (tgt := 68) (pc' := 18) dX4_solve_15 (by decide) rfl (fun h2 => ?_) (fun h2 => ?_)
    · rw [if_pos h2] at hF
      cases hF
      exact Z_sub (vs' := [none, some (.int x1_), none, none, none]) (zSb_of _ _ ⟨rfl, trivial⟩) hE
    · rw [if_neg h2] at hF
      refine Z_aload_n (i := 0) (pc' := 19) dX4_solve_18 rfl rfl rfl ?_
      refine Z_iload_n (i := 3) (pc' := 20) dX4_solve_19 rfl rfl rfl ?_
      refine Z_iload_n (i := 2) (pc' := 21) dX4_solve_20 rfl rfl rfl ?_
      obtain ⟨y3, hy3, hF⟩ := bd_of hF
      refine Z_callVi (As := [.int x3_, .int x2_]) (st := []) (pc' := 24) (k' := 0) (n' := 0) (qX4_choiceFor l hG hy3) ckX4_choiceFor kvX4_choiceFor mlX4_59 (eC_10 hG) rfl rfl rfl (Nat.le_of_ble_eq_true rfl) ⟨Nat.le_of_ble_eq_true rfl, Nat.le_of_ble_eq_true rfl⟩ ⟨Nat.le_of_ble_eq_true rfl, Nat.le_of_ble_eq_true rfl⟩ dX4_solve_21 rfl rfl rfl ?_
      refine Z_istoreE (i := 4) (x' := y3.1) (vs' := [some (.ref (ad 80)), some (.int x1_), some (.int x2_), some (.int x3_), some (.int y3.1)]) (pc' := 26) dX4_solve_24 rfl (by decide) rfl rfl ?_
      refine Z_aload_n (i := 0) (pc' := 27) dX4_solve_26 rfl rfl rfl ?_
      refine Z_get (v := .ref (ad 136)) (pc' := 30) 8 zinX4 rfl (by decide) lkX4_39 (eC_10 hG) rfl dX4_solve_27 rfl ?_
      refine Z_iload_n (i := 3) (pc' := 31) dX4_solve_30 rfl rfl rfl ?_
      refine Z_iconst (v := -1) (pc' := 32) dX4_solve_31 (by decide) rfl ?_
      obtain ⟨h4, hF⟩ := ck_of hF
      obtain ⟨σ5, hσ5, hF⟩ := zl_of hF
      refine Z_iast (pc' := 33) (eC_17 hG) (zIn_in h4) dX4_solve_32 rfl ?_
      refine Z_mem (sC_17 hG hσ5) ?_
      refine Z_iload (i := 4) (pc' := 35) dX4_solve_33 rfl rfl ?_
      refine Z_iconst (v := -1) (pc' := 36) dX4_solve_35 (by decide) rfl ?_
      refine Z_icmp_eq (tgt := 62) (pc' := 39) dX4_solve_36 (by decide) rfl (fun h6 => ?_) (fun h6 => ?_)
      · rw [if_pos h6] at hF
        obtain ⟨v7, hv7, hF⟩ := zl_of hF
        refine Z_iinc (i := 3) (v := v7) (vs' := [some (.ref (ad 80)), some (.int x1_), some (.int x2_), some (.int v7), some (.int y3.1)]) (pc' := 65) dX4_solve_62 rfl (by rw [hv7]; rfl) (by decide) rfl rfl ?_
        refine Z_goto (tgt := 10) dX4_solve_65 (by decide) ?_
        exact Z_sub (vs' := [some (.ref (ad 80)), some (.int x1_), some (.int x2_), some (.int v7), none]) (zSb_of _ _ ⟨rfl, ⟨rfl, ⟨rfl, ⟨rfl, trivial⟩⟩⟩⟩) (ih x1_ x2_ v7 σ5 _ hF hE)
      · rw [if_neg h6] at hF
        refine Z_aload_n (i := 0) (pc' := 40) dX4_solve_39 rfl rfl rfl ?_
        refine Z_get (v := .ref (ad 136)) (pc' := 43) 8 zinX4 rfl (by decide) lkX4_39 (eC_10 hG) rfl dX4_solve_40 rfl ?_
        refine Z_iload_n (i := 3) (pc' := 44) dX4_solve_43 rfl rfl rfl ?_
        refine Z_aload_n (i := 0) (pc' := 45) dX4_solve_44 rfl rfl rfl ?_
        refine Z_get (v := .ref (ad 88)) (pc' := 48) 0 zinX4 rfl (by decide) lkX4_11 (eC_10 hG) rfl dX4_solve_45 rfl ?_
        refine Z_iload (i := 4) (pc' := 50) dX4_solve_48 rfl rfl ?_
        obtain ⟨h8, hF⟩ := ck_of hF
        refine Z_iald (pc' := 51) (eC_11 hG) (zIn_in h8) dX4_solve_50 rfl ?_
        obtain ⟨σ9, hσ9, hF⟩ := zl_of hF
        refine Z_iast (pc' := 52) (eC_17 hG) (zIn_in h4) dX4_solve_51 rfl ?_
        refine Z_mem (sC_17 hG hσ9) ?_
        refine Z_iload_n (i := 2) (pc' := 53) dX4_solve_52 rfl rfl rfl ?_
        refine Z_iconst (v := 1) (pc' := 54) dX4_solve_53 (by decide) rfl ?_
        refine Z_iload (i := 4) (pc' := 56) dX4_solve_54 rfl rfl ?_
        refine Z_ishl (pc' := 57) dX4_solve_56 rfl ?_
        refine Z_ior (pc' := 58) dX4_solve_57 rfl ?_
        obtain ⟨v10, hv10, hF⟩ := zl_of hF
        refine Z_istore_nE (i := 2) (x' := v10) (vs' := [some (.ref (ad 80)), some (.int x1_), some (.int v10), some (.int x3_), some (.int y3.1)]) (pc' := 59) dX4_solve_58 rfl hv10 (by decide) rfl rfl ?_
        obtain ⟨v11, hv11, hF⟩ := zl_of hF
        refine Z_iinc (i := 1) (v := v11) (vs' := [some (.ref (ad 80)), some (.int v11), some (.int v10), some (.int x3_), some (.int y3.1)]) (pc' := 62) dX4_solve_59 rfl (by rw [hv11]; rfl) (by decide) rfl rfl ?_
        obtain ⟨v12, hv12, hF⟩ := zl_of hF
        refine Z_iinc (i := 3) (v := v12) (vs' := [some (.ref (ad 80)), some (.int v11), some (.int v10), some (.int v12), some (.int y3.1)]) (pc' := 65) dX4_solve_62 rfl (by rw [hv12]; rfl) (by decide) rfl rfl ?_
        refine Z_goto (tgt := 10) dX4_solve_65 (by decide) ?_
        exact Z_sub (vs' := [some (.ref (ad 80)), some (.int v11), some (.int v10), some (.int v12), none]) (zSb_of _ _ ⟨rfl, ⟨rfl, ⟨rfl, ⟨rfl, trivial⟩⟩⟩⟩) (ih v11 v10 v12 σ9 _ hF hE)
set_option maxHeartbeats 4000000 in
set_option maxRecDepth 100000 in
theorem qX4_solve (l : Launch) {c ad dec : Nat → Nat} (hG : cG c ad dec)  {σ : zS} {w : Int32 × zS} (hF : c4_solve c  σ = some w) : zMet l yX4_solve cX4_solve 5 (some .int) rmX4_solve [.ref (ad 80)] (mC c ad dec σ) (fun v M' => v = (some (.int w.1)) ∧ M' = (mC c ad dec w.2)) := by
  refine zMet.ofZ (vs := [some (.ref (ad 80)), none, none, none, none]) (by decide) rfl (zCt_of _ ⟨rfl, trivial⟩) (Nat.le_of_ble_eq_true rfl) (fun D => ?_)
  unfold c4_solve at hF
  refine Z_aload_n (i := 0) (pc' := 1) dX4_solve_0 rfl rfl rfl ?_
  obtain ⟨y1, hy1, hF⟩ := bd_of hF
  refine Z_callVv (As := []) (st := []) (pc' := 4) (k' := 0) (n' := 0) (qX4_weighAll l hG hy1) ckX4_weighAll kvX4_weighAll mlX4_56 (eC_10 hG) rfl rfl rfl (Nat.le_of_ble_eq_true rfl) ⟨Nat.le_of_ble_eq_true rfl, Nat.le_of_ble_eq_true rfl⟩ ⟨Nat.le_of_ble_eq_true rfl, Nat.le_of_ble_eq_true rfl⟩ dX4_solve_1 rfl rfl rfl ?_
  refine Z_iconst (v := 0) (pc' := 5) dX4_solve_4 (by decide) rfl ?_
  refine Z_istore_nE (i := 1) (x' := (0 : Int32)) (vs' := [some (.ref (ad 80)), some (.int (0 : Int32)), none, none, none]) (pc' := 6) dX4_solve_5 rfl rfl (by decide) rfl rfl ?_
  refine Z_iconst (v := 0) (pc' := 7) dX4_solve_6 (by decide) rfl ?_
  refine Z_istore_nE (i := 2) (x' := (0 : Int32)) (vs' := [some (.ref (ad 80)), some (.int (0 : Int32)), some (.int (0 : Int32)), none, none]) (pc' := 8) dX4_solve_7 rfl rfl (by decide) rfl rfl ?_
  refine Z_iconst (v := 0) (pc' := 9) dX4_solve_8 (by decide) rfl ?_
  refine Z_istore_nE (i := 3) (x' := (0 : Int32)) (vs' := [some (.ref (ad 80)), some (.int (0 : Int32)), some (.int (0 : Int32)), some (.int (0 : Int32)), none]) (pc' := 10) dX4_solve_9 rfl rfl (by decide) rfl rfl ?_
  obtain ⟨r13, hr13, hF⟩ := bd_of hF
  refine Z_sub (vs' := [some (.ref (ad 80)), some (.int (0 : Int32)), some (.int (0 : Int32)), some (.int (0 : Int32)), none]) (zSb_of _ _ ⟨rfl, ⟨rfl, ⟨rfl, ⟨rfl, trivial⟩⟩⟩⟩) (qX4_solve_L10 hG zF (0 : Int32) (0 : Int32) (0 : Int32) y1.2 _ hr13 ?_)
  refine Z_iload_n (i := 1) (pc' := 69) dX4_solve_68 rfl rfl rfl ?_
  cases hF
  exact Z_iret (ty := .int) (w := r13.1) dX4_solve_69 rfl rfl (Nat.le_refl _) (Nat.le_refl _) ⟨rfl, rfl⟩
