abbrev rmX7_give : Room := { frames := 4, cells := 1, slots := 8, locals := 110 }
def c7_giveT (c : Nat → Nat) (x2 : Int32) (i4 i5 : Nat) (x9 : Int32) (σ : zS) : Option (Int32 × zS) := (if x9 = (-1 : Int32) then some (x9, σ) else (if i5 < c 0 then (if x9 = (2 : Int32) then (if i4 < c 1 then zl (zs σ 42 i5 ((σ 42 i5) + ((σ 51 i4) / (2 : Int32)))) (fun (σ9 : zS) => zl (zs σ9 54 i4 (σ9 33 0)) (fun (σ10 : zS) => ((c6_comeTo c i4 x2 (σ10 33 0) σ10).bind (fun y11 => some (x9, y11.2))))) else none) else (if i4 < c 1 then zl (zs σ 42 i5 ((σ 42 i5) + (σ 51 i4))) (fun (σ5 : zS) => zl (zs σ5 54 i4 (σ5 33 0)) (fun (σ6 : zS) => ((c6_comeTo c i4 x2 (σ6 33 0) σ6).bind (fun y7 => some (x9, y7.2))))) else none)) else none))
set_option maxHeartbeats 4000000 in
set_option maxRecDepth 100000 in
theorem qX7_give_T {l : Launch} {D : va_G} {M0 : zM} {Q : Option Value → zM → Prop} {c ad dec : Nat → Nat} (hG : cG c ad dec) {x2 x9 : Int32} {i4 i5 : Nat} {σ : zS} {w : Int32 × zS} (hF : c7_giveT c x2 i4 i5 x9 σ = some w) (hI : Q (some (.int w.1)) (mC c ad dec w.2)) : Z l yX7_give cX7_give 7 (some .int) rmX7_give 1 8 D M0 Q 1 8 72 [some (.ref (ad 0)), none, some (.int x2), none, some (.ref (ad (8 * i4 + 2))), some (.ref (ad (8 * i5 + 1))), none] [.int x9] (mC c ad dec σ) := by
  unfold c7_giveT at hF
  refine Z_istoreE (i := 6) (x' := x9) (vs' := [some (.ref (ad 0)), none, some (.int x2), none, some (.ref (ad (8 * i4 + 2))), some (.ref (ad (8 * i5 + 1))), some (.int x9)]) (pc' := 74) dX7_give_72 rfl (by decide) rfl rfl ?_
  refine Z_iload (i := 6) (pc' := 76) dX7_give_74 rfl rfl ?_
  refine Z_iconst (v := -1) (pc' := 77) dX7_give_76 (by decide) rfl ?_
  refine Z_icmp_eq (tgt := 130) (pc' := 80) dX7_give_77 (by decide) rfl (fun h1 => ?_) (fun h1 => ?_)
  · rw [if_pos h1] at hF
    refine Z_iload (i := 6) (pc' := 132) dX7_give_130 rfl rfl ?_
    cases hF
    exact Z_iret (ty := .int) (w := x9) dX7_give_132 rfl rfl (Nat.le_refl _) (Nat.le_refl _) hI
  · rw [if_neg h1] at hF
    refine Z_aload (i := 5) (pc' := 82) dX7_give_80 rfl rfl ?_
    refine Z_dup (pc' := 83) rfl dX7_give_82 rfl ?_
    obtain ⟨h2, hF⟩ := ck_of hF
    refine Z_get (v := .int (σ 42 i5)) (pc' := 86) 2 zinX3 rfl (by decide) lkX7_143 (eC_man hG h2) rfl dX7_give_83 rfl ?_
    refine Z_iload (i := 6) (pc' := 88) dX7_give_86 rfl rfl ?_
    refine Z_iconst (v := 2) (pc' := 89) dX7_give_88 (by decide) rfl ?_
    refine Z_icmp_ne (tgt := 102) (pc' := 92) dX7_give_89 (by decide) rfl (fun h3 => ?_) (fun h3 => ?_)
    · rw [if_neg h3] at hF
      refine Z_aload (i := 4) (pc' := 104) dX7_give_102 rfl rfl ?_
      obtain ⟨h4, hF⟩ := ck_of hF
      refine Z_get (v := .int (σ 51 i4)) (pc' := 107) 1 zinX6 rfl (by decide) lkX7_146 (eC_tr hG h4) rfl dX7_give_104 rfl ?_
      refine Z_iadd (pc' := 108) dX7_give_107 rfl ?_
      obtain ⟨σ5, hσ5, hF⟩ := zl_of hF
      refine Z_put (pc' := 111) 2 zinX3 tyX3_ok nmX3 rfl (by decide) lkX7_143 rfl (eC_man hG h2) rfl rfl rfl (Nat.le_of_ble_eq_true rfl) rfl dX7_give_108 rfl ?_
      refine Z_mem (pman_42 hG h2 hσ5) ?_
      refine Z_aload (i := 4) (pc' := 113) dX7_give_111 rfl rfl ?_
      refine Z_aload_n (i := 0) (pc' := 114) dX7_give_113 rfl rfl rfl ?_
      refine Z_get (v := .int (σ5 33 0)) (pc' := 117) 10 zinX7 rfl (by decide) lkX7_63 (eC_0 hG) rfl dX7_give_114 rfl ?_
      obtain ⟨σ6, hσ6, hF⟩ := zl_of hF
      refine Z_put (pc' := 120) 4 zinX6 tyX6_ok nmX6 rfl (by decide) lkX7_149 rfl (eC_tr hG h4) rfl rfl rfl (Nat.le_of_ble_eq_true rfl) rfl dX7_give_117 rfl ?_
      refine Z_mem (ptr_54 hG h4 hσ6) ?_
      refine Z_aload (i := 4) (pc' := 122) dX7_give_120 rfl rfl ?_
      refine Z_iload_n (i := 2) (pc' := 123) dX7_give_122 rfl rfl rfl ?_
      refine Z_aload_n (i := 0) (pc' := 124) dX7_give_123 rfl rfl rfl ?_
      refine Z_get (v := .int (σ6 33 0)) (pc' := 127) 10 zinX7 rfl (by decide) lkX7_63 (eC_0 hG) rfl dX7_give_124 rfl ?_
      obtain ⟨y7, hy7, hF⟩ := bd_of hF
      refine Z_callVv (As := [.int x2, .int (σ6 33 0)]) (st := []) (pc' := 130) (k' := 1) (n' := 8) (qX6_comeTo l hG hy7) ckX6_comeTo kvX6_comeTo mlX7_103 (eC_tr hG h4) rfl rfl rfl (Nat.le_of_ble_eq_true rfl) ⟨Nat.le_of_ble_eq_true rfl, Nat.le_of_ble_eq_true rfl⟩ ⟨Nat.le_of_ble_eq_true rfl, Nat.le_of_ble_eq_true rfl⟩ dX7_give_127 rfl rfl rfl ?_
      refine Z_iload (i := 6) (pc' := 132) dX7_give_130 rfl rfl ?_
      cases hF
      exact Z_iret (ty := .int) (w := x9) dX7_give_132 rfl rfl (Nat.le_refl _) (Nat.le_refl _) hI
    · rw [if_pos h3] at hF
      refine Z_aload (i := 4) (pc' := 94) dX7_give_92 rfl rfl ?_
      obtain ⟨h8, hF⟩ := ck_of hF
      refine Z_get (v := .int (σ 51 i4)) (pc' := 97) 1 zinX6 rfl (by decide) lkX7_146 (eC_tr hG h8) rfl dX7_give_94 rfl ?_
      refine Z_iconst (v := 2) (pc' := 98) dX7_give_97 (by decide) rfl ?_
      refine Z_idiv (pc' := 99) (by decide) dX7_give_98 rfl ?_
      refine Z_goto (tgt := 107) dX7_give_99 (by decide) ?_
      refine Z_iadd (pc' := 108) dX7_give_107 rfl ?_
      obtain ⟨σ9, hσ9, hF⟩ := zl_of hF
      refine Z_put (pc' := 111) 2 zinX3 tyX3_ok nmX3 rfl (by decide) lkX7_143 rfl (eC_man hG h2) rfl rfl rfl (Nat.le_of_ble_eq_true rfl) rfl dX7_give_108 rfl ?_
      refine Z_mem (pman_42 hG h2 hσ9) ?_
      refine Z_aload (i := 4) (pc' := 113) dX7_give_111 rfl rfl ?_
      refine Z_aload_n (i := 0) (pc' := 114) dX7_give_113 rfl rfl rfl ?_
      refine Z_get (v := .int (σ9 33 0)) (pc' := 117) 10 zinX7 rfl (by decide) lkX7_63 (eC_0 hG) rfl dX7_give_114 rfl ?_
      obtain ⟨σ10, hσ10, hF⟩ := zl_of hF
      refine Z_put (pc' := 120) 4 zinX6 tyX6_ok nmX6 rfl (by decide) lkX7_149 rfl (eC_tr hG h8) rfl rfl rfl (Nat.le_of_ble_eq_true rfl) rfl dX7_give_117 rfl ?_
      refine Z_mem (ptr_54 hG h8 hσ10) ?_
      refine Z_aload (i := 4) (pc' := 122) dX7_give_120 rfl rfl ?_
      refine Z_iload_n (i := 2) (pc' := 123) dX7_give_122 rfl rfl rfl ?_
      refine Z_aload_n (i := 0) (pc' := 124) dX7_give_123 rfl rfl rfl ?_
      refine Z_get (v := .int (σ10 33 0)) (pc' := 127) 10 zinX7 rfl (by decide) lkX7_63 (eC_0 hG) rfl dX7_give_124 rfl ?_
      obtain ⟨y11, hy11, hF⟩ := bd_of hF
      refine Z_callVv (As := [.int x2, .int (σ10 33 0)]) (st := []) (pc' := 130) (k' := 1) (n' := 8) (qX6_comeTo l hG hy11) ckX6_comeTo kvX6_comeTo mlX7_103 (eC_tr hG h8) rfl rfl rfl (Nat.le_of_ble_eq_true rfl) ⟨Nat.le_of_ble_eq_true rfl, Nat.le_of_ble_eq_true rfl⟩ ⟨Nat.le_of_ble_eq_true rfl, Nat.le_of_ble_eq_true rfl⟩ dX7_give_127 rfl rfl rfl ?_
      refine Z_iload (i := 6) (pc' := 132) dX7_give_130 rfl rfl ?_
      cases hF
      exact Z_iret (ty := .int) (w := x9) dX7_give_132 rfl rfl (Nat.le_refl _) (Nat.le_refl _) hI
def c7_give (c : Nat → Nat) (x1 x2 x3 : Int32) (σ : zS) : Option (Int32 × (Nat → Nat) × zS) := ((c7_anyTreasure c x3 σ).bind (fun y1 => zl y1.1 (fun (o2 : Option Nat) => ((c7_livingMan c x1 y1.2).bind (fun y3 => zl y3.1 (fun (o4 : Option Nat) => (zopt o2 (some ((-1 : Int32), c, y3.2)) (fun (i5 : Nat) => (zopt o4 (some ((-1 : Int32), c, y3.2)) (fun (i6 : Nat) => (if i5 < c 1 then ((c6_isHeldBy c i5 x1 y3.2).bind (fun y7 => (if y7.1 = 0 then some ((-1 : Int32), c, y7.2) else ((c6_canBeGivenIn c i5 (y7.2 33 0) y7.2).bind (fun y10 => (if y10.1 = 0 then some ((-1 : Int32), c, y10.2) else ((c7_isOnWay c x1 x2 (y10.2 50 i5) y10.2).bind (fun y12 => (if y12.1 = 0 then some ((-1 : Int32), c, y12.2) else (if i6 < c 0 then ((c7_settle c x1 x2 x3 i5 y12.2).bind (fun y => (c7_giveT y.2.1 x2 i5 i6 y.1 y.2.2).bind (fun z => some (z.1, y.2.1, z.2)))) else none)))))))))) else none)))))))))))
set_option maxHeartbeats 4000000 in
set_option maxRecDepth 100000 in
theorem qX7_give (l : Launch) {c ad dec : Nat → Nat} (hG : cG c ad dec) {x1 x2 x3 : Int32} {σ : zS} {w : Int32 × (Nat → Nat) × zS} (hF : c7_give c x1 x2 x3 σ = some w) : zMet l yX7_give cX7_give 7 (some .int) rmX7_give [.ref (ad 0), .int x1, .int x2, .int x3] (mC c ad dec σ) (fun v M' => v = some (.int w.1) ∧ ∃ ad' dec', cG w.2.1 ad' dec' ∧ (∀ t, cL c t → ad' t = ad t) ∧ M' = mC w.2.1 ad' dec' w.2.2) := by
  refine zMet.ofZ (vs := [some (.ref (ad 0)), some (.int x1), some (.int x2), some (.int x3), none, none, none]) (by decide) rfl (zCt_of _ ⟨rfl, ⟨rfl, ⟨rfl, ⟨rfl, trivial⟩⟩⟩⟩) (Nat.le_of_ble_eq_true rfl) (fun D => ?_)
  unfold c7_give at hF
  refine Z_aload_n (i := 0) (pc' := 1) dX7_give_0 rfl rfl rfl ?_
  refine Z_iload_n (i := 3) (pc' := 2) dX7_give_1 rfl rfl rfl ?_
  obtain ⟨y1, hy1, hF⟩ := bd_of hF
  obtain ⟨o2, ho2, hF⟩ := zl_of hF
  refine Z_callVr (kd := 2) (ad := ad) (o := o2) (As := [.int x3]) (st := []) (pc' := 5) (k' := 0) (n' := 0) ho2 (qX7_anyTreasure l hG hy1) ckX7_anyTreasure kvX7_anyTreasure mlX7_122 (eC_0 hG) rfl rfl rfl (Nat.le_of_ble_eq_true rfl) ⟨Nat.le_of_ble_eq_true rfl, Nat.le_of_ble_eq_true rfl⟩ ⟨Nat.le_of_ble_eq_true rfl, Nat.le_of_ble_eq_true rfl⟩ dX7_give_2 rfl rfl rfl ?_
  refine Z_astoreR (v := rv ad 2 o2) (i := 4) (vs' := [some (.ref (ad 0)), some (.int x1), some (.int x2), some (.int x3), some (rv ad 2 o2), none, none]) (pc' := 7) (rv_or _ _ _) dX7_give_5 (by decide) rfl rfl ?_
  refine Z_aload_n (i := 0) (pc' := 8) dX7_give_7 rfl rfl rfl ?_
  refine Z_iload_n (i := 1) (pc' := 9) dX7_give_8 rfl rfl rfl ?_
  obtain ⟨y3, hy3, hF⟩ := bd_of hF
  obtain ⟨o4, ho4, hF⟩ := zl_of hF
  refine Z_callVr (kd := 1) (ad := ad) (o := o4) (As := [.int x1]) (st := []) (pc' := 12) (k' := 0) (n' := 0) ho4 (qX7_livingMan l hG hy3) ckX7_livingMan kvX7_livingMan mlX7_83 (eC_0 hG) rfl rfl rfl (Nat.le_of_ble_eq_true rfl) ⟨Nat.le_of_ble_eq_true rfl, Nat.le_of_ble_eq_true rfl⟩ ⟨Nat.le_of_ble_eq_true rfl, Nat.le_of_ble_eq_true rfl⟩ dX7_give_9 rfl rfl rfl ?_
  refine Z_astoreR (v := rv ad 1 o4) (i := 5) (vs' := [some (.ref (ad 0)), some (.int x1), some (.int x2), some (.int x3), some (rv ad 2 o2), some (rv ad 1 o4), none]) (pc' := 14) (rv_or _ _ _) dX7_give_12 (by decide) rfl rfl ?_
  refine Z_aloadR (v := rv ad 2 o2) (i := 4) (pc' := 16) (rv_or _ _ _) dX7_give_14 rfl rfl ?_
  cases o2 with
  | none =>
    replace hF := zopt_n hF
    refine Z_ifnullN (tgt := 33) dX7_give_16 (by decide) ?_
    refine Z_iconst (v := -1) (pc' := 34) dX7_give_33 (by decide) rfl ?_
    cases hF
    exact Z_iret (ty := .int) (w := (-1 : Int32)) dX7_give_34 rfl rfl (Nat.zero_le _) (Nat.zero_le _) ⟨rfl, ad, dec, hG, fun _ _ => rfl, rfl⟩
  | some i5 =>
    replace hF := zopt_s hF
    refine Z_ifnull (pc' := 19) dX7_give_16 rfl ?_
    refine Z_aloadR (v := rv ad 1 o4) (i := 5) (pc' := 21) (rv_or _ _ _) dX7_give_19 rfl rfl ?_
    cases o4 with
    | none =>
      replace hF := zopt_n hF
      refine Z_ifnullN (tgt := 33) dX7_give_21 (by decide) ?_
      refine Z_iconst (v := -1) (pc' := 34) dX7_give_33 (by decide) rfl ?_
      cases hF
      exact Z_iret (ty := .int) (w := (-1 : Int32)) dX7_give_34 rfl rfl (Nat.zero_le _) (Nat.zero_le _) ⟨rfl, ad, dec, hG, fun _ _ => rfl, rfl⟩
    | some i6 =>
      replace hF := zopt_s hF
      refine Z_ifnull (pc' := 24) dX7_give_21 rfl ?_
      refine Z_aload (i := 4) (pc' := 26) dX7_give_24 rfl rfl ?_
      refine Z_iload_n (i := 1) (pc' := 27) dX7_give_26 rfl rfl rfl ?_
      obtain ⟨h8, hF⟩ := ck_of hF
      obtain ⟨y7, hy7, hF⟩ := bd_of hF
      refine Z_callVi (As := [.int x1]) (st := []) (pc' := 30) (k' := 0) (n' := 0) (qX6_isHeldBy l hG hy7) ckX6_isHeldBy kvX6_isHeldBy mlX7_126 (eC_tr hG h8) rfl rfl rfl (Nat.le_of_ble_eq_true rfl) ⟨Nat.le_of_ble_eq_true rfl, Nat.le_of_ble_eq_true rfl⟩ ⟨Nat.le_of_ble_eq_true rfl, Nat.le_of_ble_eq_true rfl⟩ dX7_give_27 rfl rfl rfl ?_
      refine Z_if_ne (tgt := 35) (pc' := 33) dX7_give_30 (by decide) rfl (fun h9 => ?_) (fun h9 => ?_)
      · rw [if_neg h9] at hF
        refine Z_aload (i := 4) (pc' := 37) dX7_give_35 rfl rfl ?_
        refine Z_aload_n (i := 0) (pc' := 38) dX7_give_37 rfl rfl rfl ?_
        refine Z_get (v := .int (y7.2 33 0)) (pc' := 41) 10 zinX7 rfl (by decide) lkX7_63 (eC_0 hG) rfl dX7_give_38 rfl ?_
        obtain ⟨y10, hy10, hF⟩ := bd_of hF
        refine Z_callVi (As := [.int (y7.2 33 0)]) (st := []) (pc' := 44) (k' := 0) (n' := 0) (qX6_canBeGivenIn l hG hy10) ckX6_canBeGivenIn kvX6_canBeGivenIn mlX7_129 (eC_tr hG h8) rfl rfl rfl (Nat.le_of_ble_eq_true rfl) ⟨Nat.le_of_ble_eq_true rfl, Nat.le_of_ble_eq_true rfl⟩ ⟨Nat.le_of_ble_eq_true rfl, Nat.le_of_ble_eq_true rfl⟩ dX7_give_41 rfl rfl rfl ?_
        refine Z_if_eq (tgt := 61) (pc' := 47) dX7_give_44 (by decide) rfl (fun h11 => ?_) (fun h11 => ?_)
        · rw [if_pos h11] at hF
          refine Z_iconst (v := -1) (pc' := 62) dX7_give_61 (by decide) rfl ?_
          cases hF
          exact Z_iret (ty := .int) (w := (-1 : Int32)) dX7_give_62 rfl rfl (Nat.zero_le _) (Nat.zero_le _) ⟨rfl, ad, dec, hG, fun _ _ => rfl, rfl⟩
        · rw [if_neg h11] at hF
          refine Z_aload_n (i := 0) (pc' := 48) dX7_give_47 rfl rfl rfl ?_
          refine Z_iload_n (i := 1) (pc' := 49) dX7_give_48 rfl rfl rfl ?_
          refine Z_iload_n (i := 2) (pc' := 50) dX7_give_49 rfl rfl rfl ?_
          refine Z_aload (i := 4) (pc' := 52) dX7_give_50 rfl rfl ?_
          refine Z_get (v := .int (y10.2 50 i5)) (pc' := 55) 0 zinX6 rfl (by decide) lkX7_132 (eC_tr hG h8) rfl dX7_give_52 rfl ?_
          obtain ⟨y12, hy12, hF⟩ := bd_of hF
          refine Z_callVi (As := [.int x1, .int x2, .int (y10.2 50 i5)]) (st := []) (pc' := 58) (k' := 0) (n' := 0) (qX7_isOnWay l hG hy12) ckX7_isOnWay kvX7_isOnWay mlX7_135 (eC_0 hG) rfl rfl rfl (Nat.le_of_ble_eq_true rfl) ⟨Nat.le_of_ble_eq_true rfl, Nat.le_of_ble_eq_true rfl⟩ ⟨Nat.le_of_ble_eq_true rfl, Nat.le_of_ble_eq_true rfl⟩ dX7_give_55 rfl rfl rfl ?_
          refine Z_if_ne (tgt := 63) (pc' := 61) dX7_give_58 (by decide) rfl (fun h13 => ?_) (fun h13 => ?_)
          · rw [if_neg h13] at hF
            refine Z_aload_n (i := 0) (pc' := 64) dX7_give_63 rfl rfl rfl ?_
            refine Z_iload_n (i := 1) (pc' := 65) dX7_give_64 rfl rfl rfl ?_
            refine Z_iload_n (i := 2) (pc' := 66) dX7_give_65 rfl rfl rfl ?_
            refine Z_iload_n (i := 3) (pc' := 67) dX7_give_66 rfl rfl rfl ?_
            refine Z_aload (i := 4) (pc' := 69) dX7_give_67 rfl rfl ?_
            obtain ⟨h14, hF⟩ := ck_of hF
            obtain ⟨y, hy, hF⟩ := bd_of hF
            obtain ⟨z, hz, hF⟩ := bd_of hF
            refine Z_callV (As := [.int x1, .int x2, .int x3, .ref (ad (8 * i5 + 2))]) (st := []) (pc' := 72) (k' := 1) (n' := 8) (qX7_settle l hG hy) ckX7_settle kvX7_settle mlX7_139 (eC_0 hG) rfl rfl rfl (Nat.le_of_ble_eq_true rfl) ⟨Nat.le_of_ble_eq_true rfl, Nat.le_of_ble_eq_true rfl⟩ ⟨Nat.le_of_ble_eq_true rfl, Nat.le_of_ble_eq_true rfl⟩ dX7_give_69 rfl rfl rfl (fun v M' h => ?_)
            obtain ⟨rfl, ad', dec', hG', hx, rfl⟩ := h
            have e0 := hx 0 (Or.inl ⟨rfl, by decide⟩)
            have e4 := hx (8 * i5 + 2) (Or.inr (Or.inr (Or.inl ⟨by omega, by omega⟩)))
            have e5 := hx (8 * i6 + 1) (Or.inr (Or.inl ⟨by omega, by omega⟩))
            cases hF
            refine Z_sub (vs' := [some (.ref (ad 0)), none, some (.int x2), none, some (.ref (ad (8 * i5 + 2))), some (.ref (ad (8 * i6 + 1))), none]) (zSb_of _ _ ⟨rfl, rfl, rfl, rfl, trivial⟩) ?_
            rw [← e0, ← e4, ← e5]
            exact qX7_give_T hG' hz ⟨rfl, ad', dec', hG', hx, rfl⟩
          · rw [if_pos h13] at hF
            refine Z_iconst (v := -1) (pc' := 62) dX7_give_61 (by decide) rfl ?_
            cases hF
            exact Z_iret (ty := .int) (w := (-1 : Int32)) dX7_give_62 rfl rfl (Nat.zero_le _) (Nat.zero_le _) ⟨rfl, ad, dec, hG, fun _ _ => rfl, rfl⟩
      · rw [if_pos h9] at hF
        refine Z_iconst (v := -1) (pc' := 34) dX7_give_33 (by decide) rfl ?_
        cases hF
        exact Z_iret (ty := .int) (w := (-1 : Int32)) dX7_give_34 rfl rfl (Nat.zero_le _) (Nat.zero_le _) ⟨rfl, ad, dec, hG, fun _ _ => rfl, rfl⟩
