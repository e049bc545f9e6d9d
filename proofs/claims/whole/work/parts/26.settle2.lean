def c7_settle (c : Nat → Nat) (x1 x2 x3 : Int32) (i4 : Nat) (σ : zS) : Option (Int32 × (Nat → Nat) × zS) := (if i4 < c 1 then (if (σ 50 i4) = 0 then ((c2_greatestWithin c x1 x2 (1 : Int32) (σ 51 i4) σ).bind (fun y18 => zl y18.1 (fun (o19 : Option Nat) => (zopt o19 ((c2_haveQuarrel c x1 x2 (y18.2 33 0) y18.2).bind (fun y21 => (if y21.1 = 0 then ((c2_firstOpen c x1 x2 (1 : Int32) y21.2).bind (fun y23 => zl y23.1 (fun (o24 : Option Nat) => (zopt o24 ((c2_isFull c  y23.2).bind (fun y26 => (if y26.1 = 0 then (c7_settleN c x1 x2 x3 i4 y26.2) else some ((-1 : Int32), c, y26.2)))) (fun (i25 : Nat) => ((c0_seasonsWon c  y23.2).bind (fun y28 => (if i25 < c 2 then ((c1_winTime c i25 y28.1 y28.2).bind (fun y29 => some ((2 : Int32), c, y29.2))) else none)))))))) else some ((-1 : Int32), c, y21.2)))) (fun (i20 : Nat) => (if i20 < c 2 then zl (zs y18.2 66 i20 x3) (fun (σ32 : zS) => some ((1 : Int32), c, σ32)) else none)))))) else ((c2_greatestWithin c x1 x2 (0 : Int32) (σ 51 i4) σ).bind (fun y3 => zl y3.1 (fun (o4 : Option Nat) => (zopt o4 ((c2_haveQuarrel c x1 x2 (y3.2 33 0) y3.2).bind (fun y6 => (if y6.1 = 0 then ((c2_firstOpen c x1 x2 (0 : Int32) y6.2).bind (fun y8 => zl y8.1 (fun (o9 : Option Nat) => (zopt o9 ((c2_isFull c  y8.2).bind (fun y11 => (if y11.1 = 0 then (c7_settleN c x1 x2 x3 i4 y11.2) else some ((-1 : Int32), c, y11.2)))) (fun (i10 : Nat) => ((c0_seasonsWon c  y8.2).bind (fun y13 => (if i10 < c 2 then ((c1_winTime c i10 y13.1 y13.2).bind (fun y14 => some ((2 : Int32), c, y14.2))) else none)))))))) else some ((-1 : Int32), c, y6.2)))) (fun (i5 : Nat) => (if i5 < c 2 then zl (zs y3.2 66 i5 x3) (fun (σ17 : zS) => some ((1 : Int32), c, σ17)) else none))))))) else none)
set_option maxHeartbeats 4000000 in
set_option maxRecDepth 100000 in
theorem qX7_settle (l : Launch) {c ad dec : Nat → Nat} (hG : cG c ad dec) {x1 x2 x3 : Int32} {i4 : Nat} {σ : zS} {w : Int32 × (Nat → Nat) × zS} (hF : c7_settle c x1 x2 x3 i4 σ = some w) : zMet l yX7_settle cX7_settle 9 (some .int) rmX7_settle [.ref (ad 0), .int x1, .int x2, .int x3, .ref (ad (8 * i4 + 2))] (mC c ad dec σ) (fun v M' => v = some (.int w.1) ∧ ∃ ad' dec', cG w.2.1 ad' dec' ∧ (∀ t, cL c t → ad' t = ad t) ∧ M' = mC w.2.1 ad' dec' w.2.2) := by
  refine zMet.ofZ (vs := [some (.ref (ad 0)), some (.int x1), some (.int x2), some (.int x3), some (.ref (ad (8 * i4 + 2))), none, none, none, none]) (by decide) rfl (zCt_of _ ⟨rfl, ⟨rfl, ⟨rfl, ⟨rfl, ⟨rfl, trivial⟩⟩⟩⟩⟩) (Nat.le_of_ble_eq_true rfl) (fun D => ?_)
  unfold c7_settle at hF
  refine Z_aload (i := 4) (pc' := 2) dX7_settle_0 rfl rfl ?_
  obtain ⟨h1, hF⟩ := ck_of hF
  refine Z_get (v := .int (σ 50 i4)) (pc' := 5) 0 zinX6 rfl (by decide) lkX7_132 (eC_tr hG h1) rfl dX7_settle_2 rfl ?_
  refine Z_if_ne (tgt := 12) (pc' := 8) dX7_settle_5 (by decide) rfl (fun h2 => ?_) (fun h2 => ?_)
  · rw [if_neg h2] at hF
    refine Z_iconst (v := 0) (pc' := 13) dX7_settle_12 (by decide) rfl ?_
    refine Z_istoreE (i := 5) (x' := (0 : Int32)) (vs' := [some (.ref (ad 0)), some (.int x1), some (.int x2), some (.int x3), some (.ref (ad (8 * i4 + 2))), some (.int (0 : Int32)), none, none, none]) (pc' := 15) dX7_settle_13 rfl (by decide) rfl rfl ?_
    refine Z_aload_n (i := 0) (pc' := 16) dX7_settle_15 rfl rfl rfl ?_
    refine Z_get (v := .ref (ad 64)) (pc' := 19) 4 zinX7 rfl (by decide) lkX7_38 (eC_0 hG) rfl dX7_settle_16 rfl ?_
    refine Z_iload_n (i := 1) (pc' := 20) dX7_settle_19 rfl rfl rfl ?_
    refine Z_iload_n (i := 2) (pc' := 21) dX7_settle_20 rfl rfl rfl ?_
    refine Z_iload (i := 5) (pc' := 23) dX7_settle_21 rfl rfl ?_
    refine Z_aload (i := 4) (pc' := 25) dX7_settle_23 rfl rfl ?_
    refine Z_get (v := .int (σ 51 i4)) (pc' := 28) 1 zinX6 rfl (by decide) lkX7_146 (eC_tr hG h1) rfl dX7_settle_25 rfl ?_
    obtain ⟨y3, hy3, hF⟩ := bd_of hF
    obtain ⟨o4, ho4, hF⟩ := zl_of hF
    refine Z_callVr (kd := 5) (ad := ad) (o := o4) (As := [.int x1, .int x2, .int (0 : Int32), .int (σ 51 i4)]) (st := []) (pc' := 31) (k' := 0) (n' := 0) ho4 (qX2_greatestWithin l hG hy3) ckX2_greatestWithin kvX2_greatestWithin mlX7_152 (eC_8 hG) rfl rfl rfl (Nat.le_of_ble_eq_true rfl) ⟨Nat.le_of_ble_eq_true rfl, Nat.le_of_ble_eq_true rfl⟩ ⟨Nat.le_of_ble_eq_true rfl, Nat.le_of_ble_eq_true rfl⟩ dX7_settle_28 rfl rfl rfl ?_
    refine Z_astoreR (v := rv ad 5 o4) (i := 6) (vs' := [some (.ref (ad 0)), some (.int x1), some (.int x2), some (.int x3), some (.ref (ad (8 * i4 + 2))), some (.int (0 : Int32)), some (rv ad 5 o4), none, none]) (pc' := 33) (rv_or _ _ _) dX7_settle_31 (by decide) rfl rfl ?_
    refine Z_aloadR (v := rv ad 5 o4) (i := 6) (pc' := 35) (rv_or _ _ _) dX7_settle_33 rfl rfl ?_
    cases o4 with
    | none =>
      replace hF := zopt_n hF
      refine Z_ifnullN (tgt := 46) dX7_settle_35 (by decide) ?_
      refine Z_aload_n (i := 0) (pc' := 47) dX7_settle_46 rfl rfl rfl ?_
      refine Z_get (v := .ref (ad 64)) (pc' := 50) 4 zinX7 rfl (by decide) lkX7_38 (eC_0 hG) rfl dX7_settle_47 rfl ?_
      refine Z_iload_n (i := 1) (pc' := 51) dX7_settle_50 rfl rfl rfl ?_
      refine Z_iload_n (i := 2) (pc' := 52) dX7_settle_51 rfl rfl rfl ?_
      refine Z_aload_n (i := 0) (pc' := 53) dX7_settle_52 rfl rfl rfl ?_
      refine Z_get (v := .int (y3.2 33 0)) (pc' := 56) 10 zinX7 rfl (by decide) lkX7_63 (eC_0 hG) rfl dX7_settle_53 rfl ?_
      obtain ⟨y6, hy6, hF⟩ := bd_of hF
      refine Z_callVi (As := [.int x1, .int x2, .int (y3.2 33 0)]) (st := []) (pc' := 59) (k' := 0) (n' := 0) (qX2_haveQuarrel l hG hy6) ckX2_haveQuarrel kvX2_haveQuarrel mlX7_161 (eC_8 hG) rfl rfl rfl (Nat.le_of_ble_eq_true rfl) ⟨Nat.le_of_ble_eq_true rfl, Nat.le_of_ble_eq_true rfl⟩ ⟨Nat.le_of_ble_eq_true rfl, Nat.le_of_ble_eq_true rfl⟩ dX7_settle_56 rfl rfl rfl ?_
      refine Z_if_eq (tgt := 64) (pc' := 62) dX7_settle_59 (by decide) rfl (fun h7 => ?_) (fun h7 => ?_)
      · rw [if_pos h7] at hF
        refine Z_aload_n (i := 0) (pc' := 65) dX7_settle_64 rfl rfl rfl ?_
        refine Z_get (v := .ref (ad 64)) (pc' := 68) 4 zinX7 rfl (by decide) lkX7_38 (eC_0 hG) rfl dX7_settle_65 rfl ?_
        refine Z_iload_n (i := 1) (pc' := 69) dX7_settle_68 rfl rfl rfl ?_
        refine Z_iload_n (i := 2) (pc' := 70) dX7_settle_69 rfl rfl rfl ?_
        refine Z_iload (i := 5) (pc' := 72) dX7_settle_70 rfl rfl ?_
        obtain ⟨y8, hy8, hF⟩ := bd_of hF
        obtain ⟨o9, ho9, hF⟩ := zl_of hF
        refine Z_callVr (kd := 5) (ad := ad) (o := o9) (As := [.int x1, .int x2, .int (0 : Int32)]) (st := []) (pc' := 75) (k' := 0) (n' := 0) ho9 (qX2_firstOpen l hG hy8) ckX2_firstOpen kvX2_firstOpen mlX7_164 (eC_8 hG) rfl rfl rfl (Nat.le_of_ble_eq_true rfl) ⟨Nat.le_of_ble_eq_true rfl, Nat.le_of_ble_eq_true rfl⟩ ⟨Nat.le_of_ble_eq_true rfl, Nat.le_of_ble_eq_true rfl⟩ dX7_settle_72 rfl rfl rfl ?_
        refine Z_astoreR (v := rv ad 5 o9) (i := 7) (vs' := [some (.ref (ad 0)), some (.int x1), some (.int x2), some (.int x3), some (.ref (ad (8 * i4 + 2))), some (.int (0 : Int32)), some (.null), some (rv ad 5 o9), none]) (pc' := 77) (rv_or _ _ _) dX7_settle_75 (by decide) rfl rfl ?_
        refine Z_aloadR (v := rv ad 5 o9) (i := 7) (pc' := 79) (rv_or _ _ _) dX7_settle_77 rfl rfl ?_
        cases o9 with
        | none =>
          replace hF := zopt_n hF
          refine Z_ifnullN (tgt := 96) dX7_settle_79 (by decide) ?_
          refine Z_aload_n (i := 0) (pc' := 97) dX7_settle_96 rfl rfl rfl ?_
          refine Z_get (v := .ref (ad 64)) (pc' := 100) 4 zinX7 rfl (by decide) lkX7_38 (eC_0 hG) rfl dX7_settle_97 rfl ?_
          obtain ⟨y11, hy11, hF⟩ := bd_of hF
          refine Z_callVi (As := []) (st := []) (pc' := 103) (k' := 0) (n' := 0) (qX2_isFull l hG hy11) ckX2_isFull kvX2_isFull mlX7_175 (eC_8 hG) rfl rfl rfl (Nat.le_of_ble_eq_true rfl) ⟨Nat.le_of_ble_eq_true rfl, Nat.le_of_ble_eq_true rfl⟩ ⟨Nat.le_of_ble_eq_true rfl, Nat.le_of_ble_eq_true rfl⟩ dX7_settle_100 rfl rfl rfl ?_
          refine Z_if_eq (tgt := 108) (pc' := 106) dX7_settle_103 (by decide) rfl (fun h12 => ?_) (fun h12 => ?_)
          · rw [if_pos h12] at hF
            exact Z_sub (vs' := [some (.ref (ad 0)), some (.int x1), some (.int x2), some (.int x3), some (.ref (ad (8 * i4 + 2))), none, none, none, none]) (zSb_of _ _ ⟨rfl, rfl, rfl, rfl, rfl, trivial⟩) (qX7_settle_N hG hF (fun ad' dec' g1 g2 => ⟨rfl, ad', dec', g1, g2, rfl⟩))
          · rw [if_neg h12] at hF
            refine Z_iconst (v := -1) (pc' := 107) dX7_settle_106 (by decide) rfl ?_
            cases hF
            exact Z_iret (ty := .int) (w := (-1 : Int32)) dX7_settle_107 rfl rfl (Nat.zero_le _) (Nat.zero_le _) ⟨rfl, ad, dec, hG, fun _ _ => rfl, rfl⟩
        | some i10 =>
          replace hF := zopt_s hF
          refine Z_ifnull (pc' := 82) dX7_settle_79 rfl ?_
          refine Z_aload (i := 7) (pc' := 84) dX7_settle_82 rfl rfl ?_
          refine Z_aload_n (i := 0) (pc' := 85) dX7_settle_84 rfl rfl rfl ?_
          refine Z_get (v := .ref (ad 24)) (pc' := 88) 1 zinX7 rfl (by decide) lkX7_19 (eC_0 hG) rfl dX7_settle_85 rfl ?_
          obtain ⟨y13, hy13, hF⟩ := bd_of hF
          refine Z_callVi (As := []) (st := [.ref (ad (8 * i10 + 5))]) (pc' := 91) (k' := 0) (n' := 0) (qX0_seasonsWon l hG hy13) ckX0_seasonsWon kvX0_seasonsWon mlX7_168 (eC_3 hG) rfl rfl rfl (Nat.le_of_ble_eq_true rfl) ⟨Nat.le_of_ble_eq_true rfl, Nat.le_of_ble_eq_true rfl⟩ ⟨Nat.le_of_ble_eq_true rfl, Nat.le_of_ble_eq_true rfl⟩ dX7_settle_88 rfl rfl rfl ?_
          obtain ⟨h15, hF⟩ := ck_of hF
          obtain ⟨y14, hy14, hF⟩ := bd_of hF
          refine Z_callVv (As := [.int y13.1]) (st := []) (pc' := 94) (k' := 0) (n' := 0) (qX1_winTime l hG hy14) ckX1_winTime kvX1_winTime mlX7_172 (eC_db hG h15) rfl rfl rfl (Nat.le_of_ble_eq_true rfl) ⟨Nat.le_of_ble_eq_true rfl, Nat.le_of_ble_eq_true rfl⟩ ⟨Nat.le_of_ble_eq_true rfl, Nat.le_of_ble_eq_true rfl⟩ dX7_settle_91 rfl rfl rfl ?_
          refine Z_iconst (v := 2) (pc' := 95) dX7_settle_94 (by decide) rfl ?_
          cases hF
          exact Z_iret (ty := .int) (w := (2 : Int32)) dX7_settle_95 rfl rfl (Nat.zero_le _) (Nat.zero_le _) ⟨rfl, ad, dec, hG, fun _ _ => rfl, rfl⟩
      · rw [if_neg h7] at hF
        refine Z_iconst (v := -1) (pc' := 63) dX7_settle_62 (by decide) rfl ?_
        cases hF
        exact Z_iret (ty := .int) (w := (-1 : Int32)) dX7_settle_63 rfl rfl (Nat.zero_le _) (Nat.zero_le _) ⟨rfl, ad, dec, hG, fun _ _ => rfl, rfl⟩
    | some i5 =>
      replace hF := zopt_s hF
      refine Z_ifnull (pc' := 38) dX7_settle_35 rfl ?_
      refine Z_aload (i := 6) (pc' := 40) dX7_settle_38 rfl rfl ?_
      refine Z_iload_n (i := 3) (pc' := 41) dX7_settle_40 rfl rfl rfl ?_
      obtain ⟨h16, hF⟩ := ck_of hF
      obtain ⟨σ17, hσ17, hF⟩ := zl_of hF
      refine Z_put (pc' := 44) 6 zinX1 tyX1_ok nmX1 rfl (by decide) lkX7_156 rfl (eC_db hG h16) rfl rfl rfl (Nat.le_of_ble_eq_true rfl) rfl dX7_settle_41 rfl ?_
      refine Z_mem (pdb_66 hG h16 hσ17) ?_
      refine Z_iconst (v := 1) (pc' := 45) dX7_settle_44 (by decide) rfl ?_
      cases hF
      exact Z_iret (ty := .int) (w := (1 : Int32)) dX7_settle_45 rfl rfl (Nat.zero_le _) (Nat.zero_le _) ⟨rfl, ad, dec, hG, fun _ _ => rfl, rfl⟩
  · rw [if_pos h2] at hF
    refine Z_iconst (v := 1) (pc' := 9) dX7_settle_8 (by decide) rfl ?_
    refine Z_goto (tgt := 13) dX7_settle_9 (by decide) ?_
    refine Z_istoreE (i := 5) (x' := (1 : Int32)) (vs' := [some (.ref (ad 0)), some (.int x1), some (.int x2), some (.int x3), some (.ref (ad (8 * i4 + 2))), some (.int (1 : Int32)), none, none, none]) (pc' := 15) dX7_settle_13 rfl (by decide) rfl rfl ?_
    refine Z_aload_n (i := 0) (pc' := 16) dX7_settle_15 rfl rfl rfl ?_
    refine Z_get (v := .ref (ad 64)) (pc' := 19) 4 zinX7 rfl (by decide) lkX7_38 (eC_0 hG) rfl dX7_settle_16 rfl ?_
    refine Z_iload_n (i := 1) (pc' := 20) dX7_settle_19 rfl rfl rfl ?_
    refine Z_iload_n (i := 2) (pc' := 21) dX7_settle_20 rfl rfl rfl ?_
    refine Z_iload (i := 5) (pc' := 23) dX7_settle_21 rfl rfl ?_
    refine Z_aload (i := 4) (pc' := 25) dX7_settle_23 rfl rfl ?_
    refine Z_get (v := .int (σ 51 i4)) (pc' := 28) 1 zinX6 rfl (by decide) lkX7_146 (eC_tr hG h1) rfl dX7_settle_25 rfl ?_
    obtain ⟨y18, hy18, hF⟩ := bd_of hF
    obtain ⟨o19, ho19, hF⟩ := zl_of hF
    refine Z_callVr (kd := 5) (ad := ad) (o := o19) (As := [.int x1, .int x2, .int (1 : Int32), .int (σ 51 i4)]) (st := []) (pc' := 31) (k' := 0) (n' := 0) ho19 (qX2_greatestWithin l hG hy18) ckX2_greatestWithin kvX2_greatestWithin mlX7_152 (eC_8 hG) rfl rfl rfl (Nat.le_of_ble_eq_true rfl) ⟨Nat.le_of_ble_eq_true rfl, Nat.le_of_ble_eq_true rfl⟩ ⟨Nat.le_of_ble_eq_true rfl, Nat.le_of_ble_eq_true rfl⟩ dX7_settle_28 rfl rfl rfl ?_
    refine Z_astoreR (v := rv ad 5 o19) (i := 6) (vs' := [some (.ref (ad 0)), some (.int x1), some (.int x2), some (.int x3), some (.ref (ad (8 * i4 + 2))), some (.int (1 : Int32)), some (rv ad 5 o19), none, none]) (pc' := 33) (rv_or _ _ _) dX7_settle_31 (by decide) rfl rfl ?_
    refine Z_aloadR (v := rv ad 5 o19) (i := 6) (pc' := 35) (rv_or _ _ _) dX7_settle_33 rfl rfl ?_
    cases o19 with
    | none =>
      replace hF := zopt_n hF
      refine Z_ifnullN (tgt := 46) dX7_settle_35 (by decide) ?_
      refine Z_aload_n (i := 0) (pc' := 47) dX7_settle_46 rfl rfl rfl ?_
      refine Z_get (v := .ref (ad 64)) (pc' := 50) 4 zinX7 rfl (by decide) lkX7_38 (eC_0 hG) rfl dX7_settle_47 rfl ?_
      refine Z_iload_n (i := 1) (pc' := 51) dX7_settle_50 rfl rfl rfl ?_
      refine Z_iload_n (i := 2) (pc' := 52) dX7_settle_51 rfl rfl rfl ?_
      refine Z_aload_n (i := 0) (pc' := 53) dX7_settle_52 rfl rfl rfl ?_
      refine Z_get (v := .int (y18.2 33 0)) (pc' := 56) 10 zinX7 rfl (by decide) lkX7_63 (eC_0 hG) rfl dX7_settle_53 rfl ?_
      obtain ⟨y21, hy21, hF⟩ := bd_of hF
      refine Z_callVi (As := [.int x1, .int x2, .int (y18.2 33 0)]) (st := []) (pc' := 59) (k' := 0) (n' := 0) (qX2_haveQuarrel l hG hy21) ckX2_haveQuarrel kvX2_haveQuarrel mlX7_161 (eC_8 hG) rfl rfl rfl (Nat.le_of_ble_eq_true rfl) ⟨Nat.le_of_ble_eq_true rfl, Nat.le_of_ble_eq_true rfl⟩ ⟨Nat.le_of_ble_eq_true rfl, Nat.le_of_ble_eq_true rfl⟩ dX7_settle_56 rfl rfl rfl ?_
      refine Z_if_eq (tgt := 64) (pc' := 62) dX7_settle_59 (by decide) rfl (fun h22 => ?_) (fun h22 => ?_)
      · rw [if_pos h22] at hF
        refine Z_aload_n (i := 0) (pc' := 65) dX7_settle_64 rfl rfl rfl ?_
        refine Z_get (v := .ref (ad 64)) (pc' := 68) 4 zinX7 rfl (by decide) lkX7_38 (eC_0 hG) rfl dX7_settle_65 rfl ?_
        refine Z_iload_n (i := 1) (pc' := 69) dX7_settle_68 rfl rfl rfl ?_
        refine Z_iload_n (i := 2) (pc' := 70) dX7_settle_69 rfl rfl rfl ?_
        refine Z_iload (i := 5) (pc' := 72) dX7_settle_70 rfl rfl ?_
        obtain ⟨y23, hy23, hF⟩ := bd_of hF
        obtain ⟨o24, ho24, hF⟩ := zl_of hF
        refine Z_callVr (kd := 5) (ad := ad) (o := o24) (As := [.int x1, .int x2, .int (1 : Int32)]) (st := []) (pc' := 75) (k' := 0) (n' := 0) ho24 (qX2_firstOpen l hG hy23) ckX2_firstOpen kvX2_firstOpen mlX7_164 (eC_8 hG) rfl rfl rfl (Nat.le_of_ble_eq_true rfl) ⟨Nat.le_of_ble_eq_true rfl, Nat.le_of_ble_eq_true rfl⟩ ⟨Nat.le_of_ble_eq_true rfl, Nat.le_of_ble_eq_true rfl⟩ dX7_settle_72 rfl rfl rfl ?_
        refine Z_astoreR (v := rv ad 5 o24) (i := 7) (vs' := [some (.ref (ad 0)), some (.int x1), some (.int x2), some (.int x3), some (.ref (ad (8 * i4 + 2))), some (.int (1 : Int32)), some (.null), some (rv ad 5 o24), none]) (pc' := 77) (rv_or _ _ _) dX7_settle_75 (by decide) rfl rfl ?_
        refine Z_aloadR (v := rv ad 5 o24) (i := 7) (pc' := 79) (rv_or _ _ _) dX7_settle_77 rfl rfl ?_
        cases o24 with
        | none =>
          replace hF := zopt_n hF
          refine Z_ifnullN (tgt := 96) dX7_settle_79 (by decide) ?_
          refine Z_aload_n (i := 0) (pc' := 97) dX7_settle_96 rfl rfl rfl ?_
          refine Z_get (v := .ref (ad 64)) (pc' := 100) 4 zinX7 rfl (by decide) lkX7_38 (eC_0 hG) rfl dX7_settle_97 rfl ?_
          obtain ⟨y26, hy26, hF⟩ := bd_of hF
          refine Z_callVi (As := []) (st := []) (pc' := 103) (k' := 0) (n' := 0) (qX2_isFull l hG hy26) ckX2_isFull kvX2_isFull mlX7_175 (eC_8 hG) rfl rfl rfl (Nat.le_of_ble_eq_true rfl) ⟨Nat.le_of_ble_eq_true rfl, Nat.le_of_ble_eq_true rfl⟩ ⟨Nat.le_of_ble_eq_true rfl, Nat.le_of_ble_eq_true rfl⟩ dX7_settle_100 rfl rfl rfl ?_
          refine Z_if_eq (tgt := 108) (pc' := 106) dX7_settle_103 (by decide) rfl (fun h27 => ?_) (fun h27 => ?_)
          · rw [if_pos h27] at hF
            exact Z_sub (vs' := [some (.ref (ad 0)), some (.int x1), some (.int x2), some (.int x3), some (.ref (ad (8 * i4 + 2))), none, none, none, none]) (zSb_of _ _ ⟨rfl, rfl, rfl, rfl, rfl, trivial⟩) (qX7_settle_N hG hF (fun ad' dec' g1 g2 => ⟨rfl, ad', dec', g1, g2, rfl⟩))
          · rw [if_neg h27] at hF
            refine Z_iconst (v := -1) (pc' := 107) dX7_settle_106 (by decide) rfl ?_
            cases hF
            exact Z_iret (ty := .int) (w := (-1 : Int32)) dX7_settle_107 rfl rfl (Nat.zero_le _) (Nat.zero_le _) ⟨rfl, ad, dec, hG, fun _ _ => rfl, rfl⟩
        | some i25 =>
          replace hF := zopt_s hF
          refine Z_ifnull (pc' := 82) dX7_settle_79 rfl ?_
          refine Z_aload (i := 7) (pc' := 84) dX7_settle_82 rfl rfl ?_
          refine Z_aload_n (i := 0) (pc' := 85) dX7_settle_84 rfl rfl rfl ?_
          refine Z_get (v := .ref (ad 24)) (pc' := 88) 1 zinX7 rfl (by decide) lkX7_19 (eC_0 hG) rfl dX7_settle_85 rfl ?_
          obtain ⟨y28, hy28, hF⟩ := bd_of hF
          refine Z_callVi (As := []) (st := [.ref (ad (8 * i25 + 5))]) (pc' := 91) (k' := 0) (n' := 0) (qX0_seasonsWon l hG hy28) ckX0_seasonsWon kvX0_seasonsWon mlX7_168 (eC_3 hG) rfl rfl rfl (Nat.le_of_ble_eq_true rfl) ⟨Nat.le_of_ble_eq_true rfl, Nat.le_of_ble_eq_true rfl⟩ ⟨Nat.le_of_ble_eq_true rfl, Nat.le_of_ble_eq_true rfl⟩ dX7_settle_88 rfl rfl rfl ?_
          obtain ⟨h30, hF⟩ := ck_of hF
          obtain ⟨y29, hy29, hF⟩ := bd_of hF
          refine Z_callVv (As := [.int y28.1]) (st := []) (pc' := 94) (k' := 0) (n' := 0) (qX1_winTime l hG hy29) ckX1_winTime kvX1_winTime mlX7_172 (eC_db hG h30) rfl rfl rfl (Nat.le_of_ble_eq_true rfl) ⟨Nat.le_of_ble_eq_true rfl, Nat.le_of_ble_eq_true rfl⟩ ⟨Nat.le_of_ble_eq_true rfl, Nat.le_of_ble_eq_true rfl⟩ dX7_settle_91 rfl rfl rfl ?_
          refine Z_iconst (v := 2) (pc' := 95) dX7_settle_94 (by decide) rfl ?_
          cases hF
          exact Z_iret (ty := .int) (w := (2 : Int32)) dX7_settle_95 rfl rfl (Nat.zero_le _) (Nat.zero_le _) ⟨rfl, ad, dec, hG, fun _ _ => rfl, rfl⟩
      · rw [if_neg h22] at hF
        refine Z_iconst (v := -1) (pc' := 63) dX7_settle_62 (by decide) rfl ?_
        cases hF
        exact Z_iret (ty := .int) (w := (-1 : Int32)) dX7_settle_63 rfl rfl (Nat.zero_le _) (Nat.zero_le _) ⟨rfl, ad, dec, hG, fun _ _ => rfl, rfl⟩
    | some i20 =>
      replace hF := zopt_s hF
      refine Z_ifnull (pc' := 38) dX7_settle_35 rfl ?_
      refine Z_aload (i := 6) (pc' := 40) dX7_settle_38 rfl rfl ?_
      refine Z_iload_n (i := 3) (pc' := 41) dX7_settle_40 rfl rfl rfl ?_
      obtain ⟨h31, hF⟩ := ck_of hF
      obtain ⟨σ32, hσ32, hF⟩ := zl_of hF
      refine Z_put (pc' := 44) 6 zinX1 tyX1_ok nmX1 rfl (by decide) lkX7_156 rfl (eC_db hG h31) rfl rfl rfl (Nat.le_of_ble_eq_true rfl) rfl dX7_settle_41 rfl ?_
      refine Z_mem (pdb_66 hG h31 hσ32) ?_
      refine Z_iconst (v := 1) (pc' := 45) dX7_settle_44 (by decide) rfl ?_
      cases hF
      exact Z_iret (ty := .int) (w := (1 : Int32)) dX7_settle_45 rfl rfl (Nat.zero_le _) (Nat.zero_le _) ⟨rfl, ad, dec, hG, fun _ _ => rfl, rfl⟩
