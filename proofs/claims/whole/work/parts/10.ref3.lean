abbrev rmX8_finds : Room := { frames := 1, cells := 0, slots := 0, locals := 21 }
def r_finds_L7 : Nat → Int32 → Int32 → zS → Option (zS)
  | 0, _, _, _ => none
  | n + 1, x1_, x2_, σ => (if (σ 11 0) ≤ x2_ then some (σ) else (if zIn x2_ 24 = true then (if (σ 14 (x2_).toNatClampNeg) = x1_ then (if (σ 16 (x2_).toNatClampNeg) = (σ 6 0) then zl (x2_ + 1) (fun (v7 : Int32) => (r_finds_L7 n x1_ v7 σ)) else (if (σ 17 (x2_).toNatClampNeg) = (64 : Int32) then zl (x2_ + 1) (fun (v9 : Int32) => (r_finds_L7 n x1_ v9 σ)) else (if (σ 37 0) = (8 : Int32) then zl (x2_ + 1) (fun (v15 : Int32) => (r_finds_L7 n x1_ v15 σ)) else (if zIn (σ 37 0) 8 = true then zl (zs σ 32 (σ 37 0).toNatClampNeg x2_) (fun (σ12 : zS) => zl (zs σ12 37 0 ((σ12 37 0) + (1 : Int32))) (fun (σ13 : zS) => zl (x2_ + 1) (fun (v14 : Int32) => (r_finds_L7 n x1_ v14 σ13)))) else none)))) else zl (x2_ + 1) (fun (v5 : Int32) => (r_finds_L7 n x1_ v5 σ))) else none))
def r_finds_L94 : Nat → Int32 → Int32 → zS → Option (zS)
  | 0, _, _, _ => none
  | n + 1, x1_, x2_, σ => (if (σ 23 0) ≤ x2_ then some (σ) else ((r_isOpen x2_ σ).bind (fun y19 => (if y19.1 = 0 then zl (x2_ + 1) (fun (v21 : Int32) => (r_finds_L94 n x1_ v21 y19.2)) else (if zIn x2_ 200 = true then (if (y19.2 24 (x2_).toNatClampNeg) = x1_ then (if (y19.2 38 0) = (6 : Int32) then zl (x2_ + 1) (fun (v30 : Int32) => (r_finds_L94 n x1_ v30 y19.2)) else (if zIn (y19.2 38 0) 6 = true then zl (zs y19.2 33 (y19.2 38 0).toNatClampNeg x2_) (fun (σ27 : zS) => zl (zs σ27 38 0 ((σ27 38 0) + (1 : Int32))) (fun (σ28 : zS) => zl (x2_ + 1) (fun (v29 : Int32) => (r_finds_L94 n x1_ v29 σ28)))) else none)) else zl (x2_ + 1) (fun (v24 : Int32) => (r_finds_L94 n x1_ v24 y19.2))) else none)))))
def r_finds  (x1 : Int32) (σ : zS) : Option (Int32 × zS) := zl (zs σ 37 0 (0 : Int32)) (fun (σ1 : zS) => ((r_finds_L7 zF x1 (0 : Int32) σ1).bind (fun r16 => zl (zs r16 38 0 (0 : Int32)) (fun (σ17 : zS) => ((r_finds_L94 zF x1 (0 : Int32) σ17).bind (fun r31 => some (0, r31)))))))
set_option maxHeartbeats 4000000 in
set_option maxRecDepth 100000 in
theorem qX8_finds_L7 {l : Launch} {D : va_G} {M0 : zM} {Q : Option Value → zM → Prop} {ad dec : Nat → Nat} (hG : rG ad dec) : ∀ (n : Nat) (x1_ : Int32) (x2_ : Int32) (σ : zS) (r : (zS)), r_finds_L7 n x1_ x2_ σ = some r → (Z l yX8_finds cX8_finds 3 none rmX8_finds 0 0 D M0 Q 0 0 87 [some (.ref (ad 42)), some (.int x1_), none] [] (mR ad dec r)) → Z l yX8_finds cX8_finds 3 none rmX8_finds 0 0 D M0 Q 0 0 7 [some (.ref (ad 42)), some (.int x1_), some (.int x2_)] [] (mR ad dec σ) := by
  intro n
  induction n with
  | zero =>
    intro x1_ x2_ σ r hF hE
    exact absurd (show (none : Option (zS)) = some r from hF) (by simp)
  | succ n ih =>
    intro x1_ x2_ σ r hF hE
    replace hF : (if (σ 11 0) ≤ x2_ then some (σ) else (if zIn x2_ 24 = true then (if (σ 14 (x2_).toNatClampNeg) = x1_ then (if (σ 16 (x2_).toNatClampNeg) = (σ 6 0) then zl (x2_ + 1) (fun (v7 : Int32) => (r_finds_L7 n x1_ v7 σ)) else (if (σ 17 (x2_).toNatClampNeg) = (64 : Int32) then zl (x2_ + 1) (fun (v9 : Int32) => (r_finds_L7 n x1_ v9 σ)) else (if (σ 37 0) = (8 : Int32) then zl (x2_ + 1) (fun (v15 : Int32) => (r_finds_L7 n x1_ v15 σ)) else (if zIn (σ 37 0) 8 = true then zl (zs σ 32 (σ 37 0).toNatClampNeg x2_) (fun (σ12 : zS) => zl (zs σ12 37 0 ((σ12 37 0) + (1 : Int32))) (fun (σ13 : zS) => zl (x2_ + 1) (fun (v14 : Int32) => (r_finds_L7 n x1_ v14 σ13)))) else none)))) else zl (x2_ + 1) (fun (v5 : Int32) => (r_finds_L7 n x1_ v5 σ))) else none)) = some r := hF
    refine Z_iload_n (i := 2) (pc' := 8) dX8_finds_7 rfl rfl rfl ?_
    refine Z_aload_n (i := 0) (pc' := 9) dX8_finds_8 rfl rfl rfl ?_
    refine Z_get (v := .int (σ 11 0)) (pc' := 12) 11 zinX8 rfl (by decide) lkX8_150 (mR_obj hG) rfl dX8_finds_9 rfl ?_
    refine Z_icmp_ge (tgt := 87) (pc' := 15) dX8_finds_12 (by decide) rfl (fun h2 => ?_) (fun h2 => ?_)
    · rw [if_pos h2] at hF
      cases hF
      exact Z_sub (vs' := [some (.ref (ad 42)), some (.int x1_), none]) (zSb_of _ _ ⟨rfl, ⟨rfl, trivial⟩⟩) hE
    · rw [if_neg h2] at hF
      refine Z_aload_n (i := 0) (pc' := 16) dX8_finds_15 rfl rfl rfl ?_
      refine Z_get (v := .ref (ad 14)) (pc' := 19) 14 zinX8 rfl (by decide) lkX8_43 (mR_obj hG) rfl dX8_finds_16 rfl ?_
      refine Z_iload_n (i := 2) (pc' := 20) dX8_finds_19 rfl rfl rfl ?_
      obtain ⟨h3, hF⟩ := ck_of hF
      refine Z_iald (pc' := 21) (aR_14 hG) (zIn_in h3) dX8_finds_20 rfl ?_
      refine Z_iload_n (i := 1) (pc' := 22) dX8_finds_21 rfl rfl rfl ?_
      refine Z_icmp_ne (tgt := 81) (pc' := 25) dX8_finds_22 (by decide) rfl (fun h4 => ?_) (fun h4 => ?_)
      · rw [if_neg h4] at hF
        obtain ⟨v5, hv5, hF⟩ := zl_of hF
        refine Z_iinc (i := 2) (v := v5) (vs' := [some (.ref (ad 42)), some (.int x1_), some (.int v5)]) (pc' := 84) dX8_finds_81 rfl (by rw [hv5]; rfl) (by decide) rfl rfl ?_
        refine Z_goto (tgt := 7) dX8_finds_84 (by decide) ?_
        exact Z_sub (vs' := [some (.ref (ad 42)), some (.int x1_), some (.int v5)]) (zSb_of _ _ ⟨rfl, ⟨rfl, ⟨rfl, trivial⟩⟩⟩) (ih x1_ v5 σ _ hF hE)
      · rw [if_pos h4] at hF
        refine Z_aload_n (i := 0) (pc' := 26) dX8_finds_25 rfl rfl rfl ?_
        refine Z_get (v := .ref (ad 16)) (pc' := 29) 16 zinX8 rfl (by decide) lkX8_49 (mR_obj hG) rfl dX8_finds_26 rfl ?_
        refine Z_iload_n (i := 2) (pc' := 30) dX8_finds_29 rfl rfl rfl ?_
        refine Z_iald (pc' := 31) (aR_16 hG) (zIn_in h3) dX8_finds_30 rfl ?_
        refine Z_aload_n (i := 0) (pc' := 32) dX8_finds_31 rfl rfl rfl ?_
        refine Z_get (v := .int (σ 6 0)) (pc' := 35) 6 zinX8 rfl (by decide) lkX8_153 (mR_obj hG) rfl dX8_finds_32 rfl ?_
        refine Z_icmp_eq (tgt := 81) (pc' := 38) dX8_finds_35 (by decide) rfl (fun h6 => ?_) (fun h6 => ?_)
        · rw [if_pos h6] at hF
          obtain ⟨v7, hv7, hF⟩ := zl_of hF
          refine Z_iinc (i := 2) (v := v7) (vs' := [some (.ref (ad 42)), some (.int x1_), some (.int v7)]) (pc' := 84) dX8_finds_81 rfl (by rw [hv7]; rfl) (by decide) rfl rfl ?_
          refine Z_goto (tgt := 7) dX8_finds_84 (by decide) ?_
          exact Z_sub (vs' := [some (.ref (ad 42)), some (.int x1_), some (.int v7)]) (zSb_of _ _ ⟨rfl, ⟨rfl, ⟨rfl, trivial⟩⟩⟩) (ih x1_ v7 σ _ hF hE)
        · rw [if_neg h6] at hF
          refine Z_aload_n (i := 0) (pc' := 39) dX8_finds_38 rfl rfl rfl ?_
          refine Z_get (v := .ref (ad 17)) (pc' := 42) 17 zinX8 rfl (by decide) lkX8_52 (mR_obj hG) rfl dX8_finds_39 rfl ?_
          refine Z_iload_n (i := 2) (pc' := 43) dX8_finds_42 rfl rfl rfl ?_
          refine Z_iald (pc' := 44) (aR_17 hG) (zIn_in h3) dX8_finds_43 rfl ?_
          refine Z_bipush (v := 64) (pc' := 46) dX8_finds_44 (by decide) rfl ?_
          refine Z_icmp_eq (tgt := 81) (pc' := 49) dX8_finds_46 (by decide) rfl (fun h8 => ?_) (fun h8 => ?_)
          · rw [if_pos h8] at hF
            obtain ⟨v9, hv9, hF⟩ := zl_of hF
            refine Z_iinc (i := 2) (v := v9) (vs' := [some (.ref (ad 42)), some (.int x1_), some (.int v9)]) (pc' := 84) dX8_finds_81 rfl (by rw [hv9]; rfl) (by decide) rfl rfl ?_
            refine Z_goto (tgt := 7) dX8_finds_84 (by decide) ?_
            exact Z_sub (vs' := [some (.ref (ad 42)), some (.int x1_), some (.int v9)]) (zSb_of _ _ ⟨rfl, ⟨rfl, ⟨rfl, trivial⟩⟩⟩) (ih x1_ v9 σ _ hF hE)
          · rw [if_neg h8] at hF
            refine Z_aload_n (i := 0) (pc' := 50) dX8_finds_49 rfl rfl rfl ?_
            refine Z_get (v := .int (σ 37 0)) (pc' := 53) 37 zinX8 rfl (by decide) lkX8_191 (mR_obj hG) rfl dX8_finds_50 rfl ?_
            refine Z_bipush (v := 8) (pc' := 55) dX8_finds_53 (by decide) rfl ?_
            refine Z_icmp_ne (tgt := 61) (pc' := 58) dX8_finds_55 (by decide) rfl (fun h10 => ?_) (fun h10 => ?_)
            · rw [if_neg h10] at hF
              refine Z_aload_n (i := 0) (pc' := 62) dX8_finds_61 rfl rfl rfl ?_
              refine Z_get (v := .ref (ad 32)) (pc' := 65) 32 zinX8 rfl (by decide) lkX8_94 (mR_obj hG) rfl dX8_finds_62 rfl ?_
              refine Z_aload_n (i := 0) (pc' := 66) dX8_finds_65 rfl rfl rfl ?_
              refine Z_get (v := .int (σ 37 0)) (pc' := 69) 37 zinX8 rfl (by decide) lkX8_191 (mR_obj hG) rfl dX8_finds_66 rfl ?_
              refine Z_iload_n (i := 2) (pc' := 70) dX8_finds_69 rfl rfl rfl ?_
              obtain ⟨h11, hF⟩ := ck_of hF
              obtain ⟨σ12, hσ12, hF⟩ := zl_of hF
              refine Z_iast (pc' := 71) (aR_32 hG) (zIn_in h11) dX8_finds_70 rfl ?_
              refine Z_mem (sR_32 hG hσ12) ?_
              refine Z_aload_n (i := 0) (pc' := 72) dX8_finds_71 rfl rfl rfl ?_
              refine Z_aload_n (i := 0) (pc' := 73) dX8_finds_72 rfl rfl rfl ?_
              refine Z_get (v := .int (σ12 37 0)) (pc' := 76) 37 zinX8 rfl (by decide) lkX8_191 (mR_obj hG) rfl dX8_finds_73 rfl ?_
              refine Z_iconst (v := 1) (pc' := 77) dX8_finds_76 (by decide) rfl ?_
              refine Z_iadd (pc' := 78) dX8_finds_77 rfl ?_
              obtain ⟨σ13, hσ13, hF⟩ := zl_of hF
              refine Z_put (fs' := (rFs ad σ12).set 37 (.int ((σ12 37 0) + (1 : Int32)))) (pc' := 81) 37 zinX8 tyX8_ok nmX8 rfl (by decide) lkX8_191 rfl (mR_obj hG) rfl rfl rfl (Nat.le_of_ble_eq_true rfl) rfl dX8_finds_78 rfl ?_
              refine Z_mem (pR_37 hG hσ13) ?_
              obtain ⟨v14, hv14, hF⟩ := zl_of hF
              refine Z_iinc (i := 2) (v := v14) (vs' := [some (.ref (ad 42)), some (.int x1_), some (.int v14)]) (pc' := 84) dX8_finds_81 rfl (by rw [hv14]; rfl) (by decide) rfl rfl ?_
              refine Z_goto (tgt := 7) dX8_finds_84 (by decide) ?_
              exact Z_sub (vs' := [some (.ref (ad 42)), some (.int x1_), some (.int v14)]) (zSb_of _ _ ⟨rfl, ⟨rfl, ⟨rfl, trivial⟩⟩⟩) (ih x1_ v14 σ13 _ hF hE)
            · rw [if_pos h10] at hF
              refine Z_goto (tgt := 81) dX8_finds_58 (by decide) ?_
              obtain ⟨v15, hv15, hF⟩ := zl_of hF
              refine Z_iinc (i := 2) (v := v15) (vs' := [some (.ref (ad 42)), some (.int x1_), some (.int v15)]) (pc' := 84) dX8_finds_81 rfl (by rw [hv15]; rfl) (by decide) rfl rfl ?_
              refine Z_goto (tgt := 7) dX8_finds_84 (by decide) ?_
              exact Z_sub (vs' := [some (.ref (ad 42)), some (.int x1_), some (.int v15)]) (zSb_of _ _ ⟨rfl, ⟨rfl, ⟨rfl, trivial⟩⟩⟩) (ih x1_ v15 σ _ hF hE)
set_option maxHeartbeats 4000000 in
set_option maxRecDepth 100000 in
theorem qX8_finds_L94 {l : Launch} {D : va_G} {M0 : zM} {Q : Option Value → zM → Prop} {ad dec : Nat → Nat} (hG : rG ad dec) : ∀ (n : Nat) (x1_ : Int32) (x2_ : Int32) (σ : zS) (r : (zS)), r_finds_L94 n x1_ x2_ σ = some r → (Z l yX8_finds cX8_finds 3 none rmX8_finds 0 0 D M0 Q 0 0 158 [none, none, none] [] (mR ad dec r)) → Z l yX8_finds cX8_finds 3 none rmX8_finds 0 0 D M0 Q 0 0 94 [some (.ref (ad 42)), some (.int x1_), some (.int x2_)] [] (mR ad dec σ) := by
  intro n
  induction n with
  | zero =>
    intro x1_ x2_ σ r hF hE
    exact absurd (show (none : Option (zS)) = some r from hF) (by simp)
  | succ n ih =>
    intro x1_ x2_ σ r hF hE
    replace hF : (if (σ 23 0) ≤ x2_ then some (σ) else ((r_isOpen x2_ σ).bind (fun y19 => (if y19.1 = 0 then zl (x2_ + 1) (fun (v21 : Int32) => (r_finds_L94 n x1_ v21 y19.2)) else (if zIn x2_ 200 = true then (if (y19.2 24 (x2_).toNatClampNeg) = x1_ then (if (y19.2 38 0) = (6 : Int32) then zl (x2_ + 1) (fun (v30 : Int32) => (r_finds_L94 n x1_ v30 y19.2)) else (if zIn (y19.2 38 0) 6 = true then zl (zs y19.2 33 (y19.2 38 0).toNatClampNeg x2_) (fun (σ27 : zS) => zl (zs σ27 38 0 ((σ27 38 0) + (1 : Int32))) (fun (σ28 : zS) => zl (x2_ + 1) (fun (v29 : Int32) => (r_finds_L94 n x1_ v29 σ28)))) else none)) else zl (x2_ + 1) (fun (v24 : Int32) => (r_finds_L94 n x1_ v24 y19.2))) else none))))) = some r := hF
    refine Z_iload_n (i := 2) (pc' := 95) dX8_finds_94 rfl rfl rfl ?_
    refine Z_aload_n (i := 0) (pc' := 96) dX8_finds_95 rfl rfl rfl ?_
    refine Z_get (v := .int (σ 23 0)) (pc' := 99) 23 zinX8 rfl (by decide) lkX8_174 (mR_obj hG) rfl dX8_finds_96 rfl ?_
    refine Z_icmp_ge (tgt := 158) (pc' := 102) dX8_finds_99 (by decide) rfl (fun h18 => ?_) (fun h18 => ?_)
    · rw [if_pos h18] at hF
      cases hF
      exact Z_sub (vs' := [none, none, none]) (zSb_of _ _ trivial) hE
    · rw [if_neg h18] at hF
      refine Z_aload_n (i := 0) (pc' := 103) dX8_finds_102 rfl rfl rfl ?_
      refine Z_iload_n (i := 2) (pc' := 104) dX8_finds_103 rfl rfl rfl ?_
      obtain ⟨y19, hy19, hF⟩ := bd_of hF
      refine Z_callVi (As := [.int x2_]) (st := []) (pc' := 107) (k' := 0) (n' := 0) (qX8_isOpen l hG hy19) ckX8_isOpen kvX8_isOpen mlX8_171 (mR_obj hG) rfl rfl rfl (Nat.le_of_ble_eq_true rfl) ⟨Nat.le_of_ble_eq_true rfl, Nat.le_of_ble_eq_true rfl⟩ ⟨Nat.le_of_ble_eq_true rfl, Nat.le_of_ble_eq_true rfl⟩ dX8_finds_104 rfl rfl rfl ?_
      refine Z_if_eq (tgt := 152) (pc' := 110) dX8_finds_107 (by decide) rfl (fun h20 => ?_) (fun h20 => ?_)
      · rw [if_pos h20] at hF
        obtain ⟨v21, hv21, hF⟩ := zl_of hF
        refine Z_iinc (i := 2) (v := v21) (vs' := [some (.ref (ad 42)), some (.int x1_), some (.int v21)]) (pc' := 155) dX8_finds_152 rfl (by rw [hv21]; rfl) (by decide) rfl rfl ?_
        refine Z_goto (tgt := 94) dX8_finds_155 (by decide) ?_
        exact Z_sub (vs' := [some (.ref (ad 42)), some (.int x1_), some (.int v21)]) (zSb_of _ _ ⟨rfl, ⟨rfl, ⟨rfl, trivial⟩⟩⟩) (ih x1_ v21 y19.2 _ hF hE)
      · rw [if_neg h20] at hF
        refine Z_aload_n (i := 0) (pc' := 111) dX8_finds_110 rfl rfl rfl ?_
        refine Z_get (v := .ref (ad 24)) (pc' := 114) 24 zinX8 rfl (by decide) lkX8_70 (mR_obj hG) rfl dX8_finds_111 rfl ?_
        refine Z_iload_n (i := 2) (pc' := 115) dX8_finds_114 rfl rfl rfl ?_
        obtain ⟨h22, hF⟩ := ck_of hF
        refine Z_iald (pc' := 116) (aR_24 hG) (zIn_in h22) dX8_finds_115 rfl ?_
        refine Z_iload_n (i := 1) (pc' := 117) dX8_finds_116 rfl rfl rfl ?_
        refine Z_icmp_ne (tgt := 152) (pc' := 120) dX8_finds_117 (by decide) rfl (fun h23 => ?_) (fun h23 => ?_)
        · rw [if_neg h23] at hF
          obtain ⟨v24, hv24, hF⟩ := zl_of hF
          refine Z_iinc (i := 2) (v := v24) (vs' := [some (.ref (ad 42)), some (.int x1_), some (.int v24)]) (pc' := 155) dX8_finds_152 rfl (by rw [hv24]; rfl) (by decide) rfl rfl ?_
          refine Z_goto (tgt := 94) dX8_finds_155 (by decide) ?_
          exact Z_sub (vs' := [some (.ref (ad 42)), some (.int x1_), some (.int v24)]) (zSb_of _ _ ⟨rfl, ⟨rfl, ⟨rfl, trivial⟩⟩⟩) (ih x1_ v24 y19.2 _ hF hE)
        · rw [if_pos h23] at hF
          refine Z_aload_n (i := 0) (pc' := 121) dX8_finds_120 rfl rfl rfl ?_
          refine Z_get (v := .int (y19.2 38 0)) (pc' := 124) 38 zinX8 rfl (by decide) lkX8_194 (mR_obj hG) rfl dX8_finds_121 rfl ?_
          refine Z_bipush (v := 6) (pc' := 126) dX8_finds_124 (by decide) rfl ?_
          refine Z_icmp_ne (tgt := 132) (pc' := 129) dX8_finds_126 (by decide) rfl (fun h25 => ?_) (fun h25 => ?_)
          · rw [if_neg h25] at hF
            refine Z_aload_n (i := 0) (pc' := 133) dX8_finds_132 rfl rfl rfl ?_
            refine Z_get (v := .ref (ad 33)) (pc' := 136) 33 zinX8 rfl (by decide) lkX8_97 (mR_obj hG) rfl dX8_finds_133 rfl ?_
            refine Z_aload_n (i := 0) (pc' := 137) dX8_finds_136 rfl rfl rfl ?_
            refine Z_get (v := .int (y19.2 38 0)) (pc' := 140) 38 zinX8 rfl (by decide) lkX8_194 (mR_obj hG) rfl dX8_finds_137 rfl ?_
            refine Z_iload_n (i := 2) (pc' := 141) dX8_finds_140 rfl rfl rfl ?_
            obtain ⟨h26, hF⟩ := ck_of hF
            obtain ⟨σ27, hσ27, hF⟩ := zl_of hF
            refine Z_iast (pc' := 142) (aR_33 hG) (zIn_in h26) dX8_finds_141 rfl ?_
            refine Z_mem (sR_33 hG hσ27) ?_
            refine Z_aload_n (i := 0) (pc' := 143) dX8_finds_142 rfl rfl rfl ?_
            refine Z_aload_n (i := 0) (pc' := 144) dX8_finds_143 rfl rfl rfl ?_
            refine Z_get (v := .int (σ27 38 0)) (pc' := 147) 38 zinX8 rfl (by decide) lkX8_194 (mR_obj hG) rfl dX8_finds_144 rfl ?_
            refine Z_iconst (v := 1) (pc' := 148) dX8_finds_147 (by decide) rfl ?_
            refine Z_iadd (pc' := 149) dX8_finds_148 rfl ?_
            obtain ⟨σ28, hσ28, hF⟩ := zl_of hF
            refine Z_put (fs' := (rFs ad σ27).set 38 (.int ((σ27 38 0) + (1 : Int32)))) (pc' := 152) 38 zinX8 tyX8_ok nmX8 rfl (by decide) lkX8_194 rfl (mR_obj hG) rfl rfl rfl (Nat.le_of_ble_eq_true rfl) rfl dX8_finds_149 rfl ?_
            refine Z_mem (pR_38 hG hσ28) ?_
            obtain ⟨v29, hv29, hF⟩ := zl_of hF
            refine Z_iinc (i := 2) (v := v29) (vs' := [some (.ref (ad 42)), some (.int x1_), some (.int v29)]) (pc' := 155) dX8_finds_152 rfl (by rw [hv29]; rfl) (by decide) rfl rfl ?_
            refine Z_goto (tgt := 94) dX8_finds_155 (by decide) ?_
            exact Z_sub (vs' := [some (.ref (ad 42)), some (.int x1_), some (.int v29)]) (zSb_of _ _ ⟨rfl, ⟨rfl, ⟨rfl, trivial⟩⟩⟩) (ih x1_ v29 σ28 _ hF hE)
          · rw [if_pos h25] at hF
            refine Z_goto (tgt := 152) dX8_finds_129 (by decide) ?_
            obtain ⟨v30, hv30, hF⟩ := zl_of hF
            refine Z_iinc (i := 2) (v := v30) (vs' := [some (.ref (ad 42)), some (.int x1_), some (.int v30)]) (pc' := 155) dX8_finds_152 rfl (by rw [hv30]; rfl) (by decide) rfl rfl ?_
            refine Z_goto (tgt := 94) dX8_finds_155 (by decide) ?_
            exact Z_sub (vs' := [some (.ref (ad 42)), some (.int x1_), some (.int v30)]) (zSb_of _ _ ⟨rfl, ⟨rfl, ⟨rfl, trivial⟩⟩⟩) (ih x1_ v30 y19.2 _ hF hE)
set_option maxHeartbeats 4000000 in
set_option maxRecDepth 100000 in
theorem qX8_finds (l : Launch) {ad dec : Nat → Nat} (hG : rG ad dec) {x1 : Int32} {σ : zS} {w : Int32 × zS} (hF : r_finds x1 σ = some w) : zMet l yX8_finds cX8_finds 3 none rmX8_finds [.ref (ad 42), .int x1] (mR ad dec σ) (fun v M' => v = none ∧ M' = (mR ad dec w.2)) := by
  refine zMet.ofZ (vs := [some (.ref (ad 42)), some (.int x1), none]) (by decide) rfl (zCt_of _ ⟨rfl, ⟨rfl, trivial⟩⟩) (Nat.le_of_ble_eq_true rfl) (fun D => ?_)
  unfold r_finds at hF
  refine Z_aload_n (i := 0) (pc' := 1) dX8_finds_0 rfl rfl rfl ?_
  refine Z_iconst (v := 0) (pc' := 2) dX8_finds_1 (by decide) rfl ?_
  obtain ⟨σ1, hσ1, hF⟩ := zl_of hF
  refine Z_put (fs' := (rFs ad σ).set 37 (.int (0 : Int32))) (pc' := 5) 37 zinX8 tyX8_ok nmX8 rfl (by decide) lkX8_191 rfl (mR_obj hG) rfl rfl rfl (Nat.le_of_ble_eq_true rfl) rfl dX8_finds_2 rfl ?_
  refine Z_mem (pR_37 hG hσ1) ?_
  refine Z_iconst (v := 0) (pc' := 6) dX8_finds_5 (by decide) rfl ?_
  refine Z_istore_nE (i := 2) (x' := (0 : Int32)) (vs' := [some (.ref (ad 42)), some (.int x1), some (.int (0 : Int32))]) (pc' := 7) dX8_finds_6 rfl rfl (by decide) rfl rfl ?_
  obtain ⟨r16, hr16, hF⟩ := bd_of hF
  refine Z_sub (vs' := [some (.ref (ad 42)), some (.int x1), some (.int (0 : Int32))]) (zSb_of _ _ ⟨rfl, ⟨rfl, ⟨rfl, trivial⟩⟩⟩) (qX8_finds_L7 hG zF x1 (0 : Int32) σ1 _ hr16 ?_)
  refine Z_aload_n (i := 0) (pc' := 88) dX8_finds_87 rfl rfl rfl ?_
  refine Z_iconst (v := 0) (pc' := 89) dX8_finds_88 (by decide) rfl ?_
  obtain ⟨σ17, hσ17, hF⟩ := zl_of hF
  refine Z_put (fs' := (rFs ad r16).set 38 (.int (0 : Int32))) (pc' := 92) 38 zinX8 tyX8_ok nmX8 rfl (by decide) lkX8_194 rfl (mR_obj hG) rfl rfl rfl (Nat.le_of_ble_eq_true rfl) rfl dX8_finds_89 rfl ?_
  refine Z_mem (pR_38 hG hσ17) ?_
  refine Z_iconst (v := 0) (pc' := 93) dX8_finds_92 (by decide) rfl ?_
  refine Z_istore_nE (i := 2) (x' := (0 : Int32)) (vs' := [some (.ref (ad 42)), some (.int x1), some (.int (0 : Int32))]) (pc' := 94) dX8_finds_93 rfl rfl (by decide) rfl rfl ?_
  obtain ⟨r31, hr31, hF⟩ := bd_of hF
  refine Z_sub (vs' := [some (.ref (ad 42)), some (.int x1), some (.int (0 : Int32))]) (zSb_of _ _ ⟨rfl, ⟨rfl, ⟨rfl, trivial⟩⟩⟩) (qX8_finds_L94 hG zF x1 (0 : Int32) σ17 _ hr31 ?_)
  cases hF
  exact Z_vret dX8_finds_158 rfl (Nat.le_refl _) (Nat.le_refl _) ⟨rfl, rfl⟩
abbrev rmX8_canBeAll : Room := { frames := 0, cells := 0, slots := 0, locals := 0 }
def r_canBeAll_L83 : Nat → Int32 → Int32 → Int32 → Int32 → zS → Option (Int32 × zS)
  | 0, _, _, _, _, _ => none
  | n + 1, x1_, x2_, x3_, x4_, σ => (if x2_ ≤ x4_ then some (x1_, σ) else (if x1_ = 0 then zl (x4_ + 1) (fun (v8 : Int32) => (r_canBeAll_L83 n (0 : Int32) x2_ x3_ v8 σ)) else (if zIn x4_ 6 = true then (if (σ 34 (x4_).toNatClampNeg) = x3_ then zl (x4_ + 1) (fun (v11 : Int32) => (r_canBeAll_L83 n (0 : Int32) x2_ x3_ v11 σ)) else zl (x4_ + 1) (fun (v12 : Int32) => (r_canBeAll_L83 n (1 : Int32) x2_ x3_ v12 σ))) else none)))
def r_canBeAll_L4 : Nat → Int32 → Int32 → zS → Option (Int32 × zS)
  | 0, _, _, _ => none
  | n + 1, x1_, x2_, σ => (if (σ 38 0) ≤ x2_ then some (x1_, σ) else (if zIn x2_ 6 = true then zl (σ 34 (x2_).toNatClampNeg) (fun (v3 : Int32) => (if v3 = (24 : Int32) then zl (x2_ + 1) (fun (v18 : Int32) => (r_canBeAll_L4 n x1_ v18 σ)) else (if x1_ = 0 then ((r_canBeAll_L83 zF (0 : Int32) x2_ v3 (0 : Int32) σ).bind (fun r6 => zl (x2_ + 1) (fun (v7 : Int32) => (r_canBeAll_L4 n r6.1 v7 r6.2)))) else (if zIn v3 24 = true then (if zIn (σ 33 (x2_).toNatClampNeg) 200 = true then (if (σ 12 (v3).toNatClampNeg) = ((1 : Int32) - (σ 26 (σ 33 (x2_).toNatClampNeg).toNatClampNeg)) then (if (σ 13 (v3).toNatClampNeg) < (σ 27 (σ 33 (x2_).toNatClampNeg).toNatClampNeg) then ((r_canBeAll_L83 zF (0 : Int32) x2_ v3 (0 : Int32) σ).bind (fun r14 => zl (x2_ + 1) (fun (v15 : Int32) => (r_canBeAll_L4 n r14.1 v15 r14.2)))) else ((r_canBeAll_L83 zF (1 : Int32) x2_ v3 (0 : Int32) σ).bind (fun r16 => zl (x2_ + 1) (fun (v17 : Int32) => (r_canBeAll_L4 n r16.1 v17 r16.2))))) else ((r_canBeAll_L83 zF (0 : Int32) x2_ v3 (0 : Int32) σ).bind (fun r11 => zl (x2_ + 1) (fun (v12 : Int32) => (r_canBeAll_L4 n r11.1 v12 r11.2))))) else none) else none)))) else none))
def r_canBeAll   (σ : zS) : Option (Int32 × zS) := ((r_canBeAll_L4 zF (1 : Int32) (0 : Int32) σ).bind (fun r19 => some ((vp_nar .boolean r19.1), r19.2)))
set_option maxHeartbeats 4000000 in
set_option maxRecDepth 100000 in
theorem qX8_canBeAll_L83 {l : Launch} {D : va_G} {M0 : zM} {Q : Option Value → zM → Prop} {ad dec : Nat → Nat} (hG : rG ad dec) : ∀ (n : Nat) (x1_ : Int32) (x2_ : Int32) (x3_ : Int32) (x4_ : Int32) (σ : zS) (r : (Int32 × zS)), r_canBeAll_L83 n x1_ x2_ x3_ x4_ σ = some r → (Z l yX8_canBeAll cX8_canBeAll 5 (some .boolean) rmX8_canBeAll 0 0 D M0 Q 0 0 116 [some (.ref (ad 42)), some (.int r.1), some (.int x2_), none, none] [] (mR ad dec r.2)) → Z l yX8_canBeAll cX8_canBeAll 5 (some .boolean) rmX8_canBeAll 0 0 D M0 Q 0 0 83 [some (.ref (ad 42)), some (.int x1_), some (.int x2_), some (.int x3_), some (.int x4_)] [] (mR ad dec σ) := by
  intro n
  induction n with
  | zero =>
    intro x1_ x2_ x3_ x4_ σ r hF hE
    exact absurd (show (none : Option (Int32 × zS)) = some r from hF) (by simp)
  | succ n ih =>
    intro x1_ x2_ x3_ x4_ σ r hF hE
    replace hF : (if x2_ ≤ x4_ then some (x1_, σ) else (if x1_ = 0 then zl (x4_ + 1) (fun (v8 : Int32) => (r_canBeAll_L83 n (0 : Int32) x2_ x3_ v8 σ)) else (if zIn x4_ 6 = true then (if (σ 34 (x4_).toNatClampNeg) = x3_ then zl (x4_ + 1) (fun (v11 : Int32) => (r_canBeAll_L83 n (0 : Int32) x2_ x3_ v11 σ)) else zl (x4_ + 1) (fun (v12 : Int32) => (r_canBeAll_L83 n (1 : Int32) x2_ x3_ v12 σ))) else none))) = some r := hF
    refine Z_iload (i := 4) (pc' := 85) dX8_canBeAll_83 rfl rfl ?_
    refine Z_iload_n (i := 2) (pc' := 86) dX8_canBeAll_85 rfl rfl rfl ?_
    refine Z_icmp_ge (tgt := 116) (pc' := 89) dX8_canBeAll_86 (by decide) rfl (fun h6 => ?_) (fun h6 => ?_)
    · rw [if_pos h6] at hF
      cases hF
      exact Z_sub (vs' := [some (.ref (ad 42)), some (.int x1_), some (.int x2_), none, none]) (zSb_of _ _ ⟨rfl, ⟨rfl, ⟨rfl, trivial⟩⟩⟩) hE
    · rw [if_neg h6] at hF
      refine Z_iload_n (i := 1) (pc' := 90) dX8_canBeAll_89 rfl rfl rfl ?_
      refine Z_if_eq (tgt := 108) (pc' := 93) dX8_canBeAll_90 (by decide) rfl (fun h7 => ?_) (fun h7 => ?_)
      · rw [if_pos h7] at hF
        refine Z_iconst (v := 0) (pc' := 109) dX8_canBeAll_108 (by decide) rfl ?_
        refine Z_istore_nE (i := 1) (x' := (0 : Int32)) (vs' := [some (.ref (ad 42)), some (.int (0 : Int32)), some (.int x2_), some (.int x3_), some (.int x4_)]) (pc' := 110) dX8_canBeAll_109 rfl rfl (by decide) rfl rfl ?_
        obtain ⟨v8, hv8, hF⟩ := zl_of hF
        refine Z_iinc (i := 4) (v := v8) (vs' := [some (.ref (ad 42)), some (.int (0 : Int32)), some (.int x2_), some (.int x3_), some (.int v8)]) (pc' := 113) dX8_canBeAll_110 rfl (by rw [hv8]; rfl) (by decide) rfl rfl ?_
        refine Z_goto (tgt := 83) dX8_canBeAll_113 (by decide) ?_
        exact Z_sub (vs' := [some (.ref (ad 42)), some (.int (0 : Int32)), some (.int x2_), some (.int x3_), some (.int v8)]) (zSb_of _ _ ⟨rfl, ⟨rfl, ⟨rfl, ⟨rfl, ⟨rfl, trivial⟩⟩⟩⟩⟩) (ih (0 : Int32) x2_ x3_ v8 σ _ hF hE)
      · rw [if_neg h7] at hF
        refine Z_aload_n (i := 0) (pc' := 94) dX8_canBeAll_93 rfl rfl rfl ?_
        refine Z_get (v := .ref (ad 34)) (pc' := 97) 34 zinX8 rfl (by decide) lkX8_100 (mR_obj hG) rfl dX8_canBeAll_94 rfl ?_
        refine Z_iload (i := 4) (pc' := 99) dX8_canBeAll_97 rfl rfl ?_
        obtain ⟨h9, hF⟩ := ck_of hF
        refine Z_iald (pc' := 100) (aR_34 hG) (zIn_in h9) dX8_canBeAll_99 rfl ?_
        refine Z_iload_n (i := 3) (pc' := 101) dX8_canBeAll_100 rfl rfl rfl ?_
        refine Z_icmp_eq (tgt := 108) (pc' := 104) dX8_canBeAll_101 (by decide) rfl (fun h10 => ?_) (fun h10 => ?_)
        · rw [if_pos h10] at hF
          refine Z_iconst (v := 0) (pc' := 109) dX8_canBeAll_108 (by decide) rfl ?_
          refine Z_istore_nE (i := 1) (x' := (0 : Int32)) (vs' := [some (.ref (ad 42)), some (.int (0 : Int32)), some (.int x2_), some (.int x3_), some (.int x4_)]) (pc' := 110) dX8_canBeAll_109 rfl rfl (by decide) rfl rfl ?_
          obtain ⟨v11, hv11, hF⟩ := zl_of hF
          refine Z_iinc (i := 4) (v := v11) (vs' := [some (.ref (ad 42)), some (.int (0 : Int32)), some (.int x2_), some (.int x3_), some (.int v11)]) (pc' := 113) dX8_canBeAll_110 rfl (by rw [hv11]; rfl) (by decide) rfl rfl ?_
          refine Z_goto (tgt := 83) dX8_canBeAll_113 (by decide) ?_
          exact Z_sub (vs' := [some (.ref (ad 42)), some (.int (0 : Int32)), some (.int x2_), some (.int x3_), some (.int v11)]) (zSb_of _ _ ⟨rfl, ⟨rfl, ⟨rfl, ⟨rfl, ⟨rfl, trivial⟩⟩⟩⟩⟩) (ih (0 : Int32) x2_ x3_ v11 σ _ hF hE)
        · rw [if_neg h10] at hF
          refine Z_iconst (v := 1) (pc' := 105) dX8_canBeAll_104 (by decide) rfl ?_
          refine Z_goto (tgt := 109) dX8_canBeAll_105 (by decide) ?_
          refine Z_istore_nE (i := 1) (x' := (1 : Int32)) (vs' := [some (.ref (ad 42)), some (.int (1 : Int32)), some (.int x2_), some (.int x3_), some (.int x4_)]) (pc' := 110) dX8_canBeAll_109 rfl rfl (by decide) rfl rfl ?_
          obtain ⟨v12, hv12, hF⟩ := zl_of hF
          refine Z_iinc (i := 4) (v := v12) (vs' := [some (.ref (ad 42)), some (.int (1 : Int32)), some (.int x2_), some (.int x3_), some (.int v12)]) (pc' := 113) dX8_canBeAll_110 rfl (by rw [hv12]; rfl) (by decide) rfl rfl ?_
          refine Z_goto (tgt := 83) dX8_canBeAll_113 (by decide) ?_
          exact Z_sub (vs' := [some (.ref (ad 42)), some (.int (1 : Int32)), some (.int x2_), some (.int x3_), some (.int v12)]) (zSb_of _ _ ⟨rfl, ⟨rfl, ⟨rfl, ⟨rfl, ⟨rfl, trivial⟩⟩⟩⟩⟩) (ih (1 : Int32) x2_ x3_ v12 σ _ hF hE)
set_option maxHeartbeats 4000000 in
set_option maxRecDepth 100000 in
theorem qX8_canBeAll_L4 {l : Launch} {D : va_G} {M0 : zM} {Q : Option Value → zM → Prop} {ad dec : Nat → Nat} (hG : rG ad dec) : ∀ (n : Nat) (x1_ : Int32) (x2_ : Int32) (σ : zS) (r : (Int32 × zS)), r_canBeAll_L4 n x1_ x2_ σ = some r → (Z l yX8_canBeAll cX8_canBeAll 5 (some .boolean) rmX8_canBeAll 0 0 D M0 Q 0 0 122 [none, some (.int r.1), none, none, none] [] (mR ad dec r.2)) → Z l yX8_canBeAll cX8_canBeAll 5 (some .boolean) rmX8_canBeAll 0 0 D M0 Q 0 0 4 [some (.ref (ad 42)), some (.int x1_), some (.int x2_), none, none] [] (mR ad dec σ) := by
  intro n
  induction n with
  | zero =>
    intro x1_ x2_ σ r hF hE
    exact absurd (show (none : Option (Int32 × zS)) = some r from hF) (by simp)
  | succ n ih =>
    intro x1_ x2_ σ r hF hE
    replace hF : (if (σ 38 0) ≤ x2_ then some (x1_, σ) else (if zIn x2_ 6 = true then zl (σ 34 (x2_).toNatClampNeg) (fun (v3 : Int32) => (if v3 = (24 : Int32) then zl (x2_ + 1) (fun (v18 : Int32) => (r_canBeAll_L4 n x1_ v18 σ)) else (if x1_ = 0 then ((r_canBeAll_L83 zF (0 : Int32) x2_ v3 (0 : Int32) σ).bind (fun r6 => zl (x2_ + 1) (fun (v7 : Int32) => (r_canBeAll_L4 n r6.1 v7 r6.2)))) else (if zIn v3 24 = true then (if zIn (σ 33 (x2_).toNatClampNeg) 200 = true then (if (σ 12 (v3).toNatClampNeg) = ((1 : Int32) - (σ 26 (σ 33 (x2_).toNatClampNeg).toNatClampNeg)) then (if (σ 13 (v3).toNatClampNeg) < (σ 27 (σ 33 (x2_).toNatClampNeg).toNatClampNeg) then ((r_canBeAll_L83 zF (0 : Int32) x2_ v3 (0 : Int32) σ).bind (fun r14 => zl (x2_ + 1) (fun (v15 : Int32) => (r_canBeAll_L4 n r14.1 v15 r14.2)))) else ((r_canBeAll_L83 zF (1 : Int32) x2_ v3 (0 : Int32) σ).bind (fun r16 => zl (x2_ + 1) (fun (v17 : Int32) => (r_canBeAll_L4 n r16.1 v17 r16.2))))) else ((r_canBeAll_L83 zF (0 : Int32) x2_ v3 (0 : Int32) σ).bind (fun r11 => zl (x2_ + 1) (fun (v12 : Int32) => (r_canBeAll_L4 n r11.1 v12 r11.2))))) else none) else none)))) else none)) = some r := hF
    refine Z_iload_n (i := 2) (pc' := 5) dX8_canBeAll_4 rfl rfl rfl ?_
    refine Z_aload_n (i := 0) (pc' := 6) dX8_canBeAll_5 rfl rfl rfl ?_
    refine Z_get (v := .int (σ 38 0)) (pc' := 9) 38 zinX8 rfl (by decide) lkX8_194 (mR_obj hG) rfl dX8_canBeAll_6 rfl ?_
    refine Z_icmp_ge (tgt := 122) (pc' := 12) dX8_canBeAll_9 (by decide) rfl (fun h1 => ?_) (fun h1 => ?_)
    · rw [if_pos h1] at hF
      cases hF
      exact Z_sub (vs' := [none, some (.int x1_), none, none, none]) (zSb_of _ _ ⟨rfl, trivial⟩) hE
    · rw [if_neg h1] at hF
      refine Z_aload_n (i := 0) (pc' := 13) dX8_canBeAll_12 rfl rfl rfl ?_
      refine Z_get (v := .ref (ad 34)) (pc' := 16) 34 zinX8 rfl (by decide) lkX8_100 (mR_obj hG) rfl dX8_canBeAll_13 rfl ?_
      refine Z_iload_n (i := 2) (pc' := 17) dX8_canBeAll_16 rfl rfl rfl ?_
      obtain ⟨h2, hF⟩ := ck_of hF
      refine Z_iald (pc' := 18) (aR_34 hG) (zIn_in h2) dX8_canBeAll_17 rfl ?_
      obtain ⟨v3, hv3, hF⟩ := zl_of hF
      refine Z_istore_nE (i := 3) (x' := v3) (vs' := [some (.ref (ad 42)), some (.int x1_), some (.int x2_), some (.int v3), none]) (pc' := 19) dX8_canBeAll_18 rfl hv3 (by decide) rfl rfl ?_
      refine Z_iload_n (i := 3) (pc' := 20) dX8_canBeAll_19 rfl rfl rfl ?_
      refine Z_bipush (v := 24) (pc' := 22) dX8_canBeAll_20 (by decide) rfl ?_
      refine Z_icmp_ne (tgt := 28) (pc' := 25) dX8_canBeAll_22 (by decide) rfl (fun h4 => ?_) (fun h4 => ?_)
      · rw [if_neg h4] at hF
        refine Z_iload_n (i := 1) (pc' := 29) dX8_canBeAll_28 rfl rfl rfl ?_
        refine Z_if_eq (tgt := 78) (pc' := 32) dX8_canBeAll_29 (by decide) rfl (fun h5 => ?_) (fun h5 => ?_)
        · rw [if_pos h5] at hF
          refine Z_iconst (v := 0) (pc' := 79) dX8_canBeAll_78 (by decide) rfl ?_
          refine Z_istore_nE (i := 1) (x' := (0 : Int32)) (vs' := [some (.ref (ad 42)), some (.int (0 : Int32)), some (.int x2_), some (.int v3), none]) (pc' := 80) dX8_canBeAll_79 rfl rfl (by decide) rfl rfl ?_
          refine Z_iconst (v := 0) (pc' := 81) dX8_canBeAll_80 (by decide) rfl ?_
          refine Z_istoreE (i := 4) (x' := (0 : Int32)) (vs' := [some (.ref (ad 42)), some (.int (0 : Int32)), some (.int x2_), some (.int v3), some (.int (0 : Int32))]) (pc' := 83) dX8_canBeAll_81 rfl (by decide) rfl rfl ?_
          obtain ⟨r6, hr6, hF⟩ := bd_of hF
          refine Z_sub (vs' := [some (.ref (ad 42)), some (.int (0 : Int32)), some (.int x2_), some (.int v3), some (.int (0 : Int32))]) (zSb_of _ _ ⟨rfl, ⟨rfl, ⟨rfl, ⟨rfl, ⟨rfl, trivial⟩⟩⟩⟩⟩) (qX8_canBeAll_L83 hG zF (0 : Int32) x2_ v3 (0 : Int32) σ _ hr6 ?_)
          obtain ⟨v7, hv7, hF⟩ := zl_of hF
          refine Z_iinc (i := 2) (v := v7) (vs' := [some (.ref (ad 42)), some (.int r6.1), some (.int v7), none, none]) (pc' := 119) dX8_canBeAll_116 rfl (by rw [hv7]; rfl) (by decide) rfl rfl ?_
          refine Z_goto (tgt := 4) dX8_canBeAll_119 (by decide) ?_
          exact Z_sub (vs' := [some (.ref (ad 42)), some (.int r6.1), some (.int v7), none, none]) (zSb_of _ _ ⟨rfl, ⟨rfl, ⟨rfl, trivial⟩⟩⟩) (ih r6.1 v7 r6.2 _ hF hE)
        · rw [if_neg h5] at hF
          refine Z_aload_n (i := 0) (pc' := 33) dX8_canBeAll_32 rfl rfl rfl ?_
          refine Z_get (v := .ref (ad 12)) (pc' := 36) 12 zinX8 rfl (by decide) lkX8_37 (mR_obj hG) rfl dX8_canBeAll_33 rfl ?_
          refine Z_iload_n (i := 3) (pc' := 37) dX8_canBeAll_36 rfl rfl rfl ?_
          obtain ⟨h8, hF⟩ := ck_of hF
          refine Z_iald (pc' := 38) (aR_12 hG) (zIn_in h8) dX8_canBeAll_37 rfl ?_
          refine Z_iconst (v := 1) (pc' := 39) dX8_canBeAll_38 (by decide) rfl ?_
          refine Z_aload_n (i := 0) (pc' := 40) dX8_canBeAll_39 rfl rfl rfl ?_
          refine Z_get (v := .ref (ad 26)) (pc' := 43) 26 zinX8 rfl (by decide) lkX8_76 (mR_obj hG) rfl dX8_canBeAll_40 rfl ?_
          refine Z_aload_n (i := 0) (pc' := 44) dX8_canBeAll_43 rfl rfl rfl ?_
          refine Z_get (v := .ref (ad 33)) (pc' := 47) 33 zinX8 rfl (by decide) lkX8_97 (mR_obj hG) rfl dX8_canBeAll_44 rfl ?_
          refine Z_iload_n (i := 2) (pc' := 48) dX8_canBeAll_47 rfl rfl rfl ?_
          refine Z_iald (pc' := 49) (aR_33 hG) (zIn_in h2) dX8_canBeAll_48 rfl ?_
          obtain ⟨h9, hF⟩ := ck_of hF
          refine Z_iald (pc' := 50) (aR_26 hG) (zIn_in h9) dX8_canBeAll_49 rfl ?_
          refine Z_isub (pc' := 51) dX8_canBeAll_50 rfl ?_
          refine Z_icmp_ne (tgt := 78) (pc' := 54) dX8_canBeAll_51 (by decide) rfl (fun h10 => ?_) (fun h10 => ?_)
          · rw [if_neg h10] at hF
            refine Z_iconst (v := 0) (pc' := 79) dX8_canBeAll_78 (by decide) rfl ?_
            refine Z_istore_nE (i := 1) (x' := (0 : Int32)) (vs' := [some (.ref (ad 42)), some (.int (0 : Int32)), some (.int x2_), some (.int v3), none]) (pc' := 80) dX8_canBeAll_79 rfl rfl (by decide) rfl rfl ?_
            refine Z_iconst (v := 0) (pc' := 81) dX8_canBeAll_80 (by decide) rfl ?_
            refine Z_istoreE (i := 4) (x' := (0 : Int32)) (vs' := [some (.ref (ad 42)), some (.int (0 : Int32)), some (.int x2_), some (.int v3), some (.int (0 : Int32))]) (pc' := 83) dX8_canBeAll_81 rfl (by decide) rfl rfl ?_
            obtain ⟨r11, hr11, hF⟩ := bd_of hF
            refine Z_sub (vs' := [some (.ref (ad 42)), some (.int (0 : Int32)), some (.int x2_), some (.int v3), some (.int (0 : Int32))]) (zSb_of _ _ ⟨rfl, ⟨rfl, ⟨rfl, ⟨rfl, ⟨rfl, trivial⟩⟩⟩⟩⟩) (qX8_canBeAll_L83 hG zF (0 : Int32) x2_ v3 (0 : Int32) σ _ hr11 ?_)
            obtain ⟨v12, hv12, hF⟩ := zl_of hF
            refine Z_iinc (i := 2) (v := v12) (vs' := [some (.ref (ad 42)), some (.int r11.1), some (.int v12), none, none]) (pc' := 119) dX8_canBeAll_116 rfl (by rw [hv12]; rfl) (by decide) rfl rfl ?_
            refine Z_goto (tgt := 4) dX8_canBeAll_119 (by decide) ?_
            exact Z_sub (vs' := [some (.ref (ad 42)), some (.int r11.1), some (.int v12), none, none]) (zSb_of _ _ ⟨rfl, ⟨rfl, ⟨rfl, trivial⟩⟩⟩) (ih r11.1 v12 r11.2 _ hF hE)
          · rw [if_pos h10] at hF
            refine Z_aload_n (i := 0) (pc' := 55) dX8_canBeAll_54 rfl rfl rfl ?_
            refine Z_get (v := .ref (ad 13)) (pc' := 58) 13 zinX8 rfl (by decide) lkX8_40 (mR_obj hG) rfl dX8_canBeAll_55 rfl ?_
            refine Z_iload_n (i := 3) (pc' := 59) dX8_canBeAll_58 rfl rfl rfl ?_
            refine Z_iald (pc' := 60) (aR_13 hG) (zIn_in h8) dX8_canBeAll_59 rfl ?_
            refine Z_aload_n (i := 0) (pc' := 61) dX8_canBeAll_60 rfl rfl rfl ?_
            refine Z_get (v := .ref (ad 27)) (pc' := 64) 27 zinX8 rfl (by decide) lkX8_79 (mR_obj hG) rfl dX8_canBeAll_61 rfl ?_
            refine Z_aload_n (i := 0) (pc' := 65) dX8_canBeAll_64 rfl rfl rfl ?_
            refine Z_get (v := .ref (ad 33)) (pc' := 68) 33 zinX8 rfl (by decide) lkX8_97 (mR_obj hG) rfl dX8_canBeAll_65 rfl ?_
            refine Z_iload_n (i := 2) (pc' := 69) dX8_canBeAll_68 rfl rfl rfl ?_
            refine Z_iald (pc' := 70) (aR_33 hG) (zIn_in h2) dX8_canBeAll_69 rfl ?_
            refine Z_iald (pc' := 71) (aR_27 hG) (zIn_in h9) dX8_canBeAll_70 rfl ?_
            refine Z_icmp_lt (tgt := 78) (pc' := 74) dX8_canBeAll_71 (by decide) rfl (fun h13 => ?_) (fun h13 => ?_)
            · rw [if_pos h13] at hF
              refine Z_iconst (v := 0) (pc' := 79) dX8_canBeAll_78 (by decide) rfl ?_
              refine Z_istore_nE (i := 1) (x' := (0 : Int32)) (vs' := [some (.ref (ad 42)), some (.int (0 : Int32)), some (.int x2_), some (.int v3), none]) (pc' := 80) dX8_canBeAll_79 rfl rfl (by decide) rfl rfl ?_
              refine Z_iconst (v := 0) (pc' := 81) dX8_canBeAll_80 (by decide) rfl ?_
              refine Z_istoreE (i := 4) (x' := (0 : Int32)) (vs' := [some (.ref (ad 42)), some (.int (0 : Int32)), some (.int x2_), some (.int v3), some (.int (0 : Int32))]) (pc' := 83) dX8_canBeAll_81 rfl (by decide) rfl rfl ?_
              obtain ⟨r14, hr14, hF⟩ := bd_of hF
              refine Z_sub (vs' := [some (.ref (ad 42)), some (.int (0 : Int32)), some (.int x2_), some (.int v3), some (.int (0 : Int32))]) (zSb_of _ _ ⟨rfl, ⟨rfl, ⟨rfl, ⟨rfl, ⟨rfl, trivial⟩⟩⟩⟩⟩) (qX8_canBeAll_L83 hG zF (0 : Int32) x2_ v3 (0 : Int32) σ _ hr14 ?_)
              obtain ⟨v15, hv15, hF⟩ := zl_of hF
              refine Z_iinc (i := 2) (v := v15) (vs' := [some (.ref (ad 42)), some (.int r14.1), some (.int v15), none, none]) (pc' := 119) dX8_canBeAll_116 rfl (by rw [hv15]; rfl) (by decide) rfl rfl ?_
              refine Z_goto (tgt := 4) dX8_canBeAll_119 (by decide) ?_
              exact Z_sub (vs' := [some (.ref (ad 42)), some (.int r14.1), some (.int v15), none, none]) (zSb_of _ _ ⟨rfl, ⟨rfl, ⟨rfl, trivial⟩⟩⟩) (ih r14.1 v15 r14.2 _ hF hE)
            · rw [if_neg h13] at hF
              refine Z_iconst (v := 1) (pc' := 75) dX8_canBeAll_74 (by decide) rfl ?_
              refine Z_goto (tgt := 79) dX8_canBeAll_75 (by decide) ?_
              refine Z_istore_nE (i := 1) (x' := (1 : Int32)) (vs' := [some (.ref (ad 42)), some (.int (1 : Int32)), some (.int x2_), some (.int v3), none]) (pc' := 80) dX8_canBeAll_79 rfl rfl (by decide) rfl rfl ?_
              refine Z_iconst (v := 0) (pc' := 81) dX8_canBeAll_80 (by decide) rfl ?_
              refine Z_istoreE (i := 4) (x' := (0 : Int32)) (vs' := [some (.ref (ad 42)), some (.int (1 : Int32)), some (.int x2_), some (.int v3), some (.int (0 : Int32))]) (pc' := 83) dX8_canBeAll_81 rfl (by decide) rfl rfl ?_
              obtain ⟨r16, hr16, hF⟩ := bd_of hF
              refine Z_sub (vs' := [some (.ref (ad 42)), some (.int (1 : Int32)), some (.int x2_), some (.int v3), some (.int (0 : Int32))]) (zSb_of _ _ ⟨rfl, ⟨rfl, ⟨rfl, ⟨rfl, ⟨rfl, trivial⟩⟩⟩⟩⟩) (qX8_canBeAll_L83 hG zF (1 : Int32) x2_ v3 (0 : Int32) σ _ hr16 ?_)
              obtain ⟨v17, hv17, hF⟩ := zl_of hF
              refine Z_iinc (i := 2) (v := v17) (vs' := [some (.ref (ad 42)), some (.int r16.1), some (.int v17), none, none]) (pc' := 119) dX8_canBeAll_116 rfl (by rw [hv17]; rfl) (by decide) rfl rfl ?_
              refine Z_goto (tgt := 4) dX8_canBeAll_119 (by decide) ?_
              exact Z_sub (vs' := [some (.ref (ad 42)), some (.int r16.1), some (.int v17), none, none]) (zSb_of _ _ ⟨rfl, ⟨rfl, ⟨rfl, trivial⟩⟩⟩) (ih r16.1 v17 r16.2 _ hF hE)
      · rw [if_pos h4] at hF
        refine Z_goto (tgt := 116) dX8_canBeAll_25 (by decide) ?_
        obtain ⟨v18, hv18, hF⟩ := zl_of hF
        refine Z_iinc (i := 2) (v := v18) (vs' := [some (.ref (ad 42)), some (.int x1_), some (.int v18), some (.int v3), none]) (pc' := 119) dX8_canBeAll_116 rfl (by rw [hv18]; rfl) (by decide) rfl rfl ?_
        refine Z_goto (tgt := 4) dX8_canBeAll_119 (by decide) ?_
        exact Z_sub (vs' := [some (.ref (ad 42)), some (.int x1_), some (.int v18), none, none]) (zSb_of _ _ ⟨rfl, ⟨rfl, ⟨rfl, trivial⟩⟩⟩) (ih x1_ v18 σ _ hF hE)
set_option maxHeartbeats 4000000 in
set_option maxRecDepth 100000 in
theorem qX8_canBeAll (l : Launch) {ad dec : Nat → Nat} (hG : rG ad dec)  {σ : zS} {w : Int32 × zS} (hF : r_canBeAll  σ = some w) : zMet l yX8_canBeAll cX8_canBeAll 5 (some .boolean) rmX8_canBeAll [.ref (ad 42)] (mR ad dec σ) (fun v M' => v = (some (.int w.1)) ∧ M' = (mR ad dec w.2)) := by
  refine zMet.ofZ (vs := [some (.ref (ad 42)), none, none, none, none]) (by decide) rfl (zCt_of _ ⟨rfl, trivial⟩) (Nat.le_of_ble_eq_true rfl) (fun D => ?_)
  unfold r_canBeAll at hF
  refine Z_iconst (v := 1) (pc' := 1) dX8_canBeAll_0 (by decide) rfl ?_
  refine Z_istore_nE (i := 1) (x' := (1 : Int32)) (vs' := [some (.ref (ad 42)), some (.int (1 : Int32)), none, none, none]) (pc' := 2) dX8_canBeAll_1 rfl rfl (by decide) rfl rfl ?_
  refine Z_iconst (v := 0) (pc' := 3) dX8_canBeAll_2 (by decide) rfl ?_
  refine Z_istore_nE (i := 2) (x' := (0 : Int32)) (vs' := [some (.ref (ad 42)), some (.int (1 : Int32)), some (.int (0 : Int32)), none, none]) (pc' := 4) dX8_canBeAll_3 rfl rfl (by decide) rfl rfl ?_
  obtain ⟨r19, hr19, hF⟩ := bd_of hF
  refine Z_sub (vs' := [some (.ref (ad 42)), some (.int (1 : Int32)), some (.int (0 : Int32)), none, none]) (zSb_of _ _ ⟨rfl, ⟨rfl, ⟨rfl, trivial⟩⟩⟩) (qX8_canBeAll_L4 hG zF (1 : Int32) (0 : Int32) σ _ hr19 ?_)
  refine Z_iload_n (i := 1) (pc' := 123) dX8_canBeAll_122 rfl rfl rfl ?_
  cases hF
  exact Z_iret (ty := .boolean) (w := (vp_nar .boolean r19.1)) dX8_canBeAll_123 rfl rfl (Nat.le_refl _) (Nat.le_refl _) ⟨rfl, rfl⟩
abbrev rmX8_isLess : Room := { frames := 0, cells := 0, slots := 0, locals := 0 }
def r_isLess_L2 : Nat → Int32 → zS → Option ((Int32 × zS) ⊕ (zS))
  | 0, _, _ => none
  | n + 1, x1_, σ => (if (σ 38 0) ≤ x1_ then some (.inr (σ)) else (if zIn x1_ 6 = true then (if (σ 34 (x1_).toNatClampNeg) = (σ 35 (x1_).toNatClampNeg) then zl (x1_ + 1) (fun (v4 : Int32) => (r_isLess_L2 n v4 σ)) else (if (σ 35 (x1_).toNatClampNeg) ≤ (σ 34 (x1_).toNatClampNeg) then some (.inl ((0 : Int32), σ)) else some (.inl ((1 : Int32), σ)))) else none))
def r_isLess   (σ : zS) : Option (Int32 × zS) := ((r_isLess_L2 zF (0 : Int32) σ).bind (zsum (fun w => some w) (fun q7 => some ((0 : Int32), q7))))
set_option maxHeartbeats 4000000 in
set_option maxRecDepth 100000 in
theorem qX8_isLess_L2 {l : Launch} {D : va_G} {M0 : zM} {Q : Option Value → zM → Prop} {ad dec : Nat → Nat} (hG : rG ad dec) : ∀ (n : Nat) (x1_ : Int32) (σ : zS) (r : ((Int32 × zS) ⊕ (zS))), r_isLess_L2 n x1_ σ = some r → ((∀ a, r = .inl a → Q (some (.int a.1)) (mR ad dec a.2))) → ((∀ q, r = .inr q → Z l yX8_isLess cX8_isLess 2 (some .boolean) rmX8_isLess 0 0 D M0 Q 0 0 52 [none, none] [] (mR ad dec q))) → Z l yX8_isLess cX8_isLess 2 (some .boolean) rmX8_isLess 0 0 D M0 Q 0 0 2 [some (.ref (ad 42)), some (.int x1_)] [] (mR ad dec σ) := by
  intro n
  induction n with
  | zero =>
    intro x1_ σ r hF hI hE
    exact absurd (show (none : Option ((Int32 × zS) ⊕ (zS))) = some r from hF) (by simp)
  | succ n ih =>
    intro x1_ σ r hF hI hE
    replace hF : (if (σ 38 0) ≤ x1_ then some (.inr (σ)) else (if zIn x1_ 6 = true then (if (σ 34 (x1_).toNatClampNeg) = (σ 35 (x1_).toNatClampNeg) then zl (x1_ + 1) (fun (v4 : Int32) => (r_isLess_L2 n v4 σ)) else (if (σ 35 (x1_).toNatClampNeg) ≤ (σ 34 (x1_).toNatClampNeg) then some (.inl ((0 : Int32), σ)) else some (.inl ((1 : Int32), σ)))) else none)) = some r := hF
    refine Z_iload_n (i := 1) (pc' := 3) dX8_isLess_2 rfl rfl rfl ?_
    refine Z_aload_n (i := 0) (pc' := 4) dX8_isLess_3 rfl rfl rfl ?_
    refine Z_get (v := .int (σ 38 0)) (pc' := 7) 38 zinX8 rfl (by decide) lkX8_194 (mR_obj hG) rfl dX8_isLess_4 rfl ?_
    refine Z_icmp_ge (tgt := 52) (pc' := 10) dX8_isLess_7 (by decide) rfl (fun h1 => ?_) (fun h1 => ?_)
    · rw [if_pos h1] at hF
      cases hF
      exact Z_sub (vs' := [none, none]) (zSb_of _ _ trivial) (hE _ rfl)
    · rw [if_neg h1] at hF
      refine Z_aload_n (i := 0) (pc' := 11) dX8_isLess_10 rfl rfl rfl ?_
      refine Z_get (v := .ref (ad 34)) (pc' := 14) 34 zinX8 rfl (by decide) lkX8_100 (mR_obj hG) rfl dX8_isLess_11 rfl ?_
      refine Z_iload_n (i := 1) (pc' := 15) dX8_isLess_14 rfl rfl rfl ?_
      obtain ⟨h2, hF⟩ := ck_of hF
      refine Z_iald (pc' := 16) (aR_34 hG) (zIn_in h2) dX8_isLess_15 rfl ?_
      refine Z_aload_n (i := 0) (pc' := 17) dX8_isLess_16 rfl rfl rfl ?_
      refine Z_get (v := .ref (ad 35)) (pc' := 20) 35 zinX8 rfl (by decide) lkX8_103 (mR_obj hG) rfl dX8_isLess_17 rfl ?_
      refine Z_iload_n (i := 1) (pc' := 21) dX8_isLess_20 rfl rfl rfl ?_
      refine Z_iald (pc' := 22) (aR_35 hG) (zIn_in h2) dX8_isLess_21 rfl ?_
      refine Z_icmp_eq (tgt := 46) (pc' := 25) dX8_isLess_22 (by decide) rfl (fun h3 => ?_) (fun h3 => ?_)
      · rw [if_pos h3] at hF
        obtain ⟨v4, hv4, hF⟩ := zl_of hF
        refine Z_iinc (i := 1) (v := v4) (vs' := [some (.ref (ad 42)), some (.int v4)]) (pc' := 49) dX8_isLess_46 rfl (by rw [hv4]; rfl) (by decide) rfl rfl ?_
        refine Z_goto (tgt := 2) dX8_isLess_49 (by decide) ?_
        exact Z_sub (vs' := [some (.ref (ad 42)), some (.int v4)]) (zSb_of _ _ ⟨rfl, ⟨rfl, trivial⟩⟩) (ih v4 σ _ hF hI hE)
      · rw [if_neg h3] at hF
        refine Z_aload_n (i := 0) (pc' := 26) dX8_isLess_25 rfl rfl rfl ?_
        refine Z_get (v := .ref (ad 34)) (pc' := 29) 34 zinX8 rfl (by decide) lkX8_100 (mR_obj hG) rfl dX8_isLess_26 rfl ?_
        refine Z_iload_n (i := 1) (pc' := 30) dX8_isLess_29 rfl rfl rfl ?_
        refine Z_iald (pc' := 31) (aR_34 hG) (zIn_in h2) dX8_isLess_30 rfl ?_
        refine Z_aload_n (i := 0) (pc' := 32) dX8_isLess_31 rfl rfl rfl ?_
        refine Z_get (v := .ref (ad 35)) (pc' := 35) 35 zinX8 rfl (by decide) lkX8_103 (mR_obj hG) rfl dX8_isLess_32 rfl ?_
        refine Z_iload_n (i := 1) (pc' := 36) dX8_isLess_35 rfl rfl rfl ?_
        refine Z_iald (pc' := 37) (aR_35 hG) (zIn_in h2) dX8_isLess_36 rfl ?_
        refine Z_icmp_ge (tgt := 44) (pc' := 40) dX8_isLess_37 (by decide) rfl (fun h5 => ?_) (fun h5 => ?_)
        · rw [if_pos h5] at hF
          refine Z_iconst (v := 0) (pc' := 45) dX8_isLess_44 (by decide) rfl ?_
          cases hF
          exact Z_iret (ty := .boolean) (w := (0 : Int32)) dX8_isLess_45 rfl rfl (Nat.le_refl _) (Nat.le_refl _) (hI _ rfl)
        · rw [if_neg h5] at hF
          refine Z_iconst (v := 1) (pc' := 41) dX8_isLess_40 (by decide) rfl ?_
          refine Z_goto (tgt := 45) dX8_isLess_41 (by decide) ?_
          cases hF
          exact Z_iret (ty := .boolean) (w := (1 : Int32)) dX8_isLess_45 rfl rfl (Nat.le_refl _) (Nat.le_refl _) (hI _ rfl)
set_option maxHeartbeats 4000000 in
set_option maxRecDepth 100000 in
theorem qX8_isLess (l : Launch) {ad dec : Nat → Nat} (hG : rG ad dec)  {σ : zS} {w : Int32 × zS} (hF : r_isLess  σ = some w) : zMet l yX8_isLess cX8_isLess 2 (some .boolean) rmX8_isLess [.ref (ad 42)] (mR ad dec σ) (fun v M' => v = (some (.int w.1)) ∧ M' = (mR ad dec w.2)) := by
  refine zMet.ofZ (vs := [some (.ref (ad 42)), none]) (by decide) rfl (zCt_of _ ⟨rfl, trivial⟩) (Nat.le_of_ble_eq_true rfl) (fun D => ?_)
  unfold r_isLess at hF
  refine Z_iconst (v := 0) (pc' := 1) dX8_isLess_0 (by decide) rfl ?_
  refine Z_istore_nE (i := 1) (x' := (0 : Int32)) (vs' := [some (.ref (ad 42)), some (.int (0 : Int32))]) (pc' := 2) dX8_isLess_1 rfl rfl (by decide) rfl rfl ?_
  obtain ⟨r6, hr6, hF⟩ := bd_of hF
  refine Z_sub (vs' := [some (.ref (ad 42)), some (.int (0 : Int32))]) (zSb_of _ _ ⟨rfl, ⟨rfl, trivial⟩⟩) (qX8_isLess_L2 hG zF (0 : Int32) σ _ hr6 (fun w hw => ?_) (fun q7 hq7 => ?_))
  · rw [hw] at hF
    have hF := zsum_l hF
    cases hF
    exact ⟨rfl, rfl⟩
  · rw [hq7] at hF
    replace hF := zsum_r hF
    refine Z_iconst (v := 0) (pc' := 53) dX8_isLess_52 (by decide) rfl ?_
    cases hF
    exact Z_iret (ty := .boolean) (w := (0 : Int32)) dX8_isLess_53 rfl rfl (Nat.le_refl _) (Nat.le_refl _) ⟨rfl, rfl⟩
abbrev rmX8_closings : Room := { frames := 2, cells := 0, slots := 0, locals := 43 }
def r_closings_L19 : Nat → Int32 → Int32 → zS → Option (Int32 × zS)
  | 0, _, _, _ => none
  | n + 1, x2_, x3_, σ => (if (σ 38 0) ≤ x3_ then some (x2_, σ) else zl (x2_ * ((σ 37 0) + (1 : Int32))) (fun (v5 : Int32) => zl (x3_ + 1) (fun (v6 : Int32) => (r_closings_L19 n v5 v6 σ))))
def r_closings_L71 : Nat → Int32 → Int32 → Int32 → Int32 → Int32 → Int32 → zS → Option (Int32 × Int32 × zS)
  | 0, _, _, _, _, _, _, _ => none
  | n + 1, x2_, x3_, x4_, x5_, x6_, x7_, σ => (if x7_ < 0 then some (x5_, x6_, σ) else (if ¬ ((σ 37 0) + (1 : Int32)) = 0 then zl (x4_ - x4_ / ((σ 37 0) + (1 : Int32)) * ((σ 37 0) + (1 : Int32))) (fun (v13 : Int32) => (if ¬ ((σ 37 0) + (1 : Int32)) = 0 then zl (x4_ / ((σ 37 0) + (1 : Int32))) (fun (v15 : Int32) => (if v13 = (σ 37 0) then (if zIn x7_ 6 = true then zl (zs σ 34 (x7_).toNatClampNeg (24 : Int32)) (fun (σ31 : zS) => (if v13 = (σ31 37 0) then zl (x5_ + (0 : Int32)) (fun (v39 : Int32) => zl (x6_ + (0 : Int32)) (fun (v41 : Int32) => zl (x7_ + (-1)) (fun (v42 : Int32) => (r_closings_L71 n x2_ x3_ v15 v39 v41 v42 σ31)))) else zl (x5_ + (1 : Int32)) (fun (v33 : Int32) => (if zIn v13 8 = true then (if zIn (σ31 32 (v13).toNatClampNeg) 24 = true then zl (x6_ + (σ31 13 (σ31 32 (v13).toNatClampNeg).toNatClampNeg)) (fun (v37 : Int32) => zl (x7_ + (-1)) (fun (v38 : Int32) => (r_closings_L71 n x2_ x3_ v15 v33 v37 v38 σ31))) else none) else none)))) else none) else (if zIn v13 8 = true then (if zIn x7_ 6 = true then zl (zs σ 34 (x7_).toNatClampNeg (σ 32 (v13).toNatClampNeg)) (fun (σ19 : zS) => (if v13 = (σ19 37 0) then zl (x5_ + (0 : Int32)) (fun (v26 : Int32) => zl (x6_ + (0 : Int32)) (fun (v28 : Int32) => zl (x7_ + (-1)) (fun (v29 : Int32) => (r_closings_L71 n x2_ x3_ v15 v26 v28 v29 σ19)))) else zl (x5_ + (1 : Int32)) (fun (v21 : Int32) => (if zIn (σ19 32 (v13).toNatClampNeg) 24 = true then zl (x6_ + (σ19 13 (σ19 32 (v13).toNatClampNeg).toNatClampNeg)) (fun (v24 : Int32) => zl (x7_ + (-1)) (fun (v25 : Int32) => (r_closings_L71 n x2_ x3_ v15 v21 v24 v25 σ19))) else none)))) else none) else none))) else none)) else none))
def r_closings_L261 : Nat → Int32 → Int32 → Int32 → zS → Option (zS)
  | 0, _, _, _, _ => none
  | n + 1, x2_, x3_, x8_, σ => (if (σ 38 0) ≤ x8_ then some (σ) else (if zIn x8_ 6 = true then zl (zs σ 35 (x8_).toNatClampNeg (σ 34 (x8_).toNatClampNeg)) (fun (σ52 : zS) => zl (x8_ + 1) (fun (v53 : Int32) => (r_closings_L261 n x2_ x3_ v53 σ52))) else none))
def r_closings_L49 : Nat → Int32 → Int32 → zS → Option (zS)
  | 0, _, _, _ => none
  | n + 1, x2_, x3_, σ => (if x2_ ≤ x3_ then some (σ) else zl ((σ 38 0) - (1 : Int32)) (fun (v10 : Int32) => ((r_closings_L71 zF x2_ x3_ x3_ (0 : Int32) (0 : Int32) v10 σ).bind (fun r11 => (if (r11.2.2 39 0) < r11.1 then ((r_canBeAll r11.2.2).bind (fun y14 => (if y14.1 = 0 then zl (x3_ + 1) (fun (v20 : Int32) => (r_closings_L49 n x2_ v20 y14.2)) else zl (zs y14.2 39 0 r11.1) (fun (σ16 : zS) => zl (zs σ16 40 0 r11.2.1) (fun (σ17 : zS) => ((r_closings_L261 zF x2_ x3_ (0 : Int32) σ17).bind (fun r18 => zl (x3_ + 1) (fun (v19 : Int32) => (r_closings_L49 n x2_ v19 r18))))))))) else (if r11.1 = (r11.2.2 39 0) then (if r11.2.1 < (r11.2.2 40 0) then ((r_canBeAll r11.2.2).bind (fun y26 => (if y26.1 = 0 then zl (x3_ + 1) (fun (v32 : Int32) => (r_closings_L49 n x2_ v32 y26.2)) else zl (zs y26.2 39 0 r11.1) (fun (σ28 : zS) => zl (zs σ28 40 0 r11.2.1) (fun (σ29 : zS) => ((r_closings_L261 zF x2_ x3_ (0 : Int32) σ29).bind (fun r30 => zl (x3_ + 1) (fun (v31 : Int32) => (r_closings_L49 n x2_ v31 r30))))))))) else (if r11.2.1 = (r11.2.2 40 0) then ((r_isLess r11.2.2).bind (fun y36 => (if y36.1 = 0 then zl (x3_ + 1) (fun (v39 : Int32) => (r_closings_L49 n x2_ v39 y36.2)) else ((r_canBeAll y36.2).bind (fun y41 => (if y41.1 = 0 then zl (x3_ + 1) (fun (v47 : Int32) => (r_closings_L49 n x2_ v47 y41.2)) else zl (zs y41.2 39 0 r11.1) (fun (σ43 : zS) => zl (zs σ43 40 0 r11.2.1) (fun (σ44 : zS) => ((r_closings_L261 zF x2_ x3_ (0 : Int32) σ44).bind (fun r45 => zl (x3_ + 1) (fun (v46 : Int32) => (r_closings_L49 n x2_ v46 r45)))))))))))) else zl (x3_ + 1) (fun (v35 : Int32) => (r_closings_L49 n x2_ v35 r11.2.2)))) else zl (x3_ + 1) (fun (v23 : Int32) => (r_closings_L49 n x2_ v23 r11.2.2))))))))
def r_closings_L298 : Nat → Int32 → zS → Option (zS)
  | 0, _, _ => none
  | n + 1, x3_, σ => (if (6 : Int32) ≤ x3_ then some (σ) else (if (σ 38 0) ≤ x3_ then (if zIn x3_ 6 = true then zl (zs σ 36 (x3_).toNatClampNeg (-1 : Int32)) (fun (σ52 : zS) => zl (x3_ + 1) (fun (v53 : Int32) => (r_closings_L298 n v53 σ52))) else none) else (if zIn x3_ 6 = true then (if (σ 35 (x3_).toNatClampNeg) = (24 : Int32) then zl (zs σ 36 (x3_).toNatClampNeg (-1 : Int32)) (fun (σ56 : zS) => zl (x3_ + 1) (fun (v57 : Int32) => (r_closings_L298 n v57 σ56))) else zl (zs σ 36 (x3_).toNatClampNeg (σ 35 (x3_).toNatClampNeg)) (fun (σ58 : zS) => zl (x3_ + 1) (fun (v59 : Int32) => (r_closings_L298 n v59 σ58)))) else none)))
def r_closings  (x1 : Int32) (σ : zS) : Option (Int32 × zS) := ((r_lives x1 σ).bind (fun y1 => (if y1.1 = 0 then some ((-1 : Int32), y1.2) else ((r_finds x1 y1.2).bind (fun y3 => ((r_closings_L19 zF (1 : Int32) (0 : Int32) y3.2).bind (fun r7 => zl (zs r7.2 39 0 (-1 : Int32)) (fun (σ8 : zS) => ((r_closings_L49 zF r7.1 (0 : Int32) σ8).bind (fun r48 => ((r_closings_L298 zF (0 : Int32) r48).bind (fun r60 => some ((r60 39 0), r60)))))))))))))
set_option maxHeartbeats 4000000 in
set_option maxRecDepth 100000 in
theorem qX8_closings_L19 {l : Launch} {D : va_G} {M0 : zM} {Q : Option Value → zM → Prop} {ad dec : Nat → Nat} (hG : rG ad dec) : ∀ (n : Nat) (x2_ : Int32) (x3_ : Int32) (σ : zS) (r : (Int32 × zS)), r_closings_L19 n x2_ x3_ σ = some r → (Z l yX8_closings cX8_closings 9 (some .int) rmX8_closings 0 0 D M0 Q 0 0 42 [some (.ref (ad 42)), none, some (.int r.1), none, none, none, none, none, none] [] (mR ad dec r.2)) → Z l yX8_closings cX8_closings 9 (some .int) rmX8_closings 0 0 D M0 Q 0 0 19 [some (.ref (ad 42)), none, some (.int x2_), some (.int x3_), none, none, none, none, none] [] (mR ad dec σ) := by
  intro n
  induction n with
  | zero =>
    intro x2_ x3_ σ r hF hE
    exact absurd (show (none : Option (Int32 × zS)) = some r from hF) (by simp)
  | succ n ih =>
    intro x2_ x3_ σ r hF hE
    replace hF : (if (σ 38 0) ≤ x3_ then some (x2_, σ) else zl (x2_ * ((σ 37 0) + (1 : Int32))) (fun (v5 : Int32) => zl (x3_ + 1) (fun (v6 : Int32) => (r_closings_L19 n v5 v6 σ)))) = some r := hF
    refine Z_iload_n (i := 3) (pc' := 20) dX8_closings_19 rfl rfl rfl ?_
    refine Z_aload_n (i := 0) (pc' := 21) dX8_closings_20 rfl rfl rfl ?_
    refine Z_get (v := .int (σ 38 0)) (pc' := 24) 38 zinX8 rfl (by decide) lkX8_194 (mR_obj hG) rfl dX8_closings_21 rfl ?_
    refine Z_icmp_ge (tgt := 42) (pc' := 27) dX8_closings_24 (by decide) rfl (fun h4 => ?_) (fun h4 => ?_)
    · rw [if_pos h4] at hF
      cases hF
      exact Z_sub (vs' := [some (.ref (ad 42)), none, some (.int x2_), none, none, none, none, none, none]) (zSb_of _ _ ⟨rfl, ⟨rfl, trivial⟩⟩) hE
    · rw [if_neg h4] at hF
      refine Z_iload_n (i := 2) (pc' := 28) dX8_closings_27 rfl rfl rfl ?_
      refine Z_aload_n (i := 0) (pc' := 29) dX8_closings_28 rfl rfl rfl ?_
      refine Z_get (v := .int (σ 37 0)) (pc' := 32) 37 zinX8 rfl (by decide) lkX8_191 (mR_obj hG) rfl dX8_closings_29 rfl ?_
      refine Z_iconst (v := 1) (pc' := 33) dX8_closings_32 (by decide) rfl ?_
      refine Z_iadd (pc' := 34) dX8_closings_33 rfl ?_
      refine Z_imul (pc' := 35) dX8_closings_34 rfl ?_
      obtain ⟨v5, hv5, hF⟩ := zl_of hF
      refine Z_istore_nE (i := 2) (x' := v5) (vs' := [some (.ref (ad 42)), none, some (.int v5), some (.int x3_), none, none, none, none, none]) (pc' := 36) dX8_closings_35 rfl hv5 (by decide) rfl rfl ?_
      obtain ⟨v6, hv6, hF⟩ := zl_of hF
      refine Z_iinc (i := 3) (v := v6) (vs' := [some (.ref (ad 42)), none, some (.int v5), some (.int v6), none, none, none, none, none]) (pc' := 39) dX8_closings_36 rfl (by rw [hv6]; rfl) (by decide) rfl rfl ?_
      refine Z_goto (tgt := 19) dX8_closings_39 (by decide) ?_
      exact Z_sub (vs' := [some (.ref (ad 42)), none, some (.int v5), some (.int v6), none, none, none, none, none]) (zSb_of _ _ ⟨rfl, ⟨rfl, ⟨rfl, trivial⟩⟩⟩) (ih v5 v6 σ _ hF hE)
set_option maxHeartbeats 4000000 in
set_option maxRecDepth 100000 in
theorem qX8_closings_L71 {l : Launch} {D : va_G} {M0 : zM} {Q : Option Value → zM → Prop} {ad dec : Nat → Nat} (hG : rG ad dec) : ∀ (n : Nat) (x2_ : Int32) (x3_ : Int32) (x4_ : Int32) (x5_ : Int32) (x6_ : Int32) (x7_ : Int32) (σ : zS) (r : (Int32 × Int32 × zS)), r_closings_L71 n x2_ x3_ x4_ x5_ x6_ x7_ σ = some r → (Z l yX8_closings cX8_closings 9 (some .int) rmX8_closings 0 0 D M0 Q 0 0 181 [some (.ref (ad 42)), none, some (.int x2_), some (.int x3_), none, some (.int r.1), some (.int r.2.1), none, none] [] (mR ad dec r.2.2)) → Z l yX8_closings cX8_closings 9 (some .int) rmX8_closings 0 0 D M0 Q 0 0 71 [some (.ref (ad 42)), none, some (.int x2_), some (.int x3_), some (.int x4_), some (.int x5_), some (.int x6_), some (.int x7_), none] [] (mR ad dec σ) := by
  intro n
  induction n with
  | zero =>
    intro x2_ x3_ x4_ x5_ x6_ x7_ σ r hF hE
    exact absurd (show (none : Option (Int32 × Int32 × zS)) = some r from hF) (by simp)
  | succ n ih =>
    intro x2_ x3_ x4_ x5_ x6_ x7_ σ r hF hE
    replace hF : (if x7_ < 0 then some (x5_, x6_, σ) else (if ¬ ((σ 37 0) + (1 : Int32)) = 0 then zl (x4_ - x4_ / ((σ 37 0) + (1 : Int32)) * ((σ 37 0) + (1 : Int32))) (fun (v13 : Int32) => (if ¬ ((σ 37 0) + (1 : Int32)) = 0 then zl (x4_ / ((σ 37 0) + (1 : Int32))) (fun (v15 : Int32) => (if v13 = (σ 37 0) then (if zIn x7_ 6 = true then zl (zs σ 34 (x7_).toNatClampNeg (24 : Int32)) (fun (σ31 : zS) => (if v13 = (σ31 37 0) then zl (x5_ + (0 : Int32)) (fun (v39 : Int32) => zl (x6_ + (0 : Int32)) (fun (v41 : Int32) => zl (x7_ + (-1)) (fun (v42 : Int32) => (r_closings_L71 n x2_ x3_ v15 v39 v41 v42 σ31)))) else zl (x5_ + (1 : Int32)) (fun (v33 : Int32) => (if zIn v13 8 = true then (if zIn (σ31 32 (v13).toNatClampNeg) 24 = true then zl (x6_ + (σ31 13 (σ31 32 (v13).toNatClampNeg).toNatClampNeg)) (fun (v37 : Int32) => zl (x7_ + (-1)) (fun (v38 : Int32) => (r_closings_L71 n x2_ x3_ v15 v33 v37 v38 σ31))) else none) else none)))) else none) else (if zIn v13 8 = true then (if zIn x7_ 6 = true then zl (zs σ 34 (x7_).toNatClampNeg (σ 32 (v13).toNatClampNeg)) (fun (σ19 : zS) => (if v13 = (σ19 37 0) then zl (x5_ + (0 : Int32)) (fun (v26 : Int32) => zl (x6_ + (0 : Int32)) (fun (v28 : Int32) => zl (x7_ + (-1)) (fun (v29 : Int32) => (r_closings_L71 n x2_ x3_ v15 v26 v28 v29 σ19)))) else zl (x5_ + (1 : Int32)) (fun (v21 : Int32) => (if zIn (σ19 32 (v13).toNatClampNeg) 24 = true then zl (x6_ + (σ19 13 (σ19 32 (v13).toNatClampNeg).toNatClampNeg)) (fun (v24 : Int32) => zl (x7_ + (-1)) (fun (v25 : Int32) => (r_closings_L71 n x2_ x3_ v15 v21 v24 v25 σ19))) else none)))) else none) else none))) else none)) else none)) = some r := hF
    refine Z_iload (i := 7) (pc' := 73) dX8_closings_71 rfl rfl ?_
    refine Z_if_lt (tgt := 181) (pc' := 76) dX8_closings_73 (by decide) rfl (fun h11 => ?_) (fun h11 => ?_)
    · rw [if_pos h11] at hF
      cases hF
      exact Z_sub (vs' := [some (.ref (ad 42)), none, some (.int x2_), some (.int x3_), none, some (.int x5_), some (.int x6_), none, none]) (zSb_of _ _ ⟨rfl, ⟨rfl, ⟨rfl, ⟨rfl, ⟨rfl, trivial⟩⟩⟩⟩⟩) hE
    · rw [if_neg h11] at hF
      refine Z_iload (i := 4) (pc' := 78) dX8_closings_76 rfl rfl ?_
      refine Z_aload_n (i := 0) (pc' := 79) dX8_closings_78 rfl rfl rfl ?_
      refine Z_get (v := .int (σ 37 0)) (pc' := 82) 37 zinX8 rfl (by decide) lkX8_191 (mR_obj hG) rfl dX8_closings_79 rfl ?_
      refine Z_iconst (v := 1) (pc' := 83) dX8_closings_82 (by decide) rfl ?_
      refine Z_iadd (pc' := 84) dX8_closings_83 rfl ?_
      obtain ⟨h12, hF⟩ := ck_of hF
      refine Z_irem (pc' := 85) h12 dX8_closings_84 rfl ?_
      obtain ⟨v13, hv13, hF⟩ := zl_of hF
      refine Z_istoreE (i := 8) (x' := v13) (vs' := [some (.ref (ad 42)), none, some (.int x2_), some (.int x3_), some (.int x4_), some (.int x5_), some (.int x6_), some (.int x7_), some (.int v13)]) (pc' := 87) dX8_closings_85 hv13 (by decide) rfl rfl ?_
      refine Z_iload (i := 4) (pc' := 89) dX8_closings_87 rfl rfl ?_
      refine Z_aload_n (i := 0) (pc' := 90) dX8_closings_89 rfl rfl rfl ?_
      refine Z_get (v := .int (σ 37 0)) (pc' := 93) 37 zinX8 rfl (by decide) lkX8_191 (mR_obj hG) rfl dX8_closings_90 rfl ?_
      refine Z_iconst (v := 1) (pc' := 94) dX8_closings_93 (by decide) rfl ?_
      refine Z_iadd (pc' := 95) dX8_closings_94 rfl ?_
      obtain ⟨h14, hF⟩ := ck_of hF
      refine Z_idiv (pc' := 96) h14 dX8_closings_95 rfl ?_
      obtain ⟨v15, hv15, hF⟩ := zl_of hF
      refine Z_istoreE (i := 4) (x' := v15) (vs' := [some (.ref (ad 42)), none, some (.int x2_), some (.int x3_), some (.int v15), some (.int x5_), some (.int x6_), some (.int x7_), some (.int v13)]) (pc' := 98) dX8_closings_96 hv15 (by decide) rfl rfl ?_
      refine Z_aload_n (i := 0) (pc' := 99) dX8_closings_98 rfl rfl rfl ?_
      refine Z_get (v := .ref (ad 34)) (pc' := 102) 34 zinX8 rfl (by decide) lkX8_100 (mR_obj hG) rfl dX8_closings_99 rfl ?_
      refine Z_iload (i := 7) (pc' := 104) dX8_closings_102 rfl rfl ?_
      refine Z_iload (i := 8) (pc' := 106) dX8_closings_104 rfl rfl ?_
      refine Z_aload_n (i := 0) (pc' := 107) dX8_closings_106 rfl rfl rfl ?_
      refine Z_get (v := .int (σ 37 0)) (pc' := 110) 37 zinX8 rfl (by decide) lkX8_191 (mR_obj hG) rfl dX8_closings_107 rfl ?_
      refine Z_icmp_ne (tgt := 118) (pc' := 113) dX8_closings_110 (by decide) rfl (fun h16 => ?_) (fun h16 => ?_)
      · rw [if_neg h16] at hF
        refine Z_aload_n (i := 0) (pc' := 119) dX8_closings_118 rfl rfl rfl ?_
        refine Z_get (v := .ref (ad 32)) (pc' := 122) 32 zinX8 rfl (by decide) lkX8_94 (mR_obj hG) rfl dX8_closings_119 rfl ?_
        refine Z_iload (i := 8) (pc' := 124) dX8_closings_122 rfl rfl ?_
        obtain ⟨h17, hF⟩ := ck_of hF
        refine Z_iald (pc' := 125) (aR_32 hG) (zIn_in h17) dX8_closings_124 rfl ?_
        obtain ⟨h18, hF⟩ := ck_of hF
        obtain ⟨σ19, hσ19, hF⟩ := zl_of hF
        refine Z_iast (pc' := 126) (aR_34 hG) (zIn_in h18) dX8_closings_125 rfl ?_
        refine Z_mem (sR_34 hG hσ19) ?_
        refine Z_iload (i := 5) (pc' := 128) dX8_closings_126 rfl rfl ?_
        refine Z_iload (i := 8) (pc' := 130) dX8_closings_128 rfl rfl ?_
        refine Z_aload_n (i := 0) (pc' := 131) dX8_closings_130 rfl rfl rfl ?_
        refine Z_get (v := .int (σ19 37 0)) (pc' := 134) 37 zinX8 rfl (by decide) lkX8_191 (mR_obj hG) rfl dX8_closings_131 rfl ?_
        refine Z_icmp_ne (tgt := 141) (pc' := 137) dX8_closings_134 (by decide) rfl (fun h20 => ?_) (fun h20 => ?_)
        · rw [if_neg h20] at hF
          refine Z_iconst (v := 1) (pc' := 142) dX8_closings_141 (by decide) rfl ?_
          refine Z_iadd (pc' := 143) dX8_closings_142 rfl ?_
          obtain ⟨v21, hv21, hF⟩ := zl_of hF
          refine Z_istoreE (i := 5) (x' := v21) (vs' := [some (.ref (ad 42)), none, some (.int x2_), some (.int x3_), some (.int v15), some (.int v21), some (.int x6_), some (.int x7_), some (.int v13)]) (pc' := 145) dX8_closings_143 hv21 (by decide) rfl rfl ?_
          refine Z_iload (i := 6) (pc' := 147) dX8_closings_145 rfl rfl ?_
          refine Z_iload (i := 8) (pc' := 149) dX8_closings_147 rfl rfl ?_
          refine Z_aload_n (i := 0) (pc' := 150) dX8_closings_149 rfl rfl rfl ?_
          refine Z_get (v := .int (σ19 37 0)) (pc' := 153) 37 zinX8 rfl (by decide) lkX8_191 (mR_obj hG) rfl dX8_closings_150 rfl ?_
          refine Z_icmp_ne (tgt := 160) (pc' := 156) dX8_closings_153 (by decide) rfl (fun _ => ?_) (fun q => absurd q h20)
          refine Z_aload_n (i := 0) (pc' := 161) dX8_closings_160 rfl rfl rfl ?_
          refine Z_get (v := .ref (ad 13)) (pc' := 164) 13 zinX8 rfl (by decide) lkX8_40 (mR_obj hG) rfl dX8_closings_161 rfl ?_
          refine Z_aload_n (i := 0) (pc' := 165) dX8_closings_164 rfl rfl rfl ?_
          refine Z_get (v := .ref (ad 32)) (pc' := 168) 32 zinX8 rfl (by decide) lkX8_94 (mR_obj hG) rfl dX8_closings_165 rfl ?_
          refine Z_iload (i := 8) (pc' := 170) dX8_closings_168 rfl rfl ?_
          refine Z_iald (pc' := 171) (aR_32 hG) (zIn_in h17) dX8_closings_170 rfl ?_
          obtain ⟨h23, hF⟩ := ck_of hF
          refine Z_iald (pc' := 172) (aR_13 hG) (zIn_in h23) dX8_closings_171 rfl ?_
          refine Z_iadd (pc' := 173) dX8_closings_172 rfl ?_
          obtain ⟨v24, hv24, hF⟩ := zl_of hF
          refine Z_istoreE (i := 6) (x' := v24) (vs' := [some (.ref (ad 42)), none, some (.int x2_), some (.int x3_), some (.int v15), some (.int v21), some (.int v24), some (.int x7_), some (.int v13)]) (pc' := 175) dX8_closings_173 hv24 (by decide) rfl rfl ?_
          obtain ⟨v25, hv25, hF⟩ := zl_of hF
          refine Z_iinc (i := 7) (v := v25) (vs' := [some (.ref (ad 42)), none, some (.int x2_), some (.int x3_), some (.int v15), some (.int v21), some (.int v24), some (.int v25), some (.int v13)]) (pc' := 178) dX8_closings_175 rfl (by rw [hv25]; rfl) (by decide) rfl rfl ?_
          refine Z_goto (tgt := 71) dX8_closings_178 (by decide) ?_
          exact Z_sub (vs' := [some (.ref (ad 42)), none, some (.int x2_), some (.int x3_), some (.int v15), some (.int v21), some (.int v24), some (.int v25), none]) (zSb_of _ _ ⟨rfl, ⟨rfl, ⟨rfl, ⟨rfl, ⟨rfl, ⟨rfl, ⟨rfl, trivial⟩⟩⟩⟩⟩⟩⟩) (ih x2_ x3_ v15 v21 v24 v25 σ19 _ hF hE)
        · rw [if_pos h20] at hF
          refine Z_iconst (v := 0) (pc' := 138) dX8_closings_137 (by decide) rfl ?_
          refine Z_goto (tgt := 142) dX8_closings_138 (by decide) ?_
          refine Z_iadd (pc' := 143) dX8_closings_142 rfl ?_
          obtain ⟨v26, hv26, hF⟩ := zl_of hF
          refine Z_istoreE (i := 5) (x' := v26) (vs' := [some (.ref (ad 42)), none, some (.int x2_), some (.int x3_), some (.int v15), some (.int v26), some (.int x6_), some (.int x7_), some (.int v13)]) (pc' := 145) dX8_closings_143 hv26 (by decide) rfl rfl ?_
          refine Z_iload (i := 6) (pc' := 147) dX8_closings_145 rfl rfl ?_
          refine Z_iload (i := 8) (pc' := 149) dX8_closings_147 rfl rfl ?_
          refine Z_aload_n (i := 0) (pc' := 150) dX8_closings_149 rfl rfl rfl ?_
          refine Z_get (v := .int (σ19 37 0)) (pc' := 153) 37 zinX8 rfl (by decide) lkX8_191 (mR_obj hG) rfl dX8_closings_150 rfl ?_
          refine Z_icmp_ne (tgt := 160) (pc' := 156) dX8_closings_153 (by decide) rfl (fun q => absurd h20 q) (fun _ => ?_)
          refine Z_iconst (v := 0) (pc' := 157) dX8_closings_156 (by decide) rfl ?_
          refine Z_goto (tgt := 172) dX8_closings_157 (by decide) ?_
          refine Z_iadd (pc' := 173) dX8_closings_172 rfl ?_
          obtain ⟨v28, hv28, hF⟩ := zl_of hF
          refine Z_istoreE (i := 6) (x' := v28) (vs' := [some (.ref (ad 42)), none, some (.int x2_), some (.int x3_), some (.int v15), some (.int v26), some (.int v28), some (.int x7_), some (.int v13)]) (pc' := 175) dX8_closings_173 hv28 (by decide) rfl rfl ?_
          obtain ⟨v29, hv29, hF⟩ := zl_of hF
          refine Z_iinc (i := 7) (v := v29) (vs' := [some (.ref (ad 42)), none, some (.int x2_), some (.int x3_), some (.int v15), some (.int v26), some (.int v28), some (.int v29), some (.int v13)]) (pc' := 178) dX8_closings_175 rfl (by rw [hv29]; rfl) (by decide) rfl rfl ?_
          refine Z_goto (tgt := 71) dX8_closings_178 (by decide) ?_
          exact Z_sub (vs' := [some (.ref (ad 42)), none, some (.int x2_), some (.int x3_), some (.int v15), some (.int v26), some (.int v28), some (.int v29), none]) (zSb_of _ _ ⟨rfl, ⟨rfl, ⟨rfl, ⟨rfl, ⟨rfl, ⟨rfl, ⟨rfl, trivial⟩⟩⟩⟩⟩⟩⟩) (ih x2_ x3_ v15 v26 v28 v29 σ19 _ hF hE)
      · rw [if_pos h16] at hF
        refine Z_bipush (v := 24) (pc' := 115) dX8_closings_113 (by decide) rfl ?_
        refine Z_goto (tgt := 125) dX8_closings_115 (by decide) ?_
        obtain ⟨h30, hF⟩ := ck_of hF
        obtain ⟨σ31, hσ31, hF⟩ := zl_of hF
        refine Z_iast (pc' := 126) (aR_34 hG) (zIn_in h30) dX8_closings_125 rfl ?_
        refine Z_mem (sR_34 hG hσ31) ?_
        refine Z_iload (i := 5) (pc' := 128) dX8_closings_126 rfl rfl ?_
        refine Z_iload (i := 8) (pc' := 130) dX8_closings_128 rfl rfl ?_
        refine Z_aload_n (i := 0) (pc' := 131) dX8_closings_130 rfl rfl rfl ?_
        refine Z_get (v := .int (σ31 37 0)) (pc' := 134) 37 zinX8 rfl (by decide) lkX8_191 (mR_obj hG) rfl dX8_closings_131 rfl ?_
        refine Z_icmp_ne (tgt := 141) (pc' := 137) dX8_closings_134 (by decide) rfl (fun h32 => ?_) (fun h32 => ?_)
        · rw [if_neg h32] at hF
          refine Z_iconst (v := 1) (pc' := 142) dX8_closings_141 (by decide) rfl ?_
          refine Z_iadd (pc' := 143) dX8_closings_142 rfl ?_
          obtain ⟨v33, hv33, hF⟩ := zl_of hF
          refine Z_istoreE (i := 5) (x' := v33) (vs' := [some (.ref (ad 42)), none, some (.int x2_), some (.int x3_), some (.int v15), some (.int v33), some (.int x6_), some (.int x7_), some (.int v13)]) (pc' := 145) dX8_closings_143 hv33 (by decide) rfl rfl ?_
          refine Z_iload (i := 6) (pc' := 147) dX8_closings_145 rfl rfl ?_
          refine Z_iload (i := 8) (pc' := 149) dX8_closings_147 rfl rfl ?_
          refine Z_aload_n (i := 0) (pc' := 150) dX8_closings_149 rfl rfl rfl ?_
          refine Z_get (v := .int (σ31 37 0)) (pc' := 153) 37 zinX8 rfl (by decide) lkX8_191 (mR_obj hG) rfl dX8_closings_150 rfl ?_
          refine Z_icmp_ne (tgt := 160) (pc' := 156) dX8_closings_153 (by decide) rfl (fun _ => ?_) (fun q => absurd q h32)
          refine Z_aload_n (i := 0) (pc' := 161) dX8_closings_160 rfl rfl rfl ?_
          refine Z_get (v := .ref (ad 13)) (pc' := 164) 13 zinX8 rfl (by decide) lkX8_40 (mR_obj hG) rfl dX8_closings_161 rfl ?_
          refine Z_aload_n (i := 0) (pc' := 165) dX8_closings_164 rfl rfl rfl ?_
          refine Z_get (v := .ref (ad 32)) (pc' := 168) 32 zinX8 rfl (by decide) lkX8_94 (mR_obj hG) rfl dX8_closings_165 rfl ?_
          refine Z_iload (i := 8) (pc' := 170) dX8_closings_168 rfl rfl ?_
          obtain ⟨h35, hF⟩ := ck_of hF
          refine Z_iald (pc' := 171) (aR_32 hG) (zIn_in h35) dX8_closings_170 rfl ?_
          obtain ⟨h36, hF⟩ := ck_of hF
          refine Z_iald (pc' := 172) (aR_13 hG) (zIn_in h36) dX8_closings_171 rfl ?_
          refine Z_iadd (pc' := 173) dX8_closings_172 rfl ?_
          obtain ⟨v37, hv37, hF⟩ := zl_of hF
          refine Z_istoreE (i := 6) (x' := v37) (vs' := [some (.ref (ad 42)), none, some (.int x2_), some (.int x3_), some (.int v15), some (.int v33), some (.int v37), some (.int x7_), some (.int v13)]) (pc' := 175) dX8_closings_173 hv37 (by decide) rfl rfl ?_
          obtain ⟨v38, hv38, hF⟩ := zl_of hF
          refine Z_iinc (i := 7) (v := v38) (vs' := [some (.ref (ad 42)), none, some (.int x2_), some (.int x3_), some (.int v15), some (.int v33), some (.int v37), some (.int v38), some (.int v13)]) (pc' := 178) dX8_closings_175 rfl (by rw [hv38]; rfl) (by decide) rfl rfl ?_
          refine Z_goto (tgt := 71) dX8_closings_178 (by decide) ?_
          exact Z_sub (vs' := [some (.ref (ad 42)), none, some (.int x2_), some (.int x3_), some (.int v15), some (.int v33), some (.int v37), some (.int v38), none]) (zSb_of _ _ ⟨rfl, ⟨rfl, ⟨rfl, ⟨rfl, ⟨rfl, ⟨rfl, ⟨rfl, trivial⟩⟩⟩⟩⟩⟩⟩) (ih x2_ x3_ v15 v33 v37 v38 σ31 _ hF hE)
        · rw [if_pos h32] at hF
          refine Z_iconst (v := 0) (pc' := 138) dX8_closings_137 (by decide) rfl ?_
          refine Z_goto (tgt := 142) dX8_closings_138 (by decide) ?_
          refine Z_iadd (pc' := 143) dX8_closings_142 rfl ?_
          obtain ⟨v39, hv39, hF⟩ := zl_of hF
          refine Z_istoreE (i := 5) (x' := v39) (vs' := [some (.ref (ad 42)), none, some (.int x2_), some (.int x3_), some (.int v15), some (.int v39), some (.int x6_), some (.int x7_), some (.int v13)]) (pc' := 145) dX8_closings_143 hv39 (by decide) rfl rfl ?_
          refine Z_iload (i := 6) (pc' := 147) dX8_closings_145 rfl rfl ?_
          refine Z_iload (i := 8) (pc' := 149) dX8_closings_147 rfl rfl ?_
          refine Z_aload_n (i := 0) (pc' := 150) dX8_closings_149 rfl rfl rfl ?_
          refine Z_get (v := .int (σ31 37 0)) (pc' := 153) 37 zinX8 rfl (by decide) lkX8_191 (mR_obj hG) rfl dX8_closings_150 rfl ?_
          refine Z_icmp_ne (tgt := 160) (pc' := 156) dX8_closings_153 (by decide) rfl (fun q => absurd h32 q) (fun _ => ?_)
          refine Z_iconst (v := 0) (pc' := 157) dX8_closings_156 (by decide) rfl ?_
          refine Z_goto (tgt := 172) dX8_closings_157 (by decide) ?_
          refine Z_iadd (pc' := 173) dX8_closings_172 rfl ?_
          obtain ⟨v41, hv41, hF⟩ := zl_of hF
          refine Z_istoreE (i := 6) (x' := v41) (vs' := [some (.ref (ad 42)), none, some (.int x2_), some (.int x3_), some (.int v15), some (.int v39), some (.int v41), some (.int x7_), some (.int v13)]) (pc' := 175) dX8_closings_173 hv41 (by decide) rfl rfl ?_
          obtain ⟨v42, hv42, hF⟩ := zl_of hF
          refine Z_iinc (i := 7) (v := v42) (vs' := [some (.ref (ad 42)), none, some (.int x2_), some (.int x3_), some (.int v15), some (.int v39), some (.int v41), some (.int v42), some (.int v13)]) (pc' := 178) dX8_closings_175 rfl (by rw [hv42]; rfl) (by decide) rfl rfl ?_
          refine Z_goto (tgt := 71) dX8_closings_178 (by decide) ?_
          exact Z_sub (vs' := [some (.ref (ad 42)), none, some (.int x2_), some (.int x3_), some (.int v15), some (.int v39), some (.int v41), some (.int v42), none]) (zSb_of _ _ ⟨rfl, ⟨rfl, ⟨rfl, ⟨rfl, ⟨rfl, ⟨rfl, ⟨rfl, trivial⟩⟩⟩⟩⟩⟩⟩) (ih x2_ x3_ v15 v39 v41 v42 σ31 _ hF hE)
set_option maxHeartbeats 4000000 in
set_option maxRecDepth 100000 in
theorem qX8_closings_L261 {l : Launch} {D : va_G} {M0 : zM} {Q : Option Value → zM → Prop} {ad dec : Nat → Nat} (hG : rG ad dec) : ∀ (n : Nat) (x2_ : Int32) (x3_ : Int32) (x8_ : Int32) (σ : zS) (r : (zS)), r_closings_L261 n x2_ x3_ x8_ σ = some r → (Z l yX8_closings cX8_closings 9 (some .int) rmX8_closings 0 0 D M0 Q 0 0 290 [some (.ref (ad 42)), none, some (.int x2_), some (.int x3_), none, none, none, none, none] [] (mR ad dec r)) → Z l yX8_closings cX8_closings 9 (some .int) rmX8_closings 0 0 D M0 Q 0 0 261 [some (.ref (ad 42)), none, some (.int x2_), some (.int x3_), none, none, none, none, some (.int x8_)] [] (mR ad dec σ) := by
  intro n
  induction n with
  | zero =>
    intro x2_ x3_ x8_ σ r hF hE
    exact absurd (show (none : Option (zS)) = some r from hF) (by simp)
  | succ n ih =>
    intro x2_ x3_ x8_ σ r hF hE
    replace hF : (if (σ 38 0) ≤ x8_ then some (σ) else (if zIn x8_ 6 = true then zl (zs σ 35 (x8_).toNatClampNeg (σ 34 (x8_).toNatClampNeg)) (fun (σ52 : zS) => zl (x8_ + 1) (fun (v53 : Int32) => (r_closings_L261 n x2_ x3_ v53 σ52))) else none)) = some r := hF
    refine Z_iload (i := 8) (pc' := 263) dX8_closings_261 rfl rfl ?_
    refine Z_aload_n (i := 0) (pc' := 264) dX8_closings_263 rfl rfl rfl ?_
    refine Z_get (v := .int (σ 38 0)) (pc' := 267) 38 zinX8 rfl (by decide) lkX8_194 (mR_obj hG) rfl dX8_closings_264 rfl ?_
    refine Z_icmp_ge (tgt := 290) (pc' := 270) dX8_closings_267 (by decide) rfl (fun h50 => ?_) (fun h50 => ?_)
    · rw [if_pos h50] at hF
      cases hF
      exact Z_sub (vs' := [some (.ref (ad 42)), none, some (.int x2_), some (.int x3_), none, none, none, none, none]) (zSb_of _ _ ⟨rfl, ⟨rfl, ⟨rfl, trivial⟩⟩⟩) hE
    · rw [if_neg h50] at hF
      refine Z_aload_n (i := 0) (pc' := 271) dX8_closings_270 rfl rfl rfl ?_
      refine Z_get (v := .ref (ad 35)) (pc' := 274) 35 zinX8 rfl (by decide) lkX8_103 (mR_obj hG) rfl dX8_closings_271 rfl ?_
      refine Z_iload (i := 8) (pc' := 276) dX8_closings_274 rfl rfl ?_
      refine Z_aload_n (i := 0) (pc' := 277) dX8_closings_276 rfl rfl rfl ?_
      refine Z_get (v := .ref (ad 34)) (pc' := 280) 34 zinX8 rfl (by decide) lkX8_100 (mR_obj hG) rfl dX8_closings_277 rfl ?_
      refine Z_iload (i := 8) (pc' := 282) dX8_closings_280 rfl rfl ?_
      obtain ⟨h51, hF⟩ := ck_of hF
      refine Z_iald (pc' := 283) (aR_34 hG) (zIn_in h51) dX8_closings_282 rfl ?_
      obtain ⟨σ52, hσ52, hF⟩ := zl_of hF
      refine Z_iast (pc' := 284) (aR_35 hG) (zIn_in h51) dX8_closings_283 rfl ?_
      refine Z_mem (sR_35 hG hσ52) ?_
      obtain ⟨v53, hv53, hF⟩ := zl_of hF
      refine Z_iinc (i := 8) (v := v53) (vs' := [some (.ref (ad 42)), none, some (.int x2_), some (.int x3_), none, none, none, none, some (.int v53)]) (pc' := 287) dX8_closings_284 rfl (by rw [hv53]; rfl) (by decide) rfl rfl ?_
      refine Z_goto (tgt := 261) dX8_closings_287 (by decide) ?_
      exact Z_sub (vs' := [some (.ref (ad 42)), none, some (.int x2_), some (.int x3_), none, none, none, none, some (.int v53)]) (zSb_of _ _ ⟨rfl, ⟨rfl, ⟨rfl, ⟨rfl, trivial⟩⟩⟩⟩) (ih x2_ x3_ v53 σ52 _ hF hE)
set_option maxHeartbeats 4000000 in
set_option maxRecDepth 100000 in
theorem qX8_closings_L49 {l : Launch} {D : va_G} {M0 : zM} {Q : Option Value → zM → Prop} {ad dec : Nat → Nat} (hG : rG ad dec) : ∀ (n : Nat) (x2_ : Int32) (x3_ : Int32) (σ : zS) (r : (zS)), r_closings_L49 n x2_ x3_ σ = some r → (Z l yX8_closings cX8_closings 9 (some .int) rmX8_closings 0 0 D M0 Q 0 0 296 [some (.ref (ad 42)), none, none, none, none, none, none, none, none] [] (mR ad dec r)) → Z l yX8_closings cX8_closings 9 (some .int) rmX8_closings 0 0 D M0 Q 0 0 49 [some (.ref (ad 42)), none, some (.int x2_), some (.int x3_), none, none, none, none, none] [] (mR ad dec σ) := by
  intro n
  induction n with
  | zero =>
    intro x2_ x3_ σ r hF hE
    exact absurd (show (none : Option (zS)) = some r from hF) (by simp)
  | succ n ih =>
    intro x2_ x3_ σ r hF hE
    replace hF : (if x2_ ≤ x3_ then some (σ) else zl ((σ 38 0) - (1 : Int32)) (fun (v10 : Int32) => ((r_closings_L71 zF x2_ x3_ x3_ (0 : Int32) (0 : Int32) v10 σ).bind (fun r11 => (if (r11.2.2 39 0) < r11.1 then ((r_canBeAll r11.2.2).bind (fun y14 => (if y14.1 = 0 then zl (x3_ + 1) (fun (v20 : Int32) => (r_closings_L49 n x2_ v20 y14.2)) else zl (zs y14.2 39 0 r11.1) (fun (σ16 : zS) => zl (zs σ16 40 0 r11.2.1) (fun (σ17 : zS) => ((r_closings_L261 zF x2_ x3_ (0 : Int32) σ17).bind (fun r18 => zl (x3_ + 1) (fun (v19 : Int32) => (r_closings_L49 n x2_ v19 r18))))))))) else (if r11.1 = (r11.2.2 39 0) then (if r11.2.1 < (r11.2.2 40 0) then ((r_canBeAll r11.2.2).bind (fun y26 => (if y26.1 = 0 then zl (x3_ + 1) (fun (v32 : Int32) => (r_closings_L49 n x2_ v32 y26.2)) else zl (zs y26.2 39 0 r11.1) (fun (σ28 : zS) => zl (zs σ28 40 0 r11.2.1) (fun (σ29 : zS) => ((r_closings_L261 zF x2_ x3_ (0 : Int32) σ29).bind (fun r30 => zl (x3_ + 1) (fun (v31 : Int32) => (r_closings_L49 n x2_ v31 r30))))))))) else (if r11.2.1 = (r11.2.2 40 0) then ((r_isLess r11.2.2).bind (fun y36 => (if y36.1 = 0 then zl (x3_ + 1) (fun (v39 : Int32) => (r_closings_L49 n x2_ v39 y36.2)) else ((r_canBeAll y36.2).bind (fun y41 => (if y41.1 = 0 then zl (x3_ + 1) (fun (v47 : Int32) => (r_closings_L49 n x2_ v47 y41.2)) else zl (zs y41.2 39 0 r11.1) (fun (σ43 : zS) => zl (zs σ43 40 0 r11.2.1) (fun (σ44 : zS) => ((r_closings_L261 zF x2_ x3_ (0 : Int32) σ44).bind (fun r45 => zl (x3_ + 1) (fun (v46 : Int32) => (r_closings_L49 n x2_ v46 r45)))))))))))) else zl (x3_ + 1) (fun (v35 : Int32) => (r_closings_L49 n x2_ v35 r11.2.2)))) else zl (x3_ + 1) (fun (v23 : Int32) => (r_closings_L49 n x2_ v23 r11.2.2)))))))) = some r := hF
    refine Z_iload_n (i := 3) (pc' := 50) dX8_closings_49 rfl rfl rfl ?_
    refine Z_iload_n (i := 2) (pc' := 51) dX8_closings_50 rfl rfl rfl ?_
    refine Z_icmp_ge (tgt := 296) (pc' := 54) dX8_closings_51 (by decide) rfl (fun h9 => ?_) (fun h9 => ?_)
    · rw [if_pos h9] at hF
      cases hF
      exact Z_sub (vs' := [some (.ref (ad 42)), none, none, none, none, none, none, none, none]) (zSb_of _ _ ⟨rfl, trivial⟩) hE
    · rw [if_neg h9] at hF
      refine Z_iload_n (i := 3) (pc' := 55) dX8_closings_54 rfl rfl rfl ?_
      refine Z_istoreE (i := 4) (x' := x3_) (vs' := [some (.ref (ad 42)), none, some (.int x2_), some (.int x3_), some (.int x3_), none, none, none, none]) (pc' := 57) dX8_closings_55 rfl (by decide) rfl rfl ?_
      refine Z_iconst (v := 0) (pc' := 58) dX8_closings_57 (by decide) rfl ?_
      refine Z_istoreE (i := 5) (x' := (0 : Int32)) (vs' := [some (.ref (ad 42)), none, some (.int x2_), some (.int x3_), some (.int x3_), some (.int (0 : Int32)), none, none, none]) (pc' := 60) dX8_closings_58 rfl (by decide) rfl rfl ?_
      refine Z_iconst (v := 0) (pc' := 61) dX8_closings_60 (by decide) rfl ?_
      refine Z_istoreE (i := 6) (x' := (0 : Int32)) (vs' := [some (.ref (ad 42)), none, some (.int x2_), some (.int x3_), some (.int x3_), some (.int (0 : Int32)), some (.int (0 : Int32)), none, none]) (pc' := 63) dX8_closings_61 rfl (by decide) rfl rfl ?_
      refine Z_aload_n (i := 0) (pc' := 64) dX8_closings_63 rfl rfl rfl ?_
      refine Z_get (v := .int (σ 38 0)) (pc' := 67) 38 zinX8 rfl (by decide) lkX8_194 (mR_obj hG) rfl dX8_closings_64 rfl ?_
      refine Z_iconst (v := 1) (pc' := 68) dX8_closings_67 (by decide) rfl ?_
      refine Z_isub (pc' := 69) dX8_closings_68 rfl ?_
      obtain ⟨v10, hv10, hF⟩ := zl_of hF
      refine Z_istoreE (i := 7) (x' := v10) (vs' := [some (.ref (ad 42)), none, some (.int x2_), some (.int x3_), some (.int x3_), some (.int (0 : Int32)), some (.int (0 : Int32)), some (.int v10), none]) (pc' := 71) dX8_closings_69 hv10 (by decide) rfl rfl ?_
      obtain ⟨r11, hr11, hF⟩ := bd_of hF
      refine Z_sub (vs' := [some (.ref (ad 42)), none, some (.int x2_), some (.int x3_), some (.int x3_), some (.int (0 : Int32)), some (.int (0 : Int32)), some (.int v10), none]) (zSb_of _ _ ⟨rfl, ⟨rfl, ⟨rfl, ⟨rfl, ⟨rfl, ⟨rfl, ⟨rfl, trivial⟩⟩⟩⟩⟩⟩⟩) (qX8_closings_L71 hG zF x2_ x3_ x3_ (0 : Int32) (0 : Int32) v10 σ _ hr11 ?_)
      refine Z_iload (i := 5) (pc' := 183) dX8_closings_181 rfl rfl ?_
      refine Z_aload_n (i := 0) (pc' := 184) dX8_closings_183 rfl rfl rfl ?_
      refine Z_get (v := .int (r11.2.2 39 0)) (pc' := 187) 39 zinX8 rfl (by decide) lkX8_200 (mR_obj hG) rfl dX8_closings_184 rfl ?_
      refine Z_icmp_gt (tgt := 224) (pc' := 190) dX8_closings_187 (by decide) rfl (fun h12 => ?_) (fun h12 => ?_)
      · rw [if_pos h12] at hF
        refine Z_iconst (v := 1) (pc' := 225) dX8_closings_224 (by decide) rfl ?_
        refine Z_goto (tgt := 229) dX8_closings_225 (by decide) ?_
        refine Z_istoreE (i := 7) (x' := (1 : Int32)) (vs' := [some (.ref (ad 42)), none, some (.int x2_), some (.int x3_), none, some (.int r11.1), some (.int r11.2.1), some (.int (1 : Int32)), none]) (pc' := 231) dX8_closings_229 rfl (by decide) rfl rfl ?_
        refine Z_iload (i := 7) (pc' := 233) dX8_closings_231 rfl rfl ?_
        refine Z_if_eq (tgt := 290) (pc' := 236) dX8_closings_233 (by decide) rfl (fun q => absurd q (by decide)) (fun _ => ?_)
        refine Z_aload_n (i := 0) (pc' := 237) dX8_closings_236 rfl rfl rfl ?_
        obtain ⟨y14, hy14, hF⟩ := bd_of hF
        refine Z_callVi (As := []) (st := []) (pc' := 240) (k' := 0) (n' := 0) (qX8_canBeAll l hG hy14) ckX8_canBeAll kvX8_canBeAll mlX8_210 (mR_obj hG) rfl rfl rfl (Nat.le_of_ble_eq_true rfl) ⟨Nat.le_of_ble_eq_true rfl, Nat.le_of_ble_eq_true rfl⟩ ⟨Nat.le_of_ble_eq_true rfl, Nat.le_of_ble_eq_true rfl⟩ dX8_closings_237 rfl rfl rfl ?_
        refine Z_if_ne (tgt := 246) (pc' := 243) dX8_closings_240 (by decide) rfl (fun h15 => ?_) (fun h15 => ?_)
        · rw [if_neg h15] at hF
          refine Z_aload_n (i := 0) (pc' := 247) dX8_closings_246 rfl rfl rfl ?_
          refine Z_iload (i := 5) (pc' := 249) dX8_closings_247 rfl rfl ?_
          obtain ⟨σ16, hσ16, hF⟩ := zl_of hF
          refine Z_put (fs' := (rFs ad y14.2).set 39 (.int r11.1)) (pc' := 252) 39 zinX8 tyX8_ok nmX8 rfl (by decide) lkX8_200 rfl (mR_obj hG) rfl rfl rfl (Nat.le_of_ble_eq_true rfl) rfl dX8_closings_249 rfl ?_
          refine Z_mem (pR_39 hG hσ16) ?_
          refine Z_aload_n (i := 0) (pc' := 253) dX8_closings_252 rfl rfl rfl ?_
          refine Z_iload (i := 6) (pc' := 255) dX8_closings_253 rfl rfl ?_
          obtain ⟨σ17, hσ17, hF⟩ := zl_of hF
          refine Z_put (fs' := (rFs ad σ16).set 40 (.int r11.2.1)) (pc' := 258) 40 zinX8 tyX8_ok nmX8 rfl (by decide) lkX8_203 rfl (mR_obj hG) rfl rfl rfl (Nat.le_of_ble_eq_true rfl) rfl dX8_closings_255 rfl ?_
          refine Z_mem (pR_40 hG hσ17) ?_
          refine Z_iconst (v := 0) (pc' := 259) dX8_closings_258 (by decide) rfl ?_
          refine Z_istoreE (i := 8) (x' := (0 : Int32)) (vs' := [some (.ref (ad 42)), none, some (.int x2_), some (.int x3_), none, some (.int r11.1), some (.int r11.2.1), some (.int (1 : Int32)), some (.int (0 : Int32))]) (pc' := 261) dX8_closings_259 rfl (by decide) rfl rfl ?_
          obtain ⟨r18, hr18, hF⟩ := bd_of hF
          refine Z_sub (vs' := [some (.ref (ad 42)), none, some (.int x2_), some (.int x3_), none, none, none, none, some (.int (0 : Int32))]) (zSb_of _ _ ⟨rfl, ⟨rfl, ⟨rfl, ⟨rfl, trivial⟩⟩⟩⟩) (qX8_closings_L261 hG zF x2_ x3_ (0 : Int32) σ17 _ hr18 ?_)
          obtain ⟨v19, hv19, hF⟩ := zl_of hF
          refine Z_iinc (i := 3) (v := v19) (vs' := [some (.ref (ad 42)), none, some (.int x2_), some (.int v19), none, none, none, none, none]) (pc' := 293) dX8_closings_290 rfl (by rw [hv19]; rfl) (by decide) rfl rfl ?_
          refine Z_goto (tgt := 49) dX8_closings_293 (by decide) ?_
          exact Z_sub (vs' := [some (.ref (ad 42)), none, some (.int x2_), some (.int v19), none, none, none, none, none]) (zSb_of _ _ ⟨rfl, ⟨rfl, ⟨rfl, trivial⟩⟩⟩) (ih x2_ v19 r18 _ hF hE)
        · rw [if_pos h15] at hF
          refine Z_goto (tgt := 290) dX8_closings_243 (by decide) ?_
          obtain ⟨v20, hv20, hF⟩ := zl_of hF
          refine Z_iinc (i := 3) (v := v20) (vs' := [some (.ref (ad 42)), none, some (.int x2_), some (.int v20), none, some (.int r11.1), some (.int r11.2.1), some (.int (1 : Int32)), none]) (pc' := 293) dX8_closings_290 rfl (by rw [hv20]; rfl) (by decide) rfl rfl ?_
          refine Z_goto (tgt := 49) dX8_closings_293 (by decide) ?_
          exact Z_sub (vs' := [some (.ref (ad 42)), none, some (.int x2_), some (.int v20), none, none, none, none, none]) (zSb_of _ _ ⟨rfl, ⟨rfl, ⟨rfl, trivial⟩⟩⟩) (ih x2_ v20 y14.2 _ hF hE)
      · rw [if_neg h12] at hF
        refine Z_iload (i := 5) (pc' := 192) dX8_closings_190 rfl rfl ?_
        refine Z_aload_n (i := 0) (pc' := 193) dX8_closings_192 rfl rfl rfl ?_
        refine Z_get (v := .int (r11.2.2 39 0)) (pc' := 196) 39 zinX8 rfl (by decide) lkX8_200 (mR_obj hG) rfl dX8_closings_193 rfl ?_
        refine Z_icmp_ne (tgt := 228) (pc' := 199) dX8_closings_196 (by decide) rfl (fun h21 => ?_) (fun h21 => ?_)
        · rw [if_neg h21] at hF
          refine Z_iconst (v := 0) (pc' := 229) dX8_closings_228 (by decide) rfl ?_
          refine Z_istoreE (i := 7) (x' := (0 : Int32)) (vs' := [some (.ref (ad 42)), none, some (.int x2_), some (.int x3_), none, some (.int r11.1), some (.int r11.2.1), some (.int (0 : Int32)), none]) (pc' := 231) dX8_closings_229 rfl (by decide) rfl rfl ?_
          refine Z_iload (i := 7) (pc' := 233) dX8_closings_231 rfl rfl ?_
          refine Z_if_eq (tgt := 290) (pc' := 236) dX8_closings_233 (by decide) rfl (fun _ => ?_) (fun q => absurd q (by decide))
          obtain ⟨v23, hv23, hF⟩ := zl_of hF
          refine Z_iinc (i := 3) (v := v23) (vs' := [some (.ref (ad 42)), none, some (.int x2_), some (.int v23), none, some (.int r11.1), some (.int r11.2.1), some (.int (0 : Int32)), none]) (pc' := 293) dX8_closings_290 rfl (by rw [hv23]; rfl) (by decide) rfl rfl ?_
          refine Z_goto (tgt := 49) dX8_closings_293 (by decide) ?_
          exact Z_sub (vs' := [some (.ref (ad 42)), none, some (.int x2_), some (.int v23), none, none, none, none, none]) (zSb_of _ _ ⟨rfl, ⟨rfl, ⟨rfl, trivial⟩⟩⟩) (ih x2_ v23 r11.2.2 _ hF hE)
        · rw [if_pos h21] at hF
          refine Z_iload (i := 6) (pc' := 201) dX8_closings_199 rfl rfl ?_
          refine Z_aload_n (i := 0) (pc' := 202) dX8_closings_201 rfl rfl rfl ?_
          refine Z_get (v := .int (r11.2.2 40 0)) (pc' := 205) 40 zinX8 rfl (by decide) lkX8_203 (mR_obj hG) rfl dX8_closings_202 rfl ?_
          refine Z_icmp_lt (tgt := 224) (pc' := 208) dX8_closings_205 (by decide) rfl (fun h24 => ?_) (fun h24 => ?_)
          · rw [if_pos h24] at hF
            refine Z_iconst (v := 1) (pc' := 225) dX8_closings_224 (by decide) rfl ?_
            refine Z_goto (tgt := 229) dX8_closings_225 (by decide) ?_
            refine Z_istoreE (i := 7) (x' := (1 : Int32)) (vs' := [some (.ref (ad 42)), none, some (.int x2_), some (.int x3_), none, some (.int r11.1), some (.int r11.2.1), some (.int (1 : Int32)), none]) (pc' := 231) dX8_closings_229 rfl (by decide) rfl rfl ?_
            refine Z_iload (i := 7) (pc' := 233) dX8_closings_231 rfl rfl ?_
            refine Z_if_eq (tgt := 290) (pc' := 236) dX8_closings_233 (by decide) rfl (fun q => absurd q (by decide)) (fun _ => ?_)
            refine Z_aload_n (i := 0) (pc' := 237) dX8_closings_236 rfl rfl rfl ?_
            obtain ⟨y26, hy26, hF⟩ := bd_of hF
            refine Z_callVi (As := []) (st := []) (pc' := 240) (k' := 0) (n' := 0) (qX8_canBeAll l hG hy26) ckX8_canBeAll kvX8_canBeAll mlX8_210 (mR_obj hG) rfl rfl rfl (Nat.le_of_ble_eq_true rfl) ⟨Nat.le_of_ble_eq_true rfl, Nat.le_of_ble_eq_true rfl⟩ ⟨Nat.le_of_ble_eq_true rfl, Nat.le_of_ble_eq_true rfl⟩ dX8_closings_237 rfl rfl rfl ?_
            refine Z_if_ne (tgt := 246) (pc' := 243) dX8_closings_240 (by decide) rfl (fun h27 => ?_) (fun h27 => ?_)
            · rw [if_neg h27] at hF
              refine Z_aload_n (i := 0) (pc' := 247) dX8_closings_246 rfl rfl rfl ?_
              refine Z_iload (i := 5) (pc' := 249) dX8_closings_247 rfl rfl ?_
              obtain ⟨σ28, hσ28, hF⟩ := zl_of hF
              refine Z_put (fs' := (rFs ad y26.2).set 39 (.int r11.1)) (pc' := 252) 39 zinX8 tyX8_ok nmX8 rfl (by decide) lkX8_200 rfl (mR_obj hG) rfl rfl rfl (Nat.le_of_ble_eq_true rfl) rfl dX8_closings_249 rfl ?_
              refine Z_mem (pR_39 hG hσ28) ?_
              refine Z_aload_n (i := 0) (pc' := 253) dX8_closings_252 rfl rfl rfl ?_
              refine Z_iload (i := 6) (pc' := 255) dX8_closings_253 rfl rfl ?_
              obtain ⟨σ29, hσ29, hF⟩ := zl_of hF
              refine Z_put (fs' := (rFs ad σ28).set 40 (.int r11.2.1)) (pc' := 258) 40 zinX8 tyX8_ok nmX8 rfl (by decide) lkX8_203 rfl (mR_obj hG) rfl rfl rfl (Nat.le_of_ble_eq_true rfl) rfl dX8_closings_255 rfl ?_
              refine Z_mem (pR_40 hG hσ29) ?_
              refine Z_iconst (v := 0) (pc' := 259) dX8_closings_258 (by decide) rfl ?_
              refine Z_istoreE (i := 8) (x' := (0 : Int32)) (vs' := [some (.ref (ad 42)), none, some (.int x2_), some (.int x3_), none, some (.int r11.1), some (.int r11.2.1), some (.int (1 : Int32)), some (.int (0 : Int32))]) (pc' := 261) dX8_closings_259 rfl (by decide) rfl rfl ?_
              obtain ⟨r30, hr30, hF⟩ := bd_of hF
              refine Z_sub (vs' := [some (.ref (ad 42)), none, some (.int x2_), some (.int x3_), none, none, none, none, some (.int (0 : Int32))]) (zSb_of _ _ ⟨rfl, ⟨rfl, ⟨rfl, ⟨rfl, trivial⟩⟩⟩⟩) (qX8_closings_L261 hG zF x2_ x3_ (0 : Int32) σ29 _ hr30 ?_)
              obtain ⟨v31, hv31, hF⟩ := zl_of hF
              refine Z_iinc (i := 3) (v := v31) (vs' := [some (.ref (ad 42)), none, some (.int x2_), some (.int v31), none, none, none, none, none]) (pc' := 293) dX8_closings_290 rfl (by rw [hv31]; rfl) (by decide) rfl rfl ?_
              refine Z_goto (tgt := 49) dX8_closings_293 (by decide) ?_
              exact Z_sub (vs' := [some (.ref (ad 42)), none, some (.int x2_), some (.int v31), none, none, none, none, none]) (zSb_of _ _ ⟨rfl, ⟨rfl, ⟨rfl, trivial⟩⟩⟩) (ih x2_ v31 r30 _ hF hE)
            · rw [if_pos h27] at hF
              refine Z_goto (tgt := 290) dX8_closings_243 (by decide) ?_
              obtain ⟨v32, hv32, hF⟩ := zl_of hF
              refine Z_iinc (i := 3) (v := v32) (vs' := [some (.ref (ad 42)), none, some (.int x2_), some (.int v32), none, some (.int r11.1), some (.int r11.2.1), some (.int (1 : Int32)), none]) (pc' := 293) dX8_closings_290 rfl (by rw [hv32]; rfl) (by decide) rfl rfl ?_
              refine Z_goto (tgt := 49) dX8_closings_293 (by decide) ?_
              exact Z_sub (vs' := [some (.ref (ad 42)), none, some (.int x2_), some (.int v32), none, none, none, none, none]) (zSb_of _ _ ⟨rfl, ⟨rfl, ⟨rfl, trivial⟩⟩⟩) (ih x2_ v32 y26.2 _ hF hE)
          · rw [if_neg h24] at hF
            refine Z_iload (i := 6) (pc' := 210) dX8_closings_208 rfl rfl ?_
            refine Z_aload_n (i := 0) (pc' := 211) dX8_closings_210 rfl rfl rfl ?_
            refine Z_get (v := .int (r11.2.2 40 0)) (pc' := 214) 40 zinX8 rfl (by decide) lkX8_203 (mR_obj hG) rfl dX8_closings_211 rfl ?_
            refine Z_icmp_ne (tgt := 228) (pc' := 217) dX8_closings_214 (by decide) rfl (fun h33 => ?_) (fun h33 => ?_)
            · rw [if_neg h33] at hF
              refine Z_iconst (v := 0) (pc' := 229) dX8_closings_228 (by decide) rfl ?_
              refine Z_istoreE (i := 7) (x' := (0 : Int32)) (vs' := [some (.ref (ad 42)), none, some (.int x2_), some (.int x3_), none, some (.int r11.1), some (.int r11.2.1), some (.int (0 : Int32)), none]) (pc' := 231) dX8_closings_229 rfl (by decide) rfl rfl ?_
              refine Z_iload (i := 7) (pc' := 233) dX8_closings_231 rfl rfl ?_
              refine Z_if_eq (tgt := 290) (pc' := 236) dX8_closings_233 (by decide) rfl (fun _ => ?_) (fun q => absurd q (by decide))
              obtain ⟨v35, hv35, hF⟩ := zl_of hF
              refine Z_iinc (i := 3) (v := v35) (vs' := [some (.ref (ad 42)), none, some (.int x2_), some (.int v35), none, some (.int r11.1), some (.int r11.2.1), some (.int (0 : Int32)), none]) (pc' := 293) dX8_closings_290 rfl (by rw [hv35]; rfl) (by decide) rfl rfl ?_
              refine Z_goto (tgt := 49) dX8_closings_293 (by decide) ?_
              exact Z_sub (vs' := [some (.ref (ad 42)), none, some (.int x2_), some (.int v35), none, none, none, none, none]) (zSb_of _ _ ⟨rfl, ⟨rfl, ⟨rfl, trivial⟩⟩⟩) (ih x2_ v35 r11.2.2 _ hF hE)
            · rw [if_pos h33] at hF
              refine Z_aload_n (i := 0) (pc' := 218) dX8_closings_217 rfl rfl rfl ?_
              obtain ⟨y36, hy36, hF⟩ := bd_of hF
              refine Z_callVi (As := []) (st := []) (pc' := 221) (k' := 0) (n' := 0) (qX8_isLess l hG hy36) ckX8_isLess kvX8_isLess mlX8_206 (mR_obj hG) rfl rfl rfl (Nat.le_of_ble_eq_true rfl) ⟨Nat.le_of_ble_eq_true rfl, Nat.le_of_ble_eq_true rfl⟩ ⟨Nat.le_of_ble_eq_true rfl, Nat.le_of_ble_eq_true rfl⟩ dX8_closings_218 rfl rfl rfl ?_
              refine Z_if_eq (tgt := 228) (pc' := 224) dX8_closings_221 (by decide) rfl (fun h37 => ?_) (fun h37 => ?_)
              · rw [if_pos h37] at hF
                refine Z_iconst (v := 0) (pc' := 229) dX8_closings_228 (by decide) rfl ?_
                refine Z_istoreE (i := 7) (x' := (0 : Int32)) (vs' := [some (.ref (ad 42)), none, some (.int x2_), some (.int x3_), none, some (.int r11.1), some (.int r11.2.1), some (.int (0 : Int32)), none]) (pc' := 231) dX8_closings_229 rfl (by decide) rfl rfl ?_
                refine Z_iload (i := 7) (pc' := 233) dX8_closings_231 rfl rfl ?_
                refine Z_if_eq (tgt := 290) (pc' := 236) dX8_closings_233 (by decide) rfl (fun _ => ?_) (fun q => absurd q (by decide))
                obtain ⟨v39, hv39, hF⟩ := zl_of hF
                refine Z_iinc (i := 3) (v := v39) (vs' := [some (.ref (ad 42)), none, some (.int x2_), some (.int v39), none, some (.int r11.1), some (.int r11.2.1), some (.int (0 : Int32)), none]) (pc' := 293) dX8_closings_290 rfl (by rw [hv39]; rfl) (by decide) rfl rfl ?_
                refine Z_goto (tgt := 49) dX8_closings_293 (by decide) ?_
                exact Z_sub (vs' := [some (.ref (ad 42)), none, some (.int x2_), some (.int v39), none, none, none, none, none]) (zSb_of _ _ ⟨rfl, ⟨rfl, ⟨rfl, trivial⟩⟩⟩) (ih x2_ v39 y36.2 _ hF hE)
              · rw [if_neg h37] at hF
                refine Z_iconst (v := 1) (pc' := 225) dX8_closings_224 (by decide) rfl ?_
                refine Z_goto (tgt := 229) dX8_closings_225 (by decide) ?_
                refine Z_istoreE (i := 7) (x' := (1 : Int32)) (vs' := [some (.ref (ad 42)), none, some (.int x2_), some (.int x3_), none, some (.int r11.1), some (.int r11.2.1), some (.int (1 : Int32)), none]) (pc' := 231) dX8_closings_229 rfl (by decide) rfl rfl ?_
                refine Z_iload (i := 7) (pc' := 233) dX8_closings_231 rfl rfl ?_
                refine Z_if_eq (tgt := 290) (pc' := 236) dX8_closings_233 (by decide) rfl (fun q => absurd q (by decide)) (fun _ => ?_)
                refine Z_aload_n (i := 0) (pc' := 237) dX8_closings_236 rfl rfl rfl ?_
                obtain ⟨y41, hy41, hF⟩ := bd_of hF
                refine Z_callVi (As := []) (st := []) (pc' := 240) (k' := 0) (n' := 0) (qX8_canBeAll l hG hy41) ckX8_canBeAll kvX8_canBeAll mlX8_210 (mR_obj hG) rfl rfl rfl (Nat.le_of_ble_eq_true rfl) ⟨Nat.le_of_ble_eq_true rfl, Nat.le_of_ble_eq_true rfl⟩ ⟨Nat.le_of_ble_eq_true rfl, Nat.le_of_ble_eq_true rfl⟩ dX8_closings_237 rfl rfl rfl ?_
                refine Z_if_ne (tgt := 246) (pc' := 243) dX8_closings_240 (by decide) rfl (fun h42 => ?_) (fun h42 => ?_)
                · rw [if_neg h42] at hF
                  refine Z_aload_n (i := 0) (pc' := 247) dX8_closings_246 rfl rfl rfl ?_
                  refine Z_iload (i := 5) (pc' := 249) dX8_closings_247 rfl rfl ?_
                  obtain ⟨σ43, hσ43, hF⟩ := zl_of hF
                  refine Z_put (fs' := (rFs ad y41.2).set 39 (.int r11.1)) (pc' := 252) 39 zinX8 tyX8_ok nmX8 rfl (by decide) lkX8_200 rfl (mR_obj hG) rfl rfl rfl (Nat.le_of_ble_eq_true rfl) rfl dX8_closings_249 rfl ?_
                  refine Z_mem (pR_39 hG hσ43) ?_
                  refine Z_aload_n (i := 0) (pc' := 253) dX8_closings_252 rfl rfl rfl ?_
                  refine Z_iload (i := 6) (pc' := 255) dX8_closings_253 rfl rfl ?_
                  obtain ⟨σ44, hσ44, hF⟩ := zl_of hF
                  refine Z_put (fs' := (rFs ad σ43).set 40 (.int r11.2.1)) (pc' := 258) 40 zinX8 tyX8_ok nmX8 rfl (by decide) lkX8_203 rfl (mR_obj hG) rfl rfl rfl (Nat.le_of_ble_eq_true rfl) rfl dX8_closings_255 rfl ?_
                  refine Z_mem (pR_40 hG hσ44) ?_
                  refine Z_iconst (v := 0) (pc' := 259) dX8_closings_258 (by decide) rfl ?_
                  refine Z_istoreE (i := 8) (x' := (0 : Int32)) (vs' := [some (.ref (ad 42)), none, some (.int x2_), some (.int x3_), none, some (.int r11.1), some (.int r11.2.1), some (.int (1 : Int32)), some (.int (0 : Int32))]) (pc' := 261) dX8_closings_259 rfl (by decide) rfl rfl ?_
                  obtain ⟨r45, hr45, hF⟩ := bd_of hF
                  refine Z_sub (vs' := [some (.ref (ad 42)), none, some (.int x2_), some (.int x3_), none, none, none, none, some (.int (0 : Int32))]) (zSb_of _ _ ⟨rfl, ⟨rfl, ⟨rfl, ⟨rfl, trivial⟩⟩⟩⟩) (qX8_closings_L261 hG zF x2_ x3_ (0 : Int32) σ44 _ hr45 ?_)
                  obtain ⟨v46, hv46, hF⟩ := zl_of hF
                  refine Z_iinc (i := 3) (v := v46) (vs' := [some (.ref (ad 42)), none, some (.int x2_), some (.int v46), none, none, none, none, none]) (pc' := 293) dX8_closings_290 rfl (by rw [hv46]; rfl) (by decide) rfl rfl ?_
                  refine Z_goto (tgt := 49) dX8_closings_293 (by decide) ?_
                  exact Z_sub (vs' := [some (.ref (ad 42)), none, some (.int x2_), some (.int v46), none, none, none, none, none]) (zSb_of _ _ ⟨rfl, ⟨rfl, ⟨rfl, trivial⟩⟩⟩) (ih x2_ v46 r45 _ hF hE)
                · rw [if_pos h42] at hF
                  refine Z_goto (tgt := 290) dX8_closings_243 (by decide) ?_
                  obtain ⟨v47, hv47, hF⟩ := zl_of hF
                  refine Z_iinc (i := 3) (v := v47) (vs' := [some (.ref (ad 42)), none, some (.int x2_), some (.int v47), none, some (.int r11.1), some (.int r11.2.1), some (.int (1 : Int32)), none]) (pc' := 293) dX8_closings_290 rfl (by rw [hv47]; rfl) (by decide) rfl rfl ?_
                  refine Z_goto (tgt := 49) dX8_closings_293 (by decide) ?_
                  exact Z_sub (vs' := [some (.ref (ad 42)), none, some (.int x2_), some (.int v47), none, none, none, none, none]) (zSb_of _ _ ⟨rfl, ⟨rfl, ⟨rfl, trivial⟩⟩⟩) (ih x2_ v47 y41.2 _ hF hE)
set_option maxHeartbeats 4000000 in
set_option maxRecDepth 100000 in
theorem qX8_closings_L298 {l : Launch} {D : va_G} {M0 : zM} {Q : Option Value → zM → Prop} {ad dec : Nat → Nat} (hG : rG ad dec) : ∀ (n : Nat) (x3_ : Int32) (σ : zS) (r : (zS)), r_closings_L298 n x3_ σ = some r → (Z l yX8_closings cX8_closings 9 (some .int) rmX8_closings 0 0 D M0 Q 0 0 345 [some (.ref (ad 42)), none, none, none, none, none, none, none, none] [] (mR ad dec r)) → Z l yX8_closings cX8_closings 9 (some .int) rmX8_closings 0 0 D M0 Q 0 0 298 [some (.ref (ad 42)), none, none, some (.int x3_), none, none, none, none, none] [] (mR ad dec σ) := by
  intro n
  induction n with
  | zero =>
    intro x3_ σ r hF hE
    exact absurd (show (none : Option (zS)) = some r from hF) (by simp)
  | succ n ih =>
    intro x3_ σ r hF hE
    replace hF : (if (6 : Int32) ≤ x3_ then some (σ) else (if (σ 38 0) ≤ x3_ then (if zIn x3_ 6 = true then zl (zs σ 36 (x3_).toNatClampNeg (-1 : Int32)) (fun (σ52 : zS) => zl (x3_ + 1) (fun (v53 : Int32) => (r_closings_L298 n v53 σ52))) else none) else (if zIn x3_ 6 = true then (if (σ 35 (x3_).toNatClampNeg) = (24 : Int32) then zl (zs σ 36 (x3_).toNatClampNeg (-1 : Int32)) (fun (σ56 : zS) => zl (x3_ + 1) (fun (v57 : Int32) => (r_closings_L298 n v57 σ56))) else zl (zs σ 36 (x3_).toNatClampNeg (σ 35 (x3_).toNatClampNeg)) (fun (σ58 : zS) => zl (x3_ + 1) (fun (v59 : Int32) => (r_closings_L298 n v59 σ58)))) else none))) = some r := hF
    refine Z_iload_n (i := 3) (pc' := 299) dX8_closings_298 rfl rfl rfl ?_
    refine Z_bipush (v := 6) (pc' := 301) dX8_closings_299 (by decide) rfl ?_
    refine Z_icmp_ge (tgt := 345) (pc' := 304) dX8_closings_301 (by decide) rfl (fun h49 => ?_) (fun h49 => ?_)
    · rw [if_pos h49] at hF
      cases hF
      exact Z_sub (vs' := [some (.ref (ad 42)), none, none, none, none, none, none, none, none]) (zSb_of _ _ ⟨rfl, trivial⟩) hE
    · rw [if_neg h49] at hF
      refine Z_aload_n (i := 0) (pc' := 305) dX8_closings_304 rfl rfl rfl ?_
      refine Z_get (v := .ref (ad 36)) (pc' := 308) 36 zinX8 rfl (by decide) lkX8_106 (mR_obj hG) rfl dX8_closings_305 rfl ?_
      refine Z_iload_n (i := 3) (pc' := 309) dX8_closings_308 rfl rfl rfl ?_
      refine Z_iload_n (i := 3) (pc' := 310) dX8_closings_309 rfl rfl rfl ?_
      refine Z_aload_n (i := 0) (pc' := 311) dX8_closings_310 rfl rfl rfl ?_
      refine Z_get (v := .int (σ 38 0)) (pc' := 314) 38 zinX8 rfl (by decide) lkX8_194 (mR_obj hG) rfl dX8_closings_311 rfl ?_
      refine Z_icmp_ge (tgt := 337) (pc' := 317) dX8_closings_314 (by decide) rfl (fun h50 => ?_) (fun h50 => ?_)
      · rw [if_pos h50] at hF
        refine Z_iconst (v := -1) (pc' := 338) dX8_closings_337 (by decide) rfl ?_
        obtain ⟨h51, hF⟩ := ck_of hF
        obtain ⟨σ52, hσ52, hF⟩ := zl_of hF
        refine Z_iast (pc' := 339) (aR_36 hG) (zIn_in h51) dX8_closings_338 rfl ?_
        refine Z_mem (sR_36 hG hσ52) ?_
        obtain ⟨v53, hv53, hF⟩ := zl_of hF
        refine Z_iinc (i := 3) (v := v53) (vs' := [some (.ref (ad 42)), none, none, some (.int v53), none, none, none, none, none]) (pc' := 342) dX8_closings_339 rfl (by rw [hv53]; rfl) (by decide) rfl rfl ?_
        refine Z_goto (tgt := 298) dX8_closings_342 (by decide) ?_
        exact Z_sub (vs' := [some (.ref (ad 42)), none, none, some (.int v53), none, none, none, none, none]) (zSb_of _ _ ⟨rfl, ⟨rfl, trivial⟩⟩) (ih v53 σ52 _ hF hE)
      · rw [if_neg h50] at hF
        refine Z_aload_n (i := 0) (pc' := 318) dX8_closings_317 rfl rfl rfl ?_
        refine Z_get (v := .ref (ad 35)) (pc' := 321) 35 zinX8 rfl (by decide) lkX8_103 (mR_obj hG) rfl dX8_closings_318 rfl ?_
        refine Z_iload_n (i := 3) (pc' := 322) dX8_closings_321 rfl rfl rfl ?_
        obtain ⟨h54, hF⟩ := ck_of hF
        refine Z_iald (pc' := 323) (aR_35 hG) (zIn_in h54) dX8_closings_322 rfl ?_
        refine Z_bipush (v := 24) (pc' := 325) dX8_closings_323 (by decide) rfl ?_
        refine Z_icmp_eq (tgt := 337) (pc' := 328) dX8_closings_325 (by decide) rfl (fun h55 => ?_) (fun h55 => ?_)
        · rw [if_pos h55] at hF
          refine Z_iconst (v := -1) (pc' := 338) dX8_closings_337 (by decide) rfl ?_
          obtain ⟨σ56, hσ56, hF⟩ := zl_of hF
          refine Z_iast (pc' := 339) (aR_36 hG) (zIn_in h54) dX8_closings_338 rfl ?_
          refine Z_mem (sR_36 hG hσ56) ?_
          obtain ⟨v57, hv57, hF⟩ := zl_of hF
          refine Z_iinc (i := 3) (v := v57) (vs' := [some (.ref (ad 42)), none, none, some (.int v57), none, none, none, none, none]) (pc' := 342) dX8_closings_339 rfl (by rw [hv57]; rfl) (by decide) rfl rfl ?_
          refine Z_goto (tgt := 298) dX8_closings_342 (by decide) ?_
          exact Z_sub (vs' := [some (.ref (ad 42)), none, none, some (.int v57), none, none, none, none, none]) (zSb_of _ _ ⟨rfl, ⟨rfl, trivial⟩⟩) (ih v57 σ56 _ hF hE)
        · rw [if_neg h55] at hF
          refine Z_aload_n (i := 0) (pc' := 329) dX8_closings_328 rfl rfl rfl ?_
          refine Z_get (v := .ref (ad 35)) (pc' := 332) 35 zinX8 rfl (by decide) lkX8_103 (mR_obj hG) rfl dX8_closings_329 rfl ?_
          refine Z_iload_n (i := 3) (pc' := 333) dX8_closings_332 rfl rfl rfl ?_
          refine Z_iald (pc' := 334) (aR_35 hG) (zIn_in h54) dX8_closings_333 rfl ?_
          refine Z_goto (tgt := 338) dX8_closings_334 (by decide) ?_
          obtain ⟨σ58, hσ58, hF⟩ := zl_of hF
          refine Z_iast (pc' := 339) (aR_36 hG) (zIn_in h54) dX8_closings_338 rfl ?_
          refine Z_mem (sR_36 hG hσ58) ?_
          obtain ⟨v59, hv59, hF⟩ := zl_of hF
          refine Z_iinc (i := 3) (v := v59) (vs' := [some (.ref (ad 42)), none, none, some (.int v59), none, none, none, none, none]) (pc' := 342) dX8_closings_339 rfl (by rw [hv59]; rfl) (by decide) rfl rfl ?_
          refine Z_goto (tgt := 298) dX8_closings_342 (by decide) ?_
          exact Z_sub (vs' := [some (.ref (ad 42)), none, none, some (.int v59), none, none, none, none, none]) (zSb_of _ _ ⟨rfl, ⟨rfl, trivial⟩⟩) (ih v59 σ58 _ hF hE)
set_option maxHeartbeats 4000000 in
set_option maxRecDepth 100000 in
theorem qX8_closings (l : Launch) {ad dec : Nat → Nat} (hG : rG ad dec) {x1 : Int32} {σ : zS} {w : Int32 × zS} (hF : r_closings x1 σ = some w) : zMet l yX8_closings cX8_closings 9 (some .int) rmX8_closings [.ref (ad 42), .int x1] (mR ad dec σ) (fun v M' => v = (some (.int w.1)) ∧ M' = (mR ad dec w.2)) := by
  refine zMet.ofZ (vs := [some (.ref (ad 42)), some (.int x1), none, none, none, none, none, none, none]) (by decide) rfl (zCt_of _ ⟨rfl, ⟨rfl, trivial⟩⟩) (Nat.le_of_ble_eq_true rfl) (fun D => ?_)
  unfold r_closings at hF
  refine Z_aload_n (i := 0) (pc' := 1) dX8_closings_0 rfl rfl rfl ?_
  refine Z_iload_n (i := 1) (pc' := 2) dX8_closings_1 rfl rfl rfl ?_
  obtain ⟨y1, hy1, hF⟩ := bd_of hF
  refine Z_callVi (As := [.int x1]) (st := []) (pc' := 5) (k' := 0) (n' := 0) (qX8_lives l hG hy1) ckX8_lives kvX8_lives mlX8_144 (mR_obj hG) rfl rfl rfl (Nat.le_of_ble_eq_true rfl) ⟨Nat.le_of_ble_eq_true rfl, Nat.le_of_ble_eq_true rfl⟩ ⟨Nat.le_of_ble_eq_true rfl, Nat.le_of_ble_eq_true rfl⟩ dX8_closings_2 rfl rfl rfl ?_
  refine Z_if_ne (tgt := 10) (pc' := 8) dX8_closings_5 (by decide) rfl (fun h2 => ?_) (fun h2 => ?_)
  · rw [if_neg h2] at hF
    refine Z_aload_n (i := 0) (pc' := 11) dX8_closings_10 rfl rfl rfl ?_
    refine Z_iload_n (i := 1) (pc' := 12) dX8_closings_11 rfl rfl rfl ?_
    obtain ⟨y3, hy3, hF⟩ := bd_of hF
    refine Z_callVv (As := [.int x1]) (st := []) (pc' := 15) (k' := 0) (n' := 0) (qX8_finds l hG hy3) ckX8_finds kvX8_finds mlX8_197 (mR_obj hG) rfl rfl rfl (Nat.le_of_ble_eq_true rfl) ⟨Nat.le_of_ble_eq_true rfl, Nat.le_of_ble_eq_true rfl⟩ ⟨Nat.le_of_ble_eq_true rfl, Nat.le_of_ble_eq_true rfl⟩ dX8_closings_12 rfl rfl rfl ?_
    refine Z_iconst (v := 1) (pc' := 16) dX8_closings_15 (by decide) rfl ?_
    refine Z_istore_nE (i := 2) (x' := (1 : Int32)) (vs' := [some (.ref (ad 42)), some (.int x1), some (.int (1 : Int32)), none, none, none, none, none, none]) (pc' := 17) dX8_closings_16 rfl rfl (by decide) rfl rfl ?_
    refine Z_iconst (v := 0) (pc' := 18) dX8_closings_17 (by decide) rfl ?_
    refine Z_istore_nE (i := 3) (x' := (0 : Int32)) (vs' := [some (.ref (ad 42)), some (.int x1), some (.int (1 : Int32)), some (.int (0 : Int32)), none, none, none, none, none]) (pc' := 19) dX8_closings_18 rfl rfl (by decide) rfl rfl ?_
    obtain ⟨r7, hr7, hF⟩ := bd_of hF
    refine Z_sub (vs' := [some (.ref (ad 42)), none, some (.int (1 : Int32)), some (.int (0 : Int32)), none, none, none, none, none]) (zSb_of _ _ ⟨rfl, ⟨rfl, ⟨rfl, trivial⟩⟩⟩) (qX8_closings_L19 hG zF (1 : Int32) (0 : Int32) y3.2 _ hr7 ?_)
    refine Z_aload_n (i := 0) (pc' := 43) dX8_closings_42 rfl rfl rfl ?_
    refine Z_iconst (v := -1) (pc' := 44) dX8_closings_43 (by decide) rfl ?_
    obtain ⟨σ8, hσ8, hF⟩ := zl_of hF
    refine Z_put (fs' := (rFs ad r7.2).set 39 (.int (-1 : Int32))) (pc' := 47) 39 zinX8 tyX8_ok nmX8 rfl (by decide) lkX8_200 rfl (mR_obj hG) rfl rfl rfl (Nat.le_of_ble_eq_true rfl) rfl dX8_closings_44 rfl ?_
    refine Z_mem (pR_39 hG hσ8) ?_
    refine Z_iconst (v := 0) (pc' := 48) dX8_closings_47 (by decide) rfl ?_
    refine Z_istore_nE (i := 3) (x' := (0 : Int32)) (vs' := [some (.ref (ad 42)), none, some (.int r7.1), some (.int (0 : Int32)), none, none, none, none, none]) (pc' := 49) dX8_closings_48 rfl rfl (by decide) rfl rfl ?_
    obtain ⟨r48, hr48, hF⟩ := bd_of hF
    refine Z_sub (vs' := [some (.ref (ad 42)), none, some (.int r7.1), some (.int (0 : Int32)), none, none, none, none, none]) (zSb_of _ _ ⟨rfl, ⟨rfl, ⟨rfl, trivial⟩⟩⟩) (qX8_closings_L49 hG zF r7.1 (0 : Int32) σ8 _ hr48 ?_)
    refine Z_iconst (v := 0) (pc' := 297) dX8_closings_296 (by decide) rfl ?_
    refine Z_istore_nE (i := 3) (x' := (0 : Int32)) (vs' := [some (.ref (ad 42)), none, none, some (.int (0 : Int32)), none, none, none, none, none]) (pc' := 298) dX8_closings_297 rfl rfl (by decide) rfl rfl ?_
    obtain ⟨r60, hr60, hF⟩ := bd_of hF
    refine Z_sub (vs' := [some (.ref (ad 42)), none, none, some (.int (0 : Int32)), none, none, none, none, none]) (zSb_of _ _ ⟨rfl, ⟨rfl, trivial⟩⟩) (qX8_closings_L298 hG zF (0 : Int32) r48 _ hr60 ?_)
    refine Z_aload_n (i := 0) (pc' := 346) dX8_closings_345 rfl rfl rfl ?_
    refine Z_get (v := .int (r60 39 0)) (pc' := 349) 39 zinX8 rfl (by decide) lkX8_200 (mR_obj hG) rfl dX8_closings_346 rfl ?_
    cases hF
    exact Z_iret (ty := .int) (w := (r60 39 0)) dX8_closings_349 rfl rfl (Nat.le_refl _) (Nat.le_refl _) ⟨rfl, rfl⟩
  · rw [if_pos h2] at hF
    refine Z_iconst (v := -1) (pc' := 9) dX8_closings_8 (by decide) rfl ?_
    cases hF
    exact Z_iret (ty := .int) (w := (-1 : Int32)) dX8_closings_9 rfl rfl (Nat.le_refl _) (Nat.le_refl _) ⟨rfl, rfl⟩
abbrev rmX8_closing : Room := { frames := 0, cells := 0, slots := 0, locals := 0 }
def r_closing  (x1 : Int32) (σ : zS) : Option (Int32 × zS) := (if x1 < 0 then some ((-1 : Int32), σ) else (if (6 : Int32) ≤ x1 then some ((-1 : Int32), σ) else (if zIn x1 6 = true then some ((σ 36 (x1).toNatClampNeg), σ) else none)))
set_option maxHeartbeats 4000000 in
set_option maxRecDepth 100000 in
theorem qX8_closing (l : Launch) {ad dec : Nat → Nat} (hG : rG ad dec) {x1 : Int32} {σ : zS} {w : Int32 × zS} (hF : r_closing x1 σ = some w) : zMet l yX8_closing cX8_closing 2 (some .int) rmX8_closing [.ref (ad 42), .int x1] (mR ad dec σ) (fun v M' => v = (some (.int w.1)) ∧ M' = (mR ad dec w.2)) := by
  refine zMet.ofZ (vs := [some (.ref (ad 42)), some (.int x1)]) (by decide) rfl (zCt_of _ ⟨rfl, ⟨rfl, trivial⟩⟩) (Nat.le_of_ble_eq_true rfl) (fun D => ?_)
  unfold r_closing at hF
  refine Z_iload_n (i := 1) (pc' := 1) dX8_closing_0 rfl rfl rfl ?_
  refine Z_if_lt (tgt := 19) (pc' := 4) dX8_closing_1 (by decide) rfl (fun h1 => ?_) (fun h1 => ?_)
  · rw [if_pos h1] at hF
    refine Z_iconst (v := -1) (pc' := 20) dX8_closing_19 (by decide) rfl ?_
    cases hF
    exact Z_iret (ty := .int) (w := (-1 : Int32)) dX8_closing_20 rfl rfl (Nat.le_refl _) (Nat.le_refl _) ⟨rfl, rfl⟩
  · rw [if_neg h1] at hF
    refine Z_iload_n (i := 1) (pc' := 5) dX8_closing_4 rfl rfl rfl ?_
    refine Z_bipush (v := 6) (pc' := 7) dX8_closing_5 (by decide) rfl ?_
    refine Z_icmp_ge (tgt := 19) (pc' := 10) dX8_closing_7 (by decide) rfl (fun h2 => ?_) (fun h2 => ?_)
    · rw [if_pos h2] at hF
      refine Z_iconst (v := -1) (pc' := 20) dX8_closing_19 (by decide) rfl ?_
      cases hF
      exact Z_iret (ty := .int) (w := (-1 : Int32)) dX8_closing_20 rfl rfl (Nat.le_refl _) (Nat.le_refl _) ⟨rfl, rfl⟩
    · rw [if_neg h2] at hF
      refine Z_aload_n (i := 0) (pc' := 11) dX8_closing_10 rfl rfl rfl ?_
      refine Z_get (v := .ref (ad 36)) (pc' := 14) 36 zinX8 rfl (by decide) lkX8_106 (mR_obj hG) rfl dX8_closing_11 rfl ?_
      refine Z_iload_n (i := 1) (pc' := 15) dX8_closing_14 rfl rfl rfl ?_
      obtain ⟨h3, hF⟩ := ck_of hF
      refine Z_iald (pc' := 16) (aR_36 hG) (zIn_in h3) dX8_closing_15 rfl ?_
      refine Z_goto (tgt := 20) dX8_closing_16 (by decide) ?_
      cases hF
      exact Z_iret (ty := .int) (w := (σ 36 (x1).toNatClampNeg)) dX8_closing_20 rfl rfl (Nat.le_refl _) (Nat.le_refl _) ⟨rfl, rfl⟩
abbrev rmX8_fars : Room := { frames := 2, cells := 0, slots := 0, locals := 44 }
def r_fars_L2 : Nat → Int32 → Int32 → Int32 → zS → Option (zS)
  | 0, _, _, _, _ => none
  | n + 1, x1_, x2_, x3_, σ => (if (σ 5 0) ≤ x3_ then some (σ) else (if x3_ = x2_ then (if zIn x3_ 16 = true then zl (zs σ 41 (x3_).toNatClampNeg (0 : Int32)) (fun (σ7 : zS) => zl (x3_ + 1) (fun (v8 : Int32) => (r_fars_L2 n x1_ x2_ v8 σ7))) else none) else (if zIn x3_ 16 = true then zl (zs σ 41 (x3_).toNatClampNeg (99 : Int32)) (fun (σ4 : zS) => zl (x3_ + 1) (fun (v5 : Int32) => (r_fars_L2 n x1_ x2_ v5 σ4))) else none)))
def r_fars_L56 : Nat → Int32 → Int32 → Int32 → Int32 → zS → Option (zS)
  | 0, _, _, _, _, _ => none
  | n + 1, x1_, x3_, x4_, x5_, σ => (if (σ 5 0) ≤ x5_ then some (σ) else (if zIn (((16 : Int32) * x4_) + x5_) 256 = true then (if (σ 10 (((16 : Int32) * x4_) + x5_).toNatClampNeg) = 0 then zl (x5_ + 1) (fun (v15 : Int32) => (r_fars_L56 n x1_ x3_ x4_ v15 σ)) else ((r_goesRound x4_ x5_ x1_ σ).bind (fun y16 => (if y16.1 = 0 then zl (x5_ + 1) (fun (v18 : Int32) => (r_fars_L56 n x1_ x3_ x4_ v18 y16.2)) else (if zIn x5_ 16 = true then (if zIn x4_ 16 = true then (if (y16.2 41 (x4_).toNatClampNeg) ≤ ((y16.2 41 (x5_).toNatClampNeg) + (1 : Int32)) then zl (x5_ + 1) (fun (v22 : Int32) => (r_fars_L56 n x1_ x3_ x4_ v22 y16.2)) else zl (zs y16.2 41 (x4_).toNatClampNeg ((y16.2 41 (x5_).toNatClampNeg) + (1 : Int32))) (fun (σ23 : zS) => zl (x5_ + 1) (fun (v24 : Int32) => (r_fars_L56 n x1_ x3_ x4_ v24 σ23)))) else none) else none))))) else none))
def r_fars_L44 : Nat → Int32 → Int32 → Int32 → zS → Option (zS)
  | 0, _, _, _, _ => none
  | n + 1, x1_, x3_, x4_, σ => (if (σ 5 0) ≤ x4_ then some (σ) else ((r_fars_L56 zF x1_ x3_ x4_ (0 : Int32) σ).bind (fun r12 => zl (x4_ + 1) (fun (v13 : Int32) => (r_fars_L44 n x1_ x3_ v13 r12)))))
def r_fars_L35 : Nat → Int32 → Int32 → zS → Option (zS)
  | 0, _, _, _ => none
  | n + 1, x1_, x3_, σ => (if (16 : Int32) ≤ x3_ then some (σ) else ((r_fars_L44 zF x1_ x3_ (0 : Int32) σ).bind (fun r11 => zl (x3_ + 1) (fun (v12 : Int32) => (r_fars_L35 n x1_ v12 r11)))))
def r_fars  (x1 : Int32) (x2 : Int32) (σ : zS) : Option (Int32 × zS) := ((r_fars_L2 zF x1 x2 (0 : Int32) σ).bind (fun r9 => ((r_fars_L35 zF x1 (0 : Int32) r9).bind (fun r13 => some (0, r13)))))
set_option maxHeartbeats 4000000 in
set_option maxRecDepth 100000 in
theorem qX8_fars_L2 {l : Launch} {D : va_G} {M0 : zM} {Q : Option Value → zM → Prop} {ad dec : Nat → Nat} (hG : rG ad dec) : ∀ (n : Nat) (x1_ : Int32) (x2_ : Int32) (x3_ : Int32) (σ : zS) (r : (zS)), r_fars_L2 n x1_ x2_ x3_ σ = some r → (Z l yX8_fars cX8_fars 6 none rmX8_fars 0 0 D M0 Q 0 0 33 [some (.ref (ad 42)), some (.int x1_), none, none, none, none] [] (mR ad dec r)) → Z l yX8_fars cX8_fars 6 none rmX8_fars 0 0 D M0 Q 0 0 2 [some (.ref (ad 42)), some (.int x1_), some (.int x2_), some (.int x3_), none, none] [] (mR ad dec σ) := by
  intro n
  induction n with
  | zero =>
    intro x1_ x2_ x3_ σ r hF hE
    exact absurd (show (none : Option (zS)) = some r from hF) (by simp)
  | succ n ih =>
    intro x1_ x2_ x3_ σ r hF hE
    replace hF : (if (σ 5 0) ≤ x3_ then some (σ) else (if x3_ = x2_ then (if zIn x3_ 16 = true then zl (zs σ 41 (x3_).toNatClampNeg (0 : Int32)) (fun (σ7 : zS) => zl (x3_ + 1) (fun (v8 : Int32) => (r_fars_L2 n x1_ x2_ v8 σ7))) else none) else (if zIn x3_ 16 = true then zl (zs σ 41 (x3_).toNatClampNeg (99 : Int32)) (fun (σ4 : zS) => zl (x3_ + 1) (fun (v5 : Int32) => (r_fars_L2 n x1_ x2_ v5 σ4))) else none))) = some r := hF
    refine Z_iload_n (i := 3) (pc' := 3) dX8_fars_2 rfl rfl rfl ?_
    refine Z_aload_n (i := 0) (pc' := 4) dX8_fars_3 rfl rfl rfl ?_
    refine Z_get (v := .int (σ 5 0)) (pc' := 7) 5 zinX8 rfl (by decide) lkX8_137 (mR_obj hG) rfl dX8_fars_4 rfl ?_
    refine Z_icmp_ge (tgt := 33) (pc' := 10) dX8_fars_7 (by decide) rfl (fun h1 => ?_) (fun h1 => ?_)
    · rw [if_pos h1] at hF
      cases hF
      exact Z_sub (vs' := [some (.ref (ad 42)), some (.int x1_), none, none, none, none]) (zSb_of _ _ ⟨rfl, ⟨rfl, trivial⟩⟩) hE
    · rw [if_neg h1] at hF
      refine Z_aload_n (i := 0) (pc' := 11) dX8_fars_10 rfl rfl rfl ?_
      refine Z_get (v := .ref (ad 41)) (pc' := 14) 41 zinX8 rfl (by decide) lkX8_109 (mR_obj hG) rfl dX8_fars_11 rfl ?_
      refine Z_iload_n (i := 3) (pc' := 15) dX8_fars_14 rfl rfl rfl ?_
      refine Z_iload_n (i := 3) (pc' := 16) dX8_fars_15 rfl rfl rfl ?_
      refine Z_iload_n (i := 2) (pc' := 17) dX8_fars_16 rfl rfl rfl ?_
      refine Z_icmp_ne (tgt := 24) (pc' := 20) dX8_fars_17 (by decide) rfl (fun h2 => ?_) (fun h2 => ?_)
      · rw [if_neg h2] at hF
        refine Z_bipush (v := 99) (pc' := 26) dX8_fars_24 (by decide) rfl ?_
        obtain ⟨h3, hF⟩ := ck_of hF
        obtain ⟨σ4, hσ4, hF⟩ := zl_of hF
        refine Z_iast (pc' := 27) (aR_41 hG) (zIn_in h3) dX8_fars_26 rfl ?_
        refine Z_mem (sR_41 hG hσ4) ?_
        obtain ⟨v5, hv5, hF⟩ := zl_of hF
        refine Z_iinc (i := 3) (v := v5) (vs' := [some (.ref (ad 42)), some (.int x1_), some (.int x2_), some (.int v5), none, none]) (pc' := 30) dX8_fars_27 rfl (by rw [hv5]; rfl) (by decide) rfl rfl ?_
        refine Z_goto (tgt := 2) dX8_fars_30 (by decide) ?_
        exact Z_sub (vs' := [some (.ref (ad 42)), some (.int x1_), some (.int x2_), some (.int v5), none, none]) (zSb_of _ _ ⟨rfl, ⟨rfl, ⟨rfl, ⟨rfl, trivial⟩⟩⟩⟩) (ih x1_ x2_ v5 σ4 _ hF hE)
      · rw [if_pos h2] at hF
        refine Z_iconst (v := 0) (pc' := 21) dX8_fars_20 (by decide) rfl ?_
        refine Z_goto (tgt := 26) dX8_fars_21 (by decide) ?_
        obtain ⟨h6, hF⟩ := ck_of hF
        obtain ⟨σ7, hσ7, hF⟩ := zl_of hF
        refine Z_iast (pc' := 27) (aR_41 hG) (zIn_in h6) dX8_fars_26 rfl ?_
        refine Z_mem (sR_41 hG hσ7) ?_
        obtain ⟨v8, hv8, hF⟩ := zl_of hF
        refine Z_iinc (i := 3) (v := v8) (vs' := [some (.ref (ad 42)), some (.int x1_), some (.int x2_), some (.int v8), none, none]) (pc' := 30) dX8_fars_27 rfl (by rw [hv8]; rfl) (by decide) rfl rfl ?_
        refine Z_goto (tgt := 2) dX8_fars_30 (by decide) ?_
        exact Z_sub (vs' := [some (.ref (ad 42)), some (.int x1_), some (.int x2_), some (.int v8), none, none]) (zSb_of _ _ ⟨rfl, ⟨rfl, ⟨rfl, ⟨rfl, trivial⟩⟩⟩⟩) (ih x1_ x2_ v8 σ7 _ hF hE)
set_option maxHeartbeats 4000000 in
set_option maxRecDepth 100000 in
theorem qX8_fars_L56 {l : Launch} {D : va_G} {M0 : zM} {Q : Option Value → zM → Prop} {ad dec : Nat → Nat} (hG : rG ad dec) : ∀ (n : Nat) (x1_ : Int32) (x3_ : Int32) (x4_ : Int32) (x5_ : Int32) (σ : zS) (r : (zS)), r_fars_L56 n x1_ x3_ x4_ x5_ σ = some r → (Z l yX8_fars cX8_fars 6 none rmX8_fars 0 0 D M0 Q 0 0 134 [some (.ref (ad 42)), some (.int x1_), none, some (.int x3_), some (.int x4_), none] [] (mR ad dec r)) → Z l yX8_fars cX8_fars 6 none rmX8_fars 0 0 D M0 Q 0 0 56 [some (.ref (ad 42)), some (.int x1_), none, some (.int x3_), some (.int x4_), some (.int x5_)] [] (mR ad dec σ) := by
  intro n
  induction n with
  | zero =>
    intro x1_ x3_ x4_ x5_ σ r hF hE
    exact absurd (show (none : Option (zS)) = some r from hF) (by simp)
  | succ n ih =>
    intro x1_ x3_ x4_ x5_ σ r hF hE
    replace hF : (if (σ 5 0) ≤ x5_ then some (σ) else (if zIn (((16 : Int32) * x4_) + x5_) 256 = true then (if (σ 10 (((16 : Int32) * x4_) + x5_).toNatClampNeg) = 0 then zl (x5_ + 1) (fun (v15 : Int32) => (r_fars_L56 n x1_ x3_ x4_ v15 σ)) else ((r_goesRound x4_ x5_ x1_ σ).bind (fun y16 => (if y16.1 = 0 then zl (x5_ + 1) (fun (v18 : Int32) => (r_fars_L56 n x1_ x3_ x4_ v18 y16.2)) else (if zIn x5_ 16 = true then (if zIn x4_ 16 = true then (if (y16.2 41 (x4_).toNatClampNeg) ≤ ((y16.2 41 (x5_).toNatClampNeg) + (1 : Int32)) then zl (x5_ + 1) (fun (v22 : Int32) => (r_fars_L56 n x1_ x3_ x4_ v22 y16.2)) else zl (zs y16.2 41 (x4_).toNatClampNeg ((y16.2 41 (x5_).toNatClampNeg) + (1 : Int32))) (fun (σ23 : zS) => zl (x5_ + 1) (fun (v24 : Int32) => (r_fars_L56 n x1_ x3_ x4_ v24 σ23)))) else none) else none))))) else none)) = some r := hF
    refine Z_iload (i := 5) (pc' := 58) dX8_fars_56 rfl rfl ?_
    refine Z_aload_n (i := 0) (pc' := 59) dX8_fars_58 rfl rfl rfl ?_
    refine Z_get (v := .int (σ 5 0)) (pc' := 62) 5 zinX8 rfl (by decide) lkX8_137 (mR_obj hG) rfl dX8_fars_59 rfl ?_
    refine Z_icmp_ge (tgt := 134) (pc' := 65) dX8_fars_62 (by decide) rfl (fun h12 => ?_) (fun h12 => ?_)
    · rw [if_pos h12] at hF
      cases hF
      exact Z_sub (vs' := [some (.ref (ad 42)), some (.int x1_), none, some (.int x3_), some (.int x4_), none]) (zSb_of _ _ ⟨rfl, ⟨rfl, ⟨rfl, ⟨rfl, trivial⟩⟩⟩⟩) hE
    · rw [if_neg h12] at hF
      refine Z_aload_n (i := 0) (pc' := 66) dX8_fars_65 rfl rfl rfl ?_
      refine Z_get (v := .ref (ad 10)) (pc' := 69) 10 zinX8 rfl (by decide) lkX8_34 (mR_obj hG) rfl dX8_fars_66 rfl ?_
      refine Z_bipush (v := 16) (pc' := 71) dX8_fars_69 (by decide) rfl ?_
      refine Z_iload (i := 4) (pc' := 73) dX8_fars_71 rfl rfl ?_
      refine Z_imul (pc' := 74) dX8_fars_73 rfl ?_
      refine Z_iload (i := 5) (pc' := 76) dX8_fars_74 rfl rfl ?_
      refine Z_iadd (pc' := 77) dX8_fars_76 rfl ?_
      obtain ⟨h13, hF⟩ := ck_of hF
      refine Z_zald (pc' := 78) (aR_10 hG) (zIn_in h13) dX8_fars_77 rfl ?_
      refine Z_if_eq (tgt := 128) (pc' := 81) dX8_fars_78 (by decide) rfl (fun h14 => ?_) (fun h14 => ?_)
      · rw [if_pos h14] at hF
        obtain ⟨v15, hv15, hF⟩ := zl_of hF
        refine Z_iinc (i := 5) (v := v15) (vs' := [some (.ref (ad 42)), some (.int x1_), none, some (.int x3_), some (.int x4_), some (.int v15)]) (pc' := 131) dX8_fars_128 rfl (by rw [hv15]; rfl) (by decide) rfl rfl ?_
        refine Z_goto (tgt := 56) dX8_fars_131 (by decide) ?_
        exact Z_sub (vs' := [some (.ref (ad 42)), some (.int x1_), none, some (.int x3_), some (.int x4_), some (.int v15)]) (zSb_of _ _ ⟨rfl, ⟨rfl, ⟨rfl, ⟨rfl, ⟨rfl, trivial⟩⟩⟩⟩⟩) (ih x1_ x3_ x4_ v15 σ _ hF hE)
      · rw [if_neg h14] at hF
        refine Z_aload_n (i := 0) (pc' := 82) dX8_fars_81 rfl rfl rfl ?_
        refine Z_iload (i := 4) (pc' := 84) dX8_fars_82 rfl rfl ?_
        refine Z_iload (i := 5) (pc' := 86) dX8_fars_84 rfl rfl ?_
        refine Z_iload_n (i := 1) (pc' := 87) dX8_fars_86 rfl rfl rfl ?_
        obtain ⟨y16, hy16, hF⟩ := bd_of hF
        refine Z_callVi (As := [.int x4_, .int x5_, .int x1_]) (st := []) (pc' := 90) (k' := 0) (n' := 0) (qX8_goesRound l hG hy16) ckX8_goesRound kvX8_goesRound mlX8_180 (mR_obj hG) rfl rfl rfl (Nat.le_of_ble_eq_true rfl) ⟨Nat.le_of_ble_eq_true rfl, Nat.le_of_ble_eq_true rfl⟩ ⟨Nat.le_of_ble_eq_true rfl, Nat.le_of_ble_eq_true rfl⟩ dX8_fars_87 rfl rfl rfl ?_
        refine Z_if_eq (tgt := 128) (pc' := 93) dX8_fars_90 (by decide) rfl (fun h17 => ?_) (fun h17 => ?_)
        · rw [if_pos h17] at hF
          obtain ⟨v18, hv18, hF⟩ := zl_of hF
          refine Z_iinc (i := 5) (v := v18) (vs' := [some (.ref (ad 42)), some (.int x1_), none, some (.int x3_), some (.int x4_), some (.int v18)]) (pc' := 131) dX8_fars_128 rfl (by rw [hv18]; rfl) (by decide) rfl rfl ?_
          refine Z_goto (tgt := 56) dX8_fars_131 (by decide) ?_
          exact Z_sub (vs' := [some (.ref (ad 42)), some (.int x1_), none, some (.int x3_), some (.int x4_), some (.int v18)]) (zSb_of _ _ ⟨rfl, ⟨rfl, ⟨rfl, ⟨rfl, ⟨rfl, trivial⟩⟩⟩⟩⟩) (ih x1_ x3_ x4_ v18 y16.2 _ hF hE)
        · rw [if_neg h17] at hF
          refine Z_aload_n (i := 0) (pc' := 94) dX8_fars_93 rfl rfl rfl ?_
          refine Z_get (v := .ref (ad 41)) (pc' := 97) 41 zinX8 rfl (by decide) lkX8_109 (mR_obj hG) rfl dX8_fars_94 rfl ?_
          refine Z_iload (i := 5) (pc' := 99) dX8_fars_97 rfl rfl ?_
          obtain ⟨h19, hF⟩ := ck_of hF
          refine Z_iald (pc' := 100) (aR_41 hG) (zIn_in h19) dX8_fars_99 rfl ?_
          refine Z_iconst (v := 1) (pc' := 101) dX8_fars_100 (by decide) rfl ?_
          refine Z_iadd (pc' := 102) dX8_fars_101 rfl ?_
          refine Z_aload_n (i := 0) (pc' := 103) dX8_fars_102 rfl rfl rfl ?_
          refine Z_get (v := .ref (ad 41)) (pc' := 106) 41 zinX8 rfl (by decide) lkX8_109 (mR_obj hG) rfl dX8_fars_103 rfl ?_
          refine Z_iload (i := 4) (pc' := 108) dX8_fars_106 rfl rfl ?_
          obtain ⟨h20, hF⟩ := ck_of hF
          refine Z_iald (pc' := 109) (aR_41 hG) (zIn_in h20) dX8_fars_108 rfl ?_
          refine Z_icmp_ge (tgt := 128) (pc' := 112) dX8_fars_109 (by decide) rfl (fun h21 => ?_) (fun h21 => ?_)
          · rw [if_pos h21] at hF
            obtain ⟨v22, hv22, hF⟩ := zl_of hF
            refine Z_iinc (i := 5) (v := v22) (vs' := [some (.ref (ad 42)), some (.int x1_), none, some (.int x3_), some (.int x4_), some (.int v22)]) (pc' := 131) dX8_fars_128 rfl (by rw [hv22]; rfl) (by decide) rfl rfl ?_
            refine Z_goto (tgt := 56) dX8_fars_131 (by decide) ?_
            exact Z_sub (vs' := [some (.ref (ad 42)), some (.int x1_), none, some (.int x3_), some (.int x4_), some (.int v22)]) (zSb_of _ _ ⟨rfl, ⟨rfl, ⟨rfl, ⟨rfl, ⟨rfl, trivial⟩⟩⟩⟩⟩) (ih x1_ x3_ x4_ v22 y16.2 _ hF hE)
          · rw [if_neg h21] at hF
            refine Z_aload_n (i := 0) (pc' := 113) dX8_fars_112 rfl rfl rfl ?_
            refine Z_get (v := .ref (ad 41)) (pc' := 116) 41 zinX8 rfl (by decide) lkX8_109 (mR_obj hG) rfl dX8_fars_113 rfl ?_
            refine Z_iload (i := 4) (pc' := 118) dX8_fars_116 rfl rfl ?_
            refine Z_aload_n (i := 0) (pc' := 119) dX8_fars_118 rfl rfl rfl ?_
            refine Z_get (v := .ref (ad 41)) (pc' := 122) 41 zinX8 rfl (by decide) lkX8_109 (mR_obj hG) rfl dX8_fars_119 rfl ?_
            refine Z_iload (i := 5) (pc' := 124) dX8_fars_122 rfl rfl ?_
            refine Z_iald (pc' := 125) (aR_41 hG) (zIn_in h19) dX8_fars_124 rfl ?_
            refine Z_iconst (v := 1) (pc' := 126) dX8_fars_125 (by decide) rfl ?_
            refine Z_iadd (pc' := 127) dX8_fars_126 rfl ?_
            obtain ⟨σ23, hσ23, hF⟩ := zl_of hF
            refine Z_iast (pc' := 128) (aR_41 hG) (zIn_in h20) dX8_fars_127 rfl ?_
            refine Z_mem (sR_41 hG hσ23) ?_
            obtain ⟨v24, hv24, hF⟩ := zl_of hF
            refine Z_iinc (i := 5) (v := v24) (vs' := [some (.ref (ad 42)), some (.int x1_), none, some (.int x3_), some (.int x4_), some (.int v24)]) (pc' := 131) dX8_fars_128 rfl (by rw [hv24]; rfl) (by decide) rfl rfl ?_
            refine Z_goto (tgt := 56) dX8_fars_131 (by decide) ?_
            exact Z_sub (vs' := [some (.ref (ad 42)), some (.int x1_), none, some (.int x3_), some (.int x4_), some (.int v24)]) (zSb_of _ _ ⟨rfl, ⟨rfl, ⟨rfl, ⟨rfl, ⟨rfl, trivial⟩⟩⟩⟩⟩) (ih x1_ x3_ x4_ v24 σ23 _ hF hE)
set_option maxHeartbeats 4000000 in
set_option maxRecDepth 100000 in
theorem qX8_fars_L44 {l : Launch} {D : va_G} {M0 : zM} {Q : Option Value → zM → Prop} {ad dec : Nat → Nat} (hG : rG ad dec) : ∀ (n : Nat) (x1_ : Int32) (x3_ : Int32) (x4_ : Int32) (σ : zS) (r : (zS)), r_fars_L44 n x1_ x3_ x4_ σ = some r → (Z l yX8_fars cX8_fars 6 none rmX8_fars 0 0 D M0 Q 0 0 140 [some (.ref (ad 42)), some (.int x1_), none, some (.int x3_), none, none] [] (mR ad dec r)) → Z l yX8_fars cX8_fars 6 none rmX8_fars 0 0 D M0 Q 0 0 44 [some (.ref (ad 42)), some (.int x1_), none, some (.int x3_), some (.int x4_), none] [] (mR ad dec σ) := by
  intro n
  induction n with
  | zero =>
    intro x1_ x3_ x4_ σ r hF hE
    exact absurd (show (none : Option (zS)) = some r from hF) (by simp)
  | succ n ih =>
    intro x1_ x3_ x4_ σ r hF hE
    replace hF : (if (σ 5 0) ≤ x4_ then some (σ) else ((r_fars_L56 zF x1_ x3_ x4_ (0 : Int32) σ).bind (fun r12 => zl (x4_ + 1) (fun (v13 : Int32) => (r_fars_L44 n x1_ x3_ v13 r12))))) = some r := hF
    refine Z_iload (i := 4) (pc' := 46) dX8_fars_44 rfl rfl ?_
    refine Z_aload_n (i := 0) (pc' := 47) dX8_fars_46 rfl rfl rfl ?_
    refine Z_get (v := .int (σ 5 0)) (pc' := 50) 5 zinX8 rfl (by decide) lkX8_137 (mR_obj hG) rfl dX8_fars_47 rfl ?_
    refine Z_icmp_ge (tgt := 140) (pc' := 53) dX8_fars_50 (by decide) rfl (fun h11 => ?_) (fun h11 => ?_)
    · rw [if_pos h11] at hF
      cases hF
      exact Z_sub (vs' := [some (.ref (ad 42)), some (.int x1_), none, some (.int x3_), none, none]) (zSb_of _ _ ⟨rfl, ⟨rfl, ⟨rfl, trivial⟩⟩⟩) hE
    · rw [if_neg h11] at hF
      refine Z_iconst (v := 0) (pc' := 54) dX8_fars_53 (by decide) rfl ?_
      refine Z_istoreE (i := 5) (x' := (0 : Int32)) (vs' := [some (.ref (ad 42)), some (.int x1_), none, some (.int x3_), some (.int x4_), some (.int (0 : Int32))]) (pc' := 56) dX8_fars_54 rfl (by decide) rfl rfl ?_
      obtain ⟨r12, hr12, hF⟩ := bd_of hF
      refine Z_sub (vs' := [some (.ref (ad 42)), some (.int x1_), none, some (.int x3_), some (.int x4_), some (.int (0 : Int32))]) (zSb_of _ _ ⟨rfl, ⟨rfl, ⟨rfl, ⟨rfl, ⟨rfl, trivial⟩⟩⟩⟩⟩) (qX8_fars_L56 hG zF x1_ x3_ x4_ (0 : Int32) σ _ hr12 ?_)
      obtain ⟨v13, hv13, hF⟩ := zl_of hF
      refine Z_iinc (i := 4) (v := v13) (vs' := [some (.ref (ad 42)), some (.int x1_), none, some (.int x3_), some (.int v13), none]) (pc' := 137) dX8_fars_134 rfl (by rw [hv13]; rfl) (by decide) rfl rfl ?_
      refine Z_goto (tgt := 44) dX8_fars_137 (by decide) ?_
      exact Z_sub (vs' := [some (.ref (ad 42)), some (.int x1_), none, some (.int x3_), some (.int v13), none]) (zSb_of _ _ ⟨rfl, ⟨rfl, ⟨rfl, ⟨rfl, trivial⟩⟩⟩⟩) (ih x1_ x3_ v13 r12 _ hF hE)
set_option maxHeartbeats 4000000 in
set_option maxRecDepth 100000 in
theorem qX8_fars_L35 {l : Launch} {D : va_G} {M0 : zM} {Q : Option Value → zM → Prop} {ad dec : Nat → Nat} (hG : rG ad dec) : ∀ (n : Nat) (x1_ : Int32) (x3_ : Int32) (σ : zS) (r : (zS)), r_fars_L35 n x1_ x3_ σ = some r → (Z l yX8_fars cX8_fars 6 none rmX8_fars 0 0 D M0 Q 0 0 146 [none, none, none, none, none, none] [] (mR ad dec r)) → Z l yX8_fars cX8_fars 6 none rmX8_fars 0 0 D M0 Q 0 0 35 [some (.ref (ad 42)), some (.int x1_), none, some (.int x3_), none, none] [] (mR ad dec σ) := by
  intro n
  induction n with
  | zero =>
    intro x1_ x3_ σ r hF hE
    exact absurd (show (none : Option (zS)) = some r from hF) (by simp)
  | succ n ih =>
    intro x1_ x3_ σ r hF hE
    replace hF : (if (16 : Int32) ≤ x3_ then some (σ) else ((r_fars_L44 zF x1_ x3_ (0 : Int32) σ).bind (fun r11 => zl (x3_ + 1) (fun (v12 : Int32) => (r_fars_L35 n x1_ v12 r11))))) = some r := hF
    refine Z_iload_n (i := 3) (pc' := 36) dX8_fars_35 rfl rfl rfl ?_
    refine Z_bipush (v := 16) (pc' := 38) dX8_fars_36 (by decide) rfl ?_
    refine Z_icmp_ge (tgt := 146) (pc' := 41) dX8_fars_38 (by decide) rfl (fun h10 => ?_) (fun h10 => ?_)
    · rw [if_pos h10] at hF
      cases hF
      exact Z_sub (vs' := [none, none, none, none, none, none]) (zSb_of _ _ trivial) hE
    · rw [if_neg h10] at hF
      refine Z_iconst (v := 0) (pc' := 42) dX8_fars_41 (by decide) rfl ?_
      refine Z_istoreE (i := 4) (x' := (0 : Int32)) (vs' := [some (.ref (ad 42)), some (.int x1_), none, some (.int x3_), some (.int (0 : Int32)), none]) (pc' := 44) dX8_fars_42 rfl (by decide) rfl rfl ?_
      obtain ⟨r11, hr11, hF⟩ := bd_of hF
      refine Z_sub (vs' := [some (.ref (ad 42)), some (.int x1_), none, some (.int x3_), some (.int (0 : Int32)), none]) (zSb_of _ _ ⟨rfl, ⟨rfl, ⟨rfl, ⟨rfl, trivial⟩⟩⟩⟩) (qX8_fars_L44 hG zF x1_ x3_ (0 : Int32) σ _ hr11 ?_)
      obtain ⟨v12, hv12, hF⟩ := zl_of hF
      refine Z_iinc (i := 3) (v := v12) (vs' := [some (.ref (ad 42)), some (.int x1_), none, some (.int v12), none, none]) (pc' := 143) dX8_fars_140 rfl (by rw [hv12]; rfl) (by decide) rfl rfl ?_
      refine Z_goto (tgt := 35) dX8_fars_143 (by decide) ?_
      exact Z_sub (vs' := [some (.ref (ad 42)), some (.int x1_), none, some (.int v12), none, none]) (zSb_of _ _ ⟨rfl, ⟨rfl, ⟨rfl, trivial⟩⟩⟩) (ih x1_ v12 r11 _ hF hE)
set_option maxHeartbeats 4000000 in
set_option maxRecDepth 100000 in
theorem qX8_fars (l : Launch) {ad dec : Nat → Nat} (hG : rG ad dec) {x1 : Int32} {x2 : Int32} {σ : zS} {w : Int32 × zS} (hF : r_fars x1 x2 σ = some w) : zMet l yX8_fars cX8_fars 6 none rmX8_fars [.ref (ad 42), .int x1, .int x2] (mR ad dec σ) (fun v M' => v = none ∧ M' = (mR ad dec w.2)) := by
  refine zMet.ofZ (vs := [some (.ref (ad 42)), some (.int x1), some (.int x2), none, none, none]) (by decide) rfl (zCt_of _ ⟨rfl, ⟨rfl, ⟨rfl, trivial⟩⟩⟩) (Nat.le_of_ble_eq_true rfl) (fun D => ?_)
  unfold r_fars at hF
  refine Z_iconst (v := 0) (pc' := 1) dX8_fars_0 (by decide) rfl ?_
  refine Z_istore_nE (i := 3) (x' := (0 : Int32)) (vs' := [some (.ref (ad 42)), some (.int x1), some (.int x2), some (.int (0 : Int32)), none, none]) (pc' := 2) dX8_fars_1 rfl rfl (by decide) rfl rfl ?_
  obtain ⟨r9, hr9, hF⟩ := bd_of hF
  refine Z_sub (vs' := [some (.ref (ad 42)), some (.int x1), some (.int x2), some (.int (0 : Int32)), none, none]) (zSb_of _ _ ⟨rfl, ⟨rfl, ⟨rfl, ⟨rfl, trivial⟩⟩⟩⟩) (qX8_fars_L2 hG zF x1 x2 (0 : Int32) σ _ hr9 ?_)
  refine Z_iconst (v := 0) (pc' := 34) dX8_fars_33 (by decide) rfl ?_
  refine Z_istore_nE (i := 3) (x' := (0 : Int32)) (vs' := [some (.ref (ad 42)), some (.int x1), none, some (.int (0 : Int32)), none, none]) (pc' := 35) dX8_fars_34 rfl rfl (by decide) rfl rfl ?_
  obtain ⟨r13, hr13, hF⟩ := bd_of hF
  refine Z_sub (vs' := [some (.ref (ad 42)), some (.int x1), none, some (.int (0 : Int32)), none, none]) (zSb_of _ _ ⟨rfl, ⟨rfl, ⟨rfl, trivial⟩⟩⟩) (qX8_fars_L35 hG zF x1 (0 : Int32) r9 _ hr13 ?_)
  cases hF
  exact Z_vret dX8_fars_146 rfl (Nat.le_refl _) (Nat.le_refl _) ⟨rfl, rfl⟩
abbrev rmX8_soonest : Room := { frames := 3, cells := 0, slots := 0, locals := 69 }
def r_soonest  (x1 : Int32) (x2 : Int32) (σ : zS) : Option (Int32 × zS) := ((r_isTreasure x1 σ).bind (fun y1 => (if y1.1 = 0 then some ((-1 : Int32), y1.2) else (if zIn x1 24 = true then (if (y1.2 14 (x1).toNatClampNeg) = (-1 : Int32) then some ((-1 : Int32), y1.2) else ((r_lives x2 y1.2).bind (fun y5 => (if y5.1 = 0 then some ((-1 : Int32), y5.2) else ((r_fars x1 x2 y5.2).bind (fun y7 => (if zIn (y7.2 14 (x1).toNatClampNeg) 16 = true then (if (y7.2 41 (y7.2 14 (x1).toNatClampNeg).toNatClampNeg) < (99 : Int32) then some ((y7.2 41 (y7.2 14 (x1).toNatClampNeg).toNatClampNeg), y7.2) else some ((-1 : Int32), y7.2)) else none))))))) else none))))
set_option maxHeartbeats 4000000 in
set_option maxRecDepth 100000 in
theorem qX8_soonest (l : Launch) {ad dec : Nat → Nat} (hG : rG ad dec) {x1 : Int32} {x2 : Int32} {σ : zS} {w : Int32 × zS} (hF : r_soonest x1 x2 σ = some w) : zMet l yX8_soonest cX8_soonest 3 (some .int) rmX8_soonest [.ref (ad 42), .int x1, .int x2] (mR ad dec σ) (fun v M' => v = (some (.int w.1)) ∧ M' = (mR ad dec w.2)) := by
  refine zMet.ofZ (vs := [some (.ref (ad 42)), some (.int x1), some (.int x2)]) (by decide) rfl (zCt_of _ ⟨rfl, ⟨rfl, ⟨rfl, trivial⟩⟩⟩) (Nat.le_of_ble_eq_true rfl) (fun D => ?_)
  unfold r_soonest at hF
  refine Z_aload_n (i := 0) (pc' := 1) dX8_soonest_0 rfl rfl rfl ?_
  refine Z_iload_n (i := 1) (pc' := 2) dX8_soonest_1 rfl rfl rfl ?_
  obtain ⟨y1, hy1, hF⟩ := bd_of hF
  refine Z_callVi (As := [.int x1]) (st := []) (pc' := 5) (k' := 0) (n' := 0) (qX8_isTreasure l hG hy1) ckX8_isTreasure kvX8_isTreasure mlX8_164 (mR_obj hG) rfl rfl rfl (Nat.le_of_ble_eq_true rfl) ⟨Nat.le_of_ble_eq_true rfl, Nat.le_of_ble_eq_true rfl⟩ ⟨Nat.le_of_ble_eq_true rfl, Nat.le_of_ble_eq_true rfl⟩ dX8_soonest_2 rfl rfl rfl ?_
  refine Z_if_eq (tgt := 26) (pc' := 8) dX8_soonest_5 (by decide) rfl (fun h2 => ?_) (fun h2 => ?_)
  · rw [if_pos h2] at hF
    refine Z_iconst (v := -1) (pc' := 27) dX8_soonest_26 (by decide) rfl ?_
    cases hF
    exact Z_iret (ty := .int) (w := (-1 : Int32)) dX8_soonest_27 rfl rfl (Nat.le_refl _) (Nat.le_refl _) ⟨rfl, rfl⟩
  · rw [if_neg h2] at hF
    refine Z_aload_n (i := 0) (pc' := 9) dX8_soonest_8 rfl rfl rfl ?_
    refine Z_get (v := .ref (ad 14)) (pc' := 12) 14 zinX8 rfl (by decide) lkX8_43 (mR_obj hG) rfl dX8_soonest_9 rfl ?_
    refine Z_iload_n (i := 1) (pc' := 13) dX8_soonest_12 rfl rfl rfl ?_
    obtain ⟨h3, hF⟩ := ck_of hF
    refine Z_iald (pc' := 14) (aR_14 hG) (zIn_in h3) dX8_soonest_13 rfl ?_
    refine Z_iconst (v := -1) (pc' := 15) dX8_soonest_14 (by decide) rfl ?_
    refine Z_icmp_eq (tgt := 26) (pc' := 18) dX8_soonest_15 (by decide) rfl (fun h4 => ?_) (fun h4 => ?_)
    · rw [if_pos h4] at hF
      refine Z_iconst (v := -1) (pc' := 27) dX8_soonest_26 (by decide) rfl ?_
      cases hF
      exact Z_iret (ty := .int) (w := (-1 : Int32)) dX8_soonest_27 rfl rfl (Nat.le_refl _) (Nat.le_refl _) ⟨rfl, rfl⟩
    · rw [if_neg h4] at hF
      refine Z_aload_n (i := 0) (pc' := 19) dX8_soonest_18 rfl rfl rfl ?_
      refine Z_iload_n (i := 2) (pc' := 20) dX8_soonest_19 rfl rfl rfl ?_
      obtain ⟨y5, hy5, hF⟩ := bd_of hF
      refine Z_callVi (As := [.int x2]) (st := []) (pc' := 23) (k' := 0) (n' := 0) (qX8_lives l hG hy5) ckX8_lives kvX8_lives mlX8_144 (mR_obj hG) rfl rfl rfl (Nat.le_of_ble_eq_true rfl) ⟨Nat.le_of_ble_eq_true rfl, Nat.le_of_ble_eq_true rfl⟩ ⟨Nat.le_of_ble_eq_true rfl, Nat.le_of_ble_eq_true rfl⟩ dX8_soonest_20 rfl rfl rfl ?_
      refine Z_if_ne (tgt := 28) (pc' := 26) dX8_soonest_23 (by decide) rfl (fun h6 => ?_) (fun h6 => ?_)
      · rw [if_neg h6] at hF
        refine Z_aload_n (i := 0) (pc' := 29) dX8_soonest_28 rfl rfl rfl ?_
        refine Z_iload_n (i := 1) (pc' := 30) dX8_soonest_29 rfl rfl rfl ?_
        refine Z_iload_n (i := 2) (pc' := 31) dX8_soonest_30 rfl rfl rfl ?_
        obtain ⟨y7, hy7, hF⟩ := bd_of hF
        refine Z_callVv (As := [.int x1, .int x2]) (st := []) (pc' := 34) (k' := 0) (n' := 0) (qX8_fars l hG hy7) ckX8_fars kvX8_fars mlX8_213 (mR_obj hG) rfl rfl rfl (Nat.le_of_ble_eq_true rfl) ⟨Nat.le_of_ble_eq_true rfl, Nat.le_of_ble_eq_true rfl⟩ ⟨Nat.le_of_ble_eq_true rfl, Nat.le_of_ble_eq_true rfl⟩ dX8_soonest_31 rfl rfl rfl ?_
        refine Z_aload_n (i := 0) (pc' := 35) dX8_soonest_34 rfl rfl rfl ?_
        refine Z_get (v := .ref (ad 41)) (pc' := 38) 41 zinX8 rfl (by decide) lkX8_109 (mR_obj hG) rfl dX8_soonest_35 rfl ?_
        refine Z_aload_n (i := 0) (pc' := 39) dX8_soonest_38 rfl rfl rfl ?_
        refine Z_get (v := .ref (ad 14)) (pc' := 42) 14 zinX8 rfl (by decide) lkX8_43 (mR_obj hG) rfl dX8_soonest_39 rfl ?_
        refine Z_iload_n (i := 1) (pc' := 43) dX8_soonest_42 rfl rfl rfl ?_
        refine Z_iald (pc' := 44) (aR_14 hG) (zIn_in h3) dX8_soonest_43 rfl ?_
        obtain ⟨h8, hF⟩ := ck_of hF
        refine Z_iald (pc' := 45) (aR_41 hG) (zIn_in h8) dX8_soonest_44 rfl ?_
        refine Z_bipush (v := 99) (pc' := 47) dX8_soonest_45 (by decide) rfl ?_
        refine Z_icmp_lt (tgt := 54) (pc' := 50) dX8_soonest_47 (by decide) rfl (fun h9 => ?_) (fun h9 => ?_)
        · rw [if_pos h9] at hF
          refine Z_aload_n (i := 0) (pc' := 55) dX8_soonest_54 rfl rfl rfl ?_
          refine Z_get (v := .ref (ad 41)) (pc' := 58) 41 zinX8 rfl (by decide) lkX8_109 (mR_obj hG) rfl dX8_soonest_55 rfl ?_
          refine Z_aload_n (i := 0) (pc' := 59) dX8_soonest_58 rfl rfl rfl ?_
          refine Z_get (v := .ref (ad 14)) (pc' := 62) 14 zinX8 rfl (by decide) lkX8_43 (mR_obj hG) rfl dX8_soonest_59 rfl ?_
          refine Z_iload_n (i := 1) (pc' := 63) dX8_soonest_62 rfl rfl rfl ?_
          refine Z_iald (pc' := 64) (aR_14 hG) (zIn_in h3) dX8_soonest_63 rfl ?_
          refine Z_iald (pc' := 65) (aR_41 hG) (zIn_in h8) dX8_soonest_64 rfl ?_
          cases hF
          exact Z_iret (ty := .int) (w := (y7.2 41 (y7.2 14 (x1).toNatClampNeg).toNatClampNeg)) dX8_soonest_65 rfl rfl (Nat.le_refl _) (Nat.le_refl _) ⟨rfl, rfl⟩
        · rw [if_neg h9] at hF
          refine Z_iconst (v := -1) (pc' := 51) dX8_soonest_50 (by decide) rfl ?_
          refine Z_goto (tgt := 65) dX8_soonest_51 (by decide) ?_
          cases hF
          exact Z_iret (ty := .int) (w := (-1 : Int32)) dX8_soonest_65 rfl rfl (Nat.le_refl _) (Nat.le_refl _) ⟨rfl, rfl⟩
      · rw [if_pos h6] at hF
        refine Z_iconst (v := -1) (pc' := 27) dX8_soonest_26 (by decide) rfl ?_
        cases hF
        exact Z_iret (ty := .int) (w := (-1 : Int32)) dX8_soonest_27 rfl rfl (Nat.le_refl _) (Nat.le_refl _) ⟨rfl, rfl⟩
abbrev rmX8_through : Room := { frames := 4, cells := 0, slots := 0, locals := 91 }
def r_through_L54 : Nat → Int32 → Int32 → Int32 → Int32 → Int32 → Int32 → zS → Option (Int32 × zS)
  | 0, _, _, _, _, _, _, _ => none
  | n + 1, x1_, x3_, x5_, x6_, x7_, x8_, σ => (if x8_ < 0 then some (x7_, σ) else (if zIn (((16 : Int32) * x5_) + x8_) 256 = true then (if (σ 10 (((16 : Int32) * x5_) + x8_).toNatClampNeg) = 0 then zl (x8_ + (-1)) (fun (v12 : Int32) => (r_through_L54 n x1_ x3_ x5_ x6_ x7_ v12 σ)) else ((r_goesRound x5_ x8_ x1_ σ).bind (fun y13 => (if y13.1 = 0 then zl (x8_ + (-1)) (fun (v15 : Int32) => (r_through_L54 n x1_ x3_ x5_ x6_ x7_ v15 y13.2)) else (if zIn x8_ 16 = true then (if zIn x5_ 16 = true then (if (y13.2 41 (x8_).toNatClampNeg) = ((y13.2 41 (x5_).toNatClampNeg) - (1 : Int32)) then zl (x8_ + (-1)) (fun (v20 : Int32) => (r_through_L54 n x1_ x3_ x5_ x6_ x8_ v20 y13.2)) else zl (x8_ + (-1)) (fun (v19 : Int32) => (r_through_L54 n x1_ x3_ x5_ x6_ x7_ v19 y13.2))) else none) else none))))) else none))
def r_through_L37 : Nat → Int32 → Int32 → Int32 → Int32 → zS → Option (Int32 × zS)
  | 0, _, _, _, _, _ => none
  | n + 1, x1_, x3_, x5_, x6_, σ => (if x3_ ≤ x6_ then some (x5_, σ) else zl ((σ 5 0) - (1 : Int32)) (fun (v8 : Int32) => ((r_through_L54 zF x1_ x3_ x5_ x6_ (-1 : Int32) v8 σ).bind (fun r9 => zl (x6_ + 1) (fun (v10 : Int32) => (r_through_L37 n x1_ x3_ r9.1 v10 r9.2))))))
def r_through  (x1 : Int32) (x2 : Int32) (x3 : Int32) (σ : zS) : Option (Int32 × zS) := ((r_soonest x1 x2 σ).bind (fun y1 => (if y1.1 = (-1 : Int32) then some ((-1 : Int32), y1.2) else (if x3 < 0 then some ((-1 : Int32), y1.2) else (if x3 ≤ y1.1 then (if zIn x1 24 = true then zl (y1.2 14 (x1).toNatClampNeg) (fun (v6 : Int32) => ((r_through_L37 zF x1 x3 v6 (0 : Int32) y1.2).bind (fun r11 => some (r11.1, r11.2)))) else none) else some ((-1 : Int32), y1.2))))))
set_option maxHeartbeats 4000000 in
set_option maxRecDepth 100000 in
theorem qX8_through_L54 {l : Launch} {D : va_G} {M0 : zM} {Q : Option Value → zM → Prop} {ad dec : Nat → Nat} (hG : rG ad dec) : ∀ (n : Nat) (x1_ : Int32) (x3_ : Int32) (x5_ : Int32) (x6_ : Int32) (x7_ : Int32) (x8_ : Int32) (σ : zS) (r : (Int32 × zS)), r_through_L54 n x1_ x3_ x5_ x6_ x7_ x8_ σ = some r → (Z l yX8_through cX8_through 9 (some .int) rmX8_through 0 0 D M0 Q 0 0 116 [some (.ref (ad 42)), some (.int x1_), none, some (.int x3_), none, none, some (.int x6_), some (.int r.1), none] [] (mR ad dec r.2)) → Z l yX8_through cX8_through 9 (some .int) rmX8_through 0 0 D M0 Q 0 0 54 [some (.ref (ad 42)), some (.int x1_), none, some (.int x3_), none, some (.int x5_), some (.int x6_), some (.int x7_), some (.int x8_)] [] (mR ad dec σ) := by
  intro n
  induction n with
  | zero =>
    intro x1_ x3_ x5_ x6_ x7_ x8_ σ r hF hE
    exact absurd (show (none : Option (Int32 × zS)) = some r from hF) (by simp)
  | succ n ih =>
    intro x1_ x3_ x5_ x6_ x7_ x8_ σ r hF hE
    replace hF : (if x8_ < 0 then some (x7_, σ) else (if zIn (((16 : Int32) * x5_) + x8_) 256 = true then (if (σ 10 (((16 : Int32) * x5_) + x8_).toNatClampNeg) = 0 then zl (x8_ + (-1)) (fun (v12 : Int32) => (r_through_L54 n x1_ x3_ x5_ x6_ x7_ v12 σ)) else ((r_goesRound x5_ x8_ x1_ σ).bind (fun y13 => (if y13.1 = 0 then zl (x8_ + (-1)) (fun (v15 : Int32) => (r_through_L54 n x1_ x3_ x5_ x6_ x7_ v15 y13.2)) else (if zIn x8_ 16 = true then (if zIn x5_ 16 = true then (if (y13.2 41 (x8_).toNatClampNeg) = ((y13.2 41 (x5_).toNatClampNeg) - (1 : Int32)) then zl (x8_ + (-1)) (fun (v20 : Int32) => (r_through_L54 n x1_ x3_ x5_ x6_ x8_ v20 y13.2)) else zl (x8_ + (-1)) (fun (v19 : Int32) => (r_through_L54 n x1_ x3_ x5_ x6_ x7_ v19 y13.2))) else none) else none))))) else none)) = some r := hF
    refine Z_iload (i := 8) (pc' := 56) dX8_through_54 rfl rfl ?_
    refine Z_if_lt (tgt := 116) (pc' := 59) dX8_through_56 (by decide) rfl (fun h9 => ?_) (fun h9 => ?_)
    · rw [if_pos h9] at hF
      cases hF
      exact Z_sub (vs' := [some (.ref (ad 42)), some (.int x1_), none, some (.int x3_), none, none, some (.int x6_), some (.int x7_), none]) (zSb_of _ _ ⟨rfl, ⟨rfl, ⟨rfl, ⟨rfl, ⟨rfl, trivial⟩⟩⟩⟩⟩) hE
    · rw [if_neg h9] at hF
      refine Z_aload_n (i := 0) (pc' := 60) dX8_through_59 rfl rfl rfl ?_
      refine Z_get (v := .ref (ad 10)) (pc' := 63) 10 zinX8 rfl (by decide) lkX8_34 (mR_obj hG) rfl dX8_through_60 rfl ?_
      refine Z_bipush (v := 16) (pc' := 65) dX8_through_63 (by decide) rfl ?_
      refine Z_iload (i := 5) (pc' := 67) dX8_through_65 rfl rfl ?_
      refine Z_imul (pc' := 68) dX8_through_67 rfl ?_
      refine Z_iload (i := 8) (pc' := 70) dX8_through_68 rfl rfl ?_
      refine Z_iadd (pc' := 71) dX8_through_70 rfl ?_
      obtain ⟨h10, hF⟩ := ck_of hF
      refine Z_zald (pc' := 72) (aR_10 hG) (zIn_in h10) dX8_through_71 rfl ?_
      refine Z_if_eq (tgt := 110) (pc' := 75) dX8_through_72 (by decide) rfl (fun h11 => ?_) (fun h11 => ?_)
      · rw [if_pos h11] at hF
        obtain ⟨v12, hv12, hF⟩ := zl_of hF
        refine Z_iinc (i := 8) (v := v12) (vs' := [some (.ref (ad 42)), some (.int x1_), none, some (.int x3_), none, some (.int x5_), some (.int x6_), some (.int x7_), some (.int v12)]) (pc' := 113) dX8_through_110 rfl (by rw [hv12]; rfl) (by decide) rfl rfl ?_
        refine Z_goto (tgt := 54) dX8_through_113 (by decide) ?_
        exact Z_sub (vs' := [some (.ref (ad 42)), some (.int x1_), none, some (.int x3_), none, some (.int x5_), some (.int x6_), some (.int x7_), some (.int v12)]) (zSb_of _ _ ⟨rfl, ⟨rfl, ⟨rfl, ⟨rfl, ⟨rfl, ⟨rfl, ⟨rfl, trivial⟩⟩⟩⟩⟩⟩⟩) (ih x1_ x3_ x5_ x6_ x7_ v12 σ _ hF hE)
      · rw [if_neg h11] at hF
        refine Z_aload_n (i := 0) (pc' := 76) dX8_through_75 rfl rfl rfl ?_
        refine Z_iload (i := 5) (pc' := 78) dX8_through_76 rfl rfl ?_
        refine Z_iload (i := 8) (pc' := 80) dX8_through_78 rfl rfl ?_
        refine Z_iload_n (i := 1) (pc' := 81) dX8_through_80 rfl rfl rfl ?_
        obtain ⟨y13, hy13, hF⟩ := bd_of hF
        refine Z_callVi (As := [.int x5_, .int x8_, .int x1_]) (st := []) (pc' := 84) (k' := 0) (n' := 0) (qX8_goesRound l hG hy13) ckX8_goesRound kvX8_goesRound mlX8_180 (mR_obj hG) rfl rfl rfl (Nat.le_of_ble_eq_true rfl) ⟨Nat.le_of_ble_eq_true rfl, Nat.le_of_ble_eq_true rfl⟩ ⟨Nat.le_of_ble_eq_true rfl, Nat.le_of_ble_eq_true rfl⟩ dX8_through_81 rfl rfl rfl ?_
        refine Z_if_eq (tgt := 110) (pc' := 87) dX8_through_84 (by decide) rfl (fun h14 => ?_) (fun h14 => ?_)
        · rw [if_pos h14] at hF
          obtain ⟨v15, hv15, hF⟩ := zl_of hF
          refine Z_iinc (i := 8) (v := v15) (vs' := [some (.ref (ad 42)), some (.int x1_), none, some (.int x3_), none, some (.int x5_), some (.int x6_), some (.int x7_), some (.int v15)]) (pc' := 113) dX8_through_110 rfl (by rw [hv15]; rfl) (by decide) rfl rfl ?_
          refine Z_goto (tgt := 54) dX8_through_113 (by decide) ?_
          exact Z_sub (vs' := [some (.ref (ad 42)), some (.int x1_), none, some (.int x3_), none, some (.int x5_), some (.int x6_), some (.int x7_), some (.int v15)]) (zSb_of _ _ ⟨rfl, ⟨rfl, ⟨rfl, ⟨rfl, ⟨rfl, ⟨rfl, ⟨rfl, trivial⟩⟩⟩⟩⟩⟩⟩) (ih x1_ x3_ x5_ x6_ x7_ v15 y13.2 _ hF hE)
        · rw [if_neg h14] at hF
          refine Z_aload_n (i := 0) (pc' := 88) dX8_through_87 rfl rfl rfl ?_
          refine Z_get (v := .ref (ad 41)) (pc' := 91) 41 zinX8 rfl (by decide) lkX8_109 (mR_obj hG) rfl dX8_through_88 rfl ?_
          refine Z_iload (i := 8) (pc' := 93) dX8_through_91 rfl rfl ?_
          obtain ⟨h16, hF⟩ := ck_of hF
          refine Z_iald (pc' := 94) (aR_41 hG) (zIn_in h16) dX8_through_93 rfl ?_
          refine Z_aload_n (i := 0) (pc' := 95) dX8_through_94 rfl rfl rfl ?_
          refine Z_get (v := .ref (ad 41)) (pc' := 98) 41 zinX8 rfl (by decide) lkX8_109 (mR_obj hG) rfl dX8_through_95 rfl ?_
          refine Z_iload (i := 5) (pc' := 100) dX8_through_98 rfl rfl ?_
          obtain ⟨h17, hF⟩ := ck_of hF
          refine Z_iald (pc' := 101) (aR_41 hG) (zIn_in h17) dX8_through_100 rfl ?_
          refine Z_iconst (v := 1) (pc' := 102) dX8_through_101 (by decide) rfl ?_
          refine Z_isub (pc' := 103) dX8_through_102 rfl ?_
          refine Z_icmp_ne (tgt := 110) (pc' := 106) dX8_through_103 (by decide) rfl (fun h18 => ?_) (fun h18 => ?_)
          · rw [if_neg h18] at hF
            obtain ⟨v19, hv19, hF⟩ := zl_of hF
            refine Z_iinc (i := 8) (v := v19) (vs' := [some (.ref (ad 42)), some (.int x1_), none, some (.int x3_), none, some (.int x5_), some (.int x6_), some (.int x7_), some (.int v19)]) (pc' := 113) dX8_through_110 rfl (by rw [hv19]; rfl) (by decide) rfl rfl ?_
            refine Z_goto (tgt := 54) dX8_through_113 (by decide) ?_
            exact Z_sub (vs' := [some (.ref (ad 42)), some (.int x1_), none, some (.int x3_), none, some (.int x5_), some (.int x6_), some (.int x7_), some (.int v19)]) (zSb_of _ _ ⟨rfl, ⟨rfl, ⟨rfl, ⟨rfl, ⟨rfl, ⟨rfl, ⟨rfl, trivial⟩⟩⟩⟩⟩⟩⟩) (ih x1_ x3_ x5_ x6_ x7_ v19 y13.2 _ hF hE)
          · rw [if_pos h18] at hF
            refine Z_iload (i := 8) (pc' := 108) dX8_through_106 rfl rfl ?_
            refine Z_istoreE (i := 7) (x' := x8_) (vs' := [some (.ref (ad 42)), some (.int x1_), none, some (.int x3_), none, some (.int x5_), some (.int x6_), some (.int x8_), some (.int x8_)]) (pc' := 110) dX8_through_108 rfl (by decide) rfl rfl ?_
            obtain ⟨v20, hv20, hF⟩ := zl_of hF
            refine Z_iinc (i := 8) (v := v20) (vs' := [some (.ref (ad 42)), some (.int x1_), none, some (.int x3_), none, some (.int x5_), some (.int x6_), some (.int x8_), some (.int v20)]) (pc' := 113) dX8_through_110 rfl (by rw [hv20]; rfl) (by decide) rfl rfl ?_
            refine Z_goto (tgt := 54) dX8_through_113 (by decide) ?_
            exact Z_sub (vs' := [some (.ref (ad 42)), some (.int x1_), none, some (.int x3_), none, some (.int x5_), some (.int x6_), some (.int x8_), some (.int v20)]) (zSb_of _ _ ⟨rfl, ⟨rfl, ⟨rfl, ⟨rfl, ⟨rfl, ⟨rfl, ⟨rfl, trivial⟩⟩⟩⟩⟩⟩⟩) (ih x1_ x3_ x5_ x6_ x8_ v20 y13.2 _ hF hE)
set_option maxHeartbeats 4000000 in
set_option maxRecDepth 100000 in
theorem qX8_through_L37 {l : Launch} {D : va_G} {M0 : zM} {Q : Option Value → zM → Prop} {ad dec : Nat → Nat} (hG : rG ad dec) : ∀ (n : Nat) (x1_ : Int32) (x3_ : Int32) (x5_ : Int32) (x6_ : Int32) (σ : zS) (r : (Int32 × zS)), r_through_L37 n x1_ x3_ x5_ x6_ σ = some r → (Z l yX8_through cX8_through 9 (some .int) rmX8_through 0 0 D M0 Q 0 0 126 [none, none, none, none, none, some (.int r.1), none, none, none] [] (mR ad dec r.2)) → Z l yX8_through cX8_through 9 (some .int) rmX8_through 0 0 D M0 Q 0 0 37 [some (.ref (ad 42)), some (.int x1_), none, some (.int x3_), none, some (.int x5_), some (.int x6_), none, none] [] (mR ad dec σ) := by
  intro n
  induction n with
  | zero =>
    intro x1_ x3_ x5_ x6_ σ r hF hE
    exact absurd (show (none : Option (Int32 × zS)) = some r from hF) (by simp)
  | succ n ih =>
    intro x1_ x3_ x5_ x6_ σ r hF hE
    replace hF : (if x3_ ≤ x6_ then some (x5_, σ) else zl ((σ 5 0) - (1 : Int32)) (fun (v8 : Int32) => ((r_through_L54 zF x1_ x3_ x5_ x6_ (-1 : Int32) v8 σ).bind (fun r9 => zl (x6_ + 1) (fun (v10 : Int32) => (r_through_L37 n x1_ x3_ r9.1 v10 r9.2)))))) = some r := hF
    refine Z_iload (i := 6) (pc' := 39) dX8_through_37 rfl rfl ?_
    refine Z_iload_n (i := 3) (pc' := 40) dX8_through_39 rfl rfl rfl ?_
    refine Z_icmp_ge (tgt := 126) (pc' := 43) dX8_through_40 (by decide) rfl (fun h7 => ?_) (fun h7 => ?_)
    · rw [if_pos h7] at hF
      cases hF
      exact Z_sub (vs' := [none, none, none, none, none, some (.int x5_), none, none, none]) (zSb_of _ _ ⟨rfl, trivial⟩) hE
    · rw [if_neg h7] at hF
      refine Z_iconst (v := -1) (pc' := 44) dX8_through_43 (by decide) rfl ?_
      refine Z_istoreE (i := 7) (x' := (-1 : Int32)) (vs' := [some (.ref (ad 42)), some (.int x1_), none, some (.int x3_), none, some (.int x5_), some (.int x6_), some (.int (-1 : Int32)), none]) (pc' := 46) dX8_through_44 rfl (by decide) rfl rfl ?_
      refine Z_aload_n (i := 0) (pc' := 47) dX8_through_46 rfl rfl rfl ?_
      refine Z_get (v := .int (σ 5 0)) (pc' := 50) 5 zinX8 rfl (by decide) lkX8_137 (mR_obj hG) rfl dX8_through_47 rfl ?_
      refine Z_iconst (v := 1) (pc' := 51) dX8_through_50 (by decide) rfl ?_
      refine Z_isub (pc' := 52) dX8_through_51 rfl ?_
      obtain ⟨v8, hv8, hF⟩ := zl_of hF
      refine Z_istoreE (i := 8) (x' := v8) (vs' := [some (.ref (ad 42)), some (.int x1_), none, some (.int x3_), none, some (.int x5_), some (.int x6_), some (.int (-1 : Int32)), some (.int v8)]) (pc' := 54) dX8_through_52 hv8 (by decide) rfl rfl ?_
      obtain ⟨r9, hr9, hF⟩ := bd_of hF
      refine Z_sub (vs' := [some (.ref (ad 42)), some (.int x1_), none, some (.int x3_), none, some (.int x5_), some (.int x6_), some (.int (-1 : Int32)), some (.int v8)]) (zSb_of _ _ ⟨rfl, ⟨rfl, ⟨rfl, ⟨rfl, ⟨rfl, ⟨rfl, ⟨rfl, trivial⟩⟩⟩⟩⟩⟩⟩) (qX8_through_L54 hG zF x1_ x3_ x5_ x6_ (-1 : Int32) v8 σ _ hr9 ?_)
      refine Z_iload (i := 7) (pc' := 118) dX8_through_116 rfl rfl ?_
      refine Z_istoreE (i := 5) (x' := r9.1) (vs' := [some (.ref (ad 42)), some (.int x1_), none, some (.int x3_), none, some (.int r9.1), some (.int x6_), some (.int r9.1), none]) (pc' := 120) dX8_through_118 rfl (by decide) rfl rfl ?_
      obtain ⟨v10, hv10, hF⟩ := zl_of hF
      refine Z_iinc (i := 6) (v := v10) (vs' := [some (.ref (ad 42)), some (.int x1_), none, some (.int x3_), none, some (.int r9.1), some (.int v10), some (.int r9.1), none]) (pc' := 123) dX8_through_120 rfl (by rw [hv10]; rfl) (by decide) rfl rfl ?_
      refine Z_goto (tgt := 37) dX8_through_123 (by decide) ?_
      exact Z_sub (vs' := [some (.ref (ad 42)), some (.int x1_), none, some (.int x3_), none, some (.int r9.1), some (.int v10), none, none]) (zSb_of _ _ ⟨rfl, ⟨rfl, ⟨rfl, ⟨rfl, ⟨rfl, trivial⟩⟩⟩⟩⟩) (ih x1_ x3_ r9.1 v10 r9.2 _ hF hE)
set_option maxHeartbeats 4000000 in
set_option maxRecDepth 100000 in
theorem qX8_through (l : Launch) {ad dec : Nat → Nat} (hG : rG ad dec) {x1 : Int32} {x2 : Int32} {x3 : Int32} {σ : zS} {w : Int32 × zS} (hF : r_through x1 x2 x3 σ = some w) : zMet l yX8_through cX8_through 9 (some .int) rmX8_through [.ref (ad 42), .int x1, .int x2, .int x3] (mR ad dec σ) (fun v M' => v = (some (.int w.1)) ∧ M' = (mR ad dec w.2)) := by
  refine zMet.ofZ (vs := [some (.ref (ad 42)), some (.int x1), some (.int x2), some (.int x3), none, none, none, none, none]) (by decide) rfl (zCt_of _ ⟨rfl, ⟨rfl, ⟨rfl, ⟨rfl, trivial⟩⟩⟩⟩) (Nat.le_of_ble_eq_true rfl) (fun D => ?_)
  unfold r_through at hF
  refine Z_aload_n (i := 0) (pc' := 1) dX8_through_0 rfl rfl rfl ?_
  refine Z_iload_n (i := 1) (pc' := 2) dX8_through_1 rfl rfl rfl ?_
  refine Z_iload_n (i := 2) (pc' := 3) dX8_through_2 rfl rfl rfl ?_
  obtain ⟨y1, hy1, hF⟩ := bd_of hF
  refine Z_callVi (As := [.int x1, .int x2]) (st := []) (pc' := 6) (k' := 0) (n' := 0) (qX8_soonest l hG hy1) ckX8_soonest kvX8_soonest mlX8_216 (mR_obj hG) rfl rfl rfl (Nat.le_of_ble_eq_true rfl) ⟨Nat.le_of_ble_eq_true rfl, Nat.le_of_ble_eq_true rfl⟩ ⟨Nat.le_of_ble_eq_true rfl, Nat.le_of_ble_eq_true rfl⟩ dX8_through_3 rfl rfl rfl ?_
  refine Z_istoreE (i := 4) (x' := y1.1) (vs' := [some (.ref (ad 42)), some (.int x1), some (.int x2), some (.int x3), some (.int y1.1), none, none, none, none]) (pc' := 8) dX8_through_6 rfl (by decide) rfl rfl ?_
  refine Z_iload (i := 4) (pc' := 10) dX8_through_8 rfl rfl ?_
  refine Z_iconst (v := -1) (pc' := 11) dX8_through_10 (by decide) rfl ?_
  refine Z_icmp_eq (tgt := 24) (pc' := 14) dX8_through_11 (by decide) rfl (fun h2 => ?_) (fun h2 => ?_)
  · rw [if_pos h2] at hF
    refine Z_iconst (v := -1) (pc' := 25) dX8_through_24 (by decide) rfl ?_
    cases hF
    exact Z_iret (ty := .int) (w := (-1 : Int32)) dX8_through_25 rfl rfl (Nat.le_refl _) (Nat.le_refl _) ⟨rfl, rfl⟩
  · rw [if_neg h2] at hF
    refine Z_iload_n (i := 3) (pc' := 15) dX8_through_14 rfl rfl rfl ?_
    refine Z_if_lt (tgt := 24) (pc' := 18) dX8_through_15 (by decide) rfl (fun h3 => ?_) (fun h3 => ?_)
    · rw [if_pos h3] at hF
      refine Z_iconst (v := -1) (pc' := 25) dX8_through_24 (by decide) rfl ?_
      cases hF
      exact Z_iret (ty := .int) (w := (-1 : Int32)) dX8_through_25 rfl rfl (Nat.le_refl _) (Nat.le_refl _) ⟨rfl, rfl⟩
    · rw [if_neg h3] at hF
      refine Z_iload_n (i := 3) (pc' := 19) dX8_through_18 rfl rfl rfl ?_
      refine Z_iload (i := 4) (pc' := 21) dX8_through_19 rfl rfl ?_
      refine Z_icmp_le (tgt := 26) (pc' := 24) dX8_through_21 (by decide) rfl (fun h4 => ?_) (fun h4 => ?_)
      · rw [if_pos h4] at hF
        refine Z_aload_n (i := 0) (pc' := 27) dX8_through_26 rfl rfl rfl ?_
        refine Z_get (v := .ref (ad 14)) (pc' := 30) 14 zinX8 rfl (by decide) lkX8_43 (mR_obj hG) rfl dX8_through_27 rfl ?_
        refine Z_iload_n (i := 1) (pc' := 31) dX8_through_30 rfl rfl rfl ?_
        obtain ⟨h5, hF⟩ := ck_of hF
        refine Z_iald (pc' := 32) (aR_14 hG) (zIn_in h5) dX8_through_31 rfl ?_
        obtain ⟨v6, hv6, hF⟩ := zl_of hF
        refine Z_istoreE (i := 5) (x' := v6) (vs' := [some (.ref (ad 42)), some (.int x1), some (.int x2), some (.int x3), some (.int y1.1), some (.int v6), none, none, none]) (pc' := 34) dX8_through_32 hv6 (by decide) rfl rfl ?_
        refine Z_iconst (v := 0) (pc' := 35) dX8_through_34 (by decide) rfl ?_
        refine Z_istoreE (i := 6) (x' := (0 : Int32)) (vs' := [some (.ref (ad 42)), some (.int x1), some (.int x2), some (.int x3), some (.int y1.1), some (.int v6), some (.int (0 : Int32)), none, none]) (pc' := 37) dX8_through_35 rfl (by decide) rfl rfl ?_
        obtain ⟨r11, hr11, hF⟩ := bd_of hF
        refine Z_sub (vs' := [some (.ref (ad 42)), some (.int x1), none, some (.int x3), none, some (.int v6), some (.int (0 : Int32)), none, none]) (zSb_of _ _ ⟨rfl, ⟨rfl, ⟨rfl, ⟨rfl, ⟨rfl, trivial⟩⟩⟩⟩⟩) (qX8_through_L37 hG zF x1 x3 v6 (0 : Int32) y1.2 _ hr11 ?_)
        refine Z_iload (i := 5) (pc' := 128) dX8_through_126 rfl rfl ?_
        cases hF
        exact Z_iret (ty := .int) (w := r11.1) dX8_through_128 rfl rfl (Nat.le_refl _) (Nat.le_refl _) ⟨rfl, rfl⟩
      · rw [if_neg h4] at hF
        refine Z_iconst (v := -1) (pc' := 25) dX8_through_24 (by decide) rfl ?_
        cases hF
        exact Z_iret (ty := .int) (w := (-1 : Int32)) dX8_through_25 rfl rfl (Nat.le_refl _) (Nat.le_refl _) ⟨rfl, rfl⟩
abbrev rmX8_look : Room := { frames := 2, cells := 0, slots := 0, locals := 42 }
def r_look_L92 : Nat → Int32 → Int32 → Int32 → zS → Option (Int32 × zS)
  | 0, _, _, _, _ => none
  | n + 1, x1_, x3_, x4_, σ => (if (σ 11 0) ≤ x4_ then some (x3_, σ) else (if zIn x4_ 24 = true then (if (σ 14 (x4_).toNatClampNeg) = x1_ then zl (x3_ + (1 : Int32)) (fun (v20 : Int32) => zl (x4_ + 1) (fun (v21 : Int32) => (r_look_L92 n x1_ v20 v21 σ))) else zl (x3_ + (0 : Int32)) (fun (v18 : Int32) => zl (x4_ + 1) (fun (v19 : Int32) => (r_look_L92 n x1_ v18 v19 σ)))) else none))
def r_look_L131 : Nat → Int32 → Int32 → Int32 → Int32 → zS → Option (Int32 × zS)
  | 0, _, _, _, _, _ => none
  | n + 1, x1_, x2_, x3_, x4_, σ => (if (σ 23 0) ≤ x4_ then some (x3_, σ) else (if x2_ = (4 : Int32) then ((r_isOpen x4_ σ).bind (fun y70 => (if y70.1 = 0 then (if x2_ = (5 : Int32) then ((r_isOpen x4_ y70.2).bind (fun y86 => (if y86.1 = 0 then (if x2_ = (6 : Int32) then ((r_isLate x4_ y86.2).bind (fun y91 => (if y91.1 = 0 then zl (x3_ + (0 : Int32)) (fun (v93 : Int32) => zl (x4_ + 1) (fun (v94 : Int32) => (r_look_L131 n x1_ x2_ v93 v94 y91.2))) else (if zIn x4_ 200 = true then (if (y91.2 24 (x4_).toNatClampNeg) = x1_ then zl (x3_ + (1 : Int32)) (fun (v99 : Int32) => zl (x4_ + 1) (fun (v100 : Int32) => (r_look_L131 n x1_ x2_ v99 v100 y91.2))) else zl (x3_ + (0 : Int32)) (fun (v97 : Int32) => zl (x4_ + 1) (fun (v98 : Int32) => (r_look_L131 n x1_ x2_ v97 v98 y91.2)))) else none)))) else zl (x3_ + (0 : Int32)) (fun (v89 : Int32) => zl (x4_ + 1) (fun (v90 : Int32) => (r_look_L131 n x1_ x2_ v89 v90 y86.2)))) else (if zIn x4_ 200 = true then (if (y86.2 25 (x4_).toNatClampNeg) = x1_ then zl (x3_ + (1 : Int32)) (fun (v103 : Int32) => zl (x4_ + 1) (fun (v104 : Int32) => (r_look_L131 n x1_ x2_ v103 v104 y86.2))) else (if x2_ = (6 : Int32) then ((r_isLate x4_ y86.2).bind (fun y108 => (if y108.1 = 0 then zl (x3_ + (0 : Int32)) (fun (v110 : Int32) => zl (x4_ + 1) (fun (v111 : Int32) => (r_look_L131 n x1_ x2_ v110 v111 y108.2))) else (if (y108.2 24 (x4_).toNatClampNeg) = x1_ then zl (x3_ + (1 : Int32)) (fun (v115 : Int32) => zl (x4_ + 1) (fun (v116 : Int32) => (r_look_L131 n x1_ x2_ v115 v116 y108.2))) else zl (x3_ + (0 : Int32)) (fun (v113 : Int32) => zl (x4_ + 1) (fun (v114 : Int32) => (r_look_L131 n x1_ x2_ v113 v114 y108.2))))))) else zl (x3_ + (0 : Int32)) (fun (v106 : Int32) => zl (x4_ + 1) (fun (v107 : Int32) => (r_look_L131 n x1_ x2_ v106 v107 y86.2))))) else none)))) else (if x2_ = (6 : Int32) then ((r_isLate x4_ y70.2).bind (fun y76 => (if y76.1 = 0 then zl (x3_ + (0 : Int32)) (fun (v78 : Int32) => zl (x4_ + 1) (fun (v79 : Int32) => (r_look_L131 n x1_ x2_ v78 v79 y76.2))) else (if zIn x4_ 200 = true then (if (y76.2 24 (x4_).toNatClampNeg) = x1_ then zl (x3_ + (1 : Int32)) (fun (v84 : Int32) => zl (x4_ + 1) (fun (v85 : Int32) => (r_look_L131 n x1_ x2_ v84 v85 y76.2))) else zl (x3_ + (0 : Int32)) (fun (v82 : Int32) => zl (x4_ + 1) (fun (v83 : Int32) => (r_look_L131 n x1_ x2_ v82 v83 y76.2)))) else none)))) else zl (x3_ + (0 : Int32)) (fun (v74 : Int32) => zl (x4_ + 1) (fun (v75 : Int32) => (r_look_L131 n x1_ x2_ v74 v75 y70.2))))) else (if zIn x4_ 200 = true then (if (y70.2 24 (x4_).toNatClampNeg) = x1_ then zl (x3_ + (1 : Int32)) (fun (v119 : Int32) => zl (x4_ + 1) (fun (v120 : Int32) => (r_look_L131 n x1_ x2_ v119 v120 y70.2))) else (if x2_ = (5 : Int32) then ((r_isOpen x4_ y70.2).bind (fun y134 => (if y134.1 = 0 then (if x2_ = (6 : Int32) then ((r_isLate x4_ y134.2).bind (fun y139 => (if y139.1 = 0 then zl (x3_ + (0 : Int32)) (fun (v141 : Int32) => zl (x4_ + 1) (fun (v142 : Int32) => (r_look_L131 n x1_ x2_ v141 v142 y139.2))) else (if (y139.2 24 (x4_).toNatClampNeg) = x1_ then zl (x3_ + (1 : Int32)) (fun (v146 : Int32) => zl (x4_ + 1) (fun (v147 : Int32) => (r_look_L131 n x1_ x2_ v146 v147 y139.2))) else zl (x3_ + (0 : Int32)) (fun (v144 : Int32) => zl (x4_ + 1) (fun (v145 : Int32) => (r_look_L131 n x1_ x2_ v144 v145 y139.2))))))) else zl (x3_ + (0 : Int32)) (fun (v137 : Int32) => zl (x4_ + 1) (fun (v138 : Int32) => (r_look_L131 n x1_ x2_ v137 v138 y134.2)))) else (if (y134.2 25 (x4_).toNatClampNeg) = x1_ then zl (x3_ + (1 : Int32)) (fun (v149 : Int32) => zl (x4_ + 1) (fun (v150 : Int32) => (r_look_L131 n x1_ x2_ v149 v150 y134.2))) else (if x2_ = (6 : Int32) then ((r_isLate x4_ y134.2).bind (fun y154 => (if y154.1 = 0 then zl (x3_ + (0 : Int32)) (fun (v156 : Int32) => zl (x4_ + 1) (fun (v157 : Int32) => (r_look_L131 n x1_ x2_ v156 v157 y154.2))) else (if (y154.2 24 (x4_).toNatClampNeg) = x1_ then zl (x3_ + (1 : Int32)) (fun (v161 : Int32) => zl (x4_ + 1) (fun (v162 : Int32) => (r_look_L131 n x1_ x2_ v161 v162 y154.2))) else zl (x3_ + (0 : Int32)) (fun (v159 : Int32) => zl (x4_ + 1) (fun (v160 : Int32) => (r_look_L131 n x1_ x2_ v159 v160 y154.2))))))) else zl (x3_ + (0 : Int32)) (fun (v152 : Int32) => zl (x4_ + 1) (fun (v153 : Int32) => (r_look_L131 n x1_ x2_ v152 v153 y134.2)))))))) else (if x2_ = (6 : Int32) then ((r_isLate x4_ y70.2).bind (fun y125 => (if y125.1 = 0 then zl (x3_ + (0 : Int32)) (fun (v127 : Int32) => zl (x4_ + 1) (fun (v128 : Int32) => (r_look_L131 n x1_ x2_ v127 v128 y125.2))) else (if (y125.2 24 (x4_).toNatClampNeg) = x1_ then zl (x3_ + (1 : Int32)) (fun (v132 : Int32) => zl (x4_ + 1) (fun (v133 : Int32) => (r_look_L131 n x1_ x2_ v132 v133 y125.2))) else zl (x3_ + (0 : Int32)) (fun (v130 : Int32) => zl (x4_ + 1) (fun (v131 : Int32) => (r_look_L131 n x1_ x2_ v130 v131 y125.2))))))) else zl (x3_ + (0 : Int32)) (fun (v123 : Int32) => zl (x4_ + 1) (fun (v124 : Int32) => (r_look_L131 n x1_ x2_ v123 v124 y70.2)))))) else none)))) else (if x2_ = (5 : Int32) then ((r_isOpen x4_ σ).bind (fun y39 => (if y39.1 = 0 then (if x2_ = (6 : Int32) then ((r_isLate x4_ y39.2).bind (fun y44 => (if y44.1 = 0 then zl (x3_ + (0 : Int32)) (fun (v46 : Int32) => zl (x4_ + 1) (fun (v47 : Int32) => (r_look_L131 n x1_ x2_ v46 v47 y44.2))) else (if zIn x4_ 200 = true then (if (y44.2 24 (x4_).toNatClampNeg) = x1_ then zl (x3_ + (1 : Int32)) (fun (v52 : Int32) => zl (x4_ + 1) (fun (v53 : Int32) => (r_look_L131 n x1_ x2_ v52 v53 y44.2))) else zl (x3_ + (0 : Int32)) (fun (v50 : Int32) => zl (x4_ + 1) (fun (v51 : Int32) => (r_look_L131 n x1_ x2_ v50 v51 y44.2)))) else none)))) else zl (x3_ + (0 : Int32)) (fun (v42 : Int32) => zl (x4_ + 1) (fun (v43 : Int32) => (r_look_L131 n x1_ x2_ v42 v43 y39.2)))) else (if zIn x4_ 200 = true then (if (y39.2 25 (x4_).toNatClampNeg) = x1_ then zl (x3_ + (1 : Int32)) (fun (v56 : Int32) => zl (x4_ + 1) (fun (v57 : Int32) => (r_look_L131 n x1_ x2_ v56 v57 y39.2))) else (if x2_ = (6 : Int32) then ((r_isLate x4_ y39.2).bind (fun y61 => (if y61.1 = 0 then zl (x3_ + (0 : Int32)) (fun (v63 : Int32) => zl (x4_ + 1) (fun (v64 : Int32) => (r_look_L131 n x1_ x2_ v63 v64 y61.2))) else (if (y61.2 24 (x4_).toNatClampNeg) = x1_ then zl (x3_ + (1 : Int32)) (fun (v68 : Int32) => zl (x4_ + 1) (fun (v69 : Int32) => (r_look_L131 n x1_ x2_ v68 v69 y61.2))) else zl (x3_ + (0 : Int32)) (fun (v66 : Int32) => zl (x4_ + 1) (fun (v67 : Int32) => (r_look_L131 n x1_ x2_ v66 v67 y61.2))))))) else zl (x3_ + (0 : Int32)) (fun (v59 : Int32) => zl (x4_ + 1) (fun (v60 : Int32) => (r_look_L131 n x1_ x2_ v59 v60 y39.2))))) else none)))) else (if x2_ = (6 : Int32) then ((r_isLate x4_ σ).bind (fun y29 => (if y29.1 = 0 then zl (x3_ + (0 : Int32)) (fun (v31 : Int32) => zl (x4_ + 1) (fun (v32 : Int32) => (r_look_L131 n x1_ x2_ v31 v32 y29.2))) else (if zIn x4_ 200 = true then (if (y29.2 24 (x4_).toNatClampNeg) = x1_ then zl (x3_ + (1 : Int32)) (fun (v37 : Int32) => zl (x4_ + 1) (fun (v38 : Int32) => (r_look_L131 n x1_ x2_ v37 v38 y29.2))) else zl (x3_ + (0 : Int32)) (fun (v35 : Int32) => zl (x4_ + 1) (fun (v36 : Int32) => (r_look_L131 n x1_ x2_ v35 v36 y29.2)))) else none)))) else zl (x3_ + (0 : Int32)) (fun (v27 : Int32) => zl (x4_ + 1) (fun (v28 : Int32) => (r_look_L131 n x1_ x2_ v27 v28 σ)))))))
def r_look_L235 : Nat → Int32 → Int32 → Int32 → zS → Option (Int32 × zS)
  | 0, _, _, _, _ => none
  | n + 1, x1_, x3_, x4_, σ => (if (σ 5 0) ≤ x4_ then some (x3_, σ) else (if zIn (((16 : Int32) * x1_) + x4_) 256 = true then (if (σ 10 (((16 : Int32) * x1_) + x4_).toNatClampNeg) = 0 then zl (x3_ + (0 : Int32)) (fun (v169 : Int32) => zl (x4_ + 1) (fun (v170 : Int32) => (r_look_L235 n x1_ v169 v170 σ))) else zl (x3_ + (1 : Int32)) (fun (v171 : Int32) => zl (x4_ + 1) (fun (v172 : Int32) => (r_look_L235 n x1_ v171 v172 σ)))) else none))
def r_look  (x1 : Int32) (x2 : Int32) (σ : zS) : Option (Int32 × zS) := ((r_isMan x1 σ).bind (fun y1 => (if y1.1 = 0 then some ((-1 : Int32), y1.2) else (if x2 = (0 : Int32) then (if zIn x1 16 = true then some ((y1.2 7 (x1).toNatClampNeg), y1.2) else none) else (if x2 = (1 : Int32) then (if zIn x1 16 = true then (if (y1.2 9 (x1).toNatClampNeg) = 0 then some ((0 : Int32), y1.2) else some ((1 : Int32), y1.2)) else none) else (if x2 = (2 : Int32) then (if zIn x1 16 = true then some ((y1.2 8 (x1).toNatClampNeg), y1.2) else none) else (if x2 = (3 : Int32) then ((r_look_L92 zF x1 (0 : Int32) (0 : Int32) y1.2).bind (fun r22 => some (r22.1, r22.2))) else (if x2 = (4 : Int32) then ((r_look_L131 zF x1 x2 (0 : Int32) (0 : Int32) y1.2).bind (fun r163 => some (r163.1, r163.2))) else (if x2 = (5 : Int32) then ((r_look_L131 zF x1 x2 (0 : Int32) (0 : Int32) y1.2).bind (fun r164 => some (r164.1, r164.2))) else (if x2 = (6 : Int32) then ((r_look_L131 zF x1 x2 (0 : Int32) (0 : Int32) y1.2).bind (fun r165 => some (r165.1, r165.2))) else (if x2 = (7 : Int32) then ((r_look_L235 zF x1 (0 : Int32) (0 : Int32) y1.2).bind (fun r173 => some (r173.1, r173.2))) else some ((-1 : Int32), y1.2))))))))))))
set_option maxHeartbeats 4000000 in
set_option maxRecDepth 100000 in
theorem qX8_look_L92 {l : Launch} {D : va_G} {M0 : zM} {Q : Option Value → zM → Prop} {ad dec : Nat → Nat} (hG : rG ad dec) : ∀ (n : Nat) (x1_ : Int32) (x3_ : Int32) (x4_ : Int32) (σ : zS) (r : (Int32 × zS)), r_look_L92 n x1_ x3_ x4_ σ = some r → (Z l yX8_look cX8_look 5 (some .int) rmX8_look 0 0 D M0 Q 0 0 126 [none, none, none, some (.int r.1), none] [] (mR ad dec r.2)) → Z l yX8_look cX8_look 5 (some .int) rmX8_look 0 0 D M0 Q 0 0 92 [some (.ref (ad 42)), some (.int x1_), none, some (.int x3_), some (.int x4_)] [] (mR ad dec σ) := by
  intro n
  induction n with
  | zero =>
    intro x1_ x3_ x4_ σ r hF hE
    exact absurd (show (none : Option (Int32 × zS)) = some r from hF) (by simp)
  | succ n ih =>
    intro x1_ x3_ x4_ σ r hF hE
    replace hF : (if (σ 11 0) ≤ x4_ then some (x3_, σ) else (if zIn x4_ 24 = true then (if (σ 14 (x4_).toNatClampNeg) = x1_ then zl (x3_ + (1 : Int32)) (fun (v20 : Int32) => zl (x4_ + 1) (fun (v21 : Int32) => (r_look_L92 n x1_ v20 v21 σ))) else zl (x3_ + (0 : Int32)) (fun (v18 : Int32) => zl (x4_ + 1) (fun (v19 : Int32) => (r_look_L92 n x1_ v18 v19 σ)))) else none)) = some r := hF
    refine Z_iload (i := 4) (pc' := 94) dX8_look_92 rfl rfl ?_
    refine Z_aload_n (i := 0) (pc' := 95) dX8_look_94 rfl rfl rfl ?_
    refine Z_get (v := .int (σ 11 0)) (pc' := 98) 11 zinX8 rfl (by decide) lkX8_150 (mR_obj hG) rfl dX8_look_95 rfl ?_
    refine Z_icmp_ge (tgt := 126) (pc' := 101) dX8_look_98 (by decide) rfl (fun h15 => ?_) (fun h15 => ?_)
    · rw [if_pos h15] at hF
      cases hF
      exact Z_sub (vs' := [none, none, none, some (.int x3_), none]) (zSb_of _ _ ⟨rfl, trivial⟩) hE
    · rw [if_neg h15] at hF
      refine Z_iload_n (i := 3) (pc' := 102) dX8_look_101 rfl rfl rfl ?_
      refine Z_aload_n (i := 0) (pc' := 103) dX8_look_102 rfl rfl rfl ?_
      refine Z_get (v := .ref (ad 14)) (pc' := 106) 14 zinX8 rfl (by decide) lkX8_43 (mR_obj hG) rfl dX8_look_103 rfl ?_
      refine Z_iload (i := 4) (pc' := 108) dX8_look_106 rfl rfl ?_
      obtain ⟨h16, hF⟩ := ck_of hF
      refine Z_iald (pc' := 109) (aR_14 hG) (zIn_in h16) dX8_look_108 rfl ?_
      refine Z_iload_n (i := 1) (pc' := 110) dX8_look_109 rfl rfl rfl ?_
      refine Z_icmp_ne (tgt := 117) (pc' := 113) dX8_look_110 (by decide) rfl (fun h17 => ?_) (fun h17 => ?_)
      · rw [if_neg h17] at hF
        refine Z_iconst (v := 0) (pc' := 118) dX8_look_117 (by decide) rfl ?_
        refine Z_iadd (pc' := 119) dX8_look_118 rfl ?_
        obtain ⟨v18, hv18, hF⟩ := zl_of hF
        refine Z_istore_nE (i := 3) (x' := v18) (vs' := [some (.ref (ad 42)), some (.int x1_), none, some (.int v18), some (.int x4_)]) (pc' := 120) dX8_look_119 rfl hv18 (by decide) rfl rfl ?_
        obtain ⟨v19, hv19, hF⟩ := zl_of hF
        refine Z_iinc (i := 4) (v := v19) (vs' := [some (.ref (ad 42)), some (.int x1_), none, some (.int v18), some (.int v19)]) (pc' := 123) dX8_look_120 rfl (by rw [hv19]; rfl) (by decide) rfl rfl ?_
        refine Z_goto (tgt := 92) dX8_look_123 (by decide) ?_
        exact Z_sub (vs' := [some (.ref (ad 42)), some (.int x1_), none, some (.int v18), some (.int v19)]) (zSb_of _ _ ⟨rfl, ⟨rfl, ⟨rfl, ⟨rfl, trivial⟩⟩⟩⟩) (ih x1_ v18 v19 σ _ hF hE)
      · rw [if_pos h17] at hF
        refine Z_iconst (v := 1) (pc' := 114) dX8_look_113 (by decide) rfl ?_
        refine Z_goto (tgt := 118) dX8_look_114 (by decide) ?_
        refine Z_iadd (pc' := 119) dX8_look_118 rfl ?_
        obtain ⟨v20, hv20, hF⟩ := zl_of hF
        refine Z_istore_nE (i := 3) (x' := v20) (vs' := [some (.ref (ad 42)), some (.int x1_), none, some (.int v20), some (.int x4_)]) (pc' := 120) dX8_look_119 rfl hv20 (by decide) rfl rfl ?_
        obtain ⟨v21, hv21, hF⟩ := zl_of hF
        refine Z_iinc (i := 4) (v := v21) (vs' := [some (.ref (ad 42)), some (.int x1_), none, some (.int v20), some (.int v21)]) (pc' := 123) dX8_look_120 rfl (by rw [hv21]; rfl) (by decide) rfl rfl ?_
        refine Z_goto (tgt := 92) dX8_look_123 (by decide) ?_
        exact Z_sub (vs' := [some (.ref (ad 42)), some (.int x1_), none, some (.int v20), some (.int v21)]) (zSb_of _ _ ⟨rfl, ⟨rfl, ⟨rfl, ⟨rfl, trivial⟩⟩⟩⟩) (ih x1_ v20 v21 σ _ hF hE)
set_option maxHeartbeats 4000000 in
set_option maxRecDepth 100000 in
theorem qX8_look_L131 {l : Launch} {D : va_G} {M0 : zM} {Q : Option Value → zM → Prop} {ad dec : Nat → Nat} (hG : rG ad dec) : ∀ (n : Nat) (x1_ : Int32) (x2_ : Int32) (x3_ : Int32) (x4_ : Int32) (σ : zS) (r : (Int32 × zS)), r_look_L131 n x1_ x2_ x3_ x4_ σ = some r → (Z l yX8_look cX8_look 5 (some .int) rmX8_look 0 0 D M0 Q 0 0 230 [none, none, none, some (.int r.1), none] [] (mR ad dec r.2)) → Z l yX8_look cX8_look 5 (some .int) rmX8_look 0 0 D M0 Q 0 0 131 [some (.ref (ad 42)), some (.int x1_), some (.int x2_), some (.int x3_), some (.int x4_)] [] (mR ad dec σ) := by
  intro n
  induction n with
  | zero =>
    intro x1_ x2_ x3_ x4_ σ r hF hE
    exact absurd (show (none : Option (Int32 × zS)) = some r from hF) (by simp)
  | succ n ih =>
    intro x1_ x2_ x3_ x4_ σ r hF hE
    replace hF : (if (σ 23 0) ≤ x4_ then some (x3_, σ) else (if x2_ = (4 : Int32) then ((r_isOpen x4_ σ).bind (fun y70 => (if y70.1 = 0 then (if x2_ = (5 : Int32) then ((r_isOpen x4_ y70.2).bind (fun y86 => (if y86.1 = 0 then (if x2_ = (6 : Int32) then ((r_isLate x4_ y86.2).bind (fun y91 => (if y91.1 = 0 then zl (x3_ + (0 : Int32)) (fun (v93 : Int32) => zl (x4_ + 1) (fun (v94 : Int32) => (r_look_L131 n x1_ x2_ v93 v94 y91.2))) else (if zIn x4_ 200 = true then (if (y91.2 24 (x4_).toNatClampNeg) = x1_ then zl (x3_ + (1 : Int32)) (fun (v99 : Int32) => zl (x4_ + 1) (fun (v100 : Int32) => (r_look_L131 n x1_ x2_ v99 v100 y91.2))) else zl (x3_ + (0 : Int32)) (fun (v97 : Int32) => zl (x4_ + 1) (fun (v98 : Int32) => (r_look_L131 n x1_ x2_ v97 v98 y91.2)))) else none)))) else zl (x3_ + (0 : Int32)) (fun (v89 : Int32) => zl (x4_ + 1) (fun (v90 : Int32) => (r_look_L131 n x1_ x2_ v89 v90 y86.2)))) else (if zIn x4_ 200 = true then (if (y86.2 25 (x4_).toNatClampNeg) = x1_ then zl (x3_ + (1 : Int32)) (fun (v103 : Int32) => zl (x4_ + 1) (fun (v104 : Int32) => (r_look_L131 n x1_ x2_ v103 v104 y86.2))) else (if x2_ = (6 : Int32) then ((r_isLate x4_ y86.2).bind (fun y108 => (if y108.1 = 0 then zl (x3_ + (0 : Int32)) (fun (v110 : Int32) => zl (x4_ + 1) (fun (v111 : Int32) => (r_look_L131 n x1_ x2_ v110 v111 y108.2))) else (if (y108.2 24 (x4_).toNatClampNeg) = x1_ then zl (x3_ + (1 : Int32)) (fun (v115 : Int32) => zl (x4_ + 1) (fun (v116 : Int32) => (r_look_L131 n x1_ x2_ v115 v116 y108.2))) else zl (x3_ + (0 : Int32)) (fun (v113 : Int32) => zl (x4_ + 1) (fun (v114 : Int32) => (r_look_L131 n x1_ x2_ v113 v114 y108.2))))))) else zl (x3_ + (0 : Int32)) (fun (v106 : Int32) => zl (x4_ + 1) (fun (v107 : Int32) => (r_look_L131 n x1_ x2_ v106 v107 y86.2))))) else none)))) else (if x2_ = (6 : Int32) then ((r_isLate x4_ y70.2).bind (fun y76 => (if y76.1 = 0 then zl (x3_ + (0 : Int32)) (fun (v78 : Int32) => zl (x4_ + 1) (fun (v79 : Int32) => (r_look_L131 n x1_ x2_ v78 v79 y76.2))) else (if zIn x4_ 200 = true then (if (y76.2 24 (x4_).toNatClampNeg) = x1_ then zl (x3_ + (1 : Int32)) (fun (v84 : Int32) => zl (x4_ + 1) (fun (v85 : Int32) => (r_look_L131 n x1_ x2_ v84 v85 y76.2))) else zl (x3_ + (0 : Int32)) (fun (v82 : Int32) => zl (x4_ + 1) (fun (v83 : Int32) => (r_look_L131 n x1_ x2_ v82 v83 y76.2)))) else none)))) else zl (x3_ + (0 : Int32)) (fun (v74 : Int32) => zl (x4_ + 1) (fun (v75 : Int32) => (r_look_L131 n x1_ x2_ v74 v75 y70.2))))) else (if zIn x4_ 200 = true then (if (y70.2 24 (x4_).toNatClampNeg) = x1_ then zl (x3_ + (1 : Int32)) (fun (v119 : Int32) => zl (x4_ + 1) (fun (v120 : Int32) => (r_look_L131 n x1_ x2_ v119 v120 y70.2))) else (if x2_ = (5 : Int32) then ((r_isOpen x4_ y70.2).bind (fun y134 => (if y134.1 = 0 then (if x2_ = (6 : Int32) then ((r_isLate x4_ y134.2).bind (fun y139 => (if y139.1 = 0 then zl (x3_ + (0 : Int32)) (fun (v141 : Int32) => zl (x4_ + 1) (fun (v142 : Int32) => (r_look_L131 n x1_ x2_ v141 v142 y139.2))) else (if (y139.2 24 (x4_).toNatClampNeg) = x1_ then zl (x3_ + (1 : Int32)) (fun (v146 : Int32) => zl (x4_ + 1) (fun (v147 : Int32) => (r_look_L131 n x1_ x2_ v146 v147 y139.2))) else zl (x3_ + (0 : Int32)) (fun (v144 : Int32) => zl (x4_ + 1) (fun (v145 : Int32) => (r_look_L131 n x1_ x2_ v144 v145 y139.2))))))) else zl (x3_ + (0 : Int32)) (fun (v137 : Int32) => zl (x4_ + 1) (fun (v138 : Int32) => (r_look_L131 n x1_ x2_ v137 v138 y134.2)))) else (if (y134.2 25 (x4_).toNatClampNeg) = x1_ then zl (x3_ + (1 : Int32)) (fun (v149 : Int32) => zl (x4_ + 1) (fun (v150 : Int32) => (r_look_L131 n x1_ x2_ v149 v150 y134.2))) else (if x2_ = (6 : Int32) then ((r_isLate x4_ y134.2).bind (fun y154 => (if y154.1 = 0 then zl (x3_ + (0 : Int32)) (fun (v156 : Int32) => zl (x4_ + 1) (fun (v157 : Int32) => (r_look_L131 n x1_ x2_ v156 v157 y154.2))) else (if (y154.2 24 (x4_).toNatClampNeg) = x1_ then zl (x3_ + (1 : Int32)) (fun (v161 : Int32) => zl (x4_ + 1) (fun (v162 : Int32) => (r_look_L131 n x1_ x2_ v161 v162 y154.2))) else zl (x3_ + (0 : Int32)) (fun (v159 : Int32) => zl (x4_ + 1) (fun (v160 : Int32) => (r_look_L131 n x1_ x2_ v159 v160 y154.2))))))) else zl (x3_ + (0 : Int32)) (fun (v152 : Int32) => zl (x4_ + 1) (fun (v153 : Int32) => (r_look_L131 n x1_ x2_ v152 v153 y134.2)))))))) else (if x2_ = (6 : Int32) then ((r_isLate x4_ y70.2).bind (fun y125 => (if y125.1 = 0 then zl (x3_ + (0 : Int32)) (fun (v127 : Int32) => zl (x4_ + 1) (fun (v128 : Int32) => (r_look_L131 n x1_ x2_ v127 v128 y125.2))) else (if (y125.2 24 (x4_).toNatClampNeg) = x1_ then zl (x3_ + (1 : Int32)) (fun (v132 : Int32) => zl (x4_ + 1) (fun (v133 : Int32) => (r_look_L131 n x1_ x2_ v132 v133 y125.2))) else zl (x3_ + (0 : Int32)) (fun (v130 : Int32) => zl (x4_ + 1) (fun (v131 : Int32) => (r_look_L131 n x1_ x2_ v130 v131 y125.2))))))) else zl (x3_ + (0 : Int32)) (fun (v123 : Int32) => zl (x4_ + 1) (fun (v124 : Int32) => (r_look_L131 n x1_ x2_ v123 v124 y70.2)))))) else none)))) else (if x2_ = (5 : Int32) then ((r_isOpen x4_ σ).bind (fun y39 => (if y39.1 = 0 then (if x2_ = (6 : Int32) then ((r_isLate x4_ y39.2).bind (fun y44 => (if y44.1 = 0 then zl (x3_ + (0 : Int32)) (fun (v46 : Int32) => zl (x4_ + 1) (fun (v47 : Int32) => (r_look_L131 n x1_ x2_ v46 v47 y44.2))) else (if zIn x4_ 200 = true then (if (y44.2 24 (x4_).toNatClampNeg) = x1_ then zl (x3_ + (1 : Int32)) (fun (v52 : Int32) => zl (x4_ + 1) (fun (v53 : Int32) => (r_look_L131 n x1_ x2_ v52 v53 y44.2))) else zl (x3_ + (0 : Int32)) (fun (v50 : Int32) => zl (x4_ + 1) (fun (v51 : Int32) => (r_look_L131 n x1_ x2_ v50 v51 y44.2)))) else none)))) else zl (x3_ + (0 : Int32)) (fun (v42 : Int32) => zl (x4_ + 1) (fun (v43 : Int32) => (r_look_L131 n x1_ x2_ v42 v43 y39.2)))) else (if zIn x4_ 200 = true then (if (y39.2 25 (x4_).toNatClampNeg) = x1_ then zl (x3_ + (1 : Int32)) (fun (v56 : Int32) => zl (x4_ + 1) (fun (v57 : Int32) => (r_look_L131 n x1_ x2_ v56 v57 y39.2))) else (if x2_ = (6 : Int32) then ((r_isLate x4_ y39.2).bind (fun y61 => (if y61.1 = 0 then zl (x3_ + (0 : Int32)) (fun (v63 : Int32) => zl (x4_ + 1) (fun (v64 : Int32) => (r_look_L131 n x1_ x2_ v63 v64 y61.2))) else (if (y61.2 24 (x4_).toNatClampNeg) = x1_ then zl (x3_ + (1 : Int32)) (fun (v68 : Int32) => zl (x4_ + 1) (fun (v69 : Int32) => (r_look_L131 n x1_ x2_ v68 v69 y61.2))) else zl (x3_ + (0 : Int32)) (fun (v66 : Int32) => zl (x4_ + 1) (fun (v67 : Int32) => (r_look_L131 n x1_ x2_ v66 v67 y61.2))))))) else zl (x3_ + (0 : Int32)) (fun (v59 : Int32) => zl (x4_ + 1) (fun (v60 : Int32) => (r_look_L131 n x1_ x2_ v59 v60 y39.2))))) else none)))) else (if x2_ = (6 : Int32) then ((r_isLate x4_ σ).bind (fun y29 => (if y29.1 = 0 then zl (x3_ + (0 : Int32)) (fun (v31 : Int32) => zl (x4_ + 1) (fun (v32 : Int32) => (r_look_L131 n x1_ x2_ v31 v32 y29.2))) else (if zIn x4_ 200 = true then (if (y29.2 24 (x4_).toNatClampNeg) = x1_ then zl (x3_ + (1 : Int32)) (fun (v37 : Int32) => zl (x4_ + 1) (fun (v38 : Int32) => (r_look_L131 n x1_ x2_ v37 v38 y29.2))) else zl (x3_ + (0 : Int32)) (fun (v35 : Int32) => zl (x4_ + 1) (fun (v36 : Int32) => (r_look_L131 n x1_ x2_ v35 v36 y29.2)))) else none)))) else zl (x3_ + (0 : Int32)) (fun (v27 : Int32) => zl (x4_ + 1) (fun (v28 : Int32) => (r_look_L131 n x1_ x2_ v27 v28 σ))))))) = some r := hF
    refine Z_iload (i := 4) (pc' := 133) dX8_look_131 rfl rfl ?_
    refine Z_aload_n (i := 0) (pc' := 134) dX8_look_133 rfl rfl rfl ?_
    refine Z_get (v := .int (σ 23 0)) (pc' := 137) 23 zinX8 rfl (by decide) lkX8_174 (mR_obj hG) rfl dX8_look_134 rfl ?_
    refine Z_icmp_ge (tgt := 230) (pc' := 140) dX8_look_137 (by decide) rfl (fun h23 => ?_) (fun h23 => ?_)
    · rw [if_pos h23] at hF
      cases hF
      exact Z_sub (vs' := [none, none, none, some (.int x3_), none]) (zSb_of _ _ ⟨rfl, trivial⟩) hE
    · rw [if_neg h23] at hF
      refine Z_iload_n (i := 3) (pc' := 141) dX8_look_140 rfl rfl rfl ?_
      refine Z_iload_n (i := 2) (pc' := 142) dX8_look_141 rfl rfl rfl ?_
      refine Z_iconst (v := 4) (pc' := 143) dX8_look_142 (by decide) rfl ?_
      refine Z_icmp_ne (tgt := 166) (pc' := 146) dX8_look_143 (by decide) rfl (fun h24 => ?_) (fun h24 => ?_)
      · rw [if_neg h24] at hF
        refine Z_iload_n (i := 2) (pc' := 167) dX8_look_166 rfl rfl rfl ?_
        refine Z_iconst (v := 5) (pc' := 168) dX8_look_167 (by decide) rfl ?_
        refine Z_icmp_ne (tgt := 191) (pc' := 171) dX8_look_168 (by decide) rfl (fun h25 => ?_) (fun h25 => ?_)
        · rw [if_neg h25] at hF
          refine Z_iload_n (i := 2) (pc' := 192) dX8_look_191 rfl rfl rfl ?_
          refine Z_bipush (v := 6) (pc' := 194) dX8_look_192 (by decide) rfl ?_
          refine Z_icmp_ne (tgt := 221) (pc' := 197) dX8_look_194 (by decide) rfl (fun h26 => ?_) (fun h26 => ?_)
          · rw [if_neg h26] at hF
            refine Z_iconst (v := 0) (pc' := 222) dX8_look_221 (by decide) rfl ?_
            refine Z_iadd (pc' := 223) dX8_look_222 rfl ?_
            obtain ⟨v27, hv27, hF⟩ := zl_of hF
            refine Z_istore_nE (i := 3) (x' := v27) (vs' := [some (.ref (ad 42)), some (.int x1_), some (.int x2_), some (.int v27), some (.int x4_)]) (pc' := 224) dX8_look_223 rfl hv27 (by decide) rfl rfl ?_
            obtain ⟨v28, hv28, hF⟩ := zl_of hF
            refine Z_iinc (i := 4) (v := v28) (vs' := [some (.ref (ad 42)), some (.int x1_), some (.int x2_), some (.int v27), some (.int v28)]) (pc' := 227) dX8_look_224 rfl (by rw [hv28]; rfl) (by decide) rfl rfl ?_
            refine Z_goto (tgt := 131) dX8_look_227 (by decide) ?_
            exact Z_sub (vs' := [some (.ref (ad 42)), some (.int x1_), some (.int x2_), some (.int v27), some (.int v28)]) (zSb_of _ _ ⟨rfl, ⟨rfl, ⟨rfl, ⟨rfl, ⟨rfl, trivial⟩⟩⟩⟩⟩) (ih x1_ x2_ v27 v28 σ _ hF hE)
          · rw [if_pos h26] at hF
            refine Z_aload_n (i := 0) (pc' := 198) dX8_look_197 rfl rfl rfl ?_
            refine Z_iload (i := 4) (pc' := 200) dX8_look_198 rfl rfl ?_
            obtain ⟨y29, hy29, hF⟩ := bd_of hF
            refine Z_callVi (As := [.int x4_]) (st := [.int x3_]) (pc' := 203) (k' := 0) (n' := 0) (qX8_isLate l hG hy29) ckX8_isLate kvX8_isLate mlX8_177 (mR_obj hG) rfl rfl rfl (Nat.le_of_ble_eq_true rfl) ⟨Nat.le_of_ble_eq_true rfl, Nat.le_of_ble_eq_true rfl⟩ ⟨Nat.le_of_ble_eq_true rfl, Nat.le_of_ble_eq_true rfl⟩ dX8_look_200 rfl rfl rfl ?_
            refine Z_if_eq (tgt := 221) (pc' := 206) dX8_look_203 (by decide) rfl (fun h30 => ?_) (fun h30 => ?_)
            · rw [if_pos h30] at hF
              refine Z_iconst (v := 0) (pc' := 222) dX8_look_221 (by decide) rfl ?_
              refine Z_iadd (pc' := 223) dX8_look_222 rfl ?_
              obtain ⟨v31, hv31, hF⟩ := zl_of hF
              refine Z_istore_nE (i := 3) (x' := v31) (vs' := [some (.ref (ad 42)), some (.int x1_), some (.int x2_), some (.int v31), some (.int x4_)]) (pc' := 224) dX8_look_223 rfl hv31 (by decide) rfl rfl ?_
              obtain ⟨v32, hv32, hF⟩ := zl_of hF
              refine Z_iinc (i := 4) (v := v32) (vs' := [some (.ref (ad 42)), some (.int x1_), some (.int x2_), some (.int v31), some (.int v32)]) (pc' := 227) dX8_look_224 rfl (by rw [hv32]; rfl) (by decide) rfl rfl ?_
              refine Z_goto (tgt := 131) dX8_look_227 (by decide) ?_
              exact Z_sub (vs' := [some (.ref (ad 42)), some (.int x1_), some (.int x2_), some (.int v31), some (.int v32)]) (zSb_of _ _ ⟨rfl, ⟨rfl, ⟨rfl, ⟨rfl, ⟨rfl, trivial⟩⟩⟩⟩⟩) (ih x1_ x2_ v31 v32 y29.2 _ hF hE)
            · rw [if_neg h30] at hF
              refine Z_aload_n (i := 0) (pc' := 207) dX8_look_206 rfl rfl rfl ?_
              refine Z_get (v := .ref (ad 24)) (pc' := 210) 24 zinX8 rfl (by decide) lkX8_70 (mR_obj hG) rfl dX8_look_207 rfl ?_
              refine Z_iload (i := 4) (pc' := 212) dX8_look_210 rfl rfl ?_
              obtain ⟨h33, hF⟩ := ck_of hF
              refine Z_iald (pc' := 213) (aR_24 hG) (zIn_in h33) dX8_look_212 rfl ?_
              refine Z_iload_n (i := 1) (pc' := 214) dX8_look_213 rfl rfl rfl ?_
              refine Z_icmp_ne (tgt := 221) (pc' := 217) dX8_look_214 (by decide) rfl (fun h34 => ?_) (fun h34 => ?_)
              · rw [if_neg h34] at hF
                refine Z_iconst (v := 0) (pc' := 222) dX8_look_221 (by decide) rfl ?_
                refine Z_iadd (pc' := 223) dX8_look_222 rfl ?_
                obtain ⟨v35, hv35, hF⟩ := zl_of hF
                refine Z_istore_nE (i := 3) (x' := v35) (vs' := [some (.ref (ad 42)), some (.int x1_), some (.int x2_), some (.int v35), some (.int x4_)]) (pc' := 224) dX8_look_223 rfl hv35 (by decide) rfl rfl ?_
                obtain ⟨v36, hv36, hF⟩ := zl_of hF
                refine Z_iinc (i := 4) (v := v36) (vs' := [some (.ref (ad 42)), some (.int x1_), some (.int x2_), some (.int v35), some (.int v36)]) (pc' := 227) dX8_look_224 rfl (by rw [hv36]; rfl) (by decide) rfl rfl ?_
                refine Z_goto (tgt := 131) dX8_look_227 (by decide) ?_
                exact Z_sub (vs' := [some (.ref (ad 42)), some (.int x1_), some (.int x2_), some (.int v35), some (.int v36)]) (zSb_of _ _ ⟨rfl, ⟨rfl, ⟨rfl, ⟨rfl, ⟨rfl, trivial⟩⟩⟩⟩⟩) (ih x1_ x2_ v35 v36 y29.2 _ hF hE)
              · rw [if_pos h34] at hF
                refine Z_iconst (v := 1) (pc' := 218) dX8_look_217 (by decide) rfl ?_
                refine Z_goto (tgt := 222) dX8_look_218 (by decide) ?_
                refine Z_iadd (pc' := 223) dX8_look_222 rfl ?_
                obtain ⟨v37, hv37, hF⟩ := zl_of hF
                refine Z_istore_nE (i := 3) (x' := v37) (vs' := [some (.ref (ad 42)), some (.int x1_), some (.int x2_), some (.int v37), some (.int x4_)]) (pc' := 224) dX8_look_223 rfl hv37 (by decide) rfl rfl ?_
                obtain ⟨v38, hv38, hF⟩ := zl_of hF
                refine Z_iinc (i := 4) (v := v38) (vs' := [some (.ref (ad 42)), some (.int x1_), some (.int x2_), some (.int v37), some (.int v38)]) (pc' := 227) dX8_look_224 rfl (by rw [hv38]; rfl) (by decide) rfl rfl ?_
                refine Z_goto (tgt := 131) dX8_look_227 (by decide) ?_
                exact Z_sub (vs' := [some (.ref (ad 42)), some (.int x1_), some (.int x2_), some (.int v37), some (.int v38)]) (zSb_of _ _ ⟨rfl, ⟨rfl, ⟨rfl, ⟨rfl, ⟨rfl, trivial⟩⟩⟩⟩⟩) (ih x1_ x2_ v37 v38 y29.2 _ hF hE)
        · rw [if_pos h25] at hF
          refine Z_aload_n (i := 0) (pc' := 172) dX8_look_171 rfl rfl rfl ?_
          refine Z_iload (i := 4) (pc' := 174) dX8_look_172 rfl rfl ?_
          obtain ⟨y39, hy39, hF⟩ := bd_of hF
          refine Z_callVi (As := [.int x4_]) (st := [.int x3_]) (pc' := 177) (k' := 0) (n' := 0) (qX8_isOpen l hG hy39) ckX8_isOpen kvX8_isOpen mlX8_171 (mR_obj hG) rfl rfl rfl (Nat.le_of_ble_eq_true rfl) ⟨Nat.le_of_ble_eq_true rfl, Nat.le_of_ble_eq_true rfl⟩ ⟨Nat.le_of_ble_eq_true rfl, Nat.le_of_ble_eq_true rfl⟩ dX8_look_174 rfl rfl rfl ?_
          refine Z_if_eq (tgt := 191) (pc' := 180) dX8_look_177 (by decide) rfl (fun h40 => ?_) (fun h40 => ?_)
          · rw [if_pos h40] at hF
            refine Z_iload_n (i := 2) (pc' := 192) dX8_look_191 rfl rfl rfl ?_
            refine Z_bipush (v := 6) (pc' := 194) dX8_look_192 (by decide) rfl ?_
            refine Z_icmp_ne (tgt := 221) (pc' := 197) dX8_look_194 (by decide) rfl (fun h41 => ?_) (fun h41 => ?_)
            · rw [if_neg h41] at hF
              refine Z_iconst (v := 0) (pc' := 222) dX8_look_221 (by decide) rfl ?_
              refine Z_iadd (pc' := 223) dX8_look_222 rfl ?_
              obtain ⟨v42, hv42, hF⟩ := zl_of hF
              refine Z_istore_nE (i := 3) (x' := v42) (vs' := [some (.ref (ad 42)), some (.int x1_), some (.int x2_), some (.int v42), some (.int x4_)]) (pc' := 224) dX8_look_223 rfl hv42 (by decide) rfl rfl ?_
              obtain ⟨v43, hv43, hF⟩ := zl_of hF
              refine Z_iinc (i := 4) (v := v43) (vs' := [some (.ref (ad 42)), some (.int x1_), some (.int x2_), some (.int v42), some (.int v43)]) (pc' := 227) dX8_look_224 rfl (by rw [hv43]; rfl) (by decide) rfl rfl ?_
              refine Z_goto (tgt := 131) dX8_look_227 (by decide) ?_
              exact Z_sub (vs' := [some (.ref (ad 42)), some (.int x1_), some (.int x2_), some (.int v42), some (.int v43)]) (zSb_of _ _ ⟨rfl, ⟨rfl, ⟨rfl, ⟨rfl, ⟨rfl, trivial⟩⟩⟩⟩⟩) (ih x1_ x2_ v42 v43 y39.2 _ hF hE)
            · rw [if_pos h41] at hF
              refine Z_aload_n (i := 0) (pc' := 198) dX8_look_197 rfl rfl rfl ?_
              refine Z_iload (i := 4) (pc' := 200) dX8_look_198 rfl rfl ?_
              obtain ⟨y44, hy44, hF⟩ := bd_of hF
              refine Z_callVi (As := [.int x4_]) (st := [.int x3_]) (pc' := 203) (k' := 0) (n' := 0) (qX8_isLate l hG hy44) ckX8_isLate kvX8_isLate mlX8_177 (mR_obj hG) rfl rfl rfl (Nat.le_of_ble_eq_true rfl) ⟨Nat.le_of_ble_eq_true rfl, Nat.le_of_ble_eq_true rfl⟩ ⟨Nat.le_of_ble_eq_true rfl, Nat.le_of_ble_eq_true rfl⟩ dX8_look_200 rfl rfl rfl ?_
              refine Z_if_eq (tgt := 221) (pc' := 206) dX8_look_203 (by decide) rfl (fun h45 => ?_) (fun h45 => ?_)
              · rw [if_pos h45] at hF
                refine Z_iconst (v := 0) (pc' := 222) dX8_look_221 (by decide) rfl ?_
                refine Z_iadd (pc' := 223) dX8_look_222 rfl ?_
                obtain ⟨v46, hv46, hF⟩ := zl_of hF
                refine Z_istore_nE (i := 3) (x' := v46) (vs' := [some (.ref (ad 42)), some (.int x1_), some (.int x2_), some (.int v46), some (.int x4_)]) (pc' := 224) dX8_look_223 rfl hv46 (by decide) rfl rfl ?_
                obtain ⟨v47, hv47, hF⟩ := zl_of hF
                refine Z_iinc (i := 4) (v := v47) (vs' := [some (.ref (ad 42)), some (.int x1_), some (.int x2_), some (.int v46), some (.int v47)]) (pc' := 227) dX8_look_224 rfl (by rw [hv47]; rfl) (by decide) rfl rfl ?_
                refine Z_goto (tgt := 131) dX8_look_227 (by decide) ?_
                exact Z_sub (vs' := [some (.ref (ad 42)), some (.int x1_), some (.int x2_), some (.int v46), some (.int v47)]) (zSb_of _ _ ⟨rfl, ⟨rfl, ⟨rfl, ⟨rfl, ⟨rfl, trivial⟩⟩⟩⟩⟩) (ih x1_ x2_ v46 v47 y44.2 _ hF hE)
              · rw [if_neg h45] at hF
                refine Z_aload_n (i := 0) (pc' := 207) dX8_look_206 rfl rfl rfl ?_
                refine Z_get (v := .ref (ad 24)) (pc' := 210) 24 zinX8 rfl (by decide) lkX8_70 (mR_obj hG) rfl dX8_look_207 rfl ?_
                refine Z_iload (i := 4) (pc' := 212) dX8_look_210 rfl rfl ?_
                obtain ⟨h48, hF⟩ := ck_of hF
                refine Z_iald (pc' := 213) (aR_24 hG) (zIn_in h48) dX8_look_212 rfl ?_
                refine Z_iload_n (i := 1) (pc' := 214) dX8_look_213 rfl rfl rfl ?_
                refine Z_icmp_ne (tgt := 221) (pc' := 217) dX8_look_214 (by decide) rfl (fun h49 => ?_) (fun h49 => ?_)
                · rw [if_neg h49] at hF
                  refine Z_iconst (v := 0) (pc' := 222) dX8_look_221 (by decide) rfl ?_
                  refine Z_iadd (pc' := 223) dX8_look_222 rfl ?_
                  obtain ⟨v50, hv50, hF⟩ := zl_of hF
                  refine Z_istore_nE (i := 3) (x' := v50) (vs' := [some (.ref (ad 42)), some (.int x1_), some (.int x2_), some (.int v50), some (.int x4_)]) (pc' := 224) dX8_look_223 rfl hv50 (by decide) rfl rfl ?_
                  obtain ⟨v51, hv51, hF⟩ := zl_of hF
                  refine Z_iinc (i := 4) (v := v51) (vs' := [some (.ref (ad 42)), some (.int x1_), some (.int x2_), some (.int v50), some (.int v51)]) (pc' := 227) dX8_look_224 rfl (by rw [hv51]; rfl) (by decide) rfl rfl ?_
                  refine Z_goto (tgt := 131) dX8_look_227 (by decide) ?_
                  exact Z_sub (vs' := [some (.ref (ad 42)), some (.int x1_), some (.int x2_), some (.int v50), some (.int v51)]) (zSb_of _ _ ⟨rfl, ⟨rfl, ⟨rfl, ⟨rfl, ⟨rfl, trivial⟩⟩⟩⟩⟩) (ih x1_ x2_ v50 v51 y44.2 _ hF hE)
                · rw [if_pos h49] at hF
                  refine Z_iconst (v := 1) (pc' := 218) dX8_look_217 (by decide) rfl ?_
                  refine Z_goto (tgt := 222) dX8_look_218 (by decide) ?_
                  refine Z_iadd (pc' := 223) dX8_look_222 rfl ?_
                  obtain ⟨v52, hv52, hF⟩ := zl_of hF
                  refine Z_istore_nE (i := 3) (x' := v52) (vs' := [some (.ref (ad 42)), some (.int x1_), some (.int x2_), some (.int v52), some (.int x4_)]) (pc' := 224) dX8_look_223 rfl hv52 (by decide) rfl rfl ?_
                  obtain ⟨v53, hv53, hF⟩ := zl_of hF
                  refine Z_iinc (i := 4) (v := v53) (vs' := [some (.ref (ad 42)), some (.int x1_), some (.int x2_), some (.int v52), some (.int v53)]) (pc' := 227) dX8_look_224 rfl (by rw [hv53]; rfl) (by decide) rfl rfl ?_
                  refine Z_goto (tgt := 131) dX8_look_227 (by decide) ?_
                  exact Z_sub (vs' := [some (.ref (ad 42)), some (.int x1_), some (.int x2_), some (.int v52), some (.int v53)]) (zSb_of _ _ ⟨rfl, ⟨rfl, ⟨rfl, ⟨rfl, ⟨rfl, trivial⟩⟩⟩⟩⟩) (ih x1_ x2_ v52 v53 y44.2 _ hF hE)
          · rw [if_neg h40] at hF
            refine Z_aload_n (i := 0) (pc' := 181) dX8_look_180 rfl rfl rfl ?_
            refine Z_get (v := .ref (ad 25)) (pc' := 184) 25 zinX8 rfl (by decide) lkX8_73 (mR_obj hG) rfl dX8_look_181 rfl ?_
            refine Z_iload (i := 4) (pc' := 186) dX8_look_184 rfl rfl ?_
            obtain ⟨h54, hF⟩ := ck_of hF
            refine Z_iald (pc' := 187) (aR_25 hG) (zIn_in h54) dX8_look_186 rfl ?_
            refine Z_iload_n (i := 1) (pc' := 188) dX8_look_187 rfl rfl rfl ?_
            refine Z_icmp_eq (tgt := 217) (pc' := 191) dX8_look_188 (by decide) rfl (fun h55 => ?_) (fun h55 => ?_)
            · rw [if_pos h55] at hF
              refine Z_iconst (v := 1) (pc' := 218) dX8_look_217 (by decide) rfl ?_
              refine Z_goto (tgt := 222) dX8_look_218 (by decide) ?_
              refine Z_iadd (pc' := 223) dX8_look_222 rfl ?_
              obtain ⟨v56, hv56, hF⟩ := zl_of hF
              refine Z_istore_nE (i := 3) (x' := v56) (vs' := [some (.ref (ad 42)), some (.int x1_), some (.int x2_), some (.int v56), some (.int x4_)]) (pc' := 224) dX8_look_223 rfl hv56 (by decide) rfl rfl ?_
              obtain ⟨v57, hv57, hF⟩ := zl_of hF
              refine Z_iinc (i := 4) (v := v57) (vs' := [some (.ref (ad 42)), some (.int x1_), some (.int x2_), some (.int v56), some (.int v57)]) (pc' := 227) dX8_look_224 rfl (by rw [hv57]; rfl) (by decide) rfl rfl ?_
              refine Z_goto (tgt := 131) dX8_look_227 (by decide) ?_
              exact Z_sub (vs' := [some (.ref (ad 42)), some (.int x1_), some (.int x2_), some (.int v56), some (.int v57)]) (zSb_of _ _ ⟨rfl, ⟨rfl, ⟨rfl, ⟨rfl, ⟨rfl, trivial⟩⟩⟩⟩⟩) (ih x1_ x2_ v56 v57 y39.2 _ hF hE)
            · rw [if_neg h55] at hF
              refine Z_iload_n (i := 2) (pc' := 192) dX8_look_191 rfl rfl rfl ?_
              refine Z_bipush (v := 6) (pc' := 194) dX8_look_192 (by decide) rfl ?_
              refine Z_icmp_ne (tgt := 221) (pc' := 197) dX8_look_194 (by decide) rfl (fun h58 => ?_) (fun h58 => ?_)
              · rw [if_neg h58] at hF
                refine Z_iconst (v := 0) (pc' := 222) dX8_look_221 (by decide) rfl ?_
                refine Z_iadd (pc' := 223) dX8_look_222 rfl ?_
                obtain ⟨v59, hv59, hF⟩ := zl_of hF
                refine Z_istore_nE (i := 3) (x' := v59) (vs' := [some (.ref (ad 42)), some (.int x1_), some (.int x2_), some (.int v59), some (.int x4_)]) (pc' := 224) dX8_look_223 rfl hv59 (by decide) rfl rfl ?_
                obtain ⟨v60, hv60, hF⟩ := zl_of hF
                refine Z_iinc (i := 4) (v := v60) (vs' := [some (.ref (ad 42)), some (.int x1_), some (.int x2_), some (.int v59), some (.int v60)]) (pc' := 227) dX8_look_224 rfl (by rw [hv60]; rfl) (by decide) rfl rfl ?_
                refine Z_goto (tgt := 131) dX8_look_227 (by decide) ?_
                exact Z_sub (vs' := [some (.ref (ad 42)), some (.int x1_), some (.int x2_), some (.int v59), some (.int v60)]) (zSb_of _ _ ⟨rfl, ⟨rfl, ⟨rfl, ⟨rfl, ⟨rfl, trivial⟩⟩⟩⟩⟩) (ih x1_ x2_ v59 v60 y39.2 _ hF hE)
              · rw [if_pos h58] at hF
                refine Z_aload_n (i := 0) (pc' := 198) dX8_look_197 rfl rfl rfl ?_
                refine Z_iload (i := 4) (pc' := 200) dX8_look_198 rfl rfl ?_
                obtain ⟨y61, hy61, hF⟩ := bd_of hF
                refine Z_callVi (As := [.int x4_]) (st := [.int x3_]) (pc' := 203) (k' := 0) (n' := 0) (qX8_isLate l hG hy61) ckX8_isLate kvX8_isLate mlX8_177 (mR_obj hG) rfl rfl rfl (Nat.le_of_ble_eq_true rfl) ⟨Nat.le_of_ble_eq_true rfl, Nat.le_of_ble_eq_true rfl⟩ ⟨Nat.le_of_ble_eq_true rfl, Nat.le_of_ble_eq_true rfl⟩ dX8_look_200 rfl rfl rfl ?_
                refine Z_if_eq (tgt := 221) (pc' := 206) dX8_look_203 (by decide) rfl (fun h62 => ?_) (fun h62 => ?_)
                · rw [if_pos h62] at hF
                  refine Z_iconst (v := 0) (pc' := 222) dX8_look_221 (by decide) rfl ?_
                  refine Z_iadd (pc' := 223) dX8_look_222 rfl ?_
                  obtain ⟨v63, hv63, hF⟩ := zl_of hF
                  refine Z_istore_nE (i := 3) (x' := v63) (vs' := [some (.ref (ad 42)), some (.int x1_), some (.int x2_), some (.int v63), some (.int x4_)]) (pc' := 224) dX8_look_223 rfl hv63 (by decide) rfl rfl ?_
                  obtain ⟨v64, hv64, hF⟩ := zl_of hF
                  refine Z_iinc (i := 4) (v := v64) (vs' := [some (.ref (ad 42)), some (.int x1_), some (.int x2_), some (.int v63), some (.int v64)]) (pc' := 227) dX8_look_224 rfl (by rw [hv64]; rfl) (by decide) rfl rfl ?_
                  refine Z_goto (tgt := 131) dX8_look_227 (by decide) ?_
                  exact Z_sub (vs' := [some (.ref (ad 42)), some (.int x1_), some (.int x2_), some (.int v63), some (.int v64)]) (zSb_of _ _ ⟨rfl, ⟨rfl, ⟨rfl, ⟨rfl, ⟨rfl, trivial⟩⟩⟩⟩⟩) (ih x1_ x2_ v63 v64 y61.2 _ hF hE)
                · rw [if_neg h62] at hF
                  refine Z_aload_n (i := 0) (pc' := 207) dX8_look_206 rfl rfl rfl ?_
                  refine Z_get (v := .ref (ad 24)) (pc' := 210) 24 zinX8 rfl (by decide) lkX8_70 (mR_obj hG) rfl dX8_look_207 rfl ?_
                  refine Z_iload (i := 4) (pc' := 212) dX8_look_210 rfl rfl ?_
                  refine Z_iald (pc' := 213) (aR_24 hG) (zIn_in h54) dX8_look_212 rfl ?_
                  refine Z_iload_n (i := 1) (pc' := 214) dX8_look_213 rfl rfl rfl ?_
                  refine Z_icmp_ne (tgt := 221) (pc' := 217) dX8_look_214 (by decide) rfl (fun h65 => ?_) (fun h65 => ?_)
                  · rw [if_neg h65] at hF
                    refine Z_iconst (v := 0) (pc' := 222) dX8_look_221 (by decide) rfl ?_
                    refine Z_iadd (pc' := 223) dX8_look_222 rfl ?_
                    obtain ⟨v66, hv66, hF⟩ := zl_of hF
                    refine Z_istore_nE (i := 3) (x' := v66) (vs' := [some (.ref (ad 42)), some (.int x1_), some (.int x2_), some (.int v66), some (.int x4_)]) (pc' := 224) dX8_look_223 rfl hv66 (by decide) rfl rfl ?_
                    obtain ⟨v67, hv67, hF⟩ := zl_of hF
                    refine Z_iinc (i := 4) (v := v67) (vs' := [some (.ref (ad 42)), some (.int x1_), some (.int x2_), some (.int v66), some (.int v67)]) (pc' := 227) dX8_look_224 rfl (by rw [hv67]; rfl) (by decide) rfl rfl ?_
                    refine Z_goto (tgt := 131) dX8_look_227 (by decide) ?_
                    exact Z_sub (vs' := [some (.ref (ad 42)), some (.int x1_), some (.int x2_), some (.int v66), some (.int v67)]) (zSb_of _ _ ⟨rfl, ⟨rfl, ⟨rfl, ⟨rfl, ⟨rfl, trivial⟩⟩⟩⟩⟩) (ih x1_ x2_ v66 v67 y61.2 _ hF hE)
                  · rw [if_pos h65] at hF
                    refine Z_iconst (v := 1) (pc' := 218) dX8_look_217 (by decide) rfl ?_
                    refine Z_goto (tgt := 222) dX8_look_218 (by decide) ?_
                    refine Z_iadd (pc' := 223) dX8_look_222 rfl ?_
                    obtain ⟨v68, hv68, hF⟩ := zl_of hF
                    refine Z_istore_nE (i := 3) (x' := v68) (vs' := [some (.ref (ad 42)), some (.int x1_), some (.int x2_), some (.int v68), some (.int x4_)]) (pc' := 224) dX8_look_223 rfl hv68 (by decide) rfl rfl ?_
                    obtain ⟨v69, hv69, hF⟩ := zl_of hF
                    refine Z_iinc (i := 4) (v := v69) (vs' := [some (.ref (ad 42)), some (.int x1_), some (.int x2_), some (.int v68), some (.int v69)]) (pc' := 227) dX8_look_224 rfl (by rw [hv69]; rfl) (by decide) rfl rfl ?_
                    refine Z_goto (tgt := 131) dX8_look_227 (by decide) ?_
                    exact Z_sub (vs' := [some (.ref (ad 42)), some (.int x1_), some (.int x2_), some (.int v68), some (.int v69)]) (zSb_of _ _ ⟨rfl, ⟨rfl, ⟨rfl, ⟨rfl, ⟨rfl, trivial⟩⟩⟩⟩⟩) (ih x1_ x2_ v68 v69 y61.2 _ hF hE)
      · rw [if_pos h24] at hF
        refine Z_aload_n (i := 0) (pc' := 147) dX8_look_146 rfl rfl rfl ?_
        refine Z_iload (i := 4) (pc' := 149) dX8_look_147 rfl rfl ?_
        obtain ⟨y70, hy70, hF⟩ := bd_of hF
        refine Z_callVi (As := [.int x4_]) (st := [.int x3_]) (pc' := 152) (k' := 0) (n' := 0) (qX8_isOpen l hG hy70) ckX8_isOpen kvX8_isOpen mlX8_171 (mR_obj hG) rfl rfl rfl (Nat.le_of_ble_eq_true rfl) ⟨Nat.le_of_ble_eq_true rfl, Nat.le_of_ble_eq_true rfl⟩ ⟨Nat.le_of_ble_eq_true rfl, Nat.le_of_ble_eq_true rfl⟩ dX8_look_149 rfl rfl rfl ?_
        refine Z_if_eq (tgt := 166) (pc' := 155) dX8_look_152 (by decide) rfl (fun h71 => ?_) (fun h71 => ?_)
        · rw [if_pos h71] at hF
          refine Z_iload_n (i := 2) (pc' := 167) dX8_look_166 rfl rfl rfl ?_
          refine Z_iconst (v := 5) (pc' := 168) dX8_look_167 (by decide) rfl ?_
          refine Z_icmp_ne (tgt := 191) (pc' := 171) dX8_look_168 (by decide) rfl (fun h72 => ?_) (fun h72 => ?_)
          · rw [if_neg h72] at hF
            refine Z_iload_n (i := 2) (pc' := 192) dX8_look_191 rfl rfl rfl ?_
            refine Z_bipush (v := 6) (pc' := 194) dX8_look_192 (by decide) rfl ?_
            refine Z_icmp_ne (tgt := 221) (pc' := 197) dX8_look_194 (by decide) rfl (fun h73 => ?_) (fun h73 => ?_)
            · rw [if_neg h73] at hF
              refine Z_iconst (v := 0) (pc' := 222) dX8_look_221 (by decide) rfl ?_
              refine Z_iadd (pc' := 223) dX8_look_222 rfl ?_
              obtain ⟨v74, hv74, hF⟩ := zl_of hF
              refine Z_istore_nE (i := 3) (x' := v74) (vs' := [some (.ref (ad 42)), some (.int x1_), some (.int x2_), some (.int v74), some (.int x4_)]) (pc' := 224) dX8_look_223 rfl hv74 (by decide) rfl rfl ?_
              obtain ⟨v75, hv75, hF⟩ := zl_of hF
              refine Z_iinc (i := 4) (v := v75) (vs' := [some (.ref (ad 42)), some (.int x1_), some (.int x2_), some (.int v74), some (.int v75)]) (pc' := 227) dX8_look_224 rfl (by rw [hv75]; rfl) (by decide) rfl rfl ?_
              refine Z_goto (tgt := 131) dX8_look_227 (by decide) ?_
              exact Z_sub (vs' := [some (.ref (ad 42)), some (.int x1_), some (.int x2_), some (.int v74), some (.int v75)]) (zSb_of _ _ ⟨rfl, ⟨rfl, ⟨rfl, ⟨rfl, ⟨rfl, trivial⟩⟩⟩⟩⟩) (ih x1_ x2_ v74 v75 y70.2 _ hF hE)
            · rw [if_pos h73] at hF
              refine Z_aload_n (i := 0) (pc' := 198) dX8_look_197 rfl rfl rfl ?_
              refine Z_iload (i := 4) (pc' := 200) dX8_look_198 rfl rfl ?_
              obtain ⟨y76, hy76, hF⟩ := bd_of hF
              refine Z_callVi (As := [.int x4_]) (st := [.int x3_]) (pc' := 203) (k' := 0) (n' := 0) (qX8_isLate l hG hy76) ckX8_isLate kvX8_isLate mlX8_177 (mR_obj hG) rfl rfl rfl (Nat.le_of_ble_eq_true rfl) ⟨Nat.le_of_ble_eq_true rfl, Nat.le_of_ble_eq_true rfl⟩ ⟨Nat.le_of_ble_eq_true rfl, Nat.le_of_ble_eq_true rfl⟩ dX8_look_200 rfl rfl rfl ?_
              refine Z_if_eq (tgt := 221) (pc' := 206) dX8_look_203 (by decide) rfl (fun h77 => ?_) (fun h77 => ?_)
              · rw [if_pos h77] at hF
                refine Z_iconst (v := 0) (pc' := 222) dX8_look_221 (by decide) rfl ?_
                refine Z_iadd (pc' := 223) dX8_look_222 rfl ?_
                obtain ⟨v78, hv78, hF⟩ := zl_of hF
                refine Z_istore_nE (i := 3) (x' := v78) (vs' := [some (.ref (ad 42)), some (.int x1_), some (.int x2_), some (.int v78), some (.int x4_)]) (pc' := 224) dX8_look_223 rfl hv78 (by decide) rfl rfl ?_
                obtain ⟨v79, hv79, hF⟩ := zl_of hF
                refine Z_iinc (i := 4) (v := v79) (vs' := [some (.ref (ad 42)), some (.int x1_), some (.int x2_), some (.int v78), some (.int v79)]) (pc' := 227) dX8_look_224 rfl (by rw [hv79]; rfl) (by decide) rfl rfl ?_
                refine Z_goto (tgt := 131) dX8_look_227 (by decide) ?_
                exact Z_sub (vs' := [some (.ref (ad 42)), some (.int x1_), some (.int x2_), some (.int v78), some (.int v79)]) (zSb_of _ _ ⟨rfl, ⟨rfl, ⟨rfl, ⟨rfl, ⟨rfl, trivial⟩⟩⟩⟩⟩) (ih x1_ x2_ v78 v79 y76.2 _ hF hE)
              · rw [if_neg h77] at hF
                refine Z_aload_n (i := 0) (pc' := 207) dX8_look_206 rfl rfl rfl ?_
                refine Z_get (v := .ref (ad 24)) (pc' := 210) 24 zinX8 rfl (by decide) lkX8_70 (mR_obj hG) rfl dX8_look_207 rfl ?_
                refine Z_iload (i := 4) (pc' := 212) dX8_look_210 rfl rfl ?_
                obtain ⟨h80, hF⟩ := ck_of hF
                refine Z_iald (pc' := 213) (aR_24 hG) (zIn_in h80) dX8_look_212 rfl ?_
                refine Z_iload_n (i := 1) (pc' := 214) dX8_look_213 rfl rfl rfl ?_
                refine Z_icmp_ne (tgt := 221) (pc' := 217) dX8_look_214 (by decide) rfl (fun h81 => ?_) (fun h81 => ?_)
                · rw [if_neg h81] at hF
                  refine Z_iconst (v := 0) (pc' := 222) dX8_look_221 (by decide) rfl ?_
                  refine Z_iadd (pc' := 223) dX8_look_222 rfl ?_
                  obtain ⟨v82, hv82, hF⟩ := zl_of hF
                  refine Z_istore_nE (i := 3) (x' := v82) (vs' := [some (.ref (ad 42)), some (.int x1_), some (.int x2_), some (.int v82), some (.int x4_)]) (pc' := 224) dX8_look_223 rfl hv82 (by decide) rfl rfl ?_
                  obtain ⟨v83, hv83, hF⟩ := zl_of hF
                  refine Z_iinc (i := 4) (v := v83) (vs' := [some (.ref (ad 42)), some (.int x1_), some (.int x2_), some (.int v82), some (.int v83)]) (pc' := 227) dX8_look_224 rfl (by rw [hv83]; rfl) (by decide) rfl rfl ?_
                  refine Z_goto (tgt := 131) dX8_look_227 (by decide) ?_
                  exact Z_sub (vs' := [some (.ref (ad 42)), some (.int x1_), some (.int x2_), some (.int v82), some (.int v83)]) (zSb_of _ _ ⟨rfl, ⟨rfl, ⟨rfl, ⟨rfl, ⟨rfl, trivial⟩⟩⟩⟩⟩) (ih x1_ x2_ v82 v83 y76.2 _ hF hE)
                · rw [if_pos h81] at hF
                  refine Z_iconst (v := 1) (pc' := 218) dX8_look_217 (by decide) rfl ?_
                  refine Z_goto (tgt := 222) dX8_look_218 (by decide) ?_
                  refine Z_iadd (pc' := 223) dX8_look_222 rfl ?_
                  obtain ⟨v84, hv84, hF⟩ := zl_of hF
                  refine Z_istore_nE (i := 3) (x' := v84) (vs' := [some (.ref (ad 42)), some (.int x1_), some (.int x2_), some (.int v84), some (.int x4_)]) (pc' := 224) dX8_look_223 rfl hv84 (by decide) rfl rfl ?_
                  obtain ⟨v85, hv85, hF⟩ := zl_of hF
                  refine Z_iinc (i := 4) (v := v85) (vs' := [some (.ref (ad 42)), some (.int x1_), some (.int x2_), some (.int v84), some (.int v85)]) (pc' := 227) dX8_look_224 rfl (by rw [hv85]; rfl) (by decide) rfl rfl ?_
                  refine Z_goto (tgt := 131) dX8_look_227 (by decide) ?_
                  exact Z_sub (vs' := [some (.ref (ad 42)), some (.int x1_), some (.int x2_), some (.int v84), some (.int v85)]) (zSb_of _ _ ⟨rfl, ⟨rfl, ⟨rfl, ⟨rfl, ⟨rfl, trivial⟩⟩⟩⟩⟩) (ih x1_ x2_ v84 v85 y76.2 _ hF hE)
          · rw [if_pos h72] at hF
            refine Z_aload_n (i := 0) (pc' := 172) dX8_look_171 rfl rfl rfl ?_
            refine Z_iload (i := 4) (pc' := 174) dX8_look_172 rfl rfl ?_
            obtain ⟨y86, hy86, hF⟩ := bd_of hF
            refine Z_callVi (As := [.int x4_]) (st := [.int x3_]) (pc' := 177) (k' := 0) (n' := 0) (qX8_isOpen l hG hy86) ckX8_isOpen kvX8_isOpen mlX8_171 (mR_obj hG) rfl rfl rfl (Nat.le_of_ble_eq_true rfl) ⟨Nat.le_of_ble_eq_true rfl, Nat.le_of_ble_eq_true rfl⟩ ⟨Nat.le_of_ble_eq_true rfl, Nat.le_of_ble_eq_true rfl⟩ dX8_look_174 rfl rfl rfl ?_
            refine Z_if_eq (tgt := 191) (pc' := 180) dX8_look_177 (by decide) rfl (fun h87 => ?_) (fun h87 => ?_)
            · rw [if_pos h87] at hF
              refine Z_iload_n (i := 2) (pc' := 192) dX8_look_191 rfl rfl rfl ?_
              refine Z_bipush (v := 6) (pc' := 194) dX8_look_192 (by decide) rfl ?_
              refine Z_icmp_ne (tgt := 221) (pc' := 197) dX8_look_194 (by decide) rfl (fun h88 => ?_) (fun h88 => ?_)
              · rw [if_neg h88] at hF
                refine Z_iconst (v := 0) (pc' := 222) dX8_look_221 (by decide) rfl ?_
                refine Z_iadd (pc' := 223) dX8_look_222 rfl ?_
                obtain ⟨v89, hv89, hF⟩ := zl_of hF
                refine Z_istore_nE (i := 3) (x' := v89) (vs' := [some (.ref (ad 42)), some (.int x1_), some (.int x2_), some (.int v89), some (.int x4_)]) (pc' := 224) dX8_look_223 rfl hv89 (by decide) rfl rfl ?_
                obtain ⟨v90, hv90, hF⟩ := zl_of hF
                refine Z_iinc (i := 4) (v := v90) (vs' := [some (.ref (ad 42)), some (.int x1_), some (.int x2_), some (.int v89), some (.int v90)]) (pc' := 227) dX8_look_224 rfl (by rw [hv90]; rfl) (by decide) rfl rfl ?_
                refine Z_goto (tgt := 131) dX8_look_227 (by decide) ?_
                exact Z_sub (vs' := [some (.ref (ad 42)), some (.int x1_), some (.int x2_), some (.int v89), some (.int v90)]) (zSb_of _ _ ⟨rfl, ⟨rfl, ⟨rfl, ⟨rfl, ⟨rfl, trivial⟩⟩⟩⟩⟩) (ih x1_ x2_ v89 v90 y86.2 _ hF hE)
              · rw [if_pos h88] at hF
                refine Z_aload_n (i := 0) (pc' := 198) dX8_look_197 rfl rfl rfl ?_
                refine Z_iload (i := 4) (pc' := 200) dX8_look_198 rfl rfl ?_
                obtain ⟨y91, hy91, hF⟩ := bd_of hF
                refine Z_callVi (As := [.int x4_]) (st := [.int x3_]) (pc' := 203) (k' := 0) (n' := 0) (qX8_isLate l hG hy91) ckX8_isLate kvX8_isLate mlX8_177 (mR_obj hG) rfl rfl rfl (Nat.le_of_ble_eq_true rfl) ⟨Nat.le_of_ble_eq_true rfl, Nat.le_of_ble_eq_true rfl⟩ ⟨Nat.le_of_ble_eq_true rfl, Nat.le_of_ble_eq_true rfl⟩ dX8_look_200 rfl rfl rfl ?_
                refine Z_if_eq (tgt := 221) (pc' := 206) dX8_look_203 (by decide) rfl (fun h92 => ?_) (fun h92 => ?_)
                · rw [if_pos h92] at hF
                  refine Z_iconst (v := 0) (pc' := 222) dX8_look_221 (by decide) rfl ?_
                  refine Z_iadd (pc' := 223) dX8_look_222 rfl ?_
                  obtain ⟨v93, hv93, hF⟩ := zl_of hF
                  refine Z_istore_nE (i := 3) (x' := v93) (vs' := [some (.ref (ad 42)), some (.int x1_), some (.int x2_), some (.int v93), some (.int x4_)]) (pc' := 224) dX8_look_223 rfl hv93 (by decide) rfl rfl ?_
                  obtain ⟨v94, hv94, hF⟩ := zl_of hF
                  refine Z_iinc (i := 4) (v := v94) (vs' := [some (.ref (ad 42)), some (.int x1_), some (.int x2_), some (.int v93), some (.int v94)]) (pc' := 227) dX8_look_224 rfl (by rw [hv94]; rfl) (by decide) rfl rfl ?_
                  refine Z_goto (tgt := 131) dX8_look_227 (by decide) ?_
                  exact Z_sub (vs' := [some (.ref (ad 42)), some (.int x1_), some (.int x2_), some (.int v93), some (.int v94)]) (zSb_of _ _ ⟨rfl, ⟨rfl, ⟨rfl, ⟨rfl, ⟨rfl, trivial⟩⟩⟩⟩⟩) (ih x1_ x2_ v93 v94 y91.2 _ hF hE)
                · rw [if_neg h92] at hF
                  refine Z_aload_n (i := 0) (pc' := 207) dX8_look_206 rfl rfl rfl ?_
                  refine Z_get (v := .ref (ad 24)) (pc' := 210) 24 zinX8 rfl (by decide) lkX8_70 (mR_obj hG) rfl dX8_look_207 rfl ?_
                  refine Z_iload (i := 4) (pc' := 212) dX8_look_210 rfl rfl ?_
                  obtain ⟨h95, hF⟩ := ck_of hF
                  refine Z_iald (pc' := 213) (aR_24 hG) (zIn_in h95) dX8_look_212 rfl ?_
                  refine Z_iload_n (i := 1) (pc' := 214) dX8_look_213 rfl rfl rfl ?_
                  refine Z_icmp_ne (tgt := 221) (pc' := 217) dX8_look_214 (by decide) rfl (fun h96 => ?_) (fun h96 => ?_)
                  · rw [if_neg h96] at hF
                    refine Z_iconst (v := 0) (pc' := 222) dX8_look_221 (by decide) rfl ?_
                    refine Z_iadd (pc' := 223) dX8_look_222 rfl ?_
                    obtain ⟨v97, hv97, hF⟩ := zl_of hF
                    refine Z_istore_nE (i := 3) (x' := v97) (vs' := [some (.ref (ad 42)), some (.int x1_), some (.int x2_), some (.int v97), some (.int x4_)]) (pc' := 224) dX8_look_223 rfl hv97 (by decide) rfl rfl ?_
                    obtain ⟨v98, hv98, hF⟩ := zl_of hF
                    refine Z_iinc (i := 4) (v := v98) (vs' := [some (.ref (ad 42)), some (.int x1_), some (.int x2_), some (.int v97), some (.int v98)]) (pc' := 227) dX8_look_224 rfl (by rw [hv98]; rfl) (by decide) rfl rfl ?_
                    refine Z_goto (tgt := 131) dX8_look_227 (by decide) ?_
                    exact Z_sub (vs' := [some (.ref (ad 42)), some (.int x1_), some (.int x2_), some (.int v97), some (.int v98)]) (zSb_of _ _ ⟨rfl, ⟨rfl, ⟨rfl, ⟨rfl, ⟨rfl, trivial⟩⟩⟩⟩⟩) (ih x1_ x2_ v97 v98 y91.2 _ hF hE)
                  · rw [if_pos h96] at hF
                    refine Z_iconst (v := 1) (pc' := 218) dX8_look_217 (by decide) rfl ?_
                    refine Z_goto (tgt := 222) dX8_look_218 (by decide) ?_
                    refine Z_iadd (pc' := 223) dX8_look_222 rfl ?_
                    obtain ⟨v99, hv99, hF⟩ := zl_of hF
                    refine Z_istore_nE (i := 3) (x' := v99) (vs' := [some (.ref (ad 42)), some (.int x1_), some (.int x2_), some (.int v99), some (.int x4_)]) (pc' := 224) dX8_look_223 rfl hv99 (by decide) rfl rfl ?_
                    obtain ⟨v100, hv100, hF⟩ := zl_of hF
                    refine Z_iinc (i := 4) (v := v100) (vs' := [some (.ref (ad 42)), some (.int x1_), some (.int x2_), some (.int v99), some (.int v100)]) (pc' := 227) dX8_look_224 rfl (by rw [hv100]; rfl) (by decide) rfl rfl ?_
                    refine Z_goto (tgt := 131) dX8_look_227 (by decide) ?_
                    exact Z_sub (vs' := [some (.ref (ad 42)), some (.int x1_), some (.int x2_), some (.int v99), some (.int v100)]) (zSb_of _ _ ⟨rfl, ⟨rfl, ⟨rfl, ⟨rfl, ⟨rfl, trivial⟩⟩⟩⟩⟩) (ih x1_ x2_ v99 v100 y91.2 _ hF hE)
            · rw [if_neg h87] at hF
              refine Z_aload_n (i := 0) (pc' := 181) dX8_look_180 rfl rfl rfl ?_
              refine Z_get (v := .ref (ad 25)) (pc' := 184) 25 zinX8 rfl (by decide) lkX8_73 (mR_obj hG) rfl dX8_look_181 rfl ?_
              refine Z_iload (i := 4) (pc' := 186) dX8_look_184 rfl rfl ?_
              obtain ⟨h101, hF⟩ := ck_of hF
              refine Z_iald (pc' := 187) (aR_25 hG) (zIn_in h101) dX8_look_186 rfl ?_
              refine Z_iload_n (i := 1) (pc' := 188) dX8_look_187 rfl rfl rfl ?_
              refine Z_icmp_eq (tgt := 217) (pc' := 191) dX8_look_188 (by decide) rfl (fun h102 => ?_) (fun h102 => ?_)
              · rw [if_pos h102] at hF
                refine Z_iconst (v := 1) (pc' := 218) dX8_look_217 (by decide) rfl ?_
                refine Z_goto (tgt := 222) dX8_look_218 (by decide) ?_
                refine Z_iadd (pc' := 223) dX8_look_222 rfl ?_
                obtain ⟨v103, hv103, hF⟩ := zl_of hF
                refine Z_istore_nE (i := 3) (x' := v103) (vs' := [some (.ref (ad 42)), some (.int x1_), some (.int x2_), some (.int v103), some (.int x4_)]) (pc' := 224) dX8_look_223 rfl hv103 (by decide) rfl rfl ?_
                obtain ⟨v104, hv104, hF⟩ := zl_of hF
                refine Z_iinc (i := 4) (v := v104) (vs' := [some (.ref (ad 42)), some (.int x1_), some (.int x2_), some (.int v103), some (.int v104)]) (pc' := 227) dX8_look_224 rfl (by rw [hv104]; rfl) (by decide) rfl rfl ?_
                refine Z_goto (tgt := 131) dX8_look_227 (by decide) ?_
                exact Z_sub (vs' := [some (.ref (ad 42)), some (.int x1_), some (.int x2_), some (.int v103), some (.int v104)]) (zSb_of _ _ ⟨rfl, ⟨rfl, ⟨rfl, ⟨rfl, ⟨rfl, trivial⟩⟩⟩⟩⟩) (ih x1_ x2_ v103 v104 y86.2 _ hF hE)
              · rw [if_neg h102] at hF
                refine Z_iload_n (i := 2) (pc' := 192) dX8_look_191 rfl rfl rfl ?_
                refine Z_bipush (v := 6) (pc' := 194) dX8_look_192 (by decide) rfl ?_
                refine Z_icmp_ne (tgt := 221) (pc' := 197) dX8_look_194 (by decide) rfl (fun h105 => ?_) (fun h105 => ?_)
                · rw [if_neg h105] at hF
                  refine Z_iconst (v := 0) (pc' := 222) dX8_look_221 (by decide) rfl ?_
                  refine Z_iadd (pc' := 223) dX8_look_222 rfl ?_
                  obtain ⟨v106, hv106, hF⟩ := zl_of hF
                  refine Z_istore_nE (i := 3) (x' := v106) (vs' := [some (.ref (ad 42)), some (.int x1_), some (.int x2_), some (.int v106), some (.int x4_)]) (pc' := 224) dX8_look_223 rfl hv106 (by decide) rfl rfl ?_
                  obtain ⟨v107, hv107, hF⟩ := zl_of hF
                  refine Z_iinc (i := 4) (v := v107) (vs' := [some (.ref (ad 42)), some (.int x1_), some (.int x2_), some (.int v106), some (.int v107)]) (pc' := 227) dX8_look_224 rfl (by rw [hv107]; rfl) (by decide) rfl rfl ?_
                  refine Z_goto (tgt := 131) dX8_look_227 (by decide) ?_
                  exact Z_sub (vs' := [some (.ref (ad 42)), some (.int x1_), some (.int x2_), some (.int v106), some (.int v107)]) (zSb_of _ _ ⟨rfl, ⟨rfl, ⟨rfl, ⟨rfl, ⟨rfl, trivial⟩⟩⟩⟩⟩) (ih x1_ x2_ v106 v107 y86.2 _ hF hE)
                · rw [if_pos h105] at hF
                  refine Z_aload_n (i := 0) (pc' := 198) dX8_look_197 rfl rfl rfl ?_
                  refine Z_iload (i := 4) (pc' := 200) dX8_look_198 rfl rfl ?_
                  obtain ⟨y108, hy108, hF⟩ := bd_of hF
                  refine Z_callVi (As := [.int x4_]) (st := [.int x3_]) (pc' := 203) (k' := 0) (n' := 0) (qX8_isLate l hG hy108) ckX8_isLate kvX8_isLate mlX8_177 (mR_obj hG) rfl rfl rfl (Nat.le_of_ble_eq_true rfl) ⟨Nat.le_of_ble_eq_true rfl, Nat.le_of_ble_eq_true rfl⟩ ⟨Nat.le_of_ble_eq_true rfl, Nat.le_of_ble_eq_true rfl⟩ dX8_look_200 rfl rfl rfl ?_
                  refine Z_if_eq (tgt := 221) (pc' := 206) dX8_look_203 (by decide) rfl (fun h109 => ?_) (fun h109 => ?_)
                  · rw [if_pos h109] at hF
                    refine Z_iconst (v := 0) (pc' := 222) dX8_look_221 (by decide) rfl ?_
                    refine Z_iadd (pc' := 223) dX8_look_222 rfl ?_
                    obtain ⟨v110, hv110, hF⟩ := zl_of hF
                    refine Z_istore_nE (i := 3) (x' := v110) (vs' := [some (.ref (ad 42)), some (.int x1_), some (.int x2_), some (.int v110), some (.int x4_)]) (pc' := 224) dX8_look_223 rfl hv110 (by decide) rfl rfl ?_
                    obtain ⟨v111, hv111, hF⟩ := zl_of hF
                    refine Z_iinc (i := 4) (v := v111) (vs' := [some (.ref (ad 42)), some (.int x1_), some (.int x2_), some (.int v110), some (.int v111)]) (pc' := 227) dX8_look_224 rfl (by rw [hv111]; rfl) (by decide) rfl rfl ?_
                    refine Z_goto (tgt := 131) dX8_look_227 (by decide) ?_
                    exact Z_sub (vs' := [some (.ref (ad 42)), some (.int x1_), some (.int x2_), some (.int v110), some (.int v111)]) (zSb_of _ _ ⟨rfl, ⟨rfl, ⟨rfl, ⟨rfl, ⟨rfl, trivial⟩⟩⟩⟩⟩) (ih x1_ x2_ v110 v111 y108.2 _ hF hE)
                  · rw [if_neg h109] at hF
                    refine Z_aload_n (i := 0) (pc' := 207) dX8_look_206 rfl rfl rfl ?_
                    refine Z_get (v := .ref (ad 24)) (pc' := 210) 24 zinX8 rfl (by decide) lkX8_70 (mR_obj hG) rfl dX8_look_207 rfl ?_
                    refine Z_iload (i := 4) (pc' := 212) dX8_look_210 rfl rfl ?_
                    refine Z_iald (pc' := 213) (aR_24 hG) (zIn_in h101) dX8_look_212 rfl ?_
                    refine Z_iload_n (i := 1) (pc' := 214) dX8_look_213 rfl rfl rfl ?_
                    refine Z_icmp_ne (tgt := 221) (pc' := 217) dX8_look_214 (by decide) rfl (fun h112 => ?_) (fun h112 => ?_)
                    · rw [if_neg h112] at hF
                      refine Z_iconst (v := 0) (pc' := 222) dX8_look_221 (by decide) rfl ?_
                      refine Z_iadd (pc' := 223) dX8_look_222 rfl ?_
                      obtain ⟨v113, hv113, hF⟩ := zl_of hF
                      refine Z_istore_nE (i := 3) (x' := v113) (vs' := [some (.ref (ad 42)), some (.int x1_), some (.int x2_), some (.int v113), some (.int x4_)]) (pc' := 224) dX8_look_223 rfl hv113 (by decide) rfl rfl ?_
                      obtain ⟨v114, hv114, hF⟩ := zl_of hF
                      refine Z_iinc (i := 4) (v := v114) (vs' := [some (.ref (ad 42)), some (.int x1_), some (.int x2_), some (.int v113), some (.int v114)]) (pc' := 227) dX8_look_224 rfl (by rw [hv114]; rfl) (by decide) rfl rfl ?_
                      refine Z_goto (tgt := 131) dX8_look_227 (by decide) ?_
                      exact Z_sub (vs' := [some (.ref (ad 42)), some (.int x1_), some (.int x2_), some (.int v113), some (.int v114)]) (zSb_of _ _ ⟨rfl, ⟨rfl, ⟨rfl, ⟨rfl, ⟨rfl, trivial⟩⟩⟩⟩⟩) (ih x1_ x2_ v113 v114 y108.2 _ hF hE)
                    · rw [if_pos h112] at hF
                      refine Z_iconst (v := 1) (pc' := 218) dX8_look_217 (by decide) rfl ?_
                      refine Z_goto (tgt := 222) dX8_look_218 (by decide) ?_
                      refine Z_iadd (pc' := 223) dX8_look_222 rfl ?_
                      obtain ⟨v115, hv115, hF⟩ := zl_of hF
                      refine Z_istore_nE (i := 3) (x' := v115) (vs' := [some (.ref (ad 42)), some (.int x1_), some (.int x2_), some (.int v115), some (.int x4_)]) (pc' := 224) dX8_look_223 rfl hv115 (by decide) rfl rfl ?_
                      obtain ⟨v116, hv116, hF⟩ := zl_of hF
                      refine Z_iinc (i := 4) (v := v116) (vs' := [some (.ref (ad 42)), some (.int x1_), some (.int x2_), some (.int v115), some (.int v116)]) (pc' := 227) dX8_look_224 rfl (by rw [hv116]; rfl) (by decide) rfl rfl ?_
                      refine Z_goto (tgt := 131) dX8_look_227 (by decide) ?_
                      exact Z_sub (vs' := [some (.ref (ad 42)), some (.int x1_), some (.int x2_), some (.int v115), some (.int v116)]) (zSb_of _ _ ⟨rfl, ⟨rfl, ⟨rfl, ⟨rfl, ⟨rfl, trivial⟩⟩⟩⟩⟩) (ih x1_ x2_ v115 v116 y108.2 _ hF hE)
        · rw [if_neg h71] at hF
          refine Z_aload_n (i := 0) (pc' := 156) dX8_look_155 rfl rfl rfl ?_
          refine Z_get (v := .ref (ad 24)) (pc' := 159) 24 zinX8 rfl (by decide) lkX8_70 (mR_obj hG) rfl dX8_look_156 rfl ?_
          refine Z_iload (i := 4) (pc' := 161) dX8_look_159 rfl rfl ?_
          obtain ⟨h117, hF⟩ := ck_of hF
          refine Z_iald (pc' := 162) (aR_24 hG) (zIn_in h117) dX8_look_161 rfl ?_
          refine Z_iload_n (i := 1) (pc' := 163) dX8_look_162 rfl rfl rfl ?_
          refine Z_icmp_eq (tgt := 217) (pc' := 166) dX8_look_163 (by decide) rfl (fun h118 => ?_) (fun h118 => ?_)
          · rw [if_pos h118] at hF
            refine Z_iconst (v := 1) (pc' := 218) dX8_look_217 (by decide) rfl ?_
            refine Z_goto (tgt := 222) dX8_look_218 (by decide) ?_
            refine Z_iadd (pc' := 223) dX8_look_222 rfl ?_
            obtain ⟨v119, hv119, hF⟩ := zl_of hF
            refine Z_istore_nE (i := 3) (x' := v119) (vs' := [some (.ref (ad 42)), some (.int x1_), some (.int x2_), some (.int v119), some (.int x4_)]) (pc' := 224) dX8_look_223 rfl hv119 (by decide) rfl rfl ?_
            obtain ⟨v120, hv120, hF⟩ := zl_of hF
            refine Z_iinc (i := 4) (v := v120) (vs' := [some (.ref (ad 42)), some (.int x1_), some (.int x2_), some (.int v119), some (.int v120)]) (pc' := 227) dX8_look_224 rfl (by rw [hv120]; rfl) (by decide) rfl rfl ?_
            refine Z_goto (tgt := 131) dX8_look_227 (by decide) ?_
            exact Z_sub (vs' := [some (.ref (ad 42)), some (.int x1_), some (.int x2_), some (.int v119), some (.int v120)]) (zSb_of _ _ ⟨rfl, ⟨rfl, ⟨rfl, ⟨rfl, ⟨rfl, trivial⟩⟩⟩⟩⟩) (ih x1_ x2_ v119 v120 y70.2 _ hF hE)
          · rw [if_neg h118] at hF
            refine Z_iload_n (i := 2) (pc' := 167) dX8_look_166 rfl rfl rfl ?_
            refine Z_iconst (v := 5) (pc' := 168) dX8_look_167 (by decide) rfl ?_
            refine Z_icmp_ne (tgt := 191) (pc' := 171) dX8_look_168 (by decide) rfl (fun h121 => ?_) (fun h121 => ?_)
            · rw [if_neg h121] at hF
              refine Z_iload_n (i := 2) (pc' := 192) dX8_look_191 rfl rfl rfl ?_
              refine Z_bipush (v := 6) (pc' := 194) dX8_look_192 (by decide) rfl ?_
              refine Z_icmp_ne (tgt := 221) (pc' := 197) dX8_look_194 (by decide) rfl (fun h122 => ?_) (fun h122 => ?_)
              · rw [if_neg h122] at hF
                refine Z_iconst (v := 0) (pc' := 222) dX8_look_221 (by decide) rfl ?_
                refine Z_iadd (pc' := 223) dX8_look_222 rfl ?_
                obtain ⟨v123, hv123, hF⟩ := zl_of hF
                refine Z_istore_nE (i := 3) (x' := v123) (vs' := [some (.ref (ad 42)), some (.int x1_), some (.int x2_), some (.int v123), some (.int x4_)]) (pc' := 224) dX8_look_223 rfl hv123 (by decide) rfl rfl ?_
                obtain ⟨v124, hv124, hF⟩ := zl_of hF
                refine Z_iinc (i := 4) (v := v124) (vs' := [some (.ref (ad 42)), some (.int x1_), some (.int x2_), some (.int v123), some (.int v124)]) (pc' := 227) dX8_look_224 rfl (by rw [hv124]; rfl) (by decide) rfl rfl ?_
                refine Z_goto (tgt := 131) dX8_look_227 (by decide) ?_
                exact Z_sub (vs' := [some (.ref (ad 42)), some (.int x1_), some (.int x2_), some (.int v123), some (.int v124)]) (zSb_of _ _ ⟨rfl, ⟨rfl, ⟨rfl, ⟨rfl, ⟨rfl, trivial⟩⟩⟩⟩⟩) (ih x1_ x2_ v123 v124 y70.2 _ hF hE)
              · rw [if_pos h122] at hF
                refine Z_aload_n (i := 0) (pc' := 198) dX8_look_197 rfl rfl rfl ?_
                refine Z_iload (i := 4) (pc' := 200) dX8_look_198 rfl rfl ?_
                obtain ⟨y125, hy125, hF⟩ := bd_of hF
                refine Z_callVi (As := [.int x4_]) (st := [.int x3_]) (pc' := 203) (k' := 0) (n' := 0) (qX8_isLate l hG hy125) ckX8_isLate kvX8_isLate mlX8_177 (mR_obj hG) rfl rfl rfl (Nat.le_of_ble_eq_true rfl) ⟨Nat.le_of_ble_eq_true rfl, Nat.le_of_ble_eq_true rfl⟩ ⟨Nat.le_of_ble_eq_true rfl, Nat.le_of_ble_eq_true rfl⟩ dX8_look_200 rfl rfl rfl ?_
                refine Z_if_eq (tgt := 221) (pc' := 206) dX8_look_203 (by decide) rfl (fun h126 => ?_) (fun h126 => ?_)
                · rw [if_pos h126] at hF
                  refine Z_iconst (v := 0) (pc' := 222) dX8_look_221 (by decide) rfl ?_
                  refine Z_iadd (pc' := 223) dX8_look_222 rfl ?_
                  obtain ⟨v127, hv127, hF⟩ := zl_of hF
                  refine Z_istore_nE (i := 3) (x' := v127) (vs' := [some (.ref (ad 42)), some (.int x1_), some (.int x2_), some (.int v127), some (.int x4_)]) (pc' := 224) dX8_look_223 rfl hv127 (by decide) rfl rfl ?_
                  obtain ⟨v128, hv128, hF⟩ := zl_of hF
                  refine Z_iinc (i := 4) (v := v128) (vs' := [some (.ref (ad 42)), some (.int x1_), some (.int x2_), some (.int v127), some (.int v128)]) (pc' := 227) dX8_look_224 rfl (by rw [hv128]; rfl) (by decide) rfl rfl ?_
                  refine Z_goto (tgt := 131) dX8_look_227 (by decide) ?_
                  exact Z_sub (vs' := [some (.ref (ad 42)), some (.int x1_), some (.int x2_), some (.int v127), some (.int v128)]) (zSb_of _ _ ⟨rfl, ⟨rfl, ⟨rfl, ⟨rfl, ⟨rfl, trivial⟩⟩⟩⟩⟩) (ih x1_ x2_ v127 v128 y125.2 _ hF hE)
                · rw [if_neg h126] at hF
                  refine Z_aload_n (i := 0) (pc' := 207) dX8_look_206 rfl rfl rfl ?_
                  refine Z_get (v := .ref (ad 24)) (pc' := 210) 24 zinX8 rfl (by decide) lkX8_70 (mR_obj hG) rfl dX8_look_207 rfl ?_
                  refine Z_iload (i := 4) (pc' := 212) dX8_look_210 rfl rfl ?_
                  refine Z_iald (pc' := 213) (aR_24 hG) (zIn_in h117) dX8_look_212 rfl ?_
                  refine Z_iload_n (i := 1) (pc' := 214) dX8_look_213 rfl rfl rfl ?_
                  refine Z_icmp_ne (tgt := 221) (pc' := 217) dX8_look_214 (by decide) rfl (fun h129 => ?_) (fun h129 => ?_)
                  · rw [if_neg h129] at hF
                    refine Z_iconst (v := 0) (pc' := 222) dX8_look_221 (by decide) rfl ?_
                    refine Z_iadd (pc' := 223) dX8_look_222 rfl ?_
                    obtain ⟨v130, hv130, hF⟩ := zl_of hF
                    refine Z_istore_nE (i := 3) (x' := v130) (vs' := [some (.ref (ad 42)), some (.int x1_), some (.int x2_), some (.int v130), some (.int x4_)]) (pc' := 224) dX8_look_223 rfl hv130 (by decide) rfl rfl ?_
                    obtain ⟨v131, hv131, hF⟩ := zl_of hF
                    refine Z_iinc (i := 4) (v := v131) (vs' := [some (.ref (ad 42)), some (.int x1_), some (.int x2_), some (.int v130), some (.int v131)]) (pc' := 227) dX8_look_224 rfl (by rw [hv131]; rfl) (by decide) rfl rfl ?_
                    refine Z_goto (tgt := 131) dX8_look_227 (by decide) ?_
                    exact Z_sub (vs' := [some (.ref (ad 42)), some (.int x1_), some (.int x2_), some (.int v130), some (.int v131)]) (zSb_of _ _ ⟨rfl, ⟨rfl, ⟨rfl, ⟨rfl, ⟨rfl, trivial⟩⟩⟩⟩⟩) (ih x1_ x2_ v130 v131 y125.2 _ hF hE)
                  · rw [if_pos h129] at hF
                    refine Z_iconst (v := 1) (pc' := 218) dX8_look_217 (by decide) rfl ?_
                    refine Z_goto (tgt := 222) dX8_look_218 (by decide) ?_
                    refine Z_iadd (pc' := 223) dX8_look_222 rfl ?_
                    obtain ⟨v132, hv132, hF⟩ := zl_of hF
                    refine Z_istore_nE (i := 3) (x' := v132) (vs' := [some (.ref (ad 42)), some (.int x1_), some (.int x2_), some (.int v132), some (.int x4_)]) (pc' := 224) dX8_look_223 rfl hv132 (by decide) rfl rfl ?_
                    obtain ⟨v133, hv133, hF⟩ := zl_of hF
                    refine Z_iinc (i := 4) (v := v133) (vs' := [some (.ref (ad 42)), some (.int x1_), some (.int x2_), some (.int v132), some (.int v133)]) (pc' := 227) dX8_look_224 rfl (by rw [hv133]; rfl) (by decide) rfl rfl ?_
                    refine Z_goto (tgt := 131) dX8_look_227 (by decide) ?_
                    exact Z_sub (vs' := [some (.ref (ad 42)), some (.int x1_), some (.int x2_), some (.int v132), some (.int v133)]) (zSb_of _ _ ⟨rfl, ⟨rfl, ⟨rfl, ⟨rfl, ⟨rfl, trivial⟩⟩⟩⟩⟩) (ih x1_ x2_ v132 v133 y125.2 _ hF hE)
            · rw [if_pos h121] at hF
              refine Z_aload_n (i := 0) (pc' := 172) dX8_look_171 rfl rfl rfl ?_
              refine Z_iload (i := 4) (pc' := 174) dX8_look_172 rfl rfl ?_
              obtain ⟨y134, hy134, hF⟩ := bd_of hF
              refine Z_callVi (As := [.int x4_]) (st := [.int x3_]) (pc' := 177) (k' := 0) (n' := 0) (qX8_isOpen l hG hy134) ckX8_isOpen kvX8_isOpen mlX8_171 (mR_obj hG) rfl rfl rfl (Nat.le_of_ble_eq_true rfl) ⟨Nat.le_of_ble_eq_true rfl, Nat.le_of_ble_eq_true rfl⟩ ⟨Nat.le_of_ble_eq_true rfl, Nat.le_of_ble_eq_true rfl⟩ dX8_look_174 rfl rfl rfl ?_
              refine Z_if_eq (tgt := 191) (pc' := 180) dX8_look_177 (by decide) rfl (fun h135 => ?_) (fun h135 => ?_)
              · rw [if_pos h135] at hF
                refine Z_iload_n (i := 2) (pc' := 192) dX8_look_191 rfl rfl rfl ?_
                refine Z_bipush (v := 6) (pc' := 194) dX8_look_192 (by decide) rfl ?_
                refine Z_icmp_ne (tgt := 221) (pc' := 197) dX8_look_194 (by decide) rfl (fun h136 => ?_) (fun h136 => ?_)
                · rw [if_neg h136] at hF
                  refine Z_iconst (v := 0) (pc' := 222) dX8_look_221 (by decide) rfl ?_
                  refine Z_iadd (pc' := 223) dX8_look_222 rfl ?_
                  obtain ⟨v137, hv137, hF⟩ := zl_of hF
                  refine Z_istore_nE (i := 3) (x' := v137) (vs' := [some (.ref (ad 42)), some (.int x1_), some (.int x2_), some (.int v137), some (.int x4_)]) (pc' := 224) dX8_look_223 rfl hv137 (by decide) rfl rfl ?_
                  obtain ⟨v138, hv138, hF⟩ := zl_of hF
                  refine Z_iinc (i := 4) (v := v138) (vs' := [some (.ref (ad 42)), some (.int x1_), some (.int x2_), some (.int v137), some (.int v138)]) (pc' := 227) dX8_look_224 rfl (by rw [hv138]; rfl) (by decide) rfl rfl ?_
                  refine Z_goto (tgt := 131) dX8_look_227 (by decide) ?_
                  exact Z_sub (vs' := [some (.ref (ad 42)), some (.int x1_), some (.int x2_), some (.int v137), some (.int v138)]) (zSb_of _ _ ⟨rfl, ⟨rfl, ⟨rfl, ⟨rfl, ⟨rfl, trivial⟩⟩⟩⟩⟩) (ih x1_ x2_ v137 v138 y134.2 _ hF hE)
                · rw [if_pos h136] at hF
                  refine Z_aload_n (i := 0) (pc' := 198) dX8_look_197 rfl rfl rfl ?_
                  refine Z_iload (i := 4) (pc' := 200) dX8_look_198 rfl rfl ?_
                  obtain ⟨y139, hy139, hF⟩ := bd_of hF
                  refine Z_callVi (As := [.int x4_]) (st := [.int x3_]) (pc' := 203) (k' := 0) (n' := 0) (qX8_isLate l hG hy139) ckX8_isLate kvX8_isLate mlX8_177 (mR_obj hG) rfl rfl rfl (Nat.le_of_ble_eq_true rfl) ⟨Nat.le_of_ble_eq_true rfl, Nat.le_of_ble_eq_true rfl⟩ ⟨Nat.le_of_ble_eq_true rfl, Nat.le_of_ble_eq_true rfl⟩ dX8_look_200 rfl rfl rfl ?_
                  refine Z_if_eq (tgt := 221) (pc' := 206) dX8_look_203 (by decide) rfl (fun h140 => ?_) (fun h140 => ?_)
                  · rw [if_pos h140] at hF
                    refine Z_iconst (v := 0) (pc' := 222) dX8_look_221 (by decide) rfl ?_
                    refine Z_iadd (pc' := 223) dX8_look_222 rfl ?_
                    obtain ⟨v141, hv141, hF⟩ := zl_of hF
                    refine Z_istore_nE (i := 3) (x' := v141) (vs' := [some (.ref (ad 42)), some (.int x1_), some (.int x2_), some (.int v141), some (.int x4_)]) (pc' := 224) dX8_look_223 rfl hv141 (by decide) rfl rfl ?_
                    obtain ⟨v142, hv142, hF⟩ := zl_of hF
                    refine Z_iinc (i := 4) (v := v142) (vs' := [some (.ref (ad 42)), some (.int x1_), some (.int x2_), some (.int v141), some (.int v142)]) (pc' := 227) dX8_look_224 rfl (by rw [hv142]; rfl) (by decide) rfl rfl ?_
                    refine Z_goto (tgt := 131) dX8_look_227 (by decide) ?_
                    exact Z_sub (vs' := [some (.ref (ad 42)), some (.int x1_), some (.int x2_), some (.int v141), some (.int v142)]) (zSb_of _ _ ⟨rfl, ⟨rfl, ⟨rfl, ⟨rfl, ⟨rfl, trivial⟩⟩⟩⟩⟩) (ih x1_ x2_ v141 v142 y139.2 _ hF hE)
                  · rw [if_neg h140] at hF
                    refine Z_aload_n (i := 0) (pc' := 207) dX8_look_206 rfl rfl rfl ?_
                    refine Z_get (v := .ref (ad 24)) (pc' := 210) 24 zinX8 rfl (by decide) lkX8_70 (mR_obj hG) rfl dX8_look_207 rfl ?_
                    refine Z_iload (i := 4) (pc' := 212) dX8_look_210 rfl rfl ?_
                    refine Z_iald (pc' := 213) (aR_24 hG) (zIn_in h117) dX8_look_212 rfl ?_
                    refine Z_iload_n (i := 1) (pc' := 214) dX8_look_213 rfl rfl rfl ?_
                    refine Z_icmp_ne (tgt := 221) (pc' := 217) dX8_look_214 (by decide) rfl (fun h143 => ?_) (fun h143 => ?_)
                    · rw [if_neg h143] at hF
                      refine Z_iconst (v := 0) (pc' := 222) dX8_look_221 (by decide) rfl ?_
                      refine Z_iadd (pc' := 223) dX8_look_222 rfl ?_
                      obtain ⟨v144, hv144, hF⟩ := zl_of hF
                      refine Z_istore_nE (i := 3) (x' := v144) (vs' := [some (.ref (ad 42)), some (.int x1_), some (.int x2_), some (.int v144), some (.int x4_)]) (pc' := 224) dX8_look_223 rfl hv144 (by decide) rfl rfl ?_
                      obtain ⟨v145, hv145, hF⟩ := zl_of hF
                      refine Z_iinc (i := 4) (v := v145) (vs' := [some (.ref (ad 42)), some (.int x1_), some (.int x2_), some (.int v144), some (.int v145)]) (pc' := 227) dX8_look_224 rfl (by rw [hv145]; rfl) (by decide) rfl rfl ?_
                      refine Z_goto (tgt := 131) dX8_look_227 (by decide) ?_
                      exact Z_sub (vs' := [some (.ref (ad 42)), some (.int x1_), some (.int x2_), some (.int v144), some (.int v145)]) (zSb_of _ _ ⟨rfl, ⟨rfl, ⟨rfl, ⟨rfl, ⟨rfl, trivial⟩⟩⟩⟩⟩) (ih x1_ x2_ v144 v145 y139.2 _ hF hE)
                    · rw [if_pos h143] at hF
                      refine Z_iconst (v := 1) (pc' := 218) dX8_look_217 (by decide) rfl ?_
                      refine Z_goto (tgt := 222) dX8_look_218 (by decide) ?_
                      refine Z_iadd (pc' := 223) dX8_look_222 rfl ?_
                      obtain ⟨v146, hv146, hF⟩ := zl_of hF
                      refine Z_istore_nE (i := 3) (x' := v146) (vs' := [some (.ref (ad 42)), some (.int x1_), some (.int x2_), some (.int v146), some (.int x4_)]) (pc' := 224) dX8_look_223 rfl hv146 (by decide) rfl rfl ?_
                      obtain ⟨v147, hv147, hF⟩ := zl_of hF
                      refine Z_iinc (i := 4) (v := v147) (vs' := [some (.ref (ad 42)), some (.int x1_), some (.int x2_), some (.int v146), some (.int v147)]) (pc' := 227) dX8_look_224 rfl (by rw [hv147]; rfl) (by decide) rfl rfl ?_
                      refine Z_goto (tgt := 131) dX8_look_227 (by decide) ?_
                      exact Z_sub (vs' := [some (.ref (ad 42)), some (.int x1_), some (.int x2_), some (.int v146), some (.int v147)]) (zSb_of _ _ ⟨rfl, ⟨rfl, ⟨rfl, ⟨rfl, ⟨rfl, trivial⟩⟩⟩⟩⟩) (ih x1_ x2_ v146 v147 y139.2 _ hF hE)
              · rw [if_neg h135] at hF
                refine Z_aload_n (i := 0) (pc' := 181) dX8_look_180 rfl rfl rfl ?_
                refine Z_get (v := .ref (ad 25)) (pc' := 184) 25 zinX8 rfl (by decide) lkX8_73 (mR_obj hG) rfl dX8_look_181 rfl ?_
                refine Z_iload (i := 4) (pc' := 186) dX8_look_184 rfl rfl ?_
                refine Z_iald (pc' := 187) (aR_25 hG) (zIn_in h117) dX8_look_186 rfl ?_
                refine Z_iload_n (i := 1) (pc' := 188) dX8_look_187 rfl rfl rfl ?_
                refine Z_icmp_eq (tgt := 217) (pc' := 191) dX8_look_188 (by decide) rfl (fun h148 => ?_) (fun h148 => ?_)
                · rw [if_pos h148] at hF
                  refine Z_iconst (v := 1) (pc' := 218) dX8_look_217 (by decide) rfl ?_
                  refine Z_goto (tgt := 222) dX8_look_218 (by decide) ?_
                  refine Z_iadd (pc' := 223) dX8_look_222 rfl ?_
                  obtain ⟨v149, hv149, hF⟩ := zl_of hF
                  refine Z_istore_nE (i := 3) (x' := v149) (vs' := [some (.ref (ad 42)), some (.int x1_), some (.int x2_), some (.int v149), some (.int x4_)]) (pc' := 224) dX8_look_223 rfl hv149 (by decide) rfl rfl ?_
                  obtain ⟨v150, hv150, hF⟩ := zl_of hF
                  refine Z_iinc (i := 4) (v := v150) (vs' := [some (.ref (ad 42)), some (.int x1_), some (.int x2_), some (.int v149), some (.int v150)]) (pc' := 227) dX8_look_224 rfl (by rw [hv150]; rfl) (by decide) rfl rfl ?_
                  refine Z_goto (tgt := 131) dX8_look_227 (by decide) ?_
                  exact Z_sub (vs' := [some (.ref (ad 42)), some (.int x1_), some (.int x2_), some (.int v149), some (.int v150)]) (zSb_of _ _ ⟨rfl, ⟨rfl, ⟨rfl, ⟨rfl, ⟨rfl, trivial⟩⟩⟩⟩⟩) (ih x1_ x2_ v149 v150 y134.2 _ hF hE)
                · rw [if_neg h148] at hF
                  refine Z_iload_n (i := 2) (pc' := 192) dX8_look_191 rfl rfl rfl ?_
                  refine Z_bipush (v := 6) (pc' := 194) dX8_look_192 (by decide) rfl ?_
                  refine Z_icmp_ne (tgt := 221) (pc' := 197) dX8_look_194 (by decide) rfl (fun h151 => ?_) (fun h151 => ?_)
                  · rw [if_neg h151] at hF
                    refine Z_iconst (v := 0) (pc' := 222) dX8_look_221 (by decide) rfl ?_
                    refine Z_iadd (pc' := 223) dX8_look_222 rfl ?_
                    obtain ⟨v152, hv152, hF⟩ := zl_of hF
                    refine Z_istore_nE (i := 3) (x' := v152) (vs' := [some (.ref (ad 42)), some (.int x1_), some (.int x2_), some (.int v152), some (.int x4_)]) (pc' := 224) dX8_look_223 rfl hv152 (by decide) rfl rfl ?_
                    obtain ⟨v153, hv153, hF⟩ := zl_of hF
                    refine Z_iinc (i := 4) (v := v153) (vs' := [some (.ref (ad 42)), some (.int x1_), some (.int x2_), some (.int v152), some (.int v153)]) (pc' := 227) dX8_look_224 rfl (by rw [hv153]; rfl) (by decide) rfl rfl ?_
                    refine Z_goto (tgt := 131) dX8_look_227 (by decide) ?_
                    exact Z_sub (vs' := [some (.ref (ad 42)), some (.int x1_), some (.int x2_), some (.int v152), some (.int v153)]) (zSb_of _ _ ⟨rfl, ⟨rfl, ⟨rfl, ⟨rfl, ⟨rfl, trivial⟩⟩⟩⟩⟩) (ih x1_ x2_ v152 v153 y134.2 _ hF hE)
                  · rw [if_pos h151] at hF
                    refine Z_aload_n (i := 0) (pc' := 198) dX8_look_197 rfl rfl rfl ?_
                    refine Z_iload (i := 4) (pc' := 200) dX8_look_198 rfl rfl ?_
                    obtain ⟨y154, hy154, hF⟩ := bd_of hF
                    refine Z_callVi (As := [.int x4_]) (st := [.int x3_]) (pc' := 203) (k' := 0) (n' := 0) (qX8_isLate l hG hy154) ckX8_isLate kvX8_isLate mlX8_177 (mR_obj hG) rfl rfl rfl (Nat.le_of_ble_eq_true rfl) ⟨Nat.le_of_ble_eq_true rfl, Nat.le_of_ble_eq_true rfl⟩ ⟨Nat.le_of_ble_eq_true rfl, Nat.le_of_ble_eq_true rfl⟩ dX8_look_200 rfl rfl rfl ?_
                    refine Z_if_eq (tgt := 221) (pc' := 206) dX8_look_203 (by decide) rfl (fun h155 => ?_) (fun h155 => ?_)
                    · rw [if_pos h155] at hF
                      refine Z_iconst (v := 0) (pc' := 222) dX8_look_221 (by decide) rfl ?_
                      refine Z_iadd (pc' := 223) dX8_look_222 rfl ?_
                      obtain ⟨v156, hv156, hF⟩ := zl_of hF
                      refine Z_istore_nE (i := 3) (x' := v156) (vs' := [some (.ref (ad 42)), some (.int x1_), some (.int x2_), some (.int v156), some (.int x4_)]) (pc' := 224) dX8_look_223 rfl hv156 (by decide) rfl rfl ?_
                      obtain ⟨v157, hv157, hF⟩ := zl_of hF
                      refine Z_iinc (i := 4) (v := v157) (vs' := [some (.ref (ad 42)), some (.int x1_), some (.int x2_), some (.int v156), some (.int v157)]) (pc' := 227) dX8_look_224 rfl (by rw [hv157]; rfl) (by decide) rfl rfl ?_
                      refine Z_goto (tgt := 131) dX8_look_227 (by decide) ?_
                      exact Z_sub (vs' := [some (.ref (ad 42)), some (.int x1_), some (.int x2_), some (.int v156), some (.int v157)]) (zSb_of _ _ ⟨rfl, ⟨rfl, ⟨rfl, ⟨rfl, ⟨rfl, trivial⟩⟩⟩⟩⟩) (ih x1_ x2_ v156 v157 y154.2 _ hF hE)
                    · rw [if_neg h155] at hF
                      refine Z_aload_n (i := 0) (pc' := 207) dX8_look_206 rfl rfl rfl ?_
                      refine Z_get (v := .ref (ad 24)) (pc' := 210) 24 zinX8 rfl (by decide) lkX8_70 (mR_obj hG) rfl dX8_look_207 rfl ?_
                      refine Z_iload (i := 4) (pc' := 212) dX8_look_210 rfl rfl ?_
                      refine Z_iald (pc' := 213) (aR_24 hG) (zIn_in h117) dX8_look_212 rfl ?_
                      refine Z_iload_n (i := 1) (pc' := 214) dX8_look_213 rfl rfl rfl ?_
                      refine Z_icmp_ne (tgt := 221) (pc' := 217) dX8_look_214 (by decide) rfl (fun h158 => ?_) (fun h158 => ?_)
                      · rw [if_neg h158] at hF
                        refine Z_iconst (v := 0) (pc' := 222) dX8_look_221 (by decide) rfl ?_
                        refine Z_iadd (pc' := 223) dX8_look_222 rfl ?_
                        obtain ⟨v159, hv159, hF⟩ := zl_of hF
                        refine Z_istore_nE (i := 3) (x' := v159) (vs' := [some (.ref (ad 42)), some (.int x1_), some (.int x2_), some (.int v159), some (.int x4_)]) (pc' := 224) dX8_look_223 rfl hv159 (by decide) rfl rfl ?_
                        obtain ⟨v160, hv160, hF⟩ := zl_of hF
                        refine Z_iinc (i := 4) (v := v160) (vs' := [some (.ref (ad 42)), some (.int x1_), some (.int x2_), some (.int v159), some (.int v160)]) (pc' := 227) dX8_look_224 rfl (by rw [hv160]; rfl) (by decide) rfl rfl ?_
                        refine Z_goto (tgt := 131) dX8_look_227 (by decide) ?_
                        exact Z_sub (vs' := [some (.ref (ad 42)), some (.int x1_), some (.int x2_), some (.int v159), some (.int v160)]) (zSb_of _ _ ⟨rfl, ⟨rfl, ⟨rfl, ⟨rfl, ⟨rfl, trivial⟩⟩⟩⟩⟩) (ih x1_ x2_ v159 v160 y154.2 _ hF hE)
                      · rw [if_pos h158] at hF
                        refine Z_iconst (v := 1) (pc' := 218) dX8_look_217 (by decide) rfl ?_
                        refine Z_goto (tgt := 222) dX8_look_218 (by decide) ?_
                        refine Z_iadd (pc' := 223) dX8_look_222 rfl ?_
                        obtain ⟨v161, hv161, hF⟩ := zl_of hF
                        refine Z_istore_nE (i := 3) (x' := v161) (vs' := [some (.ref (ad 42)), some (.int x1_), some (.int x2_), some (.int v161), some (.int x4_)]) (pc' := 224) dX8_look_223 rfl hv161 (by decide) rfl rfl ?_
                        obtain ⟨v162, hv162, hF⟩ := zl_of hF
                        refine Z_iinc (i := 4) (v := v162) (vs' := [some (.ref (ad 42)), some (.int x1_), some (.int x2_), some (.int v161), some (.int v162)]) (pc' := 227) dX8_look_224 rfl (by rw [hv162]; rfl) (by decide) rfl rfl ?_
                        refine Z_goto (tgt := 131) dX8_look_227 (by decide) ?_
                        exact Z_sub (vs' := [some (.ref (ad 42)), some (.int x1_), some (.int x2_), some (.int v161), some (.int v162)]) (zSb_of _ _ ⟨rfl, ⟨rfl, ⟨rfl, ⟨rfl, ⟨rfl, trivial⟩⟩⟩⟩⟩) (ih x1_ x2_ v161 v162 y154.2 _ hF hE)
set_option maxHeartbeats 4000000 in
set_option maxRecDepth 100000 in
theorem qX8_look_L235 {l : Launch} {D : va_G} {M0 : zM} {Q : Option Value → zM → Prop} {ad dec : Nat → Nat} (hG : rG ad dec) : ∀ (n : Nat) (x1_ : Int32) (x3_ : Int32) (x4_ : Int32) (σ : zS) (r : (Int32 × zS)), r_look_L235 n x1_ x3_ x4_ σ = some r → (Z l yX8_look cX8_look 5 (some .int) rmX8_look 0 0 D M0 Q 0 0 273 [none, none, none, some (.int r.1), none] [] (mR ad dec r.2)) → Z l yX8_look cX8_look 5 (some .int) rmX8_look 0 0 D M0 Q 0 0 235 [some (.ref (ad 42)), some (.int x1_), none, some (.int x3_), some (.int x4_)] [] (mR ad dec σ) := by
  intro n
  induction n with
  | zero =>
    intro x1_ x3_ x4_ σ r hF hE
    exact absurd (show (none : Option (Int32 × zS)) = some r from hF) (by simp)
  | succ n ih =>
    intro x1_ x3_ x4_ σ r hF hE
    replace hF : (if (σ 5 0) ≤ x4_ then some (x3_, σ) else (if zIn (((16 : Int32) * x1_) + x4_) 256 = true then (if (σ 10 (((16 : Int32) * x1_) + x4_).toNatClampNeg) = 0 then zl (x3_ + (0 : Int32)) (fun (v169 : Int32) => zl (x4_ + 1) (fun (v170 : Int32) => (r_look_L235 n x1_ v169 v170 σ))) else zl (x3_ + (1 : Int32)) (fun (v171 : Int32) => zl (x4_ + 1) (fun (v172 : Int32) => (r_look_L235 n x1_ v171 v172 σ)))) else none)) = some r := hF
    refine Z_iload (i := 4) (pc' := 237) dX8_look_235 rfl rfl ?_
    refine Z_aload_n (i := 0) (pc' := 238) dX8_look_237 rfl rfl rfl ?_
    refine Z_get (v := .int (σ 5 0)) (pc' := 241) 5 zinX8 rfl (by decide) lkX8_137 (mR_obj hG) rfl dX8_look_238 rfl ?_
    refine Z_icmp_ge (tgt := 273) (pc' := 244) dX8_look_241 (by decide) rfl (fun h166 => ?_) (fun h166 => ?_)
    · rw [if_pos h166] at hF
      cases hF
      exact Z_sub (vs' := [none, none, none, some (.int x3_), none]) (zSb_of _ _ ⟨rfl, trivial⟩) hE
    · rw [if_neg h166] at hF
      refine Z_iload_n (i := 3) (pc' := 245) dX8_look_244 rfl rfl rfl ?_
      refine Z_aload_n (i := 0) (pc' := 246) dX8_look_245 rfl rfl rfl ?_
      refine Z_get (v := .ref (ad 10)) (pc' := 249) 10 zinX8 rfl (by decide) lkX8_34 (mR_obj hG) rfl dX8_look_246 rfl ?_
      refine Z_bipush (v := 16) (pc' := 251) dX8_look_249 (by decide) rfl ?_
      refine Z_iload_n (i := 1) (pc' := 252) dX8_look_251 rfl rfl rfl ?_
      refine Z_imul (pc' := 253) dX8_look_252 rfl ?_
      refine Z_iload (i := 4) (pc' := 255) dX8_look_253 rfl rfl ?_
      refine Z_iadd (pc' := 256) dX8_look_255 rfl ?_
      obtain ⟨h167, hF⟩ := ck_of hF
      refine Z_zald (pc' := 257) (aR_10 hG) (zIn_in h167) dX8_look_256 rfl ?_
      refine Z_if_eq (tgt := 264) (pc' := 260) dX8_look_257 (by decide) rfl (fun h168 => ?_) (fun h168 => ?_)
      · rw [if_pos h168] at hF
        refine Z_iconst (v := 0) (pc' := 265) dX8_look_264 (by decide) rfl ?_
        refine Z_iadd (pc' := 266) dX8_look_265 rfl ?_
        obtain ⟨v169, hv169, hF⟩ := zl_of hF
        refine Z_istore_nE (i := 3) (x' := v169) (vs' := [some (.ref (ad 42)), some (.int x1_), none, some (.int v169), some (.int x4_)]) (pc' := 267) dX8_look_266 rfl hv169 (by decide) rfl rfl ?_
        obtain ⟨v170, hv170, hF⟩ := zl_of hF
        refine Z_iinc (i := 4) (v := v170) (vs' := [some (.ref (ad 42)), some (.int x1_), none, some (.int v169), some (.int v170)]) (pc' := 270) dX8_look_267 rfl (by rw [hv170]; rfl) (by decide) rfl rfl ?_
        refine Z_goto (tgt := 235) dX8_look_270 (by decide) ?_
        exact Z_sub (vs' := [some (.ref (ad 42)), some (.int x1_), none, some (.int v169), some (.int v170)]) (zSb_of _ _ ⟨rfl, ⟨rfl, ⟨rfl, ⟨rfl, trivial⟩⟩⟩⟩) (ih x1_ v169 v170 σ _ hF hE)
      · rw [if_neg h168] at hF
        refine Z_iconst (v := 1) (pc' := 261) dX8_look_260 (by decide) rfl ?_
        refine Z_goto (tgt := 265) dX8_look_261 (by decide) ?_
        refine Z_iadd (pc' := 266) dX8_look_265 rfl ?_
        obtain ⟨v171, hv171, hF⟩ := zl_of hF
        refine Z_istore_nE (i := 3) (x' := v171) (vs' := [some (.ref (ad 42)), some (.int x1_), none, some (.int v171), some (.int x4_)]) (pc' := 267) dX8_look_266 rfl hv171 (by decide) rfl rfl ?_
        obtain ⟨v172, hv172, hF⟩ := zl_of hF
        refine Z_iinc (i := 4) (v := v172) (vs' := [some (.ref (ad 42)), some (.int x1_), none, some (.int v171), some (.int v172)]) (pc' := 270) dX8_look_267 rfl (by rw [hv172]; rfl) (by decide) rfl rfl ?_
        refine Z_goto (tgt := 235) dX8_look_270 (by decide) ?_
        exact Z_sub (vs' := [some (.ref (ad 42)), some (.int x1_), none, some (.int v171), some (.int v172)]) (zSb_of _ _ ⟨rfl, ⟨rfl, ⟨rfl, ⟨rfl, trivial⟩⟩⟩⟩) (ih x1_ v171 v172 σ _ hF hE)
set_option maxHeartbeats 4000000 in
set_option maxRecDepth 100000 in
theorem qX8_look (l : Launch) {ad dec : Nat → Nat} (hG : rG ad dec) {x1 : Int32} {x2 : Int32} {σ : zS} {w : Int32 × zS} (hF : r_look x1 x2 σ = some w) : zMet l yX8_look cX8_look 5 (some .int) rmX8_look [.ref (ad 42), .int x1, .int x2] (mR ad dec σ) (fun v M' => v = (some (.int w.1)) ∧ M' = (mR ad dec w.2)) := by
  refine zMet.ofZ (vs := [some (.ref (ad 42)), some (.int x1), some (.int x2), none, none]) (by decide) rfl (zCt_of _ ⟨rfl, ⟨rfl, ⟨rfl, trivial⟩⟩⟩) (Nat.le_of_ble_eq_true rfl) (fun D => ?_)
  unfold r_look at hF
  refine Z_aload_n (i := 0) (pc' := 1) dX8_look_0 rfl rfl rfl ?_
  refine Z_iload_n (i := 1) (pc' := 2) dX8_look_1 rfl rfl rfl ?_
  obtain ⟨y1, hy1, hF⟩ := bd_of hF
  refine Z_callVi (As := [.int x1]) (st := []) (pc' := 5) (k' := 0) (n' := 0) (qX8_isMan l hG hy1) ckX8_isMan kvX8_isMan mlX8_140 (mR_obj hG) rfl rfl rfl (Nat.le_of_ble_eq_true rfl) ⟨Nat.le_of_ble_eq_true rfl, Nat.le_of_ble_eq_true rfl⟩ ⟨Nat.le_of_ble_eq_true rfl, Nat.le_of_ble_eq_true rfl⟩ dX8_look_2 rfl rfl rfl ?_
  refine Z_if_ne (tgt := 10) (pc' := 8) dX8_look_5 (by decide) rfl (fun h2 => ?_) (fun h2 => ?_)
  · rw [if_neg h2] at hF
    refine Z_iconst (v := 0) (pc' := 11) dX8_look_10 (by decide) rfl ?_
    refine Z_istore_nE (i := 3) (x' := (0 : Int32)) (vs' := [some (.ref (ad 42)), some (.int x1), some (.int x2), some (.int (0 : Int32)), none]) (pc' := 12) dX8_look_11 rfl rfl (by decide) rfl rfl ?_
    refine Z_iload_n (i := 2) (pc' := 13) dX8_look_12 rfl rfl rfl ?_
    by_cases h3 : x2 = (0 : Int32)
    · rw [if_pos h3] at hF
      refine Z_tin (j := 0) (tgt := 60) dX8_look_13 h3 (by decide) (by decide) rfl (by decide) ?_
      refine Z_aload_n (i := 0) (pc' := 61) dX8_look_60 rfl rfl rfl ?_
      refine Z_get (v := .ref (ad 7)) (pc' := 64) 7 zinX8 rfl (by decide) lkX8_24 (mR_obj hG) rfl dX8_look_61 rfl ?_
      refine Z_iload_n (i := 1) (pc' := 65) dX8_look_64 rfl rfl rfl ?_
      obtain ⟨h11, hF⟩ := ck_of hF
      refine Z_iald (pc' := 66) (aR_7 hG) (zIn_in h11) dX8_look_65 rfl ?_
      cases hF
      exact Z_iret (ty := .int) (w := (y1.2 7 (x1).toNatClampNeg)) dX8_look_66 rfl rfl (Nat.le_refl _) (Nat.le_refl _) ⟨rfl, rfl⟩
    · rw [if_neg h3] at hF
      by_cases h4 : x2 = (1 : Int32)
      · rw [if_pos h4] at hF
        refine Z_tin (j := 1) (tgt := 67) dX8_look_13 h4 (by decide) (by decide) rfl (by decide) ?_
        refine Z_aload_n (i := 0) (pc' := 68) dX8_look_67 rfl rfl rfl ?_
        refine Z_get (v := .ref (ad 9)) (pc' := 71) 9 zinX8 rfl (by decide) lkX8_30 (mR_obj hG) rfl dX8_look_68 rfl ?_
        refine Z_iload_n (i := 1) (pc' := 72) dX8_look_71 rfl rfl rfl ?_
        obtain ⟨h12, hF⟩ := ck_of hF
        refine Z_zald (pc' := 73) (aR_9 hG) (zIn_in h12) dX8_look_72 rfl ?_
        refine Z_if_eq (tgt := 80) (pc' := 76) dX8_look_73 (by decide) rfl (fun h13 => ?_) (fun h13 => ?_)
        · rw [if_pos h13] at hF
          refine Z_iconst (v := 0) (pc' := 81) dX8_look_80 (by decide) rfl ?_
          cases hF
          exact Z_iret (ty := .int) (w := (0 : Int32)) dX8_look_81 rfl rfl (Nat.le_refl _) (Nat.le_refl _) ⟨rfl, rfl⟩
        · rw [if_neg h13] at hF
          refine Z_iconst (v := 1) (pc' := 77) dX8_look_76 (by decide) rfl ?_
          refine Z_goto (tgt := 81) dX8_look_77 (by decide) ?_
          cases hF
          exact Z_iret (ty := .int) (w := (1 : Int32)) dX8_look_81 rfl rfl (Nat.le_refl _) (Nat.le_refl _) ⟨rfl, rfl⟩
      · rw [if_neg h4] at hF
        by_cases h5 : x2 = (2 : Int32)
        · rw [if_pos h5] at hF
          refine Z_tin (j := 2) (tgt := 82) dX8_look_13 h5 (by decide) (by decide) rfl (by decide) ?_
          refine Z_aload_n (i := 0) (pc' := 83) dX8_look_82 rfl rfl rfl ?_
          refine Z_get (v := .ref (ad 8)) (pc' := 86) 8 zinX8 rfl (by decide) lkX8_27 (mR_obj hG) rfl dX8_look_83 rfl ?_
          refine Z_iload_n (i := 1) (pc' := 87) dX8_look_86 rfl rfl rfl ?_
          obtain ⟨h14, hF⟩ := ck_of hF
          refine Z_iald (pc' := 88) (aR_8 hG) (zIn_in h14) dX8_look_87 rfl ?_
          cases hF
          exact Z_iret (ty := .int) (w := (y1.2 8 (x1).toNatClampNeg)) dX8_look_88 rfl rfl (Nat.le_refl _) (Nat.le_refl _) ⟨rfl, rfl⟩
        · rw [if_neg h5] at hF
          by_cases h6 : x2 = (3 : Int32)
          · rw [if_pos h6] at hF
            refine Z_tin (j := 3) (tgt := 89) dX8_look_13 h6 (by decide) (by decide) rfl (by decide) ?_
            refine Z_iconst (v := 0) (pc' := 90) dX8_look_89 (by decide) rfl ?_
            refine Z_istoreE (i := 4) (x' := (0 : Int32)) (vs' := [some (.ref (ad 42)), some (.int x1), some (.int x2), some (.int (0 : Int32)), some (.int (0 : Int32))]) (pc' := 92) dX8_look_90 rfl (by decide) rfl rfl ?_
            obtain ⟨r22, hr22, hF⟩ := bd_of hF
            refine Z_sub (vs' := [some (.ref (ad 42)), some (.int x1), none, some (.int (0 : Int32)), some (.int (0 : Int32))]) (zSb_of _ _ ⟨rfl, ⟨rfl, ⟨rfl, ⟨rfl, trivial⟩⟩⟩⟩) (qX8_look_L92 hG zF x1 (0 : Int32) (0 : Int32) y1.2 _ hr22 ?_)
            refine Z_iload_n (i := 3) (pc' := 127) dX8_look_126 rfl rfl rfl ?_
            cases hF
            exact Z_iret (ty := .int) (w := r22.1) dX8_look_127 rfl rfl (Nat.le_refl _) (Nat.le_refl _) ⟨rfl, rfl⟩
          · rw [if_neg h6] at hF
            by_cases h7 : x2 = (4 : Int32)
            · rw [if_pos h7] at hF
              refine Z_tin (j := 4) (tgt := 128) dX8_look_13 h7 (by decide) (by decide) rfl (by decide) ?_
              refine Z_iconst (v := 0) (pc' := 129) dX8_look_128 (by decide) rfl ?_
              refine Z_istoreE (i := 4) (x' := (0 : Int32)) (vs' := [some (.ref (ad 42)), some (.int x1), some (.int x2), some (.int (0 : Int32)), some (.int (0 : Int32))]) (pc' := 131) dX8_look_129 rfl (by decide) rfl rfl ?_
              obtain ⟨r163, hr163, hF⟩ := bd_of hF
              refine Z_sub (vs' := [some (.ref (ad 42)), some (.int x1), some (.int x2), some (.int (0 : Int32)), some (.int (0 : Int32))]) (zSb_of _ _ ⟨rfl, ⟨rfl, ⟨rfl, ⟨rfl, ⟨rfl, trivial⟩⟩⟩⟩⟩) (qX8_look_L131 hG zF x1 x2 (0 : Int32) (0 : Int32) y1.2 _ hr163 ?_)
              refine Z_iload_n (i := 3) (pc' := 231) dX8_look_230 rfl rfl rfl ?_
              cases hF
              exact Z_iret (ty := .int) (w := r163.1) dX8_look_231 rfl rfl (Nat.le_refl _) (Nat.le_refl _) ⟨rfl, rfl⟩
            · rw [if_neg h7] at hF
              by_cases h8 : x2 = (5 : Int32)
              · rw [if_pos h8] at hF
                refine Z_tin (j := 5) (tgt := 128) dX8_look_13 h8 (by decide) (by decide) rfl (by decide) ?_
                refine Z_iconst (v := 0) (pc' := 129) dX8_look_128 (by decide) rfl ?_
                refine Z_istoreE (i := 4) (x' := (0 : Int32)) (vs' := [some (.ref (ad 42)), some (.int x1), some (.int x2), some (.int (0 : Int32)), some (.int (0 : Int32))]) (pc' := 131) dX8_look_129 rfl (by decide) rfl rfl ?_
                obtain ⟨r164, hr164, hF⟩ := bd_of hF
                refine Z_sub (vs' := [some (.ref (ad 42)), some (.int x1), some (.int x2), some (.int (0 : Int32)), some (.int (0 : Int32))]) (zSb_of _ _ ⟨rfl, ⟨rfl, ⟨rfl, ⟨rfl, ⟨rfl, trivial⟩⟩⟩⟩⟩) (qX8_look_L131 hG zF x1 x2 (0 : Int32) (0 : Int32) y1.2 _ hr164 ?_)
                refine Z_iload_n (i := 3) (pc' := 231) dX8_look_230 rfl rfl rfl ?_
                cases hF
                exact Z_iret (ty := .int) (w := r164.1) dX8_look_231 rfl rfl (Nat.le_refl _) (Nat.le_refl _) ⟨rfl, rfl⟩
              · rw [if_neg h8] at hF
                by_cases h9 : x2 = (6 : Int32)
                · rw [if_pos h9] at hF
                  refine Z_tin (j := 6) (tgt := 128) dX8_look_13 h9 (by decide) (by decide) rfl (by decide) ?_
                  refine Z_iconst (v := 0) (pc' := 129) dX8_look_128 (by decide) rfl ?_
                  refine Z_istoreE (i := 4) (x' := (0 : Int32)) (vs' := [some (.ref (ad 42)), some (.int x1), some (.int x2), some (.int (0 : Int32)), some (.int (0 : Int32))]) (pc' := 131) dX8_look_129 rfl (by decide) rfl rfl ?_
                  obtain ⟨r165, hr165, hF⟩ := bd_of hF
                  refine Z_sub (vs' := [some (.ref (ad 42)), some (.int x1), some (.int x2), some (.int (0 : Int32)), some (.int (0 : Int32))]) (zSb_of _ _ ⟨rfl, ⟨rfl, ⟨rfl, ⟨rfl, ⟨rfl, trivial⟩⟩⟩⟩⟩) (qX8_look_L131 hG zF x1 x2 (0 : Int32) (0 : Int32) y1.2 _ hr165 ?_)
                  refine Z_iload_n (i := 3) (pc' := 231) dX8_look_230 rfl rfl rfl ?_
                  cases hF
                  exact Z_iret (ty := .int) (w := r165.1) dX8_look_231 rfl rfl (Nat.le_refl _) (Nat.le_refl _) ⟨rfl, rfl⟩
                · rw [if_neg h9] at hF
                  by_cases h10 : x2 = (7 : Int32)
                  · rw [if_pos h10] at hF
                    refine Z_tin (j := 7) (tgt := 232) dX8_look_13 h10 (by decide) (by decide) rfl (by decide) ?_
                    refine Z_iconst (v := 0) (pc' := 233) dX8_look_232 (by decide) rfl ?_
                    refine Z_istoreE (i := 4) (x' := (0 : Int32)) (vs' := [some (.ref (ad 42)), some (.int x1), some (.int x2), some (.int (0 : Int32)), some (.int (0 : Int32))]) (pc' := 235) dX8_look_233 rfl (by decide) rfl rfl ?_
                    obtain ⟨r173, hr173, hF⟩ := bd_of hF
                    refine Z_sub (vs' := [some (.ref (ad 42)), some (.int x1), none, some (.int (0 : Int32)), some (.int (0 : Int32))]) (zSb_of _ _ ⟨rfl, ⟨rfl, ⟨rfl, ⟨rfl, trivial⟩⟩⟩⟩) (qX8_look_L235 hG zF x1 (0 : Int32) (0 : Int32) y1.2 _ hr173 ?_)
                    refine Z_iload_n (i := 3) (pc' := 274) dX8_look_273 rfl rfl rfl ?_
                    cases hF
                    exact Z_iret (ty := .int) (w := r173.1) dX8_look_274 rfl rfl (Nat.le_refl _) (Nat.le_refl _) ⟨rfl, rfl⟩
                  · rw [if_neg h10] at hF
                    refine Z_tout (hi := 7) (tgt := 275) dX8_look_13 (lt_s (lt_s (lt_s (lt_s (lt_s (lt_s (lt_s (lt_s lt_0 h3) h4) h5) h6) h7) h8) h9) h10) (by decide) ?_
                    refine Z_iconst (v := -1) (pc' := 276) dX8_look_275 (by decide) rfl ?_
                    cases hF
                    exact Z_iret (ty := .int) (w := (-1 : Int32)) dX8_look_276 rfl rfl (Nat.le_refl _) (Nat.le_refl _) ⟨rfl, rfl⟩
  · rw [if_pos h2] at hF
    refine Z_iconst (v := -1) (pc' := 9) dX8_look_8 (by decide) rfl ?_
    cases hF
    exact Z_iret (ty := .int) (w := (-1 : Int32)) dX8_look_9 rfl rfl (Nat.le_refl _) (Nat.le_refl _) ⟨rfl, rfl⟩
abbrev rmX8_told : Room := { frames := 1, cells := 0, slots := 0, locals := 21 }
def r_told  (x1 : Int32) (x2 : Int32) (σ : zS) : Option (Int32 × zS) := ((r_isTreasure x1 σ).bind (fun y1 => (if y1.1 = 0 then some ((-1 : Int32), y1.2) else (if x2 = (0 : Int32) then (if zIn x1 24 = true then some ((y1.2 12 (x1).toNatClampNeg), y1.2) else none) else (if x2 = (1 : Int32) then (if zIn x1 24 = true then some ((y1.2 13 (x1).toNatClampNeg), y1.2) else none) else (if x2 = (2 : Int32) then (if zIn x1 24 = true then some ((y1.2 14 (x1).toNatClampNeg), y1.2) else none) else (if x2 = (3 : Int32) then (if zIn x1 24 = true then some ((y1.2 15 (x1).toNatClampNeg), y1.2) else none) else (if x2 = (4 : Int32) then (if zIn x1 24 = true then some ((y1.2 17 (x1).toNatClampNeg), y1.2) else none) else some ((-1 : Int32), y1.2)))))))))
set_option maxHeartbeats 4000000 in
set_option maxRecDepth 100000 in
theorem qX8_told (l : Launch) {ad dec : Nat → Nat} (hG : rG ad dec) {x1 : Int32} {x2 : Int32} {σ : zS} {w : Int32 × zS} (hF : r_told x1 x2 σ = some w) : zMet l yX8_told cX8_told 3 (some .int) rmX8_told [.ref (ad 42), .int x1, .int x2] (mR ad dec σ) (fun v M' => v = (some (.int w.1)) ∧ M' = (mR ad dec w.2)) := by
  refine zMet.ofZ (vs := [some (.ref (ad 42)), some (.int x1), some (.int x2)]) (by decide) rfl (zCt_of _ ⟨rfl, ⟨rfl, ⟨rfl, trivial⟩⟩⟩) (Nat.le_of_ble_eq_true rfl) (fun D => ?_)
  unfold r_told at hF
  refine Z_aload_n (i := 0) (pc' := 1) dX8_told_0 rfl rfl rfl ?_
  refine Z_iload_n (i := 1) (pc' := 2) dX8_told_1 rfl rfl rfl ?_
  obtain ⟨y1, hy1, hF⟩ := bd_of hF
  refine Z_callVi (As := [.int x1]) (st := []) (pc' := 5) (k' := 0) (n' := 0) (qX8_isTreasure l hG hy1) ckX8_isTreasure kvX8_isTreasure mlX8_164 (mR_obj hG) rfl rfl rfl (Nat.le_of_ble_eq_true rfl) ⟨Nat.le_of_ble_eq_true rfl, Nat.le_of_ble_eq_true rfl⟩ ⟨Nat.le_of_ble_eq_true rfl, Nat.le_of_ble_eq_true rfl⟩ dX8_told_2 rfl rfl rfl ?_
  refine Z_if_ne (tgt := 10) (pc' := 8) dX8_told_5 (by decide) rfl (fun h2 => ?_) (fun h2 => ?_)
  · rw [if_neg h2] at hF
    refine Z_iload_n (i := 2) (pc' := 11) dX8_told_10 rfl rfl rfl ?_
    by_cases h3 : x2 = (0 : Int32)
    · rw [if_pos h3] at hF
      refine Z_tin (j := 0) (tgt := 44) dX8_told_11 h3 (by decide) (by decide) rfl (by decide) ?_
      refine Z_aload_n (i := 0) (pc' := 45) dX8_told_44 rfl rfl rfl ?_
      refine Z_get (v := .ref (ad 12)) (pc' := 48) 12 zinX8 rfl (by decide) lkX8_37 (mR_obj hG) rfl dX8_told_45 rfl ?_
      refine Z_iload_n (i := 1) (pc' := 49) dX8_told_48 rfl rfl rfl ?_
      obtain ⟨h8, hF⟩ := ck_of hF
      refine Z_iald (pc' := 50) (aR_12 hG) (zIn_in h8) dX8_told_49 rfl ?_
      cases hF
      exact Z_iret (ty := .int) (w := (y1.2 12 (x1).toNatClampNeg)) dX8_told_50 rfl rfl (Nat.le_refl _) (Nat.le_refl _) ⟨rfl, rfl⟩
    · rw [if_neg h3] at hF
      by_cases h4 : x2 = (1 : Int32)
      · rw [if_pos h4] at hF
        refine Z_tin (j := 1) (tgt := 51) dX8_told_11 h4 (by decide) (by decide) rfl (by decide) ?_
        refine Z_aload_n (i := 0) (pc' := 52) dX8_told_51 rfl rfl rfl ?_
        refine Z_get (v := .ref (ad 13)) (pc' := 55) 13 zinX8 rfl (by decide) lkX8_40 (mR_obj hG) rfl dX8_told_52 rfl ?_
        refine Z_iload_n (i := 1) (pc' := 56) dX8_told_55 rfl rfl rfl ?_
        obtain ⟨h9, hF⟩ := ck_of hF
        refine Z_iald (pc' := 57) (aR_13 hG) (zIn_in h9) dX8_told_56 rfl ?_
        cases hF
        exact Z_iret (ty := .int) (w := (y1.2 13 (x1).toNatClampNeg)) dX8_told_57 rfl rfl (Nat.le_refl _) (Nat.le_refl _) ⟨rfl, rfl⟩
      · rw [if_neg h4] at hF
        by_cases h5 : x2 = (2 : Int32)
        · rw [if_pos h5] at hF
          refine Z_tin (j := 2) (tgt := 58) dX8_told_11 h5 (by decide) (by decide) rfl (by decide) ?_
          refine Z_aload_n (i := 0) (pc' := 59) dX8_told_58 rfl rfl rfl ?_
          refine Z_get (v := .ref (ad 14)) (pc' := 62) 14 zinX8 rfl (by decide) lkX8_43 (mR_obj hG) rfl dX8_told_59 rfl ?_
          refine Z_iload_n (i := 1) (pc' := 63) dX8_told_62 rfl rfl rfl ?_
          obtain ⟨h10, hF⟩ := ck_of hF
          refine Z_iald (pc' := 64) (aR_14 hG) (zIn_in h10) dX8_told_63 rfl ?_
          cases hF
          exact Z_iret (ty := .int) (w := (y1.2 14 (x1).toNatClampNeg)) dX8_told_64 rfl rfl (Nat.le_refl _) (Nat.le_refl _) ⟨rfl, rfl⟩
        · rw [if_neg h5] at hF
          by_cases h6 : x2 = (3 : Int32)
          · rw [if_pos h6] at hF
            refine Z_tin (j := 3) (tgt := 65) dX8_told_11 h6 (by decide) (by decide) rfl (by decide) ?_
            refine Z_aload_n (i := 0) (pc' := 66) dX8_told_65 rfl rfl rfl ?_
            refine Z_get (v := .ref (ad 15)) (pc' := 69) 15 zinX8 rfl (by decide) lkX8_46 (mR_obj hG) rfl dX8_told_66 rfl ?_
            refine Z_iload_n (i := 1) (pc' := 70) dX8_told_69 rfl rfl rfl ?_
            obtain ⟨h11, hF⟩ := ck_of hF
            refine Z_iald (pc' := 71) (aR_15 hG) (zIn_in h11) dX8_told_70 rfl ?_
            cases hF
            exact Z_iret (ty := .int) (w := (y1.2 15 (x1).toNatClampNeg)) dX8_told_71 rfl rfl (Nat.le_refl _) (Nat.le_refl _) ⟨rfl, rfl⟩
          · rw [if_neg h6] at hF
            by_cases h7 : x2 = (4 : Int32)
            · rw [if_pos h7] at hF
              refine Z_tin (j := 4) (tgt := 72) dX8_told_11 h7 (by decide) (by decide) rfl (by decide) ?_
              refine Z_aload_n (i := 0) (pc' := 73) dX8_told_72 rfl rfl rfl ?_
              refine Z_get (v := .ref (ad 17)) (pc' := 76) 17 zinX8 rfl (by decide) lkX8_52 (mR_obj hG) rfl dX8_told_73 rfl ?_
              refine Z_iload_n (i := 1) (pc' := 77) dX8_told_76 rfl rfl rfl ?_
              obtain ⟨h12, hF⟩ := ck_of hF
              refine Z_iald (pc' := 78) (aR_17 hG) (zIn_in h12) dX8_told_77 rfl ?_
              cases hF
              exact Z_iret (ty := .int) (w := (y1.2 17 (x1).toNatClampNeg)) dX8_told_78 rfl rfl (Nat.le_refl _) (Nat.le_refl _) ⟨rfl, rfl⟩
            · rw [if_neg h7] at hF
              refine Z_tout (hi := 4) (tgt := 79) dX8_told_11 (lt_s (lt_s (lt_s (lt_s (lt_s lt_0 h3) h4) h5) h6) h7) (by decide) ?_
              refine Z_iconst (v := -1) (pc' := 80) dX8_told_79 (by decide) rfl ?_
              cases hF
              exact Z_iret (ty := .int) (w := (-1 : Int32)) dX8_told_80 rfl rfl (Nat.le_refl _) (Nat.le_refl _) ⟨rfl, rfl⟩
  · rw [if_pos h2] at hF
    refine Z_iconst (v := -1) (pc' := 9) dX8_told_8 (by decide) rfl ?_
    cases hF
    exact Z_iret (ty := .int) (w := (-1 : Int32)) dX8_told_9 rfl rfl (Nat.le_refl _) (Nat.le_refl _) ⟨rfl, rfl⟩
abbrev rmX8_debt : Room := { frames := 2, cells := 0, slots := 0, locals := 42 }
def r_debt  (x1 : Int32) (x2 : Int32) (σ : zS) : Option (Int32 × zS) := (if x1 < 0 then some ((-1 : Int32), σ) else (if x1 < (σ 23 0) then (if x2 = (0 : Int32) then (if zIn x1 200 = true then some ((σ 24 (x1).toNatClampNeg), σ) else none) else (if x2 = (1 : Int32) then (if zIn x1 200 = true then some ((σ 25 (x1).toNatClampNeg), σ) else none) else (if x2 = (2 : Int32) then (if zIn x1 200 = true then some ((σ 26 (x1).toNatClampNeg), σ) else none) else (if x2 = (3 : Int32) then (if zIn x1 200 = true then some ((σ 27 (x1).toNatClampNeg), σ) else none) else (if x2 = (4 : Int32) then (if zIn x1 200 = true then some ((σ 28 (x1).toNatClampNeg), σ) else none) else (if x2 = (5 : Int32) then ((r_isOpen x1 σ).bind (fun y16 => (if y16.1 = 0 then some ((1 : Int32), y16.2) else ((r_isLate x1 y16.2).bind (fun y18 => (if y18.1 = 0 then some ((0 : Int32), y18.2) else some ((2 : Int32), y18.2))))))) else (if x2 = (6 : Int32) then (if zIn x1 200 = true then some ((σ 29 (x1).toNatClampNeg), σ) else none) else (if x2 = (7 : Int32) then (if zIn x1 200 = true then some ((σ 30 (x1).toNatClampNeg), σ) else none) else some ((-1 : Int32), σ))))))))) else some ((-1 : Int32), σ)))
set_option maxHeartbeats 4000000 in
set_option maxRecDepth 100000 in
theorem qX8_debt (l : Launch) {ad dec : Nat → Nat} (hG : rG ad dec) {x1 : Int32} {x2 : Int32} {σ : zS} {w : Int32 × zS} (hF : r_debt x1 x2 σ = some w) : zMet l yX8_debt cX8_debt 3 (some .int) rmX8_debt [.ref (ad 42), .int x1, .int x2] (mR ad dec σ) (fun v M' => v = (some (.int w.1)) ∧ M' = (mR ad dec w.2)) := by
  refine zMet.ofZ (vs := [some (.ref (ad 42)), some (.int x1), some (.int x2)]) (by decide) rfl (zCt_of _ ⟨rfl, ⟨rfl, ⟨rfl, trivial⟩⟩⟩) (Nat.le_of_ble_eq_true rfl) (fun D => ?_)
  unfold r_debt at hF
  refine Z_iload_n (i := 1) (pc' := 1) dX8_debt_0 rfl rfl rfl ?_
  refine Z_if_lt (tgt := 12) (pc' := 4) dX8_debt_1 (by decide) rfl (fun h1 => ?_) (fun h1 => ?_)
  · rw [if_pos h1] at hF
    refine Z_iconst (v := -1) (pc' := 13) dX8_debt_12 (by decide) rfl ?_
    cases hF
    exact Z_iret (ty := .int) (w := (-1 : Int32)) dX8_debt_13 rfl rfl (Nat.le_refl _) (Nat.le_refl _) ⟨rfl, rfl⟩
  · rw [if_neg h1] at hF
    refine Z_iload_n (i := 1) (pc' := 5) dX8_debt_4 rfl rfl rfl ?_
    refine Z_aload_n (i := 0) (pc' := 6) dX8_debt_5 rfl rfl rfl ?_
    refine Z_get (v := .int (σ 23 0)) (pc' := 9) 23 zinX8 rfl (by decide) lkX8_174 (mR_obj hG) rfl dX8_debt_6 rfl ?_
    refine Z_icmp_lt (tgt := 14) (pc' := 12) dX8_debt_9 (by decide) rfl (fun h2 => ?_) (fun h2 => ?_)
    · rw [if_pos h2] at hF
      refine Z_iload_n (i := 2) (pc' := 15) dX8_debt_14 rfl rfl rfl ?_
      by_cases h3 : x2 = (0 : Int32)
      · rw [if_pos h3] at hF
        refine Z_tin (j := 0) (tgt := 60) dX8_debt_15 h3 (by decide) (by decide) rfl (by decide) ?_
        refine Z_aload_n (i := 0) (pc' := 61) dX8_debt_60 rfl rfl rfl ?_
        refine Z_get (v := .ref (ad 24)) (pc' := 64) 24 zinX8 rfl (by decide) lkX8_70 (mR_obj hG) rfl dX8_debt_61 rfl ?_
        refine Z_iload_n (i := 1) (pc' := 65) dX8_debt_64 rfl rfl rfl ?_
        obtain ⟨h11, hF⟩ := ck_of hF
        refine Z_iald (pc' := 66) (aR_24 hG) (zIn_in h11) dX8_debt_65 rfl ?_
        cases hF
        exact Z_iret (ty := .int) (w := (σ 24 (x1).toNatClampNeg)) dX8_debt_66 rfl rfl (Nat.le_refl _) (Nat.le_refl _) ⟨rfl, rfl⟩
      · rw [if_neg h3] at hF
        by_cases h4 : x2 = (1 : Int32)
        · rw [if_pos h4] at hF
          refine Z_tin (j := 1) (tgt := 67) dX8_debt_15 h4 (by decide) (by decide) rfl (by decide) ?_
          refine Z_aload_n (i := 0) (pc' := 68) dX8_debt_67 rfl rfl rfl ?_
          refine Z_get (v := .ref (ad 25)) (pc' := 71) 25 zinX8 rfl (by decide) lkX8_73 (mR_obj hG) rfl dX8_debt_68 rfl ?_
          refine Z_iload_n (i := 1) (pc' := 72) dX8_debt_71 rfl rfl rfl ?_
          obtain ⟨h12, hF⟩ := ck_of hF
          refine Z_iald (pc' := 73) (aR_25 hG) (zIn_in h12) dX8_debt_72 rfl ?_
          cases hF
          exact Z_iret (ty := .int) (w := (σ 25 (x1).toNatClampNeg)) dX8_debt_73 rfl rfl (Nat.le_refl _) (Nat.le_refl _) ⟨rfl, rfl⟩
        · rw [if_neg h4] at hF
          by_cases h5 : x2 = (2 : Int32)
          · rw [if_pos h5] at hF
            refine Z_tin (j := 2) (tgt := 74) dX8_debt_15 h5 (by decide) (by decide) rfl (by decide) ?_
            refine Z_aload_n (i := 0) (pc' := 75) dX8_debt_74 rfl rfl rfl ?_
            refine Z_get (v := .ref (ad 26)) (pc' := 78) 26 zinX8 rfl (by decide) lkX8_76 (mR_obj hG) rfl dX8_debt_75 rfl ?_
            refine Z_iload_n (i := 1) (pc' := 79) dX8_debt_78 rfl rfl rfl ?_
            obtain ⟨h13, hF⟩ := ck_of hF
            refine Z_iald (pc' := 80) (aR_26 hG) (zIn_in h13) dX8_debt_79 rfl ?_
            cases hF
            exact Z_iret (ty := .int) (w := (σ 26 (x1).toNatClampNeg)) dX8_debt_80 rfl rfl (Nat.le_refl _) (Nat.le_refl _) ⟨rfl, rfl⟩
          · rw [if_neg h5] at hF
            by_cases h6 : x2 = (3 : Int32)
            · rw [if_pos h6] at hF
              refine Z_tin (j := 3) (tgt := 81) dX8_debt_15 h6 (by decide) (by decide) rfl (by decide) ?_
              refine Z_aload_n (i := 0) (pc' := 82) dX8_debt_81 rfl rfl rfl ?_
              refine Z_get (v := .ref (ad 27)) (pc' := 85) 27 zinX8 rfl (by decide) lkX8_79 (mR_obj hG) rfl dX8_debt_82 rfl ?_
              refine Z_iload_n (i := 1) (pc' := 86) dX8_debt_85 rfl rfl rfl ?_
              obtain ⟨h14, hF⟩ := ck_of hF
              refine Z_iald (pc' := 87) (aR_27 hG) (zIn_in h14) dX8_debt_86 rfl ?_
              cases hF
              exact Z_iret (ty := .int) (w := (σ 27 (x1).toNatClampNeg)) dX8_debt_87 rfl rfl (Nat.le_refl _) (Nat.le_refl _) ⟨rfl, rfl⟩
            · rw [if_neg h6] at hF
              by_cases h7 : x2 = (4 : Int32)
              · rw [if_pos h7] at hF
                refine Z_tin (j := 4) (tgt := 88) dX8_debt_15 h7 (by decide) (by decide) rfl (by decide) ?_
                refine Z_aload_n (i := 0) (pc' := 89) dX8_debt_88 rfl rfl rfl ?_
                refine Z_get (v := .ref (ad 28)) (pc' := 92) 28 zinX8 rfl (by decide) lkX8_82 (mR_obj hG) rfl dX8_debt_89 rfl ?_
                refine Z_iload_n (i := 1) (pc' := 93) dX8_debt_92 rfl rfl rfl ?_
                obtain ⟨h15, hF⟩ := ck_of hF
                refine Z_iald (pc' := 94) (aR_28 hG) (zIn_in h15) dX8_debt_93 rfl ?_
                cases hF
                exact Z_iret (ty := .int) (w := (σ 28 (x1).toNatClampNeg)) dX8_debt_94 rfl rfl (Nat.le_refl _) (Nat.le_refl _) ⟨rfl, rfl⟩
              · rw [if_neg h7] at hF
                by_cases h8 : x2 = (5 : Int32)
                · rw [if_pos h8] at hF
                  refine Z_tin (j := 5) (tgt := 95) dX8_debt_15 h8 (by decide) (by decide) rfl (by decide) ?_
                  refine Z_aload_n (i := 0) (pc' := 96) dX8_debt_95 rfl rfl rfl ?_
                  refine Z_iload_n (i := 1) (pc' := 97) dX8_debt_96 rfl rfl rfl ?_
                  obtain ⟨y16, hy16, hF⟩ := bd_of hF
                  refine Z_callVi (As := [.int x1]) (st := []) (pc' := 100) (k' := 0) (n' := 0) (qX8_isOpen l hG hy16) ckX8_isOpen kvX8_isOpen mlX8_171 (mR_obj hG) rfl rfl rfl (Nat.le_of_ble_eq_true rfl) ⟨Nat.le_of_ble_eq_true rfl, Nat.le_of_ble_eq_true rfl⟩ ⟨Nat.le_of_ble_eq_true rfl, Nat.le_of_ble_eq_true rfl⟩ dX8_debt_97 rfl rfl rfl ?_
                  refine Z_if_ne (tgt := 107) (pc' := 103) dX8_debt_100 (by decide) rfl (fun h17 => ?_) (fun h17 => ?_)
                  · rw [if_neg h17] at hF
                    refine Z_aload_n (i := 0) (pc' := 108) dX8_debt_107 rfl rfl rfl ?_
                    refine Z_iload_n (i := 1) (pc' := 109) dX8_debt_108 rfl rfl rfl ?_
                    obtain ⟨y18, hy18, hF⟩ := bd_of hF
                    refine Z_callVi (As := [.int x1]) (st := []) (pc' := 112) (k' := 0) (n' := 0) (qX8_isLate l hG hy18) ckX8_isLate kvX8_isLate mlX8_177 (mR_obj hG) rfl rfl rfl (Nat.le_of_ble_eq_true rfl) ⟨Nat.le_of_ble_eq_true rfl, Nat.le_of_ble_eq_true rfl⟩ ⟨Nat.le_of_ble_eq_true rfl, Nat.le_of_ble_eq_true rfl⟩ dX8_debt_109 rfl rfl rfl ?_
                    refine Z_if_eq (tgt := 119) (pc' := 115) dX8_debt_112 (by decide) rfl (fun h19 => ?_) (fun h19 => ?_)
                    · rw [if_pos h19] at hF
                      refine Z_iconst (v := 0) (pc' := 120) dX8_debt_119 (by decide) rfl ?_
                      cases hF
                      exact Z_iret (ty := .int) (w := (0 : Int32)) dX8_debt_120 rfl rfl (Nat.le_refl _) (Nat.le_refl _) ⟨rfl, rfl⟩
                    · rw [if_neg h19] at hF
                      refine Z_iconst (v := 2) (pc' := 116) dX8_debt_115 (by decide) rfl ?_
                      refine Z_goto (tgt := 120) dX8_debt_116 (by decide) ?_
                      cases hF
                      exact Z_iret (ty := .int) (w := (2 : Int32)) dX8_debt_120 rfl rfl (Nat.le_refl _) (Nat.le_refl _) ⟨rfl, rfl⟩
                  · rw [if_pos h17] at hF
                    refine Z_iconst (v := 1) (pc' := 104) dX8_debt_103 (by decide) rfl ?_
                    refine Z_goto (tgt := 120) dX8_debt_104 (by decide) ?_
                    cases hF
                    exact Z_iret (ty := .int) (w := (1 : Int32)) dX8_debt_120 rfl rfl (Nat.le_refl _) (Nat.le_refl _) ⟨rfl, rfl⟩
                · rw [if_neg h8] at hF
                  by_cases h9 : x2 = (6 : Int32)
                  · rw [if_pos h9] at hF
                    refine Z_tin (j := 6) (tgt := 121) dX8_debt_15 h9 (by decide) (by decide) rfl (by decide) ?_
                    refine Z_aload_n (i := 0) (pc' := 122) dX8_debt_121 rfl rfl rfl ?_
                    refine Z_get (v := .ref (ad 29)) (pc' := 125) 29 zinX8 rfl (by decide) lkX8_85 (mR_obj hG) rfl dX8_debt_122 rfl ?_
                    refine Z_iload_n (i := 1) (pc' := 126) dX8_debt_125 rfl rfl rfl ?_
                    obtain ⟨h20, hF⟩ := ck_of hF
                    refine Z_iald (pc' := 127) (aR_29 hG) (zIn_in h20) dX8_debt_126 rfl ?_
                    cases hF
                    exact Z_iret (ty := .int) (w := (σ 29 (x1).toNatClampNeg)) dX8_debt_127 rfl rfl (Nat.le_refl _) (Nat.le_refl _) ⟨rfl, rfl⟩
                  · rw [if_neg h9] at hF
                    by_cases h10 : x2 = (7 : Int32)
                    · rw [if_pos h10] at hF
                      refine Z_tin (j := 7) (tgt := 128) dX8_debt_15 h10 (by decide) (by decide) rfl (by decide) ?_
                      refine Z_aload_n (i := 0) (pc' := 129) dX8_debt_128 rfl rfl rfl ?_
                      refine Z_get (v := .ref (ad 30)) (pc' := 132) 30 zinX8 rfl (by decide) lkX8_88 (mR_obj hG) rfl dX8_debt_129 rfl ?_
                      refine Z_iload_n (i := 1) (pc' := 133) dX8_debt_132 rfl rfl rfl ?_
                      obtain ⟨h21, hF⟩ := ck_of hF
                      refine Z_iald (pc' := 134) (aR_30 hG) (zIn_in h21) dX8_debt_133 rfl ?_
                      cases hF
                      exact Z_iret (ty := .int) (w := (σ 30 (x1).toNatClampNeg)) dX8_debt_134 rfl rfl (Nat.le_refl _) (Nat.le_refl _) ⟨rfl, rfl⟩
                    · rw [if_neg h10] at hF
                      refine Z_tout (hi := 7) (tgt := 135) dX8_debt_15 (lt_s (lt_s (lt_s (lt_s (lt_s (lt_s (lt_s (lt_s lt_0 h3) h4) h5) h6) h7) h8) h9) h10) (by decide) ?_
                      refine Z_iconst (v := -1) (pc' := 136) dX8_debt_135 (by decide) rfl ?_
                      cases hF
                      exact Z_iret (ty := .int) (w := (-1 : Int32)) dX8_debt_136 rfl rfl (Nat.le_refl _) (Nat.le_refl _) ⟨rfl, rfl⟩
    · rw [if_neg h2] at hF
      refine Z_iconst (v := -1) (pc' := 13) dX8_debt_12 (by decide) rfl ?_
      cases hF
      exact Z_iret (ty := .int) (w := (-1 : Int32)) dX8_debt_13 rfl rfl (Nat.le_refl _) (Nat.le_refl _) ⟨rfl, rfl⟩
abbrev rmX8_quarrel : Room := { frames := 3, cells := 0, slots := 0, locals := 65 }
def r_quarrel  (x1 : Int32) (x2 : Int32) (σ : zS) : Option (Int32 × zS) := ((r_isMan x1 σ).bind (fun y1 => (if y1.1 = 0 then some ((-1 : Int32), y1.2) else ((r_isMan x2 y1.2).bind (fun y3 => (if y3.1 = 0 then some ((-1 : Int32), y3.2) else (if x1 = x2 then some ((-1 : Int32), y3.2) else ((r_quarrels x1 x2 y3.2).bind (fun y6 => (if y6.1 = 0 then some ((0 : Int32), y6.2) else some ((1 : Int32), y6.2)))))))))))
set_option maxHeartbeats 4000000 in
set_option maxRecDepth 100000 in
theorem qX8_quarrel (l : Launch) {ad dec : Nat → Nat} (hG : rG ad dec) {x1 : Int32} {x2 : Int32} {σ : zS} {w : Int32 × zS} (hF : r_quarrel x1 x2 σ = some w) : zMet l yX8_quarrel cX8_quarrel 3 (some .int) rmX8_quarrel [.ref (ad 42), .int x1, .int x2] (mR ad dec σ) (fun v M' => v = (some (.int w.1)) ∧ M' = (mR ad dec w.2)) := by
  refine zMet.ofZ (vs := [some (.ref (ad 42)), some (.int x1), some (.int x2)]) (by decide) rfl (zCt_of _ ⟨rfl, ⟨rfl, ⟨rfl, trivial⟩⟩⟩) (Nat.le_of_ble_eq_true rfl) (fun D => ?_)
  unfold r_quarrel at hF
  refine Z_aload_n (i := 0) (pc' := 1) dX8_quarrel_0 rfl rfl rfl ?_
  refine Z_iload_n (i := 1) (pc' := 2) dX8_quarrel_1 rfl rfl rfl ?_
  obtain ⟨y1, hy1, hF⟩ := bd_of hF
  refine Z_callVi (As := [.int x1]) (st := []) (pc' := 5) (k' := 0) (n' := 0) (qX8_isMan l hG hy1) ckX8_isMan kvX8_isMan mlX8_140 (mR_obj hG) rfl rfl rfl (Nat.le_of_ble_eq_true rfl) ⟨Nat.le_of_ble_eq_true rfl, Nat.le_of_ble_eq_true rfl⟩ ⟨Nat.le_of_ble_eq_true rfl, Nat.le_of_ble_eq_true rfl⟩ dX8_quarrel_2 rfl rfl rfl ?_
  refine Z_if_eq (tgt := 21) (pc' := 8) dX8_quarrel_5 (by decide) rfl (fun h2 => ?_) (fun h2 => ?_)
  · rw [if_pos h2] at hF
    refine Z_iconst (v := -1) (pc' := 22) dX8_quarrel_21 (by decide) rfl ?_
    cases hF
    exact Z_iret (ty := .int) (w := (-1 : Int32)) dX8_quarrel_22 rfl rfl (Nat.le_refl _) (Nat.le_refl _) ⟨rfl, rfl⟩
  · rw [if_neg h2] at hF
    refine Z_aload_n (i := 0) (pc' := 9) dX8_quarrel_8 rfl rfl rfl ?_
    refine Z_iload_n (i := 2) (pc' := 10) dX8_quarrel_9 rfl rfl rfl ?_
    obtain ⟨y3, hy3, hF⟩ := bd_of hF
    refine Z_callVi (As := [.int x2]) (st := []) (pc' := 13) (k' := 0) (n' := 0) (qX8_isMan l hG hy3) ckX8_isMan kvX8_isMan mlX8_140 (mR_obj hG) rfl rfl rfl (Nat.le_of_ble_eq_true rfl) ⟨Nat.le_of_ble_eq_true rfl, Nat.le_of_ble_eq_true rfl⟩ ⟨Nat.le_of_ble_eq_true rfl, Nat.le_of_ble_eq_true rfl⟩ dX8_quarrel_10 rfl rfl rfl ?_
    refine Z_if_eq (tgt := 21) (pc' := 16) dX8_quarrel_13 (by decide) rfl (fun h4 => ?_) (fun h4 => ?_)
    · rw [if_pos h4] at hF
      refine Z_iconst (v := -1) (pc' := 22) dX8_quarrel_21 (by decide) rfl ?_
      cases hF
      exact Z_iret (ty := .int) (w := (-1 : Int32)) dX8_quarrel_22 rfl rfl (Nat.le_refl _) (Nat.le_refl _) ⟨rfl, rfl⟩
    · rw [if_neg h4] at hF
      refine Z_iload_n (i := 1) (pc' := 17) dX8_quarrel_16 rfl rfl rfl ?_
      refine Z_iload_n (i := 2) (pc' := 18) dX8_quarrel_17 rfl rfl rfl ?_
      refine Z_icmp_ne (tgt := 23) (pc' := 21) dX8_quarrel_18 (by decide) rfl (fun h5 => ?_) (fun h5 => ?_)
      · rw [if_neg h5] at hF
        refine Z_aload_n (i := 0) (pc' := 24) dX8_quarrel_23 rfl rfl rfl ?_
        refine Z_iload_n (i := 1) (pc' := 25) dX8_quarrel_24 rfl rfl rfl ?_
        refine Z_iload_n (i := 2) (pc' := 26) dX8_quarrel_25 rfl rfl rfl ?_
        obtain ⟨y6, hy6, hF⟩ := bd_of hF
        refine Z_callVi (As := [.int x1, .int x2]) (st := []) (pc' := 29) (k' := 0) (n' := 0) (qX8_quarrels l hG hy6) ckX8_quarrels kvX8_quarrels mlX8_188 (mR_obj hG) rfl rfl rfl (Nat.le_of_ble_eq_true rfl) ⟨Nat.le_of_ble_eq_true rfl, Nat.le_of_ble_eq_true rfl⟩ ⟨Nat.le_of_ble_eq_true rfl, Nat.le_of_ble_eq_true rfl⟩ dX8_quarrel_26 rfl rfl rfl ?_
        refine Z_if_eq (tgt := 36) (pc' := 32) dX8_quarrel_29 (by decide) rfl (fun h7 => ?_) (fun h7 => ?_)
        · rw [if_pos h7] at hF
          refine Z_iconst (v := 0) (pc' := 37) dX8_quarrel_36 (by decide) rfl ?_
          cases hF
          exact Z_iret (ty := .int) (w := (0 : Int32)) dX8_quarrel_37 rfl rfl (Nat.le_refl _) (Nat.le_refl _) ⟨rfl, rfl⟩
        · rw [if_neg h7] at hF
          refine Z_iconst (v := 1) (pc' := 33) dX8_quarrel_32 (by decide) rfl ?_
          refine Z_goto (tgt := 37) dX8_quarrel_33 (by decide) ?_
          cases hF
          exact Z_iret (ty := .int) (w := (1 : Int32)) dX8_quarrel_37 rfl rfl (Nat.le_refl _) (Nat.le_refl _) ⟨rfl, rfl⟩
      · rw [if_pos h5] at hF
        refine Z_iconst (v := -1) (pc' := 22) dX8_quarrel_21 (by decide) rfl ?_
        cases hF
        exact Z_iret (ty := .int) (w := (-1 : Int32)) dX8_quarrel_22 rfl rfl (Nat.le_refl _) (Nat.le_refl _) ⟨rfl, rfl⟩
abbrev rmX8_count : Room := { frames := 1, cells := 0, slots := 0, locals := 21 }
def r_count_L84 : Nat → Int32 → Int32 → zS → Option (Int32 × zS)
  | 0, _, _, _ => none
  | n + 1, x2_, x3_, σ => (if (σ 5 0) ≤ x3_ then some (x2_, σ) else (if zIn x3_ 16 = true then (if (σ 9 (x3_).toNatClampNeg) = 0 then zl (x2_ + (0 : Int32)) (fun (v18 : Int32) => zl (x3_ + 1) (fun (v19 : Int32) => (r_count_L84 n v18 v19 σ))) else zl (x2_ + (1 : Int32)) (fun (v20 : Int32) => zl (x3_ + 1) (fun (v21 : Int32) => (r_count_L84 n v20 v21 σ)))) else none))
def r_count_L124 : Nat → Int32 → Int32 → zS → Option (Int32 × zS)
  | 0, _, _, _ => none
  | n + 1, x2_, x3_, σ => (if (σ 11 0) ≤ x3_ then some (x2_, σ) else (if zIn x3_ 24 = true then (if (σ 14 (x3_).toNatClampNeg) = (-1 : Int32) then zl (x2_ + (1 : Int32)) (fun (v28 : Int32) => zl (x3_ + 1) (fun (v29 : Int32) => (r_count_L124 n v28 v29 σ))) else zl (x2_ + (0 : Int32)) (fun (v26 : Int32) => zl (x3_ + 1) (fun (v27 : Int32) => (r_count_L124 n v26 v27 σ)))) else none))
def r_count_L165 : Nat → Int32 → Int32 → zS → Option (Int32 × zS)
  | 0, _, _, _ => none
  | n + 1, x2_, x3_, σ => (if (σ 23 0) ≤ x3_ then some (x2_, σ) else ((r_isOpen x3_ σ).bind (fun y32 => (if y32.1 = 0 then zl (x2_ + (0 : Int32)) (fun (v34 : Int32) => zl (x3_ + 1) (fun (v35 : Int32) => (r_count_L165 n v34 v35 y32.2))) else zl (x2_ + (1 : Int32)) (fun (v36 : Int32) => zl (x3_ + 1) (fun (v37 : Int32) => (r_count_L165 n v36 v37 y32.2)))))))
def r_count  (x1 : Int32) (σ : zS) : Option (Int32 × zS) := (if x1 = (0 : Int32) then some ((σ 4 0), σ) else (if x1 = (1 : Int32) then some ((σ 5 0), σ) else (if x1 = (2 : Int32) then ((r_count_L84 zF (0 : Int32) (0 : Int32) σ).bind (fun r22 => some (r22.1, r22.2))) else (if x1 = (3 : Int32) then some ((σ 11 0), σ) else (if x1 = (4 : Int32) then ((r_count_L124 zF (0 : Int32) (0 : Int32) σ).bind (fun r30 => some (r30.1, r30.2))) else (if x1 = (5 : Int32) then some ((σ 23 0), σ) else (if x1 = (6 : Int32) then ((r_count_L165 zF (0 : Int32) (0 : Int32) σ).bind (fun r38 => some (r38.1, r38.2))) else (if x1 = (7 : Int32) then some ((σ 6 0), σ) else (if x1 = (8 : Int32) then some ((σ 1 0), σ) else (if x1 = (9 : Int32) then some ((-1 : Int32), σ) else (if x1 = (10 : Int32) then (if zIn (x1 - (10 : Int32)) 4 = true then some ((σ 2 (x1 - (10 : Int32)).toNatClampNeg), σ) else none) else (if x1 = (11 : Int32) then (if zIn (x1 - (10 : Int32)) 4 = true then some ((σ 2 (x1 - (10 : Int32)).toNatClampNeg), σ) else none) else (if x1 = (12 : Int32) then (if zIn (x1 - (10 : Int32)) 4 = true then some ((σ 2 (x1 - (10 : Int32)).toNatClampNeg), σ) else none) else (if x1 = (13 : Int32) then (if zIn (x1 - (10 : Int32)) 4 = true then some ((σ 2 (x1 - (10 : Int32)).toNatClampNeg), σ) else none) else some ((-1 : Int32), σ)))))))))))))))
set_option maxHeartbeats 4000000 in
set_option maxRecDepth 100000 in
theorem qX8_count_L84 {l : Launch} {D : va_G} {M0 : zM} {Q : Option Value → zM → Prop} {ad dec : Nat → Nat} (hG : rG ad dec) : ∀ (n : Nat) (x2_ : Int32) (x3_ : Int32) (σ : zS) (r : (Int32 × zS)), r_count_L84 n x2_ x3_ σ = some r → (Z l yX8_count cX8_count 4 (some .int) rmX8_count 0 0 D M0 Q 0 0 115 [none, none, some (.int r.1), none] [] (mR ad dec r.2)) → Z l yX8_count cX8_count 4 (some .int) rmX8_count 0 0 D M0 Q 0 0 84 [some (.ref (ad 42)), none, some (.int x2_), some (.int x3_)] [] (mR ad dec σ) := by
  intro n
  induction n with
  | zero =>
    intro x2_ x3_ σ r hF hE
    exact absurd (show (none : Option (Int32 × zS)) = some r from hF) (by simp)
  | succ n ih =>
    intro x2_ x3_ σ r hF hE
    replace hF : (if (σ 5 0) ≤ x3_ then some (x2_, σ) else (if zIn x3_ 16 = true then (if (σ 9 (x3_).toNatClampNeg) = 0 then zl (x2_ + (0 : Int32)) (fun (v18 : Int32) => zl (x3_ + 1) (fun (v19 : Int32) => (r_count_L84 n v18 v19 σ))) else zl (x2_ + (1 : Int32)) (fun (v20 : Int32) => zl (x3_ + 1) (fun (v21 : Int32) => (r_count_L84 n v20 v21 σ)))) else none)) = some r := hF
    refine Z_iload_n (i := 3) (pc' := 85) dX8_count_84 rfl rfl rfl ?_
    refine Z_aload_n (i := 0) (pc' := 86) dX8_count_85 rfl rfl rfl ?_
    refine Z_get (v := .int (σ 5 0)) (pc' := 89) 5 zinX8 rfl (by decide) lkX8_137 (mR_obj hG) rfl dX8_count_86 rfl ?_
    refine Z_icmp_ge (tgt := 115) (pc' := 92) dX8_count_89 (by decide) rfl (fun h15 => ?_) (fun h15 => ?_)
    · rw [if_pos h15] at hF
      cases hF
      exact Z_sub (vs' := [none, none, some (.int x2_), none]) (zSb_of _ _ ⟨rfl, trivial⟩) hE
    · rw [if_neg h15] at hF
      refine Z_iload_n (i := 2) (pc' := 93) dX8_count_92 rfl rfl rfl ?_
      refine Z_aload_n (i := 0) (pc' := 94) dX8_count_93 rfl rfl rfl ?_
      refine Z_get (v := .ref (ad 9)) (pc' := 97) 9 zinX8 rfl (by decide) lkX8_30 (mR_obj hG) rfl dX8_count_94 rfl ?_
      refine Z_iload_n (i := 3) (pc' := 98) dX8_count_97 rfl rfl rfl ?_
      obtain ⟨h16, hF⟩ := ck_of hF
      refine Z_zald (pc' := 99) (aR_9 hG) (zIn_in h16) dX8_count_98 rfl ?_
      refine Z_if_eq (tgt := 106) (pc' := 102) dX8_count_99 (by decide) rfl (fun h17 => ?_) (fun h17 => ?_)
      · rw [if_pos h17] at hF
        refine Z_iconst (v := 0) (pc' := 107) dX8_count_106 (by decide) rfl ?_
        refine Z_iadd (pc' := 108) dX8_count_107 rfl ?_
        obtain ⟨v18, hv18, hF⟩ := zl_of hF
        refine Z_istore_nE (i := 2) (x' := v18) (vs' := [some (.ref (ad 42)), none, some (.int v18), some (.int x3_)]) (pc' := 109) dX8_count_108 rfl hv18 (by decide) rfl rfl ?_
        obtain ⟨v19, hv19, hF⟩ := zl_of hF
        refine Z_iinc (i := 3) (v := v19) (vs' := [some (.ref (ad 42)), none, some (.int v18), some (.int v19)]) (pc' := 112) dX8_count_109 rfl (by rw [hv19]; rfl) (by decide) rfl rfl ?_
        refine Z_goto (tgt := 84) dX8_count_112 (by decide) ?_
        exact Z_sub (vs' := [some (.ref (ad 42)), none, some (.int v18), some (.int v19)]) (zSb_of _ _ ⟨rfl, ⟨rfl, ⟨rfl, trivial⟩⟩⟩) (ih v18 v19 σ _ hF hE)
      · rw [if_neg h17] at hF
        refine Z_iconst (v := 1) (pc' := 103) dX8_count_102 (by decide) rfl ?_
        refine Z_goto (tgt := 107) dX8_count_103 (by decide) ?_
        refine Z_iadd (pc' := 108) dX8_count_107 rfl ?_
        obtain ⟨v20, hv20, hF⟩ := zl_of hF
        refine Z_istore_nE (i := 2) (x' := v20) (vs' := [some (.ref (ad 42)), none, some (.int v20), some (.int x3_)]) (pc' := 109) dX8_count_108 rfl hv20 (by decide) rfl rfl ?_
        obtain ⟨v21, hv21, hF⟩ := zl_of hF
        refine Z_iinc (i := 3) (v := v21) (vs' := [some (.ref (ad 42)), none, some (.int v20), some (.int v21)]) (pc' := 112) dX8_count_109 rfl (by rw [hv21]; rfl) (by decide) rfl rfl ?_
        refine Z_goto (tgt := 84) dX8_count_112 (by decide) ?_
        exact Z_sub (vs' := [some (.ref (ad 42)), none, some (.int v20), some (.int v21)]) (zSb_of _ _ ⟨rfl, ⟨rfl, ⟨rfl, trivial⟩⟩⟩) (ih v20 v21 σ _ hF hE)
set_option maxHeartbeats 4000000 in
set_option maxRecDepth 100000 in
theorem qX8_count_L124 {l : Launch} {D : va_G} {M0 : zM} {Q : Option Value → zM → Prop} {ad dec : Nat → Nat} (hG : rG ad dec) : ∀ (n : Nat) (x2_ : Int32) (x3_ : Int32) (σ : zS) (r : (Int32 × zS)), r_count_L124 n x2_ x3_ σ = some r → (Z l yX8_count cX8_count 4 (some .int) rmX8_count 0 0 D M0 Q 0 0 156 [none, none, some (.int r.1), none] [] (mR ad dec r.2)) → Z l yX8_count cX8_count 4 (some .int) rmX8_count 0 0 D M0 Q 0 0 124 [some (.ref (ad 42)), none, some (.int x2_), some (.int x3_)] [] (mR ad dec σ) := by
  intro n
  induction n with
  | zero =>
    intro x2_ x3_ σ r hF hE
    exact absurd (show (none : Option (Int32 × zS)) = some r from hF) (by simp)
  | succ n ih =>
    intro x2_ x3_ σ r hF hE
    replace hF : (if (σ 11 0) ≤ x3_ then some (x2_, σ) else (if zIn x3_ 24 = true then (if (σ 14 (x3_).toNatClampNeg) = (-1 : Int32) then zl (x2_ + (1 : Int32)) (fun (v28 : Int32) => zl (x3_ + 1) (fun (v29 : Int32) => (r_count_L124 n v28 v29 σ))) else zl (x2_ + (0 : Int32)) (fun (v26 : Int32) => zl (x3_ + 1) (fun (v27 : Int32) => (r_count_L124 n v26 v27 σ)))) else none)) = some r := hF
    refine Z_iload_n (i := 3) (pc' := 125) dX8_count_124 rfl rfl rfl ?_
    refine Z_aload_n (i := 0) (pc' := 126) dX8_count_125 rfl rfl rfl ?_
    refine Z_get (v := .int (σ 11 0)) (pc' := 129) 11 zinX8 rfl (by decide) lkX8_150 (mR_obj hG) rfl dX8_count_126 rfl ?_
    refine Z_icmp_ge (tgt := 156) (pc' := 132) dX8_count_129 (by decide) rfl (fun h23 => ?_) (fun h23 => ?_)
    · rw [if_pos h23] at hF
      cases hF
      exact Z_sub (vs' := [none, none, some (.int x2_), none]) (zSb_of _ _ ⟨rfl, trivial⟩) hE
    · rw [if_neg h23] at hF
      refine Z_iload_n (i := 2) (pc' := 133) dX8_count_132 rfl rfl rfl ?_
      refine Z_aload_n (i := 0) (pc' := 134) dX8_count_133 rfl rfl rfl ?_
      refine Z_get (v := .ref (ad 14)) (pc' := 137) 14 zinX8 rfl (by decide) lkX8_43 (mR_obj hG) rfl dX8_count_134 rfl ?_
      refine Z_iload_n (i := 3) (pc' := 138) dX8_count_137 rfl rfl rfl ?_
      obtain ⟨h24, hF⟩ := ck_of hF
      refine Z_iald (pc' := 139) (aR_14 hG) (zIn_in h24) dX8_count_138 rfl ?_
      refine Z_iconst (v := -1) (pc' := 140) dX8_count_139 (by decide) rfl ?_
      refine Z_icmp_ne (tgt := 147) (pc' := 143) dX8_count_140 (by decide) rfl (fun h25 => ?_) (fun h25 => ?_)
      · rw [if_neg h25] at hF
        refine Z_iconst (v := 0) (pc' := 148) dX8_count_147 (by decide) rfl ?_
        refine Z_iadd (pc' := 149) dX8_count_148 rfl ?_
        obtain ⟨v26, hv26, hF⟩ := zl_of hF
        refine Z_istore_nE (i := 2) (x' := v26) (vs' := [some (.ref (ad 42)), none, some (.int v26), some (.int x3_)]) (pc' := 150) dX8_count_149 rfl hv26 (by decide) rfl rfl ?_
        obtain ⟨v27, hv27, hF⟩ := zl_of hF
        refine Z_iinc (i := 3) (v := v27) (vs' := [some (.ref (ad 42)), none, some (.int v26), some (.int v27)]) (pc' := 153) dX8_count_150 rfl (by rw [hv27]; rfl) (by decide) rfl rfl ?_
        refine Z_goto (tgt := 124) dX8_count_153 (by decide) ?_
        exact Z_sub (vs' := [some (.ref (ad 42)), none, some (.int v26), some (.int v27)]) (zSb_of _ _ ⟨rfl, ⟨rfl, ⟨rfl, trivial⟩⟩⟩) (ih v26 v27 σ _ hF hE)
      · rw [if_pos h25] at hF
        refine Z_iconst (v := 1) (pc' := 144) dX8_count_143 (by decide) rfl ?_
        refine Z_goto (tgt := 148) dX8_count_144 (by decide) ?_
        refine Z_iadd (pc' := 149) dX8_count_148 rfl ?_
        obtain ⟨v28, hv28, hF⟩ := zl_of hF
        refine Z_istore_nE (i := 2) (x' := v28) (vs' := [some (.ref (ad 42)), none, some (.int v28), some (.int x3_)]) (pc' := 150) dX8_count_149 rfl hv28 (by decide) rfl rfl ?_
        obtain ⟨v29, hv29, hF⟩ := zl_of hF
        refine Z_iinc (i := 3) (v := v29) (vs' := [some (.ref (ad 42)), none, some (.int v28), some (.int v29)]) (pc' := 153) dX8_count_150 rfl (by rw [hv29]; rfl) (by decide) rfl rfl ?_
        refine Z_goto (tgt := 124) dX8_count_153 (by decide) ?_
        exact Z_sub (vs' := [some (.ref (ad 42)), none, some (.int v28), some (.int v29)]) (zSb_of _ _ ⟨rfl, ⟨rfl, ⟨rfl, trivial⟩⟩⟩) (ih v28 v29 σ _ hF hE)
set_option maxHeartbeats 4000000 in
set_option maxRecDepth 100000 in
theorem qX8_count_L165 {l : Launch} {D : va_G} {M0 : zM} {Q : Option Value → zM → Prop} {ad dec : Nat → Nat} (hG : rG ad dec) : ∀ (n : Nat) (x2_ : Int32) (x3_ : Int32) (σ : zS) (r : (Int32 × zS)), r_count_L165 n x2_ x3_ σ = some r → (Z l yX8_count cX8_count 4 (some .int) rmX8_count 0 0 D M0 Q 0 0 195 [none, none, some (.int r.1), none] [] (mR ad dec r.2)) → Z l yX8_count cX8_count 4 (some .int) rmX8_count 0 0 D M0 Q 0 0 165 [some (.ref (ad 42)), none, some (.int x2_), some (.int x3_)] [] (mR ad dec σ) := by
  intro n
  induction n with
  | zero =>
    intro x2_ x3_ σ r hF hE
    exact absurd (show (none : Option (Int32 × zS)) = some r from hF) (by simp)
  | succ n ih =>
    intro x2_ x3_ σ r hF hE
    replace hF : (if (σ 23 0) ≤ x3_ then some (x2_, σ) else ((r_isOpen x3_ σ).bind (fun y32 => (if y32.1 = 0 then zl (x2_ + (0 : Int32)) (fun (v34 : Int32) => zl (x3_ + 1) (fun (v35 : Int32) => (r_count_L165 n v34 v35 y32.2))) else zl (x2_ + (1 : Int32)) (fun (v36 : Int32) => zl (x3_ + 1) (fun (v37 : Int32) => (r_count_L165 n v36 v37 y32.2))))))) = some r := hF
    refine Z_iload_n (i := 3) (pc' := 166) dX8_count_165 rfl rfl rfl ?_
    refine Z_aload_n (i := 0) (pc' := 167) dX8_count_166 rfl rfl rfl ?_
    refine Z_get (v := .int (σ 23 0)) (pc' := 170) 23 zinX8 rfl (by decide) lkX8_174 (mR_obj hG) rfl dX8_count_167 rfl ?_
    refine Z_icmp_ge (tgt := 195) (pc' := 173) dX8_count_170 (by decide) rfl (fun h31 => ?_) (fun h31 => ?_)
    · rw [if_pos h31] at hF
      cases hF
      exact Z_sub (vs' := [none, none, some (.int x2_), none]) (zSb_of _ _ ⟨rfl, trivial⟩) hE
    · rw [if_neg h31] at hF
      refine Z_iload_n (i := 2) (pc' := 174) dX8_count_173 rfl rfl rfl ?_
      refine Z_aload_n (i := 0) (pc' := 175) dX8_count_174 rfl rfl rfl ?_
      refine Z_iload_n (i := 3) (pc' := 176) dX8_count_175 rfl rfl rfl ?_
      obtain ⟨y32, hy32, hF⟩ := bd_of hF
      refine Z_callVi (As := [.int x3_]) (st := [.int x2_]) (pc' := 179) (k' := 0) (n' := 0) (qX8_isOpen l hG hy32) ckX8_isOpen kvX8_isOpen mlX8_171 (mR_obj hG) rfl rfl rfl (Nat.le_of_ble_eq_true rfl) ⟨Nat.le_of_ble_eq_true rfl, Nat.le_of_ble_eq_true rfl⟩ ⟨Nat.le_of_ble_eq_true rfl, Nat.le_of_ble_eq_true rfl⟩ dX8_count_176 rfl rfl rfl ?_
      refine Z_if_eq (tgt := 186) (pc' := 182) dX8_count_179 (by decide) rfl (fun h33 => ?_) (fun h33 => ?_)
      · rw [if_pos h33] at hF
        refine Z_iconst (v := 0) (pc' := 187) dX8_count_186 (by decide) rfl ?_
        refine Z_iadd (pc' := 188) dX8_count_187 rfl ?_
        obtain ⟨v34, hv34, hF⟩ := zl_of hF
        refine Z_istore_nE (i := 2) (x' := v34) (vs' := [some (.ref (ad 42)), none, some (.int v34), some (.int x3_)]) (pc' := 189) dX8_count_188 rfl hv34 (by decide) rfl rfl ?_
        obtain ⟨v35, hv35, hF⟩ := zl_of hF
        refine Z_iinc (i := 3) (v := v35) (vs' := [some (.ref (ad 42)), none, some (.int v34), some (.int v35)]) (pc' := 192) dX8_count_189 rfl (by rw [hv35]; rfl) (by decide) rfl rfl ?_
        refine Z_goto (tgt := 165) dX8_count_192 (by decide) ?_
        exact Z_sub (vs' := [some (.ref (ad 42)), none, some (.int v34), some (.int v35)]) (zSb_of _ _ ⟨rfl, ⟨rfl, ⟨rfl, trivial⟩⟩⟩) (ih v34 v35 y32.2 _ hF hE)
      · rw [if_neg h33] at hF
        refine Z_iconst (v := 1) (pc' := 183) dX8_count_182 (by decide) rfl ?_
        refine Z_goto (tgt := 187) dX8_count_183 (by decide) ?_
        refine Z_iadd (pc' := 188) dX8_count_187 rfl ?_
        obtain ⟨v36, hv36, hF⟩ := zl_of hF
        refine Z_istore_nE (i := 2) (x' := v36) (vs' := [some (.ref (ad 42)), none, some (.int v36), some (.int x3_)]) (pc' := 189) dX8_count_188 rfl hv36 (by decide) rfl rfl ?_
        obtain ⟨v37, hv37, hF⟩ := zl_of hF
        refine Z_iinc (i := 3) (v := v37) (vs' := [some (.ref (ad 42)), none, some (.int v36), some (.int v37)]) (pc' := 192) dX8_count_189 rfl (by rw [hv37]; rfl) (by decide) rfl rfl ?_
        refine Z_goto (tgt := 165) dX8_count_192 (by decide) ?_
        exact Z_sub (vs' := [some (.ref (ad 42)), none, some (.int v36), some (.int v37)]) (zSb_of _ _ ⟨rfl, ⟨rfl, ⟨rfl, trivial⟩⟩⟩) (ih v36 v37 y32.2 _ hF hE)
set_option maxHeartbeats 4000000 in
set_option maxRecDepth 100000 in
theorem qX8_count (l : Launch) {ad dec : Nat → Nat} (hG : rG ad dec) {x1 : Int32} {σ : zS} {w : Int32 × zS} (hF : r_count x1 σ = some w) : zMet l yX8_count cX8_count 4 (some .int) rmX8_count [.ref (ad 42), .int x1] (mR ad dec σ) (fun v M' => v = (some (.int w.1)) ∧ M' = (mR ad dec w.2)) := by
  refine zMet.ofZ (vs := [some (.ref (ad 42)), some (.int x1), none, none]) (by decide) rfl (zCt_of _ ⟨rfl, ⟨rfl, trivial⟩⟩) (Nat.le_of_ble_eq_true rfl) (fun D => ?_)
  unfold r_count at hF
  refine Z_iconst (v := 0) (pc' := 1) dX8_count_0 (by decide) rfl ?_
  refine Z_istore_nE (i := 2) (x' := (0 : Int32)) (vs' := [some (.ref (ad 42)), some (.int x1), some (.int (0 : Int32)), none]) (pc' := 2) dX8_count_1 rfl rfl (by decide) rfl rfl ?_
  refine Z_iload_n (i := 1) (pc' := 3) dX8_count_2 rfl rfl rfl ?_
  by_cases h1 : x1 = (0 : Int32)
  · rw [if_pos h1] at hF
    refine Z_tin (j := 0) (tgt := 72) dX8_count_3 h1 (by decide) (by decide) rfl (by decide) ?_
    refine Z_aload_n (i := 0) (pc' := 73) dX8_count_72 rfl rfl rfl ?_
    refine Z_get (v := .int (σ 4 0)) (pc' := 76) 4 zinX8 rfl (by decide) lkX8_20 (mR_obj hG) rfl dX8_count_73 rfl ?_
    cases hF
    exact Z_iret (ty := .int) (w := (σ 4 0)) dX8_count_76 rfl rfl (Nat.le_refl _) (Nat.le_refl _) ⟨rfl, rfl⟩
  · rw [if_neg h1] at hF
    by_cases h2 : x1 = (1 : Int32)
    · rw [if_pos h2] at hF
      refine Z_tin (j := 1) (tgt := 77) dX8_count_3 h2 (by decide) (by decide) rfl (by decide) ?_
      refine Z_aload_n (i := 0) (pc' := 78) dX8_count_77 rfl rfl rfl ?_
      refine Z_get (v := .int (σ 5 0)) (pc' := 81) 5 zinX8 rfl (by decide) lkX8_137 (mR_obj hG) rfl dX8_count_78 rfl ?_
      cases hF
      exact Z_iret (ty := .int) (w := (σ 5 0)) dX8_count_81 rfl rfl (Nat.le_refl _) (Nat.le_refl _) ⟨rfl, rfl⟩
    · rw [if_neg h2] at hF
      by_cases h3 : x1 = (2 : Int32)
      · rw [if_pos h3] at hF
        refine Z_tin (j := 2) (tgt := 82) dX8_count_3 h3 (by decide) (by decide) rfl (by decide) ?_
        refine Z_iconst (v := 0) (pc' := 83) dX8_count_82 (by decide) rfl ?_
        refine Z_istore_nE (i := 3) (x' := (0 : Int32)) (vs' := [some (.ref (ad 42)), some (.int x1), some (.int (0 : Int32)), some (.int (0 : Int32))]) (pc' := 84) dX8_count_83 rfl rfl (by decide) rfl rfl ?_
        obtain ⟨r22, hr22, hF⟩ := bd_of hF
        refine Z_sub (vs' := [some (.ref (ad 42)), none, some (.int (0 : Int32)), some (.int (0 : Int32))]) (zSb_of _ _ ⟨rfl, ⟨rfl, ⟨rfl, trivial⟩⟩⟩) (qX8_count_L84 hG zF (0 : Int32) (0 : Int32) σ _ hr22 ?_)
        refine Z_iload_n (i := 2) (pc' := 116) dX8_count_115 rfl rfl rfl ?_
        cases hF
        exact Z_iret (ty := .int) (w := r22.1) dX8_count_116 rfl rfl (Nat.le_refl _) (Nat.le_refl _) ⟨rfl, rfl⟩
      · rw [if_neg h3] at hF
        by_cases h4 : x1 = (3 : Int32)
        · rw [if_pos h4] at hF
          refine Z_tin (j := 3) (tgt := 117) dX8_count_3 h4 (by decide) (by decide) rfl (by decide) ?_
          refine Z_aload_n (i := 0) (pc' := 118) dX8_count_117 rfl rfl rfl ?_
          refine Z_get (v := .int (σ 11 0)) (pc' := 121) 11 zinX8 rfl (by decide) lkX8_150 (mR_obj hG) rfl dX8_count_118 rfl ?_
          cases hF
          exact Z_iret (ty := .int) (w := (σ 11 0)) dX8_count_121 rfl rfl (Nat.le_refl _) (Nat.le_refl _) ⟨rfl, rfl⟩
        · rw [if_neg h4] at hF
          by_cases h5 : x1 = (4 : Int32)
          · rw [if_pos h5] at hF
            refine Z_tin (j := 4) (tgt := 122) dX8_count_3 h5 (by decide) (by decide) rfl (by decide) ?_
            refine Z_iconst (v := 0) (pc' := 123) dX8_count_122 (by decide) rfl ?_
            refine Z_istore_nE (i := 3) (x' := (0 : Int32)) (vs' := [some (.ref (ad 42)), some (.int x1), some (.int (0 : Int32)), some (.int (0 : Int32))]) (pc' := 124) dX8_count_123 rfl rfl (by decide) rfl rfl ?_
            obtain ⟨r30, hr30, hF⟩ := bd_of hF
            refine Z_sub (vs' := [some (.ref (ad 42)), none, some (.int (0 : Int32)), some (.int (0 : Int32))]) (zSb_of _ _ ⟨rfl, ⟨rfl, ⟨rfl, trivial⟩⟩⟩) (qX8_count_L124 hG zF (0 : Int32) (0 : Int32) σ _ hr30 ?_)
            refine Z_iload_n (i := 2) (pc' := 157) dX8_count_156 rfl rfl rfl ?_
            cases hF
            exact Z_iret (ty := .int) (w := r30.1) dX8_count_157 rfl rfl (Nat.le_refl _) (Nat.le_refl _) ⟨rfl, rfl⟩
          · rw [if_neg h5] at hF
            by_cases h6 : x1 = (5 : Int32)
            · rw [if_pos h6] at hF
              refine Z_tin (j := 5) (tgt := 158) dX8_count_3 h6 (by decide) (by decide) rfl (by decide) ?_
              refine Z_aload_n (i := 0) (pc' := 159) dX8_count_158 rfl rfl rfl ?_
              refine Z_get (v := .int (σ 23 0)) (pc' := 162) 23 zinX8 rfl (by decide) lkX8_174 (mR_obj hG) rfl dX8_count_159 rfl ?_
              cases hF
              exact Z_iret (ty := .int) (w := (σ 23 0)) dX8_count_162 rfl rfl (Nat.le_refl _) (Nat.le_refl _) ⟨rfl, rfl⟩
            · rw [if_neg h6] at hF
              by_cases h7 : x1 = (6 : Int32)
              · rw [if_pos h7] at hF
                refine Z_tin (j := 6) (tgt := 163) dX8_count_3 h7 (by decide) (by decide) rfl (by decide) ?_
                refine Z_iconst (v := 0) (pc' := 164) dX8_count_163 (by decide) rfl ?_
                refine Z_istore_nE (i := 3) (x' := (0 : Int32)) (vs' := [some (.ref (ad 42)), some (.int x1), some (.int (0 : Int32)), some (.int (0 : Int32))]) (pc' := 165) dX8_count_164 rfl rfl (by decide) rfl rfl ?_
                obtain ⟨r38, hr38, hF⟩ := bd_of hF
                refine Z_sub (vs' := [some (.ref (ad 42)), none, some (.int (0 : Int32)), some (.int (0 : Int32))]) (zSb_of _ _ ⟨rfl, ⟨rfl, ⟨rfl, trivial⟩⟩⟩) (qX8_count_L165 hG zF (0 : Int32) (0 : Int32) σ _ hr38 ?_)
                refine Z_iload_n (i := 2) (pc' := 196) dX8_count_195 rfl rfl rfl ?_
                cases hF
                exact Z_iret (ty := .int) (w := r38.1) dX8_count_196 rfl rfl (Nat.le_refl _) (Nat.le_refl _) ⟨rfl, rfl⟩
              · rw [if_neg h7] at hF
                by_cases h8 : x1 = (7 : Int32)
                · rw [if_pos h8] at hF
                  refine Z_tin (j := 7) (tgt := 197) dX8_count_3 h8 (by decide) (by decide) rfl (by decide) ?_
                  refine Z_aload_n (i := 0) (pc' := 198) dX8_count_197 rfl rfl rfl ?_
                  refine Z_get (v := .int (σ 6 0)) (pc' := 201) 6 zinX8 rfl (by decide) lkX8_153 (mR_obj hG) rfl dX8_count_198 rfl ?_
                  cases hF
                  exact Z_iret (ty := .int) (w := (σ 6 0)) dX8_count_201 rfl rfl (Nat.le_refl _) (Nat.le_refl _) ⟨rfl, rfl⟩
                · rw [if_neg h8] at hF
                  by_cases h9 : x1 = (8 : Int32)
                  · rw [if_pos h9] at hF
                    refine Z_tin (j := 8) (tgt := 202) dX8_count_3 h9 (by decide) (by decide) rfl (by decide) ?_
                    refine Z_aload_n (i := 0) (pc' := 203) dX8_count_202 rfl rfl rfl ?_
                    refine Z_get (v := .int (σ 1 0)) (pc' := 206) 1 zinX8 rfl (by decide) lkX8_116 (mR_obj hG) rfl dX8_count_203 rfl ?_
                    cases hF
                    exact Z_iret (ty := .int) (w := (σ 1 0)) dX8_count_206 rfl rfl (Nat.le_refl _) (Nat.le_refl _) ⟨rfl, rfl⟩
                  · rw [if_neg h9] at hF
                    by_cases h10 : x1 = (9 : Int32)
                    · rw [if_pos h10] at hF
                      refine Z_tin (j := 9) (tgt := 217) dX8_count_3 h10 (by decide) (by decide) rfl (by decide) ?_
                      refine Z_iconst (v := -1) (pc' := 218) dX8_count_217 (by decide) rfl ?_
                      cases hF
                      exact Z_iret (ty := .int) (w := (-1 : Int32)) dX8_count_218 rfl rfl (Nat.le_refl _) (Nat.le_refl _) ⟨rfl, rfl⟩
                    · rw [if_neg h10] at hF
                      by_cases h11 : x1 = (10 : Int32)
                      · rw [if_pos h11] at hF
                        refine Z_tin (j := 10) (tgt := 207) dX8_count_3 h11 (by decide) (by decide) rfl (by decide) ?_
                        refine Z_aload_n (i := 0) (pc' := 208) dX8_count_207 rfl rfl rfl ?_
                        refine Z_get (v := .ref (ad 2)) (pc' := 211) 2 zinX8 rfl (by decide) lkX8_13 (mR_obj hG) rfl dX8_count_208 rfl ?_
                        refine Z_iload_n (i := 1) (pc' := 212) dX8_count_211 rfl rfl rfl ?_
                        refine Z_bipush (v := 10) (pc' := 214) dX8_count_212 (by decide) rfl ?_
                        refine Z_isub (pc' := 215) dX8_count_214 rfl ?_
                        obtain ⟨h39, hF⟩ := ck_of hF
                        refine Z_iald (pc' := 216) (aR_2 hG) (zIn_in h39) dX8_count_215 rfl ?_
                        cases hF
                        exact Z_iret (ty := .int) (w := (σ 2 (x1 - (10 : Int32)).toNatClampNeg)) dX8_count_216 rfl rfl (Nat.le_refl _) (Nat.le_refl _) ⟨rfl, rfl⟩
                      · rw [if_neg h11] at hF
                        by_cases h12 : x1 = (11 : Int32)
                        · rw [if_pos h12] at hF
                          refine Z_tin (j := 11) (tgt := 207) dX8_count_3 h12 (by decide) (by decide) rfl (by decide) ?_
                          refine Z_aload_n (i := 0) (pc' := 208) dX8_count_207 rfl rfl rfl ?_
                          refine Z_get (v := .ref (ad 2)) (pc' := 211) 2 zinX8 rfl (by decide) lkX8_13 (mR_obj hG) rfl dX8_count_208 rfl ?_
                          refine Z_iload_n (i := 1) (pc' := 212) dX8_count_211 rfl rfl rfl ?_
                          refine Z_bipush (v := 10) (pc' := 214) dX8_count_212 (by decide) rfl ?_
                          refine Z_isub (pc' := 215) dX8_count_214 rfl ?_
                          obtain ⟨h40, hF⟩ := ck_of hF
                          refine Z_iald (pc' := 216) (aR_2 hG) (zIn_in h40) dX8_count_215 rfl ?_
                          cases hF
                          exact Z_iret (ty := .int) (w := (σ 2 (x1 - (10 : Int32)).toNatClampNeg)) dX8_count_216 rfl rfl (Nat.le_refl _) (Nat.le_refl _) ⟨rfl, rfl⟩
                        · rw [if_neg h12] at hF
                          by_cases h13 : x1 = (12 : Int32)
                          · rw [if_pos h13] at hF
                            refine Z_tin (j := 12) (tgt := 207) dX8_count_3 h13 (by decide) (by decide) rfl (by decide) ?_
                            refine Z_aload_n (i := 0) (pc' := 208) dX8_count_207 rfl rfl rfl ?_
                            refine Z_get (v := .ref (ad 2)) (pc' := 211) 2 zinX8 rfl (by decide) lkX8_13 (mR_obj hG) rfl dX8_count_208 rfl ?_
                            refine Z_iload_n (i := 1) (pc' := 212) dX8_count_211 rfl rfl rfl ?_
                            refine Z_bipush (v := 10) (pc' := 214) dX8_count_212 (by decide) rfl ?_
                            refine Z_isub (pc' := 215) dX8_count_214 rfl ?_
                            obtain ⟨h41, hF⟩ := ck_of hF
                            refine Z_iald (pc' := 216) (aR_2 hG) (zIn_in h41) dX8_count_215 rfl ?_
                            cases hF
                            exact Z_iret (ty := .int) (w := (σ 2 (x1 - (10 : Int32)).toNatClampNeg)) dX8_count_216 rfl rfl (Nat.le_refl _) (Nat.le_refl _) ⟨rfl, rfl⟩
                          · rw [if_neg h13] at hF
                            by_cases h14 : x1 = (13 : Int32)
                            · rw [if_pos h14] at hF
                              refine Z_tin (j := 13) (tgt := 207) dX8_count_3 h14 (by decide) (by decide) rfl (by decide) ?_
                              refine Z_aload_n (i := 0) (pc' := 208) dX8_count_207 rfl rfl rfl ?_
                              refine Z_get (v := .ref (ad 2)) (pc' := 211) 2 zinX8 rfl (by decide) lkX8_13 (mR_obj hG) rfl dX8_count_208 rfl ?_
                              refine Z_iload_n (i := 1) (pc' := 212) dX8_count_211 rfl rfl rfl ?_
                              refine Z_bipush (v := 10) (pc' := 214) dX8_count_212 (by decide) rfl ?_
                              refine Z_isub (pc' := 215) dX8_count_214 rfl ?_
                              obtain ⟨h42, hF⟩ := ck_of hF
                              refine Z_iald (pc' := 216) (aR_2 hG) (zIn_in h42) dX8_count_215 rfl ?_
                              cases hF
                              exact Z_iret (ty := .int) (w := (σ 2 (x1 - (10 : Int32)).toNatClampNeg)) dX8_count_216 rfl rfl (Nat.le_refl _) (Nat.le_refl _) ⟨rfl, rfl⟩
                            · rw [if_neg h14] at hF
                              refine Z_tout (hi := 13) (tgt := 217) dX8_count_3 (lt_s (lt_s (lt_s (lt_s (lt_s (lt_s (lt_s (lt_s (lt_s (lt_s (lt_s (lt_s (lt_s (lt_s lt_0 h1) h2) h3) h4) h5) h6) h7) h8) h9) h10) h11) h12) h13) h14) (by decide) ?_
                              refine Z_iconst (v := -1) (pc' := 218) dX8_count_217 (by decide) rfl ?_
                              cases hF
                              exact Z_iret (ty := .int) (w := (-1 : Int32)) dX8_count_218 rfl rfl (Nat.le_refl _) (Nat.le_refl _) ⟨rfl, rfl⟩
