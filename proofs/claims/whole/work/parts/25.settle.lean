theorem cl_debt : Cond.classLink RX7 157 RX1 ∈ zT ∧ Cond.instantiable RX1 8 ∈ zT ∧ Cond.initialized RX1 ∈ zT := ⟨by decide +kernel, by decide +kernel, by decide +kernel⟩
abbrev rmX7_settle : Room := { frames := 3, cells := 1, slots := 8, locals := 80 }
/-- from the new debt on -/
def c7_settleN (c : Nat → Nat) (x1 x2 x3 : Int32) (i4 : Nat) (σ : zS) : Option (Int32 × (Nat → Nat) × zS) :=
  if i4 < c 1 ∧ c 5 = c 2 then
    (c0_needFor (va_up c 2 (c 2 + 1)) (σ 51 i4) (cDbσ σ (c 2) x2 x1 x3 (σ 50 i4) 0 0 (-1) 0)).bind (fun y1 =>
      (c0_seasonsTillDue (va_up c 2 (c 2 + 1)) (zs y1.2 64 (c 2) y1.1)).bind (fun y2 =>
        (c2_append (va_up c 2 (c 2 + 1)) (c 2) (zs y2.2 65 (c 2) (((zs y1.2 64 (c 2) y1.1) 33 0) + y2.1))).bind (fun y3 => some ((0 : Int32), y3.1, y3.2))))
  else none
set_option maxHeartbeats 4000000 in
set_option maxRecDepth 100000 in
theorem qX7_settle_T {l : Launch} {D : va_G} {M0 : zM} {Q : Option Value → zM → Prop} {c ad dec : Nat → Nat} (hG : cG c ad dec) {i4 j8 : Nat} (h4 : i4 < c 1) (h8 : j8 < c 2) {σ : zS} {y1 y2 : Int32 × zS} {y3 : (Nat → Nat) × zS} (e51 : Int32) (e33 : Int32) (g51 : σ 51 i4 = e51) (hy1 : c0_needFor c e51 σ = some y1) (g33 : (zs y1.2 64 j8 y1.1) 33 0 = e33) (hy2 : c0_seasonsTillDue c (zs y1.2 64 j8 y1.1) = some y2) (hy3 : c2_append c j8 (zs y2.2 65 j8 (e33 + y2.1)) = some y3) (hQ : cG y3.1 ad dec → Q (some (.int 0)) (mC y3.1 ad dec y3.2)) :
    Z l yX7_settle cX7_settle 9 (some .int) rmX7_settle 1 8 D M0 Q 1 8 125 [some (.ref (ad 0)), none, none, none, some (.ref (ad (8 * i4 + 2))), none, none, none, some (.ref (ad (8 * j8 + 5)))] [] (mC c ad dec σ) := by
  subst g51
  subst g33
  refine Z_aload (i := 8) (pc' := 127) dX7_settle_125 rfl rfl ?_
  refine Z_aload_n (i := 0) (pc' := 128) dX7_settle_127 rfl rfl rfl ?_
  refine Z_get (v := .ref (ad 24)) (pc' := 131) 1 zinX7 rfl (by decide) lkX7_19 (eC_0 hG) rfl dX7_settle_128 rfl ?_
  refine Z_aload (i := 4) (pc' := 133) dX7_settle_131 rfl rfl ?_
  refine Z_get (v := .int (σ 51 i4)) (pc' := 136) 1 zinX6 rfl (by decide) lkX7_146 (eC_tr hG h4) rfl dX7_settle_133 rfl ?_
  refine Z_callVi (As := [.int (σ 51 i4)]) (st := [.ref (ad (8 * j8 + 5))]) (pc' := 139) (k' := 1) (n' := 8) (qX0_needFor l hG hy1) ckX0_needFor kvX0_needFor mlX7_182 (eC_3 hG) rfl rfl rfl (Nat.le_of_ble_eq_true rfl) ⟨Nat.le_of_ble_eq_true rfl, Nat.le_of_ble_eq_true rfl⟩ ⟨Nat.le_of_ble_eq_true rfl, Nat.le_of_ble_eq_true rfl⟩ dX7_settle_136 rfl rfl rfl ?_
  refine Z_put (pc' := 142) 4 zinX1 tyX1_ok nmX1 rfl (by decide) lkX7_185 rfl (eC_db hG h8) rfl rfl rfl (Nat.le_of_ble_eq_true rfl) rfl dX7_settle_139 rfl ?_
  refine Z_mem (pdb_64 hG h8 (σ' := zs y1.2 64 j8 y1.1) rfl) ?_
  refine Z_aload (i := 8) (pc' := 144) dX7_settle_142 rfl rfl ?_
  refine Z_aload_n (i := 0) (pc' := 145) dX7_settle_144 rfl rfl rfl ?_
  refine Z_get (v := .int ((zs y1.2 64 j8 y1.1) 33 0)) (pc' := 148) 10 zinX7 rfl (by decide) lkX7_63 (eC_0 hG) rfl dX7_settle_145 rfl ?_
  refine Z_aload_n (i := 0) (pc' := 149) dX7_settle_148 rfl rfl rfl ?_
  refine Z_get (v := .ref (ad 24)) (pc' := 152) 1 zinX7 rfl (by decide) lkX7_19 (eC_0 hG) rfl dX7_settle_149 rfl ?_
  refine Z_callVi (As := []) (st := [.int ((zs y1.2 64 j8 y1.1) 33 0), .ref (ad (8 * j8 + 5))]) (pc' := 155) (k' := 1) (n' := 8) (qX0_seasonsTillDue l hG hy2) ckX0_seasonsTillDue kvX0_seasonsTillDue mlX7_188 (eC_3 hG) rfl rfl rfl (Nat.le_of_ble_eq_true rfl) ⟨Nat.le_of_ble_eq_true rfl, Nat.le_of_ble_eq_true rfl⟩ ⟨Nat.le_of_ble_eq_true rfl, Nat.le_of_ble_eq_true rfl⟩ dX7_settle_152 rfl rfl rfl ?_
  refine Z_iadd (pc' := 156) dX7_settle_155 rfl ?_
  refine Z_put (pc' := 159) 5 zinX1 tyX1_ok nmX1 rfl (by decide) lkX7_191 rfl (eC_db hG h8) rfl rfl rfl (Nat.le_of_ble_eq_true rfl) rfl dX7_settle_156 rfl ?_
  refine Z_mem (pdb_65 hG h8 (σ' := zs y2.2 65 j8 (((zs y1.2 64 j8 y1.1) 33 0) + y2.1)) rfl) ?_
  refine Z_aload_n (i := 0) (pc' := 160) dX7_settle_159 rfl rfl rfl ?_
  refine Z_get (v := .ref (ad 64)) (pc' := 163) 4 zinX7 rfl (by decide) lkX7_38 (eC_0 hG) rfl dX7_settle_160 rfl ?_
  refine Z_aload (i := 8) (pc' := 165) dX7_settle_163 rfl rfl ?_
  refine Z_callV (As := [.ref (ad (8 * j8 + 5))]) (st := []) (pc' := 168) (k' := 1) (n' := 8) (qX2_append l hG hy3) ckX2_append kvX2_append mlX7_194 (eC_8 hG) rfl rfl rfl (Nat.le_of_ble_eq_true rfl) ⟨Nat.le_of_ble_eq_true rfl, Nat.le_of_ble_eq_true rfl⟩ ⟨Nat.le_of_ble_eq_true rfl, Nat.le_of_ble_eq_true rfl⟩ dX7_settle_165 rfl rfl rfl (fun v M' h => ?_)
  obtain ⟨rfl, hG3, rfl⟩ := h
  refine Z_iconst (v := 0) (pc' := 169) dX7_settle_168 (by decide) rfl ?_
  exact Z_iret (ty := .int) (w := 0) dX7_settle_169 rfl rfl (Nat.le_refl _) (Nat.le_refl _) (hQ hG3)
set_option maxHeartbeats 4000000 in
set_option maxRecDepth 100000 in
theorem qX7_settle_N {l : Launch} {D : va_G} {M0 : zM} {Q : Option Value → zM → Prop} {c ad dec : Nat → Nat} (hG : cG c ad dec) {x1 x2 x3 : Int32} {i4 : Nat} {σ : zS} {w : Int32 × (Nat → Nat) × zS} (hF : c7_settleN c x1 x2 x3 i4 σ = some w) (hQ : ∀ ad' dec', cG w.2.1 ad' dec' → (∀ t, cL c t → ad' t = ad t) → Q (some (.int w.1)) (mC w.2.1 ad' dec' w.2.2)) :
    Z l yX7_settle cX7_settle 9 (some .int) rmX7_settle 1 8 D M0 Q 0 0 108 [some (.ref (ad 0)), some (.int x1), some (.int x2), some (.int x3), some (.ref (ad (8 * i4 + 2))), none, none, none, none] [] (mC c ad dec σ) := by
  unfold c7_settleN at hF
  obtain ⟨⟨h4, h5⟩, hF⟩ := ck_of hF
  obtain ⟨y1, hy1, hF⟩ := bd_of hF
  obtain ⟨y2, hy2, hF⟩ := bd_of hF
  obtain ⟨y3, hy3, hF⟩ := bd_of hF
  have hw := sm_of hF
  subst hw
  refine Z_new (ci := 1) (fs := [.int 0, .int 0, .int 0, .int 0, .int 0, .int 0, .int 0, .int 0]) (k' := 1) (n' := 8) (pc' := 111) zinX1 tyX1_ok rfl cl_debt.1 cl_debt.2.1 cl_debt.2.2 (fun j hj => by
    match j, hj with
    | 0, _ => rfl
    | 1, _ => rfl
    | 2, _ => rfl
    | 3, _ => rfl
    | 4, _ => rfl
    | 5, _ => rfl
    | 6, _ => rfl
    | 7, _ => rfl) (Nat.le_of_ble_eq_true rfl) (Nat.le_of_ble_eq_true rfl) dX7_settle_108 rfl rfl rfl (fun q hq => ?_)
  have hne : ad (8 * i4 + 2) ≠ q := fun e => by
    have := eC_tr hG (σ := σ) h4
    rw [e, hq] at this
    cases this
  refine Z_dup (pc' := 112) rfl dX7_settle_111 rfl ?_
  refine Z_iload_n (i := 2) (pc' := 113) dX7_settle_112 rfl rfl rfl ?_
  refine Z_iload_n (i := 1) (pc' := 114) dX7_settle_113 rfl rfl rfl ?_
  refine Z_iload_n (i := 3) (pc' := 115) dX7_settle_114 rfl rfl rfl ?_
  refine Z_aload (i := 4) (pc' := 117) dX7_settle_115 rfl rfl ?_
  refine Z_get (v := .int (σ 50 i4)) (pc' := 120) 0 zinX6 rfl (by decide) lkX7_132 ((zUp_ne hne).trans (eC_tr hG h4)) rfl dX7_settle_117 rfl ?_
  refine Z_callI (As := [.int x2, .int x1, .int x3, .int (σ 50 i4)]) (st := [.ref q]) (pc' := 123) (k' := 1) (n' := 8) (qX1_init l zUp_self) ckX1_init kiX1_init rfl mlX7_179 rfl rfl (Nat.le_of_ble_eq_true rfl) ⟨Nat.le_of_ble_eq_true rfl, Nat.le_of_ble_eq_true rfl⟩ ⟨Nat.le_of_ble_eq_true rfl, Nat.le_of_ble_eq_true rfl⟩ dX7_settle_120 rfl rfl rfl (fun v M' hQ2 => ?_)
  obtain ⟨rfl, rfl⟩ := hQ2
  refine Z_mem zUp_zUp ?_
  obtain ⟨hm, hG1⟩ := mC_newDebt hG hq (by omega) x2 x1 x3 (σ 50 i4) 0 0 (-1) 0
  refine Z_mem hm ?_
  clear hm
  refine Z_astore (i := 8) (vs' := [some (.ref (ad 0)), some (.int x1), some (.int x2), some (.int x3), some (.ref (ad (8 * i4 + 2))), none, none, none, some (.ref q)]) (pc' := 125) dX7_settle_123 (by decide) rfl rfl ?_
  have a0 : va_up ad (8 * c 2 + 5) q 0 = ad 0 := va_up_ne _ _ (by omega)
  have a4 : va_up ad (8 * c 2 + 5) q (8 * i4 + 2) = ad (8 * i4 + 2) := va_up_ne _ _ (by omega)
  have aq : va_up ad (8 * c 2 + 5) q (8 * c 2 + 5) = q := va_up_self _ _ _
  have al : ∀ t, cL c t → va_up ad (8 * c 2 + 5) q t = ad t := fun t ht => va_up_ne _ _ (fun e => by unfold cL at ht; omega)
  have c2 : va_up c 2 (c 2 + 1) 2 = c 2 + 1 := va_up_self _ _ _
  have c1 : va_up c 2 (c 2 + 1) 1 = c 1 := va_up_ne _ _ (by decide)
  have g51 : (cDbσ σ (c 2) x2 x1 x3 (σ 50 i4) 0 0 (-1) 0) 51 i4 = σ 51 i4 := by simp [cDbσ, zs]
  have key := qX7_settle_T (l := l) (D := D) (M0 := M0) (Q := Q) hG1 (i4 := i4) (j8 := c 2) (by omega) (by omega) _ _ g51 hy1 rfl hy2 hy3 (fun hG3 => hQ _ _ hG3 al)
  rw [a0, a4, aq] at key
  exact Z_sub (vs' := [some (.ref (ad 0)), none, none, none, some (.ref (ad (8 * i4 + 2))), none, none, none, some (.ref q)]) (zSb_of _ _ ⟨rfl, rfl, rfl, trivial⟩) key
