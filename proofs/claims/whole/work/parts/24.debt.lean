def cDbσ (σ : zS) (i : Nat) (x1 x2 x3 x4 x5 x6 x7 x8 : Int32) : zS := zs (zs (zs (zs (zs (zs (zs (zs σ 60 i x1) 61 i x2) 62 i x3) 63 i x4) 64 i x5) 65 i x6) 66 i x7) 67 i x8
theorem mC_newDebt {c ad dec : Nat → Nat} {σ : zS} {q : Nat} (hG : cG c ad dec) (hq : mC c ad dec σ q = none) (h5 : c 5 ≤ c 2) (x1 x2 x3 x4 x5 x6 x7 x8 : Int32) :
    zUp (mC c ad dec σ) q (.inr (1, [.int x1, .int x2, .int x3, .int x4, .int x5, .int x6, .int x7, .int x8])) = mC (va_up c 2 (c 2 + 1)) (va_up ad (8 * c 2 + 5) q) (va_up dec q (8 * c 2 + 5)) (cDbσ σ (c 2) x1 x2 x3 x4 x5 x6 x7 x8) ∧ cG (va_up c 2 (c 2 + 1)) (va_up ad (8 * c 2 + 5) q) (va_up dec q (8 * c 2 + 5)) := by
  have u0 : va_up c 2 (c 2 + 1) 2 = c 2 + 1 := va_up_self _ _ _
  have un : ∀ k, k ≠ 2 → va_up c 2 (c 2 + 1) k = c k := fun k hk => va_up_ne _ _ hk
  have un0 := un 0 (by decide)
  have un1 := un 1 (by decide)
  refine mC_new hG hq (fun h => ?_) (by omega) (fun t => ?_) (fun t ht => ?_) ?_
  · unfold cL at h
    omega
  · unfold cL
    rw [u0, un0, un1]
    omega
  · unfold cDbσ
    rw [cC_off2 (kd := 5) (by omega) t ht, cC_off2 (kd := 5) (by omega) t ht, cC_off2 (kd := 5) (by omega) t ht, cC_off2 (kd := 5) (by omega) t ht, cC_off2 (kd := 5) (by omega) t ht, cC_off2 (kd := 5) (by omega) t ht, cC_off2 (kd := 5) (by omega) t ht, cC_off2 (kd := 5) (by omega) t ht]
    refine cC_adeq (fun _ => cS_ad (fun i => va_up_ne _ _ (by omega)) (un 3 (by decide)) (un 4 (by decide)) (un 5 (by decide)) (fun i hi => va_up_ne _ _ (by omega)) (fun i hi => va_up_ne _ _ (by omega)) (fun i hi => va_up_ne _ _ (by omega)) _) (fun _ => by rw [un0]) (fun _ => by rw [un1]) (fun _ => ⟨va_up_ne _ _ (by omega), va_up_ne _ _ (by omega)⟩) (fun _ => by rw [u0]; omega)
  · rw [cC_db (by rw [u0]; omega)]
    simp [cDbσ, cDb, zs, upd]
theorem cS_c5 {c ad : Nat → Nat} {σ : zS} {j n : Nat} (hj : j ≠ 9) : cS (va_up c 5 n) ad σ j = cS c ad σ j := by
  unfold cS
  by_cases hb : 19 ≤ j ∧ j < 26
  · rw [if_pos hb, if_pos hb]
  rw [if_neg hb, if_neg hb]
  match j, hj with
  | 0, _ => rfl
  | 1, _ => rfl
  | 2, _ => rfl
  | 3, _ => rfl
  | 4, _ => rfl
  | 5, _ => rfl
  | 6, _ => rfl
  | 7, _ => rfl
  | 8, _ => rfl
  | 9, h => exact absurd rfl h
  | 10, _ => rfl
  | 11, _ => rfl
  | 12, _ => rfl
  | 13, _ => rfl
  | 14, _ => rfl
  | 15, _ => rfl
  | 16, _ => rfl
  | 17, _ => rfl
  | 18, _ => rfl
  | j + 19, _ => rfl
theorem cG_c5 {c ad dec : Nat → Nat} {n : Nat} (hG : cG c ad dec) : cG (va_up c 5 n) ad dec := by
  have e : ∀ t, cL (va_up c 5 n) t ↔ cL c t := fun t => Iff.rfl
  exact ⟨fun t ht => hG.1 t ((e t).mp ht), fun b hb => hG.2.1 b ((e _).mp hb), fun b => hG.2.2 b⟩
theorem mC_addDebt {c ad dec : Nat → Nat} (hG : cG c ad dec) {σ : zS} : zUp (mC c ad dec σ) (ad 72) (.inl (.object "GiftRing$Debt", 200, .inr (.inr (.inr (.inr (va_up (fun i => if i < c 5 then some (ad (8 * i + 5)) else none) (c 5) (some (ad (8 * c 5 + 5))))))))) = mC (va_up c 5 (c 5 + 1)) ad dec σ := by
  funext b
  by_cases hb : b = ad 72
  · subst hb
    rw [zUp_self, eC_9 (cG_c5 hG)]
    congr 8
    funext i
    rw [va_up_self]
    by_cases h : i = c 5
    · subst h
      rw [va_up_self, if_pos (by omega)]
    · rw [va_up_ne _ _ h]
      by_cases h2 : i < c 5
      · rw [if_pos h2, if_pos (by omega)]
      · rw [if_neg h2, if_neg (by omega)]
  · rw [zUp_ne hb]
    show cC c ad σ (dec b) = cC (va_up c 5 (c 5 + 1)) ad σ (dec b)
    refine (cC_adeq (fun h => cS_c5 (fun h6 => hb ?_)) (fun _ => Iff.rfl) (fun _ => Iff.rfl) (fun _ => ⟨rfl, rfl⟩) (fun _ => Iff.rfl)).symm
    have e : dec b = 72 := by omega
    rw [← e]
    exact (hG.2.1 b (by rw [e]; exact Or.inl ⟨rfl, by decide⟩)).symm
abbrev rmX2_append : Room := { frames := 1, cells := 0, slots := 0, locals := 20 }
/-- the debt i goes behind the others, if it is the next one -/
def c2_append (c : Nat → Nat) (i1 : Nat) (σ : zS) : Option ((Nat → Nat) × zS) := (c2_isFull c σ).bind (fun y => if y.1 = 0 then (if zIn (y.2 35 0) 200 = true then (if (y.2 35 0).toNatClampNeg = c 5 ∧ i1 = c 5 ∧ i1 < c 2 then some (va_up c 5 (c 5 + 1), zs y.2 35 0 ((y.2 35 0) + (1 : Int32))) else none) else none) else some (c, y.2))
set_option maxHeartbeats 4000000 in
set_option maxRecDepth 100000 in
theorem qX2_append (l : Launch) {c ad dec : Nat → Nat} (hG : cG c ad dec) {i1 : Nat} {σ : zS} {w : (Nat → Nat) × zS} (hF : c2_append c i1 σ = some w) : zMet l yX2_append cX2_append 2 none rmX2_append [.ref (ad 64), .ref (ad (8 * i1 + 5))] (mC c ad dec σ) (fun v M' => v = none ∧ cG w.1 ad dec ∧ M' = mC w.1 ad dec w.2) := by
  refine zMet.ofZ (vs := [some (.ref (ad 64)), some (.ref (ad (8 * i1 + 5)))]) (by decide) rfl (zCt_of _ ⟨rfl, ⟨rfl, trivial⟩⟩) (Nat.le_of_ble_eq_true rfl) (fun D => ?_)
  unfold c2_append at hF
  refine Z_aload_n (i := 0) (pc' := 1) dX2_append_0 rfl rfl rfl ?_
  obtain ⟨y, hy, hF⟩ := bd_of hF
  refine Z_callVi (As := []) (st := []) (pc' := 4) (k' := 0) (n' := 0) (qX2_isFull l hG hy) ckX2_isFull kvX2_isFull mlX2_21 (eC_8 hG) rfl rfl rfl (Nat.le_of_ble_eq_true rfl) ⟨Nat.le_of_ble_eq_true rfl, Nat.le_of_ble_eq_true rfl⟩ ⟨Nat.le_of_ble_eq_true rfl, Nat.le_of_ble_eq_true rfl⟩ dX2_append_1 rfl rfl rfl ?_
  refine Z_if_ne (tgt := 27) (pc' := 7) dX2_append_4 (by decide) rfl (fun h1 => ?_) (fun h1 => ?_)
  · rw [if_neg h1] at hF
    cases hF
    exact Z_vret dX2_append_27 rfl (Nat.zero_le _) (Nat.zero_le _) ⟨rfl, hG, rfl⟩
  rw [if_pos h1] at hF
  obtain ⟨h3, hF⟩ := ck_of hF
  obtain ⟨⟨h4, h5, h6⟩, hF⟩ := ck_of hF
  refine Z_aload_n (i := 0) (pc' := 8) dX2_append_7 rfl rfl rfl ?_
  refine Z_get (v := .ref (ad 72)) (pc' := 11) 0 zinX2 rfl (by decide) lkX2_11 (eC_8 hG) rfl dX2_append_8 rfl ?_
  refine Z_aload_n (i := 0) (pc' := 12) dX2_append_11 rfl rfl rfl ?_
  refine Z_get (v := .int (y.2 35 0)) (pc' := 15) 1 zinX2 rfl (by decide) lkX2_17 (eC_8 hG) rfl dX2_append_12 rfl ?_
  refine Z_aload_n (i := 1) (pc' := 16) dX2_append_15 rfl rfl rfl ?_
  refine Z_aast (pc' := 17) (eC_9 hG) (eC_db hG h6) rfl (zIn_in h3) dX2_append_16 rfl ?_
  refine Z_mem (M' := mC (va_up c 5 (c 5 + 1)) ad dec y.2) (by rw [h4, h5]; exact mC_addDebt hG) ?_
  have hG2 : cG (va_up c 5 (c 5 + 1)) ad dec := cG_c5 hG
  refine Z_aload_n (i := 0) (pc' := 18) dX2_append_17 rfl rfl rfl ?_
  refine Z_dup (pc' := 19) rfl dX2_append_18 rfl ?_
  refine Z_get (v := .int (y.2 35 0)) (pc' := 22) 1 zinX2 rfl (by decide) lkX2_17 (eC_8 hG2) rfl dX2_append_19 rfl ?_
  refine Z_iconst (v := 1) (pc' := 23) dX2_append_22 (by decide) rfl ?_
  refine Z_iadd (pc' := 24) dX2_append_23 rfl ?_
  refine Z_put (pc' := 27) 1 zinX2 tyX2_ok nmX2 rfl (by decide) lkX2_17 rfl (eC_8 hG2) rfl rfl rfl (Nat.le_of_ble_eq_true rfl) rfl dX2_append_24 rfl ?_
  refine Z_mem (pC_35 hG2 (σ' := zs y.2 35 0 ((y.2 35 0) + (1 : Int32))) rfl) ?_
  cases hF
  exact Z_vret dX2_append_27 rfl (Nat.zero_le _) (Nat.zero_le _) ⟨rfl, hG2, rfl⟩
