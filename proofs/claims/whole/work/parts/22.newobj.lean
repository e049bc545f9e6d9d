/-! a new thing gets the next tag of its kind -/
theorem cC_none {c ad : Nat → Nat} {σ : zS} {t : Nat} (h : cC c ad σ t = none) : ¬ cL c t := by
  intro hl
  rcases hl with ⟨h1, h2⟩ | ⟨h1, h2⟩ | ⟨h1, h2⟩ | ⟨h1, h2⟩ | ⟨h1, h2⟩ | ⟨h1, h2⟩
  · have e : t = 8 * (t / 8) := by omega
    unfold cC at h
    rw [if_pos h1] at h
    have key : ∀ j, j < 26 → cS c ad σ j ≠ none := by
      intro j hj
      unfold cS
      by_cases hb : 19 ≤ j ∧ j < 26
      · rw [if_pos hb]
        exact fun q => by cases q
      · rw [if_neg hb]
        have h19 : j < 19 := by omega
        match j, h19 with
        | 0, _ => exact fun q => by cases q
        | 1, _ => exact fun q => by cases q
        | 2, _ => exact fun q => by cases q
        | 3, _ => exact fun q => by cases q
        | 4, _ => exact fun q => by cases q
        | 5, _ => exact fun q => by cases q
        | 6, _ => exact fun q => by cases q
        | 7, _ => exact fun q => by cases q
        | 8, _ => exact fun q => by cases q
        | 9, _ => exact fun q => by cases q
        | 10, _ => exact fun q => by cases q
        | 11, _ => exact fun q => by cases q
        | 12, _ => exact fun q => by cases q
        | 13, _ => exact fun q => by cases q
        | 14, _ => exact fun q => by cases q
        | 15, _ => exact fun q => by cases q
        | 16, _ => exact fun q => by cases q
        | 17, _ => exact fun q => by cases q
        | 18, _ => exact fun q => by cases q
        | j + 19, h => exact absurd h (by omega)
    exact key _ h2 h
  · have e : t = 8 * (t / 8) + 1 := by omega
    rw [e, cC_man h2] at h
    cases h
  · have e : t = 8 * (t / 8) + 2 := by omega
    rw [e, cC_tr h2] at h
    cases h
  · have e : t = 8 * (t / 8) + 3 := by omega
    rw [e, cC_hb h2] at h
    cases h
  · have e : t = 8 * (t / 8) + 4 := by omega
    rw [e, cC_hf h2] at h
    cases h
  · have e : t = 8 * (t / 8) + 5 := by omega
    rw [e, cC_db h2] at h
    cases h
theorem mC_new {c c' ad dec : Nat → Nat} {σ σ' : zS} {q T : Nat} {e : zE} (hG : cG c ad dec) (hq : mC c ad dec σ q = none) (hT : ¬ cL c T) (h7 : T ≠ 7) (hL : ∀ t, cL c' t ↔ cL c t ∨ t = T) (heq : ∀ t, t ≠ T → cC c' (va_up ad T q) σ' t = cC c ad σ t) (hnew : cC c' (va_up ad T q) σ' T = some e) :
    zUp (mC c ad dec σ) q e = mC c' (va_up ad T q) (va_up dec q T) σ' ∧ cG c' (va_up ad T q) (va_up dec q T) := by
  have hdq : ¬ cL c (dec q) := cC_none hq
  have hT2 : ∀ b, dec b ≠ T := fun b hb => (hG.2.2 b).elim (fun h => hT (hb ▸ h)) (fun h => h7 (hb ▸ h))
  refine ⟨?_, fun t ht => ?_, fun b hb => ?_, fun b => ?_⟩
  · funext b
    by_cases hb : b = q
    · subst hb
      rw [zUp_self]
      show some e = cC c' (va_up ad T b) σ' (va_up dec b T b)
      rw [va_up_self, hnew]
    · rw [zUp_ne hb]
      show cC c ad σ (dec b) = cC c' (va_up ad T q) σ' (va_up dec q T b)
      rw [va_up_ne _ _ hb, heq _ (hT2 b)]
  · by_cases e1 : t = T
    · subst e1
      rw [va_up_self, va_up_self]
    · have hl : cL c t := ((hL t).mp ht).resolve_right e1
      rw [va_up_ne _ _ e1]
      have hne : ad t ≠ q := fun h => hdq (by rw [← h, hG.1 t hl]; exact hl)
      rw [va_up_ne _ _ hne]
      exact hG.1 t hl
  · by_cases e1 : b = q
    · subst e1
      rw [va_up_self, va_up_self]
    · rw [va_up_ne _ _ e1] at hb ⊢
      have hl : cL c (dec b) := ((hL _).mp hb).resolve_right (hT2 b)
      rw [va_up_ne _ _ (hT2 b)]
      exact hG.2.1 b hl
  · by_cases e1 : b = q
    · subst e1
      rw [va_up_self]
      exact Or.inl ((hL T).mpr (Or.inr rfl))
    · rw [va_up_ne _ _ e1]
      exact (hG.2.2 b).imp (fun h => (hL _).mpr (Or.inl h)) id
/-- counts and addresses that agree on what a tag's cell names -/
theorem cC_adeq {c c' ad ad' : Nat → Nat} {σ : zS} {t : Nat} (h0 : t % 8 = 0 → cS c' ad' σ (t / 8) = cS c ad σ (t / 8)) (h1 : t % 8 = 1 → (t / 8 < c' 0 ↔ t / 8 < c 0)) (h2 : t % 8 = 2 ∨ t % 8 = 3 ∨ t % 8 = 4 → (t / 8 < c' 1 ↔ t / 8 < c 1)) (h3 : t % 8 = 2 → ad' (8 * (t / 8) + 3) = ad (8 * (t / 8) + 3) ∧ ad' (8 * (t / 8) + 4) = ad (8 * (t / 8) + 4)) (h5 : t % 8 = 5 → (t / 8 < c' 2 ↔ t / 8 < c 2)) : cC c' ad' σ t = cC c ad σ t := by
  unfold cC
  by_cases e0 : t % 8 = 0
  · rw [if_pos e0, if_pos e0, h0 e0]
  rw [if_neg e0, if_neg e0]
  by_cases e1 : t % 8 = 1
  · rw [if_pos e1, if_pos e1]
    simp only [h1 e1]
  rw [if_neg e1, if_neg e1]
  by_cases e2 : t % 8 = 2
  · rw [if_pos e2, if_pos e2]
    have : cTr ad' σ (t / 8) = cTr ad σ (t / 8) := by
      unfold cTr
      rw [(h3 e2).1, (h3 e2).2]
    rw [this]
    simp only [h2 (Or.inl e2)]
  rw [if_neg e2, if_neg e2]
  by_cases e3 : t % 8 = 3
  · rw [if_pos e3, if_pos e3]
    simp only [h2 (Or.inr (Or.inl e3))]
  rw [if_neg e3, if_neg e3]
  by_cases e4 : t % 8 = 4
  · rw [if_pos e4, if_pos e4]
    simp only [h2 (Or.inr (Or.inr e4))]
  rw [if_neg e4, if_neg e4]
  by_cases e5 : t % 8 = 5
  · rw [if_pos e5, if_pos e5]
    simp only [h5 e5]
  rw [if_neg e5, if_neg e5]
theorem cS_ad {c c' ad ad' : Nat → Nat} {σ : zS} (h8 : ∀ i, ad' (8 * i) = ad (8 * i)) (h3 : c' 3 = c 3) (h4 : c' 4 = c 4) (h5 : c' 5 = c 5) (g3 : ∀ i, i < c 3 → ad' (8 * i + 1) = ad (8 * i + 1)) (g4 : ∀ i, i < c 4 → ad' (8 * i + 2) = ad (8 * i + 2)) (g5 : ∀ i, i < c 5 → ad' (8 * i + 5) = ad (8 * i + 5)) (j : Nat) : cS c' ad' σ j = cS c ad σ j := by
  unfold cS
  by_cases hb : 19 ≤ j ∧ j < 26
  · rw [if_pos hb, if_pos hb]
  rw [if_neg hb, if_neg hb]
  have f3 : (fun i => if i < c' 3 then some (ad' (8 * i + 1)) else none) = fun i => if i < c 3 then some (ad (8 * i + 1)) else none := by
    funext i
    rw [h3]
    by_cases hi : i < c 3
    · rw [if_pos hi, if_pos hi, g3 i hi]
    · rw [if_neg hi, if_neg hi]
  have f4 : (fun i => if i < c' 4 then some (ad' (8 * i + 2)) else none) = fun i => if i < c 4 then some (ad (8 * i + 2)) else none := by
    funext i
    rw [h4]
    by_cases hi : i < c 4
    · rw [if_pos hi, if_pos hi, g4 i hi]
    · rw [if_neg hi, if_neg hi]
  have f5 : (fun i => if i < c' 5 then some (ad' (8 * i + 5)) else none) = fun i => if i < c 5 then some (ad (8 * i + 5)) else none := by
    funext i
    rw [h5]
    by_cases hi : i < c 5
    · rw [if_pos hi, if_pos hi, g5 i hi]
    · rw [if_neg hi, if_neg hi]
  have f7 : (fun i => if i < 7 then some (ad' (8 * (19 + i))) else none) = fun i => if i < 7 then some (ad (8 * (19 + i))) else none := by
    funext i
    rw [h8 (19 + i)]
  match j with
  | 0 => exact congrArg (fun z => some (Sum.inr (7, z))) (by rw [h8 1, h8 3, h8 6, h8 7, h8 8, h8 10, h8 18])
  | 1 => exact congrArg (fun z => some (Sum.inr (5, z))) (by rw [h8 2])
  | 2 => rfl
  | 3 => exact congrArg (fun z => some (Sum.inr (0, z))) (by rw [h8 4, h8 5])
  | 4 => rfl
  | 5 => rfl
  | 6 => exact congrArg (fun z => some (Sum.inl (FieldType.object "GiftRing$Man", 16, Sum.inr (Sum.inr (Sum.inr (Sum.inr z)))))) f3
  | 7 => exact congrArg (fun z => some (Sum.inl (FieldType.object "GiftRing$Treasure", 24, Sum.inr (Sum.inr (Sum.inr (Sum.inr z)))))) f4
  | 8 => exact congrArg (fun z => some (Sum.inr (2, z))) (by rw [h8 9])
  | 9 => exact congrArg (fun z => some (Sum.inl (FieldType.object "GiftRing$Debt", 200, Sum.inr (Sum.inr (Sum.inr (Sum.inr z)))))) f5
  | 10 => exact congrArg (fun z => some (Sum.inr (4, z))) (by rw [h8 11, h8 12, h8 13, h8 14, h8 15, h8 16, h8 17])
  | 11 => rfl
  | 12 => rfl
  | 13 => rfl
  | 14 => rfl
  | 15 => rfl
  | 16 => exact congrArg (fun z => some (Sum.inl (FieldType.array FieldType.int, 7, Sum.inr (Sum.inr (Sum.inr (Sum.inr z)))))) f7
  | 17 => rfl
  | 18 => rfl
  | j + 19 => rfl
def cManσ (σ : zS) (i : Nat) (x1 x2 x3 x4 : Int32) : zS := zs (zs (zs (zs σ 40 i x1) 41 i x2) 42 i x3) 43 i x4
theorem mC_newMan {c ad dec : Nat → Nat} {σ : zS} {q : Nat} (hG : cG c ad dec) (hq : mC c ad dec σ q = none) (h3 : c 3 ≤ c 0) (x1 x2 x3 x4 : Int32) :
    zUp (mC c ad dec σ) q (.inr (3, [.int x1, .int x2, .int x3, .int x4])) = mC (va_up c 0 (c 0 + 1)) (va_up ad (8 * c 0 + 1) q) (va_up dec q (8 * c 0 + 1)) (cManσ σ (c 0) x1 x2 x3 x4) ∧ cG (va_up c 0 (c 0 + 1)) (va_up ad (8 * c 0 + 1) q) (va_up dec q (8 * c 0 + 1)) := by
  have u0 : va_up c 0 (c 0 + 1) 0 = c 0 + 1 := va_up_self _ _ _
  have un : ∀ k, k ≠ 0 → va_up c 0 (c 0 + 1) k = c k := fun k hk => va_up_ne _ _ hk
  have un1 := un 1 (by decide)
  have un2 := un 2 (by decide)
  refine mC_new hG hq (fun h => ?_) (by omega) (fun t => ?_) (fun t ht => ?_) ?_
  · unfold cL at h
    omega
  · unfold cL
    rw [u0, un1, un2]
    omega
  · unfold cManσ
    rw [cC_off2 (kd := 1) (by omega) t ht, cC_off2 (kd := 1) (by omega) t ht, cC_off2 (kd := 1) (by omega) t ht, cC_off2 (kd := 1) (by omega) t ht]
    refine cC_adeq (fun _ => cS_ad (fun i => va_up_ne _ _ (by omega)) (un 3 (by decide)) (un 4 (by decide)) (un 5 (by decide)) (fun i hi => va_up_ne _ _ (by omega)) (fun i hi => va_up_ne _ _ (by omega)) (fun i hi => va_up_ne _ _ (by omega)) _) (fun _ => by rw [u0]; omega) (fun _ => by rw [un1]) (fun _ => ⟨va_up_ne _ _ (by omega), va_up_ne _ _ (by omega)⟩) (fun _ => by rw [un2])
  · rw [cC_man (by rw [u0]; omega)]
    simp [cManσ, cMan, zs, upd]
