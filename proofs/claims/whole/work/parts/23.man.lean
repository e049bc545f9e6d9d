section ZAS
variable {l : Launch} {y : MethodName} {cc : ByteArray} {nL : Nat} {ret : Option FieldType} {R : Room} {mc ms : Nat} {D : va_G} {M0 : zM} {Q : Option Value → zM → Prop} {k n pc pc' : Nat} {vs vs' : List (Option Value)} {st : List Value} {M : zM}
theorem Z_aast {a v len ci : Nat} {C : String} {T' : u_T} {N' : Nat} {fs : List Value} {f : Nat → Option Nat} {i : Int32} (hM : M a = some (.inl (.object C, len, .inr (.inr (.inr (.inr f)))))) (hv : M v = some (.inr (ci, fs))) (hc : vwCl[ci]? = some (C, T', N')) (hi : vp_in i len) (hd : decode cc pc = .ok (.aastore, 1)) (hp : pc + 1 = pc') (kk : Z l y cc nL ret R mc ms D M0 Q k n pc' vs st (zUp M a (.inl (.object C, len, .inr (.inr (.inr (.inr (va_up f i.toNatClampNeg (some v))))))))) : Z l y cc nL ret R mc ms D M0 Q k n pc vs (.ref v :: .int i :: .ref a :: st) M := by
  subst hp
  intro p e s m args below meth c C' H locs ls hls hP hA hS
  have hK := C'.2.2.2.2.2.2.1
  obtain ⟨cA, h1, h2, h3⟩ := hP a _ hM
  have hlt : i.toNatClampNeg < len := Nat.not_le.mp fun q => hi (Or.inr q)
  have h0 : ¬ i < 0 := fun q => hi (Or.inl q)
  obtain ⟨r', hr', cellV, g1, g2, g3, -⟩ := hP v _ hv
  have hcls := (hK.1 ci _ hc).2
  obtain ⟨kA, comp, k1, k2, k3, k4⟩ := h2
  have hcomp : comp = D.1 ci := Option.some.inj (k3.symm.trans hcls.1)
  subst hcomp
  obtain ⟨kC, hkC, -⟩ := hcls.2
  have haA : zA M0 s.heap.size a := hA a (by rw [hM]; exact fun h => by cases h)
  refine W.aast C'.1 C'.2.1 h3 (fun q h => by cases h) (fun h => by cases h) k1 k2 rfl hkC ⟨h0, by show _ < (arrV _ _ _).slots.size; rw [arrV_size]; exact hlt⟩ g1 (fun q h => by rw [g3] at h; cases h) (by rw [g2]; exact hkC) (by rw [g2]; exact va_assign hcls) rfl rfl hd fun H1 e1 z oq => ?_
  refine kk p e s m args below meth c C' H1 _ ls hls (hP.set ⟨cA, h1, ⟨kA, _, k1, k2, k3, k4⟩, ?_⟩ oq) (zUp_dom hA haA) (hS.put z oq haA)
  show H1[a]? = some (vp_cell _ _)
  rw [e1]
  rw [vp_cell_q, vp_cell_q, arrV_store]
  congr 2
  funext q
  by_cases hq : q = i.toNatClampNeg
  · subst hq
    simp [updV, va_up, va_rf]
  · simp [updV, va_up, hq]
end ZAS
theorem cS_c3 {c ad : Nat → Nat} {σ : zS} {j n : Nat} (hj : j ≠ 6) : cS (va_up c 3 n) ad σ j = cS c ad σ j := by
  unfold cS
  by_cases hb : 19 ≤ j ∧ j < 26
  · rw [if_pos hb, if_pos hb]
  rw [if_neg hb, if_neg hb]
  match j, hj with
  | 0, _ => rfl
  | 1, _ => rfl
  | 2, _ => rfl
  | 3, _ => rfl
  | 4, _ => rfl
  | 5, _ => rfl
  | 6, h => exact absurd rfl h
  | 7, _ => rfl
  | 8, _ => rfl
  | 9, _ => rfl
  | 10, _ => rfl
  | 11, _ => rfl
  | 12, _ => rfl
  | 13, _ => rfl
  | 14, _ => rfl
  | 15, _ => rfl
  | 16, _ => rfl
  | 17, _ => rfl
  | 18, _ => rfl
  | j + 19, _ => rfl
theorem cG_c3 {c ad dec : Nat → Nat} {n : Nat} (hG : cG c ad dec) : cG (va_up c 3 n) ad dec := by
  have e : ∀ t, cL (va_up c 3 n) t ↔ cL c t := fun t => Iff.rfl
  exact ⟨fun t ht => hG.1 t ((e t).mp ht), fun b hb => hG.2.1 b ((e _).mp hb), fun b => hG.2.2 b⟩
theorem mC_addMan {c ad dec : Nat → Nat} (hG : cG c ad dec) {σ : zS} : zUp (mC c ad dec σ) (ad 48) (.inl (.object "GiftRing$Man", 16, .inr (.inr (.inr (.inr (va_up (fun i => if i < c 3 then some (ad (8 * i + 1)) else none) (c 3) (some (ad (8 * c 3 + 1))))))))) = mC (va_up c 3 (c 3 + 1)) ad dec σ := by
  funext b
  by_cases hb : b = ad 48
  · subst hb
    rw [zUp_self, eC_6 (cG_c3 hG)]
    congr 8
    funext i
    rw [va_up_self]
    by_cases h : i = c 3
    · subst h
      rw [va_up_self, if_pos (by omega)]
    · rw [va_up_ne _ _ h]
      by_cases h2 : i < c 3
      · rw [if_pos h2, if_pos (by omega)]
      · rw [if_neg h2, if_neg (by omega)]
  · rw [zUp_ne hb]
    show cC c ad σ (dec b) = cC (va_up c 3 (c 3 + 1)) ad σ (dec b)
    refine (cC_adeq (fun h => cS_c3 (fun h6 => hb ?_)) (fun _ => Iff.rfl) (fun _ => Iff.rfl) (fun _ => ⟨rfl, rfl⟩) (fun _ => Iff.rfl)).symm
    have e : dec b = 48 := by omega
    rw [← e]
    exact (hG.2.1 b (by rw [e]; exact Or.inl ⟨rfl, by decide⟩)).symm
theorem cl_man : Cond.classLink RX7 23 RX3 ∈ zT ∧ Cond.instantiable RX3 4 ∈ zT ∧ Cond.initialized RX3 ∈ zT := ⟨by decide +kernel, by decide +kernel, by decide +kernel⟩
abbrev rmX7_man : Room := { frames := 2, cells := 1, slots := 4, locals := 34 }
def c7_man (c : Nat → Nat) (x1 : Int32) (σ : zS) : Option (Int32 × (Nat → Nat) × zS) := (c7_isIsland c x1 σ).bind (fun y => if y.1 = 0 then some ((-1 : Int32), c, y.2) else (if (y.2 31 0) < (16 : Int32) then (if zIn (y.2 31 0) 16 = true then (if (y.2 31 0).toNatClampNeg = c 3 ∧ c 0 = c 3 then some ((((y.2 31 0) + (1 : Int32)) - (1 : Int32)), va_up (va_up c 0 (c 0 + 1)) 3 (c 3 + 1), zs (cManσ y.2 (c 0) x1 1 0 0) 31 0 ((y.2 31 0) + (1 : Int32))) else none) else none) else some ((-1 : Int32), c, y.2)))
set_option maxHeartbeats 4000000 in
set_option maxRecDepth 100000 in
theorem qX7_man (l : Launch) {c ad dec : Nat → Nat} (hG : cG c ad dec) {x1 : Int32} {σ : zS} {w : Int32 × (Nat → Nat) × zS} (hF : c7_man c x1 σ = some w) : zMet l yX7_man cX7_man 2 (some .int) rmX7_man [.ref (ad 0), .int x1] (mC c ad dec σ) (fun v M' => v = some (.int w.1) ∧ ∃ ad' dec', cG w.2.1 ad' dec' ∧ (∀ t, cL c t → ad' t = ad t) ∧ M' = mC w.2.1 ad' dec' w.2.2) := by
  refine zMet.ofZ (vs := [some (.ref (ad 0)), some (.int x1)]) (by decide) rfl (zCt_of _ ⟨rfl, ⟨rfl, trivial⟩⟩) (Nat.le_of_ble_eq_true rfl) (fun D => ?_)
  unfold c7_man at hF
  refine Z_aload_n (i := 0) (pc' := 1) dX7_man_0 rfl rfl rfl ?_
  refine Z_iload_n (i := 1) (pc' := 2) dX7_man_1 rfl rfl rfl ?_
  obtain ⟨y, hy, hF⟩ := bd_of hF
  refine Z_callVi (As := [.int x1]) (st := []) (pc' := 5) (k' := 0) (n' := 0) (qX7_isIsland l hG hy) ckX7_isIsland kvX7_isIsland mlX7_77 (eC_0 hG) rfl rfl rfl (Nat.le_of_ble_eq_true rfl) ⟨Nat.le_of_ble_eq_true rfl, Nat.le_of_ble_eq_true rfl⟩ ⟨Nat.le_of_ble_eq_true rfl, Nat.le_of_ble_eq_true rfl⟩ dX7_man_2 rfl rfl rfl ?_
  refine Z_if_eq (tgt := 17) (pc' := 8) dX7_man_5 (by decide) rfl (fun h1 => ?_) (fun h1 => ?_)
  · rw [if_pos h1] at hF
    refine Z_iconst (v := -1) (pc' := 18) dX7_man_17 (by decide) rfl ?_
    cases hF
    exact Z_iret (ty := .int) (w := (-1 : Int32)) dX7_man_18 rfl rfl (Nat.zero_le _) (Nat.zero_le _) ⟨rfl, ad, dec, hG, fun _ _ => rfl, rfl⟩
  rw [if_neg h1] at hF
  refine Z_aload_n (i := 0) (pc' := 9) dX7_man_8 rfl rfl rfl ?_
  refine Z_get (v := .int (y.2 31 0)) (pc' := 12) 8 zinX7 rfl (by decide) lkX7_57 (eC_0 hG) rfl dX7_man_9 rfl ?_
  refine Z_bipush (v := 16) (pc' := 14) dX7_man_12 (by decide) rfl ?_
  refine Z_icmp_lt (tgt := 19) (pc' := 17) dX7_man_14 (by decide) rfl (fun h2 => ?_) (fun h2 => ?_)
  rotate_left
  · rw [if_neg h2] at hF
    refine Z_iconst (v := -1) (pc' := 18) dX7_man_17 (by decide) rfl ?_
    cases hF
    exact Z_iret (ty := .int) (w := (-1 : Int32)) dX7_man_18 rfl rfl (Nat.zero_le _) (Nat.zero_le _) ⟨rfl, ad, dec, hG, fun _ _ => rfl, rfl⟩
  rw [if_pos h2] at hF
  obtain ⟨h3, hF⟩ := ck_of hF
  obtain ⟨⟨h4, h5⟩, hF⟩ := ck_of hF
  refine Z_aload_n (i := 0) (pc' := 20) dX7_man_19 rfl rfl rfl ?_
  refine Z_get (v := .ref (ad 48)) (pc' := 23) 2 zinX7 rfl (by decide) lkX7_25 (eC_0 hG) rfl dX7_man_20 rfl ?_
  refine Z_aload_n (i := 0) (pc' := 24) dX7_man_23 rfl rfl rfl ?_
  refine Z_get (v := .int (y.2 31 0)) (pc' := 27) 8 zinX7 rfl (by decide) lkX7_57 (eC_0 hG) rfl dX7_man_24 rfl ?_
  refine Z_new (ci := 3) (fs := [.int 0, .int 0, .int 0, .int 0]) (k' := 1) (n' := 4) (pc' := 30) zinX3 tyX3_ok rfl cl_man.1 cl_man.2.1 cl_man.2.2 (fun j hj => by
    match j, hj with
    | 0, _ => rfl
    | 1, _ => rfl
    | 2, _ => rfl
    | 3, _ => rfl) (Nat.le_of_ble_eq_true rfl) (Nat.le_of_ble_eq_true rfl) dX7_man_27 rfl rfl rfl (fun q hq => ?_)
  refine Z_dup (pc' := 31) rfl dX7_man_30 rfl ?_
  refine Z_iload_n (i := 1) (pc' := 32) dX7_man_31 rfl rfl rfl ?_
  refine Z_callI (As := [.int x1]) (st := [.ref q, .int (y.2 31 0), .ref (ad 48)]) (pc' := 35) (k' := 1) (n' := 4) (qX3_init l zUp_self) ckX3_init kiX3_init rfl mlX7_81 rfl rfl (Nat.le_of_ble_eq_true rfl) ⟨Nat.le_of_ble_eq_true rfl, Nat.le_of_ble_eq_true rfl⟩ ⟨Nat.le_of_ble_eq_true rfl, Nat.le_of_ble_eq_true rfl⟩ dX7_man_32 rfl rfl rfl (fun v M' hQ => ?_)
  obtain ⟨rfl, rfl⟩ := hQ
  refine Z_mem zUp_zUp ?_
  obtain ⟨hm, hG1⟩ := mC_newMan hG hq (by omega) x1 1 0 0
  refine Z_mem hm ?_
  clear hm
  have a0 : va_up ad (8 * c 0 + 1) q 0 = ad 0 := va_up_ne _ _ (by omega)
  have a48 : va_up ad (8 * c 0 + 1) q 48 = ad 48 := va_up_ne _ _ (by omega)
  have aq : va_up ad (8 * c 0 + 1) q (8 * c 0 + 1) = q := va_up_self _ _ _
  have al : ∀ t, cL c t → va_up ad (8 * c 0 + 1) q t = ad t := fun t ht => va_up_ne _ _ (fun e => by unfold cL at ht; omega)
  have c0 : va_up c 0 (c 0 + 1) 0 = c 0 + 1 := va_up_self _ _ _
  have c3 : va_up c 0 (c 0 + 1) 3 = c 3 := va_up_ne _ _ (by decide)
  generalize va_up ad (8 * c 0 + 1) q = ad1 at *
  generalize va_up dec q (8 * c 0 + 1) = dec1 at *
  generalize hc1 : va_up c 0 (c 0 + 1) = c1 at *
  have hMq : mC c1 ad1 dec1 (cManσ y.2 (c 0) x1 1 0 0) q = some (.inr (3, cMan (cManσ y.2 (c 0) x1 1 0 0) (c 0))) := by
    have := eC_man hG1 (σ := cManσ y.2 (c 0) x1 1 0 0) (i := c 0) (by omega)
    rw [aq] at this
    exact this
  have hM6 := eC_6 hG1 (σ := cManσ y.2 (c 0) x1 1 0 0)
  rw [a48] at hM6
  refine Z_aast (pc' := 36) hM6 hMq rfl (zIn_in h3) dX7_man_35 rfl ?_
  have hm2 := mC_addMan hG1 (σ := cManσ y.2 (c 0) x1 1 0 0)
  rw [a48, c3, ← h5, aq] at hm2
  refine Z_mem (M' := mC (va_up c1 3 (c 3 + 1)) ad1 dec1 (cManσ y.2 (c 0) x1 1 0 0)) (by rw [h4, c3, ← h5]; exact hm2) ?_
  have hG2 : cG (va_up c1 3 (c 3 + 1)) ad1 dec1 := cG_c3 hG1
  have hM0 := fun σ => eC_0 hG2 (σ := σ)
  rw [a0] at hM0
  refine Z_aload_n (i := 0) (pc' := 37) dX7_man_36 rfl rfl rfl ?_
  refine Z_dup (pc' := 38) rfl dX7_man_37 rfl ?_
  refine Z_get (v := .int (y.2 31 0)) (pc' := 41) 8 zinX7 rfl (by decide) lkX7_57 (hM0 _) rfl dX7_man_38 rfl ?_
  refine Z_iconst (v := 1) (pc' := 42) dX7_man_41 (by decide) rfl ?_
  refine Z_iadd (pc' := 43) dX7_man_42 rfl ?_
  refine Z_put (pc' := 46) 8 zinX7 tyX7_ok nmX7 rfl (by decide) lkX7_57 rfl (hM0 _) rfl rfl rfl (Nat.le_of_ble_eq_true rfl) rfl dX7_man_43 rfl ?_
  have hp := pC_31 hG2 (σ := cManσ y.2 (c 0) x1 1 0 0) (v := (y.2 31 0) + (1 : Int32)) rfl
  rw [a0] at hp
  refine Z_mem hp ?_
  refine Z_aload_n (i := 0) (pc' := 47) dX7_man_46 rfl rfl rfl ?_
  refine Z_get (v := .int ((y.2 31 0) + (1 : Int32))) (pc' := 50) 8 zinX7 rfl (by decide) lkX7_57 (hM0 _) rfl dX7_man_47 rfl ?_
  refine Z_iconst (v := 1) (pc' := 51) dX7_man_50 (by decide) rfl ?_
  refine Z_isub (pc' := 52) dX7_man_51 rfl ?_
  cases hF
  exact Z_iret (ty := .int) dX7_man_52 rfl rfl (Nat.le_refl _) (Nat.le_refl _) ⟨rfl, ad1, dec1, hG2, al, rfl⟩
