abbrev rmJ6_bitCount_0f7a4 : Room := { frames := 0, cells := 0, slots := 0, locals := 0 }
def j_bitCount (x0 : Int32) : Option Int32 := zl (x0 - (((x0).toUInt32 >>> (((1 : Int32)).toUInt32 &&& Int32.toUInt32 31)).toInt32 &&& (1431655765 : Int32))) (fun (v1 : Int32) => zl ((v1 &&& (858993459 : Int32)) + (((v1).toUInt32 >>> (((2 : Int32)).toUInt32 &&& Int32.toUInt32 31)).toInt32 &&& (858993459 : Int32))) (fun (v2 : Int32) => zl ((v2 + ((v2).toUInt32 >>> (((4 : Int32)).toUInt32 &&& Int32.toUInt32 31)).toInt32) &&& (252645135 : Int32)) (fun (v3 : Int32) => zl (v3 + ((v3).toUInt32 >>> (((8 : Int32)).toUInt32 &&& Int32.toUInt32 31)).toInt32) (fun (v4 : Int32) => zl (v4 + ((v4).toUInt32 >>> (((16 : Int32)).toUInt32 &&& Int32.toUInt32 31)).toInt32) (fun (v5 : Int32) => some (v5 &&& (63 : Int32)))))))
set_option maxHeartbeats 4000000 in
set_option maxRecDepth 100000 in
theorem qJ6_bitCount_0f7a4 (l : Launch) {M : zM} {x0 : Int32} {w : Int32} (hF : j_bitCount x0 = some w) : zMet l yJ6_bitCount_0f7a4 cJ6_bitCount_0f7a4 1 (some .int) rmJ6_bitCount_0f7a4 [.int x0] M (fun v M' => v = some (.int w) ∧ M' = M) := by
  refine zMet.ofZ (vs := [some (.int x0)]) (by decide) rfl (zCt_of _ ⟨rfl, trivial⟩) (Nat.le_of_ble_eq_true rfl) (fun D => ?_)
  unfold j_bitCount at hF
  refine Z_iload_n (i := 0) (pc' := 1) dJ6_bitCount_0f7a4_0 rfl rfl rfl ?_
  refine Z_iload_n (i := 0) (pc' := 2) dJ6_bitCount_0f7a4_1 rfl rfl rfl ?_
  refine Z_iconst (v := 1) (pc' := 3) dJ6_bitCount_0f7a4_2 (by decide) rfl ?_
  refine Z_iushr (pc' := 4) dJ6_bitCount_0f7a4_3 rfl ?_
  refine Z_ldcw (v := 1431655765) (pc' := 7) (zT_in 675 (by decide +kernel) (by decide +kernel)) dJ6_bitCount_0f7a4_4 rfl ?_
  refine Z_iand (pc' := 8) dJ6_bitCount_0f7a4_7 rfl ?_
  refine Z_isub (pc' := 9) dJ6_bitCount_0f7a4_8 rfl ?_
  obtain ⟨v1, hv1, hF⟩ := zl_of hF
  refine Z_istore_nE (i := 0) (x' := v1) (vs' := [some (.int v1)]) (pc' := 10) dJ6_bitCount_0f7a4_9 rfl hv1 (by decide) rfl rfl ?_
  refine Z_iload_n (i := 0) (pc' := 11) dJ6_bitCount_0f7a4_10 rfl rfl rfl ?_
  refine Z_ldcw (v := 858993459) (pc' := 14) (zT_in 676 (by decide +kernel) (by decide +kernel)) dJ6_bitCount_0f7a4_11 rfl ?_
  refine Z_iand (pc' := 15) dJ6_bitCount_0f7a4_14 rfl ?_
  refine Z_iload_n (i := 0) (pc' := 16) dJ6_bitCount_0f7a4_15 rfl rfl rfl ?_
  refine Z_iconst (v := 2) (pc' := 17) dJ6_bitCount_0f7a4_16 (by decide) rfl ?_
  refine Z_iushr (pc' := 18) dJ6_bitCount_0f7a4_17 rfl ?_
  refine Z_ldcw (v := 858993459) (pc' := 21) (zT_in 676 (by decide +kernel) (by decide +kernel)) dJ6_bitCount_0f7a4_18 rfl ?_
  refine Z_iand (pc' := 22) dJ6_bitCount_0f7a4_21 rfl ?_
  refine Z_iadd (pc' := 23) dJ6_bitCount_0f7a4_22 rfl ?_
  obtain ⟨v2, hv2, hF⟩ := zl_of hF
  refine Z_istore_nE (i := 0) (x' := v2) (vs' := [some (.int v2)]) (pc' := 24) dJ6_bitCount_0f7a4_23 rfl hv2 (by decide) rfl rfl ?_
  refine Z_iload_n (i := 0) (pc' := 25) dJ6_bitCount_0f7a4_24 rfl rfl rfl ?_
  refine Z_iload_n (i := 0) (pc' := 26) dJ6_bitCount_0f7a4_25 rfl rfl rfl ?_
  refine Z_iconst (v := 4) (pc' := 27) dJ6_bitCount_0f7a4_26 (by decide) rfl ?_
  refine Z_iushr (pc' := 28) dJ6_bitCount_0f7a4_27 rfl ?_
  refine Z_iadd (pc' := 29) dJ6_bitCount_0f7a4_28 rfl ?_
  refine Z_ldcw (v := 252645135) (pc' := 32) (zT_in 677 (by decide +kernel) (by decide +kernel)) dJ6_bitCount_0f7a4_29 rfl ?_
  refine Z_iand (pc' := 33) dJ6_bitCount_0f7a4_32 rfl ?_
  obtain ⟨v3, hv3, hF⟩ := zl_of hF
  refine Z_istore_nE (i := 0) (x' := v3) (vs' := [some (.int v3)]) (pc' := 34) dJ6_bitCount_0f7a4_33 rfl hv3 (by decide) rfl rfl ?_
  refine Z_iload_n (i := 0) (pc' := 35) dJ6_bitCount_0f7a4_34 rfl rfl rfl ?_
  refine Z_iload_n (i := 0) (pc' := 36) dJ6_bitCount_0f7a4_35 rfl rfl rfl ?_
  refine Z_bipush (v := 8) (pc' := 38) dJ6_bitCount_0f7a4_36 (by decide) rfl ?_
  refine Z_iushr (pc' := 39) dJ6_bitCount_0f7a4_38 rfl ?_
  refine Z_iadd (pc' := 40) dJ6_bitCount_0f7a4_39 rfl ?_
  obtain ⟨v4, hv4, hF⟩ := zl_of hF
  refine Z_istore_nE (i := 0) (x' := v4) (vs' := [some (.int v4)]) (pc' := 41) dJ6_bitCount_0f7a4_40 rfl hv4 (by decide) rfl rfl ?_
  refine Z_iload_n (i := 0) (pc' := 42) dJ6_bitCount_0f7a4_41 rfl rfl rfl ?_
  refine Z_iload_n (i := 0) (pc' := 43) dJ6_bitCount_0f7a4_42 rfl rfl rfl ?_
  refine Z_bipush (v := 16) (pc' := 45) dJ6_bitCount_0f7a4_43 (by decide) rfl ?_
  refine Z_iushr (pc' := 46) dJ6_bitCount_0f7a4_45 rfl ?_
  refine Z_iadd (pc' := 47) dJ6_bitCount_0f7a4_46 rfl ?_
  obtain ⟨v5, hv5, hF⟩ := zl_of hF
  refine Z_istore_nE (i := 0) (x' := v5) (vs' := [some (.int v5)]) (pc' := 48) dJ6_bitCount_0f7a4_47 rfl hv5 (by decide) rfl rfl ?_
  refine Z_iload_n (i := 0) (pc' := 49) dJ6_bitCount_0f7a4_48 rfl rfl rfl ?_
  refine Z_bipush (v := 63) (pc' := 51) dJ6_bitCount_0f7a4_49 (by decide) rfl ?_
  refine Z_iand (pc' := 52) dJ6_bitCount_0f7a4_51 rfl ?_
  cases hF
  exact Z_iret (ty := .int) (w := (v5 &&& (63 : Int32))) dJ6_bitCount_0f7a4_52 rfl rfl (Nat.le_refl _) (Nat.le_refl _) ⟨rfl, rfl⟩
def zfl (f : Nat → Int32) (i : Nat) (v : Int32) : Nat → Int32 := fun j => if j < i then v else f j
theorem zfl_0 (f : Nat → Int32) (v : Int32) : zfl f 0 v = f := by
  funext j
  simp [zfl]
theorem zfl_s (f : Nat → Int32) (i : Nat) (v : Int32) : upd (zfl f i v) i v = zfl f (i + 1) v := by
  funext j
  unfold upd zfl
  by_cases h : j = i
  · simp [h]
  · by_cases h2 : j < i
    · simp [h, h2, Nat.lt_succ_of_lt h2]
    · simp [h, h2, show ¬ j < i + 1 by omega]
def zsf (σ : zS) (k n : Nat) (v : Int32) : zS := fun a => if a = k then zfl (σ k) n v else σ a
theorem zUp_zUp {M : zM} {a : Nat} {e e' : zE} : zUp (zUp M a e) a e' = zUp M a e' := by
  funext b
  by_cases h : b = a
  · subst h
    rw [zUp_self, zUp_self]
  · rw [zUp_ne h, zUp_ne h, zUp_ne h]
theorem zUp_same {M : zM} {a : Nat} {e : zE} (h : M a = some e) : zUp M a e = M := by
  funext b
  by_cases hb : b = a
  · subst hb
    rw [zUp_self, h]
  · rw [zUp_ne hb]
abbrev rmJ7_fill_53178 : Room := { frames := 0, cells := 0, slots := 0, locals := 0 }
set_option maxHeartbeats 4000000 in
set_option maxRecDepth 100000 in
theorem qJ7_fill_L {l : Launch} {D : va_G} {M0 : zM} {Q : Option Value → zM → Prop} {M : zM} {a len : Nat} {v : Int32} {f : Nat → Int32} (hl : len < 2 ^ 31) (hQ : Q none (zUp M a (.inl (.int, len, .inl (zfl f len v))))) : ∀ (n i : Nat), i ≤ len → len + 1 ≤ i + n → Z l yJ7_fill_53178 cJ7_fill_53178 4 none rmJ7_fill_53178 0 0 D M0 Q 0 0 5 [some (.ref a), some (.int v), some (.int (nI i)), some (.int (nI len))] [] (zUp M a (.inl (.int, len, .inl (zfl f i v)))) := by
  intro n
  induction n with
  | zero =>
    intro i h1 h2
    omega
  | succ n ih =>
    intro i hi hn
    refine Z_iload_n (i := 2) (pc' := 6) dJ7_fill_53178_5 rfl rfl rfl ?_
    refine Z_iload_n (i := 3) (pc' := 7) dJ7_fill_53178_6 rfl rfl rfl ?_
    refine Z_icmp_ge (tgt := 20) (pc' := 10) dJ7_fill_53178_7 (by decide) rfl (fun h => ?_) (fun h => ?_)
    · have : i = len := by
        rcases Nat.lt_or_ge i len with q | q
        · exact absurd h (nI_ge q hl)
        · omega
      subst this
      exact Z_vret dJ7_fill_53178_20 rfl (Nat.zero_le _) (Nat.zero_le _) hQ
    · have hlt : i < len := by
        rcases Nat.lt_or_ge i len with q | q
        · exact q
        · exact absurd (nI_le q (by omega)) h
      refine Z_aload_n (i := 0) (pc' := 11) dJ7_fill_53178_10 rfl rfl rfl ?_
      refine Z_iload_n (i := 2) (pc' := 12) dJ7_fill_53178_11 rfl rfl rfl ?_
      refine Z_iload_n (i := 1) (pc' := 13) dJ7_fill_53178_12 rfl rfl rfl ?_
      refine Z_iast (pc' := 14) zUp_self (vp_in_nI hlt hl) dJ7_fill_53178_13 rfl ?_
      refine Z_mem (M' := zUp M a (.inl (.int, len, .inl (zfl f (i + 1) v)))) (by rw [zUp_zUp, nI_clamp (by omega), zfl_s]) ?_
      refine Z_iinc (i := 2) (v := nI (i + 1)) (vs' := [some (.ref a), some (.int v), some (.int (nI (i + 1))), some (.int (nI len))]) (pc' := 17) dJ7_fill_53178_14 rfl (nI_1 i) (by decide) rfl rfl ?_
      refine Z_goto (tgt := 5) dJ7_fill_53178_17 (by decide) ?_
      exact ih (i + 1) hlt (by omega)
set_option maxHeartbeats 4000000 in
set_option maxRecDepth 100000 in
theorem qJ7_fill_53178 (l : Launch) {M : zM} {a len : Nat} {v : Int32} {f : Nat → Int32} (hM : M a = some (.inl (.int, len, .inl f))) (hl : len < 2 ^ 31 := by decide) : zMet l yJ7_fill_53178 cJ7_fill_53178 4 none rmJ7_fill_53178 [.ref a, .int v] M (fun r M' => r = none ∧ M' = zUp M a (.inl (.int, len, .inl (zfl f len v)))) := by
  refine zMet.ofZ (vs := [some (.ref a), some (.int v), none, none]) (by decide) rfl (zCt_of _ ⟨rfl, ⟨rfl, trivial⟩⟩) (Nat.le_of_ble_eq_true rfl) (fun D => ?_)
  refine Z_iconst (v := 0) (pc' := 1) dJ7_fill_53178_0 (by decide) rfl ?_
  refine Z_istore_n (i := 2) (vs' := [some (.ref a), some (.int v), some (.int 0), none]) (pc' := 2) dJ7_fill_53178_1 rfl (by decide) rfl rfl ?_
  refine Z_aload_n (i := 0) (pc' := 3) dJ7_fill_53178_2 rfl rfl rfl ?_
  refine Z_alen (v := nI len) (pc' := 4) hM rfl dJ7_fill_53178_3 rfl ?_
  refine Z_istore_n (i := 3) (vs' := [some (.ref a), some (.int v), some (.int 0), some (.int (nI len))]) (pc' := 5) dJ7_fill_53178_4 rfl (by decide) rfl rfl ?_
  have e : M = zUp M a (.inl (.int, len, .inl (zfl f 0 v))) := by rw [zfl_0, zUp_same hM]
  refine Z_mem e ?_
  exact qJ7_fill_L hl ⟨rfl, rfl⟩ (len + 1) 0 (Nat.zero_le _) (by omega)
theorem fC_18 {c ad dec : Nat → Nat} (hG : cG c ad dec) {σ σ' : zS} {v : Int32} (he : σ' = zsf σ 18 16 v) : zUp (mC c ad dec σ) (ad 144) (.inl (.int, 16, .inl (zfl (σ 18) 16 v))) = mC c ad dec σ' := by
  subst he
  refine mC_set hG (t := 144) (Or.inl ⟨rfl, by decide⟩) (by show some _ = some _; rfl) (fun t' ht => ?_)
  refine cC_eq (fun e => cS_eq (fun k' hk' h40 => if_neg (fun q => ht ?_))) (fun _ k' a b => ?_) (fun _ k' a b => ?_) (fun _ => if_neg (by omega)) (fun _ => if_neg (by omega)) (fun _ k' a b => ?_)
  · subst q
    have : cOw 18 = 18 := rfl
    omega
  all_goals (unfold zsf; rw [if_neg (by omega)])
theorem fC_bt {c ad dec : Nat → Nat} (hG : cG c ad dec) {σ σ' : zS} {d : Nat} {v : Int32} (hd : d < 7) (he : σ' = zsf σ (19 + d) 256 v) : zUp (mC c ad dec σ) (ad (8 * (19 + d))) (.inl (.int, 256, .inl (zfl (σ (19 + d)) 256 v))) = mC c ad dec σ' := by
  subst he
  have ho : cOw (19 + d) = 19 + d := by unfold cOw; repeat (rw [if_neg (by omega)])
  refine mC_set hG (t := 8 * (19 + d)) (Or.inl ⟨by omega, by omega⟩) (by rw [cC_bt hd]; unfold zsf; rw [if_pos rfl]) (fun t' ht => ?_)
  refine cC_eq (fun e => cS_eq (fun k' hk' h40 => if_neg (fun q => ht ?_))) (fun _ k' a b => ?_) (fun _ k' a b => ?_) (fun _ => if_neg (by omega)) (fun _ => if_neg (by omega)) (fun _ k' a b => ?_)
  · rw [q, ho] at hk'
    omega
  all_goals (unfold zsf; rw [if_neg (by omega)])
