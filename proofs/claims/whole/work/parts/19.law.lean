/-! the law: one walk, over what its calls promise -/
section ZL
variable {l : Launch} {y : MethodName} {cc : ByteArray} {nL : Nat} {ret : Option FieldType} {R : Room} {mc ms : Nat} {D : va_G} {M0 : zM} {Q : Option Value → zM → Prop} {k n pc pc' : Nat} {vs vs' : List (Option Value)} {st : List Value} {M : zM}
theorem Z_xld {i : Int32} (hi : vp_in i (D.2 1002 0)) (hd : decode cc pc = .ok (.iaload, 1)) (hp : pc + 1 = pc') (kk : Z l y cc nL ret R mc ms D M0 Q k n pc' vs (.int (nI (D.2 1001 i.toNatClampNeg)) :: st) M) : Z l y cc nL ret R mc ms D M0 Q k n pc vs (.int i :: .ref (D.2 1000 5) :: st) M := by
  subst hp
  exact fun p e s m args below meth c C H locs ls hls hP hA hS => va_ti C.1 C.2.1 C.2.2.2.2.2.2.2.2.2.2.2.2.2.2.2.2.2.2.2 hS hi rfl hd (kk p e s m args below meth c C H locs ls hls hP hA hS)
theorem Z_xlen (hd : decode cc pc = .ok (.arraylength, 1)) (hp : pc + 1 = pc') (kk : Z l y cc nL ret R mc ms D M0 Q k n pc' vs (.int (nI (D.2 1002 0)) :: st) M) : Z l y cc nL ret R mc ms D M0 Q k n pc vs (.ref (D.2 1000 5) :: st) M := by
  subst hp
  exact fun p e s m args below meth c C H locs ls hls hP hA hS => va_tlen C.1 C.2.1 C.2.2.2.2.2.2.2.2.2.2.2.2.2.2.2.2.2.2.2 hS rfl hd (kk p e s m args below meth c C H locs ls hls hP hA hS)
end ZL
def lwStep (l : Launch) (I : Nat → Nat → Nat → zM → zM → Prop) (yc : MethodName) (cc : ByteArray) (nc : Nat) (retc : Option FieldType) (yr : MethodName) (cr : ByteArray) (nr : Nat) (retr : Option FieldType) (As : List Value) : Prop :=
  ∀ (j a b : Nat) (Mc Mr : zM), j < 512 → I j a b Mc Mr → ∃ (r : Int32) (PC PR : zM → Prop) (rmc rmr : Room), (rmc.frames + 1 ≤ 11 ∧ 8 + (nc + 11) + rmc.locals ≤ 404 ∧ rmc.cells ≤ 10 ∧ rmc.slots ≤ 500) ∧ (rmr.frames + 1 ≤ 11 ∧ 8 + (nr + 11) + rmr.locals ≤ 404 ∧ rmr.cells = 0 ∧ rmr.slots = 0) ∧
    zMet l yc cc nc retc rmc (.ref a :: As) Mc (fun v M' => v = some (.int r) ∧ PC M') ∧ zMet l yr cr nr retr rmr (.ref b :: As) Mr (fun v M' => v = some (.int r) ∧ PR M') ∧ ∀ Mc' Mr', PC Mc' → PR Mr' → I (j + 1) a b Mc' Mr'
def lwObj (I : Nat → Nat → Nat → zM → zM → Prop) : Prop := (∀ (j a b : Nat) (Mc Mr : zM), I j a b Mc Mr → (∃ fs, Mc a = some (.inr (7, fs))) ∧ ∃ fs, Mr b = some (.inr (8, fs))) ∧ ∀ (j a b : Nat) (Mc Mr : zM), I j a b Mc Mr → I (j + 1) a b Mc Mr
def lwAll (l : Launch) (I : Nat → Nat → Nat → zM → zM → Prop) : Prop :=
  lwObj I ∧
  (∀ x0 x1 x2 x3 x4 : Int32, lwStep l I yX7_feed cX7_feed 6 (some .int) yX8_feed cX8_feed 6 (some .int) [.int x0, .int x1, .int x2, .int x3, .int x4]) ∧
  (∀ x0 : Int32, lwStep l I yX7_custom cX7_custom 3 (some .int) yX8_custom cX8_custom 4 (some .int) [.int x0]) ∧
  (∀ x0 : Int32, lwStep l I yX7_islands cX7_islands 2 (some .boolean) yX8_islands cX8_islands 2 (some .boolean) [.int x0]) ∧
  (∀ x0 : Int32, lwStep l I yX7_man cX7_man 2 (some .int) yX8_man cX8_man 2 (some .int) [.int x0]) ∧
  (∀ x0 x1 : Int32, lwStep l I yX7_partners cX7_partners 5 (some .boolean) yX8_partners cX8_partners 3 (some .boolean) [.int x0, .int x1]) ∧
  (∀ x0 x1 x2 : Int32, lwStep l I yX7_treasure cX7_treasure 5 (some .int) yX8_treasure cX8_treasure 4 (some .int) [.int x0, .int x1, .int x2]) ∧
  (∀ x0 x1 x2 : Int32, lwStep l I yX7_give cX7_give 7 (some .int) yX8_give cX8_give 7 (some .int) [.int x0, .int x1, .int x2]) ∧
  (lwStep l I yX7_season cX7_season 4 (some .int) yX8_season cX8_season 2 (some .int) []) ∧
  (∀ x0 x1 : Int32, lwStep l I yX7_dies cX7_dies 5 (some .boolean) yX8_dies cX8_dies 4 (some .boolean) [.int x0, .int x1]) ∧
  (∀ x0 : Int32, lwStep l I yX7_lost cX7_lost 3 (some .boolean) yX8_lost cX8_lost 2 (some .boolean) [.int x0]) ∧
  (∀ x0 x1 : Int32, lwStep l I yX7_known cX7_known 5 (some .int) yX8_known cX8_known 5 (some .int) [.int x0, .int x1]) ∧
  (∀ x0 x1 : Int32, lwStep l I yX7_way cX7_way 4 (some .int) yX8_way cX8_way 3 (some .int) [.int x0, .int x1]) ∧
  (∀ x0 : Int32, lwStep l I yX7_closings cX7_closings 4 (some .int) yX8_closings cX8_closings 9 (some .int) [.int x0]) ∧
  (∀ x0 : Int32, lwStep l I yX7_closing cX7_closing 2 (some .int) yX8_closing cX8_closing 2 (some .int) [.int x0]) ∧
  (∀ x0 x1 : Int32, lwStep l I yX7_soonest cX7_soonest 4 (some .int) yX8_soonest cX8_soonest 3 (some .int) [.int x0, .int x1]) ∧
  (∀ x0 x1 x2 : Int32, lwStep l I yX7_through cX7_through 8 (some .int) yX8_through cX8_through 9 (some .int) [.int x0, .int x1, .int x2]) ∧
  (∀ x0 x1 : Int32, lwStep l I yX7_look cX7_look 4 (some .int) yX8_look cX8_look 5 (some .int) [.int x0, .int x1]) ∧
  (∀ x0 x1 : Int32, lwStep l I yX7_told cX7_told 4 (some .int) yX8_told cX8_told 3 (some .int) [.int x0, .int x1]) ∧
  (∀ x0 x1 : Int32, lwStep l I yX7_debt cX7_debt 4 (some .int) yX8_debt cX8_debt 3 (some .int) [.int x0, .int x1]) ∧
  (∀ x0 x1 : Int32, lwStep l I yX7_quarrel cX7_quarrel 3 (some .int) yX8_quarrel cX8_quarrel 3 (some .int) [.int x0, .int x1]) ∧
  (∀ x0 : Int32, lwStep l I yX7_count cX7_count 2 (some .int) yX8_count cX8_count 4 (some .int) [.int x0])
theorem lw_ix {L i p : Nat} (h : i + 6 ≤ L) (hp : p < 6) (hL : L ≤ 3072) : vp_in (nI i + nI p) L := by
  rw [nI_add]
  exact vp_in_nI (by omega) (by omega)
theorem lw_go {L i : Nat} (hL : L ≤ 3072) (hi : i ≤ 4000) (h : ¬ nI L - 6 < nI i) : i + 6 ≤ L := by
  have h1 : (nI L - nI 6).toInt = (L : Int) - 6 := pk_sub_toInt (by omega) (by omega)
  have h2 : (nI i).toInt = (i : Int) := nI_toInt (by omega)
  have h3 : ¬ (nI L - nI 6) < nI i := h
  rw [Int32.lt_iff_toInt_lt, h1, h2] at h3
  omega
set_option maxHeartbeats 16000000 in
set_option maxRecDepth 100000 in
theorem law_loop {l : Launch} {I : Nat → Nat → Nat → zM → zM → Prop} (hAll : lwAll l I) {D : va_G} (hL : D.2 1002 0 ≤ 3072) : ∀ (n j k s a b : Nat) (Mc Mr : zM), 6 * j ≤ D.2 1002 0 + 5 → 513 ≤ j + n → k ≤ 1000 + 10 * j → s ≤ 100000 + 500 * j → I j a b Mc Mr → (∀ x, Mc x ≠ none → Mr x = none) → Z l yL_law cL_law 4 (some .boolean) room_1 600000 7302250 D (fun _ => none) (fun v _ => v = some (.int 1)) k s 18 [some (.ref (D.2 1000 5)), some (.ref a), some (.ref b), some (.int (nI (6 * j)))] [] (zU Mc Mr) := by
  obtain ⟨hObj, s_feed, s_custom, s_islands, s_man, s_partners, s_treasure, s_give, s_season, s_dies, s_lost, s_known, s_way, s_closings, s_closing, s_soonest, s_through, s_look, s_told, s_debt, s_quarrel, s_count⟩ := hAll
  intro n
  induction n with
  | zero =>
    intro j k s a b Mc Mr h1 h2
    exfalso
    omega
  | succ n ih =>
    intro j k s a b Mc Mr h6 hn hk hs hI hdis
    refine Z_iload_n (i := 3) (pc' := 19) dL_law_18 rfl rfl rfl ?_
    refine Z_aload_n (i := 0) (pc' := 20) dL_law_19 rfl rfl rfl ?_
    refine Z_xlen (pc' := 21) dL_law_20 rfl ?_
    refine Z_bipush (v := 6) (pc' := 23) dL_law_21 (by decide) rfl ?_
    refine Z_isub (pc' := 24) dL_law_23 rfl ?_
    refine Z_icmp_gt (tgt := 801) (pc' := 27) dL_law_24 (by decide) rfl (fun _ => ?_) (fun hgo => ?_)
    · refine Z_iconst (v := 1) (pc' := 802) dL_law_801 (by decide) rfl ?_
      exact Z_iret (ty := .boolean) (w := 1) dL_law_802 rfl rfl (by omega) (by omega) rfl
    have hlt : 6 * j + 6 ≤ D.2 1002 0 := lw_go hL (by omega) hgo
    have hj : j < 512 := by omega
    obtain ⟨⟨fa, hMa⟩, fb, hMb⟩ := hObj.1 j a b Mc Mr hI
    have h0 : vp_in (nI (6 * j)) (D.2 1002 0) := vp_in_nI (by omega) (by omega)
    have h1 : vp_in (nI (6 * j) + 1) (D.2 1002 0) := lw_ix (p := 1) hlt (by omega) hL
    have h2 : vp_in (nI (6 * j) + 2) (D.2 1002 0) := lw_ix (p := 2) hlt (by omega) hL
    have h3 : vp_in (nI (6 * j) + 3) (D.2 1002 0) := lw_ix (p := 3) hlt (by omega) hL
    have h4 : vp_in (nI (6 * j) + 4) (D.2 1002 0) := lw_ix (p := 4) hlt (by omega) hL
    have h5 : vp_in (nI (6 * j) + 5) (D.2 1002 0) := lw_ix (p := 5) hlt (by omega) hL
    have hback : ∀ (k' s' : Nat) (Mc' Mr' : zM), k' ≤ 1000 + 10 * (j + 1) → s' ≤ 100000 + 500 * (j + 1) → I (j + 1) a b Mc' Mr' → (∀ x, Mc' x ≠ none → Mr' x = none) → Z l yL_law cL_law 4 (some .boolean) room_1 600000 7302250 D (fun _ => none) (fun v _ => v = some (.int 1)) k' s' 795 [some (.ref (D.2 1000 5)), some (.ref a), some (.ref b), some (.int (nI (6 * j)))] [] (zU Mc' Mr') := by
      intro k' s' Mc' Mr' g1 g2 g3 g4
      refine Z_iinc (i := 3) (v := nI (6 * (j + 1))) (vs' := [some (.ref (D.2 1000 5)), some (.ref a), some (.ref b), some (.int (nI (6 * (j + 1))))]) (pc' := 798) dL_law_795 rfl (by rw [show Int32.ofInt 6 = nI 6 from rfl, nI_add]; rfl) (by decide) rfl rfl ?_
      refine Z_goto (tgt := 18) dL_law_798 (by decide) ?_
      exact ih (j + 1) k' s' a b Mc' Mr' (by omega) (by omega) g1 g2 g3 g4
    refine Z_aload_n (i := 0) (pc' := 28) dL_law_27 rfl rfl rfl ?_
    refine Z_iload_n (i := 3) (pc' := 29) dL_law_28 rfl rfl rfl ?_
    refine Z_xld (pc' := 30) h0 dL_law_29 rfl ?_
    refine Z_bipush (v := 31) (pc' := 32) dL_law_30 (by decide) rfl ?_
    refine Z_iand (pc' := 33) dL_law_32 rfl ?_
    generalize (nI (D.2 1001 (nI (6 * j)).toNatClampNeg) &&& 31) = sw
    by_cases hs0 : sw = nI 0
    · refine Z_tin (j := 0) (tgt := 132) dL_law_33 hs0 (by decide) (by decide) rfl (by decide) ?_
      refine Z_aload_n (i := 1) (pc' := 133) dL_law_132 rfl rfl rfl ?_
      refine Z_aload_n (i := 0) (pc' := 134) dL_law_133 rfl rfl rfl ?_
      refine Z_iload_n (i := 3) (pc' := 135) dL_law_134 rfl rfl rfl ?_
      refine Z_iconst (v := 1) (pc' := 136) dL_law_135 (by decide) rfl ?_
      refine Z_iadd (pc' := 137) dL_law_136 rfl ?_
      refine Z_xld (pc' := 138) h1 dL_law_137 rfl ?_
      refine Z_aload_n (i := 0) (pc' := 139) dL_law_138 rfl rfl rfl ?_
      refine Z_iload_n (i := 3) (pc' := 140) dL_law_139 rfl rfl rfl ?_
      refine Z_iconst (v := 2) (pc' := 141) dL_law_140 (by decide) rfl ?_
      refine Z_iadd (pc' := 142) dL_law_141 rfl ?_
      refine Z_xld (pc' := 143) h2 dL_law_142 rfl ?_
      refine Z_aload_n (i := 0) (pc' := 144) dL_law_143 rfl rfl rfl ?_
      refine Z_iload_n (i := 3) (pc' := 145) dL_law_144 rfl rfl rfl ?_
      refine Z_iconst (v := 3) (pc' := 146) dL_law_145 (by decide) rfl ?_
      refine Z_iadd (pc' := 147) dL_law_146 rfl ?_
      refine Z_xld (pc' := 148) h3 dL_law_147 rfl ?_
      refine Z_aload_n (i := 0) (pc' := 149) dL_law_148 rfl rfl rfl ?_
      refine Z_iload_n (i := 3) (pc' := 150) dL_law_149 rfl rfl rfl ?_
      refine Z_iconst (v := 4) (pc' := 151) dL_law_150 (by decide) rfl ?_
      refine Z_iadd (pc' := 152) dL_law_151 rfl ?_
      refine Z_xld (pc' := 153) h4 dL_law_152 rfl ?_
      refine Z_aload_n (i := 0) (pc' := 154) dL_law_153 rfl rfl rfl ?_
      refine Z_iload_n (i := 3) (pc' := 155) dL_law_154 rfl rfl rfl ?_
      refine Z_iconst (v := 5) (pc' := 156) dL_law_155 (by decide) rfl ?_
      refine Z_iadd (pc' := 157) dL_law_156 rfl ?_
      refine Z_xld (pc' := 158) h5 dL_law_157 rfl ?_
      obtain ⟨r, PC, PR, rmc, rmr, ⟨c1, c2, c3, c4⟩, ⟨r1, r2, r3, r4⟩, hc, hr, hI'⟩ := s_feed (nI (D.2 1001 (nI (6 * j) + 1).toNatClampNeg)) (nI (D.2 1001 (nI (6 * j) + 2).toNatClampNeg)) (nI (D.2 1001 (nI (6 * j) + 3).toNatClampNeg)) (nI (D.2 1001 (nI (6 * j) + 4).toNatClampNeg)) (nI (D.2 1001 (nI (6 * j) + 5).toNatClampNeg)) j a b Mc Mr hj hI
      refine Z_callV (As := [.int (nI (D.2 1001 (nI (6 * j) + 1).toNatClampNeg)), .int (nI (D.2 1001 (nI (6 * j) + 2).toNatClampNeg)), .int (nI (D.2 1001 (nI (6 * j) + 3).toNatClampNeg)), .int (nI (D.2 1001 (nI (6 * j) + 4).toNatClampNeg)), .int (nI (D.2 1001 (nI (6 * j) + 5).toNatClampNeg))]) (st := []) (pc' := 161) (hc.frame hdis) ckX7_feed kvX7_feed mlL_13 (zU_l hMa) rfl rfl rfl (Nat.le_of_ble_eq_true rfl) ⟨c1, c2⟩ ⟨by show k + rmc.cells ≤ 600000; omega, by show s + rmc.slots ≤ 7302250; omega⟩ dL_law_158 rfl rfl rfl (fun v M' hQ => ?_)
      obtain ⟨Mc', ⟨rfl, hPC⟩, hdis', rfl⟩ := hQ
      refine Z_mem (zU_comm hdis') ?_
      have hdis2 : ∀ x, Mr x ≠ none → Mc' x = none := fun x hx => by
        cases hz : Mc' x with
        | none => rfl
        | some e => exact absurd (hdis' x (by rw [hz]; simp)) hx
      refine Z_aload_n (i := 2) (pc' := 162) dL_law_161 rfl rfl rfl ?_
      refine Z_aload_n (i := 0) (pc' := 163) dL_law_162 rfl rfl rfl ?_
      refine Z_iload_n (i := 3) (pc' := 164) dL_law_163 rfl rfl rfl ?_
      refine Z_iconst (v := 1) (pc' := 165) dL_law_164 (by decide) rfl ?_
      refine Z_iadd (pc' := 166) dL_law_165 rfl ?_
      refine Z_xld (pc' := 167) h1 dL_law_166 rfl ?_
      refine Z_aload_n (i := 0) (pc' := 168) dL_law_167 rfl rfl rfl ?_
      refine Z_iload_n (i := 3) (pc' := 169) dL_law_168 rfl rfl rfl ?_
      refine Z_iconst (v := 2) (pc' := 170) dL_law_169 (by decide) rfl ?_
      refine Z_iadd (pc' := 171) dL_law_170 rfl ?_
      refine Z_xld (pc' := 172) h2 dL_law_171 rfl ?_
      refine Z_aload_n (i := 0) (pc' := 173) dL_law_172 rfl rfl rfl ?_
      refine Z_iload_n (i := 3) (pc' := 174) dL_law_173 rfl rfl rfl ?_
      refine Z_iconst (v := 3) (pc' := 175) dL_law_174 (by decide) rfl ?_
      refine Z_iadd (pc' := 176) dL_law_175 rfl ?_
      refine Z_xld (pc' := 177) h3 dL_law_176 rfl ?_
      refine Z_aload_n (i := 0) (pc' := 178) dL_law_177 rfl rfl rfl ?_
      refine Z_iload_n (i := 3) (pc' := 179) dL_law_178 rfl rfl rfl ?_
      refine Z_iconst (v := 4) (pc' := 180) dL_law_179 (by decide) rfl ?_
      refine Z_iadd (pc' := 181) dL_law_180 rfl ?_
      refine Z_xld (pc' := 182) h4 dL_law_181 rfl ?_
      refine Z_aload_n (i := 0) (pc' := 183) dL_law_182 rfl rfl rfl ?_
      refine Z_iload_n (i := 3) (pc' := 184) dL_law_183 rfl rfl rfl ?_
      refine Z_iconst (v := 5) (pc' := 185) dL_law_184 (by decide) rfl ?_
      refine Z_iadd (pc' := 186) dL_law_185 rfl ?_
      refine Z_xld (pc' := 187) h5 dL_law_186 rfl ?_
      refine Z_callV (As := [.int (nI (D.2 1001 (nI (6 * j) + 1).toNatClampNeg)), .int (nI (D.2 1001 (nI (6 * j) + 2).toNatClampNeg)), .int (nI (D.2 1001 (nI (6 * j) + 3).toNatClampNeg)), .int (nI (D.2 1001 (nI (6 * j) + 4).toNatClampNeg)), .int (nI (D.2 1001 (nI (6 * j) + 5).toNatClampNeg))]) (st := [.int r]) (pc' := 190) (hr.frame hdis2) ckX8_feed kvX8_feed mlL_17 (zU_l hMb) rfl rfl rfl (Nat.le_of_ble_eq_true rfl) ⟨r1, r2⟩ ⟨by show k + rmc.cells + rmr.cells ≤ 600000; omega, by show s + rmc.slots + rmr.slots ≤ 7302250; omega⟩ dL_law_187 rfl rfl rfl (fun v M' hQ => ?_)
      obtain ⟨Mr', ⟨rfl, hPR⟩, hdis3, rfl⟩ := hQ
      refine Z_mem (zU_comm hdis3) ?_
      refine Z_icmp_eq (tgt := 795) (pc' := 193) dL_law_190 (by decide) rfl (fun _ => ?_) (fun q => absurd rfl q)
      exact hback _ _ Mc' Mr' (by omega) (by omega) (hI' Mc' Mr' hPC hPR) (fun x hx => by
        cases hz : Mr' x with
        | none => rfl
        | some e => exact absurd (hdis3 x (by rw [hz]; simp)) hx)
    by_cases hs1 : sw = nI 1
    · refine Z_tin (j := 1) (tgt := 195) dL_law_33 hs1 (by decide) (by decide) rfl (by decide) ?_
      refine Z_aload_n (i := 1) (pc' := 196) dL_law_195 rfl rfl rfl ?_
      refine Z_aload_n (i := 0) (pc' := 197) dL_law_196 rfl rfl rfl ?_
      refine Z_iload_n (i := 3) (pc' := 198) dL_law_197 rfl rfl rfl ?_
      refine Z_iconst (v := 1) (pc' := 199) dL_law_198 (by decide) rfl ?_
      refine Z_iadd (pc' := 200) dL_law_199 rfl ?_
      refine Z_xld (pc' := 201) h1 dL_law_200 rfl ?_
      obtain ⟨r, PC, PR, rmc, rmr, ⟨c1, c2, c3, c4⟩, ⟨r1, r2, r3, r4⟩, hc, hr, hI'⟩ := s_custom (nI (D.2 1001 (nI (6 * j) + 1).toNatClampNeg)) j a b Mc Mr hj hI
      refine Z_callV (As := [.int (nI (D.2 1001 (nI (6 * j) + 1).toNatClampNeg))]) (st := []) (pc' := 204) (hc.frame hdis) ckX7_custom kvX7_custom mlL_18 (zU_l hMa) rfl rfl rfl (Nat.le_of_ble_eq_true rfl) ⟨c1, c2⟩ ⟨by show k + rmc.cells ≤ 600000; omega, by show s + rmc.slots ≤ 7302250; omega⟩ dL_law_201 rfl rfl rfl (fun v M' hQ => ?_)
      obtain ⟨Mc', ⟨rfl, hPC⟩, hdis', rfl⟩ := hQ
      refine Z_mem (zU_comm hdis') ?_
      have hdis2 : ∀ x, Mr x ≠ none → Mc' x = none := fun x hx => by
        cases hz : Mc' x with
        | none => rfl
        | some e => exact absurd (hdis' x (by rw [hz]; simp)) hx
      refine Z_aload_n (i := 2) (pc' := 205) dL_law_204 rfl rfl rfl ?_
      refine Z_aload_n (i := 0) (pc' := 206) dL_law_205 rfl rfl rfl ?_
      refine Z_iload_n (i := 3) (pc' := 207) dL_law_206 rfl rfl rfl ?_
      refine Z_iconst (v := 1) (pc' := 208) dL_law_207 (by decide) rfl ?_
      refine Z_iadd (pc' := 209) dL_law_208 rfl ?_
      refine Z_xld (pc' := 210) h1 dL_law_209 rfl ?_
      refine Z_callV (As := [.int (nI (D.2 1001 (nI (6 * j) + 1).toNatClampNeg))]) (st := [.int r]) (pc' := 213) (hr.frame hdis2) ckX8_custom kvX8_custom mlL_22 (zU_l hMb) rfl rfl rfl (Nat.le_of_ble_eq_true rfl) ⟨r1, r2⟩ ⟨by show k + rmc.cells + rmr.cells ≤ 600000; omega, by show s + rmc.slots + rmr.slots ≤ 7302250; omega⟩ dL_law_210 rfl rfl rfl (fun v M' hQ => ?_)
      obtain ⟨Mr', ⟨rfl, hPR⟩, hdis3, rfl⟩ := hQ
      refine Z_mem (zU_comm hdis3) ?_
      refine Z_icmp_eq (tgt := 795) (pc' := 216) dL_law_213 (by decide) rfl (fun _ => ?_) (fun q => absurd rfl q)
      exact hback _ _ Mc' Mr' (by omega) (by omega) (hI' Mc' Mr' hPC hPR) (fun x hx => by
        cases hz : Mr' x with
        | none => rfl
        | some e => exact absurd (hdis3 x (by rw [hz]; simp)) hx)
    by_cases hs2 : sw = nI 2
    · refine Z_tin (j := 2) (tgt := 218) dL_law_33 hs2 (by decide) (by decide) rfl (by decide) ?_
      refine Z_aload_n (i := 1) (pc' := 219) dL_law_218 rfl rfl rfl ?_
      refine Z_aload_n (i := 0) (pc' := 220) dL_law_219 rfl rfl rfl ?_
      refine Z_iload_n (i := 3) (pc' := 221) dL_law_220 rfl rfl rfl ?_
      refine Z_iconst (v := 1) (pc' := 222) dL_law_221 (by decide) rfl ?_
      refine Z_iadd (pc' := 223) dL_law_222 rfl ?_
      refine Z_xld (pc' := 224) h1 dL_law_223 rfl ?_
      obtain ⟨r, PC, PR, rmc, rmr, ⟨c1, c2, c3, c4⟩, ⟨r1, r2, r3, r4⟩, hc, hr, hI'⟩ := s_islands (nI (D.2 1001 (nI (6 * j) + 1).toNatClampNeg)) j a b Mc Mr hj hI
      refine Z_callV (As := [.int (nI (D.2 1001 (nI (6 * j) + 1).toNatClampNeg))]) (st := []) (pc' := 227) (hc.frame hdis) ckX7_islands kvX7_islands mlL_23 (zU_l hMa) rfl rfl rfl (Nat.le_of_ble_eq_true rfl) ⟨c1, c2⟩ ⟨by show k + rmc.cells ≤ 600000; omega, by show s + rmc.slots ≤ 7302250; omega⟩ dL_law_224 rfl rfl rfl (fun v M' hQ => ?_)
      obtain ⟨Mc', ⟨rfl, hPC⟩, hdis', rfl⟩ := hQ
      refine Z_mem (zU_comm hdis') ?_
      have hdis2 : ∀ x, Mr x ≠ none → Mc' x = none := fun x hx => by
        cases hz : Mc' x with
        | none => rfl
        | some e => exact absurd (hdis' x (by rw [hz]; simp)) hx
      refine Z_aload_n (i := 2) (pc' := 228) dL_law_227 rfl rfl rfl ?_
      refine Z_aload_n (i := 0) (pc' := 229) dL_law_228 rfl rfl rfl ?_
      refine Z_iload_n (i := 3) (pc' := 230) dL_law_229 rfl rfl rfl ?_
      refine Z_iconst (v := 1) (pc' := 231) dL_law_230 (by decide) rfl ?_
      refine Z_iadd (pc' := 232) dL_law_231 rfl ?_
      refine Z_xld (pc' := 233) h1 dL_law_232 rfl ?_
      refine Z_callV (As := [.int (nI (D.2 1001 (nI (6 * j) + 1).toNatClampNeg))]) (st := [.int r]) (pc' := 236) (hr.frame hdis2) ckX8_islands kvX8_islands mlL_27 (zU_l hMb) rfl rfl rfl (Nat.le_of_ble_eq_true rfl) ⟨r1, r2⟩ ⟨by show k + rmc.cells + rmr.cells ≤ 600000; omega, by show s + rmc.slots + rmr.slots ≤ 7302250; omega⟩ dL_law_233 rfl rfl rfl (fun v M' hQ => ?_)
      obtain ⟨Mr', ⟨rfl, hPR⟩, hdis3, rfl⟩ := hQ
      refine Z_mem (zU_comm hdis3) ?_
      refine Z_icmp_eq (tgt := 795) (pc' := 239) dL_law_236 (by decide) rfl (fun _ => ?_) (fun q => absurd rfl q)
      exact hback _ _ Mc' Mr' (by omega) (by omega) (hI' Mc' Mr' hPC hPR) (fun x hx => by
        cases hz : Mr' x with
        | none => rfl
        | some e => exact absurd (hdis3 x (by rw [hz]; simp)) hx)
    by_cases hs3 : sw = nI 3
    · refine Z_tin (j := 3) (tgt := 241) dL_law_33 hs3 (by decide) (by decide) rfl (by decide) ?_
      refine Z_aload_n (i := 1) (pc' := 242) dL_law_241 rfl rfl rfl ?_
      refine Z_aload_n (i := 0) (pc' := 243) dL_law_242 rfl rfl rfl ?_
      refine Z_iload_n (i := 3) (pc' := 244) dL_law_243 rfl rfl rfl ?_
      refine Z_iconst (v := 1) (pc' := 245) dL_law_244 (by decide) rfl ?_
      refine Z_iadd (pc' := 246) dL_law_245 rfl ?_
      refine Z_xld (pc' := 247) h1 dL_law_246 rfl ?_
      obtain ⟨r, PC, PR, rmc, rmr, ⟨c1, c2, c3, c4⟩, ⟨r1, r2, r3, r4⟩, hc, hr, hI'⟩ := s_man (nI (D.2 1001 (nI (6 * j) + 1).toNatClampNeg)) j a b Mc Mr hj hI
      refine Z_callV (As := [.int (nI (D.2 1001 (nI (6 * j) + 1).toNatClampNeg))]) (st := []) (pc' := 250) (hc.frame hdis) ckX7_man kvX7_man mlL_28 (zU_l hMa) rfl rfl rfl (Nat.le_of_ble_eq_true rfl) ⟨c1, c2⟩ ⟨by show k + rmc.cells ≤ 600000; omega, by show s + rmc.slots ≤ 7302250; omega⟩ dL_law_247 rfl rfl rfl (fun v M' hQ => ?_)
      obtain ⟨Mc', ⟨rfl, hPC⟩, hdis', rfl⟩ := hQ
      refine Z_mem (zU_comm hdis') ?_
      have hdis2 : ∀ x, Mr x ≠ none → Mc' x = none := fun x hx => by
        cases hz : Mc' x with
        | none => rfl
        | some e => exact absurd (hdis' x (by rw [hz]; simp)) hx
      refine Z_aload_n (i := 2) (pc' := 251) dL_law_250 rfl rfl rfl ?_
      refine Z_aload_n (i := 0) (pc' := 252) dL_law_251 rfl rfl rfl ?_
      refine Z_iload_n (i := 3) (pc' := 253) dL_law_252 rfl rfl rfl ?_
      refine Z_iconst (v := 1) (pc' := 254) dL_law_253 (by decide) rfl ?_
      refine Z_iadd (pc' := 255) dL_law_254 rfl ?_
      refine Z_xld (pc' := 256) h1 dL_law_255 rfl ?_
      refine Z_callV (As := [.int (nI (D.2 1001 (nI (6 * j) + 1).toNatClampNeg))]) (st := [.int r]) (pc' := 259) (hr.frame hdis2) ckX8_man kvX8_man mlL_31 (zU_l hMb) rfl rfl rfl (Nat.le_of_ble_eq_true rfl) ⟨r1, r2⟩ ⟨by show k + rmc.cells + rmr.cells ≤ 600000; omega, by show s + rmc.slots + rmr.slots ≤ 7302250; omega⟩ dL_law_256 rfl rfl rfl (fun v M' hQ => ?_)
      obtain ⟨Mr', ⟨rfl, hPR⟩, hdis3, rfl⟩ := hQ
      refine Z_mem (zU_comm hdis3) ?_
      refine Z_icmp_eq (tgt := 795) (pc' := 262) dL_law_259 (by decide) rfl (fun _ => ?_) (fun q => absurd rfl q)
      exact hback _ _ Mc' Mr' (by omega) (by omega) (hI' Mc' Mr' hPC hPR) (fun x hx => by
        cases hz : Mr' x with
        | none => rfl
        | some e => exact absurd (hdis3 x (by rw [hz]; simp)) hx)
    by_cases hs4 : sw = nI 4
    · refine Z_tin (j := 4) (tgt := 264) dL_law_33 hs4 (by decide) (by decide) rfl (by decide) ?_
      refine Z_aload_n (i := 1) (pc' := 265) dL_law_264 rfl rfl rfl ?_
      refine Z_aload_n (i := 0) (pc' := 266) dL_law_265 rfl rfl rfl ?_
      refine Z_iload_n (i := 3) (pc' := 267) dL_law_266 rfl rfl rfl ?_
      refine Z_iconst (v := 1) (pc' := 268) dL_law_267 (by decide) rfl ?_
      refine Z_iadd (pc' := 269) dL_law_268 rfl ?_
      refine Z_xld (pc' := 270) h1 dL_law_269 rfl ?_
      refine Z_aload_n (i := 0) (pc' := 271) dL_law_270 rfl rfl rfl ?_
      refine Z_iload_n (i := 3) (pc' := 272) dL_law_271 rfl rfl rfl ?_
      refine Z_iconst (v := 2) (pc' := 273) dL_law_272 (by decide) rfl ?_
      refine Z_iadd (pc' := 274) dL_law_273 rfl ?_
      refine Z_xld (pc' := 275) h2 dL_law_274 rfl ?_
      obtain ⟨r, PC, PR, rmc, rmr, ⟨c1, c2, c3, c4⟩, ⟨r1, r2, r3, r4⟩, hc, hr, hI'⟩ := s_partners (nI (D.2 1001 (nI (6 * j) + 1).toNatClampNeg)) (nI (D.2 1001 (nI (6 * j) + 2).toNatClampNeg)) j a b Mc Mr hj hI
      refine Z_callV (As := [.int (nI (D.2 1001 (nI (6 * j) + 1).toNatClampNeg)), .int (nI (D.2 1001 (nI (6 * j) + 2).toNatClampNeg))]) (st := []) (pc' := 278) (hc.frame hdis) ckX7_partners kvX7_partners mlL_32 (zU_l hMa) rfl rfl rfl (Nat.le_of_ble_eq_true rfl) ⟨c1, c2⟩ ⟨by show k + rmc.cells ≤ 600000; omega, by show s + rmc.slots ≤ 7302250; omega⟩ dL_law_275 rfl rfl rfl (fun v M' hQ => ?_)
      obtain ⟨Mc', ⟨rfl, hPC⟩, hdis', rfl⟩ := hQ
      refine Z_mem (zU_comm hdis') ?_
      have hdis2 : ∀ x, Mr x ≠ none → Mc' x = none := fun x hx => by
        cases hz : Mc' x with
        | none => rfl
        | some e => exact absurd (hdis' x (by rw [hz]; simp)) hx
      refine Z_aload_n (i := 2) (pc' := 279) dL_law_278 rfl rfl rfl ?_
      refine Z_aload_n (i := 0) (pc' := 280) dL_law_279 rfl rfl rfl ?_
      refine Z_iload_n (i := 3) (pc' := 281) dL_law_280 rfl rfl rfl ?_
      refine Z_iconst (v := 1) (pc' := 282) dL_law_281 (by decide) rfl ?_
      refine Z_iadd (pc' := 283) dL_law_282 rfl ?_
      refine Z_xld (pc' := 284) h1 dL_law_283 rfl ?_
      refine Z_aload_n (i := 0) (pc' := 285) dL_law_284 rfl rfl rfl ?_
      refine Z_iload_n (i := 3) (pc' := 286) dL_law_285 rfl rfl rfl ?_
      refine Z_iconst (v := 2) (pc' := 287) dL_law_286 (by decide) rfl ?_
      refine Z_iadd (pc' := 288) dL_law_287 rfl ?_
      refine Z_xld (pc' := 289) h2 dL_law_288 rfl ?_
      refine Z_callV (As := [.int (nI (D.2 1001 (nI (6 * j) + 1).toNatClampNeg)), .int (nI (D.2 1001 (nI (6 * j) + 2).toNatClampNeg))]) (st := [.int r]) (pc' := 292) (hr.frame hdis2) ckX8_partners kvX8_partners mlL_36 (zU_l hMb) rfl rfl rfl (Nat.le_of_ble_eq_true rfl) ⟨r1, r2⟩ ⟨by show k + rmc.cells + rmr.cells ≤ 600000; omega, by show s + rmc.slots + rmr.slots ≤ 7302250; omega⟩ dL_law_289 rfl rfl rfl (fun v M' hQ => ?_)
      obtain ⟨Mr', ⟨rfl, hPR⟩, hdis3, rfl⟩ := hQ
      refine Z_mem (zU_comm hdis3) ?_
      refine Z_icmp_eq (tgt := 795) (pc' := 295) dL_law_292 (by decide) rfl (fun _ => ?_) (fun q => absurd rfl q)
      exact hback _ _ Mc' Mr' (by omega) (by omega) (hI' Mc' Mr' hPC hPR) (fun x hx => by
        cases hz : Mr' x with
        | none => rfl
        | some e => exact absurd (hdis3 x (by rw [hz]; simp)) hx)
    by_cases hs5 : sw = nI 5
    · refine Z_tin (j := 5) (tgt := 297) dL_law_33 hs5 (by decide) (by decide) rfl (by decide) ?_
      refine Z_aload_n (i := 1) (pc' := 298) dL_law_297 rfl rfl rfl ?_
      refine Z_aload_n (i := 0) (pc' := 299) dL_law_298 rfl rfl rfl ?_
      refine Z_iload_n (i := 3) (pc' := 300) dL_law_299 rfl rfl rfl ?_
      refine Z_iconst (v := 1) (pc' := 301) dL_law_300 (by decide) rfl ?_
      refine Z_iadd (pc' := 302) dL_law_301 rfl ?_
      refine Z_xld (pc' := 303) h1 dL_law_302 rfl ?_
      refine Z_aload_n (i := 0) (pc' := 304) dL_law_303 rfl rfl rfl ?_
      refine Z_iload_n (i := 3) (pc' := 305) dL_law_304 rfl rfl rfl ?_
      refine Z_iconst (v := 2) (pc' := 306) dL_law_305 (by decide) rfl ?_
      refine Z_iadd (pc' := 307) dL_law_306 rfl ?_
      refine Z_xld (pc' := 308) h2 dL_law_307 rfl ?_
      refine Z_aload_n (i := 0) (pc' := 309) dL_law_308 rfl rfl rfl ?_
      refine Z_iload_n (i := 3) (pc' := 310) dL_law_309 rfl rfl rfl ?_
      refine Z_iconst (v := 3) (pc' := 311) dL_law_310 (by decide) rfl ?_
      refine Z_iadd (pc' := 312) dL_law_311 rfl ?_
      refine Z_xld (pc' := 313) h3 dL_law_312 rfl ?_
      obtain ⟨r, PC, PR, rmc, rmr, ⟨c1, c2, c3, c4⟩, ⟨r1, r2, r3, r4⟩, hc, hr, hI'⟩ := s_treasure (nI (D.2 1001 (nI (6 * j) + 1).toNatClampNeg)) (nI (D.2 1001 (nI (6 * j) + 2).toNatClampNeg)) (nI (D.2 1001 (nI (6 * j) + 3).toNatClampNeg)) j a b Mc Mr hj hI
      refine Z_callV (As := [.int (nI (D.2 1001 (nI (6 * j) + 1).toNatClampNeg)), .int (nI (D.2 1001 (nI (6 * j) + 2).toNatClampNeg)), .int (nI (D.2 1001 (nI (6 * j) + 3).toNatClampNeg))]) (st := []) (pc' := 316) (hc.frame hdis) ckX7_treasure kvX7_treasure mlL_37 (zU_l hMa) rfl rfl rfl (Nat.le_of_ble_eq_true rfl) ⟨c1, c2⟩ ⟨by show k + rmc.cells ≤ 600000; omega, by show s + rmc.slots ≤ 7302250; omega⟩ dL_law_313 rfl rfl rfl (fun v M' hQ => ?_)
      obtain ⟨Mc', ⟨rfl, hPC⟩, hdis', rfl⟩ := hQ
      refine Z_mem (zU_comm hdis') ?_
      have hdis2 : ∀ x, Mr x ≠ none → Mc' x = none := fun x hx => by
        cases hz : Mc' x with
        | none => rfl
        | some e => exact absurd (hdis' x (by rw [hz]; simp)) hx
      refine Z_aload_n (i := 2) (pc' := 317) dL_law_316 rfl rfl rfl ?_
      refine Z_aload_n (i := 0) (pc' := 318) dL_law_317 rfl rfl rfl ?_
      refine Z_iload_n (i := 3) (pc' := 319) dL_law_318 rfl rfl rfl ?_
      refine Z_iconst (v := 1) (pc' := 320) dL_law_319 (by decide) rfl ?_
      refine Z_iadd (pc' := 321) dL_law_320 rfl ?_
      refine Z_xld (pc' := 322) h1 dL_law_321 rfl ?_
      refine Z_aload_n (i := 0) (pc' := 323) dL_law_322 rfl rfl rfl ?_
      refine Z_iload_n (i := 3) (pc' := 324) dL_law_323 rfl rfl rfl ?_
      refine Z_iconst (v := 2) (pc' := 325) dL_law_324 (by decide) rfl ?_
      refine Z_iadd (pc' := 326) dL_law_325 rfl ?_
      refine Z_xld (pc' := 327) h2 dL_law_326 rfl ?_
      refine Z_aload_n (i := 0) (pc' := 328) dL_law_327 rfl rfl rfl ?_
      refine Z_iload_n (i := 3) (pc' := 329) dL_law_328 rfl rfl rfl ?_
      refine Z_iconst (v := 3) (pc' := 330) dL_law_329 (by decide) rfl ?_
      refine Z_iadd (pc' := 331) dL_law_330 rfl ?_
      refine Z_xld (pc' := 332) h3 dL_law_331 rfl ?_
      refine Z_callV (As := [.int (nI (D.2 1001 (nI (6 * j) + 1).toNatClampNeg)), .int (nI (D.2 1001 (nI (6 * j) + 2).toNatClampNeg)), .int (nI (D.2 1001 (nI (6 * j) + 3).toNatClampNeg))]) (st := [.int r]) (pc' := 335) (hr.frame hdis2) ckX8_treasure kvX8_treasure mlL_41 (zU_l hMb) rfl rfl rfl (Nat.le_of_ble_eq_true rfl) ⟨r1, r2⟩ ⟨by show k + rmc.cells + rmr.cells ≤ 600000; omega, by show s + rmc.slots + rmr.slots ≤ 7302250; omega⟩ dL_law_332 rfl rfl rfl (fun v M' hQ => ?_)
      obtain ⟨Mr', ⟨rfl, hPR⟩, hdis3, rfl⟩ := hQ
      refine Z_mem (zU_comm hdis3) ?_
      refine Z_icmp_eq (tgt := 795) (pc' := 338) dL_law_335 (by decide) rfl (fun _ => ?_) (fun q => absurd rfl q)
      exact hback _ _ Mc' Mr' (by omega) (by omega) (hI' Mc' Mr' hPC hPR) (fun x hx => by
        cases hz : Mr' x with
        | none => rfl
        | some e => exact absurd (hdis3 x (by rw [hz]; simp)) hx)
    by_cases hs6 : sw = nI 6
    · refine Z_tin (j := 6) (tgt := 340) dL_law_33 hs6 (by decide) (by decide) rfl (by decide) ?_
      refine Z_aload_n (i := 1) (pc' := 341) dL_law_340 rfl rfl rfl ?_
      refine Z_aload_n (i := 0) (pc' := 342) dL_law_341 rfl rfl rfl ?_
      refine Z_iload_n (i := 3) (pc' := 343) dL_law_342 rfl rfl rfl ?_
      refine Z_iconst (v := 1) (pc' := 344) dL_law_343 (by decide) rfl ?_
      refine Z_iadd (pc' := 345) dL_law_344 rfl ?_
      refine Z_xld (pc' := 346) h1 dL_law_345 rfl ?_
      refine Z_aload_n (i := 0) (pc' := 347) dL_law_346 rfl rfl rfl ?_
      refine Z_iload_n (i := 3) (pc' := 348) dL_law_347 rfl rfl rfl ?_
      refine Z_iconst (v := 2) (pc' := 349) dL_law_348 (by decide) rfl ?_
      refine Z_iadd (pc' := 350) dL_law_349 rfl ?_
      refine Z_xld (pc' := 351) h2 dL_law_350 rfl ?_
      refine Z_aload_n (i := 0) (pc' := 352) dL_law_351 rfl rfl rfl ?_
      refine Z_iload_n (i := 3) (pc' := 353) dL_law_352 rfl rfl rfl ?_
      refine Z_iconst (v := 3) (pc' := 354) dL_law_353 (by decide) rfl ?_
      refine Z_iadd (pc' := 355) dL_law_354 rfl ?_
      refine Z_xld (pc' := 356) h3 dL_law_355 rfl ?_
      obtain ⟨r, PC, PR, rmc, rmr, ⟨c1, c2, c3, c4⟩, ⟨r1, r2, r3, r4⟩, hc, hr, hI'⟩ := s_give (nI (D.2 1001 (nI (6 * j) + 1).toNatClampNeg)) (nI (D.2 1001 (nI (6 * j) + 2).toNatClampNeg)) (nI (D.2 1001 (nI (6 * j) + 3).toNatClampNeg)) j a b Mc Mr hj hI
      refine Z_callV (As := [.int (nI (D.2 1001 (nI (6 * j) + 1).toNatClampNeg)), .int (nI (D.2 1001 (nI (6 * j) + 2).toNatClampNeg)), .int (nI (D.2 1001 (nI (6 * j) + 3).toNatClampNeg))]) (st := []) (pc' := 359) (hc.frame hdis) ckX7_give kvX7_give mlL_42 (zU_l hMa) rfl rfl rfl (Nat.le_of_ble_eq_true rfl) ⟨c1, c2⟩ ⟨by show k + rmc.cells ≤ 600000; omega, by show s + rmc.slots ≤ 7302250; omega⟩ dL_law_356 rfl rfl rfl (fun v M' hQ => ?_)
      obtain ⟨Mc', ⟨rfl, hPC⟩, hdis', rfl⟩ := hQ
      refine Z_mem (zU_comm hdis') ?_
      have hdis2 : ∀ x, Mr x ≠ none → Mc' x = none := fun x hx => by
        cases hz : Mc' x with
        | none => rfl
        | some e => exact absurd (hdis' x (by rw [hz]; simp)) hx
      refine Z_aload_n (i := 2) (pc' := 360) dL_law_359 rfl rfl rfl ?_
      refine Z_aload_n (i := 0) (pc' := 361) dL_law_360 rfl rfl rfl ?_
      refine Z_iload_n (i := 3) (pc' := 362) dL_law_361 rfl rfl rfl ?_
      refine Z_iconst (v := 1) (pc' := 363) dL_law_362 (by decide) rfl ?_
      refine Z_iadd (pc' := 364) dL_law_363 rfl ?_
      refine Z_xld (pc' := 365) h1 dL_law_364 rfl ?_
      refine Z_aload_n (i := 0) (pc' := 366) dL_law_365 rfl rfl rfl ?_
      refine Z_iload_n (i := 3) (pc' := 367) dL_law_366 rfl rfl rfl ?_
      refine Z_iconst (v := 2) (pc' := 368) dL_law_367 (by decide) rfl ?_
      refine Z_iadd (pc' := 369) dL_law_368 rfl ?_
      refine Z_xld (pc' := 370) h2 dL_law_369 rfl ?_
      refine Z_aload_n (i := 0) (pc' := 371) dL_law_370 rfl rfl rfl ?_
      refine Z_iload_n (i := 3) (pc' := 372) dL_law_371 rfl rfl rfl ?_
      refine Z_iconst (v := 3) (pc' := 373) dL_law_372 (by decide) rfl ?_
      refine Z_iadd (pc' := 374) dL_law_373 rfl ?_
      refine Z_xld (pc' := 375) h3 dL_law_374 rfl ?_
      refine Z_callV (As := [.int (nI (D.2 1001 (nI (6 * j) + 1).toNatClampNeg)), .int (nI (D.2 1001 (nI (6 * j) + 2).toNatClampNeg)), .int (nI (D.2 1001 (nI (6 * j) + 3).toNatClampNeg))]) (st := [.int r]) (pc' := 378) (hr.frame hdis2) ckX8_give kvX8_give mlL_45 (zU_l hMb) rfl rfl rfl (Nat.le_of_ble_eq_true rfl) ⟨r1, r2⟩ ⟨by show k + rmc.cells + rmr.cells ≤ 600000; omega, by show s + rmc.slots + rmr.slots ≤ 7302250; omega⟩ dL_law_375 rfl rfl rfl (fun v M' hQ => ?_)
      obtain ⟨Mr', ⟨rfl, hPR⟩, hdis3, rfl⟩ := hQ
      refine Z_mem (zU_comm hdis3) ?_
      refine Z_icmp_eq (tgt := 795) (pc' := 381) dL_law_378 (by decide) rfl (fun _ => ?_) (fun q => absurd rfl q)
      exact hback _ _ Mc' Mr' (by omega) (by omega) (hI' Mc' Mr' hPC hPR) (fun x hx => by
        cases hz : Mr' x with
        | none => rfl
        | some e => exact absurd (hdis3 x (by rw [hz]; simp)) hx)
    by_cases hs7 : sw = nI 7
    · refine Z_tin (j := 7) (tgt := 383) dL_law_33 hs7 (by decide) (by decide) rfl (by decide) ?_
      refine Z_aload_n (i := 1) (pc' := 384) dL_law_383 rfl rfl rfl ?_
      obtain ⟨r, PC, PR, rmc, rmr, ⟨c1, c2, c3, c4⟩, ⟨r1, r2, r3, r4⟩, hc, hr, hI'⟩ := s_season  j a b Mc Mr hj hI
      refine Z_callV (As := []) (st := []) (pc' := 387) (hc.frame hdis) ckX7_season kvX7_season mlL_46 (zU_l hMa) rfl rfl rfl (Nat.le_of_ble_eq_true rfl) ⟨c1, c2⟩ ⟨by show k + rmc.cells ≤ 600000; omega, by show s + rmc.slots ≤ 7302250; omega⟩ dL_law_384 rfl rfl rfl (fun v M' hQ => ?_)
      obtain ⟨Mc', ⟨rfl, hPC⟩, hdis', rfl⟩ := hQ
      refine Z_mem (zU_comm hdis') ?_
      have hdis2 : ∀ x, Mr x ≠ none → Mc' x = none := fun x hx => by
        cases hz : Mc' x with
        | none => rfl
        | some e => exact absurd (hdis' x (by rw [hz]; simp)) hx
      refine Z_aload_n (i := 2) (pc' := 388) dL_law_387 rfl rfl rfl ?_
      refine Z_callV (As := []) (st := [.int r]) (pc' := 391) (hr.frame hdis2) ckX8_season kvX8_season mlL_50 (zU_l hMb) rfl rfl rfl (Nat.le_of_ble_eq_true rfl) ⟨r1, r2⟩ ⟨by show k + rmc.cells + rmr.cells ≤ 600000; omega, by show s + rmc.slots + rmr.slots ≤ 7302250; omega⟩ dL_law_388 rfl rfl rfl (fun v M' hQ => ?_)
      obtain ⟨Mr', ⟨rfl, hPR⟩, hdis3, rfl⟩ := hQ
      refine Z_mem (zU_comm hdis3) ?_
      refine Z_icmp_eq (tgt := 795) (pc' := 394) dL_law_391 (by decide) rfl (fun _ => ?_) (fun q => absurd rfl q)
      exact hback _ _ Mc' Mr' (by omega) (by omega) (hI' Mc' Mr' hPC hPR) (fun x hx => by
        cases hz : Mr' x with
        | none => rfl
        | some e => exact absurd (hdis3 x (by rw [hz]; simp)) hx)
    by_cases hs8 : sw = nI 8
    · refine Z_tin (j := 8) (tgt := 396) dL_law_33 hs8 (by decide) (by decide) rfl (by decide) ?_
      refine Z_aload_n (i := 1) (pc' := 397) dL_law_396 rfl rfl rfl ?_
      refine Z_aload_n (i := 0) (pc' := 398) dL_law_397 rfl rfl rfl ?_
      refine Z_iload_n (i := 3) (pc' := 399) dL_law_398 rfl rfl rfl ?_
      refine Z_iconst (v := 1) (pc' := 400) dL_law_399 (by decide) rfl ?_
      refine Z_iadd (pc' := 401) dL_law_400 rfl ?_
      refine Z_xld (pc' := 402) h1 dL_law_401 rfl ?_
      refine Z_aload_n (i := 0) (pc' := 403) dL_law_402 rfl rfl rfl ?_
      refine Z_iload_n (i := 3) (pc' := 404) dL_law_403 rfl rfl rfl ?_
      refine Z_iconst (v := 2) (pc' := 405) dL_law_404 (by decide) rfl ?_
      refine Z_iadd (pc' := 406) dL_law_405 rfl ?_
      refine Z_xld (pc' := 407) h2 dL_law_406 rfl ?_
      obtain ⟨r, PC, PR, rmc, rmr, ⟨c1, c2, c3, c4⟩, ⟨r1, r2, r3, r4⟩, hc, hr, hI'⟩ := s_dies (nI (D.2 1001 (nI (6 * j) + 1).toNatClampNeg)) (nI (D.2 1001 (nI (6 * j) + 2).toNatClampNeg)) j a b Mc Mr hj hI
      refine Z_callV (As := [.int (nI (D.2 1001 (nI (6 * j) + 1).toNatClampNeg)), .int (nI (D.2 1001 (nI (6 * j) + 2).toNatClampNeg))]) (st := []) (pc' := 410) (hc.frame hdis) ckX7_dies kvX7_dies mlL_51 (zU_l hMa) rfl rfl rfl (Nat.le_of_ble_eq_true rfl) ⟨c1, c2⟩ ⟨by show k + rmc.cells ≤ 600000; omega, by show s + rmc.slots ≤ 7302250; omega⟩ dL_law_407 rfl rfl rfl (fun v M' hQ => ?_)
      obtain ⟨Mc', ⟨rfl, hPC⟩, hdis', rfl⟩ := hQ
      refine Z_mem (zU_comm hdis') ?_
      have hdis2 : ∀ x, Mr x ≠ none → Mc' x = none := fun x hx => by
        cases hz : Mc' x with
        | none => rfl
        | some e => exact absurd (hdis' x (by rw [hz]; simp)) hx
      refine Z_aload_n (i := 2) (pc' := 411) dL_law_410 rfl rfl rfl ?_
      refine Z_aload_n (i := 0) (pc' := 412) dL_law_411 rfl rfl rfl ?_
      refine Z_iload_n (i := 3) (pc' := 413) dL_law_412 rfl rfl rfl ?_
      refine Z_iconst (v := 1) (pc' := 414) dL_law_413 (by decide) rfl ?_
      refine Z_iadd (pc' := 415) dL_law_414 rfl ?_
      refine Z_xld (pc' := 416) h1 dL_law_415 rfl ?_
      refine Z_aload_n (i := 0) (pc' := 417) dL_law_416 rfl rfl rfl ?_
      refine Z_iload_n (i := 3) (pc' := 418) dL_law_417 rfl rfl rfl ?_
      refine Z_iconst (v := 2) (pc' := 419) dL_law_418 (by decide) rfl ?_
      refine Z_iadd (pc' := 420) dL_law_419 rfl ?_
      refine Z_xld (pc' := 421) h2 dL_law_420 rfl ?_
      refine Z_callV (As := [.int (nI (D.2 1001 (nI (6 * j) + 1).toNatClampNeg)), .int (nI (D.2 1001 (nI (6 * j) + 2).toNatClampNeg))]) (st := [.int r]) (pc' := 424) (hr.frame hdis2) ckX8_dies kvX8_dies mlL_54 (zU_l hMb) rfl rfl rfl (Nat.le_of_ble_eq_true rfl) ⟨r1, r2⟩ ⟨by show k + rmc.cells + rmr.cells ≤ 600000; omega, by show s + rmc.slots + rmr.slots ≤ 7302250; omega⟩ dL_law_421 rfl rfl rfl (fun v M' hQ => ?_)
      obtain ⟨Mr', ⟨rfl, hPR⟩, hdis3, rfl⟩ := hQ
      refine Z_mem (zU_comm hdis3) ?_
      refine Z_icmp_eq (tgt := 795) (pc' := 427) dL_law_424 (by decide) rfl (fun _ => ?_) (fun q => absurd rfl q)
      exact hback _ _ Mc' Mr' (by omega) (by omega) (hI' Mc' Mr' hPC hPR) (fun x hx => by
        cases hz : Mr' x with
        | none => rfl
        | some e => exact absurd (hdis3 x (by rw [hz]; simp)) hx)
    by_cases hs9 : sw = nI 9
    · refine Z_tin (j := 9) (tgt := 429) dL_law_33 hs9 (by decide) (by decide) rfl (by decide) ?_
      refine Z_aload_n (i := 1) (pc' := 430) dL_law_429 rfl rfl rfl ?_
      refine Z_aload_n (i := 0) (pc' := 431) dL_law_430 rfl rfl rfl ?_
      refine Z_iload_n (i := 3) (pc' := 432) dL_law_431 rfl rfl rfl ?_
      refine Z_iconst (v := 1) (pc' := 433) dL_law_432 (by decide) rfl ?_
      refine Z_iadd (pc' := 434) dL_law_433 rfl ?_
      refine Z_xld (pc' := 435) h1 dL_law_434 rfl ?_
      obtain ⟨r, PC, PR, rmc, rmr, ⟨c1, c2, c3, c4⟩, ⟨r1, r2, r3, r4⟩, hc, hr, hI'⟩ := s_lost (nI (D.2 1001 (nI (6 * j) + 1).toNatClampNeg)) j a b Mc Mr hj hI
      refine Z_callV (As := [.int (nI (D.2 1001 (nI (6 * j) + 1).toNatClampNeg))]) (st := []) (pc' := 438) (hc.frame hdis) ckX7_lost kvX7_lost mlL_55 (zU_l hMa) rfl rfl rfl (Nat.le_of_ble_eq_true rfl) ⟨c1, c2⟩ ⟨by show k + rmc.cells ≤ 600000; omega, by show s + rmc.slots ≤ 7302250; omega⟩ dL_law_435 rfl rfl rfl (fun v M' hQ => ?_)
      obtain ⟨Mc', ⟨rfl, hPC⟩, hdis', rfl⟩ := hQ
      refine Z_mem (zU_comm hdis') ?_
      have hdis2 : ∀ x, Mr x ≠ none → Mc' x = none := fun x hx => by
        cases hz : Mc' x with
        | none => rfl
        | some e => exact absurd (hdis' x (by rw [hz]; simp)) hx
      refine Z_aload_n (i := 2) (pc' := 439) dL_law_438 rfl rfl rfl ?_
      refine Z_aload_n (i := 0) (pc' := 440) dL_law_439 rfl rfl rfl ?_
      refine Z_iload_n (i := 3) (pc' := 441) dL_law_440 rfl rfl rfl ?_
      refine Z_iconst (v := 1) (pc' := 442) dL_law_441 (by decide) rfl ?_
      refine Z_iadd (pc' := 443) dL_law_442 rfl ?_
      refine Z_xld (pc' := 444) h1 dL_law_443 rfl ?_
      refine Z_callV (As := [.int (nI (D.2 1001 (nI (6 * j) + 1).toNatClampNeg))]) (st := [.int r]) (pc' := 447) (hr.frame hdis2) ckX8_lost kvX8_lost mlL_58 (zU_l hMb) rfl rfl rfl (Nat.le_of_ble_eq_true rfl) ⟨r1, r2⟩ ⟨by show k + rmc.cells + rmr.cells ≤ 600000; omega, by show s + rmc.slots + rmr.slots ≤ 7302250; omega⟩ dL_law_444 rfl rfl rfl (fun v M' hQ => ?_)
      obtain ⟨Mr', ⟨rfl, hPR⟩, hdis3, rfl⟩ := hQ
      refine Z_mem (zU_comm hdis3) ?_
      refine Z_icmp_eq (tgt := 795) (pc' := 450) dL_law_447 (by decide) rfl (fun _ => ?_) (fun q => absurd rfl q)
      exact hback _ _ Mc' Mr' (by omega) (by omega) (hI' Mc' Mr' hPC hPR) (fun x hx => by
        cases hz : Mr' x with
        | none => rfl
        | some e => exact absurd (hdis3 x (by rw [hz]; simp)) hx)
    by_cases hs10 : sw = nI 10
    · refine Z_tin (j := 10) (tgt := 452) dL_law_33 hs10 (by decide) (by decide) rfl (by decide) ?_
      refine Z_aload_n (i := 1) (pc' := 453) dL_law_452 rfl rfl rfl ?_
      refine Z_aload_n (i := 0) (pc' := 454) dL_law_453 rfl rfl rfl ?_
      refine Z_iload_n (i := 3) (pc' := 455) dL_law_454 rfl rfl rfl ?_
      refine Z_iconst (v := 1) (pc' := 456) dL_law_455 (by decide) rfl ?_
      refine Z_iadd (pc' := 457) dL_law_456 rfl ?_
      refine Z_xld (pc' := 458) h1 dL_law_457 rfl ?_
      refine Z_aload_n (i := 0) (pc' := 459) dL_law_458 rfl rfl rfl ?_
      refine Z_iload_n (i := 3) (pc' := 460) dL_law_459 rfl rfl rfl ?_
      refine Z_iconst (v := 2) (pc' := 461) dL_law_460 (by decide) rfl ?_
      refine Z_iadd (pc' := 462) dL_law_461 rfl ?_
      refine Z_xld (pc' := 463) h2 dL_law_462 rfl ?_
      obtain ⟨r, PC, PR, rmc, rmr, ⟨c1, c2, c3, c4⟩, ⟨r1, r2, r3, r4⟩, hc, hr, hI'⟩ := s_known (nI (D.2 1001 (nI (6 * j) + 1).toNatClampNeg)) (nI (D.2 1001 (nI (6 * j) + 2).toNatClampNeg)) j a b Mc Mr hj hI
      refine Z_callV (As := [.int (nI (D.2 1001 (nI (6 * j) + 1).toNatClampNeg)), .int (nI (D.2 1001 (nI (6 * j) + 2).toNatClampNeg))]) (st := []) (pc' := 466) (hc.frame hdis) ckX7_known kvX7_known mlL_59 (zU_l hMa) rfl rfl rfl (Nat.le_of_ble_eq_true rfl) ⟨c1, c2⟩ ⟨by show k + rmc.cells ≤ 600000; omega, by show s + rmc.slots ≤ 7302250; omega⟩ dL_law_463 rfl rfl rfl (fun v M' hQ => ?_)
      obtain ⟨Mc', ⟨rfl, hPC⟩, hdis', rfl⟩ := hQ
      refine Z_mem (zU_comm hdis') ?_
      have hdis2 : ∀ x, Mr x ≠ none → Mc' x = none := fun x hx => by
        cases hz : Mc' x with
        | none => rfl
        | some e => exact absurd (hdis' x (by rw [hz]; simp)) hx
      refine Z_aload_n (i := 2) (pc' := 467) dL_law_466 rfl rfl rfl ?_
      refine Z_aload_n (i := 0) (pc' := 468) dL_law_467 rfl rfl rfl ?_
      refine Z_iload_n (i := 3) (pc' := 469) dL_law_468 rfl rfl rfl ?_
      refine Z_iconst (v := 1) (pc' := 470) dL_law_469 (by decide) rfl ?_
      refine Z_iadd (pc' := 471) dL_law_470 rfl ?_
      refine Z_xld (pc' := 472) h1 dL_law_471 rfl ?_
      refine Z_aload_n (i := 0) (pc' := 473) dL_law_472 rfl rfl rfl ?_
      refine Z_iload_n (i := 3) (pc' := 474) dL_law_473 rfl rfl rfl ?_
      refine Z_iconst (v := 2) (pc' := 475) dL_law_474 (by decide) rfl ?_
      refine Z_iadd (pc' := 476) dL_law_475 rfl ?_
      refine Z_xld (pc' := 477) h2 dL_law_476 rfl ?_
      refine Z_callV (As := [.int (nI (D.2 1001 (nI (6 * j) + 1).toNatClampNeg)), .int (nI (D.2 1001 (nI (6 * j) + 2).toNatClampNeg))]) (st := [.int r]) (pc' := 480) (hr.frame hdis2) ckX8_known kvX8_known mlL_63 (zU_l hMb) rfl rfl rfl (Nat.le_of_ble_eq_true rfl) ⟨r1, r2⟩ ⟨by show k + rmc.cells + rmr.cells ≤ 600000; omega, by show s + rmc.slots + rmr.slots ≤ 7302250; omega⟩ dL_law_477 rfl rfl rfl (fun v M' hQ => ?_)
      obtain ⟨Mr', ⟨rfl, hPR⟩, hdis3, rfl⟩ := hQ
      refine Z_mem (zU_comm hdis3) ?_
      refine Z_icmp_eq (tgt := 795) (pc' := 483) dL_law_480 (by decide) rfl (fun _ => ?_) (fun q => absurd rfl q)
      exact hback _ _ Mc' Mr' (by omega) (by omega) (hI' Mc' Mr' hPC hPR) (fun x hx => by
        cases hz : Mr' x with
        | none => rfl
        | some e => exact absurd (hdis3 x (by rw [hz]; simp)) hx)
    by_cases hs11 : sw = nI 11
    · refine Z_tin (j := 11) (tgt := 485) dL_law_33 hs11 (by decide) (by decide) rfl (by decide) ?_
      refine Z_aload_n (i := 1) (pc' := 486) dL_law_485 rfl rfl rfl ?_
      refine Z_aload_n (i := 0) (pc' := 487) dL_law_486 rfl rfl rfl ?_
      refine Z_iload_n (i := 3) (pc' := 488) dL_law_487 rfl rfl rfl ?_
      refine Z_iconst (v := 1) (pc' := 489) dL_law_488 (by decide) rfl ?_
      refine Z_iadd (pc' := 490) dL_law_489 rfl ?_
      refine Z_xld (pc' := 491) h1 dL_law_490 rfl ?_
      refine Z_aload_n (i := 0) (pc' := 492) dL_law_491 rfl rfl rfl ?_
      refine Z_iload_n (i := 3) (pc' := 493) dL_law_492 rfl rfl rfl ?_
      refine Z_iconst (v := 2) (pc' := 494) dL_law_493 (by decide) rfl ?_
      refine Z_iadd (pc' := 495) dL_law_494 rfl ?_
      refine Z_xld (pc' := 496) h2 dL_law_495 rfl ?_
      obtain ⟨r, PC, PR, rmc, rmr, ⟨c1, c2, c3, c4⟩, ⟨r1, r2, r3, r4⟩, hc, hr, hI'⟩ := s_way (nI (D.2 1001 (nI (6 * j) + 1).toNatClampNeg)) (nI (D.2 1001 (nI (6 * j) + 2).toNatClampNeg)) j a b Mc Mr hj hI
      refine Z_callV (As := [.int (nI (D.2 1001 (nI (6 * j) + 1).toNatClampNeg)), .int (nI (D.2 1001 (nI (6 * j) + 2).toNatClampNeg))]) (st := []) (pc' := 499) (hc.frame hdis) ckX7_way kvX7_way mlL_64 (zU_l hMa) rfl rfl rfl (Nat.le_of_ble_eq_true rfl) ⟨c1, c2⟩ ⟨by show k + rmc.cells ≤ 600000; omega, by show s + rmc.slots ≤ 7302250; omega⟩ dL_law_496 rfl rfl rfl (fun v M' hQ => ?_)
      obtain ⟨Mc', ⟨rfl, hPC⟩, hdis', rfl⟩ := hQ
      refine Z_mem (zU_comm hdis') ?_
      have hdis2 : ∀ x, Mr x ≠ none → Mc' x = none := fun x hx => by
        cases hz : Mc' x with
        | none => rfl
        | some e => exact absurd (hdis' x (by rw [hz]; simp)) hx
      refine Z_aload_n (i := 2) (pc' := 500) dL_law_499 rfl rfl rfl ?_
      refine Z_aload_n (i := 0) (pc' := 501) dL_law_500 rfl rfl rfl ?_
      refine Z_iload_n (i := 3) (pc' := 502) dL_law_501 rfl rfl rfl ?_
      refine Z_iconst (v := 1) (pc' := 503) dL_law_502 (by decide) rfl ?_
      refine Z_iadd (pc' := 504) dL_law_503 rfl ?_
      refine Z_xld (pc' := 505) h1 dL_law_504 rfl ?_
      refine Z_aload_n (i := 0) (pc' := 506) dL_law_505 rfl rfl rfl ?_
      refine Z_iload_n (i := 3) (pc' := 507) dL_law_506 rfl rfl rfl ?_
      refine Z_iconst (v := 2) (pc' := 508) dL_law_507 (by decide) rfl ?_
      refine Z_iadd (pc' := 509) dL_law_508 rfl ?_
      refine Z_xld (pc' := 510) h2 dL_law_509 rfl ?_
      refine Z_callV (As := [.int (nI (D.2 1001 (nI (6 * j) + 1).toNatClampNeg)), .int (nI (D.2 1001 (nI (6 * j) + 2).toNatClampNeg))]) (st := [.int r]) (pc' := 513) (hr.frame hdis2) ckX8_way kvX8_way mlL_67 (zU_l hMb) rfl rfl rfl (Nat.le_of_ble_eq_true rfl) ⟨r1, r2⟩ ⟨by show k + rmc.cells + rmr.cells ≤ 600000; omega, by show s + rmc.slots + rmr.slots ≤ 7302250; omega⟩ dL_law_510 rfl rfl rfl (fun v M' hQ => ?_)
      obtain ⟨Mr', ⟨rfl, hPR⟩, hdis3, rfl⟩ := hQ
      refine Z_mem (zU_comm hdis3) ?_
      refine Z_icmp_eq (tgt := 795) (pc' := 516) dL_law_513 (by decide) rfl (fun _ => ?_) (fun q => absurd rfl q)
      exact hback _ _ Mc' Mr' (by omega) (by omega) (hI' Mc' Mr' hPC hPR) (fun x hx => by
        cases hz : Mr' x with
        | none => rfl
        | some e => exact absurd (hdis3 x (by rw [hz]; simp)) hx)
    by_cases hs12 : sw = nI 12
    · refine Z_tin (j := 12) (tgt := 518) dL_law_33 hs12 (by decide) (by decide) rfl (by decide) ?_
      refine Z_aload_n (i := 1) (pc' := 519) dL_law_518 rfl rfl rfl ?_
      refine Z_aload_n (i := 0) (pc' := 520) dL_law_519 rfl rfl rfl ?_
      refine Z_iload_n (i := 3) (pc' := 521) dL_law_520 rfl rfl rfl ?_
      refine Z_iconst (v := 1) (pc' := 522) dL_law_521 (by decide) rfl ?_
      refine Z_iadd (pc' := 523) dL_law_522 rfl ?_
      refine Z_xld (pc' := 524) h1 dL_law_523 rfl ?_
      obtain ⟨r, PC, PR, rmc, rmr, ⟨c1, c2, c3, c4⟩, ⟨r1, r2, r3, r4⟩, hc, hr, hI'⟩ := s_closings (nI (D.2 1001 (nI (6 * j) + 1).toNatClampNeg)) j a b Mc Mr hj hI
      refine Z_callV (As := [.int (nI (D.2 1001 (nI (6 * j) + 1).toNatClampNeg))]) (st := []) (pc' := 527) (hc.frame hdis) ckX7_closings kvX7_closings mlL_68 (zU_l hMa) rfl rfl rfl (Nat.le_of_ble_eq_true rfl) ⟨c1, c2⟩ ⟨by show k + rmc.cells ≤ 600000; omega, by show s + rmc.slots ≤ 7302250; omega⟩ dL_law_524 rfl rfl rfl (fun v M' hQ => ?_)
      obtain ⟨Mc', ⟨rfl, hPC⟩, hdis', rfl⟩ := hQ
      refine Z_mem (zU_comm hdis') ?_
      have hdis2 : ∀ x, Mr x ≠ none → Mc' x = none := fun x hx => by
        cases hz : Mc' x with
        | none => rfl
        | some e => exact absurd (hdis' x (by rw [hz]; simp)) hx
      refine Z_aload_n (i := 2) (pc' := 528) dL_law_527 rfl rfl rfl ?_
      refine Z_aload_n (i := 0) (pc' := 529) dL_law_528 rfl rfl rfl ?_
      refine Z_iload_n (i := 3) (pc' := 530) dL_law_529 rfl rfl rfl ?_
      refine Z_iconst (v := 1) (pc' := 531) dL_law_530 (by decide) rfl ?_
      refine Z_iadd (pc' := 532) dL_law_531 rfl ?_
      refine Z_xld (pc' := 533) h1 dL_law_532 rfl ?_
      refine Z_callV (As := [.int (nI (D.2 1001 (nI (6 * j) + 1).toNatClampNeg))]) (st := [.int r]) (pc' := 536) (hr.frame hdis2) ckX8_closings kvX8_closings mlL_71 (zU_l hMb) rfl rfl rfl (Nat.le_of_ble_eq_true rfl) ⟨r1, r2⟩ ⟨by show k + rmc.cells + rmr.cells ≤ 600000; omega, by show s + rmc.slots + rmr.slots ≤ 7302250; omega⟩ dL_law_533 rfl rfl rfl (fun v M' hQ => ?_)
      obtain ⟨Mr', ⟨rfl, hPR⟩, hdis3, rfl⟩ := hQ
      refine Z_mem (zU_comm hdis3) ?_
      refine Z_icmp_eq (tgt := 795) (pc' := 539) dL_law_536 (by decide) rfl (fun _ => ?_) (fun q => absurd rfl q)
      exact hback _ _ Mc' Mr' (by omega) (by omega) (hI' Mc' Mr' hPC hPR) (fun x hx => by
        cases hz : Mr' x with
        | none => rfl
        | some e => exact absurd (hdis3 x (by rw [hz]; simp)) hx)
    by_cases hs13 : sw = nI 13
    · refine Z_tin (j := 13) (tgt := 541) dL_law_33 hs13 (by decide) (by decide) rfl (by decide) ?_
      refine Z_aload_n (i := 1) (pc' := 542) dL_law_541 rfl rfl rfl ?_
      refine Z_aload_n (i := 0) (pc' := 543) dL_law_542 rfl rfl rfl ?_
      refine Z_iload_n (i := 3) (pc' := 544) dL_law_543 rfl rfl rfl ?_
      refine Z_iconst (v := 1) (pc' := 545) dL_law_544 (by decide) rfl ?_
      refine Z_iadd (pc' := 546) dL_law_545 rfl ?_
      refine Z_xld (pc' := 547) h1 dL_law_546 rfl ?_
      obtain ⟨r, PC, PR, rmc, rmr, ⟨c1, c2, c3, c4⟩, ⟨r1, r2, r3, r4⟩, hc, hr, hI'⟩ := s_closing (nI (D.2 1001 (nI (6 * j) + 1).toNatClampNeg)) j a b Mc Mr hj hI
      refine Z_callV (As := [.int (nI (D.2 1001 (nI (6 * j) + 1).toNatClampNeg))]) (st := []) (pc' := 550) (hc.frame hdis) ckX7_closing kvX7_closing mlL_72 (zU_l hMa) rfl rfl rfl (Nat.le_of_ble_eq_true rfl) ⟨c1, c2⟩ ⟨by show k + rmc.cells ≤ 600000; omega, by show s + rmc.slots ≤ 7302250; omega⟩ dL_law_547 rfl rfl rfl (fun v M' hQ => ?_)
      obtain ⟨Mc', ⟨rfl, hPC⟩, hdis', rfl⟩ := hQ
      refine Z_mem (zU_comm hdis') ?_
      have hdis2 : ∀ x, Mr x ≠ none → Mc' x = none := fun x hx => by
        cases hz : Mc' x with
        | none => rfl
        | some e => exact absurd (hdis' x (by rw [hz]; simp)) hx
      refine Z_aload_n (i := 2) (pc' := 551) dL_law_550 rfl rfl rfl ?_
      refine Z_aload_n (i := 0) (pc' := 552) dL_law_551 rfl rfl rfl ?_
      refine Z_iload_n (i := 3) (pc' := 553) dL_law_552 rfl rfl rfl ?_
      refine Z_iconst (v := 1) (pc' := 554) dL_law_553 (by decide) rfl ?_
      refine Z_iadd (pc' := 555) dL_law_554 rfl ?_
      refine Z_xld (pc' := 556) h1 dL_law_555 rfl ?_
      refine Z_callV (As := [.int (nI (D.2 1001 (nI (6 * j) + 1).toNatClampNeg))]) (st := [.int r]) (pc' := 559) (hr.frame hdis2) ckX8_closing kvX8_closing mlL_75 (zU_l hMb) rfl rfl rfl (Nat.le_of_ble_eq_true rfl) ⟨r1, r2⟩ ⟨by show k + rmc.cells + rmr.cells ≤ 600000; omega, by show s + rmc.slots + rmr.slots ≤ 7302250; omega⟩ dL_law_556 rfl rfl rfl (fun v M' hQ => ?_)
      obtain ⟨Mr', ⟨rfl, hPR⟩, hdis3, rfl⟩ := hQ
      refine Z_mem (zU_comm hdis3) ?_
      refine Z_icmp_eq (tgt := 795) (pc' := 562) dL_law_559 (by decide) rfl (fun _ => ?_) (fun q => absurd rfl q)
      exact hback _ _ Mc' Mr' (by omega) (by omega) (hI' Mc' Mr' hPC hPR) (fun x hx => by
        cases hz : Mr' x with
        | none => rfl
        | some e => exact absurd (hdis3 x (by rw [hz]; simp)) hx)
    by_cases hs14 : sw = nI 14
    · refine Z_tin (j := 14) (tgt := 564) dL_law_33 hs14 (by decide) (by decide) rfl (by decide) ?_
      refine Z_aload_n (i := 1) (pc' := 565) dL_law_564 rfl rfl rfl ?_
      refine Z_aload_n (i := 0) (pc' := 566) dL_law_565 rfl rfl rfl ?_
      refine Z_iload_n (i := 3) (pc' := 567) dL_law_566 rfl rfl rfl ?_
      refine Z_iconst (v := 1) (pc' := 568) dL_law_567 (by decide) rfl ?_
      refine Z_iadd (pc' := 569) dL_law_568 rfl ?_
      refine Z_xld (pc' := 570) h1 dL_law_569 rfl ?_
      refine Z_aload_n (i := 0) (pc' := 571) dL_law_570 rfl rfl rfl ?_
      refine Z_iload_n (i := 3) (pc' := 572) dL_law_571 rfl rfl rfl ?_
      refine Z_iconst (v := 2) (pc' := 573) dL_law_572 (by decide) rfl ?_
      refine Z_iadd (pc' := 574) dL_law_573 rfl ?_
      refine Z_xld (pc' := 575) h2 dL_law_574 rfl ?_
      obtain ⟨r, PC, PR, rmc, rmr, ⟨c1, c2, c3, c4⟩, ⟨r1, r2, r3, r4⟩, hc, hr, hI'⟩ := s_soonest (nI (D.2 1001 (nI (6 * j) + 1).toNatClampNeg)) (nI (D.2 1001 (nI (6 * j) + 2).toNatClampNeg)) j a b Mc Mr hj hI
      refine Z_callV (As := [.int (nI (D.2 1001 (nI (6 * j) + 1).toNatClampNeg)), .int (nI (D.2 1001 (nI (6 * j) + 2).toNatClampNeg))]) (st := []) (pc' := 578) (hc.frame hdis) ckX7_soonest kvX7_soonest mlL_76 (zU_l hMa) rfl rfl rfl (Nat.le_of_ble_eq_true rfl) ⟨c1, c2⟩ ⟨by show k + rmc.cells ≤ 600000; omega, by show s + rmc.slots ≤ 7302250; omega⟩ dL_law_575 rfl rfl rfl (fun v M' hQ => ?_)
      obtain ⟨Mc', ⟨rfl, hPC⟩, hdis', rfl⟩ := hQ
      refine Z_mem (zU_comm hdis') ?_
      have hdis2 : ∀ x, Mr x ≠ none → Mc' x = none := fun x hx => by
        cases hz : Mc' x with
        | none => rfl
        | some e => exact absurd (hdis' x (by rw [hz]; simp)) hx
      refine Z_aload_n (i := 2) (pc' := 579) dL_law_578 rfl rfl rfl ?_
      refine Z_aload_n (i := 0) (pc' := 580) dL_law_579 rfl rfl rfl ?_
      refine Z_iload_n (i := 3) (pc' := 581) dL_law_580 rfl rfl rfl ?_
      refine Z_iconst (v := 1) (pc' := 582) dL_law_581 (by decide) rfl ?_
      refine Z_iadd (pc' := 583) dL_law_582 rfl ?_
      refine Z_xld (pc' := 584) h1 dL_law_583 rfl ?_
      refine Z_aload_n (i := 0) (pc' := 585) dL_law_584 rfl rfl rfl ?_
      refine Z_iload_n (i := 3) (pc' := 586) dL_law_585 rfl rfl rfl ?_
      refine Z_iconst (v := 2) (pc' := 587) dL_law_586 (by decide) rfl ?_
      refine Z_iadd (pc' := 588) dL_law_587 rfl ?_
      refine Z_xld (pc' := 589) h2 dL_law_588 rfl ?_
      refine Z_callV (As := [.int (nI (D.2 1001 (nI (6 * j) + 1).toNatClampNeg)), .int (nI (D.2 1001 (nI (6 * j) + 2).toNatClampNeg))]) (st := [.int r]) (pc' := 592) (hr.frame hdis2) ckX8_soonest kvX8_soonest mlL_79 (zU_l hMb) rfl rfl rfl (Nat.le_of_ble_eq_true rfl) ⟨r1, r2⟩ ⟨by show k + rmc.cells + rmr.cells ≤ 600000; omega, by show s + rmc.slots + rmr.slots ≤ 7302250; omega⟩ dL_law_589 rfl rfl rfl (fun v M' hQ => ?_)
      obtain ⟨Mr', ⟨rfl, hPR⟩, hdis3, rfl⟩ := hQ
      refine Z_mem (zU_comm hdis3) ?_
      refine Z_icmp_eq (tgt := 795) (pc' := 595) dL_law_592 (by decide) rfl (fun _ => ?_) (fun q => absurd rfl q)
      exact hback _ _ Mc' Mr' (by omega) (by omega) (hI' Mc' Mr' hPC hPR) (fun x hx => by
        cases hz : Mr' x with
        | none => rfl
        | some e => exact absurd (hdis3 x (by rw [hz]; simp)) hx)
    by_cases hs15 : sw = nI 15
    · refine Z_tin (j := 15) (tgt := 597) dL_law_33 hs15 (by decide) (by decide) rfl (by decide) ?_
      refine Z_aload_n (i := 1) (pc' := 598) dL_law_597 rfl rfl rfl ?_
      refine Z_aload_n (i := 0) (pc' := 599) dL_law_598 rfl rfl rfl ?_
      refine Z_iload_n (i := 3) (pc' := 600) dL_law_599 rfl rfl rfl ?_
      refine Z_iconst (v := 1) (pc' := 601) dL_law_600 (by decide) rfl ?_
      refine Z_iadd (pc' := 602) dL_law_601 rfl ?_
      refine Z_xld (pc' := 603) h1 dL_law_602 rfl ?_
      refine Z_aload_n (i := 0) (pc' := 604) dL_law_603 rfl rfl rfl ?_
      refine Z_iload_n (i := 3) (pc' := 605) dL_law_604 rfl rfl rfl ?_
      refine Z_iconst (v := 2) (pc' := 606) dL_law_605 (by decide) rfl ?_
      refine Z_iadd (pc' := 607) dL_law_606 rfl ?_
      refine Z_xld (pc' := 608) h2 dL_law_607 rfl ?_
      refine Z_aload_n (i := 0) (pc' := 609) dL_law_608 rfl rfl rfl ?_
      refine Z_iload_n (i := 3) (pc' := 610) dL_law_609 rfl rfl rfl ?_
      refine Z_iconst (v := 3) (pc' := 611) dL_law_610 (by decide) rfl ?_
      refine Z_iadd (pc' := 612) dL_law_611 rfl ?_
      refine Z_xld (pc' := 613) h3 dL_law_612 rfl ?_
      obtain ⟨r, PC, PR, rmc, rmr, ⟨c1, c2, c3, c4⟩, ⟨r1, r2, r3, r4⟩, hc, hr, hI'⟩ := s_through (nI (D.2 1001 (nI (6 * j) + 1).toNatClampNeg)) (nI (D.2 1001 (nI (6 * j) + 2).toNatClampNeg)) (nI (D.2 1001 (nI (6 * j) + 3).toNatClampNeg)) j a b Mc Mr hj hI
      refine Z_callV (As := [.int (nI (D.2 1001 (nI (6 * j) + 1).toNatClampNeg)), .int (nI (D.2 1001 (nI (6 * j) + 2).toNatClampNeg)), .int (nI (D.2 1001 (nI (6 * j) + 3).toNatClampNeg))]) (st := []) (pc' := 616) (hc.frame hdis) ckX7_through kvX7_through mlL_80 (zU_l hMa) rfl rfl rfl (Nat.le_of_ble_eq_true rfl) ⟨c1, c2⟩ ⟨by show k + rmc.cells ≤ 600000; omega, by show s + rmc.slots ≤ 7302250; omega⟩ dL_law_613 rfl rfl rfl (fun v M' hQ => ?_)
      obtain ⟨Mc', ⟨rfl, hPC⟩, hdis', rfl⟩ := hQ
      refine Z_mem (zU_comm hdis') ?_
      have hdis2 : ∀ x, Mr x ≠ none → Mc' x = none := fun x hx => by
        cases hz : Mc' x with
        | none => rfl
        | some e => exact absurd (hdis' x (by rw [hz]; simp)) hx
      refine Z_aload_n (i := 2) (pc' := 617) dL_law_616 rfl rfl rfl ?_
      refine Z_aload_n (i := 0) (pc' := 618) dL_law_617 rfl rfl rfl ?_
      refine Z_iload_n (i := 3) (pc' := 619) dL_law_618 rfl rfl rfl ?_
      refine Z_iconst (v := 1) (pc' := 620) dL_law_619 (by decide) rfl ?_
      refine Z_iadd (pc' := 621) dL_law_620 rfl ?_
      refine Z_xld (pc' := 622) h1 dL_law_621 rfl ?_
      refine Z_aload_n (i := 0) (pc' := 623) dL_law_622 rfl rfl rfl ?_
      refine Z_iload_n (i := 3) (pc' := 624) dL_law_623 rfl rfl rfl ?_
      refine Z_iconst (v := 2) (pc' := 625) dL_law_624 (by decide) rfl ?_
      refine Z_iadd (pc' := 626) dL_law_625 rfl ?_
      refine Z_xld (pc' := 627) h2 dL_law_626 rfl ?_
      refine Z_aload_n (i := 0) (pc' := 628) dL_law_627 rfl rfl rfl ?_
      refine Z_iload_n (i := 3) (pc' := 629) dL_law_628 rfl rfl rfl ?_
      refine Z_iconst (v := 3) (pc' := 630) dL_law_629 (by decide) rfl ?_
      refine Z_iadd (pc' := 631) dL_law_630 rfl ?_
      refine Z_xld (pc' := 632) h3 dL_law_631 rfl ?_
      refine Z_callV (As := [.int (nI (D.2 1001 (nI (6 * j) + 1).toNatClampNeg)), .int (nI (D.2 1001 (nI (6 * j) + 2).toNatClampNeg)), .int (nI (D.2 1001 (nI (6 * j) + 3).toNatClampNeg))]) (st := [.int r]) (pc' := 635) (hr.frame hdis2) ckX8_through kvX8_through mlL_83 (zU_l hMb) rfl rfl rfl (Nat.le_of_ble_eq_true rfl) ⟨r1, r2⟩ ⟨by show k + rmc.cells + rmr.cells ≤ 600000; omega, by show s + rmc.slots + rmr.slots ≤ 7302250; omega⟩ dL_law_632 rfl rfl rfl (fun v M' hQ => ?_)
      obtain ⟨Mr', ⟨rfl, hPR⟩, hdis3, rfl⟩ := hQ
      refine Z_mem (zU_comm hdis3) ?_
      refine Z_icmp_eq (tgt := 795) (pc' := 638) dL_law_635 (by decide) rfl (fun _ => ?_) (fun q => absurd rfl q)
      exact hback _ _ Mc' Mr' (by omega) (by omega) (hI' Mc' Mr' hPC hPR) (fun x hx => by
        cases hz : Mr' x with
        | none => rfl
        | some e => exact absurd (hdis3 x (by rw [hz]; simp)) hx)
    by_cases hs16 : sw = nI 16
    · refine Z_tin (j := 16) (tgt := 640) dL_law_33 hs16 (by decide) (by decide) rfl (by decide) ?_
      refine Z_aload_n (i := 1) (pc' := 641) dL_law_640 rfl rfl rfl ?_
      refine Z_aload_n (i := 0) (pc' := 642) dL_law_641 rfl rfl rfl ?_
      refine Z_iload_n (i := 3) (pc' := 643) dL_law_642 rfl rfl rfl ?_
      refine Z_iconst (v := 1) (pc' := 644) dL_law_643 (by decide) rfl ?_
      refine Z_iadd (pc' := 645) dL_law_644 rfl ?_
      refine Z_xld (pc' := 646) h1 dL_law_645 rfl ?_
      refine Z_aload_n (i := 0) (pc' := 647) dL_law_646 rfl rfl rfl ?_
      refine Z_iload_n (i := 3) (pc' := 648) dL_law_647 rfl rfl rfl ?_
      refine Z_iconst (v := 2) (pc' := 649) dL_law_648 (by decide) rfl ?_
      refine Z_iadd (pc' := 650) dL_law_649 rfl ?_
      refine Z_xld (pc' := 651) h2 dL_law_650 rfl ?_
      obtain ⟨r, PC, PR, rmc, rmr, ⟨c1, c2, c3, c4⟩, ⟨r1, r2, r3, r4⟩, hc, hr, hI'⟩ := s_look (nI (D.2 1001 (nI (6 * j) + 1).toNatClampNeg)) (nI (D.2 1001 (nI (6 * j) + 2).toNatClampNeg)) j a b Mc Mr hj hI
      refine Z_callV (As := [.int (nI (D.2 1001 (nI (6 * j) + 1).toNatClampNeg)), .int (nI (D.2 1001 (nI (6 * j) + 2).toNatClampNeg))]) (st := []) (pc' := 654) (hc.frame hdis) ckX7_look kvX7_look mlL_84 (zU_l hMa) rfl rfl rfl (Nat.le_of_ble_eq_true rfl) ⟨c1, c2⟩ ⟨by show k + rmc.cells ≤ 600000; omega, by show s + rmc.slots ≤ 7302250; omega⟩ dL_law_651 rfl rfl rfl (fun v M' hQ => ?_)
      obtain ⟨Mc', ⟨rfl, hPC⟩, hdis', rfl⟩ := hQ
      refine Z_mem (zU_comm hdis') ?_
      have hdis2 : ∀ x, Mr x ≠ none → Mc' x = none := fun x hx => by
        cases hz : Mc' x with
        | none => rfl
        | some e => exact absurd (hdis' x (by rw [hz]; simp)) hx
      refine Z_aload_n (i := 2) (pc' := 655) dL_law_654 rfl rfl rfl ?_
      refine Z_aload_n (i := 0) (pc' := 656) dL_law_655 rfl rfl rfl ?_
      refine Z_iload_n (i := 3) (pc' := 657) dL_law_656 rfl rfl rfl ?_
      refine Z_iconst (v := 1) (pc' := 658) dL_law_657 (by decide) rfl ?_
      refine Z_iadd (pc' := 659) dL_law_658 rfl ?_
      refine Z_xld (pc' := 660) h1 dL_law_659 rfl ?_
      refine Z_aload_n (i := 0) (pc' := 661) dL_law_660 rfl rfl rfl ?_
      refine Z_iload_n (i := 3) (pc' := 662) dL_law_661 rfl rfl rfl ?_
      refine Z_iconst (v := 2) (pc' := 663) dL_law_662 (by decide) rfl ?_
      refine Z_iadd (pc' := 664) dL_law_663 rfl ?_
      refine Z_xld (pc' := 665) h2 dL_law_664 rfl ?_
      refine Z_callV (As := [.int (nI (D.2 1001 (nI (6 * j) + 1).toNatClampNeg)), .int (nI (D.2 1001 (nI (6 * j) + 2).toNatClampNeg))]) (st := [.int r]) (pc' := 668) (hr.frame hdis2) ckX8_look kvX8_look mlL_87 (zU_l hMb) rfl rfl rfl (Nat.le_of_ble_eq_true rfl) ⟨r1, r2⟩ ⟨by show k + rmc.cells + rmr.cells ≤ 600000; omega, by show s + rmc.slots + rmr.slots ≤ 7302250; omega⟩ dL_law_665 rfl rfl rfl (fun v M' hQ => ?_)
      obtain ⟨Mr', ⟨rfl, hPR⟩, hdis3, rfl⟩ := hQ
      refine Z_mem (zU_comm hdis3) ?_
      refine Z_icmp_eq (tgt := 795) (pc' := 671) dL_law_668 (by decide) rfl (fun _ => ?_) (fun q => absurd rfl q)
      exact hback _ _ Mc' Mr' (by omega) (by omega) (hI' Mc' Mr' hPC hPR) (fun x hx => by
        cases hz : Mr' x with
        | none => rfl
        | some e => exact absurd (hdis3 x (by rw [hz]; simp)) hx)
    by_cases hs17 : sw = nI 17
    · refine Z_tin (j := 17) (tgt := 673) dL_law_33 hs17 (by decide) (by decide) rfl (by decide) ?_
      refine Z_aload_n (i := 1) (pc' := 674) dL_law_673 rfl rfl rfl ?_
      refine Z_aload_n (i := 0) (pc' := 675) dL_law_674 rfl rfl rfl ?_
      refine Z_iload_n (i := 3) (pc' := 676) dL_law_675 rfl rfl rfl ?_
      refine Z_iconst (v := 1) (pc' := 677) dL_law_676 (by decide) rfl ?_
      refine Z_iadd (pc' := 678) dL_law_677 rfl ?_
      refine Z_xld (pc' := 679) h1 dL_law_678 rfl ?_
      refine Z_aload_n (i := 0) (pc' := 680) dL_law_679 rfl rfl rfl ?_
      refine Z_iload_n (i := 3) (pc' := 681) dL_law_680 rfl rfl rfl ?_
      refine Z_iconst (v := 2) (pc' := 682) dL_law_681 (by decide) rfl ?_
      refine Z_iadd (pc' := 683) dL_law_682 rfl ?_
      refine Z_xld (pc' := 684) h2 dL_law_683 rfl ?_
      obtain ⟨r, PC, PR, rmc, rmr, ⟨c1, c2, c3, c4⟩, ⟨r1, r2, r3, r4⟩, hc, hr, hI'⟩ := s_told (nI (D.2 1001 (nI (6 * j) + 1).toNatClampNeg)) (nI (D.2 1001 (nI (6 * j) + 2).toNatClampNeg)) j a b Mc Mr hj hI
      refine Z_callV (As := [.int (nI (D.2 1001 (nI (6 * j) + 1).toNatClampNeg)), .int (nI (D.2 1001 (nI (6 * j) + 2).toNatClampNeg))]) (st := []) (pc' := 687) (hc.frame hdis) ckX7_told kvX7_told mlL_88 (zU_l hMa) rfl rfl rfl (Nat.le_of_ble_eq_true rfl) ⟨c1, c2⟩ ⟨by show k + rmc.cells ≤ 600000; omega, by show s + rmc.slots ≤ 7302250; omega⟩ dL_law_684 rfl rfl rfl (fun v M' hQ => ?_)
      obtain ⟨Mc', ⟨rfl, hPC⟩, hdis', rfl⟩ := hQ
      refine Z_mem (zU_comm hdis') ?_
      have hdis2 : ∀ x, Mr x ≠ none → Mc' x = none := fun x hx => by
        cases hz : Mc' x with
        | none => rfl
        | some e => exact absurd (hdis' x (by rw [hz]; simp)) hx
      refine Z_aload_n (i := 2) (pc' := 688) dL_law_687 rfl rfl rfl ?_
      refine Z_aload_n (i := 0) (pc' := 689) dL_law_688 rfl rfl rfl ?_
      refine Z_iload_n (i := 3) (pc' := 690) dL_law_689 rfl rfl rfl ?_
      refine Z_iconst (v := 1) (pc' := 691) dL_law_690 (by decide) rfl ?_
      refine Z_iadd (pc' := 692) dL_law_691 rfl ?_
      refine Z_xld (pc' := 693) h1 dL_law_692 rfl ?_
      refine Z_aload_n (i := 0) (pc' := 694) dL_law_693 rfl rfl rfl ?_
      refine Z_iload_n (i := 3) (pc' := 695) dL_law_694 rfl rfl rfl ?_
      refine Z_iconst (v := 2) (pc' := 696) dL_law_695 (by decide) rfl ?_
      refine Z_iadd (pc' := 697) dL_law_696 rfl ?_
      refine Z_xld (pc' := 698) h2 dL_law_697 rfl ?_
      refine Z_callV (As := [.int (nI (D.2 1001 (nI (6 * j) + 1).toNatClampNeg)), .int (nI (D.2 1001 (nI (6 * j) + 2).toNatClampNeg))]) (st := [.int r]) (pc' := 701) (hr.frame hdis2) ckX8_told kvX8_told mlL_91 (zU_l hMb) rfl rfl rfl (Nat.le_of_ble_eq_true rfl) ⟨r1, r2⟩ ⟨by show k + rmc.cells + rmr.cells ≤ 600000; omega, by show s + rmc.slots + rmr.slots ≤ 7302250; omega⟩ dL_law_698 rfl rfl rfl (fun v M' hQ => ?_)
      obtain ⟨Mr', ⟨rfl, hPR⟩, hdis3, rfl⟩ := hQ
      refine Z_mem (zU_comm hdis3) ?_
      refine Z_icmp_eq (tgt := 795) (pc' := 704) dL_law_701 (by decide) rfl (fun _ => ?_) (fun q => absurd rfl q)
      exact hback _ _ Mc' Mr' (by omega) (by omega) (hI' Mc' Mr' hPC hPR) (fun x hx => by
        cases hz : Mr' x with
        | none => rfl
        | some e => exact absurd (hdis3 x (by rw [hz]; simp)) hx)
    by_cases hs18 : sw = nI 18
    · refine Z_tin (j := 18) (tgt := 706) dL_law_33 hs18 (by decide) (by decide) rfl (by decide) ?_
      refine Z_aload_n (i := 1) (pc' := 707) dL_law_706 rfl rfl rfl ?_
      refine Z_aload_n (i := 0) (pc' := 708) dL_law_707 rfl rfl rfl ?_
      refine Z_iload_n (i := 3) (pc' := 709) dL_law_708 rfl rfl rfl ?_
      refine Z_iconst (v := 1) (pc' := 710) dL_law_709 (by decide) rfl ?_
      refine Z_iadd (pc' := 711) dL_law_710 rfl ?_
      refine Z_xld (pc' := 712) h1 dL_law_711 rfl ?_
      refine Z_aload_n (i := 0) (pc' := 713) dL_law_712 rfl rfl rfl ?_
      refine Z_iload_n (i := 3) (pc' := 714) dL_law_713 rfl rfl rfl ?_
      refine Z_iconst (v := 2) (pc' := 715) dL_law_714 (by decide) rfl ?_
      refine Z_iadd (pc' := 716) dL_law_715 rfl ?_
      refine Z_xld (pc' := 717) h2 dL_law_716 rfl ?_
      obtain ⟨r, PC, PR, rmc, rmr, ⟨c1, c2, c3, c4⟩, ⟨r1, r2, r3, r4⟩, hc, hr, hI'⟩ := s_debt (nI (D.2 1001 (nI (6 * j) + 1).toNatClampNeg)) (nI (D.2 1001 (nI (6 * j) + 2).toNatClampNeg)) j a b Mc Mr hj hI
      refine Z_callV (As := [.int (nI (D.2 1001 (nI (6 * j) + 1).toNatClampNeg)), .int (nI (D.2 1001 (nI (6 * j) + 2).toNatClampNeg))]) (st := []) (pc' := 720) (hc.frame hdis) ckX7_debt kvX7_debt mlL_92 (zU_l hMa) rfl rfl rfl (Nat.le_of_ble_eq_true rfl) ⟨c1, c2⟩ ⟨by show k + rmc.cells ≤ 600000; omega, by show s + rmc.slots ≤ 7302250; omega⟩ dL_law_717 rfl rfl rfl (fun v M' hQ => ?_)
      obtain ⟨Mc', ⟨rfl, hPC⟩, hdis', rfl⟩ := hQ
      refine Z_mem (zU_comm hdis') ?_
      have hdis2 : ∀ x, Mr x ≠ none → Mc' x = none := fun x hx => by
        cases hz : Mc' x with
        | none => rfl
        | some e => exact absurd (hdis' x (by rw [hz]; simp)) hx
      refine Z_aload_n (i := 2) (pc' := 721) dL_law_720 rfl rfl rfl ?_
      refine Z_aload_n (i := 0) (pc' := 722) dL_law_721 rfl rfl rfl ?_
      refine Z_iload_n (i := 3) (pc' := 723) dL_law_722 rfl rfl rfl ?_
      refine Z_iconst (v := 1) (pc' := 724) dL_law_723 (by decide) rfl ?_
      refine Z_iadd (pc' := 725) dL_law_724 rfl ?_
      refine Z_xld (pc' := 726) h1 dL_law_725 rfl ?_
      refine Z_aload_n (i := 0) (pc' := 727) dL_law_726 rfl rfl rfl ?_
      refine Z_iload_n (i := 3) (pc' := 728) dL_law_727 rfl rfl rfl ?_
      refine Z_iconst (v := 2) (pc' := 729) dL_law_728 (by decide) rfl ?_
      refine Z_iadd (pc' := 730) dL_law_729 rfl ?_
      refine Z_xld (pc' := 731) h2 dL_law_730 rfl ?_
      refine Z_callV (As := [.int (nI (D.2 1001 (nI (6 * j) + 1).toNatClampNeg)), .int (nI (D.2 1001 (nI (6 * j) + 2).toNatClampNeg))]) (st := [.int r]) (pc' := 734) (hr.frame hdis2) ckX8_debt kvX8_debt mlL_95 (zU_l hMb) rfl rfl rfl (Nat.le_of_ble_eq_true rfl) ⟨r1, r2⟩ ⟨by show k + rmc.cells + rmr.cells ≤ 600000; omega, by show s + rmc.slots + rmr.slots ≤ 7302250; omega⟩ dL_law_731 rfl rfl rfl (fun v M' hQ => ?_)
      obtain ⟨Mr', ⟨rfl, hPR⟩, hdis3, rfl⟩ := hQ
      refine Z_mem (zU_comm hdis3) ?_
      refine Z_icmp_eq (tgt := 795) (pc' := 737) dL_law_734 (by decide) rfl (fun _ => ?_) (fun q => absurd rfl q)
      exact hback _ _ Mc' Mr' (by omega) (by omega) (hI' Mc' Mr' hPC hPR) (fun x hx => by
        cases hz : Mr' x with
        | none => rfl
        | some e => exact absurd (hdis3 x (by rw [hz]; simp)) hx)
    by_cases hs19 : sw = nI 19
    · refine Z_tin (j := 19) (tgt := 739) dL_law_33 hs19 (by decide) (by decide) rfl (by decide) ?_
      refine Z_aload_n (i := 1) (pc' := 740) dL_law_739 rfl rfl rfl ?_
      refine Z_aload_n (i := 0) (pc' := 741) dL_law_740 rfl rfl rfl ?_
      refine Z_iload_n (i := 3) (pc' := 742) dL_law_741 rfl rfl rfl ?_
      refine Z_iconst (v := 1) (pc' := 743) dL_law_742 (by decide) rfl ?_
      refine Z_iadd (pc' := 744) dL_law_743 rfl ?_
      refine Z_xld (pc' := 745) h1 dL_law_744 rfl ?_
      refine Z_aload_n (i := 0) (pc' := 746) dL_law_745 rfl rfl rfl ?_
      refine Z_iload_n (i := 3) (pc' := 747) dL_law_746 rfl rfl rfl ?_
      refine Z_iconst (v := 2) (pc' := 748) dL_law_747 (by decide) rfl ?_
      refine Z_iadd (pc' := 749) dL_law_748 rfl ?_
      refine Z_xld (pc' := 750) h2 dL_law_749 rfl ?_
      obtain ⟨r, PC, PR, rmc, rmr, ⟨c1, c2, c3, c4⟩, ⟨r1, r2, r3, r4⟩, hc, hr, hI'⟩ := s_quarrel (nI (D.2 1001 (nI (6 * j) + 1).toNatClampNeg)) (nI (D.2 1001 (nI (6 * j) + 2).toNatClampNeg)) j a b Mc Mr hj hI
      refine Z_callV (As := [.int (nI (D.2 1001 (nI (6 * j) + 1).toNatClampNeg)), .int (nI (D.2 1001 (nI (6 * j) + 2).toNatClampNeg))]) (st := []) (pc' := 753) (hc.frame hdis) ckX7_quarrel kvX7_quarrel mlL_96 (zU_l hMa) rfl rfl rfl (Nat.le_of_ble_eq_true rfl) ⟨c1, c2⟩ ⟨by show k + rmc.cells ≤ 600000; omega, by show s + rmc.slots ≤ 7302250; omega⟩ dL_law_750 rfl rfl rfl (fun v M' hQ => ?_)
      obtain ⟨Mc', ⟨rfl, hPC⟩, hdis', rfl⟩ := hQ
      refine Z_mem (zU_comm hdis') ?_
      have hdis2 : ∀ x, Mr x ≠ none → Mc' x = none := fun x hx => by
        cases hz : Mc' x with
        | none => rfl
        | some e => exact absurd (hdis' x (by rw [hz]; simp)) hx
      refine Z_aload_n (i := 2) (pc' := 754) dL_law_753 rfl rfl rfl ?_
      refine Z_aload_n (i := 0) (pc' := 755) dL_law_754 rfl rfl rfl ?_
      refine Z_iload_n (i := 3) (pc' := 756) dL_law_755 rfl rfl rfl ?_
      refine Z_iconst (v := 1) (pc' := 757) dL_law_756 (by decide) rfl ?_
      refine Z_iadd (pc' := 758) dL_law_757 rfl ?_
      refine Z_xld (pc' := 759) h1 dL_law_758 rfl ?_
      refine Z_aload_n (i := 0) (pc' := 760) dL_law_759 rfl rfl rfl ?_
      refine Z_iload_n (i := 3) (pc' := 761) dL_law_760 rfl rfl rfl ?_
      refine Z_iconst (v := 2) (pc' := 762) dL_law_761 (by decide) rfl ?_
      refine Z_iadd (pc' := 763) dL_law_762 rfl ?_
      refine Z_xld (pc' := 764) h2 dL_law_763 rfl ?_
      refine Z_callV (As := [.int (nI (D.2 1001 (nI (6 * j) + 1).toNatClampNeg)), .int (nI (D.2 1001 (nI (6 * j) + 2).toNatClampNeg))]) (st := [.int r]) (pc' := 767) (hr.frame hdis2) ckX8_quarrel kvX8_quarrel mlL_99 (zU_l hMb) rfl rfl rfl (Nat.le_of_ble_eq_true rfl) ⟨r1, r2⟩ ⟨by show k + rmc.cells + rmr.cells ≤ 600000; omega, by show s + rmc.slots + rmr.slots ≤ 7302250; omega⟩ dL_law_764 rfl rfl rfl (fun v M' hQ => ?_)
      obtain ⟨Mr', ⟨rfl, hPR⟩, hdis3, rfl⟩ := hQ
      refine Z_mem (zU_comm hdis3) ?_
      refine Z_icmp_eq (tgt := 795) (pc' := 770) dL_law_767 (by decide) rfl (fun _ => ?_) (fun q => absurd rfl q)
      exact hback _ _ Mc' Mr' (by omega) (by omega) (hI' Mc' Mr' hPC hPR) (fun x hx => by
        cases hz : Mr' x with
        | none => rfl
        | some e => exact absurd (hdis3 x (by rw [hz]; simp)) hx)
    by_cases hs20 : sw = nI 20
    · refine Z_tin (j := 20) (tgt := 772) dL_law_33 hs20 (by decide) (by decide) rfl (by decide) ?_
      refine Z_aload_n (i := 1) (pc' := 773) dL_law_772 rfl rfl rfl ?_
      refine Z_aload_n (i := 0) (pc' := 774) dL_law_773 rfl rfl rfl ?_
      refine Z_iload_n (i := 3) (pc' := 775) dL_law_774 rfl rfl rfl ?_
      refine Z_iconst (v := 1) (pc' := 776) dL_law_775 (by decide) rfl ?_
      refine Z_iadd (pc' := 777) dL_law_776 rfl ?_
      refine Z_xld (pc' := 778) h1 dL_law_777 rfl ?_
      obtain ⟨r, PC, PR, rmc, rmr, ⟨c1, c2, c3, c4⟩, ⟨r1, r2, r3, r4⟩, hc, hr, hI'⟩ := s_count (nI (D.2 1001 (nI (6 * j) + 1).toNatClampNeg)) j a b Mc Mr hj hI
      refine Z_callV (As := [.int (nI (D.2 1001 (nI (6 * j) + 1).toNatClampNeg))]) (st := []) (pc' := 781) (hc.frame hdis) ckX7_count kvX7_count mlL_100 (zU_l hMa) rfl rfl rfl (Nat.le_of_ble_eq_true rfl) ⟨c1, c2⟩ ⟨by show k + rmc.cells ≤ 600000; omega, by show s + rmc.slots ≤ 7302250; omega⟩ dL_law_778 rfl rfl rfl (fun v M' hQ => ?_)
      obtain ⟨Mc', ⟨rfl, hPC⟩, hdis', rfl⟩ := hQ
      refine Z_mem (zU_comm hdis') ?_
      have hdis2 : ∀ x, Mr x ≠ none → Mc' x = none := fun x hx => by
        cases hz : Mc' x with
        | none => rfl
        | some e => exact absurd (hdis' x (by rw [hz]; simp)) hx
      refine Z_aload_n (i := 2) (pc' := 782) dL_law_781 rfl rfl rfl ?_
      refine Z_aload_n (i := 0) (pc' := 783) dL_law_782 rfl rfl rfl ?_
      refine Z_iload_n (i := 3) (pc' := 784) dL_law_783 rfl rfl rfl ?_
      refine Z_iconst (v := 1) (pc' := 785) dL_law_784 (by decide) rfl ?_
      refine Z_iadd (pc' := 786) dL_law_785 rfl ?_
      refine Z_xld (pc' := 787) h1 dL_law_786 rfl ?_
      refine Z_callV (As := [.int (nI (D.2 1001 (nI (6 * j) + 1).toNatClampNeg))]) (st := [.int r]) (pc' := 790) (hr.frame hdis2) ckX8_count kvX8_count mlL_103 (zU_l hMb) rfl rfl rfl (Nat.le_of_ble_eq_true rfl) ⟨r1, r2⟩ ⟨by show k + rmc.cells + rmr.cells ≤ 600000; omega, by show s + rmc.slots + rmr.slots ≤ 7302250; omega⟩ dL_law_787 rfl rfl rfl (fun v M' hQ => ?_)
      obtain ⟨Mr', ⟨rfl, hPR⟩, hdis3, rfl⟩ := hQ
      refine Z_mem (zU_comm hdis3) ?_
      refine Z_icmp_eq (tgt := 795) (pc' := 793) dL_law_790 (by decide) rfl (fun _ => ?_) (fun q => absurd rfl q)
      exact hback _ _ Mc' Mr' (by omega) (by omega) (hI' Mc' Mr' hPC hPR) (fun x hx => by
        cases hz : Mr' x with
        | none => rfl
        | some e => exact absurd (hdis3 x (by rw [hz]; simp)) hx)
    refine Z_tout (hi := 20) (tgt := 795) dL_law_33 (lt_s (lt_s (lt_s (lt_s (lt_s (lt_s (lt_s (lt_s (lt_s (lt_s (lt_s (lt_s (lt_s (lt_s (lt_s (lt_s (lt_s (lt_s (lt_s (lt_s (lt_s lt_0 hs0) hs1) hs2) hs3) hs4) hs5) hs6) hs7) hs8) hs9) hs10) hs11) hs12) hs13) hs14) hs15) hs16) hs17) hs18) hs19) hs20) (by decide) ?_
    exact hback k s Mc Mr (by omega) (by omega) (hObj.2 j a b Mc Mr hI) hdis
