set_option maxRecDepth 16384
theorem zr_words : ∀ c ∈ (Cond.code x code maxLocals ret :: tables_1), c.before start1.args0 zr_s = true := by
  intro c hc
  rcases List.mem_cons.mp hc with h | h
  · rw [h]; exact zr_code zr_hv start1.word_code
  · have h1 : c ∈ tables_1_1 ++ (tables_1_2 ++ (tables_1_3 ++ (tables_1_4 ++ tables_1_5))) := h
    rcases List.mem_append.mp h1 with h2 | h1
    · exact zr_w1 c h2
    rcases List.mem_append.mp h1 with h2 | h1
    · exact zr_w2 c h2
    rcases List.mem_append.mp h1 with h2 | h1
    · exact zr_w3 c h2
    rcases List.mem_append.mp h1 with h2 | h1
    · exact zr_w4 c h2
    exact zr_w5 c h1
/-- the start meets every premise of the Statement -/
theorem zr_atStart : AtStart classFile x code maxLocals ret World_1 tables_1 room_1 Calls_1 rest_1 Pre_1 launch0 start1.p0 start1.e0 zr_s ⟨0, 0⟩ start1.args0 Lib.HandBits.below0 :=
  ⟨lists_1, trivial, launch0.admits_env _ _ _, launch0.least_env, fairChoices_fair.cas, fairChoices_fair.clock, rfl, by decide +kernel, by decide +kernel,
    (Spec.applies_iff rfl).mpr ⟨rfl, rfl, rfl, by decide +kernel, by decide +kernel, by decide +kernel, launch0.hasRoom_least _ room_1 (by decide +kernel) (by decide +kernel) (by decide +kernel) (by decide +kernel) (by decide +kernel) (by decide +kernel), atoms_intro zr_words⟩,
    trivial, (show rest_1_c.before start1.args0 zr_s = true by decide +kernel), (show (Cond.and given_1 narrow_1).before start1.args0 zr_s = true by decide +kernel)⟩
/-- from there the law never returns: at step 39 it has thrown -/
theorem zr_never (n : Nat) (v : Option Value) (hw : ∀ k, k < n → Within (zr_run k) Lib.HandBits.below0) (he : Ended (zr_run n) Lib.HandBits.below0 (Outcome.returned v)) : False := by
  have hone : (zr_run n).frames.length = 1 := by
    have h : (zr_run n).frames = .native { method := ⟨0, 0⟩, args := #[], awaiting := false, answer := some (.returned v) } :: [] := he
    rw [h]
    rfl
  rcases Nat.lt_or_ge n 40 with h | h
  · have h1 := of_decide_eq_true (List.all_eq_true.mp zr_len n (List.mem_range.mpr h))
    omega
  · obtain ⟨above, hf, hne, hno⟩ := hw 39 (by omega)
    have ht := zr_thr
    unfold zr_thrown at ht
    split at ht
    · next a g hq =>
      rw [hq] at hf
      cases above with
      | nil => exact hne rfl
      | cons y ys =>
        rw [List.cons_append] at hf
        injection hf with h1 h2
        cases ys with
        | nil => exact hno a (by rw [h1])
        | cons z zs =>
          have hl := congrArg List.length h2
          simp [Lib.HandBits.below0] at hl
    · cases ht
/-- THE STATEMENT AS PRINTED IS FALSE -/
theorem zr_claim_is_false : ¬ Claimed_1_1 := by
  intro h
  obtain ⟨hL, hW, hadm, -, hcas, hclk, hfr, hargs, hheap, happ, hcalls, hrest, hpre⟩ := zr_atStart
  obtain ⟨n, o, hw, -, he, hp⟩ := h launch0 rfl hL hW start1.p0 start1.e0 hadm hcas hclk zr_s ⟨0, 0⟩ start1.args0 Lib.HandBits.below0 hfr hargs hheap happ ⟨hcalls, hrest, hpre⟩
  obtain ⟨⟨v, hv⟩, -⟩ := hp.2
  subst hv
  exact zr_never n v hw he
theorem zr_owed_is_false : ¬ (Claimed_1_1 ∧ Claimed_1_2) := fun h => zr_claim_is_false h.1
