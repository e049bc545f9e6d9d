/-! the frame rule: a contract over one memory beside another memory -/
def zU (M1 M2 : zM) : zM := fun a => match M1 a with
  | some e => some e
  | none => M2 a
theorem zU_l {M1 M2 : zM} {a : Nat} {e : zE} (h : M1 a = some e) : zU M1 M2 a = some e := by unfold zU; rw [h]
theorem zU_r {M1 M2 : zM} {a : Nat} (h : M1 a = none) : zU M1 M2 a = M2 a := by unfold zU; rw [h]
theorem zU_cases {M1 M2 : zM} {a : Nat} {e : zE} (h : zU M1 M2 a = some e) : M1 a = some e ∨ (M1 a = none ∧ M2 a = some e) := by
  cases h1 : M1 a with
  | some e1 =>
    rw [zU_l h1] at h
    exact Or.inl h
  | none =>
    rw [zU_r h1] at h
    exact Or.inr ⟨rfl, h⟩
theorem zU_ne {M1 M2 : zM} {a : Nat} : zU M1 M2 a ≠ none ↔ M1 a ≠ none ∨ M2 a ≠ none := by
  cases h1 : M1 a with
  | some e1 =>
    rw [zU_l h1]
    simp
  | none =>
    rw [zU_r h1]
    simp
theorem zU_comm {M1 M2 : zM} (h : ∀ a, M1 a ≠ none → M2 a = none) : zU M1 M2 = zU M2 M1 := by
  funext a
  cases h1 : M1 a with
  | some e1 => rw [zU_l h1, zU_r (h a (by rw [h1]; simp)), h1]
  | none =>
    rw [zU_r h1]
    cases h2 : M2 a with
    | some e2 => rw [zU_l h2]
    | none => rw [zU_r h2, h1]
theorem zMet.frame {l : Launch} {y : MethodName} {cc : ByteArray} {nL : Nat} {ret : Option FieldType} {rm : Room} {av : List Value} {M1 M2 : zM} {Q : Option Value → zM → Prop} (h : zMet l y cc nL ret rm av M1 Q) (hd : ∀ a, M1 a ≠ none → M2 a = none) :
    zMet l y cc nL ret rm av (zU M1 M2) (fun v M' => ∃ M1', Q v M1' ∧ (∀ a, M1' a ≠ none → M2 a = none) ∧ M' = zU M1' M2) := by
  intro D sz p e ha hc hk s m args below hf happ hP hK
  obtain ⟨hav, hsz, hP0, hKn, hO⟩ := hP
  have up : ∀ q, zA M1 sz q → zA (zU M1 M2) sz q := fun q hq => hq.imp (fun h1 => zU_ne.mpr (Or.inl h1)) id
  have hP1 : zP D s M1 s.heap := fun a e1 h1 => hP0 a e1 (zU_l h1)
  have hP2 : zP D s M2 s.heap := fun a e2 h2 => hP0 a e2 (by
    cases h1 : M1 a with
    | some e1 => rw [hd a (by rw [h1]; simp)] at h2; cases h2
    | none => rw [zU_r h1]; exact h2)
  obtain ⟨n, o, h1, h2, h3, ⟨⟨v, M1', hv, hq, hp', hdom⟩, hz, hkp⟩, L, hF, hL⟩ := h D sz p e ha hc hk s m args below hf happ ⟨hav, hsz, hP1, hKn, hO.narrow up⟩ hK
  have hd' : ∀ a, M1' a ≠ none → M2 a = none := by
    intro a h4
    rcases hdom a h4 with h5 | h5
    · exact hd a h5
    · cases h6 : M2 a with
      | none => rfl
      | some e2 => exact absurd (hP2 a e2 h6).lt (Nat.not_lt.mpr h5)
  refine ⟨n, o, h1, h2, h3, ⟨⟨v, zU M1' M2, hv, ⟨M1', hq, hd', rfl⟩, ?_, ?_⟩, hz, fun q g1 g2 => hkp q g1 (fun g3 => g2 (g3.imp (fun g4 => zU_ne.mpr (Or.inl g4)) id))⟩, L, hF, fun q g => up _ (hL q g)⟩
  · intro a e1 h4
    rcases zU_cases h4 with h5 | ⟨h5, h6⟩
    · exact hp' a e1 h5
    · have hlt := (hP2 a e1 h6).lt
      have hna : ¬ zA M1 s.heap.size a := fun g => g.elim (fun g1 => by
        have := hd a g1
        rw [h6] at this
        cases this) (fun g1 => Nat.not_lt.mpr g1 hlt)
      exact ((hP2 a e1 h6).kept (hkp a hlt hna)).moved hF.2.1.alike
  · intro q g
    rcases zU_ne.mp g with g1 | g1
    · exact (hdom q g1).imp (fun g4 => zU_ne.mpr (Or.inl g4)) id
    · exact Or.inl (zU_ne.mpr (Or.inr g1))
theorem zMet.mono {l : Launch} {y : MethodName} {cc : ByteArray} {nL : Nat} {ret : Option FieldType} {rm : Room} {av : List Value} {M : zM} {Q Q' : Option Value → zM → Prop} (h : zMet l y cc nL ret rm av M Q) (hq : ∀ v M', Q v M' → Q' v M') : zMet l y cc nL ret rm av M Q' := by
  intro D sz p e ha hc hk s m args below hf happ hP hK
  obtain ⟨n, o, h1, h2, h3, ⟨⟨v, M1', hv, hq1, hp', hdom⟩, hz, hkp⟩, L, hF, hL⟩ := h D sz p e ha hc hk s m args below hf happ hP hK
  exact ⟨n, o, h1, h2, h3, ⟨⟨v, M1', hv, hq v M1' hq1, hp', hdom⟩, hz, hkp⟩, L, hF, hL⟩
