abbrev zS : Type := Nat → Nat → Int32
def zs (σ : zS) (k i : Nat) (v : Int32) : zS := fun a => if a = k then upd (σ k) i v else σ a
theorem zs_at (σ : zS) (k i : Nat) (v : Int32) : zs σ k i v k = upd (σ k) i v := if_pos rfl
theorem zs_ne (σ : zS) {k a : Nat} (i : Nat) (v : Int32) (h : a ≠ k) : zs σ k i v a = σ a := if_neg h
def zIn (i : Int32) (n : Nat) : Bool := !(decide (i < 0) || decide (n ≤ i.toNatClampNeg))
theorem zIn_in {i : Int32} {n : Nat} (h : zIn i n = true) : vp_in i n := by
  unfold zIn at h
  intro q
  rcases q with q | q
  · simp [q] at h
  · simp [q] at h
theorem zIn_of {i : Int32} {n : Nat} (h : vp_in i n) : zIn i n = true := by
  unfold zIn
  have h1 : ¬ i < 0 := fun q => h (Or.inl q)
  have h2 : ¬ n ≤ i.toNatClampNeg := fun q => h (Or.inr q)
  simp [h1, h2]
def zl {α β : Type} (a : α) (f : α → β) : β := f a
theorem zl_of {α β : Type} {a : α} {f : α → β} {r : β} (h : zl a f = r) : ∃ x, x = a ∧ f x = r := ⟨a, rfl, h⟩
theorem ck_of {c : Prop} [Decidable c] {α : Type} {a : Option α} {r : α} (h : (if c then a else none) = some r) : c ∧ a = some r := by
  by_cases hc : c
  · rw [if_pos hc] at h
    exact ⟨hc, h⟩
  · rw [if_neg hc] at h
    cases h
theorem bd_of {α β : Type} {o : Option α} {f : α → Option β} {r : β} (h : o.bind f = some r) : ∃ x, o = some x ∧ f x = some r := by
  cases o with
  | none => cases h
  | some x => exact ⟨x, rfl, h⟩
def zsum {α β γ : Type} (f : α → γ) (g : β → γ) (r : α ⊕ β) : γ := match r with
  | .inl a => f a
  | .inr b => g b
theorem zsum_l {α β γ : Type} {f : α → γ} {g : β → γ} {a : α} {x : γ} (h : zsum f g (.inl a) = x) : f a = x := h
theorem zsum_r {α β γ : Type} {f : α → γ} {g : β → γ} {b : β} {x : γ} (h : zsum f g (.inr b) = x) : g b = x := h
theorem sm_of {α : Type} {a b : α} (h : some a = some b) : b = a := (Option.some.inj h).symm
def zF : Nat := 600000
def zSb : List (Option Value) → List (Option Value) → Prop
  | [], _ => True
  | none :: t, [] => zSb t []
  | none :: t, _ :: u => zSb t u
  | some _ :: _, [] => False
  | some v :: t, o :: u => o = some v ∧ zSb t u
theorem zSb_of : ∀ (a b : List (Option Value)), zSb a b → ∀ (i : Nat) (v : Value), a[i]? = some (some v) → b[i]? = some (some v)
  | [], _, _, i, v, h => by simp at h
  | none :: t, [], h0, i, v, h => by
    cases i with
    | zero => simp at h
    | succ i => have := zSb_of t [] h0 i v (by simpa using h); simp at this
  | none :: t, o :: u, h0, i, v, h => by
    cases i with
    | zero => simp at h
    | succ i => have := zSb_of t u h0 i v (by simpa using h); simpa using this
  | some w :: t, [], h0, i, v, h => h0.elim
  | some w :: t, o :: u, h0, i, v, h => by
    cases i with
    | zero =>
      have e : w = v := by simpa using h
      rw [← e]
      simpa using h0.1
    | succ i => have := zSb_of t u h0.2 i v (by simpa using h); simpa using this
def zCt : List (Option Value) → Prop
  | [] => True
  | none :: t => zCt t
  | some v :: t => v.category = 1 ∧ zCt t
theorem zCt_of : ∀ (a : List (Option Value)), zCt a → ∀ (i : Nat) (v : Value), a[i]? = some (some v) → v.category = 1
  | [], _, i, v, h => by simp at h
  | none :: t, h0, i, v, h => by
    cases i with
    | zero => simp at h
    | succ i => exact zCt_of t h0 i v (by simpa using h)
  | some w :: t, h0, i, v, h => by
    cases i with
    | zero => have e : w = v := by simpa using h
              rw [← e]; exact h0.1
    | succ i => exact zCt_of t h0.2 i v (by simpa using h)
section ZI
variable {l : Launch} {y : MethodName} {cc : ByteArray} {nL : Nat} {ret : Option FieldType} {R : Room} {mc ms : Nat} {D : va_G} {M0 : zM} {Q : Option Value → zM → Prop} {k n pc pc' : Nat} {vs vs' : List (Option Value)} {st : List Value} {M : zM}
theorem Z_istore_nE {f : Fin 4} {i : Nat} {x x' : Int32} (hd : decode cc pc = .ok (.istore_n f, 1)) (hi : (f : Nat) = i) (he : x' = x) (hn : i < nL) (hv : vs.set i (some (.int x')) = vs') (hp : pc + 1 = pc') (kk : Z l y cc nL ret R mc ms D M0 Q k n pc' vs' st M) : Z l y cc nL ret R mc ms D M0 Q k n pc vs (.int x :: st) M := by
  subst he
  exact Z_istore_n hd hi hn hv hp kk
theorem Z_istoreE {i : Nat} {x x' : Int32} (hd : decode cc pc = .ok (.istore i, 2)) (he : x' = x) (hn : i < nL) (hv : vs.set i (some (.int x')) = vs') (hp : pc + 2 = pc') (kk : Z l y cc nL ret R mc ms D M0 Q k n pc' vs' st M) : Z l y cc nL ret R mc ms D M0 Q k n pc vs (.int x :: st) M := by
  subst he
  exact Z_istore hd hn hv hp kk
theorem Z_callVi {y' : MethodName} {cc' : ByteArray} {nL' np idx ci b k' n' : Nat} {ret' : Option FieldType} {rm : Room} {As st0 fs : List Value} {T' : u_T} {N' : Nat} {r : Int32} {M1 : zM}
    (hM' : zMet l y' cc' nL' ret' rm (.ref b :: As) M (fun v M' => v = some (.int r) ∧ M' = M1)) (ck : zCk y' cc' nL' ret' np) (kv : Cond.instanceMethod y' ∈ zT ∧ Cond.selects y'.cls y' y' ∈ zT) (ml : Cond.methodLink y.cls idx y' ∈ zT) (hb : M b = some (.inr (ci, fs))) (hc : vwCl[ci]? = some (y'.cls, T', N'))
    (hn : As.length = np) (hst : st0 = As.reverse ++ .ref b :: st) (hcat : (st.map fun v => v.category).sum ≤ 8) (hR : rm.frames + 1 ≤ R.frames ∧ 8 + (nL' + 11) + rm.locals ≤ R.locals) (hroom : k + rm.cells ≤ R.cells ∧ n + rm.slots ≤ R.slots) (hd : decode cc pc = .ok (.invokevirtual idx, 3)) (hk : k + rm.cells = k') (hn2 : n + rm.slots = n') (hp : pc + 3 = pc')
    (kk : Z l y cc nL ret R mc ms D M0 Q k' n' pc' vs (.int r :: st) M1) : Z l y cc nL ret R mc ms D M0 Q k n pc vs st0 M :=
  Z_callV hM' ck kv ml hb hc hn hst hcat hR hroom hd hk hn2 hp (fun v M' h => by obtain ⟨rfl, rfl⟩ := h; exact kk)
theorem Z_callVv {y' : MethodName} {cc' : ByteArray} {nL' np idx ci b k' n' : Nat} {ret' : Option FieldType} {rm : Room} {As st0 fs : List Value} {T' : u_T} {N' : Nat} {M1 : zM}
    (hM' : zMet l y' cc' nL' ret' rm (.ref b :: As) M (fun v M' => v = none ∧ M' = M1)) (ck : zCk y' cc' nL' ret' np) (kv : Cond.instanceMethod y' ∈ zT ∧ Cond.selects y'.cls y' y' ∈ zT) (ml : Cond.methodLink y.cls idx y' ∈ zT) (hb : M b = some (.inr (ci, fs))) (hc : vwCl[ci]? = some (y'.cls, T', N'))
    (hn : As.length = np) (hst : st0 = As.reverse ++ .ref b :: st) (hcat : (st.map fun v => v.category).sum ≤ 8) (hR : rm.frames + 1 ≤ R.frames ∧ 8 + (nL' + 11) + rm.locals ≤ R.locals) (hroom : k + rm.cells ≤ R.cells ∧ n + rm.slots ≤ R.slots) (hd : decode cc pc = .ok (.invokevirtual idx, 3)) (hk : k + rm.cells = k') (hn2 : n + rm.slots = n') (hp : pc + 3 = pc')
    (kk : Z l y cc nL ret R mc ms D M0 Q k' n' pc' vs st M1) : Z l y cc nL ret R mc ms D M0 Q k n pc vs st0 M :=
  Z_callV hM' ck kv ml hb hc hn hst hcat hR hroom hd hk hn2 hp (fun v M' h => by obtain ⟨rfl, rfl⟩ := h; exact kk)
theorem Z_callSi {y' : MethodName} {cc' : ByteArray} {nL' np idx k' n' : Nat} {ret' : Option FieldType} {rm : Room} {As st0 : List Value} {r : Int32} {M1 : zM}
    (hM' : zMet l y' cc' nL' ret' rm As M (fun v M' => v = some (.int r) ∧ M' = M1)) (ck : zCk y' cc' nL' ret' np) (kv : Cond.static y' ∈ zT) (ml : Cond.methodLink y.cls idx y' ∈ zT)
    (hn : As.length = np) (hst : st0 = As.reverse ++ st) (hcat : (st.map fun v => v.category).sum ≤ 8) (hR : rm.frames + 1 ≤ R.frames ∧ 8 + (nL' + 11) + rm.locals ≤ R.locals) (hroom : k + rm.cells ≤ R.cells ∧ n + rm.slots ≤ R.slots) (hd : decode cc pc = .ok (.invokestatic idx, 3)) (hk : k + rm.cells = k') (hn2 : n + rm.slots = n') (hp : pc + 3 = pc')
    (kk : Z l y cc nL ret R mc ms D M0 Q k' n' pc' vs (.int r :: st) M1) : Z l y cc nL ret R mc ms D M0 Q k n pc vs st0 M :=
  Z_callS hM' ck kv ml hn hst hcat hR hroom hd hk hn2 hp (fun v M' h => by obtain ⟨rfl, rfl⟩ := h; exact kk)
theorem Z_callSv {y' : MethodName} {cc' : ByteArray} {nL' np idx k' n' : Nat} {ret' : Option FieldType} {rm : Room} {As st0 : List Value} {M1 : zM}
    (hM' : zMet l y' cc' nL' ret' rm As M (fun v M' => v = none ∧ M' = M1)) (ck : zCk y' cc' nL' ret' np) (kv : Cond.static y' ∈ zT) (ml : Cond.methodLink y.cls idx y' ∈ zT)
    (hn : As.length = np) (hst : st0 = As.reverse ++ st) (hcat : (st.map fun v => v.category).sum ≤ 8) (hR : rm.frames + 1 ≤ R.frames ∧ 8 + (nL' + 11) + rm.locals ≤ R.locals) (hroom : k + rm.cells ≤ R.cells ∧ n + rm.slots ≤ R.slots) (hd : decode cc pc = .ok (.invokestatic idx, 3)) (hk : k + rm.cells = k') (hn2 : n + rm.slots = n') (hp : pc + 3 = pc')
    (kk : Z l y cc nL ret R mc ms D M0 Q k' n' pc' vs st M1) : Z l y cc nL ret R mc ms D M0 Q k n pc vs st0 M :=
  Z_callS hM' ck kv ml hn hst hcat hR hroom hd hk hn2 hp (fun v M' h => by obtain ⟨rfl, rfl⟩ := h; exact kk)
end ZI
/-! the reference's memory: slot t of the object is the tag t, the object itself 42 -/
def rLen (t : Nat) : Nat := ([40, 0, 4, 4, 0, 0, 0, 16, 16, 16, 256, 0, 24, 24, 24, 24, 24, 24, 1536, 24, 2016, 2016, 2016, 0, 200, 200, 200, 200, 200, 200, 200, 200, 8, 6, 6, 6, 6, 0, 0, 0, 0, 16] : List Nat).getD t 0
def rTy (t : Nat) : FieldType := if t = 0 then .byte else if t = 9 then .boolean else if t = 10 then .boolean else if t = 31 then .boolean else .int
def rFs (ad : Nat → Nat) (σ : zS) : List Value := [.ref (ad 0), .int (σ 1 0), .ref (ad 2), .ref (ad 3), .int (σ 4 0), .int (σ 5 0), .int (σ 6 0), .ref (ad 7), .ref (ad 8), .ref (ad 9), .ref (ad 10), .int (σ 11 0), .ref (ad 12), .ref (ad 13), .ref (ad 14), .ref (ad 15), .ref (ad 16), .ref (ad 17), .ref (ad 18), .ref (ad 19), .ref (ad 20), .ref (ad 21), .ref (ad 22), .int (σ 23 0), .ref (ad 24), .ref (ad 25), .ref (ad 26), .ref (ad 27), .ref (ad 28), .ref (ad 29), .ref (ad 30), .ref (ad 31), .ref (ad 32), .ref (ad 33), .ref (ad 34), .ref (ad 35), .ref (ad 36), .int (σ 37 0), .int (σ 38 0), .int (σ 39 0), .int (σ 40 0), .ref (ad 41)]
def rCell (ad : Nat → Nat) (σ : zS) (t : Nat) : Option zE := if t = 42 then some (.inr (8, rFs ad σ)) else if rLen t = 0 then none else some (.inl (rTy t, rLen t, .inl (σ t)))
def mR (ad dec : Nat → Nat) (σ : zS) : zM := fun b => rCell ad σ (dec b)
def rLive (t : Nat) : Prop := t = 42 ∨ rLen t ≠ 0
def rG (ad dec : Nat → Nat) : Prop := (∀ t, rLive t → dec (ad t) = t) ∧ ∀ b, rLive (dec b) → ad (dec b) = b
theorem mR_obj {ad dec : Nat → Nat} (hG : rG ad dec) {σ : zS} : mR ad dec σ (ad 42) = some (.inr (8, rFs ad σ)) := by
  unfold mR
  rw [hG.1 42 (Or.inl rfl)]
  rfl
theorem mR_arr {ad dec : Nat → Nat} (hG : rG ad dec) {σ : zS} (k : Nat) (hk : rLen k ≠ 0) (h42 : k ≠ 42) : mR ad dec σ (ad k) = some (.inl (rTy k, rLen k, .inl (σ k))) := by
  unfold mR
  rw [hG.1 k (Or.inr hk)]
  unfold rCell
  rw [if_neg h42, if_neg hk]
theorem rCell_eq {ad : Nat → Nat} {σ σ' : zS} {t : Nat} (h : t = 42 → rFs ad σ = rFs ad σ') (h2 : rLen t ≠ 0 → σ t = σ' t) : rCell ad σ t = rCell ad σ' t := by
  unfold rCell
  by_cases h42 : t = 42
  · rw [if_pos h42, if_pos h42, h h42]
  · rw [if_neg h42, if_neg h42]
    by_cases hk : rLen t = 0
    · rw [if_pos hk, if_pos hk]
    · rw [if_neg hk, if_neg hk, h2 hk]
theorem mR_putA {ad dec : Nat → Nat} (hG : rG ad dec) {σ σ' : zS} (k : Nat) (v : Int32) (hk : rLen k = 0) (hf : (rFs ad σ).set k (.int v) = rFs ad (zs σ k 0 v)) (he : σ' = zs σ k 0 v) : zUp (mR ad dec σ) (ad 42) (.inr (8, (rFs ad σ).set k (.int v))) = mR ad dec σ' := by
  subst he
  funext b
  by_cases hb : b = ad 42
  · subst hb
    rw [zUp_self, mR_obj hG, hf]
  · rw [zUp_ne hb]
    refine rCell_eq (fun h => ?_) (fun h => ?_)
    · exact absurd (by rw [← h]; exact (hG.2 b (Or.inl h)).symm) hb
    · rw [zs_ne]
      intro e
      rw [e] at h
      exact h hk
theorem mR_astA {ad dec : Nat → Nat} (hG : rG ad dec) {σ σ' : zS} (k i : Nat) (v : Int32) (hk : rLen k ≠ 0) (h42 : k ≠ 42) (hf : rFs ad (zs σ k i v) = rFs ad σ) (he : σ' = zs σ k i v) : zUp (mR ad dec σ) (ad k) (.inl (rTy k, rLen k, .inl (upd (σ k) i v))) = mR ad dec σ' := by
  subst he
  funext b
  by_cases hb : b = ad k
  · subst hb
    rw [zUp_self, mR_arr hG k hk h42, zs_at]
  · rw [zUp_ne hb]
    refine rCell_eq (fun _ => hf.symm) (fun h => ?_)
    rw [zs_ne]
    intro e
    exact hb (by rw [← e]; exact (hG.2 b (Or.inr h)).symm)
theorem aR_0 {ad dec : Nat → Nat} (hG : rG ad dec) {σ : zS} : mR ad dec σ (ad 0) = some (.inl (.byte, 40, .inl (σ 0))) := mR_arr hG 0 (by decide) (by decide)
theorem sR_0 {ad dec : Nat → Nat} (hG : rG ad dec) {σ σ' : zS} {i : Nat} {v : Int32} (he : σ' = zs σ 0 i v) : zUp (mR ad dec σ) (ad 0) (.inl (.byte, 40, .inl (upd (σ 0) i v))) = mR ad dec σ' := mR_astA hG 0 i v (by decide) (by decide) rfl he
theorem pR_1 {ad dec : Nat → Nat} (hG : rG ad dec) {σ σ' : zS} {v : Int32} (he : σ' = zs σ 1 0 v) : zUp (mR ad dec σ) (ad 42) (.inr (8, (rFs ad σ).set 1 (.int v))) = mR ad dec σ' := mR_putA hG 1 v (by decide) rfl he
theorem aR_2 {ad dec : Nat → Nat} (hG : rG ad dec) {σ : zS} : mR ad dec σ (ad 2) = some (.inl (.int, 4, .inl (σ 2))) := mR_arr hG 2 (by decide) (by decide)
theorem sR_2 {ad dec : Nat → Nat} (hG : rG ad dec) {σ σ' : zS} {i : Nat} {v : Int32} (he : σ' = zs σ 2 i v) : zUp (mR ad dec σ) (ad 2) (.inl (.int, 4, .inl (upd (σ 2) i v))) = mR ad dec σ' := mR_astA hG 2 i v (by decide) (by decide) rfl he
theorem aR_3 {ad dec : Nat → Nat} (hG : rG ad dec) {σ : zS} : mR ad dec σ (ad 3) = some (.inl (.int, 4, .inl (σ 3))) := mR_arr hG 3 (by decide) (by decide)
theorem sR_3 {ad dec : Nat → Nat} (hG : rG ad dec) {σ σ' : zS} {i : Nat} {v : Int32} (he : σ' = zs σ 3 i v) : zUp (mR ad dec σ) (ad 3) (.inl (.int, 4, .inl (upd (σ 3) i v))) = mR ad dec σ' := mR_astA hG 3 i v (by decide) (by decide) rfl he
theorem pR_4 {ad dec : Nat → Nat} (hG : rG ad dec) {σ σ' : zS} {v : Int32} (he : σ' = zs σ 4 0 v) : zUp (mR ad dec σ) (ad 42) (.inr (8, (rFs ad σ).set 4 (.int v))) = mR ad dec σ' := mR_putA hG 4 v (by decide) rfl he
theorem pR_5 {ad dec : Nat → Nat} (hG : rG ad dec) {σ σ' : zS} {v : Int32} (he : σ' = zs σ 5 0 v) : zUp (mR ad dec σ) (ad 42) (.inr (8, (rFs ad σ).set 5 (.int v))) = mR ad dec σ' := mR_putA hG 5 v (by decide) rfl he
theorem pR_6 {ad dec : Nat → Nat} (hG : rG ad dec) {σ σ' : zS} {v : Int32} (he : σ' = zs σ 6 0 v) : zUp (mR ad dec σ) (ad 42) (.inr (8, (rFs ad σ).set 6 (.int v))) = mR ad dec σ' := mR_putA hG 6 v (by decide) rfl he
theorem aR_7 {ad dec : Nat → Nat} (hG : rG ad dec) {σ : zS} : mR ad dec σ (ad 7) = some (.inl (.int, 16, .inl (σ 7))) := mR_arr hG 7 (by decide) (by decide)
theorem sR_7 {ad dec : Nat → Nat} (hG : rG ad dec) {σ σ' : zS} {i : Nat} {v : Int32} (he : σ' = zs σ 7 i v) : zUp (mR ad dec σ) (ad 7) (.inl (.int, 16, .inl (upd (σ 7) i v))) = mR ad dec σ' := mR_astA hG 7 i v (by decide) (by decide) rfl he
theorem aR_8 {ad dec : Nat → Nat} (hG : rG ad dec) {σ : zS} : mR ad dec σ (ad 8) = some (.inl (.int, 16, .inl (σ 8))) := mR_arr hG 8 (by decide) (by decide)
theorem sR_8 {ad dec : Nat → Nat} (hG : rG ad dec) {σ σ' : zS} {i : Nat} {v : Int32} (he : σ' = zs σ 8 i v) : zUp (mR ad dec σ) (ad 8) (.inl (.int, 16, .inl (upd (σ 8) i v))) = mR ad dec σ' := mR_astA hG 8 i v (by decide) (by decide) rfl he
theorem aR_9 {ad dec : Nat → Nat} (hG : rG ad dec) {σ : zS} : mR ad dec σ (ad 9) = some (.inl (.boolean, 16, .inl (σ 9))) := mR_arr hG 9 (by decide) (by decide)
theorem sR_9 {ad dec : Nat → Nat} (hG : rG ad dec) {σ σ' : zS} {i : Nat} {v : Int32} (he : σ' = zs σ 9 i v) : zUp (mR ad dec σ) (ad 9) (.inl (.boolean, 16, .inl (upd (σ 9) i v))) = mR ad dec σ' := mR_astA hG 9 i v (by decide) (by decide) rfl he
theorem aR_10 {ad dec : Nat → Nat} (hG : rG ad dec) {σ : zS} : mR ad dec σ (ad 10) = some (.inl (.boolean, 256, .inl (σ 10))) := mR_arr hG 10 (by decide) (by decide)
theorem sR_10 {ad dec : Nat → Nat} (hG : rG ad dec) {σ σ' : zS} {i : Nat} {v : Int32} (he : σ' = zs σ 10 i v) : zUp (mR ad dec σ) (ad 10) (.inl (.boolean, 256, .inl (upd (σ 10) i v))) = mR ad dec σ' := mR_astA hG 10 i v (by decide) (by decide) rfl he
theorem pR_11 {ad dec : Nat → Nat} (hG : rG ad dec) {σ σ' : zS} {v : Int32} (he : σ' = zs σ 11 0 v) : zUp (mR ad dec σ) (ad 42) (.inr (8, (rFs ad σ).set 11 (.int v))) = mR ad dec σ' := mR_putA hG 11 v (by decide) rfl he
theorem aR_12 {ad dec : Nat → Nat} (hG : rG ad dec) {σ : zS} : mR ad dec σ (ad 12) = some (.inl (.int, 24, .inl (σ 12))) := mR_arr hG 12 (by decide) (by decide)
theorem sR_12 {ad dec : Nat → Nat} (hG : rG ad dec) {σ σ' : zS} {i : Nat} {v : Int32} (he : σ' = zs σ 12 i v) : zUp (mR ad dec σ) (ad 12) (.inl (.int, 24, .inl (upd (σ 12) i v))) = mR ad dec σ' := mR_astA hG 12 i v (by decide) (by decide) rfl he
theorem aR_13 {ad dec : Nat → Nat} (hG : rG ad dec) {σ : zS} : mR ad dec σ (ad 13) = some (.inl (.int, 24, .inl (σ 13))) := mR_arr hG 13 (by decide) (by decide)
theorem sR_13 {ad dec : Nat → Nat} (hG : rG ad dec) {σ σ' : zS} {i : Nat} {v : Int32} (he : σ' = zs σ 13 i v) : zUp (mR ad dec σ) (ad 13) (.inl (.int, 24, .inl (upd (σ 13) i v))) = mR ad dec σ' := mR_astA hG 13 i v (by decide) (by decide) rfl he
theorem aR_14 {ad dec : Nat → Nat} (hG : rG ad dec) {σ : zS} : mR ad dec σ (ad 14) = some (.inl (.int, 24, .inl (σ 14))) := mR_arr hG 14 (by decide) (by decide)
theorem sR_14 {ad dec : Nat → Nat} (hG : rG ad dec) {σ σ' : zS} {i : Nat} {v : Int32} (he : σ' = zs σ 14 i v) : zUp (mR ad dec σ) (ad 14) (.inl (.int, 24, .inl (upd (σ 14) i v))) = mR ad dec σ' := mR_astA hG 14 i v (by decide) (by decide) rfl he
theorem aR_15 {ad dec : Nat → Nat} (hG : rG ad dec) {σ : zS} : mR ad dec σ (ad 15) = some (.inl (.int, 24, .inl (σ 15))) := mR_arr hG 15 (by decide) (by decide)
theorem sR_15 {ad dec : Nat → Nat} (hG : rG ad dec) {σ σ' : zS} {i : Nat} {v : Int32} (he : σ' = zs σ 15 i v) : zUp (mR ad dec σ) (ad 15) (.inl (.int, 24, .inl (upd (σ 15) i v))) = mR ad dec σ' := mR_astA hG 15 i v (by decide) (by decide) rfl he
theorem aR_16 {ad dec : Nat → Nat} (hG : rG ad dec) {σ : zS} : mR ad dec σ (ad 16) = some (.inl (.int, 24, .inl (σ 16))) := mR_arr hG 16 (by decide) (by decide)
theorem sR_16 {ad dec : Nat → Nat} (hG : rG ad dec) {σ σ' : zS} {i : Nat} {v : Int32} (he : σ' = zs σ 16 i v) : zUp (mR ad dec σ) (ad 16) (.inl (.int, 24, .inl (upd (σ 16) i v))) = mR ad dec σ' := mR_astA hG 16 i v (by decide) (by decide) rfl he
theorem aR_17 {ad dec : Nat → Nat} (hG : rG ad dec) {σ : zS} : mR ad dec σ (ad 17) = some (.inl (.int, 24, .inl (σ 17))) := mR_arr hG 17 (by decide) (by decide)
theorem sR_17 {ad dec : Nat → Nat} (hG : rG ad dec) {σ σ' : zS} {i : Nat} {v : Int32} (he : σ' = zs σ 17 i v) : zUp (mR ad dec σ) (ad 17) (.inl (.int, 24, .inl (upd (σ 17) i v))) = mR ad dec σ' := mR_astA hG 17 i v (by decide) (by decide) rfl he
theorem aR_18 {ad dec : Nat → Nat} (hG : rG ad dec) {σ : zS} : mR ad dec σ (ad 18) = some (.inl (.int, 1536, .inl (σ 18))) := mR_arr hG 18 (by decide) (by decide)
theorem sR_18 {ad dec : Nat → Nat} (hG : rG ad dec) {σ σ' : zS} {i : Nat} {v : Int32} (he : σ' = zs σ 18 i v) : zUp (mR ad dec σ) (ad 18) (.inl (.int, 1536, .inl (upd (σ 18) i v))) = mR ad dec σ' := mR_astA hG 18 i v (by decide) (by decide) rfl he
theorem aR_19 {ad dec : Nat → Nat} (hG : rG ad dec) {σ : zS} : mR ad dec σ (ad 19) = some (.inl (.int, 24, .inl (σ 19))) := mR_arr hG 19 (by decide) (by decide)
theorem sR_19 {ad dec : Nat → Nat} (hG : rG ad dec) {σ σ' : zS} {i : Nat} {v : Int32} (he : σ' = zs σ 19 i v) : zUp (mR ad dec σ) (ad 19) (.inl (.int, 24, .inl (upd (σ 19) i v))) = mR ad dec σ' := mR_astA hG 19 i v (by decide) (by decide) rfl he
theorem aR_20 {ad dec : Nat → Nat} (hG : rG ad dec) {σ : zS} : mR ad dec σ (ad 20) = some (.inl (.int, 2016, .inl (σ 20))) := mR_arr hG 20 (by decide) (by decide)
theorem sR_20 {ad dec : Nat → Nat} (hG : rG ad dec) {σ σ' : zS} {i : Nat} {v : Int32} (he : σ' = zs σ 20 i v) : zUp (mR ad dec σ) (ad 20) (.inl (.int, 2016, .inl (upd (σ 20) i v))) = mR ad dec σ' := mR_astA hG 20 i v (by decide) (by decide) rfl he
theorem aR_21 {ad dec : Nat → Nat} (hG : rG ad dec) {σ : zS} : mR ad dec σ (ad 21) = some (.inl (.int, 2016, .inl (σ 21))) := mR_arr hG 21 (by decide) (by decide)
theorem sR_21 {ad dec : Nat → Nat} (hG : rG ad dec) {σ σ' : zS} {i : Nat} {v : Int32} (he : σ' = zs σ 21 i v) : zUp (mR ad dec σ) (ad 21) (.inl (.int, 2016, .inl (upd (σ 21) i v))) = mR ad dec σ' := mR_astA hG 21 i v (by decide) (by decide) rfl he
theorem aR_22 {ad dec : Nat → Nat} (hG : rG ad dec) {σ : zS} : mR ad dec σ (ad 22) = some (.inl (.int, 2016, .inl (σ 22))) := mR_arr hG 22 (by decide) (by decide)
theorem sR_22 {ad dec : Nat → Nat} (hG : rG ad dec) {σ σ' : zS} {i : Nat} {v : Int32} (he : σ' = zs σ 22 i v) : zUp (mR ad dec σ) (ad 22) (.inl (.int, 2016, .inl (upd (σ 22) i v))) = mR ad dec σ' := mR_astA hG 22 i v (by decide) (by decide) rfl he
theorem pR_23 {ad dec : Nat → Nat} (hG : rG ad dec) {σ σ' : zS} {v : Int32} (he : σ' = zs σ 23 0 v) : zUp (mR ad dec σ) (ad 42) (.inr (8, (rFs ad σ).set 23 (.int v))) = mR ad dec σ' := mR_putA hG 23 v (by decide) rfl he
theorem aR_24 {ad dec : Nat → Nat} (hG : rG ad dec) {σ : zS} : mR ad dec σ (ad 24) = some (.inl (.int, 200, .inl (σ 24))) := mR_arr hG 24 (by decide) (by decide)
theorem sR_24 {ad dec : Nat → Nat} (hG : rG ad dec) {σ σ' : zS} {i : Nat} {v : Int32} (he : σ' = zs σ 24 i v) : zUp (mR ad dec σ) (ad 24) (.inl (.int, 200, .inl (upd (σ 24) i v))) = mR ad dec σ' := mR_astA hG 24 i v (by decide) (by decide) rfl he
theorem aR_25 {ad dec : Nat → Nat} (hG : rG ad dec) {σ : zS} : mR ad dec σ (ad 25) = some (.inl (.int, 200, .inl (σ 25))) := mR_arr hG 25 (by decide) (by decide)
theorem sR_25 {ad dec : Nat → Nat} (hG : rG ad dec) {σ σ' : zS} {i : Nat} {v : Int32} (he : σ' = zs σ 25 i v) : zUp (mR ad dec σ) (ad 25) (.inl (.int, 200, .inl (upd (σ 25) i v))) = mR ad dec σ' := mR_astA hG 25 i v (by decide) (by decide) rfl he
theorem aR_26 {ad dec : Nat → Nat} (hG : rG ad dec) {σ : zS} : mR ad dec σ (ad 26) = some (.inl (.int, 200, .inl (σ 26))) := mR_arr hG 26 (by decide) (by decide)
theorem sR_26 {ad dec : Nat → Nat} (hG : rG ad dec) {σ σ' : zS} {i : Nat} {v : Int32} (he : σ' = zs σ 26 i v) : zUp (mR ad dec σ) (ad 26) (.inl (.int, 200, .inl (upd (σ 26) i v))) = mR ad dec σ' := mR_astA hG 26 i v (by decide) (by decide) rfl he
theorem aR_27 {ad dec : Nat → Nat} (hG : rG ad dec) {σ : zS} : mR ad dec σ (ad 27) = some (.inl (.int, 200, .inl (σ 27))) := mR_arr hG 27 (by decide) (by decide)
theorem sR_27 {ad dec : Nat → Nat} (hG : rG ad dec) {σ σ' : zS} {i : Nat} {v : Int32} (he : σ' = zs σ 27 i v) : zUp (mR ad dec σ) (ad 27) (.inl (.int, 200, .inl (upd (σ 27) i v))) = mR ad dec σ' := mR_astA hG 27 i v (by decide) (by decide) rfl he
theorem aR_28 {ad dec : Nat → Nat} (hG : rG ad dec) {σ : zS} : mR ad dec σ (ad 28) = some (.inl (.int, 200, .inl (σ 28))) := mR_arr hG 28 (by decide) (by decide)
theorem sR_28 {ad dec : Nat → Nat} (hG : rG ad dec) {σ σ' : zS} {i : Nat} {v : Int32} (he : σ' = zs σ 28 i v) : zUp (mR ad dec σ) (ad 28) (.inl (.int, 200, .inl (upd (σ 28) i v))) = mR ad dec σ' := mR_astA hG 28 i v (by decide) (by decide) rfl he
theorem aR_29 {ad dec : Nat → Nat} (hG : rG ad dec) {σ : zS} : mR ad dec σ (ad 29) = some (.inl (.int, 200, .inl (σ 29))) := mR_arr hG 29 (by decide) (by decide)
theorem sR_29 {ad dec : Nat → Nat} (hG : rG ad dec) {σ σ' : zS} {i : Nat} {v : Int32} (he : σ' = zs σ 29 i v) : zUp (mR ad dec σ) (ad 29) (.inl (.int, 200, .inl (upd (σ 29) i v))) = mR ad dec σ' := mR_astA hG 29 i v (by decide) (by decide) rfl he
theorem aR_30 {ad dec : Nat → Nat} (hG : rG ad dec) {σ : zS} : mR ad dec σ (ad 30) = some (.inl (.int, 200, .inl (σ 30))) := mR_arr hG 30 (by decide) (by decide)
theorem sR_30 {ad dec : Nat → Nat} (hG : rG ad dec) {σ σ' : zS} {i : Nat} {v : Int32} (he : σ' = zs σ 30 i v) : zUp (mR ad dec σ) (ad 30) (.inl (.int, 200, .inl (upd (σ 30) i v))) = mR ad dec σ' := mR_astA hG 30 i v (by decide) (by decide) rfl he
theorem aR_31 {ad dec : Nat → Nat} (hG : rG ad dec) {σ : zS} : mR ad dec σ (ad 31) = some (.inl (.boolean, 200, .inl (σ 31))) := mR_arr hG 31 (by decide) (by decide)
theorem sR_31 {ad dec : Nat → Nat} (hG : rG ad dec) {σ σ' : zS} {i : Nat} {v : Int32} (he : σ' = zs σ 31 i v) : zUp (mR ad dec σ) (ad 31) (.inl (.boolean, 200, .inl (upd (σ 31) i v))) = mR ad dec σ' := mR_astA hG 31 i v (by decide) (by decide) rfl he
theorem aR_32 {ad dec : Nat → Nat} (hG : rG ad dec) {σ : zS} : mR ad dec σ (ad 32) = some (.inl (.int, 8, .inl (σ 32))) := mR_arr hG 32 (by decide) (by decide)
theorem sR_32 {ad dec : Nat → Nat} (hG : rG ad dec) {σ σ' : zS} {i : Nat} {v : Int32} (he : σ' = zs σ 32 i v) : zUp (mR ad dec σ) (ad 32) (.inl (.int, 8, .inl (upd (σ 32) i v))) = mR ad dec σ' := mR_astA hG 32 i v (by decide) (by decide) rfl he
theorem aR_33 {ad dec : Nat → Nat} (hG : rG ad dec) {σ : zS} : mR ad dec σ (ad 33) = some (.inl (.int, 6, .inl (σ 33))) := mR_arr hG 33 (by decide) (by decide)
theorem sR_33 {ad dec : Nat → Nat} (hG : rG ad dec) {σ σ' : zS} {i : Nat} {v : Int32} (he : σ' = zs σ 33 i v) : zUp (mR ad dec σ) (ad 33) (.inl (.int, 6, .inl (upd (σ 33) i v))) = mR ad dec σ' := mR_astA hG 33 i v (by decide) (by decide) rfl he
theorem aR_34 {ad dec : Nat → Nat} (hG : rG ad dec) {σ : zS} : mR ad dec σ (ad 34) = some (.inl (.int, 6, .inl (σ 34))) := mR_arr hG 34 (by decide) (by decide)
theorem sR_34 {ad dec : Nat → Nat} (hG : rG ad dec) {σ σ' : zS} {i : Nat} {v : Int32} (he : σ' = zs σ 34 i v) : zUp (mR ad dec σ) (ad 34) (.inl (.int, 6, .inl (upd (σ 34) i v))) = mR ad dec σ' := mR_astA hG 34 i v (by decide) (by decide) rfl he
theorem aR_35 {ad dec : Nat → Nat} (hG : rG ad dec) {σ : zS} : mR ad dec σ (ad 35) = some (.inl (.int, 6, .inl (σ 35))) := mR_arr hG 35 (by decide) (by decide)
theorem sR_35 {ad dec : Nat → Nat} (hG : rG ad dec) {σ σ' : zS} {i : Nat} {v : Int32} (he : σ' = zs σ 35 i v) : zUp (mR ad dec σ) (ad 35) (.inl (.int, 6, .inl (upd (σ 35) i v))) = mR ad dec σ' := mR_astA hG 35 i v (by decide) (by decide) rfl he
theorem aR_36 {ad dec : Nat → Nat} (hG : rG ad dec) {σ : zS} : mR ad dec σ (ad 36) = some (.inl (.int, 6, .inl (σ 36))) := mR_arr hG 36 (by decide) (by decide)
theorem sR_36 {ad dec : Nat → Nat} (hG : rG ad dec) {σ σ' : zS} {i : Nat} {v : Int32} (he : σ' = zs σ 36 i v) : zUp (mR ad dec σ) (ad 36) (.inl (.int, 6, .inl (upd (σ 36) i v))) = mR ad dec σ' := mR_astA hG 36 i v (by decide) (by decide) rfl he
theorem pR_37 {ad dec : Nat → Nat} (hG : rG ad dec) {σ σ' : zS} {v : Int32} (he : σ' = zs σ 37 0 v) : zUp (mR ad dec σ) (ad 42) (.inr (8, (rFs ad σ).set 37 (.int v))) = mR ad dec σ' := mR_putA hG 37 v (by decide) rfl he
theorem pR_38 {ad dec : Nat → Nat} (hG : rG ad dec) {σ σ' : zS} {v : Int32} (he : σ' = zs σ 38 0 v) : zUp (mR ad dec σ) (ad 42) (.inr (8, (rFs ad σ).set 38 (.int v))) = mR ad dec σ' := mR_putA hG 38 v (by decide) rfl he
theorem pR_39 {ad dec : Nat → Nat} (hG : rG ad dec) {σ σ' : zS} {v : Int32} (he : σ' = zs σ 39 0 v) : zUp (mR ad dec σ) (ad 42) (.inr (8, (rFs ad σ).set 39 (.int v))) = mR ad dec σ' := mR_putA hG 39 v (by decide) rfl he
theorem pR_40 {ad dec : Nat → Nat} (hG : rG ad dec) {σ σ' : zS} {v : Int32} (he : σ' = zs σ 40 0 v) : zUp (mR ad dec σ) (ad 42) (.inr (8, (rFs ad σ).set 40 (.int v))) = mR ad dec σ' := mR_putA hG 40 v (by decide) rfl he
theorem aR_41 {ad dec : Nat → Nat} (hG : rG ad dec) {σ : zS} : mR ad dec σ (ad 41) = some (.inl (.int, 16, .inl (σ 41))) := mR_arr hG 41 (by decide) (by decide)
theorem sR_41 {ad dec : Nat → Nat} (hG : rG ad dec) {σ σ' : zS} {i : Nat} {v : Int32} (he : σ' = zs σ 41 i v) : zUp (mR ad dec σ) (ad 41) (.inl (.int, 16, .inl (upd (σ 41) i v))) = mR ad dec σ' := mR_astA hG 41 i v (by decide) (by decide) rfl he
