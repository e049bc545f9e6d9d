/-! A program logic over the kit's rows: one memory (a function from addresses to cells), one judgement Z, a rule an instruction. -/
/-- the tables' words that a call hands on -/
def zT : List Cond := lw_tbl.filter goodWord
theorem zT_good : GoodIn zT zT := fun w h => ⟨h, good_of_word (List.mem_filter.mp h).2⟩
theorem zT_in {w : Cond} (i : Nat) (h : lw_tbl[i]? = some w) (hg : goodWord w = true) : w ∈ zT := List.mem_filter.mpr ⟨List.mem_of_getElem? h, hg⟩
abbrev zE : Type := (FieldType × vp_A) ⊕ (Nat × List Value)
abbrev zM : Type := Nat → Option zE
def zAt (D : va_G) (U : State) (H : Heap) (a : Nat) (e : zE) : Prop := match e with
  | .inl x => ∃ cA : ClassId, ArrOfT U cA x.1 ∧ va_RA U cA x.1 ∧ H[a]? = some (vp_cell cA x.2)
  | .inr o => ∃ r : vw_C, vwCl[o.1]? = some r ∧ t_OB a (D.1 o.1) r.2.2 (D.2 o.1) H (vp_V o.2)
def zP (D : va_G) (U : State) (M : zM) (H : Heap) : Prop := ∀ (a : Nat) (e : zE), M a = some e → zAt D U H a e
def zUp (M : zM) (a : Nat) (e : zE) : zM := fun b => if b = a then some e else M b
def zA (M : zM) (sz : Nat) : Nat → Prop := fun q => M q ≠ none ∨ sz ≤ q
def zK (D : va_G) (U : State) : Prop := va_K D vwCl [] U
theorem zAt.moved {D : va_G} {u U : State} {H : Heap} {a : Nat} {e : zE} (hvm : u.vm.Alike U.vm) (h : zAt D u H a e) : zAt D U H a e := by
  cases e with
  | inl x =>
    obtain ⟨cA, h1, h2, h3⟩ := h
    exact ⟨cA, arrOfT_moved hvm h1, h2.moved hvm, h3⟩
  | inr o => exact h
theorem zAt.kept {D : va_G} {U : State} {H H1 : Heap} {a : Nat} {e : zE} (h : zAt D U H a e) (hq : H1[a]? = H[a]?) : zAt D U H1 a e := by
  cases e with
  | inl x =>
    obtain ⟨cA, h1, h2, h3⟩ := h
    exact ⟨cA, h1, h2, hq.trans h3⟩
  | inr o =>
    obtain ⟨r, h1, h2⟩ := h
    exact ⟨r, h1, h2.kept hq⟩
theorem zAt.lt {D : va_G} {U : State} {H : Heap} {a : Nat} {e : zE} (h : zAt D U H a e) : a < H.size := by
  cases e with
  | inl x =>
    obtain ⟨cA, h1, h2, h3⟩ := h
    exact (Array.getElem?_eq_some_iff.mp h3).1
  | inr o =>
    obtain ⟨r, h1, cell, h2, -⟩ := h
    exact (Array.getElem?_eq_some_iff.mp h2).1
theorem zP.moved {D : va_G} {u U : State} {H : Heap} {M : zM} (hvm : u.vm.Alike U.vm) (h : zP D u M H) : zP D U M H := fun a e he => (h a e he).moved hvm
theorem zP.set {D : va_G} {U : State} {H H1 : Heap} {M : zM} {a : Nat} {e : zE} (h : zP D U M H) (h1 : zAt D U H1 a e) (hq : ∀ q : Nat, q ≠ a → H1[q]? = H[q]?) : zP D U (zUp M a e) H1 := by
  intro b e' hb
  unfold zUp at hb
  by_cases hba : b = a
  · rw [if_pos hba] at hb
    cases hb
    rw [hba]
    exact h1
  · rw [if_neg hba] at hb
    exact (h b e' hb).kept (hq b hba)
theorem zUp_self {M : zM} {a : Nat} {e : zE} : zUp M a e a = some e := if_pos rfl
theorem zUp_ne {M : zM} {a b : Nat} {e : zE} (h : b ≠ a) : zUp M a e b = M b := if_neg h
theorem zUp_dom {M : zM} {A : Nat → Prop} {a : Nat} {e : zE} (h : ∀ q, M q ≠ none → A q) (ha : A a) : ∀ q, zUp M a e q ≠ none → A q := by
  intro q hq
  by_cases hqa : q = a
  · rw [hqa]; exact ha
  · rw [zUp_ne hqa] at hq
    exact h q hq
/-! the locals -/
def zAs : Nat → List (Option Value) → List (Nat × Value)
  | _, [] => []
  | i, none :: t => zAs (i + 1) t
  | i, some v :: t => (i, v) :: zAs (i + 1) t
theorem zAs_mem : ∀ (vs : List (Option Value)) (n i : Nat) (v : Value), vs[i]? = some (some v) → (n + i, v) ∈ zAs n vs
  | [], _, _, _, h => by simp at h
  | o :: t, n, 0, v, h => by
    simp at h
    subst h
    exact List.mem_cons_self
  | o :: t, n, i + 1, v, h => by
    have h1 : t[i]? = some (some v) := by simpa using h
    have h2 := zAs_mem t (n + 1) i v h1
    rw [show n + 1 + i = n + (i + 1) by omega] at h2
    cases o with
    | none => exact h2
    | some w => exact List.mem_cons_of_mem _ h2
theorem zAs_of : ∀ (vs : List (Option Value)) (n : Nat) (q : Nat × Value), q ∈ zAs n vs → ∃ i, q.1 = n + i ∧ vs[i]? = some (some q.2)
  | [], _, _, h => by cases h
  | none :: t, n, q, h => by
    obtain ⟨i, h1, h2⟩ := zAs_of t (n + 1) q h
    exact ⟨i + 1, by omega, by simpa using h2⟩
  | some v :: t, n, q, h => by
    rcases List.mem_cons.mp h with rfl | h
    · exact ⟨0, by simp, by simp⟩
    · obtain ⟨i, h1, h2⟩ := zAs_of t (n + 1) q h
      exact ⟨i + 1, by omega, by simpa using h2⟩
def zLs (ls : Array Slot) (nL : Nat) (vs : List (Option Value)) : Prop := lv_has ls nL (zAs 0 vs) ∧ ∀ (i : Nat) (v : Value), vs[i]? = some (some v) → v.category = 1
theorem zLs.at {ls : Array Slot} {nL : Nat} {vs : List (Option Value)} (h : zLs ls nL vs) {i : Nat} {v : Value} (hi : vs[i]? = some (some v)) : ls[i]? = some (.val v) := by
  have := h.1.2.2 (i, v) (by have := zAs_mem vs 0 i v hi; rwa [Nat.zero_add] at this)
  exact this
theorem zLs.put {ls' ls : Array Slot} {nL : Nat} {vs vs' : List (Option Value)} {i : Nat} {v : Value} (h0 : zLs ls nL vs) (hc : v.category = 1) (hv : vs.set i (some v) = vs') (h : lv_has ls' nL ((i, v) :: (zAs 0 vs).filter (fun q => !(q.1 == i) && !(q.1 + 1 == i && q.2.category == 2)))) : zLs ls' nL vs' := by
  subst hv
  refine ⟨⟨h.1, h.2.1, fun q hq => ?_⟩, fun j w hj => ?_⟩
  · obtain ⟨j, h1, h2⟩ := zAs_of _ _ q hq
    rw [Nat.zero_add] at h1
    by_cases hji : j = i
    · subst hji
      rw [List.getElem?_set_self'] at h2
      cases hg : vs[j]? with
      | none => rw [hg] at h2; simp at h2
      | some o =>
        rw [hg] at h2
        simp at h2
        have : q = (j, v) := by rw [← h1, h2]
        rw [this]
        exact h.2.2 (j, v) List.mem_cons_self
    · rw [List.getElem?_set_ne (Ne.symm hji)] at h2
      refine h.2.2 q (List.mem_cons_of_mem _ (List.mem_filter.mpr ⟨?_, ?_⟩))
      · have := zAs_mem vs 0 j q.2 h2
        rw [Nat.zero_add, ← h1] at this
        exact this
      · have hc2 := h0.2 j q.2 h2
        have hne : ¬ q.1 = i := by rw [h1]; exact hji
        simp [hne, hc2]
  · by_cases hji : j = i
    · subst hji
      rw [List.getElem?_set_self'] at hj
      cases hg : vs[j]? with
      | none => rw [hg] at hj; simp at hj
      | some o =>
        rw [hg] at hj
        simp at hj
        rw [← hj]
        exact hc
    · rw [List.getElem?_set_ne (Ne.symm hji)] at hj
      exact h0.2 j w hj
theorem zLs.sub {ls : Array Slot} {nL : Nat} {vs vs' : List (Option Value)} (h : zLs ls nL vs) (hv : ∀ (i : Nat) (v : Value), vs'[i]? = some (some v) → vs[i]? = some (some v)) : zLs ls nL vs' :=
  ⟨⟨h.1.1, h.1.2.1, fun q hq => by
    obtain ⟨j, h1, h2⟩ := zAs_of _ _ q hq
    rw [Nat.zero_add] at h1
    rw [h1]
    exact h.at (hv j q.2 h2)⟩, fun i v hi => h.2 i v (hv i v hi)⟩
/-! what lies outside the memory and is only read: static arrays, the String constant, words that no call keeps by itself -/
def zS0 (j : Nat) : Int32 := ([80, 4, 2, 6] : List Int32).getD j 0
def zS1 (j : Nat) : Int32 := ([1, 1, 0, 0] : List Int32).getD j 0
def zS2 (j : Nat) : Int32 := ([300, 99, 99, 99] : List Int32).getD j 0
def zNest : List Cond := [.methodLinkNest RX7 9 yX5_init RX7, .methodLinkNest RX7 18 yX0_init RX7, .methodLinkNest RX7 37 yX2_init RX7, .methodLinkNest RX7 44 yX4_init RX7]
def zO (D : va_G) (A : Nat → Prop) (U : State) (H : Heap) : Prop :=
  (va_Z RX0 "AT_FIRST" "[I" (.ref (D.2 1000 0)) A U H ∧ va_T .int (D.2 1000 0) 4 (fun j => .int (zS0 j)) A U H) ∧
  (va_Z RX0 "LEAST" "[I" (.ref (D.2 1000 1)) A U H ∧ va_T .int (D.2 1000 1) 4 (fun j => .int (zS1 j)) A U H) ∧
  (va_Z RX0 "GREATEST" "[I" (.ref (D.2 1000 2)) A U H ∧ va_T .int (D.2 1000 2) 4 (fun j => .int (zS2 j)) A U H) ∧
  (vk_R RX0 62 "pdkh" (D.2 1000 3) U ∧ vk_S 1 [4] [[112, 100, 107, 104]] (fun _ => D.2 1000 3) (fun _ => D.2 1000 4) A U H) ∧
  va_Z RJ0 "COMPACT_STRINGS" "Z" (.int 1) A U H ∧ va_Zq RJ3 "SIOOBE_FORMATTER" "Ljava/util/function/BiFunction;" A U H ∧
  (∀ w ∈ zNest, va_Nw w U) ∧ va_AO "GiftRing$Man" U ∧ va_AO "GiftRing$Treasure" U ∧ va_AO "GiftRing$Debt" U ∧
  va_T .int (D.2 1000 5) (D.2 1002 0) (fun j => .int (nI (D.2 1001 j))) A U H
theorem zO.warm {D : va_G} {A : Nat → Prop} {s U : State} {H : Heap} (hW : s.WarmedH U.vm) (h : zO D A s H) : zO D A U H := by
  obtain ⟨⟨a1, a2⟩, ⟨b1, b2⟩, ⟨c1, c2⟩, ⟨d1, d2⟩, e1, f1, g1, h1, h2, h3, i1⟩ := h
  have al := hW.alike
  refine ⟨⟨a1.moved al, a2.moved al⟩, ⟨b1.moved al, b2.moved al⟩, ⟨c1.moved al, c2.moved al⟩, ⟨d1.warm hW, d2.moved al⟩, e1.moved al, f1.moved al, fun w hw => ?_, h1.moved al, h2.moved al, h3.moved al, i1.moved al⟩
  have := g1 w hw
  simp only [zNest, List.mem_cons, List.not_mem_nil, or_false] at hw
  rcases hw with rfl | rfl | rfl | rfl <;> exact va_Nw.warmM hW this
theorem zO.same {D : va_G} {A : Nat → Prop} {s U : State} {H : Heap} (hv : U.vm = s.vm) (h : zO D A s H) : zO D A U H := by
  obtain ⟨⟨a1, a2⟩, ⟨b1, b2⟩, ⟨c1, c2⟩, ⟨d1, d2⟩, e1, f1, g1, h1, h2, h3, i1⟩ := h
  have al : s.vm.Alike U.vm := by rw [hv]; exact Vm.Alike.refl s.vm
  refine ⟨⟨a1.moved al, a2.moved al⟩, ⟨b1.moved al, b2.moved al⟩, ⟨c1.moved al, c2.moved al⟩, ⟨d1.same hv, d2.moved al⟩, e1.moved al, f1.moved al, fun w hw => ?_, h1.moved al, h2.moved al, h3.moved al, i1.moved al⟩
  have := g1 w hw
  simp only [zNest, List.mem_cons, List.not_mem_nil, or_false] at hw
  rcases hw with rfl | rfl | rfl | rfl <;> exact va_Nw.same rfl hv.symm this
theorem zO.kept {D : va_G} {A : Nat → Prop} {s : State} {H H1 : Heap} (h : zO D A s H) (hq : ∀ a : Nat, a < H.size → ¬ A a → H1[a]? = H[a]?) : zO D A s H1 := by
  obtain ⟨⟨a1, a2⟩, ⟨b1, b2⟩, ⟨c1, c2⟩, ⟨d1, d2⟩, e1, f1, g1, h1, h2, h3, i1⟩ := h
  exact ⟨⟨a1.kept hq, a2.kept hq⟩, ⟨b1.kept hq, b2.kept hq⟩, ⟨c1.kept hq, c2.kept hq⟩, ⟨d1, d2.kept hq⟩, e1.kept hq, f1.kept hq, g1, h1, h2, h3, i1.kept hq⟩
theorem zO.narrow {D : va_G} {A B : Nat → Prop} {s : State} {H : Heap} (h : zO D A s H) (hB : ∀ q, B q → A q) : zO D B s H := by
  obtain ⟨⟨a1, a2⟩, ⟨b1, b2⟩, ⟨c1, c2⟩, ⟨d1, d2⟩, e1, f1, g1, h1, h2, h3, i1⟩ := h
  exact ⟨⟨a1.narrow hB, a2.narrow hB⟩, ⟨b1.narrow hB, b2.narrow hB⟩, ⟨c1.narrow hB, c2.narrow hB⟩, ⟨d1, d2.narrow hB⟩, e1.narrow hB, f1.narrow hB, g1, h1, h2, h3, i1.narrow hB⟩
/-! the judgement -/
def zC (y : MethodName) (cc : ByteArray) (nL : Nat) (ret : Option FieldType) (D : va_G) (M0 : zM) (p : Program) (s : State) (m : MethodId) (args : Array Value) (meth : Method) (c : Code) : Prop :=
  p.tables.exec = Jvm.exec ∧ c.code = cc ∧ c.maxLocals = nL ∧ meth.sig.returnType = ret ∧ s.vm.findClass y.cls = some m.cls ∧ (∀ w ∈ zT, w.before args s = true) ∧ zK D s ∧ meth.locks = false ∧ (y.name = "<init>" → meth.name = y.name) ∧ zO D (zA M0 s.heap.size) s s.heap
def zQ (D : va_G) (M0 : zM) (Q : Option Value → zM → Prop) : Array Value → State → Outcome → State → Prop := fun _ st o t =>
  (∃ (v : Option Value) (M : zM), o = .returned v ∧ Q v M ∧ zP D t M t.heap ∧ ∀ q, M q ≠ none → zA M0 st.heap.size q) ∧ va_F (zA M0 st.heap.size) st t
def Z (l : Launch) (y : MethodName) (cc : ByteArray) (nL : Nat) (ret : Option FieldType) (R : Room) (mc ms : Nat) (D : va_G) (M0 : zM) (Q : Option Value → zM → Prop) (k n pc : Nat) (vs : List (Option Value)) (st : List Value) (M : zM) : Prop :=
  ∀ (p : Program) (e : Env) (s : State) (m : MethodId) (args : Array Value) (below : List Frame) (meth : Method) (c : Code), zC y cc nL ret D M0 p s m args meth c →
    ∀ (H : Heap) (locs : List Loc) (ls : Array Slot), zLs ls nL vs → zP D s M H → (∀ q, M q ≠ none → zA M0 s.heap.size q) → va_S (zA M0 s.heap.size) s.heap H locs →
      W p l e R s m args below meth c H locs k n (MQ below (zQ D M0 Q) args s mc ms (zA M0 s.heap.size)) (F0 m pc ls st)
def zMet (l : Launch) (y : MethodName) (cc : ByteArray) (nL : Nat) (ret : Option FieldType) (rm : Room) (av : List Value) (M : zM) (Q : Option Value → zM → Prop) : Prop :=
  ∀ (D : va_G) (sz : Nat), Met l y (.code y cc nL ret :: zT) rm (va_Pc av (fun U => U.heap.size = sz ∧ zP D U M U.heap ∧ zK D U ∧ zO D (zA M sz) U U.heap)) (zQ D M Q) rm.cells rm.slots (zA M sz)
section ZR
variable {l : Launch} {y : MethodName} {cc : ByteArray} {nL : Nat} {ret : Option FieldType} {R : Room} {mc ms : Nat} {D : va_G} {M0 : zM} {Q : Option Value → zM → Prop} {k n pc pc' : Nat} {vs vs' : List (Option Value)} {st : List Value} {M : zM}
theorem zMet.ofZ {rm : Room} {av : List Value} (hy : plainName y.cls = true) (hvs : lv_args 0 av = zAs 0 vs) (hcat : ∀ (i : Nat) (v : Value), vs[i]? = some (some v) → v.category = 1) (hlen : (lg_sl av).length ≤ nL)
    (h : ∀ D : va_G, Z l y cc nL ret rm rm.cells rm.slots D M Q 0 0 0 vs [] M) : zMet l y cc nL ret rm av M Q := by
  intro D sz
  refine Met.ofW (cc := cc) (maxL := nL) (ret := ret) hy rfl ?_
  intro p e s m args below meth c s₁ B hml hv
  obtain ⟨rfl, hsz, hP, hK, hO⟩ := hv
  subst hsz
  have hts : ∀ w ∈ (Cond.code y cc nL ret :: zT), w.before av.toArray s = true := atoms_spec (ws := .code y cc nL ret :: zT) B.pre
  have hown : s.vm.findClass y.cls = some m.cls := findClass_of_methodNamed B.named
  have hin : meth.name = y.name := (name_of_methodNamed B.named B.method).1
  have hl := lv_entry av (n := nL) hlen
  rw [lg_entry_eq]
  generalize (lg_sl av ++ List.replicate (nL - (lg_sl av).length) Slot.unset).toArray = ls at hl ⊢
  rw [hvs] at hl
  exact h D p e s m _ below meth c ⟨B.exec, B.bytes, hml, B.returns, hown, fun w hw => hts w (List.mem_cons_of_mem _ hw), hK, B.notSynchronized, fun _ => hin, hO⟩ s.heap [] ls ⟨hl, hcat⟩ hP (fun q hq => Or.inl hq) va_S.rf
theorem Z_sub (hv : ∀ (i : Nat) (v : Value), vs'[i]? = some (some v) → vs[i]? = some (some v)) (kk : Z l y cc nL ret R mc ms D M0 Q k n pc vs' st M) : Z l y cc nL ret R mc ms D M0 Q k n pc vs st M :=
  fun p e s m args below meth c C H locs ls hls hP hA hS => kk p e s m args below meth c C H locs ls (hls.sub hv) hP hA hS
theorem Z_widen {k' n' : Nat} (h1 : k ≤ k') (h2 : n ≤ n') (kk : Z l y cc nL ret R mc ms D M0 Q k' n' pc vs st M) : Z l y cc nL ret R mc ms D M0 Q k n pc vs st M :=
  fun p e s m args below meth c C H locs ls hls hP hA hS => W.widen h1 h2 (kk p e s m args below meth c C H locs ls hls hP hA hS)
theorem Z_mem {M' : zM} (e : M = M') (kk : Z l y cc nL ret R mc ms D M0 Q k n pc vs st M') : Z l y cc nL ret R mc ms D M0 Q k n pc vs st M := e ▸ kk
theorem Z_stk {st' : List Value} (e : st = st') (kk : Z l y cc nL ret R mc ms D M0 Q k n pc vs st' M) : Z l y cc nL ret R mc ms D M0 Q k n pc vs st M := e ▸ kk
theorem Z_iconst {z : Int} {v : Int32} (hd : decode cc pc = .ok (.iconst z, 1)) (hv : Int32.ofInt z = v) (hp : pc + 1 = pc') (kk : Z l y cc nL ret R mc ms D M0 Q k n pc' vs (.int v :: st) M) : Z l y cc nL ret R mc ms D M0 Q k n pc vs st M := by
  subst hp
  exact fun p e s m args below meth c C H locs ls hls hP hA hS => lv_iconst C.1 C.2.1 hd hv (kk p e s m args below meth c C H locs ls hls hP hA hS)
theorem Z_bipush {z : Int} {v : Int32} (hd : decode cc pc = .ok (.bipush z, 2)) (hv : (Int8.ofInt z).toInt32 = v) (hp : pc + 2 = pc') (kk : Z l y cc nL ret R mc ms D M0 Q k n pc' vs (.int v :: st) M) : Z l y cc nL ret R mc ms D M0 Q k n pc vs st M := by
  subst hp
  exact fun p e s m args below meth c C H locs ls hls hP hA hS => lv_bipush C.1 C.2.1 hd hv (kk p e s m args below meth c C H locs ls hls hP hA hS)
theorem Z_sipush {z : Int} {v : Int32} (hd : decode cc pc = .ok (.sipush z, 3)) (hv : (Int16.ofInt z).toInt32 = v) (hp : pc + 3 = pc') (kk : Z l y cc nL ret R mc ms D M0 Q k n pc' vs (.int v :: st) M) : Z l y cc nL ret R mc ms D M0 Q k n pc vs st M := by
  subst hp
  exact fun p e s m args below meth c C H locs ls hls hP hA hS => lv_sipush C.1 C.2.1 hd hv (kk p e s m args below meth c C H locs ls hls hP hA hS)
theorem Z_iload_n {f : Fin 4} {i : Nat} {x : Int32} (hd : decode cc pc = .ok (.iload_n f, 1)) (hi : (f : Nat) = i) (hl : vs[i]? = some (some (.int x))) (hp : pc + 1 = pc') (kk : Z l y cc nL ret R mc ms D M0 Q k n pc' vs (.int x :: st) M) : Z l y cc nL ret R mc ms D M0 Q k n pc vs st M := by
  subst hp
  exact fun p e s m args below meth c C H locs ls hls hP hA hS => lv_iload_n C.1 C.2.1 hd hi (hls.at hl) (kk p e s m args below meth c C H locs ls hls hP hA hS)
theorem Z_iload {i : Nat} {x : Int32} (hd : decode cc pc = .ok (.iload i, 2)) (hl : vs[i]? = some (some (.int x))) (hp : pc + 2 = pc') (kk : Z l y cc nL ret R mc ms D M0 Q k n pc' vs (.int x :: st) M) : Z l y cc nL ret R mc ms D M0 Q k n pc vs st M := by
  subst hp
  exact fun p e s m args below meth c C H locs ls hls hP hA hS => lv_iload C.1 C.2.1 hd (hls.at hl) (kk p e s m args below meth c C H locs ls hls hP hA hS)
theorem Z_aload_n {f : Fin 4} {i : Nat} {x : Nat} (hd : decode cc pc = .ok (.aload_n f, 1)) (hi : (f : Nat) = i) (hl : vs[i]? = some (some (.ref x))) (hp : pc + 1 = pc') (kk : Z l y cc nL ret R mc ms D M0 Q k n pc' vs (.ref x :: st) M) : Z l y cc nL ret R mc ms D M0 Q k n pc vs st M := by
  subst hp
  exact fun p e s m args below meth c C H locs ls hls hP hA hS => lv_aload_n C.1 C.2.1 hd hi (hls.at hl) (kk p e s m args below meth c C H locs ls hls hP hA hS)
theorem Z_aload {i : Nat} {x : Nat} (hd : decode cc pc = .ok (.aload i, 2)) (hl : vs[i]? = some (some (.ref x))) (hp : pc + 2 = pc') (kk : Z l y cc nL ret R mc ms D M0 Q k n pc' vs (.ref x :: st) M) : Z l y cc nL ret R mc ms D M0 Q k n pc vs st M := by
  subst hp
  exact fun p e s m args below meth c C H locs ls hls hP hA hS => lv_aload C.1 C.2.1 hd (hls.at hl) (kk p e s m args below meth c C H locs ls hls hP hA hS)
theorem Z_istore_n {f : Fin 4} {i : Nat} {x : Int32} (hd : decode cc pc = .ok (.istore_n f, 1)) (hi : (f : Nat) = i) (hn : i < nL) (hv : vs.set i (some (.int x)) = vs') (hp : pc + 1 = pc') (kk : Z l y cc nL ret R mc ms D M0 Q k n pc' vs' st M) : Z l y cc nL ret R mc ms D M0 Q k n pc vs (.int x :: st) M := by
  subst hp
  exact fun p e s m args below meth c C H locs ls hls hP hA hS => lv_istore_n C.1 C.2.1 hd hi hls.1 hn rfl (fun ls' hl' => kk p e s m args below meth c C H locs ls' (hls.put rfl hv hl') hP hA hS)
theorem Z_istore {i : Nat} {x : Int32} (hd : decode cc pc = .ok (.istore i, 2)) (hn : i < nL) (hv : vs.set i (some (.int x)) = vs') (hp : pc + 2 = pc') (kk : Z l y cc nL ret R mc ms D M0 Q k n pc' vs' st M) : Z l y cc nL ret R mc ms D M0 Q k n pc vs (.int x :: st) M := by
  subst hp
  exact fun p e s m args below meth c C H locs ls hls hP hA hS => lv_istore C.1 C.2.1 hd hls.1 hn rfl (fun ls' hl' => kk p e s m args below meth c C H locs ls' (hls.put rfl hv hl') hP hA hS)
theorem Z_astore_n {f : Fin 4} {i : Nat} {x : Nat} (hd : decode cc pc = .ok (.astore_n f, 1)) (hi : (f : Nat) = i) (hn : i < nL) (hv : vs.set i (some (.ref x)) = vs') (hp : pc + 1 = pc') (kk : Z l y cc nL ret R mc ms D M0 Q k n pc' vs' st M) : Z l y cc nL ret R mc ms D M0 Q k n pc vs (.ref x :: st) M := by
  subst hp
  exact fun p e s m args below meth c C H locs ls hls hP hA hS => lv_astore_n C.1 C.2.1 hd hi hls.1 hn rfl (fun ls' hl' => kk p e s m args below meth c C H locs ls' (hls.put rfl hv hl') hP hA hS)
theorem Z_astore {i : Nat} {x : Nat} (hd : decode cc pc = .ok (.astore i, 2)) (hn : i < nL) (hv : vs.set i (some (.ref x)) = vs') (hp : pc + 2 = pc') (kk : Z l y cc nL ret R mc ms D M0 Q k n pc' vs' st M) : Z l y cc nL ret R mc ms D M0 Q k n pc vs (.ref x :: st) M := by
  subst hp
  exact fun p e s m args below meth c C H locs ls hls hP hA hS => lv_astore C.1 C.2.1 hd hls.1 hn rfl (fun ls' hl' => kk p e s m args below meth c C H locs ls' (hls.put rfl hv hl') hP hA hS)
theorem Z_iinc {i : Nat} {z : Int} {x v : Int32} (hd : decode cc pc = .ok (.iinc i z, 3)) (hl : vs[i]? = some (some (.int x))) (he : x + Int32.ofInt z = v) (hn : i < nL) (hv : vs.set i (some (.int v)) = vs') (hp : pc + 3 = pc') (kk : Z l y cc nL ret R mc ms D M0 Q k n pc' vs' st M) : Z l y cc nL ret R mc ms D M0 Q k n pc vs st M := by
  subst hp
  intro p e s m args below meth c C H locs ls hls hP hA hS
  obtain ⟨j, hj⟩ := List.getElem?_of_mem (show (i, Value.int x) ∈ zAs 0 vs by have := zAs_mem vs 0 i _ hl; rwa [Nat.zero_add] at this)
  exact lv_iinc C.1 C.2.1 hd hls.1 hj he hn rfl (fun ls' hl' => kk p e s m args below meth c C H locs ls' (hls.put rfl hv hl') hP hA hS)
theorem Z_iadd {a b : Int32} (hd : decode cc pc = .ok (.iadd, 1)) (hp : pc + 1 = pc') (kk : Z l y cc nL ret R mc ms D M0 Q k n pc' vs (.int (a + b) :: st) M) : Z l y cc nL ret R mc ms D M0 Q k n pc vs (.int b :: .int a :: st) M := by
  subst hp
  exact fun p e s m args below meth c C H locs ls hls hP hA hS => lv_iadd C.1 C.2.1 hd (kk p e s m args below meth c C H locs ls hls hP hA hS)
theorem Z_isub {a b : Int32} (hd : decode cc pc = .ok (.isub, 1)) (hp : pc + 1 = pc') (kk : Z l y cc nL ret R mc ms D M0 Q k n pc' vs (.int (a - b) :: st) M) : Z l y cc nL ret R mc ms D M0 Q k n pc vs (.int b :: .int a :: st) M := by
  subst hp
  exact fun p e s m args below meth c C H locs ls hls hP hA hS => lv_isub C.1 C.2.1 hd (kk p e s m args below meth c C H locs ls hls hP hA hS)
theorem Z_imul {a b : Int32} (hd : decode cc pc = .ok (.imul, 1)) (hp : pc + 1 = pc') (kk : Z l y cc nL ret R mc ms D M0 Q k n pc' vs (.int (a * b) :: st) M) : Z l y cc nL ret R mc ms D M0 Q k n pc vs (.int b :: .int a :: st) M := by
  subst hp
  exact fun p e s m args below meth c C H locs ls hls hP hA hS => lv_imul C.1 C.2.1 hd (kk p e s m args below meth c C H locs ls hls hP hA hS)
theorem Z_iand {a b : Int32} (hd : decode cc pc = .ok (.iand, 1)) (hp : pc + 1 = pc') (kk : Z l y cc nL ret R mc ms D M0 Q k n pc' vs (.int (a &&& b) :: st) M) : Z l y cc nL ret R mc ms D M0 Q k n pc vs (.int b :: .int a :: st) M := by
  subst hp
  exact fun p e s m args below meth c C H locs ls hls hP hA hS => lv_iand C.1 C.2.1 hd (kk p e s m args below meth c C H locs ls hls hP hA hS)
theorem Z_ior {a b : Int32} (hd : decode cc pc = .ok (.ior, 1)) (hp : pc + 1 = pc') (kk : Z l y cc nL ret R mc ms D M0 Q k n pc' vs (.int (a ||| b) :: st) M) : Z l y cc nL ret R mc ms D M0 Q k n pc vs (.int b :: .int a :: st) M := by
  subst hp
  exact fun p e s m args below meth c C H locs ls hls hP hA hS => lv_ior C.1 C.2.1 hd (kk p e s m args below meth c C H locs ls hls hP hA hS)
theorem Z_ixor {a b : Int32} (hd : decode cc pc = .ok (.ixor, 1)) (hp : pc + 1 = pc') (kk : Z l y cc nL ret R mc ms D M0 Q k n pc' vs (.int (a ^^^ b) :: st) M) : Z l y cc nL ret R mc ms D M0 Q k n pc vs (.int b :: .int a :: st) M := by
  subst hp
  exact fun p e s m args below meth c C H locs ls hls hP hA hS => lv_ixor C.1 C.2.1 hd (kk p e s m args below meth c C H locs ls hls hP hA hS)
end ZR
