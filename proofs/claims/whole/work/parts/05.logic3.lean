section ZM
variable {l : Launch} {y : MethodName} {cc : ByteArray} {nL : Nat} {ret : Option FieldType} {R : Room} {mc ms : Nat} {D : va_G} {M0 : zM} {Q : Option Value → zM → Prop} {k n pc pc' : Nat} {vs vs' : List (Option Value)} {st : List Value} {M : zM}
theorem Z_get {C : String} {T : u_T} {N ci idx a : Nat} {fs : List Value} {v : Value} (kf : Nat) (hin : ∀ w ∈ u_ws C T N, w ∈ zT) (hc : vwCl[ci]? = some (C, T, N)) (hk : kf < N) (hlk : Cond.fieldLink y.cls idx (T kf).1 (T kf).2.1 (T kf).2.2.1 ∈ zT) (hM : M a = some (.inr (ci, fs))) (hv : fs[kf]? = some v) (hd : decode cc pc = .ok (.getfield idx, 3)) (hp : pc + 3 = pc') (kk : Z l y cc nL ret R mc ms D M0 Q k n pc' vs (v :: st) M) : Z l y cc nL ret R mc ms D M0 Q k n pc vs (.ref a :: st) M := by
  subst hp
  intro p e s m args below meth c C H locs ls hls hP hA hS
  have h1 : va_P D vwCl [(a, .inr (ci, fs))] H := fun j q hj => by
    have hz : j < 1 := (List.getElem?_eq_some_iff.mp hj).1
    rw [show j = 0 by omega] at hj
    cases hj
    exact hP a _ hM
  exact va_get (D := D) (cl := vwCl) (tys := []) (ws := [(a, .inr (ci, fs))]) C.1 C.2.1 C.2.2.2.2.2.1 hin C.2.2.2.2.1 C.2.2.2.2.2.2.1 h1 0 rfl hc kf hk (C.2.2.2.2.2.1 _ hlk) (fun _ h9 => h9) hv hd (kk p e s m args below meth c C H locs ls hls hP hA hS)
theorem Z_put {C : String} {T : u_T} {N ci idx a : Nat} {fs fs' : List Value} {v : Value} {ty : FieldType} {ty0 : Nat → FieldType} (kf : Nat) (hin : ∀ w ∈ u_ws C T N, w ∈ zT) (hty : ∀ k, k < N → parseFieldDescriptor (T k).2.2.1 = some (ty0 k)) (hnm : ∀ a, a < N → ∀ b, b < N → a ≠ b → (T a).2.1 ≠ (T b).2.1) (hc : vwCl[ci]? = some (C, T, N)) (hk : kf < N) (hlk : Cond.fieldLink y.cls idx (T kf).1 (T kf).2.1 (T kf).2.2.1 ∈ zT) (hfin : (T kf).2.2.2 = false) (hM : M a = some (.inr (ci, fs))) (hd0 : ty0 kf = ty) (hn : narrow ty v = v) (hfit : fits ty v = true) (hl : kf < fs.length) (hv : fs.set kf v = fs') (hd : decode cc pc = .ok (.putfield idx, 3)) (hp : pc + 3 = pc') (kk : Z l y cc nL ret R mc ms D M0 Q k n pc' vs st (zUp M a (.inr (ci, fs')))) : Z l y cc nL ret R mc ms D M0 Q k n pc vs (v :: .ref a :: st) M := by
  subst hp
  subst hv
  intro p e s m args below meth c C' H locs ls hls hP hA hS
  obtain ⟨hexec, hb, -, -, hown, hts, hK, -, -, -⟩ := id C'
  have hap := va_apart (own := y.cls) hts hin ty0 hty hnm hK hc
  obtain ⟨r, h1, cell, q1, q2, q3, q4⟩ := hP a _ hM
  have hr : r = (C, T, N) := Option.some.inj (h1.symm.trans hc)
  subst hr
  obtain ⟨hSl, hfc, kC, hkC, hkind⟩ := hK.1 ci _ hc
  obtain ⟨cf, kf', fi, f, hi, hsl⟩ := hSl kf hk
  have hlay := hts _ (hin _ (u_in_lay hk))
  unfold u_lay at hlay
  rw [if_neg (by rw [hfin]; decide)] at hlay
  have hst := (u_facts hfc hkC (u_lays hts hin hk) hi).1
  have hdd : parseFieldDescriptor (T kf).2.2.1 = some ty := by rw [← hd0]; exact hty kf hk
  have h6 := u_store hfc hkC hkind hlay hi hdd hn hfit
  refine W.putK hexec hb (f := f) ⟨hown, hts _ hlk, ⟨_, _, _, hi⟩, hst⟩ (by rw [q2]; exact h6) q1 q3 (by rw [hsl]; exact k2_hasslot (q4 kf hk)) rfl rfl hd fun H' e1 e2 e3 => ?_
  rw [hsl] at e1 ⊢
  have haA : zA M0 s.heap.size a := hA a (by rw [hM]; exact fun h => by cases h)
  exact kk p e s m args below meth c C' H' _ ls hls (hP.set ⟨_, hc, t_OB.to (V := updV (vp_V fs) kf v) ⟨_, e1, q2, q3, t_set q4 hap hk v⟩ (fun j _ => vp_updV_set hl v j)⟩ e3) (zUp_dom hA haA) (hS.put e2 e3 haA)
theorem Z_putF {C : String} {T : u_T} {N ci idx a : Nat} {fs fs' : List Value} {v : Value} {ty : FieldType} {ty0 : Nat → FieldType} (kf : Nat) (hin : ∀ w ∈ u_ws C T N, w ∈ zT) (hty : ∀ k, k < N → parseFieldDescriptor (T k).2.2.1 = some (ty0 k)) (hnm : ∀ a, a < N → ∀ b, b < N → a ≠ b → (T a).2.1 ≠ (T b).2.1) (hc : vwCl[ci]? = some (C, T, N)) (hk : kf < N) (hlk : Cond.fieldLink y.cls idx (T kf).1 (T kf).2.1 (T kf).2.2.1 ∈ zT) (hfin : (T kf).2.2.2 = true) (hin2 : y.name = "<init>") (hdecl : (T kf).1 = y.cls) (hM : M a = some (.inr (ci, fs))) (hd0 : ty0 kf = ty) (hn : narrow ty v = v) (hfit : fits ty v = true) (hl : kf < fs.length) (hv : fs.set kf v = fs') (hd : decode cc pc = .ok (.putfield idx, 3)) (hp : pc + 3 = pc') (kk : Z l y cc nL ret R mc ms D M0 Q k n pc' vs st (zUp M a (.inr (ci, fs')))) : Z l y cc nL ret R mc ms D M0 Q k n pc vs (v :: .ref a :: st) M := by
  subst hp
  subst hv
  intro p e s m args below meth c C' H locs ls hls hP hA hS
  obtain ⟨hexec, hb, -, -, hown, hts, hK, -, hnam, -⟩ := id C'
  have hap := va_apart (own := y.cls) hts hin ty0 hty hnm hK hc
  obtain ⟨r, h1, cell, q1, q2, q3, q4⟩ := hP a _ hM
  have hr : r = (C, T, N) := Option.some.inj (h1.symm.trans hc)
  subst hr
  obtain ⟨hSl, hfc, kC, hkC, hkind⟩ := hK.1 ci _ hc
  obtain ⟨cf, kf', fi, f, hi, hsl⟩ := hSl kf hk
  have hlay := hts _ (hin _ (u_in_lay hk))
  unfold u_lay at hlay
  rw [if_pos hfin] at hlay
  have hst := (u_facts hfc hkC (u_lays hts hin hk) hi).1
  have hcf : m.cls = cf := by
    obtain ⟨_, _, c', _, _, _, -, -, hf', -, -, -, hown2, -⟩ := Cond.laysFinal_spec hlay
    have e1 : c' = cf := by have := hi.symm.trans hf'; simp at this; exact this.1.symm
    rw [hdecl] at hown2
    rw [← e1]; exact Option.some.inj (hown.symm.trans hown2)
  have hdd : parseFieldDescriptor (T kf).2.2.1 = some ty := by rw [← hd0]; exact hty kf hk
  have h6 := u_fits hfc hkC hkind (Or.inr hlay) hi hdd hn hfit
  refine W.putFinK hexec hb hown (hts _ hlk) hi hst hcf ((hnam hin2).trans hin2) (by rw [q2]; exact h6) q1 q3 (by rw [hsl]; exact k2_hasslot (q4 kf hk)) rfl rfl hd fun H' e1 e2 e3 => ?_
  rw [hsl] at e1 ⊢
  have haA : zA M0 s.heap.size a := hA a (by rw [hM]; exact fun h => by cases h)
  exact kk p e s m args below meth c C' H' _ ls hls (hP.set ⟨_, hc, t_OB.to (V := updV (vp_V fs) kf v) ⟨_, e1, q2, q3, t_set q4 hap hk v⟩ (fun j _ => vp_updV_set hl v j)⟩ e3) (zUp_dom hA haA) (hS.put e2 e3 haA)
theorem Z_iald {a len : Nat} {f : Nat → Int32} {i : Int32} (hM : M a = some (.inl (.int, len, .inl f))) (hi : vp_in i len) (hd : decode cc pc = .ok (.iaload, 1)) (hp : pc + 1 = pc') (kk : Z l y cc nL ret R mc ms D M0 Q k n pc' vs (.int (f i.toNatClampNeg) :: st) M) : Z l y cc nL ret R mc ms D M0 Q k n pc vs (.int i :: .ref a :: st) M := by
  subst hp
  intro p e s m args below meth c C H locs ls hls hP hA hS
  obtain ⟨cA, h1, h2, h3⟩ := hP a _ hM
  have hlt : i.toNatClampNeg < len := Nat.not_le.mp fun q => hi (Or.inr q)
  exact W.iald (v := .int (f i.toNatClampNeg)) C.1 C.2.1 h3 (h1 len (fun j => .int (f j))) (fun q => by cases q) (by show ¬ (i < 0 ∨ (arrV _ _ _).slots.size ≤ _); rw [arrV_size]; exact hi) (by show (arrV _ _ _).slots[_]? = _; rw [arrV_read _ _ hlt]) rfl rfl hd (kk p e s m args below meth c C H locs ls hls hP hA hS)
theorem Z_bald {a len : Nat} {f : Nat → Int32} {i : Int32} (hM : M a = some (.inl (.byte, len, .inl f))) (hi : vp_in i len) (hd : decode cc pc = .ok (.baload, 1)) (hp : pc + 1 = pc') (kk : Z l y cc nL ret R mc ms D M0 Q k n pc' vs (.int (f i.toNatClampNeg) :: st) M) : Z l y cc nL ret R mc ms D M0 Q k n pc vs (.int i :: .ref a :: st) M := by
  subst hp
  intro p e s m args below meth c C H locs ls hls hP hA hS
  obtain ⟨cA, h1, h2, h3⟩ := hP a _ hM
  have hlt : i.toNatClampNeg < len := Nat.not_le.mp fun q => hi (Or.inr q)
  exact W.bald (v := .int (f i.toNatClampNeg)) C.1 C.2.1 h3 (h1 len (fun j => .int (f j))) (fun q => by cases q) (by show ¬ (i < 0 ∨ (arrV _ _ _).slots.size ≤ _); rw [arrV_size]; exact hi) (by show (arrV _ _ _).slots[_]? = _; rw [arrV_read _ _ hlt]) rfl rfl hd (kk p e s m args below meth c C H locs ls hls hP hA hS)
theorem Z_zald {a len : Nat} {f : Nat → Int32} {i : Int32} (hM : M a = some (.inl (.boolean, len, .inl f))) (hi : vp_in i len) (hd : decode cc pc = .ok (.baload, 1)) (hp : pc + 1 = pc') (kk : Z l y cc nL ret R mc ms D M0 Q k n pc' vs (.int (f i.toNatClampNeg) :: st) M) : Z l y cc nL ret R mc ms D M0 Q k n pc vs (.int i :: .ref a :: st) M := by
  subst hp
  intro p e s m args below meth c C H locs ls hls hP hA hS
  obtain ⟨cA, h1, h2, h3⟩ := hP a _ hM
  have hlt : i.toNatClampNeg < len := Nat.not_le.mp fun q => hi (Or.inr q)
  exact W.zald (v := .int (f i.toNatClampNeg)) C.1 C.2.1 h3 (h1 len (fun j => .int (f j))) (fun q => by cases q) (by show ¬ (i < 0 ∨ (arrV _ _ _).slots.size ≤ _); rw [arrV_size]; exact hi) (by show (arrV _ _ _).slots[_]? = _; rw [arrV_read _ _ hlt]) rfl rfl hd (kk p e s m args below meth c C H locs ls hls hP hA hS)
theorem Z_aald {a len : Nat} {ty : FieldType} {f : Nat → Option Nat} {i : Int32} (hty : ty.isReference = true) (hM : M a = some (.inl (ty, len, .inr (.inr (.inr (.inr f)))))) (hi : vp_in i len) (hd : decode cc pc = .ok (.aaload, 1)) (hp : pc + 1 = pc') (kk : Z l y cc nL ret R mc ms D M0 Q k n pc' vs (va_rf (f i.toNatClampNeg) :: st) M) : Z l y cc nL ret R mc ms D M0 Q k n pc vs (.int i :: .ref a :: st) M := by
  subst hp
  intro p e s m args below meth c C H locs ls hls hP hA hS
  obtain ⟨cA, h1, h2, h3⟩ := hP a _ hM
  have hlt : i.toNatClampNeg < len := Nat.not_le.mp fun q => hi (Or.inr q)
  exact W.aald (v := va_rf (f i.toNatClampNeg)) (ty := ty) C.1 C.2.1 h3 (h1 len (fun j => va_rf (f j))) hty (fun q => by cases q) (by show ¬ (i < 0 ∨ (arrV _ _ _).slots.size ≤ _); rw [arrV_size]; exact hi) (by show (arrV _ _ _).slots[_]? = _; rw [arrV_read _ _ hlt]) rfl rfl hd (kk p e s m args below meth c C H locs ls hls hP hA hS)
theorem Z_iast {a len : Nat} {f : Nat → Int32} {i x : Int32} (hM : M a = some (.inl (.int, len, .inl f))) (hi : vp_in i len) (hd : decode cc pc = .ok (.iastore, 1)) (hp : pc + 1 = pc') (kk : Z l y cc nL ret R mc ms D M0 Q k n pc' vs st (zUp M a (.inl (.int, len, .inl (upd f i.toNatClampNeg x))))) : Z l y cc nL ret R mc ms D M0 Q k n pc vs (.int x :: .int i :: .ref a :: st) M := by
  subst hp
  intro p e s m args below meth c C H locs ls hls hP hA hS
  obtain ⟨cA, h1, h2, h3⟩ := hP a _ hM
  refine W.iast C.1 C.2.1 h3 (h1 len (fun j => .int (f j))) (fun q => by cases q) (by show ¬ (i < 0 ∨ (arrV _ _ _).slots.size ≤ _); rw [arrV_size]; exact hi) rfl rfl hd fun H1 e1 z oq => ?_
  have haA : zA M0 s.heap.size a := hA a (by rw [hM]; exact fun h => by cases h)
  refine kk p e s m args below meth c C H1 _ ls hls (hP.set ⟨cA, h1, h2, ?_⟩ oq) (zUp_dom hA haA) (hS.put z oq haA)
  show H1[a]? = some (vp_cell _ _)
  rw [e1]
  rw [vp_cell_i, vp_cell_i, arrV_store]
  congr 2
  funext q
  by_cases hq : q = i.toNatClampNeg
  · subst hq
    simp [updV, upd]
  · simp [updV, upd, hq]
theorem Z_bast {a len : Nat} {f : Nat → Int32} {i x : Int32} (hM : M a = some (.inl (.byte, len, .inl f))) (hi : vp_in i len) (hd : decode cc pc = .ok (.bastore, 1)) (hp : pc + 1 = pc') (kk : Z l y cc nL ret R mc ms D M0 Q k n pc' vs st (zUp M a (.inl (.byte, len, .inl (upd f i.toNatClampNeg (vp_nar .byte x)))))) : Z l y cc nL ret R mc ms D M0 Q k n pc vs (.int x :: .int i :: .ref a :: st) M := by
  subst hp
  intro p e s m args below meth c C H locs ls hls hP hA hS
  obtain ⟨cA, h1, h2, h3⟩ := hP a _ hM
  refine W.bast C.1 C.2.1 h3 (h1 len (fun j => .int (f j))) (fun q => by cases q) (by show ¬ (i < 0 ∨ (arrV _ _ _).slots.size ≤ _); rw [arrV_size]; exact hi) rfl rfl hd fun H1 e1 z oq => ?_
  have haA : zA M0 s.heap.size a := hA a (by rw [hM]; exact fun h => by cases h)
  refine kk p e s m args below meth c C H1 _ ls hls (hP.set ⟨cA, h1, h2, ?_⟩ oq) (zUp_dom hA haA) (hS.put z oq haA)
  show H1[a]? = some (vp_cell _ _)
  rw [e1]
  rw [vp_cell_i, vp_cell_i, arrV_store]
  congr 2
  funext q
  by_cases hq : q = i.toNatClampNeg
  · subst hq
    simp [updV, upd, vp_nar]
    try rfl
  · simp [updV, upd, hq]
theorem Z_zast {a len : Nat} {f : Nat → Int32} {i x : Int32} (hM : M a = some (.inl (.boolean, len, .inl f))) (hi : vp_in i len) (hd : decode cc pc = .ok (.bastore, 1)) (hp : pc + 1 = pc') (kk : Z l y cc nL ret R mc ms D M0 Q k n pc' vs st (zUp M a (.inl (.boolean, len, .inl (upd f i.toNatClampNeg (vp_nar .boolean x)))))) : Z l y cc nL ret R mc ms D M0 Q k n pc vs (.int x :: .int i :: .ref a :: st) M := by
  subst hp
  intro p e s m args below meth c C H locs ls hls hP hA hS
  obtain ⟨cA, h1, h2, h3⟩ := hP a _ hM
  refine W.zast C.1 C.2.1 h3 (h1 len (fun j => .int (f j))) (fun q => by cases q) (by show ¬ (i < 0 ∨ (arrV _ _ _).slots.size ≤ _); rw [arrV_size]; exact hi) rfl rfl hd fun H1 e1 z oq => ?_
  have haA : zA M0 s.heap.size a := hA a (by rw [hM]; exact fun h => by cases h)
  refine kk p e s m args below meth c C H1 _ ls hls (hP.set ⟨cA, h1, h2, ?_⟩ oq) (zUp_dom hA haA) (hS.put z oq haA)
  show H1[a]? = some (vp_cell _ _)
  rw [e1]
  rw [vp_cell_i, vp_cell_i, arrV_store]
  congr 2
  funext q
  by_cases hq : q = i.toNatClampNeg
  · subst hq
    simp [updV, upd, vp_nar]
    try rfl
  · simp [updV, upd, hq]
/-! calls -/
def zCk (y : MethodName) (cc : ByteArray) (nL : Nat) (ret : Option FieldType) (np : Nat) : Prop := Cond.code y cc nL ret ∈ zT ∧ Cond.initialized y.cls ∈ zT ∧ (y.cls ≠ "java/lang/invoke/MethodHandle" ∧ y.cls ≠ "java/lang/invoke/VarHandle" ∧ (parseMethodDescriptor y.desc).map (fun d => d.parameters.length) = some np)
theorem z_blind {D : va_G} {sz : Nat} {av : List Value} : FrameBlind (va_Pc av (fun U => U.heap.size = sz ∧ zP D U M U.heap ∧ zK D U ∧ zO D (zA M sz) U U.heap)) := by
  intro a U g mk h
  obtain ⟨h0, h1, h2, h3, h4⟩ := h
  exact ⟨h0, h1, zP.moved (u := U) (U := U.calling g mk a) (Vm.Alike.refl U.vm) h2, va_K.moved (u := U) (U := U.calling g mk a) (Vm.Alike.refl U.vm) h3, zO.same (s := U) (U := U.calling g mk a) rfl h4⟩
theorem z_callO {s U : State} {H : Heap} {locs : List Loc} (hO : zO D (zA M0 s.heap.size) s s.heap) (hA : ∀ q, M q ≠ none → zA M0 s.heap.size q) (hS : va_S (zA M0 s.heap.size) s.heap H locs) (hU : U.heap = H) (hW : s.WarmedH U.vm) : zO D (zA M H.size) U U.heap := by
  rw [hU]
  exact ((hO.kept (fun a h1 h2 => hS.2.1 a h1 h2)).narrow (fun q h => h.elim (hA q) (fun h => Or.inr (Nat.le_trans hS.1 h)))).warm hW
theorem z_good {y' : MethodName} {cc' : ByteArray} {nL' : Nat} {ret' : Option FieldType} (h : Cond.code y' cc' nL' ret' ∈ zT) : GoodIn zT (Cond.code y' cc' nL' ret' :: zT) := fun w hw => (List.mem_cons.mp hw).elim (fun e => e ▸ zT_good _ h) (fun q => zT_good w q)
theorem z_callB {s : State} {args : Array Value} {y' : MethodName} {cc' : ByteArray} {nL' np idx : Nat} {ret' : Option FieldType} {rm : Room} (hts : ∀ w ∈ zT, w.before args s = true) (ck : zCk y' cc' nL' ret' np) (ml : Cond.methodLink y.cls idx y' ∈ zT) (hR : rm.frames + 1 ≤ R.frames ∧ 8 + (nL' + 11) + rm.locals ≤ R.locals) : CallB R s args y.cls idx y' cc' nL' ret' (Cond.code y' cc' nL' ret' :: zT) rm rm.cells rm.slots np :=
  callB_of np hts (z_good ck.1) rfl rfl rfl (hts _ ck.2.1) (hts _ ml) ck.2.2 hR
theorem z_back {p : Program} {e : Env} {s : State} {m : MethodId} {args : Array Value} {below : List Frame} {meth : Method} {c : Code} {H : Heap} {locs : List Loc} {ls : Array Slot} {st0 : List Value} {a : Array Value} {c1 s1 k' n' : Nat} {Q' : Option Value → zM → Prop}
    (C : zC y cc nL ret D M0 p s m args meth c) (hls : zLs ls nL vs) (hA : ∀ q, M q ≠ none → zA M0 s.heap.size q) (hS : va_S (zA M0 s.heap.size) s.heap H locs)
    (hr : va_Run p l e R s m args below meth c H locs k n c1 s1 (F0 m pc ls st0) st (zQ D M Q' a) (zA M H.size)) (hk : k + c1 = k') (hn : n + s1 = n') (hp : pc + 3 = pc')
    (kk : ∀ (v : Option Value) (M' : zM), Q' v M' → Z l y cc nL ret R mc ms D M0 Q k' n' pc' vs (v.toList ++ st) M') : W p l e R s m args below meth c H locs k n (MQ below (zQ D M0 Q) args s mc ms (zA M0 s.heap.size)) (F0 m pc ls st0) := by
  subst hk
  subst hn
  subst hp
  intro T hT X
  obtain ⟨v, st₀, t, T', L, h0, X', hL, e1, e2, ⟨⟨v', M', hv, hq, hp', hdom⟩, hz, hkp⟩, stp⟩ := hr T hT X
  cases hv
  rw [h0] at hz hkp hdom
  have hvm : s.vm.Alike t.vm := by rw [← e2]; exact X'.warmed.alike
  have up : ∀ q, zA M H.size q → zA M0 s.heap.size q := fun q h => h.elim (hA q) (fun h => Or.inr (Nat.le_trans hS.1 h))
  obtain ⟨t2, a1, b1⟩ := kk v M' hq p e s m args below meth c C T'.heap (locs ++ L) ls hls (by rw [e1]; exact hp'.moved hvm.symm) (fun q h => up q (hdom q h))
    ⟨Nat.le_trans hS.1 (by rw [e1]; exact hz), fun q h1 h2 => by rw [e1, hkp q (Nat.lt_of_lt_of_le h1 hS.1) (fun z => h2 (up q z))]; exact hS.2.1 q h1 h2, fun q hq => by
      rcases List.mem_append.mp hq with h | h
      · exact hS.2.2 q h
      · exact up _ (hL q h)⟩ T' rfl X'
  exact ⟨t2, stp t2 a1, b1⟩
theorem Z_callV {y' : MethodName} {cc' : ByteArray} {nL' np idx ci b k' n' : Nat} {ret' : Option FieldType} {rm : Room} {As st0 fs : List Value} {T' : u_T} {N' : Nat} {Q' : Option Value → zM → Prop}
    (hM' : zMet l y' cc' nL' ret' rm (.ref b :: As) M Q') (ck : zCk y' cc' nL' ret' np) (kv : Cond.instanceMethod y' ∈ zT ∧ Cond.selects y'.cls y' y' ∈ zT) (ml : Cond.methodLink y.cls idx y' ∈ zT) (hb : M b = some (.inr (ci, fs))) (hc : vwCl[ci]? = some (y'.cls, T', N'))
    (hn : As.length = np) (hst : st0 = As.reverse ++ .ref b :: st) (hcat : (st.map fun v => v.category).sum ≤ 8) (hR : rm.frames + 1 ≤ R.frames ∧ 8 + (nL' + 11) + rm.locals ≤ R.locals) (hroom : k + rm.cells ≤ R.cells ∧ n + rm.slots ≤ R.slots) (hd : decode cc pc = .ok (.invokevirtual idx, 3)) (hk : k + rm.cells = k') (hn2 : n + rm.slots = n') (hp : pc + 3 = pc')
    (kk : ∀ (v : Option Value) (M' : zM), Q' v M' → Z l y cc nL ret R mc ms D M0 Q k' n' pc' vs (v.toList ++ st) M') : Z l y cc nL ret R mc ms D M0 Q k n pc vs st0 M := by
  intro p e s m args below meth c C H locs ls hls hP hA hS
  obtain ⟨hexec, hbt, hml, -, hown, hts, hK, -, -, hO⟩ := id C
  refine z_back C hls hA hS (va_runV (As := As) (rest := st) ⟨hexec, hbt, hml, hown, hts⟩ (hM' D H.size) ⟨z_callB hts ck ml hR, hts _ kv.1, hts _ kv.2⟩ ⟨z_blind, ?_, fun U hU hW => ⟨rfl, by rw [hU], by rw [hU]; exact hP.moved hW.alike, va_K.moved hW.alike hK, z_callO hO hA hS hU hW⟩⟩ rfl hn hls.1.1 hst (lv_room hcat) hd hroom) hk hn2 hp kk
  obtain ⟨r, h1, cell, g1, g2, g3, -⟩ := hP b _ hb
  exact ⟨cell, g1, by rw [g3]; rfl, by rw [g2]; exact (hK.1 ci _ hc).2.1⟩
theorem Z_callS {y' : MethodName} {cc' : ByteArray} {nL' np idx k' n' : Nat} {ret' : Option FieldType} {rm : Room} {As st0 : List Value} {Q' : Option Value → zM → Prop}
    (hM' : zMet l y' cc' nL' ret' rm As M Q') (ck : zCk y' cc' nL' ret' np) (kv : Cond.static y' ∈ zT) (ml : Cond.methodLink y.cls idx y' ∈ zT)
    (hn : As.length = np) (hst : st0 = As.reverse ++ st) (hcat : (st.map fun v => v.category).sum ≤ 8) (hR : rm.frames + 1 ≤ R.frames ∧ 8 + (nL' + 11) + rm.locals ≤ R.locals) (hroom : k + rm.cells ≤ R.cells ∧ n + rm.slots ≤ R.slots) (hd : decode cc pc = .ok (.invokestatic idx, 3)) (hk : k + rm.cells = k') (hn2 : n + rm.slots = n') (hp : pc + 3 = pc')
    (kk : ∀ (v : Option Value) (M' : zM), Q' v M' → Z l y cc nL ret R mc ms D M0 Q k' n' pc' vs (v.toList ++ st) M') : Z l y cc nL ret R mc ms D M0 Q k n pc vs st0 M := by
  intro p e s m args below meth c C H locs ls hls hP hA hS
  obtain ⟨hexec, hbt, hml, -, hown, hts, hK, -, -, hO⟩ := id C
  exact z_back C hls hA hS (va_runS (As := As) (rest := st) ⟨hexec, hbt, hml, hown, hts⟩ (hM' D H.size) ⟨z_callB hts ck ml hR, hts _ kv⟩ ⟨z_blind, fun U hU hW => ⟨rfl, by rw [hU], by rw [hU]; exact hP.moved hW.alike, va_K.moved hW.alike hK, z_callO hO hA hS hU hW⟩⟩ rfl hn hls.1.1 hst (lv_room hcat) hd hroom) hk hn2 hp kk
theorem Z_callI {y' : MethodName} {cc' : ByteArray} {nL' np idx b k' n' : Nat} {rm : Room} {As st0 : List Value} {Q' : Option Value → zM → Prop}
    (hM' : zMet l y' cc' nL' none rm (.ref b :: As) M Q') (ck : zCk y' cc' nL' none np) (kv : Cond.instanceMethod y' ∈ zT) (hy : y'.name = "<init>") (ml : Cond.methodLink y.cls idx y' ∈ zT)
    (hn : As.length = np) (hst : st0 = As.reverse ++ .ref b :: st) (hcat : (st.map fun v => v.category).sum ≤ 8) (hR : rm.frames + 1 ≤ R.frames ∧ 8 + (nL' + 11) + rm.locals ≤ R.locals) (hroom : k + rm.cells ≤ R.cells ∧ n + rm.slots ≤ R.slots) (hd : decode cc pc = .ok (.invokespecial idx, 3)) (hk : k + rm.cells = k') (hn2 : n + rm.slots = n') (hp : pc + 3 = pc')
    (kk : ∀ (v : Option Value) (M' : zM), Q' v M' → Z l y cc nL ret R mc ms D M0 Q k' n' pc' vs (v.toList ++ st) M') : Z l y cc nL ret R mc ms D M0 Q k n pc vs st0 M := by
  intro p e s m args below meth c C H locs ls hls hP hA hS
  obtain ⟨hexec, hbt, hml, -, hown, hts, hK, -, -, hO⟩ := id C
  exact z_back C hls hA hS (va_runI (As := As) (rest := st) ⟨hexec, hbt, hml, hown, hts⟩ (hM' D H.size) ⟨z_callB hts ck ml hR, hy, hts _ kv⟩ ⟨z_blind, fun U hU hW => ⟨rfl, by rw [hU], by rw [hU]; exact hP.moved hW.alike, va_K.moved hW.alike hK, z_callO hO hA hS hU hW⟩⟩ rfl hn hls.1.1 hst (lv_room hcat) hd hroom) hk hn2 hp kk
end ZM
