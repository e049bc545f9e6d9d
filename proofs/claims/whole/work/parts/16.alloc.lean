/-! making things -/
section ZN
variable {l : Launch} {y : MethodName} {cc : ByteArray} {nL : Nat} {ret : Option FieldType} {R : Room} {mc ms : Nat} {D : va_G} {M0 : zM} {Q : Option Value → zM → Prop} {k n pc pc' : Nat} {vs vs' : List (Option Value)} {st : List Value} {M : zM}
theorem z_fresh {U : State} {H : Heap} (hP : zP D U M H) : M H.size = none := by
  cases h : M H.size with
  | none => rfl
  | some e => exact absurd (hP _ e h).lt (Nat.lt_irrefl _)
theorem zP.push {U : State} {H H1 : Heap} {e : zE} (hP : zP D U M H) (h1 : zAt D U H1 H.size e) (ho : ∀ q, q < H.size → H1[q]? = H[q]?) : zP D U (zUp M H.size e) H1 := by
  intro b e' hb
  by_cases hba : b = H.size
  · subst hba
    rw [zUp_self] at hb
    cases hb
    exact h1
  · rw [zUp_ne hba] at hb
    exact (hP b e' hb).kept (ho b (hP b e' hb).lt)
theorem z_pushS {H0 H H1 : Heap} {A : Nat → Prop} {locs : List Loc} (hS : va_S A H0 H locs) (z : H1.size = H.size + 1) (ho : ∀ q, q < H.size → H1[q]? = H[q]?) : va_S A H0 H1 locs :=
  ⟨Nat.le_trans hS.1 (by omega), fun x h1 h2 => (ho x (Nat.lt_of_lt_of_le h1 hS.1)).trans (hS.2.1 x h1 h2), hS.2.2⟩
theorem Z_objInit {idx a : Nat} (hl : Cond.methodLink y.cls idx objectInit ∈ zT) (hf : 1 ≤ R.frames) (hlo : (st.map fun v => v.category).sum + 12 ≤ R.locals) (hd : decode cc pc = .ok (.invokespecial idx, 3)) (hp : pc + 3 = pc') (kk : Z l y cc nL ret R mc ms D M0 Q k n pc' vs st M) : Z l y cc nL ret R mc ms D M0 Q k n pc vs (.ref a :: st) M := by
  subst hp
  intro p e s m args below meth c C H locs ls hls hP hA hS
  exact W.objInit C.1 C.2.1 C.2.2.2.2.1 (C.2.2.2.2.2.1 _ hl) (C.2.2.2.2.2.1 _ kobj.1) (C.2.2.2.2.2.1 _ kobj.2) rfl (hls.1.1.trans C.2.2.1.symm) rfl hd hf (by show 2 * 0 + _ + 12 ≤ _; omega) (kk p e s m args below meth c C H locs ls hls hP hA hS)
theorem Z_newa {atype : ArrayType} {ty : FieldType} {N : Nat} {v : Int32} {k' n' : Nat} (hw : Cond.arrayClass ty ∈ zT) (hty : newarray.typeOf atype = ty) (hdv : defaultValue ty = .int 0) (hra : ∀ (U : State) (cA : ClassId), U.vm.findClass ("[" ++ ty.toString) = some cA → va_RA U cA ty) (hv : ¬ v < 0) (hN : v.toNatClampNeg = N) (hb : N * componentBytes ty ≤ 536870912) (hc : k + 1 ≤ R.cells) (hs : n + N ≤ R.slots) (hd : decode cc pc = .ok (.newarray atype, 2)) (hk : k + 1 = k') (hn : n + N = n') (hp : pc + 2 = pc')
    (kk : ∀ q, M q = none → Z l y cc nL ret R mc ms D M0 Q k' n' pc' vs (.ref q :: st) (zUp M q (.inl (ty, N, .inl (fun _ => 0))))) : Z l y cc nL ret R mc ms D M0 Q k n pc vs (.int v :: st) M := by
  subst hp
  subst hk
  subst hn
  subst hty
  intro p e s m args below meth c C H locs ls hls hP hA hS
  refine va_newaK C.1 C.2.1 (C.2.2.2.2.2.1 _ hw) rfl hd rfl hv hN hb hc hs rfl fun H1 cA e1 z1 o1 hAr hNm => ?_
  refine kk H.size (z_fresh hP) p e s m args below meth c C H1 locs ls hls (hP.push ⟨cA, hAr, hra s cA hNm, ?_⟩ o1) (zUp_dom hA (Or.inr hS.1)) (z_pushS hS z1 o1)
  show H1[H.size]? = some (vp_cell _ _)
  rw [vp_cell_i, e1, hdv]
theorem Z_new {C : String} {T : u_T} {N ci idx : Nat} {fs : List Value} {ty0 : Nat → FieldType} {k' n' : Nat} (hin : ∀ w ∈ u_ws C T N, w ∈ zT) (hty : ∀ k, k < N → parseFieldDescriptor (T k).2.2.1 = some (ty0 k)) (hc : vwCl[ci]? = some (C, T, N)) (hcl : Cond.classLink y.cls idx C ∈ zT) (hib : Cond.instantiable C N ∈ zT) (hini : Cond.initialized C ∈ zT) (hfs : ∀ j, j < N → defaultValue (ty0 j) = vp_V fs j) (hcc : k + 1 ≤ R.cells) (hs : n + N ≤ R.slots) (hd : decode cc pc = .ok (.new idx, 3)) (hk : k + 1 = k') (hn : n + N = n') (hp : pc + 3 = pc')
    (kk : ∀ q, M q = none → Z l y cc nL ret R mc ms D M0 Q k' n' pc' vs (.ref q :: st) (zUp M q (.inr (ci, fs)))) : Z l y cc nL ret R mc ms D M0 Q k n pc vs st M := by
  subst hp
  subst hk
  subst hn
  intro p e s m args below meth c C' H locs ls hls hP hA hS
  have hK := C'.2.2.2.2.2.2.1
  have hts := C'.2.2.2.2.2.1
  have hKn := hK.1 ci _ hc
  refine W.newcK C'.1 C'.2.1 C'.2.2.2.2.1 (hts _ hcl) (hts _ hib) (hts _ hini) rfl hd hcc hs hKn.2.1 rfl fun H1 kC hkC e1 z1 o1 => ?_
  exact kk H.size (z_fresh hP) p e s m args below meth c C' H1 locs ls hls (hP.push ⟨_, hc, (u_born ty0 hts hin hKn hkC e1 hty).to hfs⟩ o1) (zUp_dom hA (Or.inr hS.1)) (z_pushS hS z1 o1)
end ZN
/-! a memory as a list of cells -/
def lM : List (Nat × zE) → zM
  | [], _ => none
  | (a, e) :: t, b => if b = a then some e else lM t b
theorem lM_head {a : Nat} {e : zE} {L : List (Nat × zE)} : lM ((a, e) :: L) a = some e := if_pos rfl
theorem lM_tail {a b : Nat} {e : zE} {L : List (Nat × zE)} (h : b ≠ a) : lM ((a, e) :: L) b = lM L b := if_neg h
theorem lM_setHead {a : Nat} {e e' : zE} {L : List (Nat × zE)} : zUp (lM ((a, e) :: L)) a e' = lM ((a, e') :: L) := by
  funext b
  by_cases h : b = a
  · subst h
    rw [zUp_self, lM_head]
  · rw [zUp_ne h, lM_tail h, lM_tail h]
theorem lM_push {L : List (Nat × zE)} {q : Nat} {e : zE} (h : lM L q = none) : zUp (lM L) q e = lM (L ++ [(q, e)]) := by
  funext b
  induction L with
  | nil =>
    by_cases hb : b = q
    · subst hb
      rw [zUp_self]
      exact lM_head.symm
    · rw [zUp_ne hb]
      exact (lM_tail (L := []) hb).symm
  | cons x t ih =>
    obtain ⟨a, ea⟩ := x
    have hq : q ≠ a := fun hx => by rw [hx, lM_head] at h; cases h
    rw [lM_tail hq] at h
    have := ih h
    show _ = lM ((a, ea) :: (t ++ [(q, e)])) b
    by_cases hb : b = a
    · subst hb
      rw [zUp_ne (Ne.symm hq), lM_head, lM_head]
    · rw [lM_tail hb, ← this]
      by_cases hbq : b = q
      · subst hbq
        rw [zUp_self, zUp_self]
      · rw [zUp_ne hbq, zUp_ne hbq, lM_tail hb]
