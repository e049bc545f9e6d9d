theorem zIn_lt {i : Int32} {n : Nat} (h : zIn i n = true) : i.toNatClampNeg < n := Nat.not_le.mp fun q => zIn_in h (Or.inr q)
theorem kmmax : Cond.static Lib.Math.max.name ∈ zT ∧ Cond.initialized "java/lang/Math" ∈ zT ∧ Cond.code Lib.Math.max.name Lib.Math.max.code 2 (some .int) ∈ zT := ⟨zT_in 624 (by decide +kernel) (by decide +kernel), zT_in 54 (by decide +kernel) (by decide +kernel), zT_in 625 (by decide +kernel) (by decide +kernel)⟩
theorem kmmin : Cond.static Lib.Math.min.name ∈ zT ∧ Cond.initialized "java/lang/Math" ∈ zT ∧ Cond.code Lib.Math.min.name Lib.Math.min.code 2 (some .int) ∈ zT := ⟨zT_in 351 (by decide +kernel) (by decide +kernel), zT_in 54 (by decide +kernel) (by decide +kernel), zT_in 352 (by decide +kernel) (by decide +kernel)⟩
theorem kmabs : Cond.static Lib.Math.abs.name ∈ zT ∧ Cond.initialized "java/lang/Math" ∈ zT ∧ Cond.code Lib.Math.abs.name Lib.Math.abs.code 1 (some .int) ∈ zT := ⟨zT_in 348 (by decide +kernel) (by decide +kernel), zT_in 54 (by decide +kernel) (by decide +kernel), zT_in 349 (by decide +kernel) (by decide +kernel)⟩
section ZX
variable {l : Launch} {y : MethodName} {cc : ByteArray} {nL : Nat} {ret : Option FieldType} {R : Room} {mc ms : Nat} {D : va_G} {M0 : zM} {Q : Option Value → zM → Prop} {k n pc pc' : Nat} {vs vs' : List (Option Value)} {st : List Value} {M : zM}
theorem Z_aaldC {ad : Nat → Nat} {a len N kd : Nat} {C : String} {i : Int32} {o : Option Nat} (hM : M a = some (.inl (.object C, len, .inr (.inr (.inr (.inr (fun j => if j < N then some (ad (8 * j + kd)) else none))))))) (hi : vp_in i len) (he : o = zo N i) (hd : decode cc pc = .ok (.aaload, 1)) (hp : pc + 1 = pc') (kk : Z l y cc nL ret R mc ms D M0 Q k n pc' vs (rv ad kd o :: st) M) : Z l y cc nL ret R mc ms D M0 Q k n pc vs (.int i :: .ref a :: st) M := by
  refine Z_aald rfl hM hi hd hp (Z_stk ?_ kk)
  subst he
  by_cases h : i.toNatClampNeg < N
  · simp [zo, rv, va_rf, h]
  · simp [zo, rv, va_rf, h]
theorem Z_aaldB {ad : Nat → Nat} {a : Nat} {i : Int32} (hM : M a = some (.inl (.array .int, 7, .inr (.inr (.inr (.inr (fun j => if j < 7 then some (ad (8 * (19 + j))) else none))))))) (hi : zIn i 7 = true) (hd : decode cc pc = .ok (.aaload, 1)) (hp : pc + 1 = pc') (kk : Z l y cc nL ret R mc ms D M0 Q k n pc' vs (.ref (ad (8 * (19 + i.toNatClampNeg))) :: st) M) : Z l y cc nL ret R mc ms D M0 Q k n pc vs (.int i :: .ref a :: st) M := by
  refine Z_aald rfl hM (zIn_in hi) hd hp (Z_stk ?_ kk)
  simp [va_rf, zIn_lt hi]
theorem Z_aload_nR {v : Value} {f : Fin 4} {i : Nat} (hv : v = .null ∨ ∃ a, v = .ref a) (hd : decode cc pc = .ok (.aload_n f, 1)) (hi : (f : Nat) = i) (hl : vs[i]? = some (some v)) (hp : pc + 1 = pc') (kk : Z l y cc nL ret R mc ms D M0 Q k n pc' vs (v :: st) M) : Z l y cc nL ret R mc ms D M0 Q k n pc vs st M := by
  rcases hv with rfl | ⟨a, rfl⟩
  · exact Z_aload_nN hd hi hl hp kk
  · exact Z_aload_n hd hi hl hp kk
theorem Z_aloadR {v : Value} {i : Nat} (hv : v = .null ∨ ∃ a, v = .ref a) (hd : decode cc pc = .ok (.aload i, 2)) (hl : vs[i]? = some (some v)) (hp : pc + 2 = pc') (kk : Z l y cc nL ret R mc ms D M0 Q k n pc' vs (v :: st) M) : Z l y cc nL ret R mc ms D M0 Q k n pc vs st M := by
  rcases hv with rfl | ⟨a, rfl⟩
  · exact Z_aloadN hd hl hp kk
  · exact Z_aload hd hl hp kk
theorem Z_astore_nR {v : Value} {f : Fin 4} {i : Nat} (hv : v = .null ∨ ∃ a, v = .ref a) (hd : decode cc pc = .ok (.astore_n f, 1)) (hi : (f : Nat) = i) (hn : i < nL) (hs : vs.set i (some v) = vs') (hp : pc + 1 = pc') (kk : Z l y cc nL ret R mc ms D M0 Q k n pc' vs' st M) : Z l y cc nL ret R mc ms D M0 Q k n pc vs (v :: st) M := by
  rcases hv with rfl | ⟨a, rfl⟩
  · exact Z_astore_nN hd hi hn hs hp kk
  · exact Z_astore_n hd hi hn hs hp kk
theorem Z_astoreR {v : Value} {i : Nat} (hv : v = .null ∨ ∃ a, v = .ref a) (hd : decode cc pc = .ok (.astore i, 2)) (hn : i < nL) (hs : vs.set i (some v) = vs') (hp : pc + 2 = pc') (kk : Z l y cc nL ret R mc ms D M0 Q k n pc' vs' st M) : Z l y cc nL ret R mc ms D M0 Q k n pc vs (v :: st) M := by
  rcases hv with rfl | ⟨a, rfl⟩
  · exact Z_astoreN hd hn hs hp kk
  · exact Z_astore hd hn hs hp kk
theorem Z_callVr {y' : MethodName} {cc' : ByteArray} {nL' np idx ci b k' n' kd : Nat} {ret' : Option FieldType} {rm : Room} {As st0 fs : List Value} {T' : u_T} {N' : Nat} {ad : Nat → Nat} {r o : Option Nat} {M1 : zM} (he : o = r)
    (hM' : zMet l y' cc' nL' ret' rm (.ref b :: As) M (fun v M' => v = some (rv ad kd r) ∧ M' = M1)) (ck : zCk y' cc' nL' ret' np) (kv : Cond.instanceMethod y' ∈ zT ∧ Cond.selects y'.cls y' y' ∈ zT) (ml : Cond.methodLink y.cls idx y' ∈ zT) (hb : M b = some (.inr (ci, fs))) (hc : vwCl[ci]? = some (y'.cls, T', N'))
    (hn : As.length = np) (hst : st0 = As.reverse ++ .ref b :: st) (hcat : (st.map fun v => v.category).sum ≤ 8) (hR : rm.frames + 1 ≤ R.frames ∧ 8 + (nL' + 11) + rm.locals ≤ R.locals) (hroom : k + rm.cells ≤ R.cells ∧ n + rm.slots ≤ R.slots) (hd : decode cc pc = .ok (.invokevirtual idx, 3)) (hk : k + rm.cells = k') (hn2 : n + rm.slots = n') (hp : pc + 3 = pc')
    (kk : Z l y cc nL ret R mc ms D M0 Q k' n' pc' vs (rv ad kd o :: st) M1) : Z l y cc nL ret R mc ms D M0 Q k n pc vs st0 M := by
  subst he
  exact Z_callV hM' ck kv ml hb hc hn hst hcat hR hroom hd hk hn2 hp (fun v M' h => by obtain ⟨rfl, rfl⟩ := h; exact kk)
theorem Z_alen {a len : Nat} {ty : FieldType} {x : (Nat → Int32) ⊕ (Nat → Int64) ⊕ (Nat → UInt32) ⊕ (Nat → UInt64) ⊕ (Nat → Option Nat)} {v : Int32} (hM : M a = some (.inl (ty, len, x))) (hv : Int32.ofNat len = v) (hd : decode cc pc = .ok (.arraylength, 1)) (hp : pc + 1 = pc') (kk : Z l y cc nL ret R mc ms D M0 Q k n pc' vs (.int v :: st) M) : Z l y cc nL ret R mc ms D M0 Q k n pc vs (.ref a :: st) M := by
  subst hp
  intro p e s m args below meth c C H locs ls hls hP hA hS
  obtain ⟨cA, h1, h2, h3⟩ := hP a _ hM
  have hP1 : va_P D vwCl [(a, .inl (cA, len, x))] H := fun j q hj => by
    have hz : j < 1 := (List.getElem?_eq_some_iff.mp hj).1
    rw [show j = 0 by omega] at hj
    cases hj
    exact h3
  exact va_alen (tys := [(cA, ty)]) C.1 C.2.1 ⟨C.2.2.2.2.2.2.1.1, fun j q hj => by
    have hz : j < 1 := (List.getElem?_eq_some_iff.mp hj).1
    rw [show j = 0 by omega] at hj
    cases hj
    exact ⟨h1, h2⟩⟩ hP1 0 0 rfl rfl hv hd (kk p e s m args below meth c C H locs ls hls hP hA hS)
theorem Z_ldcw {idx : Nat} {v : Int32} (hc : Cond.constant y.cls idx v ∈ zT) (hd : decode cc pc = .ok (.ldc_w idx, 3)) (hp : pc + 3 = pc') (kk : Z l y cc nL ret R mc ms D M0 Q k n pc' vs (.int v :: st) M) : Z l y cc nL ret R mc ms D M0 Q k n pc vs st M := by
  subst hp
  exact fun p e s m args below meth c C H locs ls hls hP hA hS => lv_ldcw C.1 C.2.1 C.2.2.2.2.1 (C.2.2.2.2.2.1 _ hc) hd (kk p e s m args below meth c C H locs ls hls hP hA hS)
theorem Z_mmax {idx : Nat} {x z : Int32} (hl : Cond.methodLink y.cls idx Lib.Math.max.name ∈ zT) (hf : 1 ≤ R.frames) (hlo : (st.map fun v => v.category).sum + 13 ≤ R.locals) (hk : k ≤ R.cells) (hn : n ≤ R.slots) (hd : decode cc pc = .ok (.invokestatic idx, 3)) (hp : pc + 3 = pc') (kk : Z l y cc nL ret R mc ms D M0 Q k n pc' vs (.int (if x < z then z else x) :: st) M) : Z l y cc nL ret R mc ms D M0 Q k n pc vs (.int z :: .int x :: st) M := by
  subst hp
  exact fun p e s m args below meth c C H locs ls hls hP hA hS => va_mmax C.1 C.2.1 (C.2.2.1.trans hls.1.1.symm) C.2.2.2.2.1 (C.2.2.2.2.2.1 _ hl) (C.2.2.2.2.2.1 _ kmmax.1) (C.2.2.2.2.2.1 _ kmmax.2.1) (C.2.2.2.2.2.1 _ kmmax.2.2) hf hlo hk hn hd (kk p e s m args below meth c C H locs ls hls hP hA hS)
theorem Z_mmin {idx : Nat} {x z : Int32} (hl : Cond.methodLink y.cls idx Lib.Math.min.name ∈ zT) (hf : 1 ≤ R.frames) (hlo : (st.map fun v => v.category).sum + 13 ≤ R.locals) (hk : k ≤ R.cells) (hn : n ≤ R.slots) (hd : decode cc pc = .ok (.invokestatic idx, 3)) (hp : pc + 3 = pc') (kk : Z l y cc nL ret R mc ms D M0 Q k n pc' vs (.int (if z < x then z else x) :: st) M) : Z l y cc nL ret R mc ms D M0 Q k n pc vs (.int z :: .int x :: st) M := by
  subst hp
  exact fun p e s m args below meth c C H locs ls hls hP hA hS => va_mmin C.1 C.2.1 (C.2.2.1.trans hls.1.1.symm) C.2.2.2.2.1 (C.2.2.2.2.2.1 _ hl) (C.2.2.2.2.2.1 _ kmmin.1) (C.2.2.2.2.2.1 _ kmmin.2.1) (C.2.2.2.2.2.1 _ kmmin.2.2) hf hlo hk hn hd (kk p e s m args below meth c C H locs ls hls hP hA hS)
theorem Z_mabs {idx : Nat} {x : Int32} (hl : Cond.methodLink y.cls idx Lib.Math.abs.name ∈ zT) (hf : 1 ≤ R.frames) (hlo : (st.map fun v => v.category).sum + 13 ≤ R.locals) (hk : k ≤ R.cells) (hn : n ≤ R.slots) (hd : decode cc pc = .ok (.invokestatic idx, 3)) (hp : pc + 3 = pc') (kk : Z l y cc nL ret R mc ms D M0 Q k n pc' vs (.int (if 0 ≤ x then x else 0 - x) :: st) M) : Z l y cc nL ret R mc ms D M0 Q k n pc vs (.int x :: st) M := by
  subst hp
  exact fun p e s m args below meth c C H locs ls hls hP hA hS => va_mabs C.1 C.2.1 (C.2.2.1.trans hls.1.1.symm) C.2.2.2.2.1 (C.2.2.2.2.2.1 _ hl) (C.2.2.2.2.2.1 _ kmabs.1) (C.2.2.2.2.2.1 _ kmabs.2.1) (C.2.2.2.2.2.1 _ kmabs.2.2) hf hlo hk hn hd (kk p e s m args below meth c C H locs ls hls hP hA hS)
end ZX
