section ZS
variable {l : Launch} {y : MethodName} {cc : ByteArray} {nL : Nat} {ret : Option FieldType} {R : Room} {mc ms : Nat} {D : va_G} {M0 : zM} {Q : Option Value → zM → Prop} {k n pc pc' : Nat} {vs vs' : List (Option Value)} {st : List Value} {M : zM}
theorem Z_ishl {a b : Int32} (hd : decode cc pc = .ok (.ishl, 1)) (hp : pc + 1 = pc') (kk : Z l y cc nL ret R mc ms D M0 Q k n pc' vs (.int (a <<< (b &&& 31)) :: st) M) : Z l y cc nL ret R mc ms D M0 Q k n pc vs (.int b :: .int a :: st) M := by
  subst hp
  exact fun p e s m args below meth c C H locs ls hls hP hA hS => lv_ishl C.1 C.2.1 hd (kk p e s m args below meth c C H locs ls hls hP hA hS)
theorem Z_ishr {a b : Int32} (hd : decode cc pc = .ok (.ishr, 1)) (hp : pc + 1 = pc') (kk : Z l y cc nL ret R mc ms D M0 Q k n pc' vs (.int (a >>> (b &&& 31)) :: st) M) : Z l y cc nL ret R mc ms D M0 Q k n pc vs (.int b :: .int a :: st) M := by
  subst hp
  exact fun p e s m args below meth c C H locs ls hls hP hA hS => lv_ishr C.1 C.2.1 hd (kk p e s m args below meth c C H locs ls hls hP hA hS)
theorem Z_iushr {a b : Int32} (hd : decode cc pc = .ok (.iushr, 1)) (hp : pc + 1 = pc') (kk : Z l y cc nL ret R mc ms D M0 Q k n pc' vs (.int (a.toUInt32 >>> (b.toUInt32 &&& Int32.toUInt32 31)).toInt32 :: st) M) : Z l y cc nL ret R mc ms D M0 Q k n pc vs (.int b :: .int a :: st) M := by
  subst hp
  exact fun p e s m args below meth c C H locs ls hls hP hA hS => lv_iushr C.1 C.2.1 hd rfl (kk p e s m args below meth c C H locs ls hls hP hA hS)
theorem Z_idiv {a b : Int32} (hne : ¬ b = 0) (hd : decode cc pc = .ok (.idiv, 1)) (hp : pc + 1 = pc') (kk : Z l y cc nL ret R mc ms D M0 Q k n pc' vs (.int (a / b) :: st) M) : Z l y cc nL ret R mc ms D M0 Q k n pc vs (.int b :: .int a :: st) M := by
  subst hp
  exact fun p e s m args below meth c C H locs ls hls hP hA hS => lv_idiv C.1 C.2.1 hd hne (kk p e s m args below meth c C H locs ls hls hP hA hS)
theorem Z_irem {a b : Int32} (hne : ¬ b = 0) (hd : decode cc pc = .ok (.irem, 1)) (hp : pc + 1 = pc') (kk : Z l y cc nL ret R mc ms D M0 Q k n pc' vs (.int (a - a / b * b) :: st) M) : Z l y cc nL ret R mc ms D M0 Q k n pc vs (.int b :: .int a :: st) M := by
  subst hp
  exact fun p e s m args below meth c C H locs ls hls hP hA hS => lv_irem C.1 C.2.1 hd hne (kk p e s m args below meth c C H locs ls hls hP hA hS)
theorem Z_ineg {a : Int32} (hd : decode cc pc = .ok (.ineg, 1)) (hp : pc + 1 = pc') (kk : Z l y cc nL ret R mc ms D M0 Q k n pc' vs (.int (-a) :: st) M) : Z l y cc nL ret R mc ms D M0 Q k n pc vs (.int a :: st) M := by
  subst hp
  exact fun p e s m args below meth c C H locs ls hls hP hA hS => lv_ineg C.1 C.2.1 hd (kk p e s m args below meth c C H locs ls hls hP hA hS)
theorem Z_i2b {a : Int32} (hd : decode cc pc = .ok (.i2b, 1)) (hp : pc + 1 = pc') (kk : Z l y cc nL ret R mc ms D M0 Q k n pc' vs (.int a.toInt8.toInt32 :: st) M) : Z l y cc nL ret R mc ms D M0 Q k n pc vs (.int a :: st) M := by
  subst hp
  exact fun p e s m args below meth c C H locs ls hls hP hA hS => lv_i2b C.1 C.2.1 hd rfl (kk p e s m args below meth c C H locs ls hls hP hA hS)
theorem Z_dup {v : Value} (hc : v.category = 1) (hd : decode cc pc = .ok (.dup, 1)) (hp : pc + 1 = pc') (kk : Z l y cc nL ret R mc ms D M0 Q k n pc' vs (v :: v :: st) M) : Z l y cc nL ret R mc ms D M0 Q k n pc vs (v :: st) M := by
  subst hp
  exact fun p e s m args below meth c C H locs ls hls hP hA hS => lv_dup C.1 C.2.1 hd hc (kk p e s m args below meth c C H locs ls hls hP hA hS)
theorem Z_pop {v : Value} (hc : v.category = 1) (hd : decode cc pc = .ok (.pop, 1)) (hp : pc + 1 = pc') (kk : Z l y cc nL ret R mc ms D M0 Q k n pc' vs st M) : Z l y cc nL ret R mc ms D M0 Q k n pc vs (v :: st) M := by
  subst hp
  exact fun p e s m args below meth c C H locs ls hls hP hA hS => lv_pop C.1 C.2.1 hd hc (kk p e s m args below meth c C H locs ls hls hP hA hS)
theorem Z_null  (hd : decode cc pc = .ok (.aconst_null, 1)) (hp : pc + 1 = pc') (kk : Z l y cc nL ret R mc ms D M0 Q k n pc' vs (.null :: st) M) : Z l y cc nL ret R mc ms D M0 Q k n pc vs st M := by
  subst hp
  exact fun p e s m args below meth c C H locs ls hls hP hA hS => lv_null C.1 C.2.1 hd (kk p e s m args below meth c C H locs ls hls hP hA hS)
theorem Z_goto {off : Int} {tgt : Nat} (hd : decode cc pc = .ok (.goto off, 3)) (ht : (pc : Int) + off = (tgt : Int)) (kk : Z l y cc nL ret R mc ms D M0 Q k n tgt vs st M) : Z l y cc nL ret R mc ms D M0 Q k n pc vs st M := fun p e s m args below meth c C H locs ls hls hP hA hS => lv_goto C.1 C.2.1 hd ht (kk p e s m args below meth c C H locs ls hls hP hA hS)
theorem Z_if_eq {a : Int32} {off : Int} {tgt : Nat} (hd : decode cc pc = .ok (.ifCond .eq off, 3)) (ht : (pc : Int) + off = (tgt : Int)) (hp : pc + 3 = pc') (kt : a = 0 → Z l y cc nL ret R mc ms D M0 Q k n tgt vs st M) (kf : ¬ a = 0 → Z l y cc nL ret R mc ms D M0 Q k n pc' vs st M) : Z l y cc nL ret R mc ms D M0 Q k n pc vs (.int a :: st) M := by
  subst hp
  exact fun p e s m args below meth c C H locs ls hls hP hA hS => lv_if_eq C.1 C.2.1 hd ht (fun h => kt h p e s m args below meth c C H locs ls hls hP hA hS) (fun h => kf h p e s m args below meth c C H locs ls hls hP hA hS)
theorem Z_icmp_eq {a b : Int32} {off : Int} {tgt : Nat} (hd : decode cc pc = .ok (.if_icmp .eq off, 3)) (ht : (pc : Int) + off = (tgt : Int)) (hp : pc + 3 = pc') (kt : a = b → Z l y cc nL ret R mc ms D M0 Q k n tgt vs st M) (kf : ¬ a = b → Z l y cc nL ret R mc ms D M0 Q k n pc' vs st M) : Z l y cc nL ret R mc ms D M0 Q k n pc vs (.int b :: .int a :: st) M := by
  subst hp
  exact fun p e s m args below meth c C H locs ls hls hP hA hS => lv_icmp_eq C.1 C.2.1 hd ht (fun h => kt h p e s m args below meth c C H locs ls hls hP hA hS) (fun h => kf h p e s m args below meth c C H locs ls hls hP hA hS)
theorem Z_if_ne {a : Int32} {off : Int} {tgt : Nat} (hd : decode cc pc = .ok (.ifCond .ne off, 3)) (ht : (pc : Int) + off = (tgt : Int)) (hp : pc + 3 = pc') (kt : ¬ a = 0 → Z l y cc nL ret R mc ms D M0 Q k n tgt vs st M) (kf : a = 0 → Z l y cc nL ret R mc ms D M0 Q k n pc' vs st M) : Z l y cc nL ret R mc ms D M0 Q k n pc vs (.int a :: st) M := by
  subst hp
  exact fun p e s m args below meth c C H locs ls hls hP hA hS => lv_if_ne C.1 C.2.1 hd ht (fun h => kt h p e s m args below meth c C H locs ls hls hP hA hS) (fun h => kf h p e s m args below meth c C H locs ls hls hP hA hS)
theorem Z_icmp_ne {a b : Int32} {off : Int} {tgt : Nat} (hd : decode cc pc = .ok (.if_icmp .ne off, 3)) (ht : (pc : Int) + off = (tgt : Int)) (hp : pc + 3 = pc') (kt : ¬ a = b → Z l y cc nL ret R mc ms D M0 Q k n tgt vs st M) (kf : a = b → Z l y cc nL ret R mc ms D M0 Q k n pc' vs st M) : Z l y cc nL ret R mc ms D M0 Q k n pc vs (.int b :: .int a :: st) M := by
  subst hp
  exact fun p e s m args below meth c C H locs ls hls hP hA hS => lv_icmp_ne C.1 C.2.1 hd ht (fun h => kt h p e s m args below meth c C H locs ls hls hP hA hS) (fun h => kf h p e s m args below meth c C H locs ls hls hP hA hS)
theorem Z_if_lt {a : Int32} {off : Int} {tgt : Nat} (hd : decode cc pc = .ok (.ifCond .lt off, 3)) (ht : (pc : Int) + off = (tgt : Int)) (hp : pc + 3 = pc') (kt : a < 0 → Z l y cc nL ret R mc ms D M0 Q k n tgt vs st M) (kf : ¬ a < 0 → Z l y cc nL ret R mc ms D M0 Q k n pc' vs st M) : Z l y cc nL ret R mc ms D M0 Q k n pc vs (.int a :: st) M := by
  subst hp
  exact fun p e s m args below meth c C H locs ls hls hP hA hS => lv_if_lt C.1 C.2.1 hd ht (fun h => kt h p e s m args below meth c C H locs ls hls hP hA hS) (fun h => kf h p e s m args below meth c C H locs ls hls hP hA hS)
theorem Z_icmp_lt {a b : Int32} {off : Int} {tgt : Nat} (hd : decode cc pc = .ok (.if_icmp .lt off, 3)) (ht : (pc : Int) + off = (tgt : Int)) (hp : pc + 3 = pc') (kt : a < b → Z l y cc nL ret R mc ms D M0 Q k n tgt vs st M) (kf : ¬ a < b → Z l y cc nL ret R mc ms D M0 Q k n pc' vs st M) : Z l y cc nL ret R mc ms D M0 Q k n pc vs (.int b :: .int a :: st) M := by
  subst hp
  exact fun p e s m args below meth c C H locs ls hls hP hA hS => lv_icmp_lt C.1 C.2.1 hd ht (fun h => kt h p e s m args below meth c C H locs ls hls hP hA hS) (fun h => kf h p e s m args below meth c C H locs ls hls hP hA hS)
theorem Z_if_ge {a : Int32} {off : Int} {tgt : Nat} (hd : decode cc pc = .ok (.ifCond .ge off, 3)) (ht : (pc : Int) + off = (tgt : Int)) (hp : pc + 3 = pc') (kt : 0 ≤ a → Z l y cc nL ret R mc ms D M0 Q k n tgt vs st M) (kf : ¬ 0 ≤ a → Z l y cc nL ret R mc ms D M0 Q k n pc' vs st M) : Z l y cc nL ret R mc ms D M0 Q k n pc vs (.int a :: st) M := by
  subst hp
  exact fun p e s m args below meth c C H locs ls hls hP hA hS => lv_if_ge C.1 C.2.1 hd ht (fun h => kt h p e s m args below meth c C H locs ls hls hP hA hS) (fun h => kf h p e s m args below meth c C H locs ls hls hP hA hS)
theorem Z_icmp_ge {a b : Int32} {off : Int} {tgt : Nat} (hd : decode cc pc = .ok (.if_icmp .ge off, 3)) (ht : (pc : Int) + off = (tgt : Int)) (hp : pc + 3 = pc') (kt : b ≤ a → Z l y cc nL ret R mc ms D M0 Q k n tgt vs st M) (kf : ¬ b ≤ a → Z l y cc nL ret R mc ms D M0 Q k n pc' vs st M) : Z l y cc nL ret R mc ms D M0 Q k n pc vs (.int b :: .int a :: st) M := by
  subst hp
  exact fun p e s m args below meth c C H locs ls hls hP hA hS => lv_icmp_ge C.1 C.2.1 hd ht (fun h => kt h p e s m args below meth c C H locs ls hls hP hA hS) (fun h => kf h p e s m args below meth c C H locs ls hls hP hA hS)
theorem Z_if_gt {a : Int32} {off : Int} {tgt : Nat} (hd : decode cc pc = .ok (.ifCond .gt off, 3)) (ht : (pc : Int) + off = (tgt : Int)) (hp : pc + 3 = pc') (kt : 0 < a → Z l y cc nL ret R mc ms D M0 Q k n tgt vs st M) (kf : ¬ 0 < a → Z l y cc nL ret R mc ms D M0 Q k n pc' vs st M) : Z l y cc nL ret R mc ms D M0 Q k n pc vs (.int a :: st) M := by
  subst hp
  exact fun p e s m args below meth c C H locs ls hls hP hA hS => lv_if_gt C.1 C.2.1 hd ht (fun h => kt h p e s m args below meth c C H locs ls hls hP hA hS) (fun h => kf h p e s m args below meth c C H locs ls hls hP hA hS)
theorem Z_icmp_gt {a b : Int32} {off : Int} {tgt : Nat} (hd : decode cc pc = .ok (.if_icmp .gt off, 3)) (ht : (pc : Int) + off = (tgt : Int)) (hp : pc + 3 = pc') (kt : b < a → Z l y cc nL ret R mc ms D M0 Q k n tgt vs st M) (kf : ¬ b < a → Z l y cc nL ret R mc ms D M0 Q k n pc' vs st M) : Z l y cc nL ret R mc ms D M0 Q k n pc vs (.int b :: .int a :: st) M := by
  subst hp
  exact fun p e s m args below meth c C H locs ls hls hP hA hS => lv_icmp_gt C.1 C.2.1 hd ht (fun h => kt h p e s m args below meth c C H locs ls hls hP hA hS) (fun h => kf h p e s m args below meth c C H locs ls hls hP hA hS)
theorem Z_if_le {a : Int32} {off : Int} {tgt : Nat} (hd : decode cc pc = .ok (.ifCond .le off, 3)) (ht : (pc : Int) + off = (tgt : Int)) (hp : pc + 3 = pc') (kt : a ≤ 0 → Z l y cc nL ret R mc ms D M0 Q k n tgt vs st M) (kf : ¬ a ≤ 0 → Z l y cc nL ret R mc ms D M0 Q k n pc' vs st M) : Z l y cc nL ret R mc ms D M0 Q k n pc vs (.int a :: st) M := by
  subst hp
  exact fun p e s m args below meth c C H locs ls hls hP hA hS => lv_if_le C.1 C.2.1 hd ht (fun h => kt h p e s m args below meth c C H locs ls hls hP hA hS) (fun h => kf h p e s m args below meth c C H locs ls hls hP hA hS)
theorem Z_icmp_le {a b : Int32} {off : Int} {tgt : Nat} (hd : decode cc pc = .ok (.if_icmp .le off, 3)) (ht : (pc : Int) + off = (tgt : Int)) (hp : pc + 3 = pc') (kt : a ≤ b → Z l y cc nL ret R mc ms D M0 Q k n tgt vs st M) (kf : ¬ a ≤ b → Z l y cc nL ret R mc ms D M0 Q k n pc' vs st M) : Z l y cc nL ret R mc ms D M0 Q k n pc vs (.int b :: .int a :: st) M := by
  subst hp
  exact fun p e s m args below meth c C H locs ls hls hP hA hS => lv_icmp_le C.1 C.2.1 hd ht (fun h => kt h p e s m args below meth c C H locs ls hls hP hA hS) (fun h => kf h p e s m args below meth c C H locs ls hls hP hA hS)
theorem Z_ifnull {x : Nat} {off : Int} (hd : decode cc pc = .ok (.ifnull off, 3)) (hp : pc + 3 = pc') (kk : Z l y cc nL ret R mc ms D M0 Q k n pc' vs st M) : Z l y cc nL ret R mc ms D M0 Q k n pc vs (.ref x :: st) M := by
  subst hp
  exact fun p e s m args below meth c C H locs ls hls hP hA hS => lv_ifnull C.1 C.2.1 hd (kk p e s m args below meth c C H locs ls hls hP hA hS)
theorem Z_ifnullN {off : Int} {tgt : Nat} (hd : decode cc pc = .ok (.ifnull off, 3)) (ht : (pc : Int) + off = (tgt : Int)) (kk : Z l y cc nL ret R mc ms D M0 Q k n tgt vs st M) : Z l y cc nL ret R mc ms D M0 Q k n pc vs (.null :: st) M := fun p e s m args below meth c C H locs ls hls hP hA hS => lv_ifnullN C.1 C.2.1 hd ht (kk p e s m args below meth c C H locs ls hls hP hA hS)
theorem Z_ifnonnull {x : Nat} {off : Int} {tgt : Nat} (hd : decode cc pc = .ok (.ifnonnull off, 3)) (ht : (pc : Int) + off = (tgt : Int)) (kk : Z l y cc nL ret R mc ms D M0 Q k n tgt vs st M) : Z l y cc nL ret R mc ms D M0 Q k n pc vs (.ref x :: st) M := fun p e s m args below meth c C H locs ls hls hP hA hS => lv_ifnonnull C.1 C.2.1 hd ht (kk p e s m args below meth c C H locs ls hls hP hA hS)
theorem Z_ifnonnullN {off : Int} (hd : decode cc pc = .ok (.ifnonnull off, 3)) (hp : pc + 3 = pc') (kk : Z l y cc nL ret R mc ms D M0 Q k n pc' vs st M) : Z l y cc nL ret R mc ms D M0 Q k n pc vs (.null :: st) M := by
  subst hp
  exact fun p e s m args below meth c C H locs ls hls hP hA hS => lv_ifnonnullN C.1 C.2.1 hd (kk p e s m args below meth c C H locs ls hls hP hA hS)
theorem Z_aload_nN {f : Fin 4} {i : Nat} (hd : decode cc pc = .ok (.aload_n f, 1)) (hi : (f : Nat) = i) (hl : vs[i]? = some (some .null)) (hp : pc + 1 = pc') (kk : Z l y cc nL ret R mc ms D M0 Q k n pc' vs (.null :: st) M) : Z l y cc nL ret R mc ms D M0 Q k n pc vs st M := by
  subst hp
  exact fun p e s m args below meth c C H locs ls hls hP hA hS => lv_aload_nN C.1 C.2.1 hd hi (hls.at hl) (kk p e s m args below meth c C H locs ls hls hP hA hS)
theorem Z_aloadN {i : Nat} (hd : decode cc pc = .ok (.aload i, 2)) (hl : vs[i]? = some (some .null)) (hp : pc + 2 = pc') (kk : Z l y cc nL ret R mc ms D M0 Q k n pc' vs (.null :: st) M) : Z l y cc nL ret R mc ms D M0 Q k n pc vs st M := by
  subst hp
  exact fun p e s m args below meth c C H locs ls hls hP hA hS => lv_aloadN C.1 C.2.1 hd (hls.at hl) (kk p e s m args below meth c C H locs ls hls hP hA hS)
theorem Z_astore_nN {f : Fin 4} {i : Nat} (hd : decode cc pc = .ok (.astore_n f, 1)) (hi : (f : Nat) = i) (hn : i < nL) (hv : vs.set i (some .null) = vs') (hp : pc + 1 = pc') (kk : Z l y cc nL ret R mc ms D M0 Q k n pc' vs' st M) : Z l y cc nL ret R mc ms D M0 Q k n pc vs (.null :: st) M := by
  subst hp
  exact fun p e s m args below meth c C H locs ls hls hP hA hS => lv_astore_nN C.1 C.2.1 hd hi hls.1 hn rfl (fun ls' hl' => kk p e s m args below meth c C H locs ls' (hls.put rfl hv hl') hP hA hS)
theorem Z_astoreN {i : Nat} (hd : decode cc pc = .ok (.astore i, 2)) (hn : i < nL) (hv : vs.set i (some .null) = vs') (hp : pc + 2 = pc') (kk : Z l y cc nL ret R mc ms D M0 Q k n pc' vs' st M) : Z l y cc nL ret R mc ms D M0 Q k n pc vs (.null :: st) M := by
  subst hp
  exact fun p e s m args below meth c C H locs ls hls hP hA hS => lv_astoreN C.1 C.2.1 hd hls.1 hn rfl (fun ls' hl' => kk p e s m args below meth c C H locs ls' (hls.put rfl hv hl') hP hA hS)
theorem z_nI_int {j : Nat} (h : j < 2 ^ 31) : (nI j).toInt = (j : Int) := nI_toInt h
theorem z_sw_out {x : Int32} {hi : Nat} (h : ∀ j : Nat, j < hi + 1 → ¬ x = nI j) : x.toInt < 0 ∨ (hi : Int) < x.toInt := by
  by_cases h1 : x.toInt < 0
  · exact Or.inl h1
  · refine Or.inr ?_
    by_cases h2 : (hi : Int) < x.toInt
    · exact h2
    · exfalso
      obtain ⟨j, hj, e⟩ := nI_of (x := x) (fun q => by have := Int32.lt_iff_toInt_lt.mp q; simp at this; omega)
      have h3 : x.toInt = (j : Int) := by rw [e]; exact nI_toInt hj
      exact h j (by omega) e
theorem Z_tin {dflt hi : Int} {offs : Array Int} {len : Nat} {x : Int32} {off : Int} {tgt j : Nat} (hd : decode cc pc = .ok (.tableswitch dflt 0 hi offs, len)) (hx : x = nI j) (hj : j < 2 ^ 31) (hh : (j : Int) ≤ hi) (ho : offs[j]? = some off) (ht : (pc : Int) + off = (tgt : Int)) (kk : Z l y cc nL ret R mc ms D M0 Q k n tgt vs st M) : Z l y cc nL ret R mc ms D M0 Q k n pc vs (.int x :: st) M := by
  have hi' : x.toInt = (j : Int) := by rw [hx]; exact nI_toInt hj
  exact fun p e s m args below meth c C H locs ls hls hP hA hS => lv_tableIn C.1 C.2.1 hd (by rw [hi']; omega) (by rw [hi']; omega) (by rw [hi']; simpa using ho) ht (kk p e s m args below meth c C H locs ls hls hP hA hS)
theorem Z_tout {dflt : Int} {hi : Nat} {offs : Array Int} {len : Nat} {x : Int32} {tgt : Nat} (hd : decode cc pc = .ok (.tableswitch dflt 0 (hi : Int) offs, len)) (h : ∀ j : Nat, j < hi + 1 → ¬ x = nI j) (ht : (pc : Int) + dflt = (tgt : Int)) (kk : Z l y cc nL ret R mc ms D M0 Q k n tgt vs st M) : Z l y cc nL ret R mc ms D M0 Q k n pc vs (.int x :: st) M := fun p e s m args below meth c C H locs ls hls hP hA hS => lv_tableOut C.1 C.2.1 hd (z_sw_out h) ht (kk p e s m args below meth c C H locs ls hls hP hA hS)
theorem z_end {s t : State} {H : Heap} {locs : List Loc} {v : Option Value} {args : Array Value} (hP : zP D s M H) (hA : ∀ q, M q ≠ none → zA M0 s.heap.size q) (hS : va_S (zA M0 s.heap.size) s.heap H locs) (hq : Q v M) (ht : t.heap = H) (hW : s.WarmedH t.vm) : zQ D M0 Q args s (.returned v) t :=
  ⟨⟨v, M, rfl, hq, by rw [ht]; exact hP.moved hW.alike, hA⟩, hS.F ht⟩
theorem z_ret {p : Program} {e : Env} {s : State} {m : MethodId} {args : Array Value} {below : List Frame} {meth : Method} {c : Code} {H : Heap} {locs : List Loc} {cells slots : Nat} {Qc : Array Value → State → Outcome → State → Prop} {free : Addr → Prop} {v w : Int32} {ty : FieldType} (hexec : p.tables.exec = Jvm.exec) (hb : c.code = cc) (hr : meth.sig.returnType = some ty) (hn : narrow ty (.int v) = .int w)
    (hq : ∀ t : State, t.heap = H → s.WarmedH t.vm → Qc args s (.returned (some (.int w))) t) (hf : ∀ q ∈ locs, free q.base)
    {ls : Array Slot} (hdg : decode cc pc = .ok (.ireturn, 1)) (hlocks : meth.locks = false) : W p l e R s m args below meth c H locs cells slots (MQ below Qc args s cells slots free) (F0 m pc ls [.int v]) := by
  intro T hT X
  have hlocks : meth.locks = false := hlocks
  obtain ⟨fs, hret, hrun, hended, hW, hframe⟩ := X.leave (v := some (.int w)) (fun h => by rw [hr] at h; cases h)
  have hmeth' : T.vm.method? m = some meth := X.method'
  refine ⟨T.setFrames fs, ?_, .returned (some (.int w)), hrun, hended, hq _ hT hW, locs, ⟨⟨_, rfl⟩, hW, hframe⟩, hf⟩
  jvm_step X.here [X.here.top, hexec, hb, hdg, hmeth', hr, hn]
  (try refine ⟨rfl, ?_⟩); (try refine ⟨rfl, ?_⟩)
  first | (intro acts; rw [hret _ acts rfl rfl rfl]) | rw [hret _ _ rfl rfl rfl]
  exact Steps.refl _
theorem Z_iret {v w : Int32} {ty : FieldType} (hd : decode cc pc = .ok (.ireturn, 1)) (hr : ret = some ty) (hn : narrow ty (.int v) = .int w) (hc : k ≤ mc) (hs : n ≤ ms) (hq : Q (some (.int w)) M) : Z l y cc nL ret R mc ms D M0 Q k n pc vs [.int v] M := fun p e s m args below meth c C H locs ls hls hP hA hS => W.widen hc hs (z_ret C.1 C.2.1 (C.2.2.2.1.trans hr) hn (fun t ht hW => z_end hP hA hS hq ht hW) hS.2.2 hd C.2.2.2.2.2.2.2.1)
theorem Z_vret (hd : decode cc pc = .ok (.return_, 1)) (hr : ret = none) (hc : k ≤ mc) (hs : n ≤ ms) (hq : Q none M) : Z l y cc nL ret R mc ms D M0 Q k n pc vs [] M := fun p e s m args below meth c C H locs ls hls hP hA hS => W.widen hc hs (W.vret C.1 C.2.1 (C.2.2.2.1.trans hr) (fun t ht hW => z_end hP hA hS hq ht hW) hS.2.2 hd C.2.2.2.2.2.2.2.1)
theorem Z_aret {v : Value} {rt : FieldType} (hd : decode cc pc = .ok (.areturn, 1)) (hr : ret = some rt) (hrt : (∃ n, rt = .object n) ∨ ∃ t, rt = .array t) (hv : v = .null ∨ ∃ a, v = .ref a) (hc : k ≤ mc) (hs : n ≤ ms) (hq : Q (some v) M) : Z l y cc nL ret R mc ms D M0 Q k n pc vs [v] M := fun p e s m args below meth c C H locs ls hls hP hA hS => W.widen hc hs (W.aret C.1 C.2.1 (C.2.2.2.1.trans hr) hrt hv (fun t ht hW => z_end hP hA hS hq ht hW) hS.2.2 hd C.2.2.2.2.2.2.2.1)
end ZS
