/-! THE CLAIM OUT OF ONE WALK OF THE LAW'S BODY. Your part is whole_start (and what it stands on); all else here is the same for every law, but numbers. -/
def R_law : String := "GiftRingLaw"
def lw_P (b : Addr) (xs : List Int32) (args : Array Value) (s : State) : Prop := args = #[.ref b] ∧ s.IntsAt b xs ∧ xs.length ≤ 3072 ∧ (Jvm.Cond.and given_1 narrow_1).before args s = true
def lw_Q (_ : Array Value) (s : State) (o : Outcome) (t : State) : Prop := o = .returned (some (.int 1)) ∧ Framed s o t [] 600000 7302250
def lw_Z (below : List Frame) (a : Array Value) (s : State) : State → Prop := fun t => ∃ o, t.status = .running ∧ Ended t below o ∧ lw_Q a s o t
/-- the law's own end, with 1 on the stack, nothing written that was there before, its room as the claim has it -/
theorem lw_ret {p : Program} {l : Launch} {e : Env} {s : State} {m : MethodId} {below : List Frame} {meth : Method} {c : Code} {b : Nat} (hx : p.tables.exec = Jvm.exec) (hb : c.code = code) (hr : meth.sig.returnType = ret) (hlocks : meth.locks = false) {pc : Nat} {H : Heap} {ls : Array Slot} (hdg : decode code pc = .ok (.ireturn, 1)) : W p l e room_1 s m #[Value.ref b] below meth c H [] 600000 7302250 (lw_Z below #[Value.ref b] s) (F0 m pc ls [.int 1]) := by
  intro T hT X
  obtain ⟨fs, hret, hrun, hended, hW, hframe⟩ := X.leave (v := some (.int 1)) (hlocks := hlocks) (fun h => by rw [hr] at h; cases h)
  have hmeth' : T.vm.method? m = some meth := X.method'
  refine ⟨T.setFrames fs, ?_, .returned (some (.int 1)), hrun, hended, rfl, ⟨_, rfl⟩, hW, hframe⟩
  jvm_step X.here [X.here.top, hx, hb, hdg, hmeth', hr, ret, narrow_b1]
  (try refine ⟨rfl, ?_⟩); (try refine ⟨rfl, ?_⟩)
  first | (intro acts; rw [hret _ acts rfl rfl rfl]) | rw [hret _ _ rfl rfl rfl]
  exact Steps.refl _
/-- what holds at the law's entry: the machine, the code, the tables' words (any of lw_tbl by 'hts w (by decide +kernel)'), the script of L ints xs at the cell b, what the Statement gives of the start (any of its parts by flat_of_before) -/
def lw_At (p : Program) (s : State) (m : MethodId) (meth : Method) (c : Code) (b L : Nat) (xs : Nat → Int32) : Prop :=
  p.tables.exec = Jvm.exec ∧ c.code = code ∧ meth.sig.returnType = ret ∧ c.maxLocals = 4 ∧ s.vm.findClass R_law = some m.cls ∧ (∀ w ∈ lw_tbl, w.before #[Value.ref b] s = true) ∧ va_X b L xs s s.heap ∧ b < s.heap.size ∧ meth.locks = false ∧ (Jvm.Cond.and given_1 narrow_1).before #[Value.ref b] s = true

theorem nI_bits (x : Int32) : nI x.toBitVec.toNat = x := by
  apply Int32.toBitVec_inj.mp
  show (Int32.ofNat x.toBitVec.toNat).toBitVec = x.toBitVec
  simp [Int32.ofNat]
set_option maxHeartbeats 8000000 in
set_option maxRecDepth 100000 in
theorem lw_stat {s : State} {b : Nat} {A : Nat → Prop} (hts : ∀ w ∈ lw_tbl, w.before #[Value.ref b] s = true) (hgv : (Jvm.Cond.and given_1 narrow_1).before #[Value.ref b] s = true) (hA : ∀ a : Nat, a < s.heap.size → ¬ A a) :
    ∃ t0 t1 t2 t3 t4 : Nat, (va_Z RX0 "AT_FIRST" "[I" (.ref t0) A s s.heap ∧ va_T .int t0 4 (fun j => .int (zS0 j)) A s s.heap) ∧ (va_Z RX0 "LEAST" "[I" (.ref t1) A s s.heap ∧ va_T .int t1 4 (fun j => .int (zS1 j)) A s s.heap) ∧ (va_Z RX0 "GREATEST" "[I" (.ref t2) A s s.heap ∧ va_T .int t2 4 (fun j => .int (zS2 j)) A s s.heap) ∧
      (vk_R RX0 62 "pdkh" t3 s ∧ vk_S 1 [4] [[112, 100, 107, 104]] (fun _ => t3) (fun _ => t4) A s s.heap) ∧ va_Z RJ0 "COMPACT_STRINGS" "Z" (.int 1) A s s.heap ∧ va_Zq RJ3 "SIOOBE_FORMATTER" "Ljava/util/function/BiFunction;" A s s.heap ∧ (∀ w ∈ zNest, va_Nw w s) ∧ va_AO "GiftRing$Man" s ∧ va_AO "GiftRing$Treasure" s ∧ va_AO "GiftRing$Debt" s := by
  have hs := flat_of_before _ hgv
  obtain ⟨t0, ht0, hT0⟩ := va_Tof (args := #[Value.ref b]) (s := s) (tm := (.static RX0 "AT_FIRST" "[I")) (ty := .int) (N := 4) (f := fun j => .int (zS0 j)) (A := A) (by decide) (hs _ (by decide +kernel)) (va_eqt (hs (.eq (.length (.static RX0 "AT_FIRST" "[I")) (.int 4)) (by decide +kernel))) (fun j hj => by
    match j, hj with
    | 0, _ => exact va_eqt (hs (.eq (.elem (.static RX0 "AT_FIRST" "[I") (.int 0)) (.int 80)) (by decide +kernel))
    | 1, _ => exact va_eqt (hs (.eq (.elem (.static RX0 "AT_FIRST" "[I") (.int 1)) (.int 4)) (by decide +kernel))
    | 2, _ => exact va_eqt (hs (.eq (.elem (.static RX0 "AT_FIRST" "[I") (.int 2)) (.int 2)) (by decide +kernel))
    | 3, _ => exact va_eqt (hs (.eq (.elem (.static RX0 "AT_FIRST" "[I") (.int 3)) (.int 6)) (by decide +kernel))) hA
  obtain ⟨t1, ht1, hT1⟩ := va_Tof (args := #[Value.ref b]) (s := s) (tm := (.static RX0 "LEAST" "[I")) (ty := .int) (N := 4) (f := fun j => .int (zS1 j)) (A := A) (by decide) (hs _ (by decide +kernel)) (va_eqt (hs (.eq (.length (.static RX0 "LEAST" "[I")) (.int 4)) (by decide +kernel))) (fun j hj => by
    match j, hj with
    | 0, _ => exact va_eqt (hs (.eq (.elem (.static RX0 "LEAST" "[I") (.int 0)) (.int 1)) (by decide +kernel))
    | 1, _ => exact va_eqt (hs (.eq (.elem (.static RX0 "LEAST" "[I") (.int 1)) (.int 1)) (by decide +kernel))
    | 2, _ => exact va_eqt (hs (.eq (.elem (.static RX0 "LEAST" "[I") (.int 2)) (.int 0)) (by decide +kernel))
    | 3, _ => exact va_eqt (hs (.eq (.elem (.static RX0 "LEAST" "[I") (.int 3)) (.int 0)) (by decide +kernel))) hA
  obtain ⟨t2, ht2, hT2⟩ := va_Tof (args := #[Value.ref b]) (s := s) (tm := (.static RX0 "GREATEST" "[I")) (ty := .int) (N := 4) (f := fun j => .int (zS2 j)) (A := A) (by decide) (hs _ (by decide +kernel)) (va_eqt (hs (.eq (.length (.static RX0 "GREATEST" "[I")) (.int 4)) (by decide +kernel))) (fun j hj => by
    match j, hj with
    | 0, _ => exact va_eqt (hs (.eq (.elem (.static RX0 "GREATEST" "[I") (.int 0)) (.int 300)) (by decide +kernel))
    | 1, _ => exact va_eqt (hs (.eq (.elem (.static RX0 "GREATEST" "[I") (.int 1)) (.int 99)) (by decide +kernel))
    | 2, _ => exact va_eqt (hs (.eq (.elem (.static RX0 "GREATEST" "[I") (.int 2)) (.int 99)) (by decide +kernel))
    | 3, _ => exact va_eqt (hs (.eq (.elem (.static RX0 "GREATEST" "[I") (.int 3)) (.int 99)) (by decide +kernel))) hA
  obtain ⟨adK, adV, hV, hev⟩ := vk_Sof (args := #[Value.ref b]) (s := s) (N := 1) (tm := fun _ => .string RX0 62) (len := [4]) (byt := [[112, 100, 107, 104]]) (A := A) (fun i hi => by rw [show i = 0 by omega]; decide) (fun i hi => hs (.exactly (.string RX0 62) "java/lang/String") (by decide +kernel)) (fun i hi => hs (.eq (.field (.string RX0 62) "java/lang/String" "coder" "B") (.int 0)) (by decide +kernel)) (fun i hi => hs (.arrayOf (.field (.string RX0 62) "java/lang/String" "value" "[B") .byte) (by decide +kernel)) (fun i hi => by rw [show i = 0 by omega]; exact hs (.eq (.length (.field (.string RX0 62) "java/lang/String" "value" "[B")) (.int 4)) (by decide +kernel)) (fun i hi j hj => by
    have e : i = 0 := by omega
    subst e
    match j, hj with
    | 0, _ => exact hs (.eq (.elem (.field (.string RX0 62) "java/lang/String" "value" "[B") (.int 0)) (.int 112)) (by decide +kernel)
    | 1, _ => exact hs (.eq (.elem (.field (.string RX0 62) "java/lang/String" "value" "[B") (.int 1)) (.int 100)) (by decide +kernel)
    | 2, _ => exact hs (.eq (.elem (.field (.string RX0 62) "java/lang/String" "value" "[B") (.int 2)) (.int 107)) (by decide +kernel)
    | 3, _ => exact hs (.eq (.elem (.field (.string RX0 62) "java/lang/String" "value" "[B") (.int 3)) (.int 104)) (by decide +kernel)) (fun i j hi hj hij => absurd (show i = j by omega) hij) hA
  refine ⟨t0, t1, t2, adK 0, adV 0, ⟨va_Zref (hts (.laysStatic RX0 "AT_FIRST" "[I") (List.mem_of_getElem? (i := 89) (by decide +kernel))) (hts (.initialized RX0) (List.mem_of_getElem? (i := 44) (by decide +kernel))) ht0 hA, hT0⟩, ⟨va_Zref (hts (.laysStatic RX0 "LEAST" "[I") (List.mem_of_getElem? (i := 289) (by decide +kernel))) (hts (.initialized RX0) (List.mem_of_getElem? (i := 44) (by decide +kernel))) ht1 hA, hT1⟩, ⟨va_Zref (hts (.laysStatic RX0 "GREATEST" "[I") (List.mem_of_getElem? (i := 291) (by decide +kernel))) (hts (.initialized RX0) (List.mem_of_getElem? (i := 44) (by decide +kernel))) ht2 hA, hT2⟩, ⟨vk_R.of (hts (.stringRef RX0 62 "pdkh") (List.mem_of_getElem? (i := 233) (by decide +kernel))) (hev 0 (by decide)), ⟨fun i hi => by rw [show i = 0 by omega]; exact hV.1 0 (by decide), fun i j hi hj _ => by omega⟩⟩, ?_, ?_, ?_, va_AO.of (hts (.arrayOver (.object "GiftRing$Man")) (List.mem_of_getElem? (i := 105) (by decide +kernel))), va_AO.of (hts (.arrayOver (.object "GiftRing$Treasure")) (List.mem_of_getElem? (i := 107) (by decide +kernel))), va_AO.of (hts (.arrayOver (.object "GiftRing$Debt")) (List.mem_of_getElem? (i := 115) (by decide +kernel)))⟩
  · exact va_Zof (hts (.laysStatic RJ0 "COMPACT_STRINGS" "Z") (List.mem_of_getElem? (i := 243) (by decide +kernel))) (hts (.initialized RJ0) (List.mem_of_getElem? (i := 49) (by decide +kernel))) (va_eqi (hs (.eq (.static RJ0 "COMPACT_STRINGS" "Z") (.int 1)) (by decide +kernel))) hA
  · exact va_Zqof (hts (.laysStatic RJ3 "SIOOBE_FORMATTER" "Ljava/util/function/BiFunction;") (List.mem_of_getElem? (i := 259) (by decide +kernel))) (hts (.initialized RJ3) (List.mem_of_getElem? (i := 51) (by decide +kernel))) (hs (.isRef (.static RJ3 "SIOOBE_FORMATTER" "Ljava/util/function/BiFunction;")) (by decide +kernel)) hA
  · intro w hw
    simp only [zNest, List.mem_cons, List.not_mem_nil, or_false] at hw
    rcases hw with rfl | rfl | rfl | rfl
    · exact va_Nw.of rfl (hts _ (List.mem_of_getElem? (i := 69) (by decide +kernel)))
    · exact va_Nw.of rfl (hts _ (List.mem_of_getElem? (i := 84) (by decide +kernel)))
    · exact va_Nw.of rfl (hts _ (List.mem_of_getElem? (i := 110) (by decide +kernel)))
    · exact va_Nw.of rfl (hts _ (List.mem_of_getElem? (i := 127) (by decide +kernel)))
theorem zUp_nil {q : Nat} {e : zE} : zUp (fun _ => none) q e = lM [(q, e)] := by
  funext b
  by_cases h : b = q
  · subst h
    rw [zUp_self, lM_head]
  · rw [zUp_ne h, lM_tail h]
    rfl
theorem zUp_U {M : zM} {q : Nat} {e : zE} : zUp M q e = zU (lM [(q, e)]) M := by
  funext b
  by_cases h : b = q
  · subst h
    rw [zUp_self, zU_l lM_head]
  · rw [zUp_ne h, zU_r (by rw [lM_tail h]; rfl)]
theorem lM_one {q a : Nat} {e : zE} (h : lM [(q, e)] a ≠ none) : a = q := by
  by_cases ha : a = q
  · exact ha
  · rw [lM_tail ha] at h
    exact absurd rfl h
theorem cl_X7 : Cond.classLink RL 7 RX7 ∈ zT ∧ Cond.instantiable RX7 11 ∈ zT ∧ Cond.initialized RX7 ∈ zT := ⟨zT_in 59 (by decide +kernel) (by decide +kernel), zT_in 60 (by decide +kernel) (by decide +kernel), zT_in 42 (by decide +kernel) (by decide +kernel)⟩
theorem cl_X8 : Cond.classLink RL 10 RX8 ∈ zT ∧ Cond.instantiable RX8 42 ∈ zT ∧ Cond.initialized RX8 ∈ zT := ⟨zT_in 711 (by decide +kernel) (by decide +kernel), zT_in 712 (by decide +kernel) (by decide +kernel), zT_in 47 (by decide +kernel) (by decide +kernel)⟩
set_option maxHeartbeats 8000000 in
set_option maxRecDepth 100000 in
theorem law_start {l : Launch} {I : Nat → Nat → Nat → zM → zM → Prop} (hAll : lwAll l I) {D : va_G} (hL : D.2 1002 0 ≤ 3072) {PC : Nat → zM → Prop} {rmC : Room} (hrm : rmC.frames + 1 ≤ 11 ∧ 8 + (1 + 11) + rmC.locals ≤ 404 ∧ rmC.cells ≤ 300 ∧ rmC.slots ≤ 20000) (hC : ∀ h0, zMet l yX7_init cX7_init 1 none rmC [.ref h0] (lM [(h0, .inr (7, [.null, .null, .null, .null, .null, .null, .null, .int 0, .int 0, .int 0, .int 0]))]) (fun v M' => v = none ∧ PC h0 M')) {w : Int32 × zS} (hw : r_init rσ1 = some w) (hI : ∀ a b Mc ad dec, PC a Mc → rG ad dec → ad 42 = b → I 0 a b Mc (mR ad dec w.2)) : Z l yL_law cL_law 4 (some .boolean) room_1 600000 7302250 D (fun _ => none) (fun v _ => v = some (.int 1)) 0 0 0 [some (.ref (D.2 1000 5)), none, none, none] [] (fun _ => none) := by
  obtain ⟨r1, r2, r3, r4⟩ := hrm
  refine Z_new (ci := 7) (fs := [.null, .null, .null, .null, .null, .null, .null, .int 0, .int 0, .int 0, .int 0]) (k' := 1) (n' := 11) (pc' := 3) zinX7 tyX7_ok rfl cl_X7.1 cl_X7.2.1 cl_X7.2.2 (fun j hj => by
    match j, hj with
    | 0, _ => rfl
    | 1, _ => rfl
    | 2, _ => rfl
    | 3, _ => rfl
    | 4, _ => rfl
    | 5, _ => rfl
    | 6, _ => rfl
    | 7, _ => rfl
    | 8, _ => rfl
    | 9, _ => rfl
    | 10, _ => rfl) (Nat.le_of_ble_eq_true rfl) (Nat.le_of_ble_eq_true rfl) dL_law_0 rfl rfl rfl (fun a ha => ?_)
  refine Z_mem zUp_nil ?_
  refine Z_dup (pc' := 4) rfl dL_law_3 rfl ?_
  refine Z_callI (As := []) (st := [.ref a]) (pc' := 7) (hC a) ckX7_init kiX7_init rfl mlL_9 rfl rfl (Nat.le_of_ble_eq_true rfl) ⟨r1, r2⟩ ⟨by show 1 + rmC.cells ≤ 600000; omega, by show 11 + rmC.slots ≤ 7302250; omega⟩ dL_law_4 rfl rfl rfl (fun v Mc hQ => ?_)
  obtain ⟨rfl, hPC⟩ := hQ
  refine Z_astore_n (i := 1) (vs' := [some (.ref (D.2 1000 5)), some (.ref a), none, none]) (pc' := 8) dL_law_7 rfl (by decide) rfl rfl ?_
  refine Z_new (ci := 8) (fs := [.null, .int 0, .null, .null, .int 0, .int 0, .int 0, .null, .null, .null, .null, .int 0, .null, .null, .null, .null, .null, .null, .null, .null, .null, .null, .null, .int 0, .null, .null, .null, .null, .null, .null, .null, .null, .null, .null, .null, .null, .null, .int 0, .int 0, .int 0, .int 0, .null]) (k' := 1 + rmC.cells + 1) (n' := 11 + rmC.slots + 42) (pc' := 11) zinX8 tyX8_ok rfl cl_X8.1 cl_X8.2.1 cl_X8.2.2 (fun j hj => by
    match j, hj with
    | 0, _ => rfl
    | 1, _ => rfl
    | 2, _ => rfl
    | 3, _ => rfl
    | 4, _ => rfl
    | 5, _ => rfl
    | 6, _ => rfl
    | 7, _ => rfl
    | 8, _ => rfl
    | 9, _ => rfl
    | 10, _ => rfl
    | 11, _ => rfl
    | 12, _ => rfl
    | 13, _ => rfl
    | 14, _ => rfl
    | 15, _ => rfl
    | 16, _ => rfl
    | 17, _ => rfl
    | 18, _ => rfl
    | 19, _ => rfl
    | 20, _ => rfl
    | 21, _ => rfl
    | 22, _ => rfl
    | 23, _ => rfl
    | 24, _ => rfl
    | 25, _ => rfl
    | 26, _ => rfl
    | 27, _ => rfl
    | 28, _ => rfl
    | 29, _ => rfl
    | 30, _ => rfl
    | 31, _ => rfl
    | 32, _ => rfl
    | 33, _ => rfl
    | 34, _ => rfl
    | 35, _ => rfl
    | 36, _ => rfl
    | 37, _ => rfl
    | 38, _ => rfl
    | 39, _ => rfl
    | 40, _ => rfl
    | 41, _ => rfl
    | j + 42, h => exact absurd h (by omega)) (by show 1 + rmC.cells + 1 ≤ 600000; omega) (by show 11 + rmC.slots + 42 ≤ 7302250; omega) dL_law_8 rfl rfl rfl (fun b hb => ?_)
  refine Z_mem zUp_U ?_
  refine Z_dup (pc' := 12) rfl dL_law_11 rfl ?_
  refine Z_callI (As := []) (st := [.ref b]) (pc' := 15) ((qX8_init l hw).frame (M2 := Mc) (fun x hx => by rw [lM_one hx]; exact hb)) ckX8_init kiX8_init rfl mlL_12 rfl rfl (Nat.le_of_ble_eq_true rfl) ⟨Nat.le_of_ble_eq_true rfl, Nat.le_of_ble_eq_true rfl⟩ ⟨by show 1 + rmC.cells + 1 + 32 ≤ 600000; omega, by show 11 + rmC.slots + 42 + 9752 ≤ 7302250; omega⟩ dL_law_12 rfl rfl rfl (fun v M' hQ => ?_)
  obtain ⟨M1, ⟨rfl, ad, dec, hab, hG, rfl⟩, hdis, rfl⟩ := hQ
  refine Z_mem (zU_comm hdis) ?_
  refine Z_astore_n (i := 2) (vs' := [some (.ref (D.2 1000 5)), some (.ref a), some (.ref b), none]) (pc' := 16) dL_law_15 rfl (by decide) rfl rfl ?_
  refine Z_iconst (v := 0) (pc' := 17) dL_law_16 (by decide) rfl ?_
  refine Z_istore_n (i := 3) (vs' := [some (.ref (D.2 1000 5)), some (.ref a), some (.ref b), some (.int (nI (6 * 0)))]) (pc' := 18) dL_law_17 rfl (by decide) rfl rfl ?_
  refine law_loop hAll hL 513 0 _ _ a b Mc (mR ad dec w.2) (by omega) (by omega) ?_ ?_ (hI a b Mc ad dec hPC hG hab) (fun x hx => ?_)
  · show 1 + rmC.cells + 1 + 32 ≤ _
    omega
  · show 11 + rmC.slots + 42 + 9752 ≤ _
    omega
  · cases hz : mR ad dec w.2 x with
    | none => rfl
    | some e => exact absurd (hdis x (by rw [hz]; simp)) hx
set_option maxHeartbeats 8000000 in
set_option maxRecDepth 100000 in
/-- THE CLAIM'S WALK, out of the class's constructor and its calls -/
theorem whole_open {p : Program} {e : Env} {s : State} {m : MethodId} {below : List Frame} {meth : Method} {c : Code} (l : Launch) {b L : Nat} {xs : Nat → Int32} (hL : L ≤ 3072) (C0 : lw_At p s m meth c b L xs) {I : Nat → Nat → Nat → zM → zM → Prop} (hAll : lwAll l I) {PC : Nat → zM → Prop} {rmC : Room} (hrm : rmC.frames + 1 ≤ 11 ∧ 8 + (1 + 11) + rmC.locals ≤ 404 ∧ rmC.cells ≤ 300 ∧ rmC.slots ≤ 20000) (hC : ∀ h0, zMet l yX7_init cX7_init 1 none rmC [.ref h0] (lM [(h0, .inr (7, [.null, .null, .null, .null, .null, .null, .null, .int 0, .int 0, .int 0, .int 0]))]) (fun v M' => v = none ∧ PC h0 M')) {w : Int32 × zS} (hw : r_init rσ1 = some w) (hI : ∀ a b Mc ad dec, PC a Mc → rG ad dec → ad 42 = b → I 0 a b Mc (mR ad dec w.2)) :
    W p l e room_1 s m #[Value.ref b] below meth c s.heap [] 0 0 (lw_Z below #[Value.ref b] s) (entryFrame m ([Value.ref b] : List Value).toArray 4) := by
  obtain ⟨hx, hb, hr, hml, hown, hts, hX, hbl, hlocks, hgv⟩ := C0
  have htsT : ∀ w ∈ zT, w.before #[Value.ref b] s = true := fun w h => hts w (List.mem_filter.mp h).1
  have hA : ∀ a : Nat, a < s.heap.size → ¬ zA (fun _ => none) s.heap.size a := fun a h q => q.elim (fun h => h rfl) (fun h2 => Nat.not_lt.mpr h2 h)
  obtain ⟨c0, iS0, hKn0⟩ := u_known (C := RX0) (T := TX0) (N := 2) (n := 2) htsT zinX0 (hts (.instantiable RX0 2) (List.mem_of_getElem? (i := 83) (by decide +kernel)))
  obtain ⟨c1, iS1, hKn1⟩ := u_known (C := RX1) (T := TX1) (N := 8) (n := 8) htsT zinX1 (hts (.instantiable RX1 8) (List.mem_of_getElem? (i := 478) (by decide +kernel)))
  obtain ⟨c2, iS2, hKn2⟩ := u_known (C := RX2) (T := TX2) (N := 2) (n := 2) htsT zinX2 (hts (.instantiable RX2 2) (List.mem_of_getElem? (i := 109) (by decide +kernel)))
  obtain ⟨c3, iS3, hKn3⟩ := u_known (C := RX3) (T := TX3) (N := 4) (n := 4) htsT zinX3 (hts (.instantiable RX3 4) (List.mem_of_getElem? (i := 305) (by decide +kernel)))
  obtain ⟨c4, iS4, hKn4⟩ := u_known (C := RX4) (T := TX4) (N := 9) (n := 9) htsT zinX4 (hts (.instantiable RX4 9) (List.mem_of_getElem? (i := 126) (by decide +kernel)))
  obtain ⟨c5, iS5, hKn5⟩ := u_known (C := RX5) (T := TX5) (N := 2) (n := 2) htsT zinX5 (hts (.instantiable RX5 2) (List.mem_of_getElem? (i := 68) (by decide +kernel)))
  obtain ⟨c6, iS6, hKn6⟩ := u_known (C := RX6) (T := TX6) (N := 10) (n := 10) htsT zinX6 (hts (.instantiable RX6 10) (List.mem_of_getElem? (i := 361) (by decide +kernel)))
  obtain ⟨c7, iS7, hKn7⟩ := u_known (C := RX7) (T := TX7) (N := 11) (n := 11) htsT zinX7 (hts (.instantiable RX7 11) (List.mem_of_getElem? (i := 60) (by decide +kernel)))
  obtain ⟨c8, iS8, hKn8⟩ := u_known (C := RX8) (T := TX8) (N := 42) (n := 42) htsT zinX8 (hts (.instantiable RX8 42) (List.mem_of_getElem? (i := 712) (by decide +kernel)))
  obtain ⟨t0, t1, t2, t3, t4, hst⟩ := lw_stat hts hgv hA
  have hXT : va_T .int b L (fun j => .int (nI (xs j).toBitVec.toNat)) (zA (fun _ => none) s.heap.size) s s.heap := by
    obtain ⟨scr, g1, g2, g3, g4, g5⟩ := hX
    exact ⟨scr, g1, g2, g3, by omega, by rw [g4], fun j hj => by rw [g5 j hj]; exact congrArg (fun z => some (Value.int z)) (nI_bits (xs j)).symm, hA b hbl⟩
  obtain ⟨D, hD1, hD2⟩ : ∃ D : va_G, D.1 = (fun k => if k = 0 then c0 else if k = 1 then c1 else if k = 2 then c2 else if k = 3 then c3 else if k = 4 then c4 else if k = 5 then c5 else if k = 6 then c6 else if k = 7 then c7 else c8) ∧ D.2 = (fun k => if k = 0 then iS0 else if k = 1 then iS1 else if k = 2 then iS2 else if k = 3 then iS3 else if k = 4 then iS4 else if k = 5 then iS5 else if k = 6 then iS6 else if k = 7 then iS7 else if k = 1000 then (fun q => if q = 0 then t0 else if q = 1 then t1 else if q = 2 then t2 else if q = 3 then t3 else if q = 4 then t4 else b) else if k = 1001 then (fun q => (xs q).toBitVec.toNat) else if k = 1002 then (fun _ => L) else iS8) := ⟨(_, _), rfl, rfl⟩
  have hK : zK D s := by
    refine ⟨fun k q hq => ?_, fun k q h => by simp at h⟩
    rw [hD1, hD2]
    match k, hq with
    | 0, hq => cases hq; exact hKn0
    | 1, hq => cases hq; exact hKn1
    | 2, hq => cases hq; exact hKn2
    | 3, hq => cases hq; exact hKn3
    | 4, hq => cases hq; exact hKn4
    | 5, hq => cases hq; exact hKn5
    | 6, hq => cases hq; exact hKn6
    | 7, hq => cases hq; exact hKn7
    | 8, hq => cases hq; exact hKn8
    | k + 9, hq => simp [vwCl] at hq
  have e0 : D.2 1000 0 = t0 := by rw [hD2]; rfl
  have e1 : D.2 1000 1 = t1 := by rw [hD2]; rfl
  have e2 : D.2 1000 2 = t2 := by rw [hD2]; rfl
  have e3 : D.2 1000 3 = t3 := by rw [hD2]; rfl
  have e4 : D.2 1000 4 = t4 := by rw [hD2]; rfl
  have e5 : D.2 1000 5 = b := by rw [hD2]; rfl
  have e6 : D.2 1002 0 = L := by rw [hD2]; rfl
  have e7 : D.2 1001 = fun q => (xs q).toBitVec.toNat := by rw [hD2]; rfl
  have hO : zO D (zA (fun _ => none) s.heap.size) s s.heap := by
    unfold zO
    rw [e0, e1, e2, e3, e4, e5, e6, e7]
    obtain ⟨k1, k2, k3, k4, k5, k6, k7, k8, k9, k10⟩ := hst
    exact ⟨k1, k2, k3, k4, k5, k6, k7, k8, k9, k10, hXT⟩
  have key := law_start hAll (D := D) (by rw [e6]; exact hL) hrm hC hw hI
  rw [e5] at key
  have hl := lv_entry ([.ref b]) (n := 4) (Nat.le_of_ble_eq_true rfl)
  rw [lg_entry_eq]
  generalize (lg_sl ([.ref b]) ++ List.replicate (4 - (lg_sl ([.ref b])).length) Slot.unset).toArray = ls at hl ⊢
  have W1 := key p e s m #[Value.ref b] below meth c ⟨hx, hb, hml, hr, hown, htsT, hK, hlocks, fun h => absurd h (by decide), hO⟩ s.heap [] ls ⟨hl, zCt_of _ ⟨rfl, trivial⟩⟩ (fun a e h => by cases h) (fun q h => absurd rfl h) va_S.rf
  intro T hT X
  obtain ⟨t, a1, o, b1, b2, ⟨⟨v, M', ho, hq, -, -⟩, -⟩, Lc, hF, hLc⟩ := W1 T hT X
  refine ⟨t, a1, o, b1, b2, by rw [ho, hq], hF.1, hF.2.1, hF.2.2.weaken (fun y hy hlt => ?_) (Nat.le_refl _) (Nat.le_refl _)⟩
  exact absurd hlt (Nat.not_lt.mpr ((hLc y hy).elim (fun h => absurd rfl h) id))
