set_option maxRecDepth 16384
theorem zr_named {s t : State} {a b : Class} (hv : t.vm.classes = (s.vm.classes.push a).push b) {x : MethodName} {m : MethodId} (h : s.methodNamed? x = some m) : t.methodNamed? x = some m := by
  unfold State.methodNamed? at h ⊢
  cases hc : s.vm.findClass x.cls with
  | none => simp [hc] at h
  | some c =>
    have h1 : t.vm.findClass x.cls = some c := by
      unfold Vm.findClass at hc ⊢
      rw [hv, Array.findIdx?_push, Array.findIdx?_push, hc]
      rfl
    have hlt : c < s.vm.classes.size := by
      unfold Vm.findClass at hc
      exact (Array.findIdx?_eq_some_iff_getElem.mp hc).1
    have h2 : t.vm.classes[c]? = s.vm.classes[c]? := by
      have q1 : ¬ c = (s.vm.classes.push a).size := Nat.ne_of_lt (by rw [Array.size_push]; exact Nat.lt_succ_of_lt hlt)
      have q2 : ¬ c = s.vm.classes.size := Nat.ne_of_lt hlt
      rw [hv, Array.getElem?_push, if_neg q1, Array.getElem?_push, if_neg q2]
    rw [hc] at h
    rw [h1]
    simpa [h2] using h
theorem zr_meth {s t : State} {a b : Class} (hv : t.vm.classes = (s.vm.classes.push a).push b) {m : MethodId} {y : Method} (h : s.vm.method? m = some y) : t.vm.method? m = some y := by
  unfold Vm.method? at h ⊢
  have hlt : m.cls < s.vm.classes.size := by
    rcases Nat.lt_or_ge m.cls s.vm.classes.size with q | q
    · exact q
    · rw [Array.getElem?_eq_none q] at h
      cases h
  have h2 : t.vm.classes[m.cls]? = s.vm.classes[m.cls]? := by
    have q1 : ¬ m.cls = (s.vm.classes.push a).size := Nat.ne_of_lt (by rw [Array.size_push]; exact Nat.lt_succ_of_lt hlt)
    have q2 : ¬ m.cls = s.vm.classes.size := Nat.ne_of_lt hlt
    rw [hv, Array.getElem?_push, if_neg q1, Array.getElem?_push, if_neg q2]
  rw [h2]
  exact h
theorem zr_code {s t : State} {a b : Class} (hv : t.vm.classes = (s.vm.classes.push a).push b) {g : Array Value} {x : MethodName} {bytes : ByteArray} {ml : Nat} {r : Option FieldType}
    (h : (Cond.code x bytes ml r).before g s = true) : (Cond.code x bytes ml r).before g t = true := by
  simp only [Cond.before, Cond.holds, Cond.value] at h ⊢
  cases hm : s.methodNamed? x with
  | none => simp [hm] at h
  | some m =>
    cases hq : s.vm.method? m with
    | none => simp [hm, hq] at h
    | some y =>
      rw [zr_named hv hm]
      rw [hm] at h
      simp only [Option.bind_some, hq] at h
      simp only [Option.bind_some, zr_meth hv hq]
      exact h
theorem zr_isCode {s t : State} {a b : Class} (hv : t.vm.classes = (s.vm.classes.push a).push b) {g : Array Value} {c : Cond} (hq : su_isCode c = true) (h : c.before g s = true) : c.before g t = true := by
  cases c <;> first | exact zr_code hv h | (exfalso; revert hq; simp [su_isCode])
theorem zr_hv : zr_s.vm.classes = (start1.about.vm.classes.push zr_wild).push zr_ame := rfl
theorem zr_codes {l : List Cond} (h : ∀ c ∈ l, c.before start1.args0 start1.about = true) : ∀ c ∈ l.filter su_isCode, c.before start1.args0 zr_s = true := fun c hc =>
  zr_isCode zr_hv (List.mem_filter.mp hc).2 (h c (List.mem_filter.mp hc).1)
