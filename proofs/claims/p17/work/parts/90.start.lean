set_option maxRecDepth 16384
/-- a second array class of int, without a superclass -/
def zr_wild : Class := { start1.cArr "[I" 20 .int with super := none }
/-- the class of what the machine throws there: with it the throw ends -/
def zr_ame : Class := { Lib.HandJ.cls "java/lang/AbstractMethodError" #[] #[] 0x21 #[] #[Lib.HandJ.method "<init>" "()V" [] none 0x1 1 ⟨#[0xb1]⟩] #[] with super := some 1 }
def zr_vm : Vm := { start1.about.vm with classes := (start1.about.vm.classes.push zr_wild).push zr_ame }
/-- the witness's start with the empty script, and AT_FIRST's cell (number 5) of class 30 -/
def zr_s : State := { start1.aboutOf #[] with
  vm := zr_vm
  heap := (start1.aboutOf #[]).heap.setIfInBounds 5 { cls := 30, slots := #[.int 80, .int 4, .int 2, .int 6], vm := .none } }
def zr_run (n : Nat) : State := stepsAlone start1.p0.tables start1.e0 n zr_s
def zr_thrown (s : State) : Bool := match s.frames with
  | [.throwing _, .native _] => true
  | _ => false
theorem zr_len : ((List.range 40).all fun k => decide (1 < (zr_run k).frames.length)) = true := by decide +kernel
theorem zr_thr : zr_thrown (zr_run 39) = true := by decide +kernel
/-- where it happens: behind step 32 the machine stands in a method of class 4 (GiftRing$Custom) at 8, the clone; its first method is the constructor -/
def zr_here (s : State) : Bool := match s.frames with
  | .java f :: _ => f.method.cls == 4 && f.method.idx == 0 && f.pc == 8
  | _ => false
theorem zr_at_clone : zr_here (zr_run 32) = true := by decide +kernel
/-- what it throws: an object of class 31, AbstractMethodError -/
def zr_what (s : State) : Bool := match s.frames with
  | .throwing a :: _ => (s.heap[a]?).any fun c => c.cls == 31
  | _ => false
theorem zr_is_ame : zr_what (zr_run 39) = true := by decide +kernel
theorem zr_names : ((zr_vm.classes[4]?).map fun k => (k.name, (k.methods[0]?).map fun m => m.name)) = some ("GiftRing$Custom", some "<init>") ∧ ((zr_vm.classes[31]?).map fun k => k.name) = some "java/lang/AbstractMethodError" := by decide +kernel
