/-! A START THAT THE STATEMENT ALLOWS, AND FROM WHICH THE LAW DOES NOT COME TO ITS END. It is the printed witness's start but for two things:
the tables hold one class more, number 35, a class of arrays of int beside that called "[I" (another name, its own method clone, whose code is no instruction);
and the array at cell 5, which the static GreatWave$Law.AT_FIRST holds, is of that class. Every premise holds there: of that array the Statement says
'arrayOf .. int', its length and its elements, and not which class it is of. -/
def bd_cls : Class := { start1.cArr "[I.." 23 .int with super := none, methods := #[Lib.HandJ.method "clone" "()Ljava/lang/Object;" [] (some (.object "java/lang/Object")) 0x1 1 ⟨#[0xff]⟩] }
def bd_vm : Vm := { start1.about.vm with classes := start1.about.vm.classes.push bd_cls }
def bd_about : State := { start1.about with vm := bd_vm, heap := start1.about.heap.setIfInBounds 5 { cls := 35, slots := #[.int 30, .int 100, .int 180, .int 120, .int 5], vm := .none } }
theorem bd_fc {vm vm' : Vm} {k : Class} (h : vm'.classes = vm.classes.push k) {n : String} {c : ClassId} (hc : vm.findClass n = some c) : vm'.findClass n = some c := by
  unfold Vm.findClass at hc ⊢
  rw [h, Array.findIdx?_push, hc]
  rfl
theorem bd_ck {vm vm' : Vm} {k : Class} (h : vm'.classes = vm.classes.push k) {c : ClassId} {q : Class} (hq : vm.classes[c]? = some q) : vm'.classes[c]? = some q := by
  have hl := (Array.getElem?_eq_some_iff.mp hq).1
  rw [h, Array.getElem?_push, if_neg (Nat.ne_of_lt hl)]
  exact hq
/-- a method's code: a class more leaves it as it is -/
theorem bd_code {s t : State} {a : Array Value} {k : Class} (hv : t.vm.classes = s.vm.classes.push k) {x : MethodName} {bytes : ByteArray} {maxL : Nat} {ret : Option FieldType} (h : (Cond.code x bytes maxL ret).before a s = true) : (Cond.code x bytes maxL ret).before a t = true := by
  have hm : ∃ (m : MethodId) (meth : Method), s.methodNamed? x = some m ∧ s.vm.method? m = some meth := by
    simp only [Cond.before, Cond.holds, Cond.value] at h
    cases hm : s.methodNamed? x with
    | none => simp [hm] at h
    | some m =>
      cases hq : s.vm.method? m with
      | none => simp [hm, hq] at h
      | some meth => exact ⟨m, meth, rfl, hq⟩
  obtain ⟨m, meth, h1, h2⟩ := hm
  have g1 : t.methodNamed? x = some m := by
    unfold State.methodNamed? at h1 ⊢
    cases hc : s.vm.findClass x.cls with
    | none => rw [hc] at h1; cases h1
    | some c =>
      rw [hc] at h1
      rw [bd_fc hv hc]
      cases hk : s.vm.classes[c]? with
      | none => rw [Option.bind_eq_bind, Option.bind_some, hk] at h1; cases h1
      | some q =>
        rw [Option.bind_eq_bind, Option.bind_some, hk] at h1
        rw [Option.bind_eq_bind, Option.bind_some, bd_ck hv hk]
        exact h1
  have g2 : t.vm.method? m = some meth := by
    unfold Vm.method? at h2 ⊢
    cases hk : s.vm.classes[m.cls]? with
    | none => rw [hk] at h2; cases h2
    | some q =>
      rw [hk] at h2
      rw [bd_ck hv hk]
      exact h2
  simp only [Cond.before, Cond.holds, Cond.value, h1, h2, g1, g2, Option.bind_some, Option.map_some] at h ⊢
  exact h
theorem bd_codes (l : List Jvm.Cond) (hl : ∀ c ∈ l, c.before start1.args0 start1.about = true) : ∀ c ∈ l.filter su_isCode, c.before start1.args0 bd_about = true := by
  intro c hc
  obtain ⟨h1, h2⟩ := List.mem_filter.mp hc
  cases c with
  | code x bytes maxL ret => exact bd_code (s := start1.about) (k := bd_cls) rfl (hl _ h1)
  | _ => cases h2
