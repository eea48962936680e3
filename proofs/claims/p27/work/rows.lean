section
/-! A START THAT THE STATEMENT ALLOWS, AND FROM WHICH THE LAW DOES NOT COME TO ITS END. It is the printed witness's start but for two things:
the tables hold one class more, number 35, a class of arrays of int beside that called "[I" (another name, its own method clone, whose code is no instruction);
and the array at cell 5, which the static GreatWave$Law.AT_FIRST holds, is of that class. Every premise holds there: of that array the Statement says
'arrayOf .. int', its length and its elements, and not which class it is of. -/
def bd_cls : Class := { start1.cArr "[I.." 23 .int with super := none, methods := #[Lib.HandJ.method "clone" "()Ljava/lang/Object;" [] (some (.object "java/lang/Object")) 0x1 1 ⟨#[0xff]⟩] }
def bd_vm : Vm := { start1.about.vm with classes := start1.about.vm.classes.push bd_cls }
def bd_about : State := { start1.about with vm := bd_vm, heap := start1.about.heap.setIfInBounds 5 { cls := 35, slots := #[.int 30, .int 100, .int 180, .int 120, .int 5], vm := .none } }
theorem bd_fc {vm vm' : Vm} {k : Class} (h : vm'.classes = vm.classes.push k) {n : String} {c : ClassId} (hc : vm.findClass n = some c) : vm'.findClass n = some c := by
  unfold Vm.findClass at hc ⊢
  rw [h, Array.findIdx?_push, hc]
  rfl
theorem bd_ck {vm vm' : Vm} {k : Class} (h : vm'.classes = vm.classes.push k) {c : ClassId} {q : Class} (hq : vm.classes[c]? = some q) : vm'.classes[c]? = some q := by
  have hl := (Array.getElem?_eq_some_iff.mp hq).1
  rw [h, Array.getElem?_push, if_neg (Nat.ne_of_lt hl)]
  exact hq
/-- a method's code: a class more leaves it as it is -/
theorem bd_code {s t : State} {a : Array Value} {k : Class} (hv : t.vm.classes = s.vm.classes.push k) {x : MethodName} {bytes : ByteArray} {maxL : Nat} {ret : Option FieldType} (h : (Cond.code x bytes maxL ret).before a s = true) : (Cond.code x bytes maxL ret).before a t = true := by
  have hm : ∃ (m : MethodId) (meth : Method), s.methodNamed? x = some m ∧ s.vm.method? m = some meth := by
    simp only [Cond.before, Cond.holds, Cond.value] at h
    cases hm : s.methodNamed? x with
    | none => simp [hm] at h
    | some m =>
      cases hq : s.vm.method? m with
      | none => simp [hm, hq] at h
      | some meth => exact ⟨m, meth, rfl, hq⟩
  obtain ⟨m, meth, h1, h2⟩ := hm
  have g1 : t.methodNamed? x = some m := by
    unfold State.methodNamed? at h1 ⊢
    cases hc : s.vm.findClass x.cls with
    | none => rw [hc] at h1; cases h1
    | some c =>
      rw [hc] at h1
      rw [bd_fc hv hc]
      cases hk : s.vm.classes[c]? with
      | none => rw [Option.bind_eq_bind, Option.bind_some, hk] at h1; cases h1
      | some q =>
        rw [Option.bind_eq_bind, Option.bind_some, hk] at h1
        rw [Option.bind_eq_bind, Option.bind_some, bd_ck hv hk]
        exact h1
  have g2 : t.vm.method? m = some meth := by
    unfold Vm.method? at h2 ⊢
    cases hk : s.vm.classes[m.cls]? with
    | none => rw [hk] at h2; cases h2
    | some q =>
      rw [hk] at h2
      rw [bd_ck hv hk]
      exact h2
  simp only [Cond.before, Cond.holds, Cond.value, h1, h2, g1, g2, Option.bind_some, Option.map_some] at h ⊢
  exact h
theorem bd_codes (l : List Jvm.Cond) (hl : ∀ c ∈ l, c.before start1.args0 start1.about = true) : ∀ c ∈ l.filter su_isCode, c.before start1.args0 bd_about = true := by
  intro c hc
  obtain ⟨h1, h2⟩ := List.mem_filter.mp hc
  cases c with
  | code x bytes maxL ret => exact bd_code (s := start1.about) (k := bd_cls) rfl (hl _ h1)
  | _ => cases h2
end
section
set_option maxRecDepth 16384 in
theorem bd_o_1_0 : (tables_1_1.take 40).all (fun c => su_isCode c || c.before start1.args0 bd_about) = true := by decide +kernel
set_option maxRecDepth 16384 in
theorem bd_o_1_1 : ((tables_1_1.drop 40).take 40).all (fun c => su_isCode c || c.before start1.args0 bd_about) = true := by decide +kernel
set_option maxRecDepth 16384 in
theorem bd_o_1_2 : (((tables_1_1.drop 40).drop 40).take 40).all (fun c => su_isCode c || c.before start1.args0 bd_about) = true := by decide +kernel
set_option maxRecDepth 16384 in
theorem bd_o_1_3 : ((((tables_1_1.drop 40).drop 40).drop 40).take 40).all (fun c => su_isCode c || c.before start1.args0 bd_about) = true := by decide +kernel
set_option maxRecDepth 16384 in
theorem bd_o_1_4 : (((((tables_1_1.drop 40).drop 40).drop 40).drop 40).take 40).all (fun c => su_isCode c || c.before start1.args0 bd_about) = true := by decide +kernel
set_option maxRecDepth 16384 in
theorem bd_o_1_5 : (((((tables_1_1.drop 40).drop 40).drop 40).drop 40).drop 40).all (fun c => su_isCode c || c.before start1.args0 bd_about) = true := by decide +kernel
theorem bd_w_1 : ∀ c ∈ tables_1_1, c.before start1.args0 bd_about = true := fun c h => su_words (start1.su_all_split _ 40 tables_1_1 bd_o_1_0 (start1.su_all_split _ 40 (tables_1_1.drop 40) bd_o_1_1 (start1.su_all_split _ 40 ((tables_1_1.drop 40).drop 40) bd_o_1_2 (start1.su_all_split _ 40 (((tables_1_1.drop 40).drop 40).drop 40) bd_o_1_3 (start1.su_all_split _ 40 ((((tables_1_1.drop 40).drop 40).drop 40).drop 40) bd_o_1_4 bd_o_1_5))))) (bd_codes tables_1_1 start1.words_1) c h
set_option maxRecDepth 16384 in
theorem bd_o_2_0 : (tables_1_2.take 40).all (fun c => su_isCode c || c.before start1.args0 bd_about) = true := by decide +kernel
set_option maxRecDepth 16384 in
theorem bd_o_2_1 : ((tables_1_2.drop 40).take 40).all (fun c => su_isCode c || c.before start1.args0 bd_about) = true := by decide +kernel
set_option maxRecDepth 16384 in
theorem bd_o_2_2 : (((tables_1_2.drop 40).drop 40).take 40).all (fun c => su_isCode c || c.before start1.args0 bd_about) = true := by decide +kernel
set_option maxRecDepth 16384 in
theorem bd_o_2_3 : ((((tables_1_2.drop 40).drop 40).drop 40).take 40).all (fun c => su_isCode c || c.before start1.args0 bd_about) = true := by decide +kernel
set_option maxRecDepth 16384 in
theorem bd_o_2_4 : (((((tables_1_2.drop 40).drop 40).drop 40).drop 40).take 40).all (fun c => su_isCode c || c.before start1.args0 bd_about) = true := by decide +kernel
set_option maxRecDepth 16384 in
theorem bd_o_2_5 : (((((tables_1_2.drop 40).drop 40).drop 40).drop 40).drop 40).all (fun c => su_isCode c || c.before start1.args0 bd_about) = true := by decide +kernel
theorem bd_w_2 : ∀ c ∈ tables_1_2, c.before start1.args0 bd_about = true := fun c h => su_words (start1.su_all_split _ 40 tables_1_2 bd_o_2_0 (start1.su_all_split _ 40 (tables_1_2.drop 40) bd_o_2_1 (start1.su_all_split _ 40 ((tables_1_2.drop 40).drop 40) bd_o_2_2 (start1.su_all_split _ 40 (((tables_1_2.drop 40).drop 40).drop 40) bd_o_2_3 (start1.su_all_split _ 40 ((((tables_1_2.drop 40).drop 40).drop 40).drop 40) bd_o_2_4 bd_o_2_5))))) (bd_codes tables_1_2 start1.words_2) c h
set_option maxRecDepth 16384 in
theorem bd_o_3_0 : (tables_1_3.take 40).all (fun c => su_isCode c || c.before start1.args0 bd_about) = true := by decide +kernel
set_option maxRecDepth 16384 in
theorem bd_o_3_1 : ((tables_1_3.drop 40).take 40).all (fun c => su_isCode c || c.before start1.args0 bd_about) = true := by decide +kernel
set_option maxRecDepth 16384 in
theorem bd_o_3_2 : (((tables_1_3.drop 40).drop 40).take 40).all (fun c => su_isCode c || c.before start1.args0 bd_about) = true := by decide +kernel
set_option maxRecDepth 16384 in
theorem bd_o_3_3 : ((((tables_1_3.drop 40).drop 40).drop 40).take 40).all (fun c => su_isCode c || c.before start1.args0 bd_about) = true := by decide +kernel
set_option maxRecDepth 16384 in
theorem bd_o_3_4 : (((((tables_1_3.drop 40).drop 40).drop 40).drop 40).take 40).all (fun c => su_isCode c || c.before start1.args0 bd_about) = true := by decide +kernel
set_option maxRecDepth 16384 in
theorem bd_o_3_5 : (((((tables_1_3.drop 40).drop 40).drop 40).drop 40).drop 40).all (fun c => su_isCode c || c.before start1.args0 bd_about) = true := by decide +kernel
theorem bd_w_3 : ∀ c ∈ tables_1_3, c.before start1.args0 bd_about = true := fun c h => su_words (start1.su_all_split _ 40 tables_1_3 bd_o_3_0 (start1.su_all_split _ 40 (tables_1_3.drop 40) bd_o_3_1 (start1.su_all_split _ 40 ((tables_1_3.drop 40).drop 40) bd_o_3_2 (start1.su_all_split _ 40 (((tables_1_3.drop 40).drop 40).drop 40) bd_o_3_3 (start1.su_all_split _ 40 ((((tables_1_3.drop 40).drop 40).drop 40).drop 40) bd_o_3_4 bd_o_3_5))))) (bd_codes tables_1_3 start1.words_3) c h
set_option maxRecDepth 16384 in
theorem bd_o_4_0 : (tables_1_4.take 40).all (fun c => su_isCode c || c.before start1.args0 bd_about) = true := by decide +kernel
set_option maxRecDepth 16384 in
theorem bd_o_4_1 : ((tables_1_4.drop 40).take 40).all (fun c => su_isCode c || c.before start1.args0 bd_about) = true := by decide +kernel
set_option maxRecDepth 16384 in
theorem bd_o_4_2 : (((tables_1_4.drop 40).drop 40).take 40).all (fun c => su_isCode c || c.before start1.args0 bd_about) = true := by decide +kernel
set_option maxRecDepth 16384 in
theorem bd_o_4_3 : ((((tables_1_4.drop 40).drop 40).drop 40).take 40).all (fun c => su_isCode c || c.before start1.args0 bd_about) = true := by decide +kernel
set_option maxRecDepth 16384 in
theorem bd_o_4_4 : (((((tables_1_4.drop 40).drop 40).drop 40).drop 40).take 40).all (fun c => su_isCode c || c.before start1.args0 bd_about) = true := by decide +kernel
set_option maxRecDepth 16384 in
theorem bd_o_4_5 : (((((tables_1_4.drop 40).drop 40).drop 40).drop 40).drop 40).all (fun c => su_isCode c || c.before start1.args0 bd_about) = true := by decide +kernel
theorem bd_w_4 : ∀ c ∈ tables_1_4, c.before start1.args0 bd_about = true := fun c h => su_words (start1.su_all_split _ 40 tables_1_4 bd_o_4_0 (start1.su_all_split _ 40 (tables_1_4.drop 40) bd_o_4_1 (start1.su_all_split _ 40 ((tables_1_4.drop 40).drop 40) bd_o_4_2 (start1.su_all_split _ 40 (((tables_1_4.drop 40).drop 40).drop 40) bd_o_4_3 (start1.su_all_split _ 40 ((((tables_1_4.drop 40).drop 40).drop 40).drop 40) bd_o_4_4 bd_o_4_5))))) (bd_codes tables_1_4 start1.words_4) c h
set_option maxRecDepth 16384 in
theorem bd_o_5_0 : (tables_1_5.take 40).all (fun c => su_isCode c || c.before start1.args0 bd_about) = true := by decide +kernel
set_option maxRecDepth 16384 in
theorem bd_o_5_1 : ((tables_1_5.drop 40).take 40).all (fun c => su_isCode c || c.before start1.args0 bd_about) = true := by decide +kernel
set_option maxRecDepth 16384 in
theorem bd_o_5_2 : (((tables_1_5.drop 40).drop 40).take 40).all (fun c => su_isCode c || c.before start1.args0 bd_about) = true := by decide +kernel
set_option maxRecDepth 16384 in
theorem bd_o_5_3 : ((((tables_1_5.drop 40).drop 40).drop 40).take 40).all (fun c => su_isCode c || c.before start1.args0 bd_about) = true := by decide +kernel
set_option maxRecDepth 16384 in
theorem bd_o_5_4 : (((((tables_1_5.drop 40).drop 40).drop 40).drop 40).take 40).all (fun c => su_isCode c || c.before start1.args0 bd_about) = true := by decide +kernel
set_option maxRecDepth 16384 in
theorem bd_o_5_5 : (((((tables_1_5.drop 40).drop 40).drop 40).drop 40).drop 40).all (fun c => su_isCode c || c.before start1.args0 bd_about) = true := by decide +kernel
theorem bd_w_5 : ∀ c ∈ tables_1_5, c.before start1.args0 bd_about = true := fun c h => su_words (start1.su_all_split _ 40 tables_1_5 bd_o_5_0 (start1.su_all_split _ 40 (tables_1_5.drop 40) bd_o_5_1 (start1.su_all_split _ 40 ((tables_1_5.drop 40).drop 40) bd_o_5_2 (start1.su_all_split _ 40 (((tables_1_5.drop 40).drop 40).drop 40) bd_o_5_3 (start1.su_all_split _ 40 ((((tables_1_5.drop 40).drop 40).drop 40).drop 40) bd_o_5_4 bd_o_5_5))))) (bd_codes tables_1_5 start1.words_5) c h
set_option maxRecDepth 16384 in
theorem bd_o_6_0 : (tables_1_6.take 40).all (fun c => su_isCode c || c.before start1.args0 bd_about) = true := by decide +kernel
set_option maxRecDepth 16384 in
theorem bd_o_6_1 : (tables_1_6.drop 40).all (fun c => su_isCode c || c.before start1.args0 bd_about) = true := by decide +kernel
theorem bd_w_6 : ∀ c ∈ tables_1_6, c.before start1.args0 bd_about = true := fun c h => su_words (start1.su_all_split _ 40 tables_1_6 bd_o_6_0 bd_o_6_1) (bd_codes tables_1_6 start1.words_6) c h
end
section
set_option maxRecDepth 16384 in
theorem bd_words : ∀ c ∈ (Cond.code x code maxLocals ret :: tables_1), c.before start1.args0 bd_about = true := by
  intro c hc
  rcases List.mem_cons.mp hc with h | h
  · rw [h]; exact bd_code (s := start1.about) (k := bd_cls) rfl start1.word_code
  · have h1 : c ∈ tables_1_1 ++ (tables_1_2 ++ (tables_1_3 ++ (tables_1_4 ++ (tables_1_5 ++ (tables_1_6))))) := h
    rcases List.mem_append.mp h1 with h2 | h1
    · exact bd_w_1 c h2
    rcases List.mem_append.mp h1 with h2 | h1
    · exact bd_w_2 c h2
    rcases List.mem_append.mp h1 with h2 | h1
    · exact bd_w_3 c h2
    rcases List.mem_append.mp h1 with h2 | h1
    · exact bd_w_4 c h2
    rcases List.mem_append.mp h1 with h2 | h1
    · exact bd_w_5 c h2
    exact bd_w_6 c h1
set_option maxRecDepth 16384 in
/-- it is a start as the Statement has it -/
theorem bd_atStart : AtStart classFile x code maxLocals ret World_1 tables_1 room_1 Calls_1 rest_1 Pre_1 launch0 start1.p0 start1.e0 bd_about ⟨0, 0⟩ start1.args0 Lib.HandBits.below0 :=
  ⟨lists_1, trivial, launch0.admits_env _ _ _, launch0.least_env, fairChoices_fair.cas, fairChoices_fair.clock, rfl, by decide +kernel, by decide +kernel,
    (Spec.applies_iff rfl).mpr ⟨rfl, rfl, rfl, by decide +kernel, by decide +kernel, by decide +kernel, launch0.hasRoom_least _ room_1 (by decide +kernel) (by decide +kernel) (by decide +kernel) (by decide +kernel) (by decide +kernel) (by decide +kernel), atoms_intro bd_words⟩,
    trivial, (show rest_1_c.before start1.args0 bd_about = true by decide +kernel), (show (Cond.and given_1 narrow_1).before start1.args0 bd_about = true by decide +kernel)⟩
/-- along the run, up to where it stands still: never back at the invoker's one frame, and no longer running at the end -/
def bd_chk (tb : Tables) (e : Env) : Nat → State → Bool
  | 0, _ => false
  | n + 1, s => match s.status, s.curStatus?, s.alone with
    | .running, some .runnable, true => !(Nat.beq s.frames.length 1) && bd_chk tb e n (stepThread tb e s).1
    | _, _, _ => decide (s.status ≠ .running)
theorem bd_chk_ok {tb : Tables} {e : Env} : ∀ (n : Nat) (s : State), bd_chk tb e n s = true → ∀ k : Nat, ¬ ((stepsAlone tb e k s).status = .running ∧ (stepsAlone tb e k s).frames.length = 1)
  | 0, _, h, _ => by cases h
  | n + 1, s, h, k => by
    by_cases hg : s.goesOn
    · have h1 : (!(Nat.beq s.frames.length 1) && bd_chk tb e n (stepThread tb e s).1) = true := by
        simpa only [bd_chk, hg.1, hg.2.1, hg.2.2] using h
      obtain ⟨h2, h3⟩ := Bool.and_eq_true_iff.mp h1
      cases k with
      | zero =>
        intro q
        have e1 : s.frames.length = 1 := q.2
        rw [e1] at h2
        cases h2
      | succ k =>
        rw [stepsAlone_succ k hg]
        exact bd_chk_ok n _ h3 k
    · rw [stepsAlone_of_not_goesOn tb e hg]
      intro q
      unfold bd_chk at h
      split at h
      · rename_i a1 a2 a3
        exact hg ⟨a1, a2, a3⟩
      · exact (of_decide_eq_true h) q.1
set_option maxRecDepth 100000 in
/-- the run itself -/
theorem bd_run : bd_chk start1.p0.tables start1.e0 400 bd_about = true := by decide +kernel
/-- THE STATEMENT IS FALSE AS IT IS PRINTED: from that start the law does not return -/
theorem bd_false : ¬ Claimed_1_1 := by
  intro h
  obtain ⟨hL, hW, ha, -, hc, hk, hf, h1, h2, h3, h4, h5, h6⟩ := bd_atStart
  obtain ⟨n, o, -, hr, he, hp⟩ := h launch0 rfl hL hW start1.p0 start1.e0 ha hc hk bd_about ⟨0, 0⟩ start1.args0 Lib.HandBits.below0 hf h1 h2 h3 ⟨h4, h5, h6⟩
  have hret : limb_1_1.after start1.args0 bd_about o (stepsAlone start1.p0.tables start1.e0 n bd_about) = true := hp.1
  cases o with
  | threw a => simp [limb_1_1, Cond.after, Cond.holds, Cond.value] at hret
  | returned v =>
    refine bd_chk_ok 400 bd_about bd_run n ⟨hr, ?_⟩
    have e1 : (stepsAlone start1.p0.tables start1.e0 n bd_about).frames = [.native { method := ⟨0, 0⟩, args := #[], awaiting := false, answer := some (.returned v) }] := he
    rw [e1]
    rfl
/-- so what is owed can't be had -/
theorem bd_owed : ¬ (Claimed_1_1 ∧ Claimed_1_2) := fun h => bd_false h.1
end
