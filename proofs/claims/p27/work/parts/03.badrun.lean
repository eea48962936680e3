set_option maxRecDepth 16384 in
theorem bd_words : ∀ c ∈ (Cond.code x code maxLocals ret :: tables_1), c.before start1.args0 bd_about = true := by
  intro c hc
  rcases List.mem_cons.mp hc with h | h
  · rw [h]; exact bd_code (s := start1.about) (k := bd_cls) rfl start1.word_code
  · have h1 : c ∈ tables_1_1 ++ (tables_1_2 ++ (tables_1_3 ++ (tables_1_4 ++ (tables_1_5 ++ (tables_1_6))))) := h
    rcases List.mem_append.mp h1 with h2 | h1
    · exact bd_w_1 c h2
    rcases List.mem_append.mp h1 with h2 | h1
    · exact bd_w_2 c h2
    rcases List.mem_append.mp h1 with h2 | h1
    · exact bd_w_3 c h2
    rcases List.mem_append.mp h1 with h2 | h1
    · exact bd_w_4 c h2
    rcases List.mem_append.mp h1 with h2 | h1
    · exact bd_w_5 c h2
    exact bd_w_6 c h1
set_option maxRecDepth 16384 in
/-- it is a start as the Statement has it -/
theorem bd_atStart : AtStart classFile x code maxLocals ret World_1 tables_1 room_1 Calls_1 rest_1 Pre_1 launch0 start1.p0 start1.e0 bd_about ⟨0, 0⟩ start1.args0 Lib.HandBits.below0 :=
  ⟨lists_1, trivial, launch0.admits_env _ _ _, launch0.least_env, fairChoices_fair.cas, fairChoices_fair.clock, rfl, by decide +kernel, by decide +kernel,
    (Spec.applies_iff rfl).mpr ⟨rfl, rfl, rfl, by decide +kernel, by decide +kernel, by decide +kernel, launch0.hasRoom_least _ room_1 (by decide +kernel) (by decide +kernel) (by decide +kernel) (by decide +kernel) (by decide +kernel) (by decide +kernel), atoms_intro bd_words⟩,
    trivial, (show rest_1_c.before start1.args0 bd_about = true by decide +kernel), (show (Cond.and given_1 narrow_1).before start1.args0 bd_about = true by decide +kernel)⟩
/-- along the run, up to where it stands still: never back at the invoker's one frame, and no longer running at the end -/
def bd_chk (tb : Tables) (e : Env) : Nat → State → Bool
  | 0, _ => false
  | n + 1, s => match s.status, s.curStatus?, s.alone with
    | .running, some .runnable, true => !(Nat.beq s.frames.length 1) && bd_chk tb e n (stepThread tb e s).1
    | _, _, _ => decide (s.status ≠ .running)
theorem bd_chk_ok {tb : Tables} {e : Env} : ∀ (n : Nat) (s : State), bd_chk tb e n s = true → ∀ k : Nat, ¬ ((stepsAlone tb e k s).status = .running ∧ (stepsAlone tb e k s).frames.length = 1)
  | 0, _, h, _ => by cases h
  | n + 1, s, h, k => by
    by_cases hg : s.goesOn
    · have h1 : (!(Nat.beq s.frames.length 1) && bd_chk tb e n (stepThread tb e s).1) = true := by
        simpa only [bd_chk, hg.1, hg.2.1, hg.2.2] using h
      obtain ⟨h2, h3⟩ := Bool.and_eq_true_iff.mp h1
      cases k with
      | zero =>
        intro q
        have e1 : s.frames.length = 1 := q.2
        rw [e1] at h2
        cases h2
      | succ k =>
        rw [stepsAlone_succ k hg]
        exact bd_chk_ok n _ h3 k
    · rw [stepsAlone_of_not_goesOn tb e hg]
      intro q
      unfold bd_chk at h
      split at h
      · rename_i a1 a2 a3
        exact hg ⟨a1, a2, a3⟩
      · exact (of_decide_eq_true h) q.1
set_option maxRecDepth 100000 in
/-- the run itself -/
theorem bd_run : bd_chk start1.p0.tables start1.e0 400 bd_about = true := by decide +kernel
/-- THE STATEMENT IS FALSE AS IT IS PRINTED: from that start the law does not return -/
theorem bd_false : ¬ Claimed_1_1 := by
  intro h
  obtain ⟨hL, hW, ha, -, hc, hk, hf, h1, h2, h3, h4, h5, h6⟩ := bd_atStart
  obtain ⟨n, o, -, hr, he, hp⟩ := h launch0 rfl hL hW start1.p0 start1.e0 ha hc hk bd_about ⟨0, 0⟩ start1.args0 Lib.HandBits.below0 hf h1 h2 h3 ⟨h4, h5, h6⟩
  have hret : limb_1_1.after start1.args0 bd_about o (stepsAlone start1.p0.tables start1.e0 n bd_about) = true := hp.1
  cases o with
  | threw a => simp [limb_1_1, Cond.after, Cond.holds, Cond.value] at hret
  | returned v =>
    refine bd_chk_ok 400 bd_about bd_run n ⟨hr, ?_⟩
    have e1 : (stepsAlone start1.p0.tables start1.e0 n bd_about).frames = [.native { method := ⟨0, 0⟩, args := #[], awaiting := false, answer := some (.returned v) }] := he
    rw [e1]
    rfl
/-- so what is owed can't be had -/
theorem bd_owed : ¬ (Claimed_1_1 ∧ Claimed_1_2) := fun h => bd_false h.1
