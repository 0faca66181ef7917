/-! A START THAT THE STATEMENT ALLOWS, AND FROM WHICH THE LAW DOES NOT COME TO ITS END.
The printed witness' own start, with one class more at the end of the tables: a second class whose kind is 'array of int', under another name than "[I", which has a method 'clone' of its own; and the array of the static RULE_FIRST is of that class. Every premise on RULE_FIRST (a reference to an array of int, its length, its elements) holds of it. -/
def bd_C : Class := { start1.cArr "[other" 15 .int with methods := #[Lib.HandJ.method "clone" "()Ljava/lang/Object;" [] (some (.object "java/lang/Object")) 0x1 1 ⟨#[0xfe]⟩] }
def bd_s : State := { start1.about with vm := { start1.about.vm with classes := start1.about.vm.classes.push bd_C }, heap := start1.about.heap.setIfInBounds 4 { cls := 17, slots := #[.int 8, .int 2, .int 1, .int 20, .int 5, .int 300], vm := .none } }
/-- the law's invocation has not ended: there is a frame above the invoker's, and it is not the note of an exception -/
def bd_ok (s : State) : Bool := match s.frames with
  | [] => false
  | [_] => false
  | .throwing _ :: _ => false
  | _ => true
/-- within so many steps the machine has halted, and until then bd_ok -/
def bd_chk (tb : Tables) (e : Env) : Nat → State → Bool
  | 0, _ => false
  | n + 1, s => match s.status with
    | .running => bd_ok s && (decide (s.curStatus? = some .runnable) && (s.alone && bd_chk tb e n (stepThread tb e s).1))
    | _ => true
theorem bd_never (tb : Tables) (e : Env) : ∀ (k : Nat) (s : State), bd_chk tb e k s = true → ∀ n, (stepsAlone tb e n s).status = .running → bd_ok (stepsAlone tb e n s) = true := by
  intro k
  induction k with
  | zero => intro s h; simp [bd_chk] at h
  | succ k ih =>
    intro s h n hr
    by_cases hs : s.status = .running
    · simp only [bd_chk, hs, Bool.and_eq_true, decide_eq_true_eq] at h
      obtain ⟨h1, h2, h3, h4⟩ := h
      cases n with
      | zero => exact h1
      | succ n =>
        have e1 : stepsAlone tb e (n + 1) s = stepsAlone tb e n (stepThread tb e s).1 := by simp only [stepsAlone, hs, h2, h3]
        rw [e1] at hr ⊢
        exact ih _ h4 n hr
    · have e1 : stepsAlone tb e n s = s := by
        cases n with
        | zero => rfl
        | succ n =>
          rw [stepsAlone]
          split
          · rename_i h1 _ _; exact absurd h1 hs
          · rfl
      rw [e1] at hr
      exact absurd hr hs
theorem bd_not_ended {s : State} {o : Outcome} (h : bd_ok s = true) : ¬ Ended s Lib.HandBits.below0 o := by
  intro he
  cases o with
  | threw a =>
    have h1 : s.frames = .throwing a :: Lib.HandBits.below0 := he
    simp [bd_ok, h1, Lib.HandBits.below0] at h
  | returned v =>
    have h1 : s.frames = .native { method := ⟨0, 0⟩, args := #[], awaiting := false, answer := some (.returned v) } :: [] := he
    simp [bd_ok, h1] at h
set_option maxRecDepth 100000 in
theorem bd_fits : argsFit bd_s.vm ⟨0, 0⟩ start1.args0 = true := by decide +kernel
set_option maxRecDepth 100000 in
theorem bd_heap : heapFits bd_s = true := by decide +kernel
set_option maxRecDepth 100000 in
theorem bd_rest : rest_1_c.before start1.args0 bd_s = true := by decide +kernel
set_option maxRecDepth 100000 in
theorem bd_pre : (Cond.and given_1 narrow_1).before start1.args0 bd_s = true := by decide +kernel
