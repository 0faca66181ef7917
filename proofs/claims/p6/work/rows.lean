section
/-! A START THAT THE STATEMENT ALLOWS, AND FROM WHICH THE LAW DOES NOT COME TO ITS END.
The printed witness' own start, with one class more at the end of the tables: a second class whose kind is 'array of int', under another name than "[I", which has a method 'clone' of its own; and the array of the static RULE_FIRST is of that class. Every premise on RULE_FIRST (a reference to an array of int, its length, its elements) holds of it. -/
def bd_C : Class := { start1.cArr "[other" 15 .int with methods := #[Lib.HandJ.method "clone" "()Ljava/lang/Object;" [] (some (.object "java/lang/Object")) 0x1 1 ⟨#[0xfe]⟩] }
def bd_s : State := { start1.about with vm := { start1.about.vm with classes := start1.about.vm.classes.push bd_C }, heap := start1.about.heap.setIfInBounds 4 { cls := 17, slots := #[.int 8, .int 2, .int 1, .int 20, .int 5, .int 300], vm := .none } }
/-- the law's invocation has not ended: there is a frame above the invoker's, and it is not the note of an exception -/
def bd_ok (s : State) : Bool := match s.frames with
  | [] => false
  | [_] => false
  | .throwing _ :: _ => false
  | _ => true
/-- within so many steps the machine has halted, and until then bd_ok -/
def bd_chk (tb : Tables) (e : Env) : Nat → State → Bool
  | 0, _ => false
  | n + 1, s => match s.status with
    | .running => bd_ok s && (decide (s.curStatus? = some .runnable) && (s.alone && bd_chk tb e n (stepThread tb e s).1))
    | _ => true
theorem bd_never (tb : Tables) (e : Env) : ∀ (k : Nat) (s : State), bd_chk tb e k s = true → ∀ n, (stepsAlone tb e n s).status = .running → bd_ok (stepsAlone tb e n s) = true := by
  intro k
  induction k with
  | zero => intro s h; simp [bd_chk] at h
  | succ k ih =>
    intro s h n hr
    by_cases hs : s.status = .running
    · simp only [bd_chk, hs, Bool.and_eq_true, decide_eq_true_eq] at h
      obtain ⟨h1, h2, h3, h4⟩ := h
      cases n with
      | zero => exact h1
      | succ n =>
        have e1 : stepsAlone tb e (n + 1) s = stepsAlone tb e n (stepThread tb e s).1 := by simp only [stepsAlone, hs, h2, h3]
        rw [e1] at hr ⊢
        exact ih _ h4 n hr
    · have e1 : stepsAlone tb e n s = s := by
        cases n with
        | zero => rfl
        | succ n =>
          rw [stepsAlone]
          split
          · rename_i h1 _ _; exact absurd h1 hs
          · rfl
      rw [e1] at hr
      exact absurd hr hs
theorem bd_not_ended {s : State} {o : Outcome} (h : bd_ok s = true) : ¬ Ended s Lib.HandBits.below0 o := by
  intro he
  cases o with
  | threw a =>
    have h1 : s.frames = .throwing a :: Lib.HandBits.below0 := he
    simp [bd_ok, h1, Lib.HandBits.below0] at h
  | returned v =>
    have h1 : s.frames = .native { method := ⟨0, 0⟩, args := #[], awaiting := false, answer := some (.returned v) } :: [] := he
    simp [bd_ok, h1] at h
set_option maxRecDepth 100000 in
theorem bd_fits : argsFit bd_s.vm ⟨0, 0⟩ start1.args0 = true := by decide +kernel
set_option maxRecDepth 100000 in
theorem bd_heap : heapFits bd_s = true := by decide +kernel
set_option maxRecDepth 100000 in
theorem bd_rest : rest_1_c.before start1.args0 bd_s = true := by decide +kernel
set_option maxRecDepth 100000 in
theorem bd_pre : (Cond.and given_1 narrow_1).before start1.args0 bd_s = true := by decide +kernel
end
section
set_option maxRecDepth 100000 in
/-- from that start the machine halts within 120 steps, in the first instruction of the other class' own 'clone', and the law's invocation has not ended -/
theorem bd_walk : bd_chk start1.p0.tables start1.e0 120 bd_s = true := by decide +kernel
/-- the words of the tables: the class that is more stands behind all others, so that every name is found where it was -/
theorem bd_class {n : String} {c : ClassId} (h : start1.about.vm.findClass n = some c) : bd_s.vm.findClass n = some c := by
  simp only [Vm.findClass] at h ⊢
  rw [show bd_s.vm.classes = start1.about.vm.classes.push bd_C from rfl, Array.findIdx?_push, h]
  rfl
theorem bd_cls {c : Nat} {k : Class} (h : start1.about.vm.classes[c]? = some k) : bd_s.vm.classes[c]? = some k := by
  have hl : c < start1.about.vm.classes.size := (Array.getElem?_eq_some_iff.mp h).1
  rw [show bd_s.vm.classes = start1.about.vm.classes.push bd_C from rfl, Array.getElem?_push, if_neg (Nat.ne_of_lt hl)]
  exact h
theorem bd_named {y : MethodName} {m : MethodId} (h : start1.about.methodNamed? y = some m) : bd_s.methodNamed? y = some m := by
  simp only [State.methodNamed?, Option.bind_eq_bind, Option.bind_eq_some_iff] at h ⊢
  obtain ⟨c, hc, k, hk, i, hi, he⟩ := h
  exact ⟨c, bd_class hc, k, bd_cls hk, i, hi, he⟩
theorem bd_method {m : MethodId} {x : Method} (h : start1.about.vm.method? m = some x) : bd_s.vm.method? m = some x := by
  simp only [Vm.method?, Option.bind_eq_bind, Option.bind_eq_some_iff] at h ⊢
  obtain ⟨k, hk, hx⟩ := h
  exact ⟨k, bd_cls hk, hx⟩
theorem bd_code {y : MethodName} {bytes : ByteArray} {maxL : Nat} {ret : Option FieldType} (h : (Cond.code y bytes maxL ret).before start1.args0 start1.about = true) : (Cond.code y bytes maxL ret).before start1.args0 bd_s = true := by
  cases hn : start1.about.methodNamed? y with
  | none => simp [Cond.before, Cond.holds, Cond.value, hn] at h
  | some m =>
    cases hm : start1.about.vm.method? m with
    | none => simp [Cond.before, Cond.holds, Cond.value, hn, hm] at h
    | some x =>
      simp only [Cond.before, Cond.holds, Cond.value, hn, hm, bd_named hn, bd_method hm, Option.bind_some] at h ⊢
      exact h
theorem bd_split {f : Cond → Bool} {l : List Cond} (h1 : l.all (fun c => su_isCode c || f c) = true) (h2 : ∀ c ∈ l, su_isCode c = true → f c = true) : ∀ c ∈ l, f c = true := by
  intro c hc
  have h := List.all_eq_true.mp h1 c hc
  cases hq : su_isCode c with
  | false => simpa [hq] using h
  | true => exact h2 c hc hq
theorem bd_codes : ∀ c ∈ (Cond.code x code maxLocals ret :: tables_1), su_isCode c = true → c.before start1.args0 bd_s = true := by
  intro c hc hq
  have h := start1.words c hc
  cases c <;> first | exact bd_code h | (simp [su_isCode] at hq; done)
theorem bd_two {f : Cond → Bool} (n : Nat) (l : List Cond) (h1 : (l.take n).all f = true) (h2 : (l.drop n).all f = true) : l.all f = true := by
  rw [← List.take_append_drop n l, List.all_append, h1, h2]; rfl
set_option maxRecDepth 100000 in
theorem bd_o1_0 : ((tables_1_1).take 40).all (fun c => su_isCode c || c.before start1.args0 bd_s) = true := by decide +kernel
set_option maxRecDepth 100000 in
theorem bd_o1_1 : ((((tables_1_1).drop 40)).take 40).all (fun c => su_isCode c || c.before start1.args0 bd_s) = true := by decide +kernel
set_option maxRecDepth 100000 in
theorem bd_o1_2 : ((((((tables_1_1).drop 40)).drop 40)).take 40).all (fun c => su_isCode c || c.before start1.args0 bd_s) = true := by decide +kernel
set_option maxRecDepth 100000 in
theorem bd_o1_3 : ((((((((tables_1_1).drop 40)).drop 40)).drop 40)).take 40).all (fun c => su_isCode c || c.before start1.args0 bd_s) = true := by decide +kernel
set_option maxRecDepth 100000 in
theorem bd_o1_4 : ((((((((((tables_1_1).drop 40)).drop 40)).drop 40)).drop 40)).take 40).all (fun c => su_isCode c || c.before start1.args0 bd_s) = true := by decide +kernel
set_option maxRecDepth 100000 in
theorem bd_o1_5 : (((((((((((tables_1_1).drop 40)).drop 40)).drop 40)).drop 40)).drop 40)).all (fun c => su_isCode c || c.before start1.args0 bd_s) = true := by decide +kernel
theorem bd_o1 : tables_1_1.all (fun c => su_isCode c || c.before start1.args0 bd_s) = true := (bd_two 40 (tables_1_1) bd_o1_0 (bd_two 40 (((tables_1_1).drop 40)) bd_o1_1 (bd_two 40 (((((tables_1_1).drop 40)).drop 40)) bd_o1_2 (bd_two 40 (((((((tables_1_1).drop 40)).drop 40)).drop 40)) bd_o1_3 (bd_two 40 (((((((((tables_1_1).drop 40)).drop 40)).drop 40)).drop 40)) bd_o1_4 bd_o1_5)))))
set_option maxRecDepth 100000 in
theorem bd_o2_0 : ((tables_1_2).take 40).all (fun c => su_isCode c || c.before start1.args0 bd_s) = true := by decide +kernel
set_option maxRecDepth 100000 in
theorem bd_o2_1 : ((((tables_1_2).drop 40)).take 40).all (fun c => su_isCode c || c.before start1.args0 bd_s) = true := by decide +kernel
set_option maxRecDepth 100000 in
theorem bd_o2_2 : ((((((tables_1_2).drop 40)).drop 40)).take 40).all (fun c => su_isCode c || c.before start1.args0 bd_s) = true := by decide +kernel
set_option maxRecDepth 100000 in
theorem bd_o2_3 : ((((((((tables_1_2).drop 40)).drop 40)).drop 40)).take 40).all (fun c => su_isCode c || c.before start1.args0 bd_s) = true := by decide +kernel
set_option maxRecDepth 100000 in
theorem bd_o2_4 : ((((((((((tables_1_2).drop 40)).drop 40)).drop 40)).drop 40)).take 40).all (fun c => su_isCode c || c.before start1.args0 bd_s) = true := by decide +kernel
set_option maxRecDepth 100000 in
theorem bd_o2_5 : (((((((((((tables_1_2).drop 40)).drop 40)).drop 40)).drop 40)).drop 40)).all (fun c => su_isCode c || c.before start1.args0 bd_s) = true := by decide +kernel
theorem bd_o2 : tables_1_2.all (fun c => su_isCode c || c.before start1.args0 bd_s) = true := (bd_two 40 (tables_1_2) bd_o2_0 (bd_two 40 (((tables_1_2).drop 40)) bd_o2_1 (bd_two 40 (((((tables_1_2).drop 40)).drop 40)) bd_o2_2 (bd_two 40 (((((((tables_1_2).drop 40)).drop 40)).drop 40)) bd_o2_3 (bd_two 40 (((((((((tables_1_2).drop 40)).drop 40)).drop 40)).drop 40)) bd_o2_4 bd_o2_5)))))
set_option maxRecDepth 100000 in
theorem bd_o3_0 : ((tables_1_3).take 40).all (fun c => su_isCode c || c.before start1.args0 bd_s) = true := by decide +kernel
set_option maxRecDepth 100000 in
theorem bd_o3_1 : ((((tables_1_3).drop 40)).take 40).all (fun c => su_isCode c || c.before start1.args0 bd_s) = true := by decide +kernel
set_option maxRecDepth 100000 in
theorem bd_o3_2 : ((((((tables_1_3).drop 40)).drop 40)).take 40).all (fun c => su_isCode c || c.before start1.args0 bd_s) = true := by decide +kernel
set_option maxRecDepth 100000 in
theorem bd_o3_3 : ((((((((tables_1_3).drop 40)).drop 40)).drop 40)).take 40).all (fun c => su_isCode c || c.before start1.args0 bd_s) = true := by decide +kernel
set_option maxRecDepth 100000 in
theorem bd_o3_4 : ((((((((((tables_1_3).drop 40)).drop 40)).drop 40)).drop 40)).take 40).all (fun c => su_isCode c || c.before start1.args0 bd_s) = true := by decide +kernel
set_option maxRecDepth 100000 in
theorem bd_o3_5 : (((((((((((tables_1_3).drop 40)).drop 40)).drop 40)).drop 40)).drop 40)).all (fun c => su_isCode c || c.before start1.args0 bd_s) = true := by decide +kernel
theorem bd_o3 : tables_1_3.all (fun c => su_isCode c || c.before start1.args0 bd_s) = true := (bd_two 40 (tables_1_3) bd_o3_0 (bd_two 40 (((tables_1_3).drop 40)) bd_o3_1 (bd_two 40 (((((tables_1_3).drop 40)).drop 40)) bd_o3_2 (bd_two 40 (((((((tables_1_3).drop 40)).drop 40)).drop 40)) bd_o3_3 (bd_two 40 (((((((((tables_1_3).drop 40)).drop 40)).drop 40)).drop 40)) bd_o3_4 bd_o3_5)))))
set_option maxRecDepth 100000 in
theorem bd_o4_0 : ((tables_1_4).take 40).all (fun c => su_isCode c || c.before start1.args0 bd_s) = true := by decide +kernel
set_option maxRecDepth 100000 in
theorem bd_o4_1 : ((((tables_1_4).drop 40)).take 40).all (fun c => su_isCode c || c.before start1.args0 bd_s) = true := by decide +kernel
set_option maxRecDepth 100000 in
theorem bd_o4_2 : ((((((tables_1_4).drop 40)).drop 40)).take 40).all (fun c => su_isCode c || c.before start1.args0 bd_s) = true := by decide +kernel
set_option maxRecDepth 100000 in
theorem bd_o4_3 : ((((((((tables_1_4).drop 40)).drop 40)).drop 40)).take 40).all (fun c => su_isCode c || c.before start1.args0 bd_s) = true := by decide +kernel
set_option maxRecDepth 100000 in
theorem bd_o4_4 : ((((((((((tables_1_4).drop 40)).drop 40)).drop 40)).drop 40)).take 40).all (fun c => su_isCode c || c.before start1.args0 bd_s) = true := by decide +kernel
set_option maxRecDepth 100000 in
theorem bd_o4_5 : (((((((((((tables_1_4).drop 40)).drop 40)).drop 40)).drop 40)).drop 40)).all (fun c => su_isCode c || c.before start1.args0 bd_s) = true := by decide +kernel
theorem bd_o4 : tables_1_4.all (fun c => su_isCode c || c.before start1.args0 bd_s) = true := (bd_two 40 (tables_1_4) bd_o4_0 (bd_two 40 (((tables_1_4).drop 40)) bd_o4_1 (bd_two 40 (((((tables_1_4).drop 40)).drop 40)) bd_o4_2 (bd_two 40 (((((((tables_1_4).drop 40)).drop 40)).drop 40)) bd_o4_3 (bd_two 40 (((((((((tables_1_4).drop 40)).drop 40)).drop 40)).drop 40)) bd_o4_4 bd_o4_5)))))
set_option maxRecDepth 100000 in
theorem bd_o5_0 : (tables_1_5).all (fun c => su_isCode c || c.before start1.args0 bd_s) = true := by decide +kernel
theorem bd_o5 : tables_1_5.all (fun c => su_isCode c || c.before start1.args0 bd_s) = true := bd_o5_0
theorem bd_words : ∀ c ∈ (Cond.code x code maxLocals ret :: tables_1), c.before start1.args0 bd_s = true := by
  intro c hc
  rcases List.mem_cons.mp hc with h | h
  · rw [h]; exact bd_codes _ List.mem_cons_self rfl
  · have h1 : c ∈ tables_1_1 ++ (tables_1_2 ++ (tables_1_3 ++ (tables_1_4 ++ (tables_1_5)))) := h
    rcases List.mem_append.mp h1 with h2 | h1
    · exact bd_split (f := fun c => c.before start1.args0 bd_s) bd_o1 (fun c _ hq => by first | exact bd_codes c (List.mem_cons_of_mem _ (show c ∈ tables_1_1 ++ (tables_1_2 ++ (tables_1_3 ++ (tables_1_4 ++ (tables_1_5)))) from by simp only [List.mem_append]; simp [*])) hq) c h2
    rcases List.mem_append.mp h1 with h2 | h1
    · exact bd_split (f := fun c => c.before start1.args0 bd_s) bd_o2 (fun c _ hq => by first | exact bd_codes c (List.mem_cons_of_mem _ (show c ∈ tables_1_1 ++ (tables_1_2 ++ (tables_1_3 ++ (tables_1_4 ++ (tables_1_5)))) from by simp only [List.mem_append]; simp [*])) hq) c h2
    rcases List.mem_append.mp h1 with h2 | h1
    · exact bd_split (f := fun c => c.before start1.args0 bd_s) bd_o3 (fun c _ hq => by first | exact bd_codes c (List.mem_cons_of_mem _ (show c ∈ tables_1_1 ++ (tables_1_2 ++ (tables_1_3 ++ (tables_1_4 ++ (tables_1_5)))) from by simp only [List.mem_append]; simp [*])) hq) c h2
    rcases List.mem_append.mp h1 with h2 | h1
    · exact bd_split (f := fun c => c.before start1.args0 bd_s) bd_o4 (fun c _ hq => by first | exact bd_codes c (List.mem_cons_of_mem _ (show c ∈ tables_1_1 ++ (tables_1_2 ++ (tables_1_3 ++ (tables_1_4 ++ (tables_1_5)))) from by simp only [List.mem_append]; simp [*])) hq) c h2
    exact bd_split (f := fun c => c.before start1.args0 bd_s) bd_o5 (fun c _ hq => by first | exact bd_codes c (List.mem_cons_of_mem _ (show c ∈ tables_1_1 ++ (tables_1_2 ++ (tables_1_3 ++ (tables_1_4 ++ (tables_1_5)))) from by simp only [List.mem_append]; simp [*])) hq) c h1
end
section
set_option maxRecDepth 100000 in
/-- THE STATEMENT IS FALSE AS IT IS WRITTEN: it allows a start from which the law does not return -/
theorem bd_refuted : ¬ Claimed_1_1 := by
  intro h
  obtain ⟨n, o, _, hr, he, _⟩ := h launch0 rfl lists_1 trivial start1.p0 start1.e0 (launch0.admits_env _ _ _) fairChoices_fair.cas fairChoices_fair.clock bd_s ⟨0, 0⟩ start1.args0 Lib.HandBits.below0 rfl bd_fits bd_heap
    ((Spec.applies_iff rfl).mpr ⟨rfl, rfl, rfl, by decide +kernel, by decide +kernel, by decide +kernel, launch0.hasRoom_least _ room_1 (by decide +kernel) (by decide +kernel) (by decide +kernel) (by decide +kernel) (by decide +kernel) (by decide +kernel), atoms_intro bd_words⟩)
    ⟨trivial, bd_rest, bd_pre⟩
  exact bd_not_ended (bd_never _ _ 120 bd_s bd_walk n hr) he
theorem bd_refuted_both : ¬ (Claimed_1_1 ∧ Claimed_1_2) := fun h => bd_refuted h.1
end
