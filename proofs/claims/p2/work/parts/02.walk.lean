set_option maxRecDepth 100000 in
/-- from that start the machine halts within 120 steps, in the first instruction of the other class' own 'clone', and the law's invocation has not ended -/
theorem bd_walk : bd_chk start1.p0.tables start1.e0 120 bd_s = true := by decide +kernel
/-- the words of the tables: the class that is more stands behind all others, so that every name is found where it was -/
theorem bd_class {n : String} {c : ClassId} (h : start1.about.vm.findClass n = some c) : bd_s.vm.findClass n = some c := by
  simp only [Vm.findClass] at h ⊢
  rw [show bd_s.vm.classes = start1.about.vm.classes.push bd_C from rfl, Array.findIdx?_push, h]
  rfl
theorem bd_cls {c : Nat} {k : Class} (h : start1.about.vm.classes[c]? = some k) : bd_s.vm.classes[c]? = some k := by
  have hl : c < start1.about.vm.classes.size := (Array.getElem?_eq_some_iff.mp h).1
  rw [show bd_s.vm.classes = start1.about.vm.classes.push bd_C from rfl, Array.getElem?_push, if_neg (Nat.ne_of_lt hl)]
  exact h
theorem bd_named {y : MethodName} {m : MethodId} (h : start1.about.methodNamed? y = some m) : bd_s.methodNamed? y = some m := by
  simp only [State.methodNamed?, Option.bind_eq_bind, Option.bind_eq_some_iff] at h ⊢
  obtain ⟨c, hc, k, hk, i, hi, he⟩ := h
  exact ⟨c, bd_class hc, k, bd_cls hk, i, hi, he⟩
theorem bd_method {m : MethodId} {x : Method} (h : start1.about.vm.method? m = some x) : bd_s.vm.method? m = some x := by
  simp only [Vm.method?, Option.bind_eq_bind, Option.bind_eq_some_iff] at h ⊢
  obtain ⟨k, hk, hx⟩ := h
  exact ⟨k, bd_cls hk, hx⟩
theorem bd_code {y : MethodName} {bytes : ByteArray} {maxL : Nat} {ret : Option FieldType} (h : (Cond.code y bytes maxL ret).before start1.args0 start1.about = true) : (Cond.code y bytes maxL ret).before start1.args0 bd_s = true := by
  cases hn : start1.about.methodNamed? y with
  | none => simp [Cond.before, Cond.holds, Cond.value, hn] at h
  | some m =>
    cases hm : start1.about.vm.method? m with
    | none => simp [Cond.before, Cond.holds, Cond.value, hn, hm] at h
    | some x =>
      simp only [Cond.before, Cond.holds, Cond.value, hn, hm, bd_named hn, bd_method hm, Option.bind_some] at h ⊢
      exact h
theorem bd_split {f : Cond → Bool} {l : List Cond} (h1 : l.all (fun c => su_isCode c || f c) = true) (h2 : ∀ c ∈ l, su_isCode c = true → f c = true) : ∀ c ∈ l, f c = true := by
  intro c hc
  have h := List.all_eq_true.mp h1 c hc
  cases hq : su_isCode c with
  | false => simpa [hq] using h
  | true => exact h2 c hc hq
theorem bd_codes : ∀ c ∈ (Cond.code x code maxLocals ret :: tables_1), su_isCode c = true → c.before start1.args0 bd_s = true := by
  intro c hc hq
  have h := start1.words c hc
  cases c <;> first | exact bd_code h | (simp [su_isCode] at hq; done)
theorem bd_two {f : Cond → Bool} (n : Nat) (l : List Cond) (h1 : (l.take n).all f = true) (h2 : (l.drop n).all f = true) : l.all f = true := by
  rw [← List.take_append_drop n l, List.all_append, h1, h2]; rfl
set_option maxRecDepth 100000 in
theorem bd_o1_0 : ((tables_1_1).take 40).all (fun c => su_isCode c || c.before start1.args0 bd_s) = true := by decide +kernel
set_option maxRecDepth 100000 in
theorem bd_o1_1 : ((((tables_1_1).drop 40)).take 40).all (fun c => su_isCode c || c.before start1.args0 bd_s) = true := by decide +kernel
set_option maxRecDepth 100000 in
theorem bd_o1_2 : ((((((tables_1_1).drop 40)).drop 40)).take 40).all (fun c => su_isCode c || c.before start1.args0 bd_s) = true := by decide +kernel
set_option maxRecDepth 100000 in
theorem bd_o1_3 : ((((((((tables_1_1).drop 40)).drop 40)).drop 40)).take 40).all (fun c => su_isCode c || c.before start1.args0 bd_s) = true := by decide +kernel
set_option maxRecDepth 100000 in
theorem bd_o1_4 : ((((((((((tables_1_1).drop 40)).drop 40)).drop 40)).drop 40)).take 40).all (fun c => su_isCode c || c.before start1.args0 bd_s) = true := by decide +kernel
set_option maxRecDepth 100000 in
theorem bd_o1_5 : (((((((((((tables_1_1).drop 40)).drop 40)).drop 40)).drop 40)).drop 40)).all (fun c => su_isCode c || c.before start1.args0 bd_s) = true := by decide +kernel
theorem bd_o1 : tables_1_1.all (fun c => su_isCode c || c.before start1.args0 bd_s) = true := (bd_two 40 (tables_1_1) bd_o1_0 (bd_two 40 (((tables_1_1).drop 40)) bd_o1_1 (bd_two 40 (((((tables_1_1).drop 40)).drop 40)) bd_o1_2 (bd_two 40 (((((((tables_1_1).drop 40)).drop 40)).drop 40)) bd_o1_3 (bd_two 40 (((((((((tables_1_1).drop 40)).drop 40)).drop 40)).drop 40)) bd_o1_4 bd_o1_5)))))
set_option maxRecDepth 100000 in
theorem bd_o2_0 : ((tables_1_2).take 40).all (fun c => su_isCode c || c.before start1.args0 bd_s) = true := by decide +kernel
set_option maxRecDepth 100000 in
theorem bd_o2_1 : ((((tables_1_2).drop 40)).take 40).all (fun c => su_isCode c || c.before start1.args0 bd_s) = true := by decide +kernel
set_option maxRecDepth 100000 in
theorem bd_o2_2 : ((((((tables_1_2).drop 40)).drop 40)).take 40).all (fun c => su_isCode c || c.before start1.args0 bd_s) = true := by decide +kernel
set_option maxRecDepth 100000 in
theorem bd_o2_3 : ((((((((tables_1_2).drop 40)).drop 40)).drop 40)).take 40).all (fun c => su_isCode c || c.before start1.args0 bd_s) = true := by decide +kernel
set_option maxRecDepth 100000 in
theorem bd_o2_4 : ((((((((((tables_1_2).drop 40)).drop 40)).drop 40)).drop 40)).take 40).all (fun c => su_isCode c || c.before start1.args0 bd_s) = true := by decide +kernel
set_option maxRecDepth 100000 in
theorem bd_o2_5 : (((((((((((tables_1_2).drop 40)).drop 40)).drop 40)).drop 40)).drop 40)).all (fun c => su_isCode c || c.before start1.args0 bd_s) = true := by decide +kernel
theorem bd_o2 : tables_1_2.all (fun c => su_isCode c || c.before start1.args0 bd_s) = true := (bd_two 40 (tables_1_2) bd_o2_0 (bd_two 40 (((tables_1_2).drop 40)) bd_o2_1 (bd_two 40 (((((tables_1_2).drop 40)).drop 40)) bd_o2_2 (bd_two 40 (((((((tables_1_2).drop 40)).drop 40)).drop 40)) bd_o2_3 (bd_two 40 (((((((((tables_1_2).drop 40)).drop 40)).drop 40)).drop 40)) bd_o2_4 bd_o2_5)))))
set_option maxRecDepth 100000 in
theorem bd_o3_0 : ((tables_1_3).take 40).all (fun c => su_isCode c || c.before start1.args0 bd_s) = true := by decide +kernel
set_option maxRecDepth 100000 in
theorem bd_o3_1 : ((((tables_1_3).drop 40)).take 40).all (fun c => su_isCode c || c.before start1.args0 bd_s) = true := by decide +kernel
set_option maxRecDepth 100000 in
theorem bd_o3_2 : ((((((tables_1_3).drop 40)).drop 40)).take 40).all (fun c => su_isCode c || c.before start1.args0 bd_s) = true := by decide +kernel
set_option maxRecDepth 100000 in
theorem bd_o3_3 : ((((((((tables_1_3).drop 40)).drop 40)).drop 40)).take 40).all (fun c => su_isCode c || c.before start1.args0 bd_s) = true := by decide +kernel
set_option maxRecDepth 100000 in
theorem bd_o3_4 : ((((((((((tables_1_3).drop 40)).drop 40)).drop 40)).drop 40)).take 40).all (fun c => su_isCode c || c.before start1.args0 bd_s) = true := by decide +kernel
set_option maxRecDepth 100000 in
theorem bd_o3_5 : (((((((((((tables_1_3).drop 40)).drop 40)).drop 40)).drop 40)).drop 40)).all (fun c => su_isCode c || c.before start1.args0 bd_s) = true := by decide +kernel
theorem bd_o3 : tables_1_3.all (fun c => su_isCode c || c.before start1.args0 bd_s) = true := (bd_two 40 (tables_1_3) bd_o3_0 (bd_two 40 (((tables_1_3).drop 40)) bd_o3_1 (bd_two 40 (((((tables_1_3).drop 40)).drop 40)) bd_o3_2 (bd_two 40 (((((((tables_1_3).drop 40)).drop 40)).drop 40)) bd_o3_3 (bd_two 40 (((((((((tables_1_3).drop 40)).drop 40)).drop 40)).drop 40)) bd_o3_4 bd_o3_5)))))
set_option maxRecDepth 100000 in
theorem bd_o4_0 : ((tables_1_4).take 40).all (fun c => su_isCode c || c.before start1.args0 bd_s) = true := by decide +kernel
set_option maxRecDepth 100000 in
theorem bd_o4_1 : ((((tables_1_4).drop 40)).take 40).all (fun c => su_isCode c || c.before start1.args0 bd_s) = true := by decide +kernel
set_option maxRecDepth 100000 in
theorem bd_o4_2 : ((((((tables_1_4).drop 40)).drop 40)).take 40).all (fun c => su_isCode c || c.before start1.args0 bd_s) = true := by decide +kernel
set_option maxRecDepth 100000 in
theorem bd_o4_3 : ((((((((tables_1_4).drop 40)).drop 40)).drop 40)).take 40).all (fun c => su_isCode c || c.before start1.args0 bd_s) = true := by decide +kernel
set_option maxRecDepth 100000 in
theorem bd_o4_4 : ((((((((((tables_1_4).drop 40)).drop 40)).drop 40)).drop 40)).take 40).all (fun c => su_isCode c || c.before start1.args0 bd_s) = true := by decide +kernel
set_option maxRecDepth 100000 in
theorem bd_o4_5 : (((((((((((tables_1_4).drop 40)).drop 40)).drop 40)).drop 40)).drop 40)).all (fun c => su_isCode c || c.before start1.args0 bd_s) = true := by decide +kernel
theorem bd_o4 : tables_1_4.all (fun c => su_isCode c || c.before start1.args0 bd_s) = true := (bd_two 40 (tables_1_4) bd_o4_0 (bd_two 40 (((tables_1_4).drop 40)) bd_o4_1 (bd_two 40 (((((tables_1_4).drop 40)).drop 40)) bd_o4_2 (bd_two 40 (((((((tables_1_4).drop 40)).drop 40)).drop 40)) bd_o4_3 (bd_two 40 (((((((((tables_1_4).drop 40)).drop 40)).drop 40)).drop 40)) bd_o4_4 bd_o4_5)))))
set_option maxRecDepth 100000 in
theorem bd_o5_0 : (tables_1_5).all (fun c => su_isCode c || c.before start1.args0 bd_s) = true := by decide +kernel
theorem bd_o5 : tables_1_5.all (fun c => su_isCode c || c.before start1.args0 bd_s) = true := bd_o5_0
theorem bd_words : ∀ c ∈ (Cond.code x code maxLocals ret :: tables_1), c.before start1.args0 bd_s = true := by
  intro c hc
  rcases List.mem_cons.mp hc with h | h
  · rw [h]; exact bd_codes _ List.mem_cons_self rfl
  · have h1 : c ∈ tables_1_1 ++ (tables_1_2 ++ (tables_1_3 ++ (tables_1_4 ++ (tables_1_5)))) := h
    rcases List.mem_append.mp h1 with h2 | h1
    · exact bd_split (f := fun c => c.before start1.args0 bd_s) bd_o1 (fun c _ hq => by first | exact bd_codes c (List.mem_cons_of_mem _ (show c ∈ tables_1_1 ++ (tables_1_2 ++ (tables_1_3 ++ (tables_1_4 ++ (tables_1_5)))) from by simp only [List.mem_append]; simp [*])) hq) c h2
    rcases List.mem_append.mp h1 with h2 | h1
    · exact bd_split (f := fun c => c.before start1.args0 bd_s) bd_o2 (fun c _ hq => by first | exact bd_codes c (List.mem_cons_of_mem _ (show c ∈ tables_1_1 ++ (tables_1_2 ++ (tables_1_3 ++ (tables_1_4 ++ (tables_1_5)))) from by simp only [List.mem_append]; simp [*])) hq) c h2
    rcases List.mem_append.mp h1 with h2 | h1
    · exact bd_split (f := fun c => c.before start1.args0 bd_s) bd_o3 (fun c _ hq => by first | exact bd_codes c (List.mem_cons_of_mem _ (show c ∈ tables_1_1 ++ (tables_1_2 ++ (tables_1_3 ++ (tables_1_4 ++ (tables_1_5)))) from by simp only [List.mem_append]; simp [*])) hq) c h2
    rcases List.mem_append.mp h1 with h2 | h1
    · exact bd_split (f := fun c => c.before start1.args0 bd_s) bd_o4 (fun c _ hq => by first | exact bd_codes c (List.mem_cons_of_mem _ (show c ∈ tables_1_1 ++ (tables_1_2 ++ (tables_1_3 ++ (tables_1_4 ++ (tables_1_5)))) from by simp only [List.mem_append]; simp [*])) hq) c h2
    exact bd_split (f := fun c => c.before start1.args0 bd_s) bd_o5 (fun c _ hq => by first | exact bd_codes c (List.mem_cons_of_mem _ (show c ∈ tables_1_1 ++ (tables_1_2 ++ (tables_1_3 ++ (tables_1_4 ++ (tables_1_5)))) from by simp only [List.mem_append]; simp [*])) hq) c h1
