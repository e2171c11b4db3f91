-- What the printed premise asks of every start (evidence for REPORT.md, TRANSLATOR 2): an array class of java/lang/StackTraceElement stands in the start's tables.
theorem wt_left {p q : Jvm.Cond} {a : Array Value} {s : State} (h : (Jvm.Cond.and p q).before a s = true) : p.before a s = true := by
  rw [Cond.before_and, Bool.and_eq_true] at h
  exact h.1
theorem wt_right {p q : Jvm.Cond} {a : Array Value} {s : State} (h : (Jvm.Cond.and p q).before a s = true) : q.before a s = true := by
  rw [Cond.before_and, Bool.and_eq_true] at h
  exact h.2
theorem wt_class {a : Array Value} {s : State} {c t : String} (h : (Jvm.Cond.not (Jvm.Cond.castable c t)).before a s = true) : (s.vm.findClass c).isSome = true := by
  cases hc : s.vm.findClass c with
  | some _ => rfl
  | none => simp [Cond.before, Cond.holds, Cond.value, hc] at h
set_option maxRecDepth 100000 in
theorem wt_asks {a : Array Value} {s : State} (h : narrow_1.before a s = true) : (s.vm.findClass "[Ljava/lang/StackTraceElement;").isSome = true :=
  have h1 := wt_left h
  have h2 := wt_right h1
  have h3 := wt_left h2
  have h4 := wt_right h3
  have h5 := wt_left h4
  have h6 := wt_right h5
  have h7 := wt_right h6
  have h8 := wt_left h7
  have h9 := wt_right h8
  have h10 := wt_left h9
  wt_class (t := "java/lang/String") h10
