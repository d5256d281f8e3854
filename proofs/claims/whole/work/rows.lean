section
/-! What the printed witness lacks: the premises of the Statement ask that the start has the class "[Ljava/lang/StackTraceElement;" (the word that it can't be cast to String is undefined, so not held, where that class isn't there). The printed witness' list of classes has no such class: see REPORT.md, TRANSLATOR 1. -/
theorem wf_castable (args : Array Value) (s : State) (h : s.vm.findClass "[Ljava/lang/StackTraceElement;" = none) : (Jvm.Cond.not (Jvm.Cond.castable "[Ljava/lang/StackTraceElement;" "java/lang/String")).before args s = false := by
  simp [Cond.before, Cond.holds, Cond.value, h]
theorem wf_start (args : Array Value) (s : State) (h : s.vm.findClass "[Ljava/lang/StackTraceElement;" = none) : (Jvm.Cond.and given_1 narrow_1).before args s = false := by
  cases hh : (Jvm.Cond.and given_1 narrow_1).before args s with
  | false => rfl
  | true =>
    have h1 := flat_of_before _ hh (Jvm.Cond.not (Jvm.Cond.castable "[Ljava/lang/StackTraceElement;" "java/lang/String")) (by decide +kernel)
    rw [wf_castable args s h] at h1
    cases h1
end
