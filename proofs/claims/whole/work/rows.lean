section
-- REPORT.md, T1: no start whose tables lack the array class of StackTraceElement meets the printed premises (the printed witness's state lacks it)
set_option maxRecDepth 100000 in
set_option maxHeartbeats 4000000 in
theorem t1_lacks {a : Array Value} {s : State} (h : s.vm.findClass "[Ljava/lang/StackTraceElement;" = none) : ¬ (Jvm.Cond.and given_1 narrow_1).before a s = true := by
  intro hb
  have hs := flat_of_before _ hb
  have h1 : (Jvm.Cond.not (Jvm.Cond.castable "[Ljava/lang/StackTraceElement;" "java/lang/Boolean")).before a s = true := hs _ (by decide +kernel)
  simp [Cond.before, Cond.holds, Cond.value, h] at h1
end
