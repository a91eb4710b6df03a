/-! ===== a name of the library's rest, ahead of all: on a new machine the round goes over the whole library at once, rather than at part 19 ===== -/
theorem wd_0 (c : ClassId) (N h0 : Nat) : Jvm.Free.Multi.outerC c N h0 0 = Jvm.Free.Multi.outerC c N h0 0 := rfl
