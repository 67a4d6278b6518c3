-- a name of the whole library, named first, so that the round reads every part over the whole at once (part 19 needs it)
theorem z_lib (c : ClassId) (N h0 i : Nat) : Jvm.Free.Multi.outerC c N h0 i = Jvm.Free.Multi.outerC c N h0 i := rfl
