/-! A row of the wide library is named here, so that a round takes it from its first part on -/
theorem wd_0 : True := (fun _ => trivial) (@Jvm.Stand.thenCaughtThrough)
