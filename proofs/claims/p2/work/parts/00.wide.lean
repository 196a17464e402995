/-- the library's whole is asked for at the first row, as 64b calls Stand.thenCaughtThrough: else the parts compile twice -/
theorem wd_first : True := (fun _ => trivial) (@Stand.thenCaughtThrough)
