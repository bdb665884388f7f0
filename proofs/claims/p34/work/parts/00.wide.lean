/-- a name of the library's rest: rows that use it are read over the whole library -/
theorem wd_0 : True := (fun _ => trivial) @Stand.outThrough
