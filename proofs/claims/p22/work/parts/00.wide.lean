/-! names of the library's rest: rows that use them are read over the whole library -/
theorem wd_0 : True := (fun _ => trivial) @Stand.outThrough
theorem wd_1 : True := (fun _ => trivial) @Jvm.goPassed
theorem wd_2 : True := (fun _ => trivial) @Jvm.FindsTo.passed
theorem wd_3 : True := (fun _ => trivial) @Jvm.stepThrowing_leaveTo
theorem wd_4 : True := (fun _ => trivial) @Jvm.RowPassed.of_words
theorem wd_5 : True := (fun _ => trivial) @Jvm.W.findHandler_go_linkNo
theorem wd_6 : True := (fun _ => trivial) @Jvm.goThrough
theorem wd_7 : True := (fun _ => trivial) @Jvm.FindsTo.through
theorem wd_8 : True := (fun _ => trivial) @Stand.caughtThrough
theorem wd_9 : True := (fun _ => trivial) @Stand.catches_of_link
theorem wd_10 : True := (fun _ => trivial) @Stand.thenCaughtThrough
theorem wd_11 : True := (fun _ => trivial) @Stand.vmThrowsMessageCaughtThrough
theorem wd_12 : True := (fun _ => trivial) @Stand.vmThrowsNpeCaughtThrough
