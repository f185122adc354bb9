/-- so that the whole library is read from the first part on -/
theorem am_wide : True := (fun _ => trivial) (@Jvm.Free.StrIndexOf.S1.met)
theorem am_wide2 : True := (fun _ => trivial) (@Jvm.Free.Fmt.SCh.gets)
