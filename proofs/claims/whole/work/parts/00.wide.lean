/-- so that the whole library is read from the first part on -/
theorem am_wide : True := (fun _ => trivial) (@Jvm.Free.StrIndexOf.S1.met)
