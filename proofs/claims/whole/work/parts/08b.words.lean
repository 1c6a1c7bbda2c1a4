/-! words of the tables, by their places -/
theorem gw_531 : (Jvm.Cond.methodLink "FilmLooksBack$Reader" (69 : Nat) ({ cls := "java/lang/String", name := "length", desc := "()I" } : Jvm.MethodName)) ∈ GT := g_mem (i := 531) (by decide +kernel) (by decide +kernel)
theorem gw_541 : (Jvm.Cond.methodLink "FilmLooksBack$Reader" (74 : Nat) ({ cls := "java/lang/String", name := "charAt", desc := "(I)C" } : Jvm.MethodName)) ∈ GT := g_mem (i := 541) (by decide +kernel) (by decide +kernel)
theorem gw_594 : (Jvm.Cond.methodLink "FilmLooksBack$Reader" (89 : Nat) ({ cls := "java/lang/String", name := "indexOf", desc := "(I)I" } : Jvm.MethodName)) ∈ GT := g_mem (i := 594) (by decide +kernel) (by decide +kernel)
