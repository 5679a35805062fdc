theorem gUS {b : Nat} {s : State} (hs : ∀ c ∈ flatC (Jvm.Cond.and given_1 narrow_1), c.before #[.ref b] s = true) : Jvm.Cond.before (Jvm.Cond.isRef (Jvm.Term.static "java/lang/Throwable" "UNASSIGNED_STACK" "[Ljava/lang/StackTraceElement;")) #[.ref b] s = true := hs _ (List.mem_of_getElem? (i := 4) (by decide +kernel))
theorem gSS {b : Nat} {s : State} (hs : ∀ c ∈ flatC (Jvm.Cond.and given_1 narrow_1), c.before #[.ref b] s = true) : Jvm.Cond.before (Jvm.Cond.isRef (Jvm.Term.static "java/lang/Throwable" "SUPPRESSED_SENTINEL" "Ljava/util/List;")) #[.ref b] s = true := hs _ (List.mem_of_getElem? (i := 5) (by decide +kernel))
theorem gNc_ISIA {b : Nat} {s : State} (hs : ∀ c ∈ flatC (Jvm.Cond.and given_1 narrow_1), c.before #[.ref b] s = true) : Jvm.Cond.before (Jvm.Cond.not (Jvm.Cond.castable "java/lang/IllegalStateException" "java/lang/IllegalArgumentException")) #[.ref b] s = true := hs _ (List.mem_of_getElem? (i := 26) (by decide +kernel))
theorem gNc_ISIO {b : Nat} {s : State} (hs : ∀ c ∈ flatC (Jvm.Cond.and given_1 narrow_1), c.before #[.ref b] s = true) : Jvm.Cond.before (Jvm.Cond.not (Jvm.Cond.castable "java/lang/IllegalStateException" "java/lang/IndexOutOfBoundsException")) #[.ref b] s = true := hs _ (List.mem_of_getElem? (i := 19) (by decide +kernel))
theorem gNc_IAIO {b : Nat} {s : State} (hs : ∀ c ∈ flatC (Jvm.Cond.and given_1 narrow_1), c.before #[.ref b] s = true) : Jvm.Cond.before (Jvm.Cond.not (Jvm.Cond.castable "java/lang/IllegalArgumentException" "java/lang/IndexOutOfBoundsException")) #[.ref b] s = true := hs _ (List.mem_of_getElem? (i := 18) (by decide +kernel))
theorem gX_237 {b : Nat} {s : State} (hs : ∀ c ∈ flatC (Jvm.Cond.and given_1 narrow_1), c.before #[.ref b] s = true) : Jvm.Cond.before (Jvm.Cond.exactly (Jvm.Term.string "PageGarden" (237 : Nat)) "java/lang/String") #[.ref b] s = true := hs _ (List.mem_of_getElem? (i := 27) (by decide +kernel))
theorem gX_244 {b : Nat} {s : State} (hs : ∀ c ∈ flatC (Jvm.Cond.and given_1 narrow_1), c.before #[.ref b] s = true) : Jvm.Cond.before (Jvm.Cond.exactly (Jvm.Term.string "PageGarden" (244 : Nat)) "java/lang/String") #[.ref b] s = true := hs _ (List.mem_of_getElem? (i := 53) (by decide +kernel))
theorem gX_249 {b : Nat} {s : State} (hs : ∀ c ∈ flatC (Jvm.Cond.and given_1 narrow_1), c.before #[.ref b] s = true) : Jvm.Cond.before (Jvm.Cond.exactly (Jvm.Term.string "PageGarden" (249 : Nat)) "java/lang/String") #[.ref b] s = true := hs _ (List.mem_of_getElem? (i := 89) (by decide +kernel))
theorem nest_in : ∀ w ∈ nestL, w.onTables = true ∧ w ∈ lw_tbl := by decide +kernel
theorem cast_in : ∀ w ∈ castL, w.onTables = true ∧ w ∈ lw_tbl := by decide +kernel
theorem ls_0 : Cond.laysStatic "java/lang/Throwable" "UNASSIGNED_STACK" "[Ljava/lang/StackTraceElement;" ∈ lw_tbl := by decide +kernel
theorem ls_1 : Cond.laysStatic "java/lang/Throwable" "SUPPRESSED_SENTINEL" "Ljava/util/List;" ∈ lw_tbl := by decide +kernel
theorem li_0 : Cond.initialized "java/lang/Throwable" ∈ lw_tbl := by decide +kernel
theorem sr_237 : Cond.stringRef "PageGarden" 237 "there is no such thing" ∈ lw_tbl := by decide +kernel
theorem sr_244 : Cond.stringRef "PageGarden" 244 "an argument is out of its range" ∈ lw_tbl := by decide +kernel
theorem sr_249 : Cond.stringRef "PageGarden" 249 "the garden's state does not allow it" ∈ lw_tbl := by decide +kernel
set_option maxHeartbeats 2000000 in
theorem ENV_start {b : Nat} {s : State} (hts : ∀ w ∈ lw_tbl, w.before #[.ref b] s = true) (hs : ∀ c ∈ flatC (Jvm.Cond.and given_1 narrow_1), c.before #[.ref b] s = true) (tC tS : Nat) (adE adK adV : Nat → Nat) : ENV tC tS adE adK adV (fun q => s.heap.size ≤ q) s s.heap := by
  have hA : ∀ a : Nat, a < s.heap.size → ¬ (fun q => s.heap.size ≤ q) a := fun a h => Nat.not_le.mpr h
  obtain ⟨s1, c1, cell1, k1, e1, -⟩ := Cond.exactly_spec (gX_237 hs)
  obtain ⟨s2, c2, cell2, k2, e2, -⟩ := Cond.exactly_spec (gX_244 hs)
  obtain ⟨s3, c3, cell3, k3, e3, -⟩ := Cond.exactly_spec (gX_249 hs)
  exact ⟨fun w hw => va_Nw.of (nest_in w hw).1 (hts w (nest_in w hw).2), fun w hw => va_Nw.of (cast_in w hw).1 (hts w (cast_in w hw).2), ⟨va_Nc.of (gNc_ISIA hs), va_Nc.of (gNc_ISIO hs), va_Nc.of (gNc_IAIO hs)⟩, rfl, rfl, rfl, rfl, rfl, ⟨vx_Zqof (hts _ ls_0) (hts _ li_0) (gUS hs) hA, vx_Zqof (hts _ ls_1) (hts _ li_0) (gSS hs) hA⟩, s1, s2, s3, vk_R.of (hts _ sr_237) e1, vk_R.of (hts _ sr_244) e2, vk_R.of (hts _ sr_249) e3⟩
