/-! the law's world: the object, and the int[3] of beds -/
section LAWROWS3
variable {cI cG cL : ClassId} {adE ad : Nat → Nat} {D : va_G} {A : Nat → Prop}
theorem cPG_mst {t q j : Nat} {x : Int32} {μ : Mem} (h : q < t ∨ t + 85 ≤ q) : cPG cI cG adE ad t (mst μ q j x) = cPG cI cG adE ad t μ := by
  unfold cPG
  rw [mst_ne (by omega), cGarden_mst (by omega), cHist_mst (by omega), cText_mst (by omega)]
theorem cPG_len {t : Nat} {μ : Mem} : (cPG cI cG adE ad t μ).length = 85 := rfl
theorem cPG_cg {ad1 : Nat → Nat} {μ μ1 : Mem} (h : ∀ k, k < 85 → ad k = ad1 k ∧ μ k = μ1 k) (hr : histRow ad 17 = histRow ad1 17) : cPG cI cG adE ad 0 μ = cPG cI cG adE ad1 0 μ1 := by
  unfold cPG
  rw [cGarden_cg (b := 0 + 1) (ad1 := ad1) (μ1 := μ1) (fun k h1 h2 => h k (by omega)), cText_cg (b := 0 + 83) (ad1 := ad1) (μ1 := μ1) (fun k h1 h2 => h k (by omega)), ← cHistF_eq, ← cHistF_eq, show (0 + 17 : Nat) = 17 from rfl, hr, cHistF_cg (b := 17) (ad1 := ad1) (μ1 := μ1) (fun k h1 h2 => h k (by omega))]
  unfold fsPG
  rw [(h 0 (by omega)).1, (h (0 + 1) (by omega)).1, (h (0 + 17) (by omega)).1, (h (0 + 83) (by omega)).1]
theorem PG_world : PGAt cI cG adE (fun μ => cPG cI cG adE ad 0 μ) ad 0 := by
  refine pg_at ⟨fun _ => cPG_len, fun μ => ⟨[], [], rfl, ?_, fun q j x h1 h2 => ?_⟩⟩
  · exact (List.append_nil _).symm
  · exact (List.append_nil _).symm
theorem HS.left {w1 w2 : va_W} {H0 H : Heap} {locs : List Loc} (h : HS D A (w1 ++ w2) H0 H locs) : HS D A w1 H0 H locs := by
  obtain ⟨hP, hD, hS⟩ := h
  have e : ∀ (k : Nat) (q : Nat × va_E), w1[k]? = some q → (w1 ++ w2)[k]? = some q := fun k q hk => by
    have hlt : k < w1.length := (List.getElem?_eq_some_iff.mp hk).1
    rw [List.getElem?_append_left hlt]
    exact hk
  exact ⟨fun k q hk => hP k q (e k q hk), ⟨fun i j x y hx hy => hD.1 i j x y (e i x hx) (e j y hy), fun k q hk => hD.2 k q (e k q hk)⟩, hS⟩
theorem beds_world (ad0 : Nat → Nat) (q3 : Nat) : ∃ (ad : Nat → Nat) (w : Mem → va_W), (ad 0 = ad0 0 ∧ q3 = ad 85) ∧ PGAt cI cG adE w ad 0 ∧ Arr cI w ad 85 3 ∧ (∀ {D : va_G} {A : Nat → Prop} {H0 H : Heap} {locs : List Loc} {μ : Mem}, HS D A (w μ) H0 H locs → HS D A (cPG cI cG adE ad0 0 μ) H0 H locs) ∧ ∀ μ : Mem, w (fun k => if k = 85 then (fun _ => 0) else μ k) = cPG cI cG adE ad0 0 μ ++ [(q3, .inl (cI, 3, .inl (fun _ => 0)))] := by
  obtain ⟨ad, ead⟩ : ∃ ad : Nat → Nat, ad = fun k => if k = 85 then q3 else ad0 k := ⟨_, rfl⟩
  have e1 : ∀ k, k ≠ 85 → ad k = ad0 k := fun k hk => by rw [ead]; exact if_neg hk
  have e2 : ad 85 = q3 := by rw [ead]; exact if_pos rfl
  have hrow : histRow ad 17 = histRow ad0 17 := by
    funext j
    exact congrArg some (e1 _ (by omega))
  have hcg : ∀ μ μ1 : Mem, (∀ k, k < 85 → μ k = μ1 k) → cPG cI cG adE ad 0 μ = cPG cI cG adE ad0 0 μ1 := fun μ μ1 h => cPG_cg (fun k hk => ⟨e1 k (by omega), h k hk⟩) hrow
  refine ⟨ad, fun μ => cPG cI cG adE ad 0 μ ++ [(ad 85, .inl (cI, 3, .inl (μ 85)))], ⟨e1 0 (by decide), e2.symm⟩, ?_, fun μ => ⟨?_, fun j x => ?_⟩, fun {D A H0 H locs μ} hS => ?_, fun μ => ?_⟩
  · refine pg_at ⟨fun _ => cPG_len, fun μ => ⟨[], [(ad 85, .inl (cI, 3, .inl (μ 85)))], rfl, rfl, fun q j x h1 h2 => ?_⟩⟩
    show cPG cI cG adE ad 0 (mst μ q j x) ++ [(ad 85, .inl (cI, 3, .inl (mst μ q j x 85)))] = _
    rw [mst_ne (show 85 ≠ q by omega)]
    rfl
  · show (cPG cI cG adE ad 0 μ ++ [(ad 85, .inl (cI, 3, .inl (μ 85)))])[85]? = _
    rw [List.getElem?_append_right (by rw [cPG_len]; omega), cPG_len]
    rfl
  · show List.set (α := Nat × va_E) (cPG cI cG adE ad 0 μ ++ [(ad 85, .inl (cI, 3, .inl (μ 85)))]) 85 _ = cPG cI cG adE ad 0 (mst μ 85 j x) ++ [(ad 85, .inl (cI, 3, .inl (mst μ 85 j x 85)))]
    rw [List.set_append_right _ _ (by rw [cPG_len]; omega), cPG_len, cPG_mst (by omega), mst_eq]
    rfl
  · have h1 : HS D A (cPG cI cG adE ad 0 μ) H0 H locs := hS.left
    rw [hcg μ μ (fun _ _ => rfl)] at h1
    exact h1
  · show cPG cI cG adE ad 0 (fun k => if k = 85 then (fun _ => 0) else μ k) ++ [(ad 85, .inl (cI, 3, .inl ((fun k => if k = 85 then (fun _ => (0 : Int32)) else μ k) 85)))] = _
    rw [hcg _ μ (fun k hk => if_neg (by omega)), e2]
    rfl
variable {cc : ByteArray} {nL : Nat} {own : String} {EN : State → Heap → Prop} {ws : va_W} {tys : List (ClassId × FieldType)} {l : Launch}
theorem met_startMN {y : MethodName} {wsY wsR : List Cond} {rm : Room} {ret : Option FieldType} {av : List Value} {Qc : Array Value → State → Outcome → State → Prop} {mc ms sz : Nat} (hE : EnOK EN A) (hy : plainName y.cls = true) (hw : wsY = .code y cc nL ret :: wsR) (hown : y.cls = own) (hlen : (lg_sl av).length ≤ nL)
    (body : ∀ (p : Program) (e : Env) (s : State) (m : MethodId) (args : Array Value) (below : List Frame) (meth : Method) (c : Code) (ls : Array Slot), Cx p s m args c cc nL wsY own D tys A EN → sz ≤ s.heap.size → HS D A ws s.heap s.heap [] → lv_has ls nL (lv_args 0 av) → meth.sig.returnType = ret → meth.locks = false → W p l e (headSpec wsY rm).room s m args below meth c s.heap [] 0 0 (MQ below Qc args s mc ms A) (F0 m 0 ls [])) : Met l y wsY rm (WPreN D tys A EN sz ws av) Qc mc ms A := by
  refine Met.ofW (cc := cc) (maxL := nL) (ret := ret) hy hw ?_
  intro p e s m args below meth c s₁ B hml hv
  obtain ⟨rfl, hz, hP, hK, hD0, hEN⟩ := hv
  have hts := atoms_spec (ws := wsY) B.pre
  have hown' : s.vm.findClass own = some m.cls := by rw [← hown]; exact findClass_of_methodNamed B.named
  rw [lg_entry_eq]
  exact body p e s m _ below meth c _ ⟨⟨B.exec, B.bytes, hml, hown', hts⟩, hK, hE, hEN⟩ hz ⟨hP, hD0, va_S.rf⟩ (lv_entry av hlen) B.returns B.notSynchronized
end LAWROWS3
