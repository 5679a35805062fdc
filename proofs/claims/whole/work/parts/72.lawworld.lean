/-! the law's world: the class's object, the model, the long[] of one -/
section WWS
def outC (cL : ClassId) (ad : Nat → Nat) (o : Int64) : va_W := [(ad 92, .inl (cL, 1, .inr (.inl (vp_updL (fun _ => 0) 0 o))))]
def WW (cI cG cL : ClassId) (adE ad : Nat → Nat) (hh o : Int64) (μ : Mem) : va_W := cPG cI cG adE ad 0 μ ++ (cModel cI ad hh 85 μ ++ outC cL ad o)
variable {cI cG cL : ClassId} {adE ad : Nat → Nat}
theorem cModel_mst {hh : Int64} {t q j : Nat} {x : Int32} {μ : Mem} (h : q < t ∨ t + 7 ≤ q) : cModel cI ad hh t (mst μ q j x) = cModel cI ad hh t μ := by
  unfold cModel
  rw [mst_ne (by omega), mst_ne (by omega), mst_ne (by omega), mst_ne (by omega), mst_ne (by omega), mst_ne (by omega), mst_ne (by omega)]
theorem cPG_mst {t q j : Nat} {x : Int32} {μ : Mem} (h : q < t ∨ t + 85 ≤ q) : cPG cI cG adE ad t (mst μ q j x) = cPG cI cG adE ad t μ := by
  unfold cPG
  rw [mst_ne (by omega), cGarden_mst (by omega), cHist_mst (by omega), cText_mst (by omega)]
theorem cHist_len {t : Nat} {μ : Mem} : (cHist cI cG ad t μ).length = 66 := rfl
theorem cPG_len {t : Nat} {μ : Mem} : (cPG cI cG adE ad t μ).length = 85 := rfl
theorem cModel_len {hh : Int64} {t : Nat} {μ : Mem} : (cModel cI ad hh t μ).length = 7 := rfl
theorem WW_pg (hh o : Int64) : PGAt cI cG adE (WW cI cG cL adE ad hh o) ad 0 := by
  refine pg_at ⟨fun _ => cPG_len, fun μ => ⟨[], cModel cI ad hh 85 μ ++ outC cL ad o, rfl, rfl, fun q j x h1 h2 => ?_⟩⟩
  unfold WW
  rw [cModel_mst (by omega)]
  rfl
theorem WW_model (hh o : Int64) : ModelAt cI (WW cI cG cL adE ad hh o) ad hh 85 := by
  refine model_at ⟨fun _ => cModel_len, fun μ => ⟨cPG cI cG adE ad 0 μ, outC cL ad o, cPG_len, rfl, fun q j x h1 h2 => ?_⟩⟩
  unfold WW
  rw [cPG_mst (by omega)]
theorem WW_hash (o : Int64) : ∀ (h h1 : Int64) (μ : Mem), (WW cI cG cL adE ad h o μ).set 85 (ad 85, .inr (5, fsModel ad 85 h1 (μ 85))) = WW cI cG cL adE ad h1 o μ := by
  intro h h1 μ
  unfold WW
  rw [List.set_append_right _ _ (by rw [cPG_len]; omega), cPG_len]
  rfl
theorem WW_out (hh : Int64) : OutAt cL (WW cI cG cL adE ad hh) ad 92 := by
  intro o μ
  unfold WW
  refine ⟨?_, fun o1 => ?_⟩
  · rw [List.getElem?_append_right (by rw [cPG_len]; omega), cPG_len, List.getElem?_append_right (by rw [cModel_len]; omega), cModel_len]
    rfl
  · rw [List.set_append_right _ _ (by rw [cPG_len]; omega), cPG_len, List.set_append_right _ _ (by rw [cModel_len]; omega), cModel_len]
    rfl
end WWS
section WWR
variable {p : Program} {l : Launch} {e : Env} {R : Room} {s : State} {m : MethodId} {args : Array Value} {below : List Frame} {meth : Method} {c : Code} {H : Heap} {locs : List Loc} {cells slots : Nat} {Q : State → Prop}
variable {cc : ByteArray} {nL : Nat} {Ts : List Cond} {own : String} {D : va_G} {cI cG cL : ClassId} {A : Nat → Prop} {EN : State → Heap → Prop} {pc : Nat} {ls : Array Slot} {rest : List Value} {ws : va_W} {tys : List (ClassId × FieldType)}
theorem r_lald (X : Cx p s m args c cc nL Ts own D (tyl cI cG cL) A EN) {wo : Int64 → Mem → va_W} {o : Int64} {μ : Mem} {ad : Nat → Nat} {qo : Nat} (hS : HS D A (wo o μ) s.heap H locs) (ho : OutAt cL wo ad qo) (hdg : decode cc pc = .ok (.laload, 1))
    (kk : W p l e R s m args below meth c H locs cells slots Q (F0 m (pc + 1) ls (.long o :: rest))) : W p l e R s m args below meth c H locs cells slots Q (F0 m pc ls (.int 0 :: .ref (ad qo) :: rest)) :=
  va_lald X.1.1 X.1.2.1 X.2.1 hS.1 qo 2 (ho o μ).1 rfl (by unfold vp_in; decide) hdg kk
theorem lg_self (x : Int64) : lg_cmp x x = 0 := by
  unfold lg_cmp
  rw [if_neg (show ¬ x > x from Int64.lt_irrefl), if_pos rfl]
theorem r_runSW {y : MethodName} {bytes : ByteArray} {maxL n index mc ms : Nat} {ret : Option FieldType} {hh : List (Nat × Nat × Nat × Nat)} {wsY : List Cond} {rm : Room} {Qc : Array Value → State → Outcome → State → Prop} {As st : List Value} (X : Cx p s m args c cc nL Ts own D tys A EN) (hS : HS D A ws s.heap H locs) (hM : Met l y wsY rm (WPre D tys A EN ws As) Qc mc ms A) (cw : vx_CSW R s args own index y bytes maxL ret hh wsY rm mc ms n) (hn : As.length = n) (hl : ls.size = nL) (hst : st = As.reverse ++ rest) (hW : (rest.map fun v => v.category).sum ≤ 8) (hdg : decode cc pc = .ok (.invokestatic index, 3)) (hf : cells + mc ≤ R.cells ∧ slots + ms ≤ R.slots) :
    va_Run p l e R s m args below meth c H locs cells slots mc ms (F0 m pc ls st) rest (Qc As.toArray) A :=
  vx_runSW (As := As) (rest := rest) X.1 hM cw ⟨WPre.blind X.2.2.1, WPre.gives X hS⟩ rfl hn hl hst (lv_room (m := m) (pc := pc) (ls := ls) (rest := st) (st := rest) hW) hdg hf
theorem r_cim {mc ms : Nat} {a : Array Value} {st0 : List Value} {ws1 : va_W} {r : Int32} (hS : HS D A ws s.heap H locs) (hr : va_Run p l e R s m args below meth c H locs cells slots mc ms (F0 m pc ls st0) rest (PI D A ws1 r a) A)
    (kk : ∀ (H : Heap) (locs : List Loc), HS D A ws1 s.heap H locs → W p l e R s m args below meth c H locs (cells + mc) (slots + ms) Q (F0 m (pc + 3) ls (.int r :: rest))) : W p l e R s m args below meth c H locs cells slots Q (F0 m pc ls st0) := by
  refine va_calli hr hS.2.2 (fun _ _ h => h) (fun _ h => h) (fun r1 u t H1 locs ht hvm hw hB hz hk hS => ?_)
  obtain ⟨hP, hD⟩ := hB
  rw [ht] at hP
  cases hw
  exact kk H1 locs ⟨hP, hD, hS⟩
end WWR
