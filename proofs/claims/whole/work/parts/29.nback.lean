/-! a call of a method whose class needn't be known as initialised (a call of an instance's method doesn't ask it) -/
section NBACK
theorem nBack {l : Launch} {R rm : Room} {p : Program} {e : Env} {below : List Frame} {s : State} {sargs : Array Value} {y : MethodName} {len W9 : Nat} {bytes : ByteArray} {maxL : Nat} {ret : Option FieldType} {Pc : Array Value → State → Prop} {Qc : Array Value → State → Outcome → State → Prop} {mc ms : Nat} {free : Addr → Prop}
    (hy : plainName y.cls = true) (hblind : FrameBlind Pc) (hrc : rm.cells = mc) (hrs : rm.slots = ms) (hframes : rm.frames + 1 ≤ R.frames) (hlocals : W9 + (maxL + 11) + rm.locals ≤ R.locals)
    (hcode : ∀ (a' : Array Value) (U : State), s.WarmedH U.vm → (Cond.code y bytes maxL ret).before a' U = true)
    (walk : ∀ (s : State) (m : MethodId) (args : Array Value) (below : List Frame) (meth : Method) (c : Code) (s₁ : State), Stand p l e rm s m args below meth c s₁ [] 0 0 → s₁.heap = s.heap → s.methodNamed? y = some m → c.code = bytes → c.maxLocals = maxL → meth.sig.returnType = ret → meth.locks = false → Pc args s → ∃ t, Steps p.tables e below (s₁.setTop (entryFrame m args maxL)) t ∧ MQ below Qc args s mc ms free t) :
    Back l R p e below s sargs y len W9 (PreOf R mc ms Pc) (PostOf Qc mc ms free) := by
  intro m meth c A g ig mk a X hg hsize hdg hW hn hp
  have h2 : (Cond.code y bytes maxL ret).before a A.U = true := hcode _ _ X.warmed
  obtain ⟨U, Ls, c0, s0⟩ := A
  dsimp only [Pt.U, Pt.locs, Pt.cells, Pt.slots] at h2 X hn ⊢
  obtain ⟨methY, cY, hmY, hcY, hbY, hlY, hrY, hlkY, -, -⟩ := Cond.code_spec hn h2
  have h : At U g.method c below := by rw [hg]; exact X.here
  have hroom : (U.calling g mk a).hasRoom e.platform rm = true := X.room_calling (g := g) (R' := rm) hsize hmY hcY hframes (by rw [hlY]; omega) (by rw [hrc]; exact hp.1) (by rw [hrs]; exact hp.2.1)
  have hPc : Pc a (U.calling g mk a) := hblind _ _ _ _ hp.2.2
  have hf0 : (U.calling g mk a).frames = .invoking mk a :: .java g :: U.frames.tail := State.frames_calling h.top g mk a
  have hcur := State.cur_lt_of_frames hf0
  have hfV := frames_entered (g := g) h.top (.java (entryFrame mk a cY.maxLocals))
  have hplain : (U.calling g mk a).plainMethod mk := State.plainMethod.of_named (s := U.calling g mk a) (plainFor_of_name hy) hn hmY
  have hV : (U.setTop g).pushFrame (.java (entryFrame mk a cY.maxLocals)) = (U.calling g mk a).setFrames (.java (entryFrame mk a cY.maxLocals) :: .java g :: U.frames.tail) := by
    rw [State.calling, State.pushFrame, State.pushFrame, State.setFrames_setFrames, State.frames_setTop' g h.top]
  have hEn := At.enter h (meth := methY) (code := cY) a hmY hcY hplain
  have hAt : At ((U.setTop g).pushFrame (.java (entryFrame mk a cY.maxLocals))) mk cY (.java g :: U.frames.tail) :=
    ⟨hEn.top, ⟨[], by rw [hfV]; rfl⟩, hEn.running, hEn.runnable, hEn.alone, hEn.code, hEn.plain⟩
  have hcodeU : (U.calling g mk a).code? g.method = some c := by
    have := h.code
    rw [State.code?_eq] at this ⊢
    simpa [State.calling, State.pushFrame, State.setFrames] using this
  obtain ⟨t, ht, -⟩ := State.frames_cons hf0
  have Y : Stand p l e rm (U.calling g mk a) mk a (.java g :: U.frames.tail) methY cY ((U.setTop g).pushFrame (.java (entryFrame mk a cY.maxLocals))) [] 0 0 := by
    refine ⟨X.admits, X.cas, X.clock, hf0, hroom, ?_, hmY, hcY, hAt, by rw [hfV]; rfl, State.WarmedH.refl _, by rw [hV, State.stackLimits_setFrames], by rw [hV, State.stackBytes_setFrames], ?_⟩
    · simp [State.hears, hcodeU, hdg, Except.toOption]
    · have h9 := (State.sameButNew.refl (U.calling g mk a) ht).setFrames (.java (entryFrame mk a cY.maxLocals) :: .java g :: U.frames.tail) hcur
      rw [← hV] at h9
      exact h9
  obtain ⟨s₂, hst, o, hrun, hend, hqc, L, hfe, hL⟩ := walk (U.calling g mk a) mk a (.java g :: U.frames.tail) methY cY _ Y rfl hn hbY hlY hrY hlkY hPc
  have hsteps : Steps p.tables e below (doInvoke e (U.setTop g) [] mk a).1 s₂ := by
    have hfull : e.platform.stackFull (((U.setTop g).threads[(U.setTop g).cur]?).getD { frames := [] }) (U.setTop g).frames cY.maxLocals = false := by
      exact X.notFull hsize (by omega) (by rw [hlY]; omega)
    rw [doInvoke_enter h.top [] hmY hcY hlkY hfull, hlY]
    rw [hlY] at hst
    obtain ⟨n, h1, h2⟩ := hst
    obtain ⟨mid, hmid⟩ := h.above
    refine ⟨n, h1, fun k hk => Within.weaken (mid := .java g :: mid) ?_⟩
    have := h2 k hk
    rw [hmid] at this
    exact this
  obtain ⟨g₀, hg0⟩ := Option.isSome_iff_exists.mp h.top
  obtain ⟨r, hr⟩ := State.topJava?_eq_some.mp hg0
  obtain ⟨⟨v, rfl⟩, hW₂, e2, q2, q3, q4, q5, q6⟩ := id hfe
  have hr' : (({ U with heap := s₂.heap, slotsUsed := s₂.slotsUsed } : State).setVm s₂.vm).frames = .java g₀ :: r := hr
  have e3 : s₂ = ({ (U.calling g mk a).setFrames s₂.frames with heap := s₂.heap, slotsUsed := s₂.slotsUsed } : State).setVm s₂.vm := by
    have : s₂ = ({ s₂ with vm := (U.calling g mk a).vm } : State).setVm s₂.vm := rfl
    rw [e2] at this
    exact this
  obtain ⟨c₂, i₂, len₂, hc₂, hd₂, hf₂⟩ := hend
  have hW' : U.WarmedH s₂.vm := hW₂
  have hcc : c₂ = c := by
    have h1 : s₂.code? g.method = U.code? g.method := by
      rw [State.code?_eq, State.code?_eq, hW'.alike.method?]
    exact Option.some.inj (hc₂.symm.trans (h1.trans h.code))
  subst hcc
  have hlen : len₂ = len := by rw [hdg] at hd₂; cases hd₂; rfl
  subst hlen
  have hs₂ : s₂ = (({ U with heap := s₂.heap, slotsUsed := s₂.slotsUsed } : State).setVm s₂.vm).setTop { g with pc := g.pc + len₂, stack := v.toList ++ g.stack } := by
    refine e3.trans ?_
    rw [hf₂, State.calling_eq h.top, State.setFrames_setFrames, State.setTop_of_frames _ hr', hr]
    rfl
  have hsame : U.sameButNew ({ U with heap := s₂.heap, slotsUsed := s₂.slotsUsed } : State) L mc ms := by
    refine ⟨?_, q2, q3, q4, q5, q6⟩
    obtain ⟨t, ht, -⟩ := State.frames_cons hr
    show ({ U with heap := s₂.heap, slotsUsed := s₂.slotsUsed } : State) = { U.setFrames U.frames with heap := s₂.heap, slotsUsed := s₂.slotsUsed }
    rw [State.setFrames_self ht]
  subst hg
  refine ⟨v, ⟨(({ U with heap := s₂.heap, slotsUsed := s₂.slotsUsed } : State).setVm s₂.vm), Ls ++ L, c0 + mc, s0 + ms⟩,
    ⟨X.admits, X.cas, X.clock, X.frames, X.room, X.hears, X.method, X.code, (X.here.setHeapUsed s₂.heap s₂.slotsUsed).setVm hW'.alike, X.tail, State.WarmedH.trans X.warmed hW', X.limits, X.bytes, X.same.trans (hsame.setVm s.vm)⟩,
    ⟨g, mk, s₂, L, rfl, rfl, hqc, rfl, hL, rfl, rfl⟩, ?_⟩
  show Steps p.tables e below _ ((({ U with heap := s₂.heap, slotsUsed := s₂.slotsUsed } : State).setVm s₂.vm).setTop { g with pc := g.pc + len₂, stack := v.toList ++ g.stack })
  rw [← hs₂]
  exact hsteps
end NBACK
