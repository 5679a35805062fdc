section CORE3
variable {p : Program} {l : Launch} {e : Env} {R : Room} {s : State} {m : MethodId} {args : Array Value} {below : List Frame} {meth : Method} {c : Code} {H : Heap} {locs : List Loc} {cells slots : Nat} {Q : State → Prop}
variable {cc : ByteArray} {nL : Nat} {Ts : List Cond} {own : String} {D : va_G} {cI cG cL : ClassId} {A : Nat → Prop} {EN : State → Heap → Prop} {pc : Nat} {ls : Array Slot} {rest : List Value} {ws : va_W}
/-- a reference that is known -/
def PR (D : va_G) (A : Nat → Prop) (ws : va_W) (v : Nat) : Array Value → State → Outcome → State → Prop := va_Qr (fun (_ : Unit) => True) (fun _ a t => a = v ∧ va_P D vwCl ws t.heap ∧ va_D A ws) A
theorem r_cr {a : Array Value} {st0 : List Value} {ws1 : va_W} {r : Nat} (hS : HS D A ws s.heap H locs) (hr : va_Run p l e R s m args below meth c H locs cells slots 0 0 (F0 m pc ls st0) rest (PR D A ws1 r a) A)
    (kk : ∀ (H : Heap) (locs : List Loc), HS D A ws1 s.heap H locs → W p l e R s m args below meth c H locs cells slots Q (F0 m (pc + 3) ls (.ref r :: rest))) : W p l e R s m args below meth c H locs cells slots Q (F0 m pc ls st0) := by
  refine va_callr hr hS.2.2 (fun _ _ h => h) (fun _ h => h) (fun u r1 t H1 locs ht hvm hw hB hz hk hS => ?_)
  obtain ⟨rfl, hP, hD⟩ := hB
  rw [ht] at hP
  exact kk H1 locs ⟨hP, hD, hS⟩
theorem r_aret {tys : List (ClassId × FieldType)} (X : Cx p s m args c cc nL Ts own D tys A EN) (hS : HS D A ws s.heap H locs) {n : String} (hr : meth.sig.returnType = some (.object n)) (hlk : meth.locks = false) {v : Nat} (hdg : decode cc pc = .ok (.areturn, 1)) : W p l e R s m args below meth c H locs 0 0 (MQ below (PR D A ws v) args s 0 0 A) (F0 m pc ls [.ref v]) :=
  W.aret X.1.1 X.1.2.1 hr (Or.inl ⟨_, rfl⟩) (Or.inr ⟨_, rfl⟩) (fun t ht hW => ⟨⟨(), v, rfl, trivial, rfl, by rw [ht]; exact hS.1, hS.2.1⟩, hS.2.2.F ht⟩) hS.2.2.2.2 hdg hlk
/-- the saved state at a place of the ring: its place in the world -/
def f_X5_stateAt (q : Nat) (a1 : Int32) : Option Nat := if a1 < 0 ∨ 4 ≤ a1.toNatClampNeg then none else some (q + 2 + 16 * a1.toNatClampNeg)
theorem st_ok {w : Mem → va_W} {ad : Nat → Nat} {q v : Nat} {a1 : Int32} (hw : HistAt cI cG w ad q) (h : f_X5_stateAt q a1 = some v) : GardenAt cI w ad v := by
  unfold f_X5_stateAt at h
  by_cases cc : a1 < 0 ∨ 4 ≤ a1.toNatClampNeg
  · rw [if_pos cc] at h; cases h
  · rw [if_neg cc] at h
    cases h
    exact hw.2.2 _ (Nat.lt_of_not_le (fun h => cc (Or.inr h)))
theorem st_in {q v : Nat} {a1 : Int32} (h : f_X5_stateAt q a1 = some v) : vp_in a1 4 ∧ v = q + 2 + 16 * a1.toNatClampNeg := by
  unfold f_X5_stateAt at h
  by_cases cc : a1 < 0 ∨ 4 ≤ a1.toNatClampNeg
  · rw [if_pos cc] at h; cases h
  · rw [if_neg cc] at h
    cases h
    exact ⟨cc, rfl⟩
set_option maxHeartbeats 4000000 in
set_option maxRecDepth 100000 in
theorem c_X5_stateAt (l : Launch) {D : va_G} {cI cG cL : ClassId} {A : Nat → Prop} {EN : State → Heap → Prop} (hE : EnOK EN A) {w : Mem → va_W} {ad : Nat → Nat} {q : Nat} {a1 : Int32} {μ : Mem} {v : Nat} (hw : HistAt cI cG w ad q) (h : f_X5_stateAt q a1 = some v) : Met l yX5_stateAt wsX5_stateAt (rmk 0 0) (WPre D (tyl cI cG cL) A EN (w μ) [.ref (ad q), .int a1]) (PR D A (w μ) (ad v)) 0 0 A := by
  obtain ⟨hin, rfl⟩ := st_in h
  have hiX5 : ∀ w ∈ u_ws RX5 TX5 3, w ∈ wsX5_stateAt := by decide +kernel
  have mf11 : Cond.fieldLink RX5 11 (TX5 0).1 (TX5 0).2.1 (TX5 0).2.2.1 ∈ wsX5_stateAt := by decide +kernel
  refine met_start (cc := cX5_stateAt) (nL := 2) (ret := some (.object "PageGarden$Garden")) (own := RX5) hE (by decide) rfl rfl (Nat.le_of_ble_eq_true rfl) (fun p e s m args below meth c ls X hS hl hr hlk => ?_)
  have hx := X.1.1
  have hb := X.1.2.1
  replace hl : lv_has ls 2 [(0, .ref (ad q)), (1, .int a1)] := hl
  refine lv_iload_n hx hb dX5_stateAt_0 rfl (lv_at hl 1 rfl) ?_
  refine lv_if_lt (tgt := 22) hx hb dX5_stateAt_1 (by decide) (fun cc => absurd (Or.inl cc) hin) (fun cc => ?_)
  refine lv_iload_n hx hb dX5_stateAt_4 rfl (lv_at hl 1 rfl) ?_
  refine lv_aload_n hx hb dX5_stateAt_5 rfl (lv_at hl 0 rfl) ?_
  refine r_get X hS (T := TX5) (k := 0) (hw.1 μ).1 rfl hiX5 (by decide) mf11 rfl dX5_stateAt_6 ?_
  refine va_alen X.1.1 X.1.2.1 X.2.1 hS.1 (q + 1) 1 (hw.2.1 μ) rfl (v := 4) rfl dX5_stateAt_9 ?_
  refine lv_icmp_ge (tgt := 22) hx hb dX5_stateAt_10 (by decide) (fun cc2 => ?_) (fun cc2 => ?_)
  · exfalso
    obtain ⟨j, hj, rfl⟩ := vp_in_of hin (by decide)
    exact absurd cc2 (nI_ge (b := 4) hj (by decide))
  · refine lv_aload_n hx hb dX5_stateAt_13 rfl (lv_at hl 0 rfl) ?_
    refine r_get X hS (T := TX5) (k := 0) (hw.1 μ).1 rfl hiX5 (by decide) mf11 rfl dX5_stateAt_14 ?_
    refine lv_iload_n hx hb dX5_stateAt_17 rfl (lv_at hl 1 rfl) ?_
    refine va_aldq X.1.1 X.1.2.1 X.2.1 hS.1 (q + 1) 1 (hw.2.1 μ) rfl hin dX5_stateAt_18 ?_
    refine lv_goto (tgt := 23) hx hb dX5_stateAt_19 (by decide) ?_
    exact r_aret X hS hr hlk dX5_stateAt_23
end CORE3
theorem pr2 {α β : Type} {a c : α} {b d : β} (h : some (a, b) = some (c, d)) : a = c ∧ b = d := Prod.mk.inj (Option.some.inj h)
