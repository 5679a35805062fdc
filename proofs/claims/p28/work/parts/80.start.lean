section START
def ENVA (tC tS : Nat) (adE adK adV : Nat → Nat) (A : Nat → Prop) (U : State) (H : Heap) : Prop := ENV tC tS adE adK adV A U H ∧ va_AO "PageGarden$Garden" U
theorem ENVA_ok {tC tS : Nat} {adE adK adV : Nat → Nat} {A : Nat → Prop} : EnOK (ENVA tC tS adE adK adV A) A :=
  ⟨fun s U H hW h => ⟨ENV_ok.1 s U H hW h.1, h.2.moved hW.alike⟩, fun U g mk a H h => ⟨ENV_ok.2.1 U g mk a H h.1, va_AO.moved (u := U) (U := U.calling g mk a) (Vm.Alike.refl U.vm) h.2⟩, fun s H H1 h hq => ⟨ENV_ok.2.2.1 s H H1 h.1 hq, h.2⟩, fun s H h => ENV_ok.2.2.2 s H h.1⟩
theorem k_known {s : State} {args : Array Value} (hts : ∀ w ∈ lw_tbl, w.before args s = true) : ∃ (D : va_G) (cI cG cL : ClassId), va_K D vwCl (tyl cI cG cL) s := by
  obtain ⟨c0, i0, k0⟩ := u_known (C := RX1) (T := TX1) (N := 9) (n := 9) hts wf_wsX10 (hts (.instantiable RX1 9) (by decide +kernel))
  obtain ⟨c1, i1, k1⟩ := u_known (C := RX3) (T := TX3) (N := 7) (n := 7) hts wf_wsX30 (hts (.instantiable RX3 7) (by decide +kernel))
  obtain ⟨c2, i2, k2⟩ := u_known (C := RX4) (T := TX4) (N := 10) (n := 10) hts wf_wsX40 (hts (.instantiable RX4 10) (by decide +kernel))
  obtain ⟨c3, i3, k3⟩ := u_known (C := RX5) (T := TX5) (N := 3) (n := 3) hts wf_wsX50 (hts (.instantiable RX5 3) (by decide +kernel))
  obtain ⟨c4, i4, k4⟩ := u_known (C := RX6) (T := TX6) (N := 3) (n := 3) hts wf_wsX60 (hts (.instantiable RX6 3) (by decide +kernel))
  obtain ⟨cI, kI, pI, a1, a2, a3⟩ := Cond.arrayClass_spec (hts (.arrayClass .int) (by decide +kernel))
  obtain ⟨cL, kL, pL, b1, b2, b3⟩ := Cond.arrayClass_spec (hts (.arrayClass .byte) (by decide +kernel))
  obtain ⟨pG, cG, kG, d1, d2, d3, d4, d5⟩ := Cond.arrayOver_spec (hts (.arrayOver (.object "PageGarden$Garden")) (by decide +kernel))
  refine ⟨(fun k => [c0, c1, c2, c3, c4].getD k 0, fun k => if k = 0 then i0 else if k = 1 then i1 else if k = 2 then i2 else if k = 3 then i3 else i4), cI, cG, cL, ?_, ?_⟩
  · intro k q hq
    match k, hq with
    | 0, hq => cases hq; exact k0
    | 1, hq => cases hq; exact k1
    | 2, hq => cases hq; exact k2
    | 3, hq => cases hq; exact k3
    | 4, hq => cases hq; exact k4
    | k + 5, hq => cases hq
  · intro k q hq
    match k, hq with
    | 0, hq => cases hq; exact ⟨fun N z => ⟨fun k h => (by cases h), kI, a2, pI, a3⟩, a1⟩
    | 1, hq => cases hq; exact ⟨fun N z => ⟨fun k h => (by cases h), kG, d3, pG, d4⟩, kG, pG, d3, d4, d1, d5⟩
    | 2, hq => cases hq; exact ⟨fun N z => ⟨fun k h => (by cases h), kL, b2, pL, b3⟩, b1⟩
    | k + 3, hq => cases hq
set_option maxHeartbeats 4000000 in
theorem whole_start {p : Program} {e : Env} {s : State} {m : MethodId} {below : List Frame} {meth : Method} {c : Code} (l : Launch) (hflags : l.flags = flags0) {b L : Nat} {xs : Nat → Int32} (hL : L ≤ 260) (C0 : lw_At p s m meth c b L xs) : W p l e room_1 s m #[Value.ref b] below meth c s.heap [] 0 0 (lw_Z below #[Value.ref b] s) (entryFrame m ([Value.ref b] : List Value).toArray 8) := by
  obtain ⟨hx, hb, hr, hml, hown, hts, hX, hbl, hlk, hgv⟩ := C0
  have hst : l.stackTraces = false := by
    unfold Launch.stackTraces
    rw [hflags]
    decide +kernel
  obtain ⟨gm, hG, hlaw⟩ := pure_all
  obtain ⟨μe, hlaw⟩ := hlaw xs L hL
  obtain ⟨D, cI, cG, cL, hK⟩ := k_known hts
  obtain ⟨A, eA⟩ : ∃ A : Nat → Prop, A = fun q => s.heap.size ≤ q := ⟨_, rfl⟩
  have hEN := ENV_start hts (flat_of_before _ hgv) 0 0 (fun _ => 0) (fun _ => 0) (fun _ => 0)
  have hao : va_AO "PageGarden$Garden" s := va_AO.of (hts (.arrayOver (.object "PageGarden$Garden")) (by decide +kernel))
  rw [← eA] at hEN
  have hA : ∀ q, s.heap.size ≤ q → A q := fun q h => by rw [eA]; exact h
  have hbA : ¬ A b := by rw [eA]; exact Nat.not_le.mpr hbl
  have fix : CallFix p m c cL_law 8 s #[.ref b] wsL_law RL := ⟨hx, hb, hml, hown, fun w hw => hts w (wsL_law_in w hw)⟩
  have X : Cx p s m #[.ref b] c cL_law 8 wsL_law RL D (tyl cI cG cL) A (ENV 0 0 (fun _ => 0) (fun _ => 0) (fun _ => 0) A) := ⟨fix, hK, ENV_ok, hEN⟩
  have X1 : Cx p s m #[.ref b] c cL_law 8 wsL_law RL D (tyl cI cG cL) A (ENVA 0 0 (fun _ => 0) (fun _ => 0) (fun _ => 0) A) := ⟨fix, hK, ENVA_ok, hEN, hao⟩
  have X2 : Cx p s m #[.ref b] c cL_law 8 wsL_law RL D (tyl cI cG cL) A (ENX b L xs (ENV 0 0 (fun _ => 0) (fun _ => 0) (fun _ => 0) A)) := ⟨fix, hK, ENX_ok hbA ENV_ok, hEN, hX⟩
  have hS : HS D A [] s.heap s.heap [] := ⟨fun k q h => (by simp at h), ⟨fun i j p q h => (by simp at h), fun k q h => (by simp at h)⟩, va_S.rf⟩
  have hz : s.heap.size ≤ s.heap.size := Nat.le_refl _
  have hl := lv_entry ([.ref b]) (n := 8) (Nat.le_of_ble_eq_true rfl)
  rw [lg_entry_eq]
  generalize (lg_sl ([.ref b]) ++ List.replicate (8 - (lg_sl ([.ref b])).length) Slot.unset).toArray = ls at hl ⊢
  replace hl : lv_has ls 8 [(0, .ref b)] := hl
  have i6 : ∀ w ∈ u_ws RX6 TX6 3, w ∈ wsL_law := by decide +kernel
  have m1 : Cond.classLink RL 10 RX6 ∈ wsL_law := by decide +kernel
  have m2 : Cond.instantiable RX6 3 ∈ wsL_law := by decide +kernel
  have m3 : Cond.initialized RX6 ∈ wsL_law := by decide +kernel
  have m7 : Cond.methodLink RL 129 yX6_init ∈ wsL_law := by decide +kernel
  have m8 : Cond.instanceMethod yX6_init ∈ wsL_law := by decide +kernel
  refine va_new (ci := 4) (fs := [.null, .null, .null]) (C := RX6) (T := TX6) (N := 3) hx hb fix.2.2.2.2 i6 tyX6 tyX6_ok hown (fix.2.2.2.2 _ m1) (fix.2.2.2.2 _ m2) (fix.2.2.2.2 _ m3) hK hS.1 hS.2.1 hS.2.2 hA rfl (by decide) (Nat.le_of_ble_eq_true rfl) (Nat.le_of_ble_eq_true rfl) dL_law_0 (fun q1 H hP hD hS => ?_)
  replace hS : HS D A ([] ++ [(q1, .inr (4, [.null, .null, .null]))]) s.heap H [] := ⟨hP, hD, hS⟩
  refine lv_dup hx hb dL_law_3 rfl ?_
  refine r_cN hS (r_runI (rest := [.ref q1]) X1 hS hz (c_X6_init l ENVA_ok (D := D) (cI := cI) (cG := cG) (cL := cL) (pre := []) (b := 0) rfl hA (fun _ _ h => h.2) (adE := fun _ => 0) hG) (cwI 0 fix.2.2.2.2 gL_law_X6_init rfl rfl rfl (fix.2.2.2.2 _ m3) (fix.2.2.2.2 _ m7) (fix.2.2.2.2 _ m8) rfl (by decide +kernel) ⟨Nat.le_of_ble_eq_true rfl, Nat.le_of_ble_eq_true rfl⟩) hl.1 (Nat.le_of_ble_eq_true rfl) dL_law_4 ⟨Nat.le_of_ble_eq_true rfl, Nat.le_of_ble_eq_true rfl⟩) (fun ad H locs hp1 hS => ?_)
  refine lv_astore_n (lv' := [(1, .ref q1), (0, .ref b)]) hx hb dL_law_7 rfl hl (by decide) rfl (fun ls hl => ?_)
  rw [← hp1] at hl
  have hw0 : PGAt cI cG (fun _ => 0) (fun μ => cPG cI cG (fun _ => 0) ad 0 μ) ad 0 := PG_world
  refine law_walk l eA ENV_ok hst X X2 hbA hr hlk (w := fun μ => cPG cI cG (fun _ => 0) ad 0 μ) (ad := ad) (fun _ => rfl) hw0 hlaw _ _ (by first | omega | decide +kernel) (by first | omega | decide +kernel) H locs ls hS hl
end START
