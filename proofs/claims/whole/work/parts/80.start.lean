section START
theorem cPG_cg {cI cG : ClassId} {adE ad ad1 : Nat → Nat} {μ μ1 : Mem} (h : ∀ k, k < 85 → ad k = ad1 k ∧ μ k = μ1 k) (hr : histRow ad 17 = histRow ad1 17) : cPG cI cG adE ad 0 μ = cPG cI cG adE ad1 0 μ1 := by
  unfold cPG
  rw [cGarden_cg (b := 0 + 1) (ad1 := ad1) (μ1 := μ1) (fun k h1 h2 => h k (by omega)), cText_cg (b := 0 + 83) (ad1 := ad1) (μ1 := μ1) (fun k h1 h2 => h k (by omega)), ← cHistF_eq, ← cHistF_eq, show (0 + 17 : Nat) = 17 from rfl, hr, cHistF_cg (b := 17) (ad1 := ad1) (μ1 := μ1) (fun k h1 h2 => h k (by omega))]
  unfold fsPG
  rw [(h 0 (by omega)).1, (h (0 + 1) (by omega)).1, (h (0 + 17) (by omega)).1, (h (0 + 83) (by omega)).1]
theorem cModel_cg {cI : ClassId} {ad ad1 : Nat → Nat} {hh : Int64} {μ μ1 : Mem} {b : Nat} (h : ∀ k, b ≤ k → k < b + 7 → ad k = ad1 k ∧ μ k = μ1 k) : cModel cI ad hh b μ = cModel cI ad1 hh b μ1 := by
  have e0 := h b (Nat.le_refl _) (by omega)
  have e1 := h (b + 1) (by omega) (by omega)
  have e2 := h (b + 2) (by omega) (by omega)
  have e3 := h (b + 3) (by omega) (by omega)
  have e4 := h (b + 4) (by omega) (by omega)
  have e5 := h (b + 5) (by omega) (by omega)
  have e6 := h (b + 6) (by omega) (by omega)
  unfold cModel fsModel
  rw [e0.1, e1.1, e2.1, e3.1, e4.1, e5.1, e6.1, e0.2, e1.2, e2.2, e3.2, e4.2, e5.2, e6.2]
def ENVA (tC tS : Nat) (adE adK adV : Nat → Nat) (A : Nat → Prop) (U : State) (H : Heap) : Prop := ENV tC tS adE adK adV A U H ∧ va_AO "PageGarden$Garden" U
theorem ENVA_ok {tC tS : Nat} {adE adK adV : Nat → Nat} {A : Nat → Prop} : EnOK (ENVA tC tS adE adK adV A) A :=
  ⟨fun s U H hW h => ⟨ENV_ok.1 s U H hW h.1, h.2.moved hW.alike⟩, fun U g mk a H h => ⟨ENV_ok.2.1 U g mk a H h.1, va_AO.moved (u := U) (U := U.calling g mk a) (Vm.Alike.refl U.vm) h.2⟩, fun s H H1 h hq => ⟨ENV_ok.2.2.1 s H H1 h.1 hq, h.2⟩, fun s H h => ENV_ok.2.2.2 s H h.1⟩
theorem k_known {s : State} {args : Array Value} (hts : ∀ w ∈ lw_tbl, w.before args s = true) : ∃ (D : va_G) (cI cG cL : ClassId), va_K D vwCl (tyl cI cG cL) s := by
  obtain ⟨c0, i0, k0⟩ := u_known (C := RX1) (T := TX1) (N := 9) (n := 9) hts wl_wsX10 (hts (.instantiable RX1 9) (by decide +kernel))
  obtain ⟨c1, i1, k1⟩ := u_known (C := RX3) (T := TX3) (N := 7) (n := 7) hts wl_wsX30 (hts (.instantiable RX3 7) (by decide +kernel))
  obtain ⟨c2, i2, k2⟩ := u_known (C := RX4) (T := TX4) (N := 10) (n := 10) hts wl_wsX40 (hts (.instantiable RX4 10) (by decide +kernel))
  obtain ⟨c3, i3, k3⟩ := u_known (C := RX5) (T := TX5) (N := 3) (n := 3) hts wl_wsX50 (hts (.instantiable RX5 3) (by decide +kernel))
  obtain ⟨c4, i4, k4⟩ := u_known (C := RX6) (T := TX6) (N := 3) (n := 3) hts wl_wsX60 (hts (.instantiable RX6 3) (by decide +kernel))
  obtain ⟨c5, i5, k5⟩ := u_known (C := RX7) (T := TX7) (N := 13) (n := 13) hts wl_wsX70 (hts (.instantiable RX7 13) (by decide +kernel))
  obtain ⟨cI, kI, pI, a1, a2, a3⟩ := Cond.arrayClass_spec (hts (.arrayClass .int) (by decide +kernel))
  obtain ⟨cL, kL, pL, b1, b2, b3⟩ := Cond.arrayClass_spec (hts (.arrayClass .long) (by decide +kernel))
  obtain ⟨pG, cG, kG, d1, d2, d3, d4, d5⟩ := Cond.arrayOver_spec (hts (.arrayOver (.object "PageGarden$Garden")) (by decide +kernel))
  refine ⟨(fun k => [c0, c1, c2, c3, c4, c5].getD k 0, fun k => if k = 0 then i0 else if k = 1 then i1 else if k = 2 then i2 else if k = 3 then i3 else if k = 4 then i4 else i5), cI, cG, cL, ?_, ?_⟩
  · intro k q hq
    match k, hq with
    | 0, hq => cases hq; exact k0
    | 1, hq => cases hq; exact k1
    | 2, hq => cases hq; exact k2
    | 3, hq => cases hq; exact k3
    | 4, hq => cases hq; exact k4
    | 5, hq => cases hq; exact k5
    | k + 6, hq => cases hq
  · intro k q hq
    match k, hq with
    | 0, hq => cases hq; exact ⟨fun N z => ⟨fun k h => (by cases h), kI, a2, pI, a3⟩, a1⟩
    | 1, hq => cases hq; exact ⟨fun N z => ⟨fun k h => (by cases h), kG, d3, pG, d4⟩, kG, pG, d3, d4, d1, d5⟩
    | 2, hq => cases hq; exact ⟨fun N z => ⟨fun k h => (by cases h), kL, b2, pL, b3⟩, b1⟩
    | k + 3, hq => cases hq
set_option maxHeartbeats 4000000 in
theorem whole_start {p : Program} {e : Env} {s : State} {m : MethodId} {below : List Frame} {meth : Method} {c : Code} (l : Launch) (hflags : l.flags = flags0) {b L : Nat} {xs : Nat → Int32} (hL : L ≤ 1536) (C0 : lw_At p s m meth c b L xs) : W p l e room_1 s m #[Value.ref b] below meth c s.heap [] 0 0 (lw_Z below #[Value.ref b] s) (entryFrame m ([Value.ref b] : List Value).toArray 7) := by
  obtain ⟨hx, hb, hr, hml, hown, hts, hX, hbl, hlk, hgv⟩ := C0
  have hst : l.stackTraces = false := by
    unfold Launch.stackTraces
    rw [hflags]
    decide +kernel
  obtain ⟨gm, μ7, hG, h7, hJ0⟩ := pure_init
  obtain ⟨D, cI, cG, cL, hK⟩ := k_known hts
  obtain ⟨tC, tS, adE, adK, adV, hEN⟩ := ENV_start hts (flat_of_before _ hgv)
  have hao : va_AO "PageGarden$Garden" s := va_AO.of (hts (.arrayOver (.object "PageGarden$Garden")) (by decide +kernel))
  obtain ⟨A, eA⟩ : ∃ A : Nat → Prop, A = fun q => s.heap.size ≤ q := ⟨_, rfl⟩
  rw [← eA] at hEN
  have hA : ∀ q, s.heap.size ≤ q → A q := fun q h => by rw [eA]; exact h
  have fix : CallFix p m c cL_law 7 s #[.ref b] vsL_law RL := ⟨hx, hb, hml, hown, fun w hw => hts w (vsL_law_in w hw)⟩
  have X : Cx p s m #[.ref b] c cL_law 7 vsL_law RL D (tyl cI cG cL) A (ENV tC tS adE adK adV A) := ⟨fix, hK, ENV_ok, hEN⟩
  have X1 : Cx p s m #[.ref b] c cL_law 7 vsL_law RL D (tyl cI cG cL) A (ENVA tC tS adE adK adV A) := ⟨fix, hK, ENVA_ok, hEN, hao⟩
  have hS : HS D A [] s.heap s.heap [] := ⟨fun k q h => (by simp at h), ⟨fun i j p q h => (by simp at h), fun k q h => (by simp at h)⟩, va_S.rf⟩
  have hz : s.heap.size ≤ s.heap.size := Nat.le_refl _
  have hl := lv_entry ([.ref b]) (n := 7) (Nat.le_of_ble_eq_true rfl)
  rw [lg_entry_eq]
  generalize (lg_sl ([.ref b]) ++ List.replicate (7 - (lg_sl ([.ref b])).length) Slot.unset).toArray = ls at hl ⊢
  replace hl : lv_has ls 7 [(0, .ref b)] := hl
  have i6 : ∀ w ∈ u_ws RX6 TX6 3, w ∈ vsL_law := by decide +kernel
  have i7 : ∀ w ∈ u_ws RX7 TX7 13, w ∈ vsL_law := by decide +kernel
  have m1 : Cond.classLink RL 8 RX6 ∈ vsL_law := by decide +kernel
  have m2 : Cond.instantiable RX6 3 ∈ vsL_law := by decide +kernel
  have m3 : Cond.initialized RX6 ∈ vsL_law := by decide +kernel
  have m4 : Cond.classLink RL 82 RX7 ∈ vsL_law := by decide +kernel
  have m5 : Cond.instantiable RX7 13 ∈ vsL_law := by decide +kernel
  have m6 : Cond.initialized RX7 ∈ vsL_law := by decide +kernel
  have m7 : Cond.methodLink RL 81 yX6_init ∈ vsL_law := by decide +kernel
  have m8 : Cond.instanceMethod yX6_init ∈ vsL_law := by decide +kernel
  have m9 : Cond.methodLink RL 84 yX7_init ∈ vsL_law := by decide +kernel
  have m10 : Cond.instanceMethod yX7_init ∈ vsL_law := by decide +kernel
  have m11 : Cond.arrayClass .long ∈ vsL_law := by decide +kernel
  refine va_new (ci := 4) (fs := [.null, .null, .null]) (C := RX6) (T := TX6) (N := 3) hx hb fix.2.2.2.2 i6 tyX6 tyX6_ok hown (fix.2.2.2.2 _ m1) (fix.2.2.2.2 _ m2) (fix.2.2.2.2 _ m3) hK hS.1 hS.2.1 hS.2.2 hA rfl (by decide) (Nat.le_of_ble_eq_true rfl) (Nat.le_of_ble_eq_true rfl) dL_law_0 (fun q1 H hP hD hS => ?_)
  replace hS : HS D A ([] ++ [(q1, .inr (4, [.null, .null, .null]))]) s.heap H [] := ⟨hP, hD, hS⟩
  refine lv_dup hx hb dL_law_3 rfl ?_
  refine r_cN hS (r_runI (rest := [.ref q1]) X1 hS hz (c_X6_init l ENVA_ok (D := D) (cI := cI) (cG := cG) (cL := cL) (pre := []) (b := 0) rfl hA (fun _ _ h => h.2) (adE := adE) hG) (cwI 0 fix.2.2.2.2 hL_X6_init rfl rfl rfl (fix.2.2.2.2 _ m3) (fix.2.2.2.2 _ m7) (fix.2.2.2.2 _ m8) rfl (by decide +kernel) ⟨Nat.le_of_ble_eq_true rfl, Nat.le_of_ble_eq_true rfl⟩) hl.1 (Nat.le_of_ble_eq_true rfl) dL_law_4 ⟨Nat.le_of_ble_eq_true rfl, Nat.le_of_ble_eq_true rfl⟩) (fun ad1 H locs hp1 hS => ?_)
  refine lv_astore_n (lv' := [(1, .ref q1), (0, .ref b)]) hx hb dL_law_7 rfl hl (by decide) rfl (fun ls hl => ?_)
  refine va_new (ci := 5) (fs := [.null, .null, .null, .int 0, .null, .int 0, .int 0, .int 0, .null, .int 0, .int 0, .null, .long 0]) (C := RX7) (T := TX7) (N := 13) hx hb fix.2.2.2.2 i7 tyX7 tyX7_ok hown (fix.2.2.2.2 _ m4) (fix.2.2.2.2 _ m5) (fix.2.2.2.2 _ m6) hK hS.1 hS.2.1 hS.2.2 hA rfl (by decide) (Nat.le_of_ble_eq_true rfl) (Nat.le_of_ble_eq_true rfl) dL_law_8 (fun q2 H hP hD hS => ?_)
  replace hS : HS D A (cPG cI cG adE ad1 0 (pμ gm 0) ++ [(q2, .inr (5, [.null, .null, .null, .int 0, .null, .int 0, .int 0, .int 0, .null, .int 0, .int 0, .null, .long 0]))]) s.heap H locs := ⟨hP, hD, hS⟩
  refine lv_dup hx hb dL_law_11 rfl ?_
  refine r_cN hS (r_runI (rest := [.ref q2]) X hS hz (c_X7_init l ENV_ok (D := D) (cI := cI) (cG := cG) (cL := cL) (pre := cPG cI cG adE ad1 0 (pμ gm 0)) (b := 85) cPG_len hA h7) (cwI 0 fix.2.2.2.2 hL_X7_init rfl rfl rfl (fix.2.2.2.2 _ m6) (fix.2.2.2.2 _ m9) (fix.2.2.2.2 _ m10) rfl (by decide +kernel) ⟨Nat.le_of_ble_eq_true rfl, Nat.le_of_ble_eq_true rfl⟩) hl.1 (Nat.le_of_ble_eq_true rfl) dL_law_12 ⟨Nat.le_of_ble_eq_true rfl, Nat.le_of_ble_eq_true rfl⟩) (fun ad2 H locs hp2 hS => ?_)
  refine lv_astore_n (lv' := [(2, .ref q2), (1, .ref q1), (0, .ref b)]) hx hb dL_law_15 rfl hl (by decide) rfl (fun ls hl => ?_)
  refine lv_iconst (v := 1) hx hb dL_law_16 (by decide) ?_
  refine va_newa (atype := .long) (ty := .long) (a0 := (1, .inr (.inl (fun _ => 0)))) hx hb (fix.2.2.2.2 _ m11) rfl hK hS.1 hS.2.1 hS.2.2 hA (fun _ => rfl) (N' := 1) (by decide) rfl (Nat.le_of_ble_eq_true rfl) (Nat.le_of_ble_eq_true rfl) (Nat.le_of_ble_eq_true rfl) dL_law_17 (fun q3 cA H hK2 hP hD hS => ?_)
  have u1 : s.vm.findClass ("[" ++ FieldType.long.toString) = some cA := (hK2.2 3 (cA, .long) rfl).2
  have u2 : s.vm.findClass ("[" ++ FieldType.long.toString) = some cL := (hK2.2 2 (cL, .long) rfl).2
  rw [u1] at u2
  cases u2
  replace hS : HS D A ((cPG cI cG adE ad1 0 (pμ gm 0) ++ cModel cI ad2 0 85 μ7) ++ [(q3, .inl (cL, 1, .inr (.inl (fun _ => 0))))]) s.heap H locs := ⟨hP, hD, hS⟩
  obtain ⟨ad, ead⟩ : ∃ ad : Nat → Nat, ad = pw 85 ad1 (pw 92 ad2 (pw 93 (fun _ => q3) ad1)) := ⟨_, rfl⟩
  have e1 : ∀ k, k < 85 → ad k = ad1 k := fun k hk => by rw [ead]; exact pw_l hk
  have e2 : ∀ k, 85 ≤ k → k < 92 → ad k = ad2 k := fun k h1 h2 => by rw [ead]; exact (pw_r h1).trans (pw_l h2)
  have e3 : ad 92 = q3 := by rw [ead]; exact (pw_r (by omega)).trans ((pw_r (by omega)).trans (pw_l (by omega)))
  have e4 : ∀ k, 93 ≤ k → ad k = ad1 k := fun k h1 => by rw [ead]; exact (pw_r (by omega)).trans ((pw_r (by omega)).trans (pw_r h1))
  have hrow : histRow ad 17 = histRow ad1 17 := by
    funext j
    refine congrArg some ?_
    rcases Nat.lt_or_ge (17 + 2 + 16 * j) 85 with q | q
    · exact e1 _ q
    · exact e4 _ (by omega)
  have u0 : vp_updL (fun _ => 0) 0 0 = fun _ => 0 := by
    funext j
    show (if j = 0 then (0 : Int64) else 0) = 0
    split <;> rfl
  replace hS := hS.cast (w2 := WW cI cG cL adE ad 0 0 (pw 85 (pμ gm 0) μ7)) (by
    unfold WW outC
    rw [cPG_cg (ad1 := ad1) (μ1 := pμ gm 0) (fun k hk => ⟨e1 k hk, pw_l hk⟩) hrow, cModel_cg (ad1 := ad2) (μ1 := μ7) (fun k h1 h2 => ⟨e2 k h1 h2, pw_r h1⟩), e3, u0, List.append_assoc])
  refine lv_astore_n (lv' := [(3, .ref q3), (2, .ref q2), (1, .ref q1), (0, .ref b)]) hx hb dL_law_19 rfl hl (by decide) rfl (fun ls hl => ?_)
  refine lv_iconst (v := 0) hx hb dL_law_20 (by decide) ?_
  refine lv_istore (lv' := [(4, .int 0), (3, .ref q3), (2, .ref q2), (1, .ref q1), (0, .ref b)]) hx hb dL_law_21 hl (by decide) rfl (fun ls hl => ?_)
  rw [← hp1, ← hp2, ← e3, ← e1 0 (by omega), ← e2 85 (by omega) (by omega)] at hl
  exact law_loop l eA ENV_ok hst X hX hbl hr hlk hL Jinv pure_step (L + 1) 0 (by omega) (by omega) 0 0 _ H locs ls _ _ hJ0 (by decide) (by decide) hS (lv_sub hl [4, 3, 2, 1, 0] rfl)
end START
