/-! p28, PURE: begin, abort, commit, open, close: the class's side and what holds beside the invariant -/
section PYOPS
variable {g : Nat} {μ μ' : Mem} {p p' p'' P Q : Nat → Int32} {d d' l b n k i j r f s m a : Nat} {key val c w : Int32} {B : Int}
theorem DEq_of (hd : DirOK p d) (h : ∀ b, (b = d ∨ ∃ i, i < nB p d 2 ∧ b = nB p d (6 + i)) → ∀ w, w < 14 → (w = 2 ∨ 6 ≤ w) → gB P b w = gB p b w) : DEq p d P d := by
  have h6 := hd.2.2.2.2.1
  refine ⟨nB_of (h d (Or.inl rfl) 2 (by decide) (Or.inl rfl)), fun i hi => ?_⟩
  have el : nB P d (6 + i) = nB p d (6 + i) := nB_of (h d (Or.inl rfl) (6 + i) (by omega) (Or.inr (by omega)))
  rw [el]
  exact ⟨nB_of (h _ (Or.inr ⟨i, hi, rfl⟩) 2 (by decide) (Or.inl rfl)), fun w h1 h2 => h _ (Or.inr ⟨i, hi, rfl⟩) w h2 (Or.inr h1)⟩
/-- the pages of a directory have a property -/
theorem Pg.at {X : Nat → Prop} (h : Pg p d X) (hb : b = d ∨ ∃ i, i < nB p d 2 ∧ b = nB p d (6 + i)) : X b := by
  rcases hb with rfl | ⟨i, hi, rfl⟩
  · exact h.1
  · exact h.2 i hi
theorem DirOK.at32 (hd : DirOK p d) (hb : b = d ∨ ∃ i, i < nB p d 2 ∧ b = nB p d (6 + i)) : b < 32 := by
  rcases hb with rfl | ⟨i, hi, rfl⟩
  · exact hd.1
  · exact (hd.2.2.2.2.2.1 i hi).2.1
theorem DEq_gB (hd : DirOK p d) (h : ∀ b w, b < 32 → w < 14 → gB P b w = gB p b w) : DEq p d P d := DEq_of hd (fun b hb w hw _ => h b w (hd.at32 hb) hw)
theorem drd_lt (h : p 467 < 0) : drd p = cd p := if_pos h
theorem WX_lo (hi : INV B p) (hw : WX p) (h : Lo p P) (h7 : P 467 < 0) : WX P := by
  obtain ⟨w1, w2, w3, w3r, w3d, w4, w5, w6⟩ := hw
  have ec : cd P = cd p := cd_of h.now
  have er : ∀ r, r < 4 → rdp P r = rdp p r := fun r hr => rdp_of (h.gD hr (by decide))
  have hD : DirS P (cd P) := by
    rw [ec]
    exact w3.of (DEq_gB hi.2.2.1.2.1 (fun b w hb hw => h.gB hb hw)) hi.2.2.1.2.1
  refine ⟨fun b hb h0 => ?_, fun b hb h0 => ?_, hD, fun r hr ho => ?_, by rw [drd_lt h7]; exact hD, fun h2 => ?_, fun r hr ho he => ?_, fun z => absurd h7 z⟩
  · rw [h.gB hb (by decide)] at h0
    rw [h.gB hb (by decide), h.gB hb (by decide)]
    exact w1 b hb h0
  · rw [h.gB hb (by decide)] at h0
    rw [h.gB hb (by decide)]
    exact w2 b hb h0
  · rw [h.gD hr (by decide)] at ho
    rw [er r hr]
    have hd := (hi.2.2.2.1 r hr ho).2.1
    exact (w3r r hr ho).of (DEq_gB hd (fun b w hb hw => h.gB hb hw)) hd
  · have hc := cur_lt (p := p)
    rw [h.cur, h.gR (by omega) (by decide)] at h2
    rw [h.cur, h.gR (by omega) (by decide), h.gR hc (by decide), h.gR (by omega) (by decide)]
    obtain ⟨q1, z, z1, z2, z3, z4⟩ := w4 h2
    refine ⟨q1, z, z1, z2, by rw [h.gB z1 (by decide)]; exact z3, ?_⟩
    rw [h.gB z1 (by decide), h.gB z1 (by decide), h.gB z1 (by decide)]
    exact z4
  · rw [h.gD hr (by decide)] at ho
    rw [h.gD hr (by decide), h.cur, h.gR cur_lt (by decide)] at he
    rw [er r hr, ec]
    exact w5 r hr ho he
theorem nodraft (hi : INV B p) (c0 : p 466 = 0) : NoDraft p := by
  rcases hi.2.2.2.2.2.1 with z | z
  · exact z
  · have e := z.1
    rw [c0] at e
    exact absurd e (by decide)
theorem nodraft2 (hi : INV B p) (hl : p 467 < 0) : NoDraft p := by
  rcases hi.2.2.2.2.2.1 with z | z
  · exact z
  · exact absurd hl z.nlt
theorem beg28 (h : RG g μ p) (hi : INV B p) (hw : WX p) (c0 : p 466 = 0) : ∃ (p' : Nat → Int32) (μ' : Mem), f_X4_beginFault g μ = some 0 ∧ f_X4_beginDraft g μ = some (gR p (cur p) 0, μ') ∧ RG g μ' p' ∧ GFr g μ μ' ∧ INV B p' ∧ WX p' ∧ p' 466 = 1 ∧ p' 467 = -1 ∧ Lo p p' := by
  have hND := nodraft hi c0
  have hLo : Lo p (sS (sS p 466 1) 467 (-1)) := fun i hi2 => (upd_ne (by omega)).trans (upd_ne (by omega))
  have h7 : sS (sS p 466 1) 467 (-1) 467 = -1 := upd_eq
  have h6 : sS (sS p 466 1) 467 (-1) 466 = 1 := (upd_ne (by decide)).trans upd_eq
  have hI : INV B (sS (sS p 466 1) 467 (-1)) := INV_lo hi hLo (Or.inr h6) (Or.inl ⟨h7, fun b hb => by rw [hLo.gB hb (by decide), hLo.gB hb (by decide)]; exact hND.2 b hb⟩)
  have hdr : drf (sS (sS p 466 1) 467 (-1)) = nI (cd p) := by
    unfold drf
    rw [if_pos (by rw [h7]; decide), hLo.now]
    exact hi.2.2.1.1
  refine ⟨sS (sS p 466 1) 467 (-1), mst (mst μ g 6 1) g 7 (nI (cd p)), ?_, ?_, ⟨(h.1.fr (fun z z1 z2 => by rw [mst_ne (by omega), mst_ne (by omega)])).cg (fun b w hb hw => hLo.gB hb hw), fun r hr => ?_, fun r hr => ?_, ?_, ?_, ?_, ?_⟩, fun k hk => by rw [mst_ne (by omega), mst_ne (by omega)], hI, WX_lo hi hw hLo (by rw [h7]; decide), h6, h7, hLo⟩
  · unfold f_X4_beginFault f_X4_beginFault_b12
    rw [show μ g 6 = p 466 from h.2.2.2.1, if_pos c0]
  · unfold f_X4_beginDraft pf
    rw [Option.bind_some, curDir_cg (μ := μ) (mst_ne (by omega)) (mst_ne (by omega)) (mst_ne (by omega)), h.curDir hi, Option.bind_some, Option.bind_some, curCount_cg (μ := μ) (by rw [mst_ne (by omega), mst_ne (by omega)]) (by rw [mst_ne (by omega), mst_ne (by omega)]), h.curCountR hi.1, Option.bind_some]
  · rw [mst_ne (by omega), mst_ne (by omega), mst_ne (by omega), mst_ne (by omega), mst_ne (by omega), mst_ne (by omega), hLo.gR hr (by decide), hLo.gR hr (by decide), hLo.gR hr (by decide)]
    exact h.2.1 r hr
  · rw [mst_ne (by omega), mst_ne (by omega), mst_ne (by omega), mst_ne (by omega), hLo.gD hr (by decide), hLo.gD hr (by decide), hLo.gD hr (by decide)]
    exact h.2.2.1 r hr
  · rw [mst_eq, upd_ne (by decide), mst_eq, upd_eq, h6]
  · rw [mst_eq, upd_eq, h6, if_pos rfl, hdr]
  · rw [mst_eq, upd_ne (by decide), mst_eq, upd_ne (by decide), show sS (sS p 466 1) 467 (-1) 468 = p 468 from (upd_ne (by decide)).trans (upd_ne (by decide))]
    exact h.2.2.2.2.2.1
  · rw [mst_eq, upd_ne (by decide), mst_eq, upd_ne (by decide), show sS (sS p 466 1) 467 (-1) 469 = p 469 from (upd_ne (by decide)).trans (upd_ne (by decide))]
    exact h.2.2.2.2.2.2
theorem cd_pages (hi : INV B p) (hb : b = cd p ∨ ∃ i, i < nB p (cd p) 2 ∧ b = nB p (cd p) (6 + i)) : gB p b 0 = 1 ∧ gB p b 4 = 0 := hi.2.2.1.2.2.at (X := fun b => gB p b 0 = 1 ∧ gB p b 4 = 0) hb
theorem rd_pages (hi : INV B p) (hr : r < 4) (ho : gD p r 0 = 1) (hb : b = rdp p r ∨ ∃ i, i < nB p (rdp p r) 2 ∧ b = nB p (rdp p r) (6 + i)) : (gB p b 0 = 1 ∧ gB p b 4 = 0) ∨ (gB p b 0 = 2 ∧ gD p r 1 < gB p b 3) := (hi.2.2.2.1 r hr ho).2.2.1.at (X := fun b => (gB p b 0 = 1 ∧ gB p b 4 = 0) ∨ (gB p b 0 = 2 ∧ gD p r 1 < gB p b 3)) hb
theorem st2_f4 (hi : INV B p) (hb : b < 32) (h : gB p b 0 = 2) : gB p b 4 ≠ 1 := fun z => by
  rw [((hi.2.1 b hb).2.2.2.1 z).1] at h
  exact absurd h (by decide)
theorem drop_cd (hi : INV B p) (hP : DropOf p P) : DEq p (cd p) P (cd p) := DEq_of hi.2.2.1.2.1 (fun b hb w hw h => by
  rw [hP b w (hi.2.2.1.2.1.at32 hb) hw, if_neg (by rw [(cd_pages hi hb).2]; decide), if_neg (by omega)])
theorem drop_rd (hi : INV B p) (hP : DropOf p P) (hr : r < 4) (ho : gD p r 0 = 1) : DEq p (rdp p r) P (rdp p r) := DEq_of (hi.2.2.2.1 r hr ho).2.1 (fun b hb w hw h => by
  have h32 := (hi.2.2.2.1 r hr ho).2.1.at32 hb
  have h4 : gB p b 4 ≠ 1 := by
    rcases rd_pages hi hr ho hb with q | q
    · rw [q.2]
      decide
    · exact st2_f4 hi h32 q.1
  rw [hP b w h32 hw, if_neg h4, if_neg (by omega)])
theorem WX_drop (hi : INV B p) (hw : WX p) (hP : DropOf p P) (hc : cur P = cur p) (hcv : ∀ v, v < 3 → gR P (cur p) v = gR p (cur p) v) (hD : ∀ r v, r < 4 → v < 3 → gD P r v = gD p r v) (h7 : P 467 < 0) (h4 : WX4 P) : WX P := by
  obtain ⟨w1, w2, w3, w3r, w3d, w4, w5, w6⟩ := hw
  have ec : cd P = cd p := cd_of (by unfold nowp; rw [hc, hcv 1 (by decide)])
  have er : ∀ r, r < 4 → rdp P r = rdp p r := fun r hr => rdp_of (hD r 2 hr (by decide))
  have hDc : DirS P (cd P) := by
    rw [ec]
    exact w3.of (drop_cd hi hP) hi.2.2.1.2.1
  have g : ∀ b w, b < 32 → w < 14 → w ≠ 5 → gB P b 0 ≠ 0 → gB P b w = gB p b w := fun b w hb hw h5 h0 => by
    rw [hP b 0 hb (by decide)] at h0
    rw [hP b w hb hw]
    by_cases c : gB p b 4 = 1
    · rw [if_pos c] at h0
      exact absurd rfl h0
    · rw [if_neg c, if_neg h5]
  refine ⟨fun b hb h0 => ?_, fun b hb h0 => ?_, hDc, fun r hr ho => ?_, by rw [drd_lt h7]; exact hDc, h4, fun r hr ho he => ?_, fun z => absurd h7 z⟩
  · have h0' := h0
    rw [g b 0 hb (by decide) (by decide) h0] at h0'
    rw [g b 1 hb (by decide) (by decide) h0, g b 2 hb (by decide) (by decide) h0]
    exact w1 b hb h0'
  · have h1 : gB P b 0 ≠ 0 := by rw [h0]; decide
    rw [g b 0 hb (by decide) (by decide) h1] at h0
    rw [g b 3 hb (by decide) (by decide) h1]
    exact w2 b hb h0
  · rw [hD r 0 hr (by decide)] at ho
    rw [er r hr]
    exact (w3r r hr ho).of (drop_rd hi hP hr ho) (hi.2.2.2.1 r hr ho).2.1
  · rw [hD r 0 hr (by decide)] at ho
    rw [hD r 1 hr (by decide), hc, hcv 0 (by decide)] at he
    rw [er r hr, ec]
    exact w5 r hr ho he
theorem WX4_drop (hi : INV B p) (hw : WX p) (hP : DropOf p P) (hc : cur P = cur p) (hR : ∀ r v, r < 2 → v < 3 → gR P r v = gR p r v) : WX4 P := by
  intro h2
  have hcl := cur_lt (p := p)
  rw [hc, hR _ 2 (by omega) (by decide)] at h2
  rw [hc, hR _ 0 (by omega) (by decide), hR _ 0 hcl (by decide), hR _ 1 (by omega) (by decide)]
  obtain ⟨q1, z, z1, z2, z3, z4⟩ := hw.2.2.2.2.2.1 h2
  have hz4 : gB p z 4 ≠ 1 := by
    rcases z4 with q | q
    · rw [q.2]
      decide
    · exact st2_f4 hi z1 q.1
  have e : ∀ w, w < 14 → w ≠ 5 → gB P z w = gB p z w := fun w hw h5 => by rw [hP z w z1 hw, if_neg hz4, if_neg h5]
  refine ⟨q1, z, z1, z2, by rw [e 1 (by decide) (by decide)]; exact z3, ?_⟩
  rw [e 0 (by decide) (by decide), e 4 (by decide) (by decide), e 3 (by decide) (by decide)]
  exact z4
theorem WX_dMe (hi : INV B p) (hw : WX p) : WX (dMe p) := by
  have hR : ∀ r v, r < 2 → v < 3 → gR (dMe p) r v = gR p r v := fun r v hr hv => dMe_R hr hv
  have hc : cur (dMe p) = cur p := cur_cg hR
  exact WX_drop hi hw dMe_drop hc (fun v hv => hR _ v cur_lt hv) (fun r v hr hv => dMe_D hr hv) (by rw [dMe_hi (by decide), if_pos rfl]; decide) (WX4_drop hi hw dMe_drop hc hR)
/-- a draft lost by a commit -/
theorem lost28 (hi : INV B p) (hw : WX p) (hB : B < 1000000) (ha : a = 1 - cur p) (hs : s < 3) (eP : P = lostP p a (vx2 p a s) (vx0 p a s) (vx1 p a s)) : INV B P ∧ WX P ∧ cur P = cur p ∧ (∀ v, v < 3 → gR P (cur p) v = gR p (cur p) v) ∧ (∀ r v, r < 4 → v < 3 → gD P r v = gD p r v) ∧ DropOf p P ∧ (gR P a 0 = vx0 p a s ∧ gR P a 2 = vx2 p a s) ∧ P 466 = 0 ∧ P 467 = -1 ∧ P 468 = p 468 ∧ P 469 = p 469 + 1 := by
  have hcl := cur_lt (p := p)
  have ha2 : a < 2 := by omega
  obtain ⟨s1, s2, s3⟩ := cnt_succ hi hB
  have h2 : (vx2 p a s = gR p a 2 ∧ vx0 p a s = gR p a 0) ∨ vx2 p a s = 0 := by
    by_cases c0 : s = 0
    · exact Or.inl ⟨if_pos c0, if_pos (by omega)⟩
    · exact Or.inr ((if_neg c0).trans (if_neg (by omega)))
  have hI : INV B P := by
    rw [eP]
    refine INV_lost hi ha h2 ?_
    unfold vx0
    split
    · exact (hi.1.1 a ha2).2
    · exact s2
  have hR : ∀ r v, r < 2 → v < 3 → gR P r v = gR (rtS p a (vx2 p a s) (vx0 p a s) (vx1 p a s)) r v := fun r v hr hv => by rw [eP]; exact lostP_R hr hv
  obtain ⟨t0, t1, t2⟩ := rtS_at (p := p) (a := a) (x2 := vx2 p a s) (x0 := vx0 p a s) (x1 := vx1 p a s)
  have hcv : ∀ v, v < 3 → gR P (cur p) v = gR p (cur p) v := fun v hv => by
    rw [hR _ v hcl hv]
    exact rtS_ne (by omega)
  have hDr : ∀ r v, r < 4 → v < 3 → gD P r v = gD p r v := fun r v hr hv => by rw [eP]; exact lostP_D ha2 hr hv
  have hP : DropOf p P := by rw [eP]; exact lostP_drop ha2
  have ea0 : gR P a 0 = vx0 p a s := (hR a 0 ha2 (by decide)).trans t0
  have ea1 : gR P a 1 = vx1 p a s := (hR a 1 ha2 (by decide)).trans t1
  have ea2 : gR P a 2 = vx2 p a s := (hR a 2 ha2 (by decide)).trans t2
  have hc : cur P = cur p := cur_torn hi.1 ha hcv (by
    rcases h2 with q | q
    · exact Or.inl ⟨ea2.trans q.1, ea0.trans q.2⟩
    · exact Or.inr (ea2.trans q))
  have h466 : P 466 = 0 := by rw [eP, lostP_hi (by decide), if_neg (by decide), if_neg (by decide), if_pos rfl]
  have h467 : P 467 = -1 := by rw [eP, lostP_hi (by decide), if_neg (by decide), if_pos rfl]
  have h468 : P 468 = p 468 := by
    rw [eP, lostP_hi (by decide), if_neg (by decide), if_neg (by decide), if_neg (by decide)]
    exact rtS_ne (by omega)
  have h469 : P 469 = p 469 + 1 := by rw [eP, lostP_hi (by decide), if_pos rfl]
  refine ⟨hI, WX_drop hi hw hP hc hcv hDr (by rw [h467]; decide) (fun h => ?_), hc, hcv, hDr, hP, ⟨ea0, ea2⟩, h466, h467, h468, h469⟩
  by_cases c0 : s = 0
  · have hRR : ∀ r v, r < 2 → v < 3 → gR P r v = gR p r v := fun r v hr hv => by
      by_cases cr : r = a
      · rw [cr]
        have hcase : v = 0 ∨ v = 1 ∨ v = 2 := by omega
        rcases hcase with rfl | rfl | rfl
        · exact ea0.trans (if_pos (by omega))
        · exact ea1.trans (if_pos (by omega))
        · exact ea2.trans (if_pos c0)
      · have e : r = cur p := by omega
        rw [e]
        exact hcv v hv
    exact WX4_drop hi hw hP hc hRR h
  · rw [hc, ← ha, ea2] at h
    have e : vx2 p a s = 0 := (if_neg c0).trans (if_neg (by omega))
    rw [e] at h
    exact absurd h (by decide)
theorem nLeft_pos (hi : INV B p) (hw : WX p) (hd : HasDraft p) : 0 < nLeft p := by
  have h5 := hw.2.2.2.2.2.2.2 hd.nlt
  have e1 := ct_drop (P := fun b => decide (gB p b 5 = 1)) (Q := fun x => if x = cd p then false else decide (gB p x 5 = 1)) 32 hi.2.2.1.2.1.1 (decide_eq_true h5) (if_pos rfl) (fun j _ hne => (if_neg hne).symm)
  unfold nLeft
  omega
theorem nNew_pos (hd : HasDraft p) : 0 < nNew p := by
  have e1 := ct_drop (P := fun b => decide (gB p b 4 = 1)) (Q := fun x => if x = fdp p then false else decide (gB p x 4 = 1)) 32 hd.2.2.1.1 (decide_eq_true hd.2.2.2.1) (if_pos rfl) (fun j _ hne => (if_neg hne).symm)
  unfold nNew
  omega
/-- a whole commit -/
theorem com28 (hi : INV B p) (hw : WX p) (hd : HasDraft p) (hB : B < 1000000) (ha : a = 1 - cur p) (eP : P = wholeP p a) : INV (B + 1) P ∧ WX P ∧ cur P = a ∧ cd P = fdp p ∧ gR P a 0 = gR p (cur p) 0 + 1 ∧ (∀ v, v < 3 → gR P (cur p) v = gR p (cur p) v) ∧ FreeOf (gR p (cur p) 0 + 1) p P ∧ DEq p (fdp p) P (fdp p) ∧ P 466 = 0 ∧ P 467 = -1 ∧ P 468 = p 468 + 1 ∧ P 469 = p 469 := by
  have hcl := cur_lt (p := p)
  have ha2 : a < 2 := by omega
  obtain ⟨s1, s2, s3⟩ := cnt_succ hi hB
  have hI : INV (B + 1) P := by rw [eP]; exact INV_whole hi hd hB ha
  have hc : cur P = a := by rw [eP]; exact cur_whole hi hB ha
  have hF : FreeOf (gR p (cur p) 0 + 1) p P := by rw [eP]; exact wholeP_free ha2
  obtain ⟨t0, t1, t2⟩ := wholeP_at (p := p) ha2
  rw [← eP] at t0 t1 t2
  have hcv : ∀ v, v < 3 → gR P (cur p) v = gR p (cur p) v := fun v hv => by rw [eP]; exact wholeP_ne ha2 hcl (by omega) hv
  have hDr : ∀ r v, r < 4 → v < 3 → gD P r v = gD p r v := fun r v hr hv => by rw [eP]; exact wholeP_D ha2 hr hv
  have er : ∀ r, r < 4 → rdp P r = rdp p r := fun r hr => rdp_of (hDr r 2 hr (by decide))
  have ecd : cd P = fdp p := by
    unfold cd nowp fdp
    rw [hc, t1]
  have h467 : P 467 = -1 := by rw [eP, wholeP_hi (by decide), if_pos rfl]
  have h466 : P 466 = 0 := by rw [eP, wholeP_hi (by decide), if_neg (by decide), if_pos rfl]
  have h468 : P 468 = p 468 + 1 := by rw [eP, wholeP_hi (by decide), if_neg (by decide), if_neg (by decide), if_pos rfl]
  have h469 : P 469 = p 469 := by
    rw [eP, wholeP_hi (by decide), if_neg (by decide), if_neg (by decide), if_neg (by decide), if_neg (by omega)]
    exact rtS_ne (by omega)
  have g : ∀ b w, b < 32 → w < 14 → (w = 1 ∨ w = 2 ∨ 6 ≤ w) → gB P b w = gB p b w := fun b w hb hw h => by
    rw [hF b w hb hw, if_neg (by omega)]
    split
    · rw [if_neg (by omega), if_neg (by omega)]
    · rfl
  have g0 : ∀ b, b < 32 → gB P b 0 = if gB p b 5 = 1 then 2 else gB p b 0 := fun b hb => by
    rw [hF b 0 hb (by decide), if_neg (by decide)]
    split
    · rw [if_pos rfl]
    · rfl
  have g3 : ∀ b, b < 32 → gB P b 3 = if gB p b 5 = 1 then gR p (cur p) 0 + 1 else gB p b 3 := fun b hb => by
    rw [hF b 3 hb (by decide), if_neg (by decide)]
    split
    · rw [if_neg (by decide), if_pos rfl]
    · rfl
  obtain ⟨w1, w2, w3, w3r, w3d, w4, w5, w6⟩ := hw
  have hdq : DEq p (fdp p) P (fdp p) := DEq_of hd.2.2.1 (fun b hb w hw h => g b w (hd.2.2.1.at32 hb) hw (Or.inr h))
  have hdc : DirS P (cd P) := by
    rw [ecd]
    refine DirS.of hdq hd.2.2.1 ?_
    rw [← drd_fdp hd]
    exact w3d
  refine ⟨hI, ⟨fun b hb h0 => ?_, fun b hb h0 => ?_, hdc, fun r hr ho => ?_, by rw [drd_lt (by rw [h467]; decide)]; exact hdc, fun _ => ?_, fun r hr ho he => ?_, fun z => absurd (show P 467 < 0 by rw [h467]; decide) z⟩, hc, ecd, t0, hcv, hF, hdq, h466, h467, h468, h469⟩
  · rw [g b 1 hb (by decide) (Or.inl rfl), g b 2 hb (by decide) (Or.inr (Or.inl rfl))]
    refine w1 b hb (fun z => h0 ?_)
    rw [g0 b hb, if_neg (fun c5 => by rw [(hi.2.1 b hb).2.2.2.2 c5] at z; exact absurd z (by decide))]
    exact z
  · rw [g0 b hb] at h0
    rw [g3 b hb]
    by_cases c5 : gB p b 5 = 1
    · rw [if_pos c5]
      exact s2
    · rw [if_neg c5] at h0 ⊢
      exact w2 b hb h0
  · rw [hDr r 0 hr (by decide)] at ho
    rw [er r hr]
    have hd2 := (hi.2.2.2.1 r hr ho).2.1
    exact (w3r r hr ho).of (DEq_of hd2 (fun b hb w hw h => g b w (hd2.at32 hb) hw (Or.inr h))) hd2
  · have h1c : 1 - cur P = cur p := by rw [hc, ha]; omega
    rw [h1c, hc, hcv 0 (by decide), t0, hcv 1 (by decide)]
    refine ⟨s1, cd p, hi.2.2.1.2.1.1, hi.2.2.1.1, ?_, Or.inr ⟨?_, ?_⟩⟩
    · rw [g _ 1 hi.2.2.1.2.1.1 (by decide) (Or.inl rfl)]
      exact hi.2.2.1.2.1.2.2.1
    · rw [g0 _ hi.2.2.1.2.1.1, if_pos (w6 hd.nlt)]
    · rw [g3 _ hi.2.2.1.2.1.1, if_pos (w6 hd.nlt)]
      exact s1
  · rw [hDr r 0 hr (by decide)] at ho
    rw [hDr r 1 hr (by decide), hc, t0] at he
    have q := (hi.2.2.2.1 r hr ho).2.2.2
    rw [he] at q
    exact absurd s1 (Int32.not_lt.mpr q)
/-- a reader opened, or closed -/
theorem WX_reader (hi : INV B p) (hw : WX p) (hr4 : r < 4) (h : ∀ i, (i < 454 + 3 * r ∨ 454 + 3 * r + 3 ≤ i) → P i = p i) (hn : gD P r 0 = 0 ∨ (gD P r 0 = 1 ∧ gD P r 1 = gR p (cur p) 0 ∧ gD P r 2 = nowp p)) : WX P := by
  obtain ⟨w1, w2, w3, w3r, w3d, w4, w5, w6⟩ := hw
  have eB : ∀ b w, b < 32 → w < 14 → gB P b w = gB p b w := fun b w hb hw => h _ (by omega)
  have eR : ∀ r' v, r' < 2 → v < 3 → gR P r' v = gR p r' v := fun r' v h1 h2 => h _ (by omega)
  have eD : ∀ r' v, r' ≠ r → r' < 4 → v < 3 → gD P r' v = gD p r' v := fun r' v h0 h1 h2 => h _ (by omega)
  have ec : cur P = cur p := cur_cg eR
  have ecd : cd P = cd p := cd_of (by unfold nowp; rw [ec, eR _ 1 cur_lt (by decide)])
  have e467 : P 467 = p 467 := h _ (by omega)
  have edr : drd P = drd p := by
    unfold drd fdp
    rw [e467, ecd]
  have hdq : ∀ d, DirOK p d → DEq p d P d := fun d hd => DEq_gB hd (fun b w hb hw => eB b w hb hw)
  have hdc : DirS P (cd p) := w3.of (hdq _ hi.2.2.1.2.1) hi.2.2.1.2.1
  refine ⟨fun b hb h0 => ?_, fun b hb h0 => ?_, by rw [ecd]; exact hdc, fun r' hr' ho => ?_, by rw [edr]; exact w3d.of (hdq _ hi.dd.2) hi.dd.2, fun h2 => ?_, fun r' hr' ho he => ?_, fun z => ?_⟩
  · rw [eB b 0 hb (by decide)] at h0
    rw [eB b 1 hb (by decide), eB b 2 hb (by decide)]
    exact w1 b hb h0
  · rw [eB b 0 hb (by decide)] at h0
    rw [eB b 3 hb (by decide)]
    exact w2 b hb h0
  · by_cases c : r' = r
    · subst c
      rcases hn with q | ⟨q1, q2, q3⟩
      · rw [q] at ho
        exact absurd ho (by decide)
      · have e : rdp P r' = cd p := by
          unfold rdp cd
          rw [q3]
        rw [e]
        exact hdc
    · rw [eD r' 0 c hr' (by decide)] at ho
      rw [rdp_of (eD r' 2 c hr' (by decide))]
      have hd := (hi.2.2.2.1 r' hr' ho).2.1
      exact (w3r r' hr' ho).of (hdq _ hd) hd
  · have hcl := cur_lt (p := p)
    rw [ec, eR _ 2 (by omega) (by decide)] at h2
    rw [ec, eR _ 0 (by omega) (by decide), eR _ 0 hcl (by decide), eR _ 1 (by omega) (by decide)]
    obtain ⟨q1, z, z1, z2, z3, z4⟩ := w4 h2
    refine ⟨q1, z, z1, z2, by rw [eB z 1 z1 (by decide)]; exact z3, ?_⟩
    rw [eB z 0 z1 (by decide), eB z 4 z1 (by decide), eB z 3 z1 (by decide)]
    exact z4
  · rw [ecd]
    by_cases c : r' = r
    · subst c
      rcases hn with q | ⟨q1, q2, q3⟩
      · rw [q] at ho
        exact absurd ho (by decide)
      · unfold rdp cd
        rw [q3]
    · rw [eD r' 0 c hr' (by decide)] at ho
      rw [eD r' 1 c hr' (by decide), ec, eR _ 0 cur_lt (by decide)] at he
      rw [rdp_of (eD r' 2 c hr' (by decide))]
      exact w5 r' hr' ho he
  · rw [e467] at z
    rw [ecd, eB _ 5 hi.2.2.1.2.1.1 (by decide)]
    exact w6 z
theorem WX_0 : WX p0 := by
  have z : ∀ b, b < 32 → b ≠ 0 → ∀ w, w < 14 → gB p0 b w = 0 := fun b hb hne w hw => by rw [p0_gB hb hw, if_neg (fun q => hne q.1)]
  have h2 : ∀ b, b < 32 → gB p0 b 0 = 2 → False := fun b hb h => by
    rw [p0_gB hb (by decide)] at h
    split at h <;> exact absurd h (by decide)
  have hdc : DirS p0 (cd p0) := by
    rw [p0_cd]
    exact ⟨fun i j hi => absurd hi (by rw [p0_n2]; omega), fun i i' j j' h1 h2 => absurd h2 (by rw [p0_n2]; omega)⟩
  refine ⟨fun b hb h0 => ?_, fun b hb h0 => (h2 b hb h0).elim, hdc, fun r hr ho => ?_, ?_, fun h => ?_, fun r hr ho => ?_, fun q => absurd (show p0 467 < 0 by rw [p0_m (Or.inr rfl)]; decide) q⟩
  · by_cases c : b = 0
    · subst c
      refine Or.inr ⟨by rw [p0_gB (by decide) (by decide)]; rfl, 0, by decide, by rw [p0_gB (by decide) (by decide)]; rfl⟩
    · exact absurd (z b hb c 0 (by decide)) h0
  · rw [p0_gD hr (by decide)] at ho
    exact absurd ho (by decide)
  · rw [drd_lt (by rw [p0_m (Or.inr rfl)]; decide)]
    exact hdc
  · rw [p0_cur] at h
    rw [show gR p0 (1 - 0) 2 = 0 from p0_gR.2.2.2.2.2] at h
    exact absurd h (by decide)
  · rw [p0_gD hr (by decide)] at ho
    exact absurd ho (by decide)
end PYOPS
