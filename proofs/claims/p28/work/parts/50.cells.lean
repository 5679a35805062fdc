/-! the cells of each object, from a place on; what stands in a world from a place on -/
section CELLS
def cBeds (cI : ClassId) (ad : Nat → Nat) (b : Nat) (μ : Mem) : va_W := [(ad b, .inr (0, fsBeds ad b (μ b))), (ad (b + 1), .inl (cI, 32, .inl (μ (b + 1)))), (ad (b + 2), .inl (cI, 32, .inl (μ (b + 2)))), (ad (b + 3), .inl (cI, 32, .inl (μ (b + 3)))), (ad (b + 4), .inl (cI, 32, .inl (μ (b + 4)))), (ad (b + 5), .inl (cI, 32, .inl (μ (b + 5)))), (ad (b + 6), .inl (cI, 32, .inl (μ (b + 6)))), (ad (b + 7), .inl (cI, 160, .inl (μ (b + 7)))), (ad (b + 8), .inl (cI, 160, .inl (μ (b + 8)))), (ad (b + 9), .inl (cI, 192, .inl (μ (b + 9))))]
def cRows (cI : ClassId) (ad : Nat → Nat) (g : Nat) (μ : Mem) : va_W := [(ad (g + 11), .inl (cI, 2, .inl (μ (g + 11)))), (ad (g + 12), .inl (cI, 2, .inl (μ (g + 12)))), (ad (g + 13), .inl (cI, 2, .inl (μ (g + 13)))), (ad (g + 14), .inl (cI, 4, .inl (μ (g + 14)))), (ad (g + 15), .inl (cI, 4, .inl (μ (g + 15))))]
def cGarden (cI : ClassId) (ad : Nat → Nat) (g : Nat) (μ : Mem) : va_W := (ad g, .inr (2, fsGarden ad g (μ g))) :: (cBeds cI ad (g + 1) μ ++ cRows cI ad g μ)
def cText (cI : ClassId) (adE ad : Nat → Nat) (t : Nat) (μ : Mem) : va_W := [(ad t, .inr (1, fsText adE ad t (μ t))), (ad (t + 1), .inl (cI, 150, .inl (μ (t + 1))))]
def cModel (cI : ClassId) (ad : Nat → Nat) (h : Int64) (q : Nat) (μ : Mem) : va_W := [(ad q, .inr (5, fsModel ad q h (μ q))), (ad (q + 1), .inl (cI, 470, .inl (μ (q + 1)))), (ad (q + 2), .inl (cI, 470, .inl (μ (q + 2)))), (ad (q + 3), .inl (cI, 1880, .inl (μ (q + 3)))), (ad (q + 4), .inl (cI, 150, .inl (μ (q + 4)))), (ad (q + 5), .inl (cI, 10, .inl (μ (q + 5)))), (ad (q + 6), .inl (cI, 2, .inl (μ (q + 6))))]
def cHist (cI cG : ClassId) (ad : Nat → Nat) (q : Nat) (μ : Mem) : va_W := (ad q, .inr (3, fsHist ad q (μ q))) :: (ad (q + 1), .inl (cG, 4, .inr (.inr (.inr (.inr (histRow ad q)))))) :: (cGarden cI ad (q + 2) μ ++ (cGarden cI ad (q + 18) μ ++ (cGarden cI ad (q + 34) μ ++ cGarden cI ad (q + 50) μ)))
def cPG (cI cG : ClassId) (adE ad : Nat → Nat) (q : Nat) (μ : Mem) : va_W := (ad q, .inr (4, fsPG ad q (μ q))) :: (cGarden cI ad (q + 1) μ ++ (cHist cI cG ad (q + 17) μ ++ cText cI adE ad (q + 83) μ))
/-- f, which has n cells and reads the memory at them alone, stands in w from the place b on -/
def Sub (w f : Mem → va_W) (b n : Nat) : Prop := (∀ μ, (f μ).length = n) ∧ ∀ μ, ∃ pre suf : va_W, pre.length = b ∧ w μ = pre ++ (f μ ++ suf) ∧ ∀ q j x, b ≤ q → q < b + n → w (mst μ q j x) = pre ++ (f (mst μ q j x) ++ suf)
theorem mst_ne {μ : Mem} {q j k : Nat} {x : Int32} (h : k ≠ q) : mst μ q j x k = μ k := if_neg h
theorem mst_eq {μ : Mem} {q j : Nat} {x : Int32} : mst μ q j x q = upd (μ q) j x := if_pos rfl
theorem Sub.get {w f : Mem → va_W} {b n : Nat} (h : Sub w f b n) (μ : Mem) (i : Nat) (hi : i < n) : (w μ)[b + i]? = (f μ)[i]? := by
  obtain ⟨h0, h1⟩ := h
  obtain ⟨pre, suf, hl, he, -⟩ := h1 μ
  rw [he, List.getElem?_append_right (by omega), hl, show b + i - b = i by omega, List.getElem?_append_left (by rw [h0]; exact hi)]
theorem Sub.set {w f : Mem → va_W} {b n : Nat} (h : Sub w f b n) (μ : Mem) (i j : Nat) (x : Int32) (e : Nat × va_E) (hi : i < n) (hf : (f μ).set i e = f (mst μ (b + i) j x)) : (w μ).set (b + i) e = w (mst μ (b + i) j x) := by
  obtain ⟨h0, h1⟩ := h
  obtain ⟨pre, suf, hl, he, hs⟩ := h1 μ
  rw [he, hs (b + i) j x (by omega) (by omega), List.set_append_right _ _ (by omega), hl, show b + i - b = i by omega, List.set_append_left _ _ (by rw [h0]; exact hi), hf]
theorem Sub.part {w f : Mem → va_W} {b n : Nat} (h : Sub w f b n) {g pre suf : Mem → va_W} {k m : Nat} (hg : ∀ μ, f μ = pre μ ++ (g μ ++ suf μ)) (hk : ∀ μ, (pre μ).length = k) (hm : ∀ μ, (g μ).length = m) (hn : k + m ≤ n) (hc : ∀ μ q j x, b + k ≤ q → q < b + k + m → pre (mst μ q j x) = pre μ ∧ suf (mst μ q j x) = suf μ) : Sub w g (b + k) m := by
  obtain ⟨h0, h1⟩ := h
  refine ⟨hm, fun μ => ?_⟩
  obtain ⟨p, s, hl, he, hs⟩ := h1 μ
  refine ⟨p ++ pre μ, suf μ ++ s, by rw [List.length_append, hl, hk], by rw [he, hg]; simp, fun q j x h2 h3 => ?_⟩
  rw [hs q j x (by omega) (by omega), hg]
  obtain ⟨c1, c2⟩ := hc μ q j x h2 h3
  rw [c1, c2]
  simp
theorem Sub.self {f : Mem → va_W} {pre suf : va_W} {b n : Nat} (hb : pre.length = b) (hn : ∀ μ, (f μ).length = n) : Sub (fun μ => pre ++ (f μ ++ suf)) f b n := ⟨hn, fun μ => ⟨pre, suf, hb, rfl, fun _ _ _ _ _ => rfl⟩⟩
theorem Sub.arr {w f : Mem → va_W} {b n : Nat} (h : Sub w f b n) {cI : ClassId} {ad : Nat → Nat} (i len : Nat) (hi : i < n) (hg : ∀ μ, (f μ)[i]? = some (ad (b + i), .inl (cI, len, .inl (μ (b + i))))) (hs : ∀ μ j x, (f μ).set i (ad (b + i), .inl (cI, len, .inl (upd (μ (b + i)) j x))) = f (mst μ (b + i) j x)) : Arr cI w ad (b + i) len :=
  fun μ => ⟨(h.get μ i hi).trans (hg μ), fun j x => h.set μ i j x _ hi (hs μ j x)⟩
theorem Sub.obj {w f : Mem → va_W} {b n : Nat} (h : Sub w f b n) {ad : Nat → Nat} {ci : Nat} {fs : (Nat → Int32) → List Value} (hn : 0 < n) (hg : ∀ μ, (f μ)[0]? = some (ad b, .inr (ci, fs (μ b)))) (hs : ∀ μ j x, (f μ).set 0 (ad b, .inr (ci, fs (upd (μ b) j x))) = f (mst μ b j x)) : Obj w ad b ci fs :=
  fun μ => ⟨(h.get μ 0 hn).trans (hg μ), fun j x => h.set μ 0 j x _ hn (hs μ j x)⟩
variable {w : Mem → va_W} {cI cG : ClassId} {ad adE : Nat → Nat}
set_option maxHeartbeats 4000000 in
theorem beds_at {b : Nat} (h : Sub w (cBeds cI ad b) b 10) : BedsAt cI w ad b := by
  refine ⟨h.obj (by omega) (fun _ => rfl) ?_, h.arr 1 32 (by omega) (fun _ => rfl) ?_, h.arr 2 32 (by omega) (fun _ => rfl) ?_, h.arr 3 32 (by omega) (fun _ => rfl) ?_, h.arr 4 32 (by omega) (fun _ => rfl) ?_, h.arr 5 32 (by omega) (fun _ => rfl) ?_, h.arr 6 32 (by omega) (fun _ => rfl) ?_, h.arr 7 160 (by omega) (fun _ => rfl) ?_, h.arr 8 160 (by omega) (fun _ => rfl) ?_, h.arr 9 192 (by omega) (fun _ => rfl) ?_⟩
  all_goals
    intro μ j x
    simp [cBeds, mst, fsBeds]
set_option maxHeartbeats 4000000 in
theorem rows_at {g : Nat} (h : Sub w (cRows cI ad g) (g + 11) 5) : Arr cI w ad (g + 11) 2 ∧ Arr cI w ad (g + 12) 2 ∧ Arr cI w ad (g + 13) 2 ∧ Arr cI w ad (g + 14) 4 ∧ Arr cI w ad (g + 15) 4 := by
  refine ⟨h.arr 0 2 (by omega) (fun _ => rfl) ?_, h.arr 1 2 (by omega) (fun _ => rfl) ?_, h.arr 2 2 (by omega) (fun _ => rfl) ?_, h.arr 3 4 (by omega) (fun _ => rfl) ?_, h.arr 4 4 (by omega) (fun _ => rfl) ?_⟩
  all_goals
    intro μ j x
    simp [cRows, mst]
theorem cBeds_mst {b q j : Nat} {x : Int32} {μ : Mem} (h : q < b ∨ b + 10 ≤ q) : cBeds cI ad b (mst μ q j x) = cBeds cI ad b μ := by
  unfold cBeds
  rw [mst_ne (by omega), mst_ne (by omega), mst_ne (by omega), mst_ne (by omega), mst_ne (by omega), mst_ne (by omega), mst_ne (by omega), mst_ne (by omega), mst_ne (by omega), mst_ne (by omega)]
theorem cRows_mst {g q j : Nat} {x : Int32} {μ : Mem} (h : q < g + 11 ∨ g + 16 ≤ q) : cRows cI ad g (mst μ q j x) = cRows cI ad g μ := by
  unfold cRows
  rw [mst_ne (by omega), mst_ne (by omega), mst_ne (by omega), mst_ne (by omega), mst_ne (by omega)]
theorem cGarden_mst {g q j : Nat} {x : Int32} {μ : Mem} (h : q < g ∨ g + 16 ≤ q) : cGarden cI ad g (mst μ q j x) = cGarden cI ad g μ := by
  unfold cGarden
  rw [mst_ne (by omega), cBeds_mst (by omega), cRows_mst (by omega)]
theorem cBeds_len {b : Nat} {μ : Mem} : (cBeds cI ad b μ).length = 10 := rfl
theorem cRows_len {g : Nat} {μ : Mem} : (cRows cI ad g μ).length = 5 := rfl
theorem cGarden_len {g : Nat} {μ : Mem} : (cGarden cI ad g μ).length = 16 := rfl
theorem garden_at {g : Nat} (h : Sub w (cGarden cI ad g) g 16) : GardenAt cI w ad g := by
  refine ⟨h.obj (by omega) (fun _ => rfl) ?_, beds_at ?_, rows_at ?_⟩
  · intro μ j x
    unfold cGarden
    rw [cBeds_mst (by omega), cRows_mst (by omega), mst_eq]
    rfl
  · exact h.part (pre := fun μ => [(ad g, .inr (2, fsGarden ad g (μ g)))]) (suf := cRows cI ad g) (k := 1) (fun _ => rfl) (fun _ => rfl) (fun _ => rfl) (by omega) (fun μ q j x h1 h2 => ⟨by rw [mst_ne (by omega)], cRows_mst (by omega)⟩)
  · exact h.part (pre := fun μ => (ad g, .inr (2, fsGarden ad g (μ g))) :: cBeds cI ad (g + 1) μ) (suf := fun _ => []) (k := 11) (fun _ => by simp [cGarden]) (fun _ => rfl) (fun _ => rfl) (by omega) (fun μ q j x h1 h2 => ⟨by rw [mst_ne (by omega), cBeds_mst (by omega)], rfl⟩)
theorem text_at {t : Nat} (h : Sub w (cText cI adE ad t) t 2) : TextAt cI adE w ad t := by
  refine ⟨h.obj (by omega) (fun _ => rfl) ?_, h.arr 1 150 (by omega) (fun _ => rfl) ?_⟩
  all_goals
    intro μ j x
    simp [cText, mst]
set_option maxHeartbeats 4000000 in
theorem model_at {q : Nat} {hh : Int64} (h : Sub w (cModel cI ad hh q) q 7) : ModelAt cI w ad hh q := by
  refine ⟨h.obj (by omega) (fun _ => rfl) ?_, h.arr 1 470 (by omega) (fun _ => rfl) ?_, h.arr 2 470 (by omega) (fun _ => rfl) ?_, h.arr 3 1880 (by omega) (fun _ => rfl) ?_, h.arr 4 150 (by omega) (fun _ => rfl) ?_, h.arr 5 10 (by omega) (fun _ => rfl) ?_, h.arr 6 2 (by omega) (fun _ => rfl) ?_⟩
  all_goals
    intro μ j x
    simp [cModel, mst]
theorem cText_mst {t q j : Nat} {x : Int32} {μ : Mem} (h : q < t ∨ t + 2 ≤ q) : cText cI adE ad t (mst μ q j x) = cText cI adE ad t μ := by
  unfold cText
  rw [mst_ne (by omega), mst_ne (by omega)]
theorem cHist_mst {t q j : Nat} {x : Int32} {μ : Mem} (h : q < t ∨ t + 66 ≤ q) : cHist cI cG ad t (mst μ q j x) = cHist cI cG ad t μ := by
  unfold cHist
  rw [mst_ne (by omega), cGarden_mst (by omega), cGarden_mst (by omega), cGarden_mst (by omega), cGarden_mst (by omega)]
theorem hist_at {q : Nat} (h : Sub w (cHist cI cG ad q) q 66) : HistAt cI cG w ad q := by
  refine ⟨h.obj (by omega) (fun _ => rfl) ?_, fun μ => (h.get μ 1 (by omega)).trans rfl, fun j hj => ?_⟩
  · intro μ j x
    unfold cHist
    rw [cGarden_mst (by omega), cGarden_mst (by omega), cGarden_mst (by omega), cGarden_mst (by omega), mst_eq]
    rfl
  · have hcase : j = 0 ∨ j = 1 ∨ j = 2 ∨ j = 3 := by omega
    rcases hcase with rfl | rfl | rfl | rfl
    · exact garden_at (h.part (g := cGarden cI ad (q + 2)) (pre := fun μ => [(ad q, .inr (3, fsHist ad q (μ q))), (ad (q + 1), .inl (cG, 4, .inr (.inr (.inr (.inr (histRow ad q))))))]) (suf := fun μ => cGarden cI ad (q + 18) μ ++ (cGarden cI ad (q + 34) μ ++ cGarden cI ad (q + 50) μ)) (k := 2) (fun _ => rfl) (fun _ => rfl) (fun _ => rfl) (by omega) (fun μ q j x h1 h2 => ⟨by rw [mst_ne (by omega)], by rw [cGarden_mst (by omega), cGarden_mst (by omega), cGarden_mst (by omega)]⟩))
    · exact garden_at (h.part (g := cGarden cI ad (q + 18)) (pre := fun μ => (ad q, .inr (3, fsHist ad q (μ q))) :: (ad (q + 1), .inl (cG, 4, .inr (.inr (.inr (.inr (histRow ad q)))))) :: cGarden cI ad (q + 2) μ) (suf := fun μ => (cGarden cI ad (q + 34) μ ++ cGarden cI ad (q + 50) μ)) (k := 18) (fun _ => rfl) (fun _ => rfl) (fun _ => rfl) (by omega) (fun μ q j x h1 h2 => ⟨by rw [mst_ne (by omega), cGarden_mst (by omega)], by rw [cGarden_mst (by omega), cGarden_mst (by omega)]⟩))
    · exact garden_at (h.part (g := cGarden cI ad (q + 34)) (pre := fun μ => (ad q, .inr (3, fsHist ad q (μ q))) :: (ad (q + 1), .inl (cG, 4, .inr (.inr (.inr (.inr (histRow ad q)))))) :: (cGarden cI ad (q + 2) μ ++ cGarden cI ad (q + 18) μ)) (suf := fun μ => cGarden cI ad (q + 50) μ) (k := 34) (fun _ => rfl) (fun _ => rfl) (fun _ => rfl) (by omega) (fun μ q j x h1 h2 => ⟨by rw [mst_ne (by omega), cGarden_mst (by omega), cGarden_mst (by omega)], by rw [cGarden_mst (by omega)]⟩))
    · exact garden_at (h.part (g := cGarden cI ad (q + 50)) (pre := fun μ => (ad q, .inr (3, fsHist ad q (μ q))) :: (ad (q + 1), .inl (cG, 4, .inr (.inr (.inr (.inr (histRow ad q)))))) :: (cGarden cI ad (q + 2) μ ++ (cGarden cI ad (q + 18) μ ++ cGarden cI ad (q + 34) μ))) (suf := fun _ => []) (k := 50) (fun _ => by simp [cHist]) (fun _ => rfl) (fun _ => rfl) (by omega) (fun μ q j x h1 h2 => ⟨by rw [mst_ne (by omega), cGarden_mst (by omega), cGarden_mst (by omega), cGarden_mst (by omega)], rfl⟩))
theorem pg_at {q : Nat} (h : Sub w (cPG cI cG adE ad q) q 85) : PGAt cI cG adE w ad q := by
  refine ⟨h.obj (by omega) (fun _ => rfl) ?_, garden_at ?_, hist_at ?_, text_at ?_⟩
  · intro μ j x
    unfold cPG
    rw [cGarden_mst (by omega), cHist_mst (by omega), cText_mst (by omega), mst_eq]
    rfl
  · exact h.part (pre := fun μ => [(ad q, .inr (4, fsPG ad q (μ q)))]) (suf := fun μ => cHist cI cG ad (q + 17) μ ++ cText cI adE ad (q + 83) μ) (k := 1) (fun _ => rfl) (fun _ => rfl) (fun _ => rfl) (by omega) (fun μ q j x h1 h2 => ⟨by rw [mst_ne (by omega)], by rw [cHist_mst (by omega), cText_mst (by omega)]⟩)
  · exact h.part (pre := fun μ => (ad q, .inr (4, fsPG ad q (μ q))) :: cGarden cI ad (q + 1) μ) (suf := fun μ => cText cI adE ad (q + 83) μ) (k := 17) (fun _ => rfl) (fun _ => rfl) (fun _ => rfl) (by omega) (fun μ q j x h1 h2 => ⟨by rw [mst_ne (by omega), cGarden_mst (by omega)], by rw [cText_mst (by omega)]⟩)
  · exact h.part (pre := fun μ => (ad q, .inr (4, fsPG ad q (μ q))) :: (cGarden cI ad (q + 1) μ ++ cHist cI cG ad (q + 17) μ)) (suf := fun _ => []) (k := 83) (fun _ => by simp [cPG]) (fun _ => rfl) (fun _ => rfl) (by omega) (fun μ q j x h1 h2 => ⟨by rw [mst_ne (by omega), cGarden_mst (by omega), cHist_mst (by omega)], rfl⟩)
end CELLS
