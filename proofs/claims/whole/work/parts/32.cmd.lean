/-! words without 'initialized Enum', which the tables don't have -/
def noE (w : Cond) : Bool := !decide (w = .initialized RJx29ce0)
theorem goodIn_noE {big sub t : List Cond} {c : Cond} (hb : big = c :: t) (h : GoodIn big sub) (hs : sub.all noE = true) : GoodIn (c :: t.filter noE) sub := by
  subst hb
  intro w hw
  refine ⟨?_, (h w hw).2⟩
  rcases List.mem_cons.mp (h w hw).1 with e | e
  · exact List.mem_cons.mpr (Or.inl e)
  · exact List.mem_cons_of_mem _ (List.mem_filter.mpr ⟨e, List.all_eq_true.mp hs w hw⟩)
theorem goodIn_noE2 {big pre t t2 : List Cond} {c c2 : Cond} (hb : big = c :: t) (h : GoodIn big (pre ++ (c2 :: t2))) (hp : pre.all noE = true) (h2 : noE c2 = true) : GoodIn (c :: t.filter noE) (pre ++ (c2 :: t2.filter noE)) := by
  subst hb
  have hsub : ∀ w ∈ pre ++ (c2 :: t2.filter noE), w ∈ pre ++ (c2 :: t2) ∧ noE w = true := by
    intro w hw
    rcases List.mem_append.mp hw with e | e
    · exact ⟨List.mem_append_left _ e, List.all_eq_true.mp hp w e⟩
    · rcases List.mem_cons.mp e with e | e
      · exact ⟨List.mem_append_right _ (List.mem_cons.mpr (Or.inl e)), by rw [e]; exact h2⟩
      · exact ⟨List.mem_append_right _ (List.mem_cons_of_mem _ (List.mem_filter.mp e).1), (List.mem_filter.mp e).2⟩
  intro w hw
  have hw2 := hsub w hw
  refine ⟨?_, (h w hw2.1).2⟩
  rcases List.mem_cons.mp (h w hw2.1).1 with e | e
  · exact List.mem_cons.mpr (Or.inl e)
  · exact List.mem_cons_of_mem _ (List.mem_filter.mpr ⟨e, hw2.2⟩)
def vsX6_faultOf : List Cond := .code yX6_faultOf cX6_faultOf 2 (some .int) :: wsX6_faultOf.tail.filter noE
def vsX6_perform : List Cond := .code yX6_perform cX6_perform 2 none :: wsX6_perform.tail.filter noE
def vsX6_runCommands : List Cond := .code yX6_runCommands cX6_runCommands 3 (some .int) :: wsX6_runCommands.tail.filter noE
theorem vgX6_faultOf_X4_beginFault : GoodIn vsX6_faultOf (wsV RX6 30 RX4 yX4_beginFault wsX4_beginFault) := goodIn_noE rfl gX6_faultOf_X4_beginFault (by decide +kernel)
theorem vgX6_faultOf_X4_putFault : GoodIn vsX6_faultOf (wsV RX6 45 RX4 yX4_putFault wsX4_putFault) := goodIn_noE rfl gX6_faultOf_X4_putFault (by decide +kernel)
theorem vgX6_faultOf_X4_removeFault : GoodIn vsX6_faultOf (wsV RX6 52 RX4 yX4_removeFault wsX4_removeFault) := goodIn_noE rfl gX6_faultOf_X4_removeFault (by decide +kernel)
theorem vgX6_faultOf_X4_commitFault : GoodIn vsX6_faultOf (wsV RX6 59 RX4 yX4_commitFault wsX4_commitFault) := goodIn_noE rfl gX6_faultOf_X4_commitFault (by decide +kernel)
theorem vgX6_faultOf_X4_abortFault : GoodIn vsX6_faultOf (wsV RX6 65 RX4 yX4_abortFault wsX4_abortFault) := goodIn_noE rfl gX6_faultOf_X4_abortFault (by decide +kernel)
theorem vgX6_faultOf_X4_openFault : GoodIn vsX6_faultOf (wsV RX6 71 RX4 yX4_openFault wsX4_openFault) := goodIn_noE rfl gX6_faultOf_X4_openFault (by decide +kernel)
theorem vgX6_faultOf_X4_openReaderFault : GoodIn vsX6_faultOf (wsV RX6 77 RX4 yX4_openReaderFault wsX4_openReaderFault) := goodIn_noE rfl gX6_faultOf_X4_openReaderFault (by decide +kernel)
theorem vgX6_perform_X4_beginDraft : GoodIn vsX6_perform (wsV RX6 42 RX4 yX4_beginDraft wsX4_beginDraft) := goodIn_noE rfl gX6_perform_X4_beginDraft (by decide +kernel)
theorem vgX6_perform_X4_putEntry : GoodIn vsX6_perform (wsV RX6 49 RX4 yX4_putEntry wsX4_putEntry) := goodIn_noE rfl gX6_perform_X4_putEntry (by decide +kernel)
theorem vgX6_perform_X4_removeEntry : GoodIn vsX6_perform (wsV RX6 56 RX4 yX4_removeEntry wsX4_removeEntry) := goodIn_noE rfl gX6_perform_X4_removeEntry (by decide +kernel)
theorem vgX6_perform_X4_commitDraft : GoodIn vsX6_perform (wsV RX6 62 RX4 yX4_commitDraft wsX4_commitDraft) := goodIn_noE rfl gX6_perform_X4_commitDraft (by decide +kernel)
theorem vgX6_perform_X4_dropDraft : GoodIn vsX6_perform (wsV RX6 68 RX4 yX4_dropDraft wsX4_dropDraft) := goodIn_noE rfl gX6_perform_X4_dropDraft (by decide +kernel)
theorem vgX6_perform_X4_openReader : GoodIn vsX6_perform (wsV RX6 74 RX4 yX4_openReader wsX4_openReader) := goodIn_noE rfl gX6_perform_X4_openReader (by decide +kernel)
theorem vgX6_perform_X4_closeReader : GoodIn vsX6_perform (wsV RX6 80 RX4 yX4_closeReader wsX4_closeReader) := goodIn_noE rfl gX6_perform_X4_closeReader (by decide +kernel)
theorem vgX6_runCommands_X3_findFault : GoodIn vsX6_runCommands (wsV RX6 155 RX3 yX3_findFault wsX3_findFault) := goodIn_noE rfl gX6_runCommands_X3_findFault (by decide +kernel)
theorem vgX6_runCommands_X5_save : GoodIn vsX6_runCommands (wsV RX6 38 RX5 yX5_save wsX5_save) := goodIn_noE rfl gX6_runCommands_X5_save (by decide +kernel)
theorem vgX6_runCommands_X3_rewind : GoodIn vsX6_runCommands (wsV RX6 158 RX3 yX3_rewind wsX3_rewind) := goodIn_noE rfl gX6_runCommands_X3_rewind (by decide +kernel)
theorem vgX6_runCommands_X3_scanCommand : GoodIn vsX6_runCommands (wsV RX6 161 RX3 yX3_scanCommand wsX3_scanCommand) := goodIn_noE rfl gX6_runCommands_X3_scanCommand (by decide +kernel)
theorem vgX6_runCommands_X6_faultOf : GoodIn vsX6_runCommands (wsV RX6 169 RX6 yX6_faultOf vsX6_faultOf) := goodIn_noE2 rfl gX6_runCommands_X6_faultOf (by decide +kernel) (by decide +kernel)
theorem vgX6_runCommands_X6_perform : GoodIn vsX6_runCommands (wsV RX6 173 RX6 yX6_perform vsX6_perform) := goodIn_noE2 rfl gX6_runCommands_X6_perform (by decide +kernel) (by decide +kernel)
def f_X3_scanCommand_b97 (q : Nat) (s0 : Int32) (μ : Mem) : Option (Int32 × Mem) := (zr s0).bind (fun v13 => (some (v13, μ)))
def f_X3_scanCommand_b96 (q : Nat)  (μ : Mem) : Option (Int32 × Mem) := f_X3_scanCommand_b97 q 0 μ
def f_X3_scanCommand (q : Nat) (μ : Mem) : Option (Int32 × Mem) := (f_X3_skipSpaces q μ).bind (fun μ1 => (if (μ1 q 2) < (μ1 q 1) then (f_X3_byteAt q (μ1 q 2) μ1).bind (fun v2 => (f_X3_isLetter v2).bind (fun v3 => (if v3 = 0 then bn2 (f_X3_failAt q (μ1 q 2) μ1) (fun v16 μ17 => (zr v16).bind (fun v18 => (some (v18, μ17)))) else (f_X3_skipLetters q μ1).bind (fun μ4 => (f_X3_commandNamed q (μ1 q 2) μ4).bind (fun v5 => (pf μ4 q 4 v5).bind (fun μ6 => (if (μ6 q 4) = 0 then bn2 (f_X3_failAt q (μ1 q 2) μ6) (fun v7 μ8 => (zr v7).bind (fun v9 => (some (v9, μ8)))) else (en (μ6 q 4)).bind (fun v10 => bn2 (f_X3_scanNumbers q (numb v10) μ6) (fun v11 μ12 => (if v11 = 0 then f_X3_scanCommand_b96 q μ12 else bn2 (f_X3_scanSemicolon q μ12) (fun v14 μ15 => (if v14 = 0 then f_X3_scanCommand_b96 q μ15 else f_X3_scanCommand_b97 q 1 μ15)))))))))))) else (some (0, μ1))))
set_option maxHeartbeats 4000000 in
set_option maxRecDepth 100000 in
theorem c_X3_scanCommand (l : Launch) {D : va_G} {cI cG cL : ClassId} {A : Nat → Prop} {tC tS : Nat} {adE adK adV : Nat → Nat} (hE : EnOK (ENV tC tS adE adK adV A) A) {w : Mem → va_W} {ad : Nat → Nat} {q : Nat} {μ : Mem} {r : Int32} {μ' : Mem} (hw : TextAt cI adE w ad q) (h : f_X3_scanCommand q μ = some (r, μ')) : Met l yX3_scanCommand wsX3_scanCommand (rmk 6 133) (WPre D (tyl cI cG cL) A (ENV tC tS adE adK adV A) (w μ) [.ref (ad q)]) (PI D A (w μ') r) 0 0 A := by
  have hiX3 : ∀ w ∈ u_ws RX3 TX3 7, w ∈ wsX3_scanCommand := by decide +kernel
  have mf19 : Cond.fieldLink RX3 19 (TX3 2).1 (TX3 2).2.1 (TX3 2).2.2.1 ∈ wsX3_scanCommand := by decide +kernel
  have mf15 : Cond.fieldLink RX3 15 (TX3 1).1 (TX3 1).2.1 (TX3 1).2.2.1 ∈ wsX3_scanCommand := by decide +kernel
  have mf25 : Cond.fieldLink RX3 25 (TX3 4).1 (TX3 4).2.1 (TX3 4).2.2.1 ∈ wsX3_scanCommand := by decide +kernel
  refine met_start (cc := cX3_scanCommand) (nL := 2) (ret := (some .boolean)) (own := RX3) hE (by decide) rfl rfl (Nat.le_of_ble_eq_true rfl) (fun p e s m args below meth c ls X hS hl hr hlk => ?_)
  have hx := X.1.1
  have hb := X.1.2.1
  replace hl : lv_has ls 2 [(0, .ref (ad q))] := hl
  have hb97 : ∀ (s0 : Int32) (μ : Mem) (H : Heap) (locs : List Loc) (ls : Array Slot), HS D A (w μ) s.heap H locs → lv_has ls 2 [] → f_X3_scanCommand_b97 q s0 μ = some (r, μ') → W p l e (headSpec wsX3_scanCommand (rmk 6 133)).room s m args below meth c H locs 0 0 (MQ below (PI D A (w μ') r) args s 0 0 A) (F0 m 97 ls [.int s0]) := by
    intro s0 μ H locs ls hS hl h
    unfold f_X3_scanCommand_b97 at h
    obtain ⟨v13, ev13, h⟩ := ob h
    obtain ⟨ezv13, eov13⟩ := zr_ok ev13
    rw [ezv13]
    obtain ⟨rfl, rfl⟩ := pr2 h
    exact r_zret X hS hr hlk eov13 dX3_scanCommand_97
  have hb96 : ∀  (μ : Mem) (H : Heap) (locs : List Loc) (ls : Array Slot), HS D A (w μ) s.heap H locs → lv_has ls 2 [] → f_X3_scanCommand_b96 q μ = some (r, μ') → W p l e (headSpec wsX3_scanCommand (rmk 6 133)).room s m args below meth c H locs 0 0 (MQ below (PI D A (w μ') r) args s 0 0 A) (F0 m 96 ls []) := by
    intro μ H locs ls hS hl h
    unfold f_X3_scanCommand_b96 at h
    refine lv_iconst (v := 0) hx hb dX3_scanCommand_96 (by decide) ?_
    exact hb97 0 μ _ _ _ hS (lv_sub hl [] rfl) h
  unfold f_X3_scanCommand at h
  refine lv_aload_n hx hb dX3_scanCommand_0 rfl (lv_at hl 0 rfl) ?_
  obtain ⟨μ1, eμ1, h⟩ := ob h
  refine r_cv hS (r_runV (As := []) (rest := []) X hS (c_X3_skipSpaces l hE (w := w) (ad := ad) (μ := μ) (D := D) (cI := cI) (cG := cG) (cL := cL) hw eμ1) (cwV 0 X.1.2.2.2.2 gX3_scanCommand_X3_skipSpaces rfl rfl rfl (by decide +kernel) ⟨Nat.le_of_ble_eq_true rfl, Nat.le_of_ble_eq_true rfl⟩) (q0 := q) (ci := 1) rfl (hw.1 μ).1 rfl hl.1 rfl (Nat.le_of_ble_eq_true rfl) dX3_scanCommand_1 ⟨Nat.zero_le _, Nat.zero_le _⟩) (fun H locs hS => ?_)
  refine lv_aload_n hx hb dX3_scanCommand_4 rfl (lv_at hl 0 rfl) ?_
  refine r_get X hS (T := TX3) (k := 2) (hw.1 μ1).1 rfl hiX3 (by decide) mf19 rfl dX3_scanCommand_5 ?_
  refine lv_aload_n hx hb dX3_scanCommand_8 rfl (lv_at hl 0 rfl) ?_
  refine r_get X hS (T := TX3) (k := 1) (hw.1 μ1).1 rfl hiX3 (by decide) mf15 rfl dX3_scanCommand_9 ?_
  refine lv_icmp_lt (tgt := 17) hx hb dX3_scanCommand_12 (by decide) (fun cc => ?_) (fun cc => ?_)
  · replace h := it h cc
    refine lv_aload_n hx hb dX3_scanCommand_17 rfl (lv_at hl 0 rfl) ?_
    refine lv_aload_n hx hb dX3_scanCommand_18 rfl (lv_at hl 0 rfl) ?_
    refine r_get X hS (T := TX3) (k := 2) (hw.1 μ1).1 rfl hiX3 (by decide) mf19 rfl dX3_scanCommand_19 ?_
    obtain ⟨v2, ev2, h⟩ := ob h
    refine r_ci hS (r_runV (As := [.int (μ1 q 2)]) (rest := []) X hS (c_X3_byteAt l hE (w := w) (ad := ad) (μ := μ1) (D := D) (cI := cI) (cG := cG) (cL := cL) hw ev2) (cwV 1 X.1.2.2.2.2 gX3_scanCommand_X3_byteAt rfl rfl rfl (by decide +kernel) ⟨Nat.le_of_ble_eq_true rfl, Nat.le_of_ble_eq_true rfl⟩) (q0 := q) (ci := 1) rfl (hw.1 μ1).1 rfl hl.1 rfl (Nat.le_of_ble_eq_true rfl) dX3_scanCommand_22 ⟨Nat.zero_le _, Nat.zero_le _⟩) (fun H locs hS => ?_)
    obtain ⟨v3, ev3, h⟩ := ob h
    refine r_ci hS (r_runS (As := [.int v2]) (rest := []) X hS (c_X3_isLetter l hE (w := w) (ad := ad) (μ := μ1) (D := D) (cI := cI) (cG := cG) (cL := cL) ev3) (va_cwS 1 X.1.2.2.2.2 gX3_scanCommand_X3_isLetter rfl rfl rfl (by decide +kernel) ⟨Nat.le_of_ble_eq_true rfl, Nat.le_of_ble_eq_true rfl⟩) rfl hl.1 rfl (Nat.le_of_ble_eq_true rfl) dX3_scanCommand_25 ⟨Nat.zero_le _, Nat.zero_le _⟩) (fun H locs hS => ?_)
    refine lv_if_ne (tgt := 40) hx hb dX3_scanCommand_28 (by decide) (fun cc => ?_) (fun cc => ?_)
    · replace h := ie h cc
      refine lv_aload_n hx hb dX3_scanCommand_40 rfl (lv_at hl 0 rfl) ?_
      refine r_get X hS (T := TX3) (k := 2) (hw.1 μ1).1 rfl hiX3 (by decide) mf19 rfl dX3_scanCommand_41 ?_
      refine lv_istore_n (lv' := [(1, .int (μ1 q 2)), (0, .ref (ad q))]) hx hb dX3_scanCommand_44 rfl hl (by decide) rfl (fun ls hl => ?_)
      refine lv_aload_n hx hb dX3_scanCommand_45 rfl (lv_at hl 1 rfl) ?_
      obtain ⟨μ4, eμ4, h⟩ := ob h
      refine r_cv hS (r_runV (As := []) (rest := []) X hS (c_X3_skipLetters l hE (w := w) (ad := ad) (μ := μ1) (D := D) (cI := cI) (cG := cG) (cL := cL) hw eμ4) (cwV 0 X.1.2.2.2.2 gX3_scanCommand_X3_skipLetters rfl rfl rfl (by decide +kernel) ⟨Nat.le_of_ble_eq_true rfl, Nat.le_of_ble_eq_true rfl⟩) (q0 := q) (ci := 1) rfl (hw.1 μ1).1 rfl hl.1 rfl (Nat.le_of_ble_eq_true rfl) dX3_scanCommand_46 ⟨Nat.zero_le _, Nat.zero_le _⟩) (fun H locs hS => ?_)
      refine lv_aload_n hx hb dX3_scanCommand_49 rfl (lv_at hl 1 rfl) ?_
      refine lv_aload_n hx hb dX3_scanCommand_50 rfl (lv_at hl 1 rfl) ?_
      refine lv_iload_n hx hb dX3_scanCommand_51 rfl (lv_at hl 0 rfl) ?_
      obtain ⟨v5, ev5, h⟩ := ob h
      refine r_ce hS (r_runV (As := [.int (μ1 q 2)]) (rest := [.ref (ad q)]) X hS (c_X3_commandNamed l hE (w := w) (ad := ad) (μ := μ4) (D := D) (cI := cI) (cG := cG) (cL := cL) hw ev5) (cwV 1 X.1.2.2.2.2 gX3_scanCommand_X3_commandNamed rfl rfl rfl (by decide +kernel) ⟨Nat.le_of_ble_eq_true rfl, Nat.le_of_ble_eq_true rfl⟩) (q0 := q) (ci := 1) rfl (hw.1 μ4).1 rfl hl.1 rfl (Nat.le_of_ble_eq_true rfl) dX3_scanCommand_52 ⟨Nat.zero_le _, Nat.zero_le _⟩) (fun H locs hS => ?_)
      obtain ⟨μ6, eμ6, h⟩ := ob h
      refine r_putc X hS eμ6 hw.1 hiX3 mf25 dX3_scanCommand_55 (fun H locs hS => ?_)
      refine lv_aload_n hx hb dX3_scanCommand_58 rfl (lv_at hl 1 rfl) ?_
      refine r_get X hS (T := TX3) (k := 4) (hw.1 μ6).1 rfl hiX3 (by decide) mf25 rfl dX3_scanCommand_59 ?_
      refine r_ifnn (tgt := 71) hx hb dX3_scanCommand_62 (by decide) (fun cc => ?_) (fun cc => ?_)
      · replace h := it h cc
        refine lv_aload_n hx hb dX3_scanCommand_65 rfl (lv_at hl 1 rfl) ?_
        refine lv_iload_n hx hb dX3_scanCommand_66 rfl (lv_at hl 0 rfl) ?_
        obtain ⟨v7, μ8, ev7, h⟩ := ob2 h
        refine r_ci hS (r_runV (As := [.int (μ1 q 2)]) (rest := []) X hS (c_X3_failAt l hE (w := w) (ad := ad) (μ := μ6) (D := D) (cI := cI) (cG := cG) (cL := cL) hw ev7) (cwV 1 X.1.2.2.2.2 gX3_scanCommand_X3_failAt rfl rfl rfl (by decide +kernel) ⟨Nat.le_of_ble_eq_true rfl, Nat.le_of_ble_eq_true rfl⟩) (q0 := q) (ci := 1) rfl (hw.1 μ6).1 rfl hl.1 rfl (Nat.le_of_ble_eq_true rfl) dX3_scanCommand_67 ⟨Nat.zero_le _, Nat.zero_le _⟩) (fun H locs hS => ?_)
        obtain ⟨v9, ev9, h⟩ := ob h
        obtain ⟨ezv9, eov9⟩ := zr_ok ev9
        rw [ezv9]
        obtain ⟨rfl, rfl⟩ := pr2 h
        exact r_zret X hS hr hlk eov9 dX3_scanCommand_70
      · replace h := ie h cc
        refine lv_aload_n hx hb dX3_scanCommand_71 rfl (lv_at hl 1 rfl) ?_
        refine lv_aload_n hx hb dX3_scanCommand_72 rfl (lv_at hl 1 rfl) ?_
        refine r_get X hS (T := TX3) (k := 4) (hw.1 μ6).1 rfl hiX3 (by decide) mf25 rfl dX3_scanCommand_73 ?_
        obtain ⟨v10, ev10, h⟩ := ob h
        refine r_numb X hS ev10 rfl dX3_scanCommand_76 ?_
        obtain ⟨v11, μ12, ev11, h⟩ := ob2 h
        refine r_ci hS (r_runV (As := [.int (numb v10)]) (rest := []) X hS (c_X3_scanNumbers l hE (w := w) (ad := ad) (μ := μ6) (D := D) (cI := cI) (cG := cG) (cL := cL) hw ev11) (cwV 1 X.1.2.2.2.2 gX3_scanCommand_X3_scanNumbers rfl rfl rfl (by decide +kernel) ⟨Nat.le_of_ble_eq_true rfl, Nat.le_of_ble_eq_true rfl⟩) (q0 := q) (ci := 1) rfl (hw.1 μ6).1 rfl hl.1 rfl (Nat.le_of_ble_eq_true rfl) dX3_scanCommand_79 ⟨Nat.zero_le _, Nat.zero_le _⟩) (fun H locs hS => ?_)
        refine lv_if_eq (tgt := 96) hx hb dX3_scanCommand_82 (by decide) (fun cc => ?_) (fun cc => ?_)
        · replace h := it h cc
          exact hb96 μ12 _ _ _ hS (lv_sub hl [] rfl) h
        · replace h := ie h cc
          refine lv_aload_n hx hb dX3_scanCommand_85 rfl (lv_at hl 1 rfl) ?_
          obtain ⟨v14, μ15, ev14, h⟩ := ob2 h
          refine r_ci hS (r_runV (As := []) (rest := []) X hS (c_X3_scanSemicolon l hE (w := w) (ad := ad) (μ := μ12) (D := D) (cI := cI) (cG := cG) (cL := cL) hw ev14) (cwV 0 X.1.2.2.2.2 gX3_scanCommand_X3_scanSemicolon rfl rfl rfl (by decide +kernel) ⟨Nat.le_of_ble_eq_true rfl, Nat.le_of_ble_eq_true rfl⟩) (q0 := q) (ci := 1) rfl (hw.1 μ12).1 rfl hl.1 rfl (Nat.le_of_ble_eq_true rfl) dX3_scanCommand_86 ⟨Nat.zero_le _, Nat.zero_le _⟩) (fun H locs hS => ?_)
          refine lv_if_eq (tgt := 96) hx hb dX3_scanCommand_89 (by decide) (fun cc => ?_) (fun cc => ?_)
          · replace h := it h cc
            exact hb96 μ15 _ _ _ hS (lv_sub hl [] rfl) h
          · replace h := ie h cc
            refine lv_iconst (v := 1) hx hb dX3_scanCommand_92 (by decide) ?_
            refine lv_goto (tgt := 97) hx hb dX3_scanCommand_93 (by decide) ?_
            exact hb97 1 μ15 _ _ _ hS (lv_sub hl [] rfl) h
    · replace h := it h cc
      refine lv_aload_n hx hb dX3_scanCommand_31 rfl (lv_at hl 0 rfl) ?_
      refine lv_aload_n hx hb dX3_scanCommand_32 rfl (lv_at hl 0 rfl) ?_
      refine r_get X hS (T := TX3) (k := 2) (hw.1 μ1).1 rfl hiX3 (by decide) mf19 rfl dX3_scanCommand_33 ?_
      obtain ⟨v16, μ17, ev16, h⟩ := ob2 h
      refine r_ci hS (r_runV (As := [.int (μ1 q 2)]) (rest := []) X hS (c_X3_failAt l hE (w := w) (ad := ad) (μ := μ1) (D := D) (cI := cI) (cG := cG) (cL := cL) hw ev16) (cwV 1 X.1.2.2.2.2 gX3_scanCommand_X3_failAt rfl rfl rfl (by decide +kernel) ⟨Nat.le_of_ble_eq_true rfl, Nat.le_of_ble_eq_true rfl⟩) (q0 := q) (ci := 1) rfl (hw.1 μ1).1 rfl hl.1 rfl (Nat.le_of_ble_eq_true rfl) dX3_scanCommand_36 ⟨Nat.zero_le _, Nat.zero_le _⟩) (fun H locs hS => ?_)
      obtain ⟨v18, ev18, h⟩ := ob h
      obtain ⟨ezv18, eov18⟩ := zr_ok ev18
      rw [ezv18]
      obtain ⟨rfl, rfl⟩ := pr2 h
      exact r_zret X hS hr hlk eov18 dX3_scanCommand_39
  · replace h := ie h cc
    refine lv_iconst (v := 0) hx hb dX3_scanCommand_15 (by decide) ?_
    obtain ⟨rfl, rfl⟩ := pr2 h
    exact r_zret X hS hr hlk (by decide) dX3_scanCommand_16
def f_X3_findFault_b26 (q : Nat)  (μ : Mem) : Option (Int32 × Mem) := (some (μ q 3, μ))
def f_X3_findFault_b6 (q : Nat)  : Nat → Int32 → Mem → Option (Int32 × Mem)
  | 0, _, _ => none
  | fuel6 + 1, x1, μ => (if 150 ≤ x1 then f_X3_findFault_b26 q μ else bn2 (f_X3_scanCommand q μ) (fun v2 μ3 => (if v2 = 0 then f_X3_findFault_b26 q μ3 else f_X3_findFault_b6 q fuel6 (x1 + 1) μ3)))
def f_X3_findFault (q : Nat) (μ : Mem) : Option (Int32 × Mem) := (f_X3_rewind q μ).bind (fun μ1 => f_X3_findFault_b6 q FU 0 μ1)
set_option maxHeartbeats 4000000 in
set_option maxRecDepth 100000 in
theorem c_X3_findFault (l : Launch) {D : va_G} {cI cG cL : ClassId} {A : Nat → Prop} {tC tS : Nat} {adE adK adV : Nat → Nat} (hE : EnOK (ENV tC tS adE adK adV A) A) {w : Mem → va_W} {ad : Nat → Nat} {q : Nat} {μ : Mem} {r : Int32} {μ' : Mem} (hw : TextAt cI adE w ad q) (h : f_X3_findFault q μ = some (r, μ')) : Met l yX3_findFault wsX3_findFault (rmk 7 154) (WPre D (tyl cI cG cL) A (ENV tC tS adE adK adV A) (w μ) [.ref (ad q)]) (PI D A (w μ') r) 0 0 A := by
  have hiX3 : ∀ w ∈ u_ws RX3 TX3 7, w ∈ wsX3_findFault := by decide +kernel
  have mf22 : Cond.fieldLink RX3 22 (TX3 3).1 (TX3 3).2.1 (TX3 3).2.2.1 ∈ wsX3_findFault := by decide +kernel
  refine met_start (cc := cX3_findFault) (nL := 2) (ret := (some .int)) (own := RX3) hE (by decide) rfl rfl (Nat.le_of_ble_eq_true rfl) (fun p e s m args below meth c ls X hS hl hr hlk => ?_)
  have hx := X.1.1
  have hb := X.1.2.1
  replace hl : lv_has ls 2 [(0, .ref (ad q))] := hl
  have hb26 : ∀  (μ : Mem) (H : Heap) (locs : List Loc) (ls : Array Slot), HS D A (w μ) s.heap H locs → lv_has ls 2 [(0, .ref (ad q))] → f_X3_findFault_b26 q μ = some (r, μ') → W p l e (headSpec wsX3_findFault (rmk 7 154)).room s m args below meth c H locs 0 0 (MQ below (PI D A (w μ') r) args s 0 0 A) (F0 m 26 ls []) := by
    intro μ H locs ls hS hl h
    unfold f_X3_findFault_b26 at h
    refine lv_aload_n hx hb dX3_findFault_26 rfl (lv_at hl 0 rfl) ?_
    refine r_get X hS (T := TX3) (k := 3) (hw.1 μ).1 rfl hiX3 (by decide) mf22 rfl dX3_findFault_27 ?_
    obtain ⟨rfl, rfl⟩ := pr2 h
    exact r_iret X hS hr hlk dX3_findFault_30
  have hb6 : ∀ (fu : Nat) (x1 : Int32) (μ : Mem) (H : Heap) (locs : List Loc) (ls : Array Slot), HS D A (w μ) s.heap H locs → lv_has ls 2 [(0, .ref (ad q)), (1, .int x1)] → f_X3_findFault_b6 q fu x1 μ = some (r, μ') → W p l e (headSpec wsX3_findFault (rmk 7 154)).room s m args below meth c H locs 0 0 (MQ below (PI D A (w μ') r) args s 0 0 A) (F0 m 6 ls []) := by
    intro fu
    induction fu with
    | zero =>
      intro x1 μ H locs ls hS hl h
      rw [f_X3_findFault_b6] at h
      cases h
    | succ fuel6 ih6 =>
      intro x1 μ H locs ls hS hl h
      rw [f_X3_findFault_b6] at h
      refine lv_iload_n hx hb dX3_findFault_6 rfl (lv_at hl 1 rfl) ?_
      refine lv_sipush (v := 150) hx hb dX3_findFault_7 (by decide) ?_
      refine lv_icmp_ge (tgt := 26) hx hb dX3_findFault_10 (by decide) (fun cc => ?_) (fun cc => ?_)
      · replace h := it h cc
        exact hb26 μ _ _ _ hS (lv_sub hl [0] rfl) h
      · replace h := ie h cc
        refine lv_aload_n hx hb dX3_findFault_13 rfl (lv_at hl 0 rfl) ?_
        obtain ⟨v2, μ3, ev2, h⟩ := ob2 h
        refine r_ci hS (r_runV (As := []) (rest := []) X hS (c_X3_scanCommand l hE (w := w) (ad := ad) (μ := μ) (D := D) (cI := cI) (cG := cG) (cL := cL) hw ev2) (cwV 0 X.1.2.2.2.2 gX3_findFault_X3_scanCommand rfl rfl rfl (by decide +kernel) ⟨Nat.le_of_ble_eq_true rfl, Nat.le_of_ble_eq_true rfl⟩) (q0 := q) (ci := 1) rfl (hw.1 μ).1 rfl hl.1 rfl (Nat.le_of_ble_eq_true rfl) dX3_findFault_14 ⟨Nat.zero_le _, Nat.zero_le _⟩) (fun H locs hS => ?_)
        refine lv_if_eq (tgt := 26) hx hb dX3_findFault_17 (by decide) (fun cc => ?_) (fun cc => ?_)
        · replace h := it h cc
          exact hb26 μ3 _ _ _ hS (lv_sub hl [0] rfl) h
        · replace h := ie h cc
          refine lv_iinc (v := x1 + 1) (lv' := [(1, .int (x1 + 1)), (0, .ref (ad q))]) hx hb dX3_findFault_20 hl (k := 1) rfl rfl (by decide) rfl (fun ls hl => ?_)
          refine lv_goto (tgt := 6) hx hb dX3_findFault_23 (by decide) ?_
          exact ih6 (x1 + 1) μ3 _ _ _ hS (lv_sub hl [1, 0] rfl) h
  unfold f_X3_findFault at h
  refine lv_aload_n hx hb dX3_findFault_0 rfl (lv_at hl 0 rfl) ?_
  obtain ⟨μ1, eμ1, h⟩ := ob h
  refine r_cv hS (r_runV (As := []) (rest := []) X hS (c_X3_rewind l hE (w := w) (ad := ad) (μ := μ) (D := D) (cI := cI) (cG := cG) (cL := cL) hw eμ1) (cwV 0 X.1.2.2.2.2 gX3_findFault_X3_rewind rfl rfl rfl (by decide +kernel) ⟨Nat.le_of_ble_eq_true rfl, Nat.le_of_ble_eq_true rfl⟩) (q0 := q) (ci := 1) rfl (hw.1 μ).1 rfl hl.1 rfl (Nat.le_of_ble_eq_true rfl) dX3_findFault_1 ⟨Nat.zero_le _, Nat.zero_le _⟩) (fun H locs hS => ?_)
  refine lv_iconst (v := 0) hx hb dX3_findFault_4 (by decide) ?_
  refine lv_istore_n (lv' := [(1, .int 0), (0, .ref (ad q))]) hx hb dX3_findFault_5 rfl hl (by decide) rfl (fun ls hl => ?_)
  exact hb6 FU 0 μ1 _ _ _ hS (lv_sub hl [1, 0] rfl) h
def f_X6_faultOf (q : Nat) (a1 : Int32) (μ : Mem) : Option Int32 := (if a1 = 0 then (some 3) else (en a1).bind (fun v1 => (if v1 = 1 then (f_X4_beginFault (q + 1) μ).bind (fun v2 => (some v2)) else (if v1 = 2 then (f_X4_putFault (q + 1) (μ (q + 83) 5) (μ (q + 83) 6) μ).bind (fun v3 => (some v3)) else (if v1 = 3 then (f_X4_removeFault (q + 1) (μ (q + 83) 5) μ).bind (fun v4 => (some v4)) else (if v1 = 4 then (f_X4_commitFault (q + 1) (μ (q + 83) 5) μ).bind (fun v5 => (some v5)) else (if v1 = 5 then (f_X4_abortFault (q + 1) μ).bind (fun v6 => (some v6)) else (if v1 = 6 then (f_X4_openFault (q + 1) μ).bind (fun v7 => (some v7)) else (if v1 = 7 then (f_X4_openReaderFault (q + 1) (μ (q + 83) 5) μ).bind (fun v8 => (some v8)) else ((some 3)))))))))))
set_option maxHeartbeats 4000000 in
set_option maxRecDepth 100000 in
theorem c_X6_faultOf (l : Launch) {D : va_G} {cI cG cL : ClassId} {A : Nat → Prop} {tC tS : Nat} {adE adK adV : Nat → Nat} (hE : EnOK (ENV tC tS adE adK adV A) A) {w : Mem → va_W} {ad : Nat → Nat} {q : Nat} {a1 : Int32} {μ : Mem} {r : Int32} (hw : PGAt cI cG adE w ad q) (h : f_X6_faultOf q a1 μ = some r) : Met l yX6_faultOf vsX6_faultOf (rmk 6 128) (WPre D (tyl cI cG cL) A (ENV tC tS adE adK adV A) (w μ) [.ref (ad q), cmdv adE a1]) (PI D A (w μ) r) 0 0 A := by
  have hiX3 : ∀ w ∈ u_ws RX3 TX3 7, w ∈ vsX6_faultOf := by decide +kernel
  have hiX6 : ∀ w ∈ u_ws RX6 TX6 3, w ∈ vsX6_faultOf := by decide +kernel
  have mf218 : Cond.fieldLink RX6 218 "PageGarden$1" "$SwitchMap$PageGarden$Command" "[I" ∈ vsX6_faultOf := by decide +kernel
  have mf12 : Cond.fieldLink RX6 12 (TX6 0).1 (TX6 0).2.1 (TX6 0).2.2.1 ∈ vsX6_faultOf := by decide +kernel
  have mf26 : Cond.fieldLink RX6 26 (TX6 2).1 (TX6 2).2.1 (TX6 2).2.2.1 ∈ vsX6_faultOf := by decide +kernel
  refine met_start (cc := cX6_faultOf) (nL := 2) (ret := (some .int)) (own := RX6) hE (by decide) rfl rfl (by unfold cmdv; split <;> exact Nat.le_of_ble_eq_true rfl) (fun p e s m args below meth c ls X hS hl hr hlk => ?_)
  have hx := X.1.1
  have hb := X.1.2.1
  replace hl : lv_has ls 2 [(0, .ref (ad q)), (1, cmdv adE a1)] := hl
  unfold f_X6_faultOf at h
  by_cases cc : a1 = 0
  · replace h := it h cc
    rw [cmdv_z cc] at hl
    refine lv_aload_nN hx hb dX6_faultOf_0 rfl (lv_at hl 1 rfl) ?_
    refine lv_ifnonnullN hx hb dX6_faultOf_1 ?_
    refine lv_iconst (v := 3) hx hb dX6_faultOf_4 (by decide) ?_
    cases h
    exact r_iret X hS hr hlk dX6_faultOf_5
  · replace h := ie h cc
    rw [cmdv_n cc] at hl
    refine lv_aload_n hx hb dX6_faultOf_0 rfl (lv_at hl 1 rfl) ?_
    refine lv_ifnonnull (tgt := 6) hx hb dX6_faultOf_1 (by decide) ?_
    refine r_swm X hS mf218 dX6_faultOf_6 ?_
    refine lv_aload_n hx hb dX6_faultOf_9 rfl (lv_at hl 1 rfl) ?_
    obtain ⟨v1, ev1, h⟩ := ob h
    refine r_ord X hS ev1 (by decide +kernel) hl.1 ⟨Nat.le_of_ble_eq_true rfl, Nat.zero_le _, Nat.zero_le _⟩ (Nat.le_of_ble_eq_true rfl) (Nat.le_of_ble_eq_true rfl) dX6_faultOf_10 (fun H locs hS => ?_)
    refine r_swld X hS ev1 dX6_faultOf_13 ?_
    by_cases cc0 : v1 = 1
    · replace h := it h cc0
      rw [cc0]
      refine lv_tableIn (off := 42) (tgt := 56) hx hb dX6_faultOf_14 (by decide) (by decide) rfl (by decide) ?_
      refine lv_aload_n hx hb dX6_faultOf_56 rfl (lv_at hl 0 rfl) ?_
      refine r_get X hS (T := TX6) (k := 0) (hw.1 μ).1 rfl hiX6 (by decide) mf12 rfl dX6_faultOf_57 ?_
      obtain ⟨v2, ev2, h⟩ := ob h
      refine r_ci hS (r_runV (As := []) (rest := []) X hS (c_X4_beginFault l hE (w := w) (ad := ad) (μ := μ) (D := D) (cI := cI) (cG := cG) (cL := cL) hw.2.1 ev2) (cwV 0 X.1.2.2.2.2 vgX6_faultOf_X4_beginFault rfl rfl rfl (by decide +kernel) ⟨Nat.le_of_ble_eq_true rfl, Nat.le_of_ble_eq_true rfl⟩) (q0 := (q + 1)) (ci := 2) rfl (hw.2.1.1 μ).1 rfl hl.1 rfl (Nat.le_of_ble_eq_true rfl) dX6_faultOf_60 ⟨Nat.zero_le _, Nat.zero_le _⟩) (fun H locs hS => ?_)
      cases h
      exact r_iret X hS hr hlk dX6_faultOf_63
    · replace h := ie h cc0
      by_cases cc1 : v1 = 2
      · replace h := it h cc1
        rw [cc1]
        refine lv_tableIn (off := 50) (tgt := 64) hx hb dX6_faultOf_14 (by decide) (by decide) rfl (by decide) ?_
        refine lv_aload_n hx hb dX6_faultOf_64 rfl (lv_at hl 0 rfl) ?_
        refine r_get X hS (T := TX6) (k := 0) (hw.1 μ).1 rfl hiX6 (by decide) mf12 rfl dX6_faultOf_65 ?_
        refine lv_aload_n hx hb dX6_faultOf_68 rfl (lv_at hl 0 rfl) ?_
        refine r_get X hS (T := TX6) (k := 2) (hw.1 μ).1 rfl hiX6 (by decide) mf26 rfl dX6_faultOf_69 ?_
        refine r_getN X hS (T := TX3) (k := 5) (host := RX6) (hw.2.2.2.1 μ).1 rfl hiX3 (by decide) (X.nest 17 rfl) rfl dX6_faultOf_72 ?_
        refine lv_aload_n hx hb dX6_faultOf_75 rfl (lv_at hl 0 rfl) ?_
        refine r_get X hS (T := TX6) (k := 2) (hw.1 μ).1 rfl hiX6 (by decide) mf26 rfl dX6_faultOf_76 ?_
        refine r_getN X hS (T := TX3) (k := 6) (host := RX6) (hw.2.2.2.1 μ).1 rfl hiX3 (by decide) (X.nest 18 rfl) rfl dX6_faultOf_79 ?_
        obtain ⟨v3, ev3, h⟩ := ob h
        refine r_ci hS (r_runV (As := [.int (μ (q + 83) 5), .int (μ (q + 83) 6)]) (rest := []) X hS (c_X4_putFault l hE (w := w) (ad := ad) (μ := μ) (D := D) (cI := cI) (cG := cG) (cL := cL) hw.2.1 ev3) (cwV 2 X.1.2.2.2.2 vgX6_faultOf_X4_putFault rfl rfl rfl (by decide +kernel) ⟨Nat.le_of_ble_eq_true rfl, Nat.le_of_ble_eq_true rfl⟩) (q0 := (q + 1)) (ci := 2) rfl (hw.2.1.1 μ).1 rfl hl.1 rfl (Nat.le_of_ble_eq_true rfl) dX6_faultOf_82 ⟨Nat.zero_le _, Nat.zero_le _⟩) (fun H locs hS => ?_)
        cases h
        exact r_iret X hS hr hlk dX6_faultOf_85
      · replace h := ie h cc1
        by_cases cc2 : v1 = 3
        · replace h := it h cc2
          rw [cc2]
          refine lv_tableIn (off := 72) (tgt := 86) hx hb dX6_faultOf_14 (by decide) (by decide) rfl (by decide) ?_
          refine lv_aload_n hx hb dX6_faultOf_86 rfl (lv_at hl 0 rfl) ?_
          refine r_get X hS (T := TX6) (k := 0) (hw.1 μ).1 rfl hiX6 (by decide) mf12 rfl dX6_faultOf_87 ?_
          refine lv_aload_n hx hb dX6_faultOf_90 rfl (lv_at hl 0 rfl) ?_
          refine r_get X hS (T := TX6) (k := 2) (hw.1 μ).1 rfl hiX6 (by decide) mf26 rfl dX6_faultOf_91 ?_
          refine r_getN X hS (T := TX3) (k := 5) (host := RX6) (hw.2.2.2.1 μ).1 rfl hiX3 (by decide) (X.nest 17 rfl) rfl dX6_faultOf_94 ?_
          obtain ⟨v4, ev4, h⟩ := ob h
          refine r_ci hS (r_runV (As := [.int (μ (q + 83) 5)]) (rest := []) X hS (c_X4_removeFault l hE (w := w) (ad := ad) (μ := μ) (D := D) (cI := cI) (cG := cG) (cL := cL) hw.2.1 ev4) (cwV 1 X.1.2.2.2.2 vgX6_faultOf_X4_removeFault rfl rfl rfl (by decide +kernel) ⟨Nat.le_of_ble_eq_true rfl, Nat.le_of_ble_eq_true rfl⟩) (q0 := (q + 1)) (ci := 2) rfl (hw.2.1.1 μ).1 rfl hl.1 rfl (Nat.le_of_ble_eq_true rfl) dX6_faultOf_97 ⟨Nat.zero_le _, Nat.zero_le _⟩) (fun H locs hS => ?_)
          cases h
          exact r_iret X hS hr hlk dX6_faultOf_100
        · replace h := ie h cc2
          by_cases cc3 : v1 = 4
          · replace h := it h cc3
            rw [cc3]
            refine lv_tableIn (off := 87) (tgt := 101) hx hb dX6_faultOf_14 (by decide) (by decide) rfl (by decide) ?_
            refine lv_aload_n hx hb dX6_faultOf_101 rfl (lv_at hl 0 rfl) ?_
            refine r_get X hS (T := TX6) (k := 0) (hw.1 μ).1 rfl hiX6 (by decide) mf12 rfl dX6_faultOf_102 ?_
            refine lv_aload_n hx hb dX6_faultOf_105 rfl (lv_at hl 0 rfl) ?_
            refine r_get X hS (T := TX6) (k := 2) (hw.1 μ).1 rfl hiX6 (by decide) mf26 rfl dX6_faultOf_106 ?_
            refine r_getN X hS (T := TX3) (k := 5) (host := RX6) (hw.2.2.2.1 μ).1 rfl hiX3 (by decide) (X.nest 17 rfl) rfl dX6_faultOf_109 ?_
            obtain ⟨v5, ev5, h⟩ := ob h
            refine r_ci hS (r_runV (As := [.int (μ (q + 83) 5)]) (rest := []) X hS (c_X4_commitFault l hE (w := w) (ad := ad) (μ := μ) (D := D) (cI := cI) (cG := cG) (cL := cL) hw.2.1 ev5) (cwV 1 X.1.2.2.2.2 vgX6_faultOf_X4_commitFault rfl rfl rfl (by decide +kernel) ⟨Nat.le_of_ble_eq_true rfl, Nat.le_of_ble_eq_true rfl⟩) (q0 := (q + 1)) (ci := 2) rfl (hw.2.1.1 μ).1 rfl hl.1 rfl (Nat.le_of_ble_eq_true rfl) dX6_faultOf_112 ⟨Nat.zero_le _, Nat.zero_le _⟩) (fun H locs hS => ?_)
            cases h
            exact r_iret X hS hr hlk dX6_faultOf_115
          · replace h := ie h cc3
            by_cases cc4 : v1 = 5
            · replace h := it h cc4
              rw [cc4]
              refine lv_tableIn (off := 102) (tgt := 116) hx hb dX6_faultOf_14 (by decide) (by decide) rfl (by decide) ?_
              refine lv_aload_n hx hb dX6_faultOf_116 rfl (lv_at hl 0 rfl) ?_
              refine r_get X hS (T := TX6) (k := 0) (hw.1 μ).1 rfl hiX6 (by decide) mf12 rfl dX6_faultOf_117 ?_
              obtain ⟨v6, ev6, h⟩ := ob h
              refine r_ci hS (r_runV (As := []) (rest := []) X hS (c_X4_abortFault l hE (w := w) (ad := ad) (μ := μ) (D := D) (cI := cI) (cG := cG) (cL := cL) hw.2.1 ev6) (cwV 0 X.1.2.2.2.2 vgX6_faultOf_X4_abortFault rfl rfl rfl (by decide +kernel) ⟨Nat.le_of_ble_eq_true rfl, Nat.le_of_ble_eq_true rfl⟩) (q0 := (q + 1)) (ci := 2) rfl (hw.2.1.1 μ).1 rfl hl.1 rfl (Nat.le_of_ble_eq_true rfl) dX6_faultOf_120 ⟨Nat.zero_le _, Nat.zero_le _⟩) (fun H locs hS => ?_)
              cases h
              exact r_iret X hS hr hlk dX6_faultOf_123
            · replace h := ie h cc4
              by_cases cc5 : v1 = 6
              · replace h := it h cc5
                rw [cc5]
                refine lv_tableIn (off := 110) (tgt := 124) hx hb dX6_faultOf_14 (by decide) (by decide) rfl (by decide) ?_
                refine lv_aload_n hx hb dX6_faultOf_124 rfl (lv_at hl 0 rfl) ?_
                refine r_get X hS (T := TX6) (k := 0) (hw.1 μ).1 rfl hiX6 (by decide) mf12 rfl dX6_faultOf_125 ?_
                obtain ⟨v7, ev7, h⟩ := ob h
                refine r_ci hS (r_runV (As := []) (rest := []) X hS (c_X4_openFault l hE (w := w) (ad := ad) (μ := μ) (D := D) (cI := cI) (cG := cG) (cL := cL) hw.2.1 ev7) (cwV 0 X.1.2.2.2.2 vgX6_faultOf_X4_openFault rfl rfl rfl (by decide +kernel) ⟨Nat.le_of_ble_eq_true rfl, Nat.le_of_ble_eq_true rfl⟩) (q0 := (q + 1)) (ci := 2) rfl (hw.2.1.1 μ).1 rfl hl.1 rfl (Nat.le_of_ble_eq_true rfl) dX6_faultOf_128 ⟨Nat.zero_le _, Nat.zero_le _⟩) (fun H locs hS => ?_)
                cases h
                exact r_iret X hS hr hlk dX6_faultOf_131
              · replace h := ie h cc5
                by_cases cc6 : v1 = 7
                · replace h := it h cc6
                  rw [cc6]
                  refine lv_tableIn (off := 118) (tgt := 132) hx hb dX6_faultOf_14 (by decide) (by decide) rfl (by decide) ?_
                  refine lv_aload_n hx hb dX6_faultOf_132 rfl (lv_at hl 0 rfl) ?_
                  refine r_get X hS (T := TX6) (k := 0) (hw.1 μ).1 rfl hiX6 (by decide) mf12 rfl dX6_faultOf_133 ?_
                  refine lv_aload_n hx hb dX6_faultOf_136 rfl (lv_at hl 0 rfl) ?_
                  refine r_get X hS (T := TX6) (k := 2) (hw.1 μ).1 rfl hiX6 (by decide) mf26 rfl dX6_faultOf_137 ?_
                  refine r_getN X hS (T := TX3) (k := 5) (host := RX6) (hw.2.2.2.1 μ).1 rfl hiX3 (by decide) (X.nest 17 rfl) rfl dX6_faultOf_140 ?_
                  obtain ⟨v8, ev8, h⟩ := ob h
                  refine r_ci hS (r_runV (As := [.int (μ (q + 83) 5)]) (rest := []) X hS (c_X4_openReaderFault l hE (w := w) (ad := ad) (μ := μ) (D := D) (cI := cI) (cG := cG) (cL := cL) hw.2.1 ev8) (cwV 1 X.1.2.2.2.2 vgX6_faultOf_X4_openReaderFault rfl rfl rfl (by decide +kernel) ⟨Nat.le_of_ble_eq_true rfl, Nat.le_of_ble_eq_true rfl⟩) (q0 := (q + 1)) (ci := 2) rfl (hw.2.1.1 μ).1 rfl hl.1 rfl (Nat.le_of_ble_eq_true rfl) dX6_faultOf_143 ⟨Nat.zero_le _, Nat.zero_le _⟩) (fun H locs hS => ?_)
                  cases h
                  exact r_iret X hS hr hlk dX6_faultOf_146
                · replace h := ie h cc6
                  refine lv_tableOut (tgt := 147) hx hb dX6_faultOf_14 (sw_1_7 cc0 cc1 cc2 cc3 cc4 cc5 cc6) (by decide) ?_
                  refine lv_iconst (v := 3) hx hb dX6_faultOf_147 (by decide) ?_
                  cases h
                  exact r_iret X hS hr hlk dX6_faultOf_148
def f_X6_perform_b168 (q : Nat)  (μ : Mem) : Option Mem := (some μ)
def f_X6_perform (q : Nat) (a1 : Int32) (μ : Mem) : Option Mem := (if a1 = 0 then (some μ) else (en a1).bind (fun v1 => (if v1 = 1 then bn2 (f_X4_beginDraft (q + 1) μ) (fun v2 μ3 => f_X6_perform_b168 q μ3) else (if v1 = 2 then bn2 (f_X4_putEntry (q + 1) (μ (q + 83) 5) (μ (q + 83) 6) μ) (fun v4 μ5 => f_X6_perform_b168 q μ5) else (if v1 = 3 then bn2 (f_X4_removeEntry (q + 1) (μ (q + 83) 5) μ) (fun v6 μ7 => f_X6_perform_b168 q μ7) else (if v1 = 4 then bn2 (f_X4_commitDraft (q + 1) (μ (q + 83) 5) μ) (fun v8 μ9 => f_X6_perform_b168 q μ9) else (if v1 = 5 then bn2 (f_X4_dropDraft (q + 1) μ) (fun v10 μ11 => f_X6_perform_b168 q μ11) else (if v1 = 6 then bn2 (f_X4_openReader (q + 1) μ) (fun v12 μ13 => f_X6_perform_b168 q μ13) else (if v1 = 7 then bn2 (f_X4_closeReader (q + 1) (μ (q + 83) 5) μ) (fun v14 μ15 => f_X6_perform_b168 q μ15) else (f_X6_perform_b168 q μ))))))))))
set_option maxHeartbeats 4000000 in
set_option maxRecDepth 100000 in
theorem c_X6_perform (l : Launch) {D : va_G} {cI cG cL : ClassId} {A : Nat → Prop} {tC tS : Nat} {adE adK adV : Nat → Nat} (hE : EnOK (ENV tC tS adE adK adV A) A) {w : Mem → va_W} {ad : Nat → Nat} {q : Nat} {a1 : Int32} {μ : Mem}  {μ' : Mem} (hw : PGAt cI cG adE w ad q) (h : f_X6_perform q a1 μ = some μ') : Met l yX6_perform vsX6_perform (rmk 5 121) (WPre D (tyl cI cG cL) A (ENV tC tS adE adK adV A) (w μ) [.ref (ad q), cmdv adE a1]) (PV D A (w μ')) 0 0 A := by
  have hiX3 : ∀ w ∈ u_ws RX3 TX3 7, w ∈ vsX6_perform := by decide +kernel
  have hiX6 : ∀ w ∈ u_ws RX6 TX6 3, w ∈ vsX6_perform := by decide +kernel
  have mf218 : Cond.fieldLink RX6 218 "PageGarden$1" "$SwitchMap$PageGarden$Command" "[I" ∈ vsX6_perform := by decide +kernel
  have mf12 : Cond.fieldLink RX6 12 (TX6 0).1 (TX6 0).2.1 (TX6 0).2.2.1 ∈ vsX6_perform := by decide +kernel
  have mf26 : Cond.fieldLink RX6 26 (TX6 2).1 (TX6 2).2.1 (TX6 2).2.2.1 ∈ vsX6_perform := by decide +kernel
  refine met_start (cc := cX6_perform) (nL := 2) (ret := none) (own := RX6) hE (by decide) rfl rfl (by unfold cmdv; split <;> exact Nat.le_of_ble_eq_true rfl) (fun p e s m args below meth c ls X hS hl hr hlk => ?_)
  have hx := X.1.1
  have hb := X.1.2.1
  replace hl : lv_has ls 2 [(0, .ref (ad q)), (1, cmdv adE a1)] := hl
  have hb168 : ∀  (μ : Mem) (H : Heap) (locs : List Loc) (ls : Array Slot), HS D A (w μ) s.heap H locs → lv_has ls 2 [] → f_X6_perform_b168 q μ = some μ' → W p l e (headSpec vsX6_perform (rmk 5 121)).room s m args below meth c H locs 0 0 (MQ below (PV D A (w μ')) args s 0 0 A) (F0 m 168 ls []) := by
    intro μ H locs ls hS hl h
    unfold f_X6_perform_b168 at h
    cases h
    exact r_vret X hS hr hlk dX6_perform_168
  unfold f_X6_perform at h
  by_cases cc : a1 = 0
  · replace h := it h cc
    rw [cmdv_z cc] at hl
    refine lv_aload_nN hx hb dX6_perform_0 rfl (lv_at hl 1 rfl) ?_
    refine lv_ifnonnullN hx hb dX6_perform_1 ?_
    cases h
    exact r_vret X hS hr hlk dX6_perform_4
  · replace h := ie h cc
    rw [cmdv_n cc] at hl
    refine lv_aload_n hx hb dX6_perform_0 rfl (lv_at hl 1 rfl) ?_
    refine lv_ifnonnull (tgt := 5) hx hb dX6_perform_1 (by decide) ?_
    refine r_swm X hS mf218 dX6_perform_5 ?_
    refine lv_aload_n hx hb dX6_perform_8 rfl (lv_at hl 1 rfl) ?_
    obtain ⟨v1, ev1, h⟩ := ob h
    refine r_ord X hS ev1 (by decide +kernel) hl.1 ⟨Nat.le_of_ble_eq_true rfl, Nat.zero_le _, Nat.zero_le _⟩ (Nat.le_of_ble_eq_true rfl) (Nat.le_of_ble_eq_true rfl) dX6_perform_9 (fun H locs hS => ?_)
    refine r_swld X hS ev1 dX6_perform_12 ?_
    by_cases cc0 : v1 = 1
    · replace h := it h cc0
      rw [cc0]
      refine lv_tableIn (off := 43) (tgt := 56) hx hb dX6_perform_13 (by decide) (by decide) rfl (by decide) ?_
      refine lv_aload_n hx hb dX6_perform_56 rfl (lv_at hl 0 rfl) ?_
      refine r_get X hS (T := TX6) (k := 0) (hw.1 μ).1 rfl hiX6 (by decide) mf12 rfl dX6_perform_57 ?_
      obtain ⟨v2, μ3, ev2, h⟩ := ob2 h
      refine r_ci hS (r_runV (As := []) (rest := []) X hS (c_X4_beginDraft l hE (w := w) (ad := ad) (μ := μ) (D := D) (cI := cI) (cG := cG) (cL := cL) hw.2.1 ev2) (cwV 0 X.1.2.2.2.2 vgX6_perform_X4_beginDraft rfl rfl rfl (by decide +kernel) ⟨Nat.le_of_ble_eq_true rfl, Nat.le_of_ble_eq_true rfl⟩) (q0 := (q + 1)) (ci := 2) rfl (hw.2.1.1 μ).1 rfl hl.1 rfl (Nat.le_of_ble_eq_true rfl) dX6_perform_60 ⟨Nat.zero_le _, Nat.zero_le _⟩) (fun H locs hS => ?_)
      refine lv_pop hx hb dX6_perform_63 rfl ?_
      refine lv_goto (tgt := 168) hx hb dX6_perform_64 (by decide) ?_
      exact hb168 μ3 _ _ _ hS (lv_sub hl [] rfl) h
    · replace h := ie h cc0
      by_cases cc1 : v1 = 2
      · replace h := it h cc1
        rw [cc1]
        refine lv_tableIn (off := 54) (tgt := 67) hx hb dX6_perform_13 (by decide) (by decide) rfl (by decide) ?_
        refine lv_aload_n hx hb dX6_perform_67 rfl (lv_at hl 0 rfl) ?_
        refine r_get X hS (T := TX6) (k := 0) (hw.1 μ).1 rfl hiX6 (by decide) mf12 rfl dX6_perform_68 ?_
        refine lv_aload_n hx hb dX6_perform_71 rfl (lv_at hl 0 rfl) ?_
        refine r_get X hS (T := TX6) (k := 2) (hw.1 μ).1 rfl hiX6 (by decide) mf26 rfl dX6_perform_72 ?_
        refine r_getN X hS (T := TX3) (k := 5) (host := RX6) (hw.2.2.2.1 μ).1 rfl hiX3 (by decide) (X.nest 17 rfl) rfl dX6_perform_75 ?_
        refine lv_aload_n hx hb dX6_perform_78 rfl (lv_at hl 0 rfl) ?_
        refine r_get X hS (T := TX6) (k := 2) (hw.1 μ).1 rfl hiX6 (by decide) mf26 rfl dX6_perform_79 ?_
        refine r_getN X hS (T := TX3) (k := 6) (host := RX6) (hw.2.2.2.1 μ).1 rfl hiX3 (by decide) (X.nest 18 rfl) rfl dX6_perform_82 ?_
        obtain ⟨v4, μ5, ev4, h⟩ := ob2 h
        refine r_ci hS (r_runV (As := [.int (μ (q + 83) 5), .int (μ (q + 83) 6)]) (rest := []) X hS (c_X4_putEntry l hE (w := w) (ad := ad) (μ := μ) (D := D) (cI := cI) (cG := cG) (cL := cL) hw.2.1 ev4) (cwV 2 X.1.2.2.2.2 vgX6_perform_X4_putEntry rfl rfl rfl (by decide +kernel) ⟨Nat.le_of_ble_eq_true rfl, Nat.le_of_ble_eq_true rfl⟩) (q0 := (q + 1)) (ci := 2) rfl (hw.2.1.1 μ).1 rfl hl.1 rfl (Nat.le_of_ble_eq_true rfl) dX6_perform_85 ⟨Nat.zero_le _, Nat.zero_le _⟩) (fun H locs hS => ?_)
        refine lv_pop hx hb dX6_perform_88 rfl ?_
        refine lv_goto (tgt := 168) hx hb dX6_perform_89 (by decide) ?_
        exact hb168 μ5 _ _ _ hS (lv_sub hl [] rfl) h
      · replace h := ie h cc1
        by_cases cc2 : v1 = 3
        · replace h := it h cc2
          rw [cc2]
          refine lv_tableIn (off := 79) (tgt := 92) hx hb dX6_perform_13 (by decide) (by decide) rfl (by decide) ?_
          refine lv_aload_n hx hb dX6_perform_92 rfl (lv_at hl 0 rfl) ?_
          refine r_get X hS (T := TX6) (k := 0) (hw.1 μ).1 rfl hiX6 (by decide) mf12 rfl dX6_perform_93 ?_
          refine lv_aload_n hx hb dX6_perform_96 rfl (lv_at hl 0 rfl) ?_
          refine r_get X hS (T := TX6) (k := 2) (hw.1 μ).1 rfl hiX6 (by decide) mf26 rfl dX6_perform_97 ?_
          refine r_getN X hS (T := TX3) (k := 5) (host := RX6) (hw.2.2.2.1 μ).1 rfl hiX3 (by decide) (X.nest 17 rfl) rfl dX6_perform_100 ?_
          obtain ⟨v6, μ7, ev6, h⟩ := ob2 h
          refine r_ci hS (r_runV (As := [.int (μ (q + 83) 5)]) (rest := []) X hS (c_X4_removeEntry l hE (w := w) (ad := ad) (μ := μ) (D := D) (cI := cI) (cG := cG) (cL := cL) hw.2.1 ev6) (cwV 1 X.1.2.2.2.2 vgX6_perform_X4_removeEntry rfl rfl rfl (by decide +kernel) ⟨Nat.le_of_ble_eq_true rfl, Nat.le_of_ble_eq_true rfl⟩) (q0 := (q + 1)) (ci := 2) rfl (hw.2.1.1 μ).1 rfl hl.1 rfl (Nat.le_of_ble_eq_true rfl) dX6_perform_103 ⟨Nat.zero_le _, Nat.zero_le _⟩) (fun H locs hS => ?_)
          refine lv_pop hx hb dX6_perform_106 rfl ?_
          refine lv_goto (tgt := 168) hx hb dX6_perform_107 (by decide) ?_
          exact hb168 μ7 _ _ _ hS (lv_sub hl [] rfl) h
        · replace h := ie h cc2
          by_cases cc3 : v1 = 4
          · replace h := it h cc3
            rw [cc3]
            refine lv_tableIn (off := 97) (tgt := 110) hx hb dX6_perform_13 (by decide) (by decide) rfl (by decide) ?_
            refine lv_aload_n hx hb dX6_perform_110 rfl (lv_at hl 0 rfl) ?_
            refine r_get X hS (T := TX6) (k := 0) (hw.1 μ).1 rfl hiX6 (by decide) mf12 rfl dX6_perform_111 ?_
            refine lv_aload_n hx hb dX6_perform_114 rfl (lv_at hl 0 rfl) ?_
            refine r_get X hS (T := TX6) (k := 2) (hw.1 μ).1 rfl hiX6 (by decide) mf26 rfl dX6_perform_115 ?_
            refine r_getN X hS (T := TX3) (k := 5) (host := RX6) (hw.2.2.2.1 μ).1 rfl hiX3 (by decide) (X.nest 17 rfl) rfl dX6_perform_118 ?_
            obtain ⟨v8, μ9, ev8, h⟩ := ob2 h
            refine r_ci hS (r_runV (As := [.int (μ (q + 83) 5)]) (rest := []) X hS (c_X4_commitDraft l hE (w := w) (ad := ad) (μ := μ) (D := D) (cI := cI) (cG := cG) (cL := cL) hw.2.1 ev8) (cwV 1 X.1.2.2.2.2 vgX6_perform_X4_commitDraft rfl rfl rfl (by decide +kernel) ⟨Nat.le_of_ble_eq_true rfl, Nat.le_of_ble_eq_true rfl⟩) (q0 := (q + 1)) (ci := 2) rfl (hw.2.1.1 μ).1 rfl hl.1 rfl (Nat.le_of_ble_eq_true rfl) dX6_perform_121 ⟨Nat.zero_le _, Nat.zero_le _⟩) (fun H locs hS => ?_)
            refine lv_pop hx hb dX6_perform_124 rfl ?_
            refine lv_goto (tgt := 168) hx hb dX6_perform_125 (by decide) ?_
            exact hb168 μ9 _ _ _ hS (lv_sub hl [] rfl) h
          · replace h := ie h cc3
            by_cases cc4 : v1 = 5
            · replace h := it h cc4
              rw [cc4]
              refine lv_tableIn (off := 115) (tgt := 128) hx hb dX6_perform_13 (by decide) (by decide) rfl (by decide) ?_
              refine lv_aload_n hx hb dX6_perform_128 rfl (lv_at hl 0 rfl) ?_
              refine r_get X hS (T := TX6) (k := 0) (hw.1 μ).1 rfl hiX6 (by decide) mf12 rfl dX6_perform_129 ?_
              obtain ⟨v10, μ11, ev10, h⟩ := ob2 h
              refine r_ci hS (r_runV (As := []) (rest := []) X hS (c_X4_dropDraft l hE (w := w) (ad := ad) (μ := μ) (D := D) (cI := cI) (cG := cG) (cL := cL) hw.2.1 ev10) (cwV 0 X.1.2.2.2.2 vgX6_perform_X4_dropDraft rfl rfl rfl (by decide +kernel) ⟨Nat.le_of_ble_eq_true rfl, Nat.le_of_ble_eq_true rfl⟩) (q0 := (q + 1)) (ci := 2) rfl (hw.2.1.1 μ).1 rfl hl.1 rfl (Nat.le_of_ble_eq_true rfl) dX6_perform_132 ⟨Nat.zero_le _, Nat.zero_le _⟩) (fun H locs hS => ?_)
              refine lv_pop hx hb dX6_perform_135 rfl ?_
              refine lv_goto (tgt := 168) hx hb dX6_perform_136 (by decide) ?_
              exact hb168 μ11 _ _ _ hS (lv_sub hl [] rfl) h
            · replace h := ie h cc4
              by_cases cc5 : v1 = 6
              · replace h := it h cc5
                rw [cc5]
                refine lv_tableIn (off := 126) (tgt := 139) hx hb dX6_perform_13 (by decide) (by decide) rfl (by decide) ?_
                refine lv_aload_n hx hb dX6_perform_139 rfl (lv_at hl 0 rfl) ?_
                refine r_get X hS (T := TX6) (k := 0) (hw.1 μ).1 rfl hiX6 (by decide) mf12 rfl dX6_perform_140 ?_
                obtain ⟨v12, μ13, ev12, h⟩ := ob2 h
                refine r_ci hS (r_runV (As := []) (rest := []) X hS (c_X4_openReader l hE (w := w) (ad := ad) (μ := μ) (D := D) (cI := cI) (cG := cG) (cL := cL) hw.2.1 ev12) (cwV 0 X.1.2.2.2.2 vgX6_perform_X4_openReader rfl rfl rfl (by decide +kernel) ⟨Nat.le_of_ble_eq_true rfl, Nat.le_of_ble_eq_true rfl⟩) (q0 := (q + 1)) (ci := 2) rfl (hw.2.1.1 μ).1 rfl hl.1 rfl (Nat.le_of_ble_eq_true rfl) dX6_perform_143 ⟨Nat.zero_le _, Nat.zero_le _⟩) (fun H locs hS => ?_)
                refine lv_pop hx hb dX6_perform_146 rfl ?_
                refine lv_goto (tgt := 168) hx hb dX6_perform_147 (by decide) ?_
                exact hb168 μ13 _ _ _ hS (lv_sub hl [] rfl) h
              · replace h := ie h cc5
                by_cases cc6 : v1 = 7
                · replace h := it h cc6
                  rw [cc6]
                  refine lv_tableIn (off := 137) (tgt := 150) hx hb dX6_perform_13 (by decide) (by decide) rfl (by decide) ?_
                  refine lv_aload_n hx hb dX6_perform_150 rfl (lv_at hl 0 rfl) ?_
                  refine r_get X hS (T := TX6) (k := 0) (hw.1 μ).1 rfl hiX6 (by decide) mf12 rfl dX6_perform_151 ?_
                  refine lv_aload_n hx hb dX6_perform_154 rfl (lv_at hl 0 rfl) ?_
                  refine r_get X hS (T := TX6) (k := 2) (hw.1 μ).1 rfl hiX6 (by decide) mf26 rfl dX6_perform_155 ?_
                  refine r_getN X hS (T := TX3) (k := 5) (host := RX6) (hw.2.2.2.1 μ).1 rfl hiX3 (by decide) (X.nest 17 rfl) rfl dX6_perform_158 ?_
                  obtain ⟨v14, μ15, ev14, h⟩ := ob2 h
                  refine r_ci hS (r_runV (As := [.int (μ (q + 83) 5)]) (rest := []) X hS (c_X4_closeReader l hE (w := w) (ad := ad) (μ := μ) (D := D) (cI := cI) (cG := cG) (cL := cL) hw.2.1 ev14) (cwV 1 X.1.2.2.2.2 vgX6_perform_X4_closeReader rfl rfl rfl (by decide +kernel) ⟨Nat.le_of_ble_eq_true rfl, Nat.le_of_ble_eq_true rfl⟩) (q0 := (q + 1)) (ci := 2) rfl (hw.2.1.1 μ).1 rfl hl.1 rfl (Nat.le_of_ble_eq_true rfl) dX6_perform_161 ⟨Nat.zero_le _, Nat.zero_le _⟩) (fun H locs hS => ?_)
                  refine lv_pop hx hb dX6_perform_164 rfl ?_
                  refine lv_goto (tgt := 168) hx hb dX6_perform_165 (by decide) ?_
                  exact hb168 μ15 _ _ _ hS (lv_sub hl [] rfl) h
                · replace h := ie h cc6
                  refine lv_tableOut (tgt := 168) hx hb dX6_perform_13 (sw_1_7 cc0 cc1 cc2 cc3 cc4 cc5 cc6) (by decide) ?_
                  exact hb168 μ _ _ _ hS (lv_sub hl [] rfl) h
def f_X6_runCommands_b88 (q : Nat) (x2 : Int32) (μ : Mem) : Option (Int32 × Mem) := (some (x2, μ))
def f_X6_runCommands_b40 (q : Nat)  : Nat → Int32 → Mem → Option (Int32 × Mem)
  | 0, _, _ => none
  | fuel40 + 1, x2, μ => (if 150 ≤ x2 then f_X6_runCommands_b88 q x2 μ else bn2 (f_X3_scanCommand (q + 83) μ) (fun v5 μ6 => (if v5 = 0 then f_X6_runCommands_b88 q x2 μ6 else (f_X6_faultOf q (μ6 (q + 83) 4) μ6).bind (fun v7 => (if v7 = 0 then (f_X6_perform q (μ6 (q + 83) 4) μ6).bind (fun μ8 => f_X6_runCommands_b40 q fuel40 (x2 + 1) μ8) else f_X6_runCommands_b88 q x2 μ6)))))
def f_X6_runCommands (q : Nat) (μ : Mem) : Option (Int32 × Mem) := bn2 (f_X3_findFault (q + 83) μ) (fun v1 μ2 => (if v1 = (-1000) then (f_X5_save (q + 17) (q + 1) μ2).bind (fun μ3 => (f_X3_rewind (q + 83) μ3).bind (fun μ4 => f_X6_runCommands_b40 q FU 0 μ4)) else (some ((-10) - v1, μ2))))
set_option maxHeartbeats 4000000 in
set_option maxRecDepth 100000 in
theorem c_X6_runCommands (l : Launch) {D : va_G} {cI cG cL : ClassId} {A : Nat → Prop} {tC tS : Nat} {adE adK adV : Nat → Nat} (hE : EnOK (ENV tC tS adE adK adV A) A) {w : Mem → va_W} {ad : Nat → Nat} {q : Nat} {μ : Mem} {r : Int32} {μ' : Mem} (hw : PGAt cI cG adE w ad q) (h : f_X6_runCommands q μ = some (r, μ')) : Met l yX6_runCommands vsX6_runCommands (rmk 8 175) (WPre D (tyl cI cG cL) A (ENV tC tS adE adK adV A) (w μ) [.ref (ad q)]) (PI D A (w μ') r) 0 0 A := by
  have hiX3 : ∀ w ∈ u_ws RX3 TX3 7, w ∈ vsX6_runCommands := by decide +kernel
  have hiX6 : ∀ w ∈ u_ws RX6 TX6 3, w ∈ vsX6_runCommands := by decide +kernel
  have mf26 : Cond.fieldLink RX6 26 (TX6 2).1 (TX6 2).2.1 (TX6 2).2.2.1 ∈ vsX6_runCommands := by decide +kernel
  have mf19 : Cond.fieldLink RX6 19 (TX6 1).1 (TX6 1).2.1 (TX6 1).2.2.1 ∈ vsX6_runCommands := by decide +kernel
  have mf12 : Cond.fieldLink RX6 12 (TX6 0).1 (TX6 0).2.1 (TX6 0).2.2.1 ∈ vsX6_runCommands := by decide +kernel
  refine met_start (cc := cX6_runCommands) (nL := 3) (ret := (some .int)) (own := RX6) hE (by decide) rfl rfl (Nat.le_of_ble_eq_true rfl) (fun p e s m args below meth c ls X hS hl hr hlk => ?_)
  have hx := X.1.1
  have hb := X.1.2.1
  replace hl : lv_has ls 3 [(0, .ref (ad q))] := hl
  have hb88 : ∀ (x2 : Int32) (μ : Mem) (H : Heap) (locs : List Loc) (ls : Array Slot), HS D A (w μ) s.heap H locs → lv_has ls 3 [(2, .int x2)] → f_X6_runCommands_b88 q x2 μ = some (r, μ') → W p l e (headSpec vsX6_runCommands (rmk 8 175)).room s m args below meth c H locs 0 0 (MQ below (PI D A (w μ') r) args s 0 0 A) (F0 m 88 ls []) := by
    intro x2 μ H locs ls hS hl h
    unfold f_X6_runCommands_b88 at h
    refine lv_iload_n hx hb dX6_runCommands_88 rfl (lv_at hl 0 rfl) ?_
    obtain ⟨rfl, rfl⟩ := pr2 h
    exact r_iret X hS hr hlk dX6_runCommands_89
  have hb40 : ∀ (fu : Nat) (x2 : Int32) (μ : Mem) (H : Heap) (locs : List Loc) (ls : Array Slot), HS D A (w μ) s.heap H locs → lv_has ls 3 [(0, .ref (ad q)), (2, .int x2)] → f_X6_runCommands_b40 q fu x2 μ = some (r, μ') → W p l e (headSpec vsX6_runCommands (rmk 8 175)).room s m args below meth c H locs 0 0 (MQ below (PI D A (w μ') r) args s 0 0 A) (F0 m 40 ls []) := by
    intro fu
    induction fu with
    | zero =>
      intro x2 μ H locs ls hS hl h
      rw [f_X6_runCommands_b40] at h
      cases h
    | succ fuel40 ih40 =>
      intro x2 μ H locs ls hS hl h
      rw [f_X6_runCommands_b40] at h
      refine lv_iload_n hx hb dX6_runCommands_40 rfl (lv_at hl 1 rfl) ?_
      refine lv_sipush (v := 150) hx hb dX6_runCommands_41 (by decide) ?_
      refine lv_icmp_ge (tgt := 88) hx hb dX6_runCommands_44 (by decide) (fun cc => ?_) (fun cc => ?_)
      · replace h := it h cc
        exact hb88 x2 μ _ _ _ hS (lv_sub hl [1] rfl) h
      · replace h := ie h cc
        refine lv_aload_n hx hb dX6_runCommands_47 rfl (lv_at hl 0 rfl) ?_
        refine r_get X hS (T := TX6) (k := 2) (hw.1 μ).1 rfl hiX6 (by decide) mf26 rfl dX6_runCommands_48 ?_
        obtain ⟨v5, μ6, ev5, h⟩ := ob2 h
        refine r_ci hS (r_runV (As := []) (rest := []) X hS (c_X3_scanCommand l hE (w := w) (ad := ad) (μ := μ) (D := D) (cI := cI) (cG := cG) (cL := cL) hw.2.2.2 ev5) (cwV 0 X.1.2.2.2.2 vgX6_runCommands_X3_scanCommand rfl rfl rfl (by decide +kernel) ⟨Nat.le_of_ble_eq_true rfl, Nat.le_of_ble_eq_true rfl⟩) (q0 := (q + 83)) (ci := 1) rfl (hw.2.2.2.1 μ).1 rfl hl.1 rfl (Nat.le_of_ble_eq_true rfl) dX6_runCommands_51 ⟨Nat.zero_le _, Nat.zero_le _⟩) (fun H locs hS => ?_)
        refine lv_if_eq (tgt := 88) hx hb dX6_runCommands_54 (by decide) (fun cc => ?_) (fun cc => ?_)
        · replace h := it h cc
          exact hb88 x2 μ6 _ _ _ hS (lv_sub hl [1] rfl) h
        · replace h := ie h cc
          refine lv_aload_n hx hb dX6_runCommands_57 rfl (lv_at hl 0 rfl) ?_
          refine lv_aload_n hx hb dX6_runCommands_58 rfl (lv_at hl 0 rfl) ?_
          refine r_get X hS (T := TX6) (k := 2) (hw.1 μ6).1 rfl hiX6 (by decide) mf26 rfl dX6_runCommands_59 ?_
          refine r_getN X hS (T := TX3) (k := 4) (host := RX6) (hw.2.2.2.1 μ6).1 rfl hiX3 (by decide) (X.nest 16 rfl) rfl dX6_runCommands_62 ?_
          obtain ⟨v7, ev7, h⟩ := ob h
          refine r_ci hS (r_runV (As := [cmdv adE (μ6 (q + 83) 4)]) (rest := []) X hS (c_X6_faultOf l hE (w := w) (ad := ad) (μ := μ6) (D := D) (cI := cI) (cG := cG) (cL := cL) hw ev7) (cwV 1 X.1.2.2.2.2 vgX6_runCommands_X6_faultOf rfl rfl rfl (by decide +kernel) ⟨Nat.le_of_ble_eq_true rfl, Nat.le_of_ble_eq_true rfl⟩) (q0 := q) (ci := 4) rfl (hw.1 μ6).1 rfl hl.1 rfl (Nat.le_of_ble_eq_true rfl) dX6_runCommands_65 ⟨Nat.zero_le _, Nat.zero_le _⟩) (fun H locs hS => ?_)
          refine lv_if_ne (tgt := 88) hx hb dX6_runCommands_68 (by decide) (fun cc => ?_) (fun cc => ?_)
          · replace h := ie h cc
            exact hb88 x2 μ6 _ _ _ hS (lv_sub hl [1] rfl) h
          · replace h := it h cc
            refine lv_aload_n hx hb dX6_runCommands_71 rfl (lv_at hl 0 rfl) ?_
            refine lv_aload_n hx hb dX6_runCommands_72 rfl (lv_at hl 0 rfl) ?_
            refine r_get X hS (T := TX6) (k := 2) (hw.1 μ6).1 rfl hiX6 (by decide) mf26 rfl dX6_runCommands_73 ?_
            refine r_getN X hS (T := TX3) (k := 4) (host := RX6) (hw.2.2.2.1 μ6).1 rfl hiX3 (by decide) (X.nest 16 rfl) rfl dX6_runCommands_76 ?_
            obtain ⟨μ8, eμ8, h⟩ := ob h
            refine r_cv hS (r_runV (As := [cmdv adE (μ6 (q + 83) 4)]) (rest := []) X hS (c_X6_perform l hE (w := w) (ad := ad) (μ := μ6) (D := D) (cI := cI) (cG := cG) (cL := cL) hw eμ8) (cwV 1 X.1.2.2.2.2 vgX6_runCommands_X6_perform rfl rfl rfl (by decide +kernel) ⟨Nat.le_of_ble_eq_true rfl, Nat.le_of_ble_eq_true rfl⟩) (q0 := q) (ci := 4) rfl (hw.1 μ6).1 rfl hl.1 rfl (Nat.le_of_ble_eq_true rfl) dX6_runCommands_79 ⟨Nat.zero_le _, Nat.zero_le _⟩) (fun H locs hS => ?_)
            refine lv_iinc (v := x2 + 1) (lv' := [(2, .int (x2 + 1)), (0, .ref (ad q))]) hx hb dX6_runCommands_82 hl (k := 1) rfl rfl (by decide) rfl (fun ls hl => ?_)
            refine lv_goto (tgt := 40) hx hb dX6_runCommands_85 (by decide) ?_
            exact ih40 (x2 + 1) μ8 _ _ _ hS (lv_sub hl [1, 0] rfl) h
  unfold f_X6_runCommands at h
  refine lv_aload_n hx hb dX6_runCommands_0 rfl (lv_at hl 0 rfl) ?_
  refine r_get X hS (T := TX6) (k := 2) (hw.1 μ).1 rfl hiX6 (by decide) mf26 rfl dX6_runCommands_1 ?_
  obtain ⟨v1, μ2, ev1, h⟩ := ob2 h
  refine r_ci hS (r_runV (As := []) (rest := []) X hS (c_X3_findFault l hE (w := w) (ad := ad) (μ := μ) (D := D) (cI := cI) (cG := cG) (cL := cL) hw.2.2.2 ev1) (cwV 0 X.1.2.2.2.2 vgX6_runCommands_X3_findFault rfl rfl rfl (by decide +kernel) ⟨Nat.le_of_ble_eq_true rfl, Nat.le_of_ble_eq_true rfl⟩) (q0 := (q + 83)) (ci := 1) rfl (hw.2.2.2.1 μ).1 rfl hl.1 rfl (Nat.le_of_ble_eq_true rfl) dX6_runCommands_4 ⟨Nat.zero_le _, Nat.zero_le _⟩) (fun H locs hS => ?_)
  refine lv_istore_n (lv' := [(1, .int v1), (0, .ref (ad q))]) hx hb dX6_runCommands_7 rfl hl (by decide) rfl (fun ls hl => ?_)
  refine lv_iload_n hx hb dX6_runCommands_8 rfl (lv_at hl 0 rfl) ?_
  refine lv_sipush (v := (-1000)) hx hb dX6_runCommands_9 (by decide) ?_
  refine lv_icmp_eq (tgt := 20) hx hb dX6_runCommands_12 (by decide) (fun cc => ?_) (fun cc => ?_)
  · replace h := it h cc
    refine lv_aload_n hx hb dX6_runCommands_20 rfl (lv_at hl 1 rfl) ?_
    refine r_get X hS (T := TX6) (k := 1) (hw.1 μ2).1 rfl hiX6 (by decide) mf19 rfl dX6_runCommands_21 ?_
    refine lv_aload_n hx hb dX6_runCommands_24 rfl (lv_at hl 1 rfl) ?_
    refine r_get X hS (T := TX6) (k := 0) (hw.1 μ2).1 rfl hiX6 (by decide) mf12 rfl dX6_runCommands_25 ?_
    obtain ⟨μ3, eμ3, h⟩ := ob h
    refine r_cv hS (r_runV (As := [.ref (ad (q + 1))]) (rest := []) X hS (c_X5_save l hE (w := w) (ad := ad) (μ := μ2) (D := D) (cI := cI) (cG := cG) (cL := cL) hw.2.2.1 hw.2.1 eμ3) (cwV 1 X.1.2.2.2.2 vgX6_runCommands_X5_save rfl rfl rfl (by decide +kernel) ⟨Nat.le_of_ble_eq_true rfl, Nat.le_of_ble_eq_true rfl⟩) (q0 := (q + 17)) (ci := 3) rfl (hw.2.2.1.1 μ2).1 rfl hl.1 rfl (Nat.le_of_ble_eq_true rfl) dX6_runCommands_28 ⟨Nat.zero_le _, Nat.zero_le _⟩) (fun H locs hS => ?_)
    refine lv_aload_n hx hb dX6_runCommands_31 rfl (lv_at hl 1 rfl) ?_
    refine r_get X hS (T := TX6) (k := 2) (hw.1 μ3).1 rfl hiX6 (by decide) mf26 rfl dX6_runCommands_32 ?_
    obtain ⟨μ4, eμ4, h⟩ := ob h
    refine r_cv hS (r_runV (As := []) (rest := []) X hS (c_X3_rewind l hE (w := w) (ad := ad) (μ := μ3) (D := D) (cI := cI) (cG := cG) (cL := cL) hw.2.2.2 eμ4) (cwV 0 X.1.2.2.2.2 vgX6_runCommands_X3_rewind rfl rfl rfl (by decide +kernel) ⟨Nat.le_of_ble_eq_true rfl, Nat.le_of_ble_eq_true rfl⟩) (q0 := (q + 83)) (ci := 1) rfl (hw.2.2.2.1 μ3).1 rfl hl.1 rfl (Nat.le_of_ble_eq_true rfl) dX6_runCommands_35 ⟨Nat.zero_le _, Nat.zero_le _⟩) (fun H locs hS => ?_)
    refine lv_iconst (v := 0) hx hb dX6_runCommands_38 (by decide) ?_
    refine lv_istore_n (lv' := [(2, .int 0), (1, .int v1), (0, .ref (ad q))]) hx hb dX6_runCommands_39 rfl hl (by decide) rfl (fun ls hl => ?_)
    exact hb40 FU 0 μ4 _ _ _ hS (lv_sub hl [2, 0] rfl) h
  · replace h := ie h cc
    refine lv_bipush (v := (-10)) hx hb dX6_runCommands_15 (by decide) ?_
    refine lv_iload_n hx hb dX6_runCommands_17 rfl (lv_at hl 0 rfl) ?_
    refine lv_isub hx hb dX6_runCommands_18 ?_
    obtain ⟨rfl, rfl⟩ := pr2 h
    exact r_iret X hS hr hlk dX6_runCommands_19
