def f_X7_thrown (q : Nat) (μ : Mem) : Option Int32 := (some (μ q 6))
def f_X7_in_b15  (s0 : Int32)  : Option Int32 := (zr s0).bind (fun v1 => (some v1))
def f_X7_in_b14    : Option Int32 := f_X7_in_b15 0
def f_X7_in (a0 : Int32) (a1 : Int32) (a2 : Int32) : Option Int32 := (if a0 < a1 then f_X7_in_b14  else (if a2 < a0 then f_X7_in_b14  else f_X7_in_b15 1))
def f_X7_bring_b3 (q0 n0 : Nat) (q2 n2 : Nat)  : Nat → Int32 → Int32 → Int32 → Mem → Option Mem
  | 0, _, _, _, _ => none
  | fuel3 + 1, x1, x3, x4, μ => (if 470 ≤ x4 then (some μ) else (rd n0 (μ q0) (x1 + x4)).bind (fun v1 => (wr μ q2 n2 (x3 + x4) v1).bind (fun μ2 => f_X7_bring_b3 q0 n0 q2 n2 fuel3 x1 x3 (x4 + 1) μ2)))
def f_X7_bring (q0 n0 : Nat) (a1 : Int32) (q2 n2 : Nat) (a3 : Int32) (μ : Mem) : Option Mem := f_X7_bring_b3 q0 n0 q2 n2 FU a1 a3 0 μ
def f_X7_hold (q : Nat) (μ : Mem) : Option Mem := (pf μ q 7 0).bind (fun μ1 => (f_X7_bring (q + 1) 470 0 (q + 2) 470 0 μ1).bind (fun μ2 => (some μ2)))
def f_X7_ends_b66 (q : Nat) (x1 : Int32) (μ : Mem) : Option (Int32 × Mem) := (f_X7_bring (q + 2) 470 0 (q + 3) 1880 (470 * (μ q 3)) μ).bind (fun μ2 => (pf μ2 q 3 ((μ2 q 3) + 1)).bind (fun μ3 => (some (x1, μ3))))
def f_X7_ends_b27 (q : Nat)  : Nat → Int32 → Int32 → Mem → Option (Int32 × Mem)
  | 0, _, _, _ => none
  | fuel27 + 1, x1, x2, μ => (if 1410 ≤ x2 then (pf μ q 3 ((μ q 3) - 1)).bind (fun μ4 => f_X7_ends_b66 q x1 μ4) else (rd 1880 (μ (q + 3)) (x2 + 470)).bind (fun v5 => (wr μ (q + 3) 1880 x2 v5).bind (fun μ6 => f_X7_ends_b27 q fuel27 x1 (x2 + 1) μ6)))
def f_X7_ends (q : Nat) (a1 : Int32) (μ : Mem) : Option (Int32 × Mem) := (pf μ q 6 (μ q 7)).bind (fun μ1 => (if (μ1 q 7) = 0 then (if (μ1 q 3) = 4 then f_X7_ends_b27 q FU a1 0 μ1 else f_X7_ends_b66 q a1 μ1) else (some (0, μ1))))
def f_X7_refuse (q : Nat) (a1 : Int32) (μ : Mem) : Option (Int32 × Mem) := (pf μ q 7 a1).bind (fun μ1 => (some (0, μ1)))
def f_X7_fails (q : Nat) (a1 : Int32) (μ : Mem) : Option (Int32 × Mem) := (pf μ q 6 a1).bind (fun μ1 => (some (0, μ1)))
def f_X7_of (q : Nat) (a1 : Int32) (a2 : Int32) (μ : Mem) : Option Int32 := (rd 470 (μ (q + 1)) ((0 + (14 * a1)) + a2)).bind (fun v1 => (some v1))
def f_X7_lay (q : Nat) (a1 : Int32) (a2 : Int32) (a3 : Int32) (μ : Mem) : Option Mem := (wr μ (q + 1) 470 ((0 + (14 * a1)) + a2) a3).bind (fun μ1 => (some μ1))
def f_X7_current_b57 (q : Nat) (s0 : Int32) (μ : Mem) : Option Int32 := (some s0)
def f_X7_current_b47 (q : Nat) (s0 : Int32) (μ : Mem) : Option Int32 := (if s0 = 0 then f_X7_current_b57 q 0 μ else f_X7_current_b57 q 1 μ)
def f_X7_current_b46 (q : Nat)  (μ : Mem) : Option Int32 := f_X7_current_b47 q 0 μ
def f_X7_current_b42 (q : Nat)  (μ : Mem) : Option Int32 := f_X7_current_b47 q 1 μ
def f_X7_current (q : Nat) (μ : Mem) : Option Int32 := (rd 470 (μ (q + 1)) 453).bind (fun v1 => (if v1 = 1 then (rd 470 (μ (q + 1)) 450).bind (fun v2 => (if v2 = 0 then f_X7_current_b42 q μ else (rd 470 (μ (q + 1)) 451).bind (fun v3 => (rd 470 (μ (q + 1)) 448).bind (fun v4 => (if v3 ≤ v4 then f_X7_current_b46 q μ else f_X7_current_b42 q μ))))) else f_X7_current_b46 q μ))
def f_X7_ofRoot (q : Nat) (a1 : Int32) (a2 : Int32) (μ : Mem) : Option Int32 := (rd 470 (μ (q + 1)) ((448 + (3 * a1)) + a2)).bind (fun v1 => (some v1))
def f_X7_ofReader (q : Nat) (a1 : Int32) (a2 : Int32) (μ : Mem) : Option Int32 := (rd 470 (μ (q + 1)) ((454 + (3 * a1)) + a2)).bind (fun v1 => (some v1))
def f_X7_needed_b120 (q : Nat) (k68 : Int32 → Int32 → Int32 → Mem → Option Int32) (x1 : Int32) (x3 : Int32) (s0 : Int32) (μ : Mem) : Option Int32 := k68 x1 s0 (x3 + 1) μ
def f_X7_needed_b103 (q : Nat) (k68 : Int32 → Int32 → Int32 → Mem → Option Int32) (x1 : Int32) (x2 : Int32) (x3 : Int32) (s0 : Int32) (μ : Mem) : Option Int32 := (if s0 = 0 then f_X7_needed_b120 q k68 x1 x3 x2 μ else (f_X7_ofReader q x3 1 μ).bind (fun v3 => f_X7_needed_b120 q k68 x1 x3 v3 μ))
def f_X7_needed_b102 (q : Nat) (k68 : Int32 → Int32 → Int32 → Mem → Option Int32) (x1 : Int32) (x2 : Int32) (x3 : Int32) (μ : Mem) : Option Int32 := f_X7_needed_b103 q k68 x1 x2 x3 0 μ
def f_X7_needed_b68 (q : Nat)  : Nat → Int32 → Int32 → Int32 → Mem → Option Int32
  | 0, _, _, _, _ => none
  | fuel68 + 1, x1, x2, x3, μ => (if 4 ≤ x3 then (some x2) else (if x3 = x1 then f_X7_needed_b102 q (f_X7_needed_b68 q fuel68) x1 x2 x3 μ else (f_X7_ofReader q x3 0 μ).bind (fun v4 => (if v4 = 1 then (f_X7_ofReader q x3 1 μ).bind (fun v5 => (if x2 ≤ v5 then f_X7_needed_b102 q (f_X7_needed_b68 q fuel68) x1 x2 x3 μ else f_X7_needed_b103 q (f_X7_needed_b68 q fuel68) x1 x2 x3 1 μ)) else f_X7_needed_b102 q (f_X7_needed_b68 q fuel68) x1 x2 x3 μ))))
def f_X7_needed_b59 (q : Nat) (k12 : Int32 → Int32 → Int32 → Mem → Option Int32) (x1 : Int32) (x3 : Int32) (s0 : Int32) (μ : Mem) : Option Int32 := k12 x1 s0 (x3 + 1) μ
def f_X7_needed_b42 (q : Nat) (k12 : Int32 → Int32 → Int32 → Mem → Option Int32) (x1 : Int32) (x2 : Int32) (x3 : Int32) (s0 : Int32) (μ : Mem) : Option Int32 := (if s0 = 0 then f_X7_needed_b59 q k12 x1 x3 x2 μ else (f_X7_ofRoot q x3 0 μ).bind (fun v7 => f_X7_needed_b59 q k12 x1 x3 v7 μ))
def f_X7_needed_b41 (q : Nat) (k12 : Int32 → Int32 → Int32 → Mem → Option Int32) (x1 : Int32) (x2 : Int32) (x3 : Int32) (μ : Mem) : Option Int32 := f_X7_needed_b42 q k12 x1 x2 x3 0 μ
def f_X7_needed_b12 (q : Nat)  : Nat → Int32 → Int32 → Int32 → Mem → Option Int32
  | 0, _, _, _, _ => none
  | fuel12 + 1, x1, x2, x3, μ => (if 2 ≤ x3 then f_X7_needed_b68 q FU x1 x2 0 μ else (f_X7_ofRoot q x3 2 μ).bind (fun v6 => (if v6 = 1 then (f_X7_ofRoot q x3 0 μ).bind (fun v8 => (if x2 ≤ v8 then f_X7_needed_b41 q (f_X7_needed_b12 q fuel12) x1 x2 x3 μ else f_X7_needed_b42 q (f_X7_needed_b12 q fuel12) x1 x2 x3 1 μ)) else f_X7_needed_b41 q (f_X7_needed_b12 q fuel12) x1 x2 x3 μ)))
def f_X7_needed (q : Nat) (a1 : Int32) (μ : Mem) : Option Int32 := (f_X7_current q μ).bind (fun v1 => (f_X7_ofRoot q v1 0 μ).bind (fun v2 => f_X7_needed_b12 q FU a1 v2 0 μ))
def f_X7_canBeDug_b29 (q : Nat) (s0 : Int32) (μ : Mem) : Option Int32 := (zr s0).bind (fun v2 => (some v2))
def f_X7_canBeDug_b28 (q : Nat)  (μ : Mem) : Option Int32 := f_X7_canBeDug_b29 q 0 μ
def f_X7_canBeDug (q : Nat) (a1 : Int32) (μ : Mem) : Option Int32 := (f_X7_of q a1 0 μ).bind (fun v1 => (if v1 = 2 then (f_X7_of q a1 3 μ).bind (fun v3 => (f_X7_needed q (-1) μ).bind (fun v4 => (if v4 < v3 then f_X7_canBeDug_b28 q μ else f_X7_canBeDug_b29 q 1 μ))) else f_X7_canBeDug_b28 q μ))
def f_X7_nextNow_b100 (q : Nat) (x1 : Int32) (μ : Mem) : Option Int32 := (some x1)
def f_X7_nextNow_b93 (q : Nat) (k62 : Int32 → Int32 → Mem → Option Int32) (x2 : Int32) (s0 : Int32) (μ : Mem) : Option Int32 := k62 s0 (x2 + (-1)) μ
def f_X7_nextNow_b79 (q : Nat) (k62 : Int32 → Int32 → Mem → Option Int32) (x1 : Int32) (x2 : Int32) (μ : Mem) : Option Int32 := (f_X7_of q x2 0 μ).bind (fun v1 => (if v1 = 0 then f_X7_nextNow_b93 q k62 x2 x2 μ else f_X7_nextNow_b93 q k62 x2 x1 μ))
def f_X7_nextNow_b62 (q : Nat)  : Nat → Int32 → Int32 → Mem → Option Int32
  | 0, _, _, _ => none
  | fuel62 + 1, x1, x2, μ => (if x2 < 0 then f_X7_nextNow_b100 q x1 μ else (if x1 < 0 then f_X7_nextNow_b79 q (f_X7_nextNow_b62 q fuel62) x1 x2 μ else (f_X7_of q x1 0 μ).bind (fun v2 => (if v2 = 0 then f_X7_nextNow_b79 q (f_X7_nextNow_b62 q fuel62) x1 x2 μ else f_X7_nextNow_b100 q x1 μ))))
def f_X7_nextNow_b52 (q : Nat) (k4 : Int32 → Int32 → Mem → Option Int32) (x2 : Int32) (s0 : Int32) (μ : Mem) : Option Int32 := k4 s0 (x2 + 1) μ
def f_X7_nextNow_b42 (q : Nat) (k4 : Int32 → Int32 → Mem → Option Int32) (x1 : Int32) (x2 : Int32) (s0 : Int32) (μ : Mem) : Option Int32 := (if s0 = 0 then f_X7_nextNow_b52 q k4 x2 x1 μ else f_X7_nextNow_b52 q k4 x2 x2 μ)
def f_X7_nextNow_b41 (q : Nat) (k4 : Int32 → Int32 → Mem → Option Int32) (x1 : Int32) (x2 : Int32) (μ : Mem) : Option Int32 := f_X7_nextNow_b42 q k4 x1 x2 0 μ
def f_X7_nextNow_b37 (q : Nat) (k4 : Int32 → Int32 → Mem → Option Int32) (x1 : Int32) (x2 : Int32) (μ : Mem) : Option Int32 := f_X7_nextNow_b42 q k4 x1 x2 1 μ
def f_X7_nextNow_b4 (q : Nat)  : Nat → Int32 → Int32 → Mem → Option Int32
  | 0, _, _, _ => none
  | fuel4 + 1, x1, x2, μ => (if 32 ≤ x2 then f_X7_nextNow_b62 q FU x1 31 μ else (f_X7_canBeDug q x2 μ).bind (fun v3 => (if v3 = 0 then f_X7_nextNow_b41 q (f_X7_nextNow_b4 q fuel4) x1 x2 μ else (if x1 < 0 then f_X7_nextNow_b37 q (f_X7_nextNow_b4 q fuel4) x1 x2 μ else (f_X7_of q x2 3 μ).bind (fun v4 => (f_X7_of q x1 3 μ).bind (fun v5 => (if v5 ≤ v4 then f_X7_nextNow_b41 q (f_X7_nextNow_b4 q fuel4) x1 x2 μ else f_X7_nextNow_b37 q (f_X7_nextNow_b4 q fuel4) x1 x2 μ)))))))
def f_X7_nextNow (q : Nat) (μ : Mem) : Option Int32 := f_X7_nextNow_b4 q FU (-1) 0 μ
def f_X7_manyToDig_b33 (q : Nat) (k4 : Int32 → Int32 → Mem → Option Int32) (x2 : Int32) (s0 : Int32) (s1 : Int32) (μ : Mem) : Option Int32 := k4 (s1 + s0) (x2 + 1) μ
def f_X7_manyToDig_b28 (q : Nat) (k4 : Int32 → Int32 → Mem → Option Int32) (x2 : Int32) (s0 : Int32) (μ : Mem) : Option Int32 := f_X7_manyToDig_b33 q k4 x2 1 s0 μ
def f_X7_manyToDig_b4 (q : Nat)  : Nat → Int32 → Int32 → Mem → Option Int32
  | 0, _, _, _ => none
  | fuel4 + 1, x1, x2, μ => (if 32 ≤ x2 then (some x1) else (f_X7_canBeDug q x2 μ).bind (fun v1 => (if v1 = 0 then (f_X7_of q x2 0 μ).bind (fun v2 => (if v2 = 0 then f_X7_manyToDig_b28 q (f_X7_manyToDig_b4 q fuel4) x2 x1 μ else f_X7_manyToDig_b33 q (f_X7_manyToDig_b4 q fuel4) x2 0 x1 μ)) else f_X7_manyToDig_b28 q (f_X7_manyToDig_b4 q fuel4) x2 x1 μ)))
def f_X7_manyToDig (q : Nat) (μ : Mem) : Option Int32 := f_X7_manyToDig_b4 q FU 0 0 μ
def f_X7_dig (q : Nat) (a1 : Int32) (μ : Mem) : Option (Int32 × Mem) := (f_X7_nextNow q μ).bind (fun v1 => (f_X7_lay q v1 0 1 μ).bind (fun μ2 => (f_X7_lay q v1 1 a1 μ2).bind (fun μ3 => (f_X7_lay q v1 2 0 μ3).bind (fun μ4 => (f_X7_lay q v1 3 0 μ4).bind (fun μ5 => (f_X7_lay q v1 4 1 μ5).bind (fun μ6 => (f_X7_lay q v1 5 0 μ6).bind (fun μ7 => (some (v1, μ7)))))))))
def f_X7_becomesWild_b2 (q : Nat)  : Nat → Int32 → Int32 → Mem → Option Mem
  | 0, _, _, _ => none
  | fuel2 + 1, x1, x2, μ => (if 14 ≤ x2 then (some μ) else (f_X7_lay q x1 x2 0 μ).bind (fun μ1 => f_X7_becomesWild_b2 q fuel2 x1 (x2 + 1) μ1))
def f_X7_becomesWild (q : Nat) (a1 : Int32) (μ : Mem) : Option Mem := f_X7_becomesWild_b2 q FU a1 0 μ
def f_X7_leaves_b25 (q : Nat)  (μ : Mem) : Option Mem := (some μ)
def f_X7_leaves (q : Nat) (a1 : Int32) (μ : Mem) : Option Mem := (f_X7_of q a1 4 μ).bind (fun v1 => (if v1 = 1 then (f_X7_becomesWild q a1 μ).bind (fun μ3 => f_X7_leaves_b25 q μ3) else (f_X7_lay q a1 5 1 μ).bind (fun μ2 => f_X7_leaves_b25 q μ2)))
def f_X7_copies_b3 (q : Nat)  : Nat → Int32 → Int32 → Int32 → Mem → Option Mem
  | 0, _, _, _, _ => none
  | fuel3 + 1, x1, x2, x3, μ => (if 14 ≤ x3 then (f_X7_of q x1 2 μ).bind (fun v1 => (f_X7_lay q x2 2 v1 μ).bind (fun μ2 => (some μ2))) else (f_X7_of q x1 x3 μ).bind (fun v3 => (f_X7_lay q x2 x3 v3 μ).bind (fun μ4 => f_X7_copies_b3 q fuel3 x1 x2 (x3 + 1) μ4)))
def f_X7_copies (q : Nat) (a1 : Int32) (a2 : Int32) (μ : Mem) : Option Mem := f_X7_copies_b3 q FU a1 a2 6 μ
def f_X7_leafAt (q : Nat) (a1 : Int32) (a2 : Int32) (μ : Mem) : Option Int32 := (f_X7_of q a1 (6 + a2) μ).bind (fun v1 => (some v1))
def f_X7_keyAt (q : Nat) (a1 : Int32) (a2 : Int32) (μ : Mem) : Option Int32 := (f_X7_of q a1 (6 + (2 * a2)) μ).bind (fun v1 => (some v1))
def f_X7_valueAt (q : Nat) (a1 : Int32) (a2 : Int32) (μ : Mem) : Option Int32 := (f_X7_of q a1 ((6 + (2 * a2)) + 1) μ).bind (fun v1 => (some v1))
def f_X7_placeFor_b51 (q : Nat) (k18 : Int32 → Int32 → Int32 → Int32 → Mem → Option Int32) (x1 : Int32) (x2 : Int32) (x4 : Int32) (s0 : Int32) (μ : Mem) : Option Int32 := k18 x1 x2 s0 (x4 + 1) μ
def f_X7_placeFor_b18 (q : Nat)  : Nat → Int32 → Int32 → Int32 → Int32 → Mem → Option Int32
  | 0, _, _, _, _, _ => none
  | fuel18 + 1, x1, x2, x3, x4, μ => (f_X7_of q x1 2 μ).bind (fun v2 => (if v2 ≤ x4 then (some x3) else (f_X7_leafAt q x1 x4 μ).bind (fun v3 => (f_X7_keyAt q v3 0 μ).bind (fun v4 => (if x2 < v4 then f_X7_placeFor_b51 q (f_X7_placeFor_b18 q fuel18) x1 x2 x4 x3 μ else f_X7_placeFor_b51 q (f_X7_placeFor_b18 q fuel18) x1 x2 x4 x4 μ)))))
def f_X7_placeFor_b14 (q : Nat) (x1 : Int32) (x2 : Int32) (s0 : Int32) (μ : Mem) : Option Int32 := f_X7_placeFor_b18 q FU x1 x2 s0 0 μ
def f_X7_placeFor (q : Nat) (a1 : Int32) (a2 : Int32) (μ : Mem) : Option Int32 := (f_X7_of q a1 2 μ).bind (fun v1 => (if v1 = 0 then f_X7_placeFor_b14 q a1 a2 (-1) μ else f_X7_placeFor_b14 q a1 a2 0 μ))
def f_X7_placeIn_b2 (q : Nat)  : Nat → Int32 → Int32 → Int32 → Mem → Option Int32
  | 0, _, _, _, _ => none
  | fuel2 + 1, x1, x2, x3, μ => (f_X7_of q x1 2 μ).bind (fun v1 => (if v1 ≤ x3 then (some (-1)) else (f_X7_keyAt q x1 x3 μ).bind (fun v2 => (if v2 = x2 then (some x3) else f_X7_placeIn_b2 q fuel2 x1 x2 (x3 + 1) μ))))
def f_X7_placeIn (q : Nat) (a1 : Int32) (a2 : Int32) (μ : Mem) : Option Int32 := f_X7_placeIn_b2 q FU a1 a2 0 μ
def f_X7_valueBy_b51 (q : Nat) (s0 : Int32) (μ : Mem) : Option Int32 := (some s0)
def f_X7_valueBy_b26 (q : Nat) (x1 : Int32) (x3 : Int32) (s0 : Int32) (μ : Mem) : Option Int32 := (if (0 : Int32) ≤ s0 then (f_X7_leafAt q x1 x3 μ).bind (fun v4 => (f_X7_valueAt q v4 s0 μ).bind (fun v5 => f_X7_valueBy_b51 q v5 μ)) else f_X7_valueBy_b51 q (-1000) μ)
def f_X7_valueBy (q : Nat) (a1 : Int32) (a2 : Int32) (μ : Mem) : Option Int32 := (f_X7_placeFor q a1 a2 μ).bind (fun v1 => (if (0 : Int32) ≤ v1 then (f_X7_leafAt q a1 v1 μ).bind (fun v2 => (f_X7_placeIn q v2 a2 μ).bind (fun v3 => f_X7_valueBy_b26 q a1 v1 v3 μ)) else f_X7_valueBy_b26 q a1 v1 (-1) μ))
def f_X7_entriesBy_b4 (q : Nat)  : Nat → Int32 → Int32 → Int32 → Mem → Option Int32
  | 0, _, _, _, _ => none
  | fuel4 + 1, x1, x2, x3, μ => (f_X7_of q x1 2 μ).bind (fun v1 => (if v1 ≤ x3 then (some x2) else (f_X7_leafAt q x1 x3 μ).bind (fun v2 => (f_X7_of q v2 2 μ).bind (fun v3 => f_X7_entriesBy_b4 q fuel4 x1 (x2 + v3) (x3 + 1) μ))))
def f_X7_entriesBy (q : Nat) (a1 : Int32) (μ : Mem) : Option Int32 := f_X7_entriesBy_b4 q FU a1 0 0 μ
def f_X7_now (q : Nat) (μ : Mem) : Option Int32 := (f_X7_current q μ).bind (fun v1 => (f_X7_ofRoot q v1 1 μ).bind (fun v2 => (some v2)))
def f_X7_drafts_b26 (q : Nat) (s0 : Int32) (μ : Mem) : Option Int32 := (some s0)
def f_X7_drafts (q : Nat) (μ : Mem) : Option Int32 := (rd 470 (μ (q + 1)) 467).bind (fun v1 => (if (0 : Int32) ≤ v1 then (rd 470 (μ (q + 1)) 467).bind (fun v2 => f_X7_drafts_b26 q v2 μ) else (f_X7_now q μ).bind (fun v3 => f_X7_drafts_b26 q v3 μ)))
def f_X7_bedsOf_b131 (q : Nat) (s0 : Int32) (μ : Mem) : Option Int32 := (some s0)
def f_X7_bedsOf_b130 (q : Nat) (s0 : Int32) (s1 : Int32) (μ : Mem) : Option Int32 := f_X7_bedsOf_b131 q (s1 + s0) μ
def f_X7_bedsOf_b116 (q : Nat) (x2 : Int32) (x6 : Int32) (x7 : Int32) (μ : Mem) : Option Int32 := (if x7 = 0 then f_X7_bedsOf_b130 q 0 (x2 + x6) μ else f_X7_bedsOf_b130 q 1 (x2 + x6) μ)
def f_X7_bedsOf_b92 (q : Nat) (x2 : Int32) (x3 : Int32) (x6 : Int32) (s0 : Int32) (μ : Mem) : Option Int32 := (if s0 = 0 then f_X7_bedsOf_b116 q x2 x6 s0 μ else (f_X7_of q x3 2 μ).bind (fun v7 => (if v7 = 6 then f_X7_bedsOf_b131 q (-1000) μ else f_X7_bedsOf_b116 q x2 x6 s0 μ)))
def f_X7_bedsOf_b91 (q : Nat) (x2 : Int32) (x3 : Int32) (x6 : Int32) (μ : Mem) : Option Int32 := f_X7_bedsOf_b92 q x2 x3 x6 0 μ
def f_X7_bedsOf_b64 (q : Nat) (x1 : Int32) (x2 : Int32) (x3 : Int32) (x5 : Int32) (s0 : Int32) (μ : Mem) : Option Int32 := (f_X7_placeIn q x5 x1 μ).bind (fun v6 => (if (0 : Int32) ≤ v6 then f_X7_bedsOf_b91 q x2 x3 s0 μ else (f_X7_of q x5 2 μ).bind (fun v8 => (if v8 = 4 then f_X7_bedsOf_b92 q x2 x3 s0 1 μ else f_X7_bedsOf_b91 q x2 x3 s0 μ))))
def f_X7_bedsOf_b16 (q : Nat) (x1 : Int32) (s0 : Int32) (μ : Mem) : Option Int32 := (f_X7_drafts q μ).bind (fun v2 => (f_X7_placeFor q v2 x1 μ).bind (fun v3 => (if (0 : Int32) ≤ v3 then (f_X7_leafAt q v2 v3 μ).bind (fun v4 => (f_X7_of q v4 4 μ).bind (fun v5 => (if v5 = 1 then f_X7_bedsOf_b64 q x1 s0 v2 v4 0 μ else f_X7_bedsOf_b64 q x1 s0 v2 v4 1 μ))) else (some (s0 + 1)))))
def f_X7_bedsOf (q : Nat) (a1 : Int32) (μ : Mem) : Option Int32 := (rd 470 (μ (q + 1)) 467).bind (fun v1 => (if (0 : Int32) ≤ v1 then f_X7_bedsOf_b16 q a1 0 μ else f_X7_bedsOf_b16 q a1 1 μ))
def f_X7_directory_b47 (q : Nat)  (μ : Mem) : Option (Int32 × Mem) := (rd 470 (μ (q + 1)) 467).bind (fun v2 => (some (v2, μ)))
def f_X7_directory (q : Nat) (μ : Mem) : Option (Int32 × Mem) := (rd 470 (μ (q + 1)) 467).bind (fun v1 => (if (0 : Int32) ≤ v1 then f_X7_directory_b47 q μ else (f_X7_now q μ).bind (fun v3 => bn2 (f_X7_dig q 1 μ) (fun v4 μ5 => (wr μ5 (q + 1) 470 467 v4).bind (fun μ6 => (rd 470 (μ6 (q + 1)) 467).bind (fun v7 => (f_X7_copies q v3 v7 μ6).bind (fun μ8 => (f_X7_leaves q v3 μ8).bind (fun μ9 => f_X7_directory_b47 q μ9))))))))
def f_X7_ownLeaf (q : Nat) (a1 : Int32) (a2 : Int32) (μ : Mem) : Option (Int32 × Mem) := (f_X7_leafAt q a1 a2 μ).bind (fun v1 => (f_X7_of q v1 4 μ).bind (fun v2 => (if v2 = 1 then (some (v1, μ)) else bn2 (f_X7_dig q 0 μ) (fun v3 μ4 => (f_X7_copies q v1 v3 μ4).bind (fun μ5 => (f_X7_leaves q v1 μ5).bind (fun μ6 => (f_X7_lay q a1 (6 + a2) v3 μ6).bind (fun μ7 => (some (v3, μ7)))))))))
def f_X7_insertLeaf_b8 (q : Nat)  : Nat → Int32 → Int32 → Int32 → Int32 → Mem → Option Mem
  | 0, _, _, _, _, _ => none
  | fuel8 + 1, x1, x2, x3, x4, μ => (if x4 ≤ x2 then (f_X7_lay q x1 (6 + x2) x3 μ).bind (fun μ2 => (f_X7_of q x1 2 μ2).bind (fun v3 => (f_X7_lay q x1 2 (v3 + 1) μ2).bind (fun μ4 => (some μ4)))) else (f_X7_leafAt q x1 (x4 - 1) μ).bind (fun v5 => (f_X7_lay q x1 (6 + x4) v5 μ).bind (fun μ6 => f_X7_insertLeaf_b8 q fuel8 x1 x2 x3 (x4 + (-1)) μ6)))
def f_X7_insertLeaf (q : Nat) (a1 : Int32) (a2 : Int32) (a3 : Int32) (μ : Mem) : Option Mem := (f_X7_of q a1 2 μ).bind (fun v1 => f_X7_insertLeaf_b8 q FU a1 a2 a3 v1 μ)
def f_X7_setEntry (q : Nat) (a1 : Int32) (a2 : Int32) (a3 : Int32) (a4 : Int32) (μ : Mem) : Option Mem := (f_X7_lay q a1 (6 + (2 * a2)) a3 μ).bind (fun μ1 => (f_X7_lay q a1 ((6 + (2 * a2)) + 1) a4 μ1).bind (fun μ2 => (some μ2)))
def f_X7_splits_b175 (q : Nat) (k141 : Int32 → Int32 → Int32 → Int32 → Int32 → Mem → Option Mem) (x1 : Int32) (x2 : Int32) (x3 : Int32) (x7 : Int32) (x8 : Int32) (s0 : Int32) (s1 : Int32) (μ : Mem) : Option Mem := (rd 10 (μ (q + 5)) (2 * x8)).bind (fun v6 => (rd 10 (μ (q + 5)) ((2 * x8) + 1)).bind (fun v7 => (f_X7_setEntry q s1 s0 v6 v7 μ).bind (fun μ8 => k141 x1 x2 x3 x7 (x8 + 1) μ8)))
def f_X7_splits_b160 (q : Nat) (k141 : Int32 → Int32 → Int32 → Int32 → Int32 → Mem → Option Mem) (x1 : Int32) (x2 : Int32) (x3 : Int32) (x7 : Int32) (x8 : Int32) (s0 : Int32) (μ : Mem) : Option Mem := (if 3 ≤ x8 then f_X7_splits_b175 q k141 x1 x2 x3 x7 x8 (x8 - 3) s0 μ else f_X7_splits_b175 q k141 x1 x2 x3 x7 x8 x8 s0 μ)
def f_X7_splits_b141 (q : Nat)  : Nat → Int32 → Int32 → Int32 → Int32 → Int32 → Mem → Option Mem
  | 0, _, _, _, _, _, _ => none
  | fuel141 + 1, x1, x2, x3, x7, x8, μ => (if 5 ≤ x8 then (f_X7_lay q x3 2 3 μ).bind (fun μ3 => (f_X7_lay q x7 2 2 μ3).bind (fun μ4 => (f_X7_insertLeaf q x1 (x2 + 1) x7 μ4).bind (fun μ5 => (some μ5)))) else (if 3 ≤ x8 then f_X7_splits_b160 q (f_X7_splits_b141 q fuel141) x1 x2 x3 x7 x8 x7 μ else f_X7_splits_b160 q (f_X7_splits_b141 q fuel141) x1 x2 x3 x7 x8 x3 μ))
def f_X7_splits_b124 (q : Nat) (k43 : Int32 → Int32 → Int32 → Int32 → Int32 → Int32 → Int32 → Mem → Option Mem) (x1 : Int32) (x2 : Int32) (x3 : Int32) (x4 : Int32) (x5 : Int32) (x6 : Int32) (x7 : Int32) (s0 : Int32) (s1 : Int32) (μ : Mem) : Option Mem := (wr μ (q + 5) 10 s1 s0).bind (fun μ12 => k43 x1 x2 x3 x4 x5 x6 (x7 + 1) μ12)
def f_X7_splits_b94 (q : Nat) (k43 : Int32 → Int32 → Int32 → Int32 → Int32 → Int32 → Int32 → Mem → Option Mem) (x1 : Int32) (x2 : Int32) (x3 : Int32) (x4 : Int32) (x5 : Int32) (x6 : Int32) (x7 : Int32) (x8 : Int32) (s0 : Int32) (s1 : Int32) (μ : Mem) : Option Mem := (wr μ (q + 5) 10 s1 s0).bind (fun μ10 => (if x7 = x6 then f_X7_splits_b124 q k43 x1 x2 x3 x4 x5 x6 x7 x5 ((2 * x7) + 1) μ10 else (f_X7_valueAt q x3 x8 μ10).bind (fun v11 => f_X7_splits_b124 q k43 x1 x2 x3 x4 x5 x6 x7 v11 ((2 * x7) + 1) μ10)))
def f_X7_splits_b65 (q : Nat) (k43 : Int32 → Int32 → Int32 → Int32 → Int32 → Int32 → Int32 → Mem → Option Mem) (x1 : Int32) (x2 : Int32) (x3 : Int32) (x4 : Int32) (x5 : Int32) (x6 : Int32) (x7 : Int32) (s0 : Int32) (μ : Mem) : Option Mem := (if x7 = x6 then f_X7_splits_b94 q k43 x1 x2 x3 x4 x5 x6 x7 s0 x4 (2 * x7) μ else (f_X7_keyAt q x3 s0 μ).bind (fun v9 => f_X7_splits_b94 q k43 x1 x2 x3 x4 x5 x6 x7 s0 v9 (2 * x7) μ))
def f_X7_splits_b43 (q : Nat)  : Nat → Int32 → Int32 → Int32 → Int32 → Int32 → Int32 → Int32 → Mem → Option Mem
  | 0, _, _, _, _, _, _, _, _ => none
  | fuel43 + 1, x1, x2, x3, x4, x5, x6, x7, μ => (if 5 ≤ x7 then bn2 (f_X7_dig q 0 μ) (fun v1 μ2 => f_X7_splits_b141 q FU x1 x2 x3 v1 0 μ2) else (if x6 ≤ x7 then f_X7_splits_b65 q (f_X7_splits_b43 q fuel43) x1 x2 x3 x4 x5 x6 x7 (x7 - 1) μ else f_X7_splits_b65 q (f_X7_splits_b43 q fuel43) x1 x2 x3 x4 x5 x6 x7 x7 μ))
def f_X7_splits_b31 (q : Nat) (k6 : Int32 → Int32 → Int32 → Int32 → Int32 → Int32 → Int32 → Mem → Option Mem) (x1 : Int32) (x2 : Int32) (x3 : Int32) (x4 : Int32) (x5 : Int32) (x7 : Int32) (s0 : Int32) (s1 : Int32) (μ : Mem) : Option Mem := k6 x1 x2 x3 x4 x5 (s1 + s0) (x7 + 1) μ
def f_X7_splits_b6 (q : Nat)  : Nat → Int32 → Int32 → Int32 → Int32 → Int32 → Int32 → Int32 → Mem → Option Mem
  | 0, _, _, _, _, _, _, _, _ => none
  | fuel6 + 1, x1, x2, x3, x4, x5, x6, x7, μ => (if 4 ≤ x7 then f_X7_splits_b43 q FU x1 x2 x3 x4 x5 x6 0 μ else (f_X7_keyAt q x3 x7 μ).bind (fun v13 => (if x4 ≤ v13 then f_X7_splits_b31 q (f_X7_splits_b6 q fuel6) x1 x2 x3 x4 x5 x7 0 x6 μ else f_X7_splits_b31 q (f_X7_splits_b6 q fuel6) x1 x2 x3 x4 x5 x7 1 x6 μ)))
def f_X7_splits (q : Nat) (a1 : Int32) (a2 : Int32) (a3 : Int32) (a4 : Int32) (a5 : Int32) (μ : Mem) : Option Mem := f_X7_splits_b6 q FU a1 a2 a3 a4 a5 0 0 μ
def f_X7_inserts_b57 (q : Nat) (x1 : Int32) (x2 : Int32) (x3 : Int32) (x4 : Int32) (μ : Mem) : Option Mem := (f_X7_setEntry q x1 x4 x2 x3 μ).bind (fun μ2 => (f_X7_of q x1 2 μ2).bind (fun v3 => (f_X7_lay q x1 2 (v3 + 1) μ2).bind (fun μ4 => (some μ4))))
def f_X7_inserts_b8 (q : Nat)  : Nat → Int32 → Int32 → Int32 → Int32 → Mem → Option Mem
  | 0, _, _, _, _, _ => none
  | fuel8 + 1, x1, x2, x3, x4, μ => (if x4 ≤ 0 then f_X7_inserts_b57 q x1 x2 x3 x4 μ else (f_X7_keyAt q x1 (x4 - 1) μ).bind (fun v5 => (if v5 ≤ x2 then f_X7_inserts_b57 q x1 x2 x3 x4 μ else (f_X7_keyAt q x1 (x4 - 1) μ).bind (fun v6 => (f_X7_valueAt q x1 (x4 - 1) μ).bind (fun v7 => (f_X7_setEntry q x1 x4 v6 v7 μ).bind (fun μ8 => f_X7_inserts_b8 q fuel8 x1 x2 x3 (x4 + (-1)) μ8))))))
def f_X7_inserts (q : Nat) (a1 : Int32) (a2 : Int32) (a3 : Int32) (μ : Mem) : Option Mem := (f_X7_of q a1 2 μ).bind (fun v1 => f_X7_inserts_b8 q FU a1 a2 a3 v1 μ)
def f_X7_doPut_b23 (q : Nat)  (μ : Mem) : Option (Int32 × Mem) := bn2 (f_X7_refuse q 1 μ) (fun v2 μ3 => (some (v2, μ3)))
def f_X7_doPut_b67 (q : Nat)  (μ : Mem) : Option (Int32 × Mem) := bn2 (f_X7_refuse q 2 μ) (fun v7 μ8 => (some (v7, μ8)))
def f_X7_doPut_b202 (q : Nat)  (μ : Mem) : Option (Int32 × Mem) := (some ((-1000), μ))
def f_X7_doPut_b51 (q : Nat) (x1 : Int32) (x2 : Int32) (s0 : Int32) (μ : Mem) : Option (Int32 × Mem) := (if s0 = (-1000) then f_X7_doPut_b67 q μ else (f_X7_manyToDig q μ).bind (fun v9 => (if s0 ≤ v9 then bn2 (f_X7_directory q μ) (fun v10 μ11 => (f_X7_placeFor q v10 x1 μ11).bind (fun v12 => (if (0 : Int32) ≤ v12 then bn2 (f_X7_ownLeaf q v10 v12 μ11) (fun v13 μ14 => (f_X7_placeIn q v13 x1 μ14).bind (fun v15 => (if v15 < 0 then (f_X7_of q v13 2 μ14).bind (fun v16 => (if v16 = 4 then (f_X7_splits q v10 v12 v13 x1 x2 μ14).bind (fun μ18 => f_X7_doPut_b202 q μ18) else (f_X7_inserts q v13 x1 x2 μ14).bind (fun μ17 => f_X7_doPut_b202 q μ17))) else (f_X7_valueAt q v13 v15 μ14).bind (fun v19 => (f_X7_setEntry q v13 v15 x1 x2 μ14).bind (fun μ20 => (some (v19, μ20))))))) else bn2 (f_X7_dig q 0 μ11) (fun v21 μ22 => (f_X7_inserts q v21 x1 x2 μ22).bind (fun μ23 => (f_X7_insertLeaf q v10 0 v21 μ23).bind (fun μ24 => (some ((-1000), μ24)))))))) else f_X7_doPut_b67 q μ)))
def f_X7_doPut (q : Nat) (a1 : Int32) (a2 : Int32) (μ : Mem) : Option (Int32 × Mem) := (f_X7_in a1 0 99).bind (fun v1 => (if v1 = 0 then f_X7_doPut_b23 q μ else (f_X7_in a2 (-999) 999).bind (fun v4 => (if v4 = 0 then f_X7_doPut_b23 q μ else (rd 470 (μ (q + 1)) 466).bind (fun v5 => (if v5 = 0 then f_X7_doPut_b51 q a1 a2 (-1000) μ else (f_X7_bedsOf q a1 μ).bind (fun v6 => f_X7_doPut_b51 q a1 a2 v6 μ)))))))
def f_X7_doRemove_b247 (q : Nat)  : Nat → Int32 → Int32 → Int32 → Mem → Option (Int32 × Mem)
  | 0, _, _, _, _ => none
  | fuel247 + 1, x2, x8, x9, μ => (f_X7_of q x8 2 μ).bind (fun v17 => (if v17 ≤ (x9 + 1) then (f_X7_of q x8 2 μ).bind (fun v18 => (f_X7_lay q x8 2 (v18 - 1) μ).bind (fun μ19 => (some (x2, μ19)))) else (f_X7_keyAt q x8 (x9 + 1) μ).bind (fun v20 => (f_X7_valueAt q x8 (x9 + 1) μ).bind (fun v21 => (f_X7_setEntry q x8 x9 v20 v21 μ).bind (fun μ22 => f_X7_doRemove_b247 q fuel247 x2 x8 (x9 + 1) μ22)))))
def f_X7_doRemove_b170 (q : Nat)  : Nat → Int32 → Int32 → Int32 → Mem → Option (Int32 × Mem)
  | 0, _, _, _, _ => none
  | fuel170 + 1, x2, x7, x8, μ => (f_X7_of q x7 2 μ).bind (fun v24 => (if v24 ≤ (x8 + 1) then (f_X7_of q x7 2 μ).bind (fun v25 => (f_X7_lay q x7 2 (v25 - 1) μ).bind (fun μ26 => (some (x2, μ26)))) else (f_X7_leafAt q x7 (x8 + 1) μ).bind (fun v27 => (f_X7_lay q x7 (6 + x8) v27 μ).bind (fun μ28 => f_X7_doRemove_b170 q fuel170 x2 x7 (x8 + 1) μ28))))
def f_X7_doRemove_b132 (q : Nat) (x1 : Int32) (x2 : Int32) (x3 : Int32) (x4 : Int32) (x5 : Int32) (s0 : Int32) (s1 : Int32) (μ : Mem) : Option (Int32 × Mem) := (f_X7_manyToDig q μ).bind (fun v11 => (if (s1 + s0) ≤ v11 then bn2 (f_X7_directory q μ) (fun v12 μ13 => (if x5 = 0 then bn2 (f_X7_ownLeaf q v12 x3 μ13) (fun v14 μ15 => (f_X7_placeIn q v14 x1 μ15).bind (fun v16 => f_X7_doRemove_b247 q FU x2 v14 v16 μ15)) else (f_X7_leaves q x4 μ13).bind (fun μ23 => f_X7_doRemove_b170 q FU x2 v12 x3 μ23))) else bn2 (f_X7_refuse q 2 μ) (fun v29 μ30 => (some (v29, μ30)))))
def f_X7_doRemove_b127 (q : Nat) (x1 : Int32) (x2 : Int32) (x3 : Int32) (x4 : Int32) (x5 : Int32) (s0 : Int32) (μ : Mem) : Option (Int32 × Mem) := f_X7_doRemove_b132 q x1 x2 x3 x4 x5 0 s0 μ
def f_X7_doRemove_b111 (q : Nat) (x1 : Int32) (x2 : Int32) (x3 : Int32) (x4 : Int32) (x5 : Int32) (s0 : Int32) (μ : Mem) : Option (Int32 × Mem) := (if x5 = 0 then (f_X7_of q x4 4 μ).bind (fun v31 => (if v31 = 1 then f_X7_doRemove_b127 q x1 x2 x3 x4 x5 s0 μ else f_X7_doRemove_b132 q x1 x2 x3 x4 x5 1 s0 μ)) else f_X7_doRemove_b127 q x1 x2 x3 x4 x5 s0 μ)
def f_X7_doRemove_b93 (q : Nat) (x1 : Int32) (x2 : Int32) (x3 : Int32) (x4 : Int32) (s0 : Int32) (μ : Mem) : Option (Int32 × Mem) := (rd 470 (μ (q + 1)) 467).bind (fun v10 => (if (0 : Int32) ≤ v10 then f_X7_doRemove_b111 q x1 x2 x3 x4 s0 0 μ else f_X7_doRemove_b111 q x1 x2 x3 x4 s0 1 μ))
def f_X7_doRemove_b42 (q : Nat) (x1 : Int32) (s0 : Int32) (μ : Mem) : Option (Int32 × Mem) := (if s0 = (-1000) then bn2 (f_X7_refuse q 2 μ) (fun v32 μ33 => (some (v32, μ33))) else (f_X7_drafts q μ).bind (fun v5 => (f_X7_placeFor q v5 x1 μ).bind (fun v6 => (f_X7_drafts q μ).bind (fun v7 => (f_X7_leafAt q v7 v6 μ).bind (fun v8 => (f_X7_of q v8 2 μ).bind (fun v9 => (if v9 = 1 then f_X7_doRemove_b93 q x1 s0 v6 v8 1 μ else f_X7_doRemove_b93 q x1 s0 v6 v8 0 μ)))))))
def f_X7_doRemove (q : Nat) (a1 : Int32) (μ : Mem) : Option (Int32 × Mem) := (f_X7_in a1 0 99).bind (fun v1 => (if v1 = 0 then bn2 (f_X7_refuse q 1 μ) (fun v34 μ35 => (some (v34, μ35))) else (rd 470 (μ (q + 1)) 466).bind (fun v2 => (if v2 = 0 then f_X7_doRemove_b42 q a1 (-1000) μ else (f_X7_drafts q μ).bind (fun v3 => (f_X7_valueBy q v3 a1 μ).bind (fun v4 => f_X7_doRemove_b42 q a1 v4 μ))))))
def f_X7_doBegin (q : Nat) (μ : Mem) : Option (Int32 × Mem) := (rd 470 (μ (q + 1)) 466).bind (fun v1 => (if v1 = 1 then bn2 (f_X7_refuse q 1 μ) (fun v6 μ7 => (some (v6, μ7))) else (wr μ (q + 1) 470 466 1).bind (fun μ2 => (wr μ2 (q + 1) 470 467 (-1)).bind (fun μ3 => (f_X7_current q μ3).bind (fun v4 => (f_X7_ofRoot q v4 0 μ3).bind (fun v5 => (some (v5, μ3))))))))
def f_X7_begin (q : Nat) (μ : Mem) : Option (Int32 × Mem) := (f_X7_hold q μ).bind (fun μ1 => bn2 (f_X7_doBegin q μ1) (fun v2 μ3 => bn2 (f_X7_ends q v2 μ3) (fun v4 μ5 => (some (v4, μ5)))))
def f_X7_put (q : Nat) (a1 : Int32) (a2 : Int32) (μ : Mem) : Option (Int32 × Mem) := (f_X7_hold q μ).bind (fun μ1 => bn2 (f_X7_doPut q a1 a2 μ1) (fun v2 μ3 => bn2 (f_X7_ends q v2 μ3) (fun v4 μ5 => (some (v4, μ5)))))
def f_X7_remove (q : Nat) (a1 : Int32) (μ : Mem) : Option (Int32 × Mem) := (f_X7_hold q μ).bind (fun μ1 => bn2 (f_X7_doRemove q a1 μ1) (fun v2 μ3 => bn2 (f_X7_ends q v2 μ3) (fun v4 μ5 => (some (v4, μ5)))))
def f_X7_drops_b35 (q : Nat) (k4 : Int32 → Int32 → Mem → Option (Int32 × Mem)) (x1 : Int32) (x2 : Int32) (μ : Mem) : Option (Int32 × Mem) := k4 x1 (x2 + 1) μ
def f_X7_drops_b4 (q : Nat)  : Nat → Int32 → Int32 → Mem → Option (Int32 × Mem)
  | 0, _, _, _ => none
  | fuel4 + 1, x1, x2, μ => (if 32 ≤ x2 then (wr μ (q + 1) 470 466 0).bind (fun μ1 => (wr μ1 (q + 1) 470 467 (-1)).bind (fun μ2 => (some (x1, μ2)))) else (f_X7_lay q x2 5 0 μ).bind (fun μ3 => (f_X7_of q x2 4 μ3).bind (fun v4 => (if v4 = 1 then (f_X7_becomesWild q x2 μ3).bind (fun μ5 => f_X7_drops_b35 q (f_X7_drops_b4 q fuel4) (x1 + 1) x2 μ5) else f_X7_drops_b35 q (f_X7_drops_b4 q fuel4) x1 x2 μ3))))
def f_X7_drops (q : Nat) (μ : Mem) : Option (Int32 × Mem) := f_X7_drops_b4 q FU 0 0 μ
def f_X7_frees_b37 (q : Nat) (k4 : Int32 → Int32 → Int32 → Mem → Option (Int32 × Mem)) (x1 : Int32) (x2 : Int32) (x3 : Int32) (μ : Mem) : Option (Int32 × Mem) := (f_X7_lay q x3 5 0 μ).bind (fun μ4 => (f_X7_lay q x3 4 0 μ4).bind (fun μ5 => k4 x1 x2 (x3 + 1) μ5))
def f_X7_frees_b4 (q : Nat)  : Nat → Int32 → Int32 → Int32 → Mem → Option (Int32 × Mem)
  | 0, _, _, _, _ => none
  | fuel4 + 1, x1, x2, x3, μ => (if 32 ≤ x3 then (wr μ (q + 1) 470 466 0).bind (fun μ1 => (wr μ1 (q + 1) 470 467 (-1)).bind (fun μ2 => (some (x2, μ2)))) else (f_X7_of q x3 5 μ).bind (fun v3 => (if v3 = 1 then (f_X7_lay q x3 0 2 μ).bind (fun μ6 => (f_X7_lay q x3 3 x1 μ6).bind (fun μ7 => f_X7_frees_b37 q (f_X7_frees_b4 q fuel4) x1 (x2 + 1) x3 μ7)) else f_X7_frees_b37 q (f_X7_frees_b4 q fuel4) x1 x2 x3 μ)))
def f_X7_frees (q : Nat) (a1 : Int32) (μ : Mem) : Option (Int32 × Mem) := f_X7_frees_b4 q FU a1 0 0 μ
def f_X7_doCommit_b153 (q : Nat) (x1 : Int32) (x2 : Int32) (x3 : Int32) (s0 : Int32) (s1 : Int32) (μ : Mem) : Option (Int32 × Mem) := (wr μ (q + 1) 470 s1 s0).bind (fun μ10 => (if 3 ≤ x1 then (wr μ10 (q + 1) 470 (x3 + 2) 1).bind (fun μ11 => (rd 470 (μ11 (q + 1)) 468).bind (fun v12 => (wr μ11 (q + 1) 470 468 (v12 + 1)).bind (fun μ13 => bn2 (f_X7_frees q x2 μ13) (fun v14 μ15 => (some (v14, μ15)))))) else bn2 (f_X7_drops q μ10) (fun v16 μ17 => (rd 470 (μ17 (q + 1)) 469).bind (fun v18 => (wr μ17 (q + 1) 470 469 (v18 + 1)).bind (fun μ19 => (some ((-1000), μ19)))))))
def f_X7_doCommit_b121 (q : Nat) (x1 : Int32) (x2 : Int32) (x3 : Int32) (s0 : Int32) (s1 : Int32) (μ : Mem) : Option (Int32 × Mem) := (wr μ (q + 1) 470 s1 s0).bind (fun μ8 => (if 2 ≤ x1 then (rd 470 (μ8 (q + 1)) 467).bind (fun v9 => f_X7_doCommit_b153 q x1 x2 x3 v9 (x3 + 1) μ8) else (rd 470 (μ8 (q + 1)) (x3 + 1)).bind (fun v20 => f_X7_doCommit_b153 q x1 x2 x3 v20 (x3 + 1) μ8)))
def f_X7_doCommit_b96 (q : Nat) (x1 : Int32) (x2 : Int32) (x3 : Int32) (s0 : Int32) (s1 : Int32) (μ : Mem) : Option (Int32 × Mem) := (wr μ (q + 1) 470 s1 s0).bind (fun μ7 => (if 2 ≤ x1 then f_X7_doCommit_b121 q x1 x2 x3 x2 (x3 + 0) μ7 else (rd 470 (μ7 (q + 1)) (x3 + 0)).bind (fun v21 => f_X7_doCommit_b121 q x1 x2 x3 v21 (x3 + 0) μ7)))
def f_X7_doCommit (q : Nat) (a1 : Int32) (μ : Mem) : Option (Int32 × Mem) := (f_X7_in a1 0 3).bind (fun v1 => (if v1 = 0 then bn2 (f_X7_refuse q 1 μ) (fun v27 μ28 => (some (v27, μ28))) else (rd 470 (μ (q + 1)) 466).bind (fun v2 => (if v2 = 0 then bn2 (f_X7_refuse q 2 μ) (fun v25 μ26 => (some (v25, μ26))) else (rd 470 (μ (q + 1)) 467).bind (fun v3 => (if (0 : Int32) ≤ v3 then (f_X7_current q μ).bind (fun v4 => (f_X7_ofRoot q v4 0 μ).bind (fun v5 => (f_X7_current q μ).bind (fun v6 => (if a1 = 0 then (rd 470 (μ (q + 1)) ((448 + (3 * (1 - v6))) + 2)).bind (fun v22 => f_X7_doCommit_b96 q a1 (v5 + 1) (448 + (3 * (1 - v6))) v22 ((448 + (3 * (1 - v6))) + 2) μ) else f_X7_doCommit_b96 q a1 (v5 + 1) (448 + (3 * (1 - v6))) 0 ((448 + (3 * (1 - v6))) + 2) μ)))) else bn2 (f_X7_drops q μ) (fun v23 μ24 => (some (v23, μ24)))))))))
def f_X7_commit (q : Nat) (a1 : Int32) (μ : Mem) : Option (Int32 × Mem) := (f_X7_hold q μ).bind (fun μ1 => bn2 (f_X7_doCommit q a1 μ1) (fun v2 μ3 => bn2 (f_X7_ends q v2 μ3) (fun v4 μ5 => (some (v4, μ5)))))
def f_X7_doAbort_b23 (q : Nat) (s0 : Int32) (μ : Mem) : Option (Int32 × Mem) := (some (s0, μ))
def f_X7_doAbort (q : Nat) (μ : Mem) : Option (Int32 × Mem) := (rd 470 (μ (q + 1)) 466).bind (fun v1 => (if v1 = 0 then bn2 (f_X7_refuse q 1 μ) (fun v4 μ5 => f_X7_doAbort_b23 q v4 μ5) else bn2 (f_X7_drops q μ) (fun v2 μ3 => f_X7_doAbort_b23 q v2 μ3)))
def f_X7_abort (q : Nat) (μ : Mem) : Option (Int32 × Mem) := (f_X7_hold q μ).bind (fun μ1 => bn2 (f_X7_doAbort q μ1) (fun v2 μ3 => bn2 (f_X7_ends q v2 μ3) (fun v4 μ5 => (some (v4, μ5)))))
def f_X7_doOpen_b23 (q : Nat) (x1 : Int32) (μ : Mem) : Option (Int32 × Mem) := (if x1 = 4 then bn2 (f_X7_refuse q 1 μ) (fun v7 μ8 => (some (v7, μ8))) else (wr μ (q + 1) 470 ((454 + (3 * x1)) + 0) 1).bind (fun μ1 => (f_X7_current q μ1).bind (fun v2 => (f_X7_ofRoot q v2 0 μ1).bind (fun v3 => (wr μ1 (q + 1) 470 ((454 + (3 * x1)) + 1) v3).bind (fun μ4 => (f_X7_now q μ4).bind (fun v5 => (wr μ4 (q + 1) 470 ((454 + (3 * x1)) + 2) v5).bind (fun μ6 => (some (x1, μ6)))))))))
def f_X7_doOpen_b2 (q : Nat)  : Nat → Int32 → Mem → Option (Int32 × Mem)
  | 0, _, _ => none
  | fuel2 + 1, x1, μ => (if 4 ≤ x1 then f_X7_doOpen_b23 q x1 μ else (f_X7_ofReader q x1 0 μ).bind (fun v9 => (if v9 = 1 then f_X7_doOpen_b2 q fuel2 (x1 + 1) μ else f_X7_doOpen_b23 q x1 μ)))
def f_X7_doOpen (q : Nat) (μ : Mem) : Option (Int32 × Mem) := f_X7_doOpen_b2 q FU 0 μ
def f_X7_open (q : Nat) (μ : Mem) : Option (Int32 × Mem) := (f_X7_hold q μ).bind (fun μ1 => bn2 (f_X7_doOpen q μ1) (fun v2 μ3 => bn2 (f_X7_ends q v2 μ3) (fun v4 μ5 => (some (v4, μ5)))))
def f_X7_freedToDig_b24 (q : Nat) (k4 : Int32 → Int32 → Mem → Option Int32) (x2 : Int32) (s0 : Int32) (s1 : Int32) (μ : Mem) : Option Int32 := k4 (s1 + s0) (x2 + 1) μ
def f_X7_freedToDig_b4 (q : Nat)  : Nat → Int32 → Int32 → Mem → Option Int32
  | 0, _, _, _ => none
  | fuel4 + 1, x1, x2, μ => (if 32 ≤ x2 then (some x1) else (f_X7_canBeDug q x2 μ).bind (fun v1 => (if v1 = 0 then f_X7_freedToDig_b24 q (f_X7_freedToDig_b4 q fuel4) x2 0 x1 μ else f_X7_freedToDig_b24 q (f_X7_freedToDig_b4 q fuel4) x2 1 x1 μ)))
def f_X7_freedToDig (q : Nat) (μ : Mem) : Option Int32 := f_X7_freedToDig_b4 q FU 0 0 μ
def f_X7_doClose_b37 (q : Nat)  : Nat → Int32 → Int32 → Int32 → Mem → Option (Int32 × Mem)
  | 0, _, _, _, _ => none
  | fuel37 + 1, x1, x2, x3, μ => (if 3 ≤ x3 then (f_X7_freedToDig q μ).bind (fun v4 => (some (v4 - x2, μ))) else (wr μ (q + 1) 470 ((454 + (3 * x1)) + x3) 0).bind (fun μ5 => f_X7_doClose_b37 q fuel37 x1 x2 (x3 + 1) μ5))
def f_X7_doClose (q : Nat) (a1 : Int32) (μ : Mem) : Option (Int32 × Mem) := (f_X7_in a1 0 3).bind (fun v1 => (if v1 = 0 then bn2 (f_X7_refuse q 1 μ) (fun v8 μ9 => (some (v8, μ9))) else (f_X7_ofReader q a1 0 μ).bind (fun v2 => (if v2 = 0 then bn2 (f_X7_refuse q 2 μ) (fun v6 μ7 => (some (v6, μ7))) else (f_X7_freedToDig q μ).bind (fun v3 => f_X7_doClose_b37 q FU a1 v3 0 μ)))))
def f_X7_close (q : Nat) (a1 : Int32) (μ : Mem) : Option (Int32 × Mem) := (f_X7_hold q μ).bind (fun μ1 => bn2 (f_X7_doClose q a1 μ1) (fun v2 μ3 => bn2 (f_X7_ends q v2 μ3) (fun v4 μ5 => (some (v4, μ5)))))
def f_X7_isKey (a0 : Int32) : Option Int32 := (f_X7_in a0 0 99).bind (fun v1 => (zr v1).bind (fun v2 => (some v2)))
def f_X7_isReader (a0 : Int32) : Option Int32 := (f_X7_in a0 0 3).bind (fun v1 => (zr v1).bind (fun v2 => (some v2)))
def f_X7_get_b29 (q : Nat) (s0 : Int32) (μ : Mem) : Option (Int32 × Mem) := (some (s0, μ))
def f_X7_get (q : Nat) (a1 : Int32) (μ : Mem) : Option (Int32 × Mem) := (pf μ q 6 0).bind (fun μ1 => (f_X7_isKey a1).bind (fun v2 => (if v2 = 0 then bn2 (f_X7_fails q 1 μ1) (fun v3 μ4 => f_X7_get_b29 q v3 μ4) else (f_X7_now q μ1).bind (fun v5 => (f_X7_valueBy q v5 a1 μ1).bind (fun v6 => f_X7_get_b29 q v6 μ1)))))
def f_X7_drafted_b51 (q : Nat) (s0 : Int32) (μ : Mem) : Option (Int32 × Mem) := (some (s0, μ))
def f_X7_drafted_b28 (q : Nat) (x1 : Int32) (s0 : Int32) (μ : Mem) : Option (Int32 × Mem) := (pf μ q 6 s0).bind (fun μ3 => (if (μ3 q 6) = 0 then (f_X7_drafts q μ3).bind (fun v4 => (f_X7_valueBy q v4 x1 μ3).bind (fun v5 => f_X7_drafted_b51 q v5 μ3)) else f_X7_drafted_b51 q 0 μ3))
def f_X7_drafted (q : Nat) (a1 : Int32) (μ : Mem) : Option (Int32 × Mem) := (f_X7_isKey a1).bind (fun v1 => (if v1 = 0 then f_X7_drafted_b28 q a1 1 μ else (rd 470 (μ (q + 1)) 466).bind (fun v2 => (if v2 = 0 then f_X7_drafted_b28 q a1 2 μ else f_X7_drafted_b28 q a1 0 μ))))
def f_X7_read_b62 (q : Nat) (s0 : Int32) (μ : Mem) : Option (Int32 × Mem) := (some (s0, μ))
def f_X7_read_b37 (q : Nat) (x1 : Int32) (x2 : Int32) (s0 : Int32) (μ : Mem) : Option (Int32 × Mem) := (pf μ q 6 s0).bind (fun μ4 => (if (μ4 q 6) = 0 then (f_X7_ofReader q x1 2 μ4).bind (fun v5 => (f_X7_valueBy q v5 x2 μ4).bind (fun v6 => f_X7_read_b62 q v6 μ4)) else f_X7_read_b62 q 0 μ4))
def f_X7_read (q : Nat) (a1 : Int32) (a2 : Int32) (μ : Mem) : Option (Int32 × Mem) := (f_X7_isReader a1).bind (fun v1 => (if v1 = 0 then f_X7_read_b37 q a1 a2 1 μ else (f_X7_isKey a2).bind (fun v2 => (if v2 = 0 then f_X7_read_b37 q a1 a2 2 μ else (f_X7_ofReader q a1 0 μ).bind (fun v3 => (if v3 = 0 then f_X7_read_b37 q a1 a2 3 μ else f_X7_read_b37 q a1 a2 0 μ))))))
def f_X7_tellEntry_b100 (q : Nat) (s0 : Int32) (μ : Mem) : Option Int32 := (some s0)
def f_X7_tellEntry_b5 (q : Nat)  : Nat → Int32 → Int32 → Int32 → Mem → Option Int32
  | 0, _, _, _, _ => none
  | fuel5 + 1, x2, x3, x4, μ => (f_X7_now q μ).bind (fun v1 => (f_X7_leafAt q v1 x4 μ).bind (fun v2 => (f_X7_of q v2 2 μ).bind (fun v3 => (if x3 < v3 then (f_X7_now q μ).bind (fun v4 => (f_X7_leafAt q v4 x4 μ).bind (fun v5 => (if x2 = 0 then (f_X7_keyAt q v5 x3 μ).bind (fun v7 => f_X7_tellEntry_b100 q v7 μ) else (if x2 = 1 then (f_X7_valueAt q v5 x3 μ).bind (fun v6 => f_X7_tellEntry_b100 q v6 μ) else (if x2 = 2 then f_X7_tellEntry_b100 q v5 μ else f_X7_tellEntry_b100 q x3 μ))))) else (f_X7_now q μ).bind (fun v8 => (f_X7_leafAt q v8 x4 μ).bind (fun v9 => (f_X7_of q v9 2 μ).bind (fun v10 => f_X7_tellEntry_b5 q fuel5 x2 (x3 - v10) (x4 + 1) μ)))))))
def f_X7_tellEntry (q : Nat) (a1 : Int32) (a2 : Int32) (μ : Mem) : Option Int32 := f_X7_tellEntry_b5 q FU a2 a1 0 μ
def f_X7_entry_b57 (q : Nat) (s0 : Int32) (μ : Mem) : Option (Int32 × Mem) := (some (s0, μ))
def f_X7_entry_b37 (q : Nat) (x1 : Int32) (x2 : Int32) (s0 : Int32) (μ : Mem) : Option (Int32 × Mem) := (pf μ q 6 s0).bind (fun μ5 => (if (μ5 q 6) = 0 then (f_X7_tellEntry q x1 x2 μ5).bind (fun v6 => f_X7_entry_b57 q v6 μ5) else f_X7_entry_b57 q 0 μ5))
def f_X7_entry (q : Nat) (a1 : Int32) (a2 : Int32) (μ : Mem) : Option (Int32 × Mem) := (f_X7_now q μ).bind (fun v1 => (f_X7_entriesBy q v1 μ).bind (fun v2 => (f_X7_in a1 0 (v2 - 1)).bind (fun v3 => (if v3 = 0 then f_X7_entry_b37 q a1 a2 1 μ else (f_X7_in a2 0 3).bind (fun v4 => (if v4 = 0 then f_X7_entry_b37 q a1 a2 2 μ else f_X7_entry_b37 q a1 a2 0 μ))))))
def f_X7_tellRoot_b44 (q : Nat) (s0 : Int32) (μ : Mem) : Option Int32 := (some s0)
def f_X7_tellRoot_b43 (q : Nat) (x3 : Int32) (μ : Mem) : Option Int32 := f_X7_tellRoot_b44 q x3 μ
def f_X7_tellRoot_b27 (q : Nat) (x2 : Int32) (s0 : Int32) (μ : Mem) : Option Int32 := (if x2 = 1 then (if (0 : Int32) ≤ s0 then f_X7_tellRoot_b43 q s0 μ else f_X7_tellRoot_b44 q (-1000) μ) else f_X7_tellRoot_b43 q s0 μ)
def f_X7_tellRoot (q : Nat) (a1 : Int32) (a2 : Int32) (μ : Mem) : Option Int32 := (if a2 = 3 then (f_X7_current q μ).bind (fun v2 => (if v2 = a1 then f_X7_tellRoot_b27 q a2 1 μ else f_X7_tellRoot_b27 q a2 0 μ)) else (f_X7_ofRoot q a1 a2 μ).bind (fun v1 => f_X7_tellRoot_b27 q a2 v1 μ))
def f_X7_root_b48 (q : Nat) (s0 : Int32) (μ : Mem) : Option (Int32 × Mem) := (some (s0, μ))
def f_X7_root_b28 (q : Nat) (x1 : Int32) (x2 : Int32) (s0 : Int32) (μ : Mem) : Option (Int32 × Mem) := (pf μ q 6 s0).bind (fun μ3 => (if (μ3 q 6) = 0 then (f_X7_tellRoot q x1 x2 μ3).bind (fun v4 => f_X7_root_b48 q v4 μ3) else f_X7_root_b48 q 0 μ3))
def f_X7_root (q : Nat) (a1 : Int32) (a2 : Int32) (μ : Mem) : Option (Int32 × Mem) := (f_X7_in a1 0 1).bind (fun v1 => (if v1 = 0 then f_X7_root_b28 q a1 a2 1 μ else (f_X7_in a2 0 3).bind (fun v2 => (if v2 = 0 then f_X7_root_b28 q a1 a2 2 μ else f_X7_root_b28 q a1 a2 0 μ))))
def f_X7_tellReader_b39 (q : Nat) (s0 : Int32) (μ : Mem) : Option Int32 := (some s0)
def f_X7_tellReader (q : Nat) (a1 : Int32) (a2 : Int32) (μ : Mem) : Option Int32 := (f_X7_ofReader q a1 0 μ).bind (fun v1 => (if v1 = 0 then (some (-1000)) else (if a2 = 2 then (f_X7_ofReader q a1 2 μ).bind (fun v3 => (f_X7_entriesBy q v3 μ).bind (fun v4 => f_X7_tellReader_b39 q v4 μ)) else (f_X7_ofReader q a1 (a2 + 1) μ).bind (fun v2 => f_X7_tellReader_b39 q v2 μ))))
def f_X7_reader_b46 (q : Nat) (s0 : Int32) (μ : Mem) : Option (Int32 × Mem) := (some (s0, μ))
def f_X7_reader_b26 (q : Nat) (x1 : Int32) (x2 : Int32) (s0 : Int32) (μ : Mem) : Option (Int32 × Mem) := (pf μ q 6 s0).bind (fun μ3 => (if (μ3 q 6) = 0 then (f_X7_tellReader q x1 x2 μ3).bind (fun v4 => f_X7_reader_b46 q v4 μ3) else f_X7_reader_b46 q 0 μ3))
def f_X7_reader (q : Nat) (a1 : Int32) (a2 : Int32) (μ : Mem) : Option (Int32 × Mem) := (f_X7_isReader a1).bind (fun v1 => (if v1 = 0 then f_X7_reader_b26 q a1 a2 1 μ else (f_X7_in a2 0 2).bind (fun v2 => (if v2 = 0 then f_X7_reader_b26 q a1 a2 2 μ else f_X7_reader_b26 q a1 a2 0 μ))))
def f_X7_tellBed_b75 (q : Nat) (s0 : Int32) (μ : Mem) : Option Int32 := (some s0)
def f_X7_tellBed_b92 (q : Nat) (s0 : Int32) (μ : Mem) : Option Int32 := (some s0)
def f_X7_tellBed_b115 (q : Nat) (s0 : Int32) (μ : Mem) : Option Int32 := (some s0)
def f_X7_tellBed_b129 (q : Nat) (s0 : Int32) (μ : Mem) : Option Int32 := (some s0)
def f_X7_tellBed_b14 (q : Nat) (x1 : Int32) (x2 : Int32) (s0 : Int32) (μ : Mem) : Option Int32 := (if x2 = 0 then (f_X7_of q x1 0 μ).bind (fun v2 => (some v2)) else (if x2 = 1 then (if s0 = 0 then (f_X7_of q x1 1 μ).bind (fun v3 => f_X7_tellBed_b75 q v3 μ) else f_X7_tellBed_b75 q (-1000) μ) else (if x2 = 2 then (if s0 = 0 then (f_X7_of q x1 2 μ).bind (fun v4 => f_X7_tellBed_b92 q v4 μ) else f_X7_tellBed_b92 q (-1000) μ) else (if x2 = 3 then (f_X7_of q x1 0 μ).bind (fun v5 => (if v5 = 2 then (f_X7_of q x1 3 μ).bind (fun v6 => f_X7_tellBed_b115 q v6 μ) else f_X7_tellBed_b115 q (-1000) μ)) else (if x2 = 4 then (f_X7_canBeDug q x1 μ).bind (fun v7 => (if v7 = 0 then f_X7_tellBed_b129 q 0 μ else f_X7_tellBed_b129 q 1 μ)) else ((f_X7_of q x1 4 μ).bind (fun v8 => (some v8))))))))
def f_X7_tellBed (q : Nat) (a1 : Int32) (a2 : Int32) (μ : Mem) : Option Int32 := (f_X7_of q a1 0 μ).bind (fun v1 => (if v1 = 0 then f_X7_tellBed_b14 q a1 a2 1 μ else f_X7_tellBed_b14 q a1 a2 0 μ))
def f_X7_bed_b49 (q : Nat) (s0 : Int32) (μ : Mem) : Option (Int32 × Mem) := (some (s0, μ))
def f_X7_bed_b29 (q : Nat) (x1 : Int32) (x2 : Int32) (s0 : Int32) (μ : Mem) : Option (Int32 × Mem) := (pf μ q 6 s0).bind (fun μ3 => (if (μ3 q 6) = 0 then (f_X7_tellBed q x1 x2 μ3).bind (fun v4 => f_X7_bed_b49 q v4 μ3) else f_X7_bed_b49 q 0 μ3))
def f_X7_bed (q : Nat) (a1 : Int32) (a2 : Int32) (μ : Mem) : Option (Int32 × Mem) := (f_X7_in a1 0 31).bind (fun v1 => (if v1 = 0 then f_X7_bed_b29 q a1 a2 1 μ else (f_X7_in a2 0 5).bind (fun v2 => (if v2 = 0 then f_X7_bed_b29 q a1 a2 2 μ else f_X7_bed_b29 q a1 a2 0 μ))))
def f_X7_bedsWith_b29 (q : Nat) (k5 : Int32 → Int32 → Int32 → Int32 → Mem → Option Int32) (x1 : Int32) (x2 : Int32) (x4 : Int32) (s0 : Int32) (s1 : Int32) (μ : Mem) : Option Int32 := k5 x1 x2 (s1 + s0) (x4 + 1) μ
def f_X7_bedsWith_b5 (q : Nat)  : Nat → Int32 → Int32 → Int32 → Int32 → Mem → Option Int32
  | 0, _, _, _, _, _ => none
  | fuel5 + 1, x1, x2, x3, x4, μ => (if 32 ≤ x4 then (some x3) else (f_X7_of q x4 x1 μ).bind (fun v1 => (if v1 = x2 then f_X7_bedsWith_b29 q (f_X7_bedsWith_b5 q fuel5) x1 x2 x4 1 x3 μ else f_X7_bedsWith_b29 q (f_X7_bedsWith_b5 q fuel5) x1 x2 x4 0 x3 μ)))
def f_X7_bedsWith (q : Nat) (a1 : Int32) (a2 : Int32) (μ : Mem) : Option Int32 := f_X7_bedsWith_b5 q FU a1 a2 0 0 μ
def f_X7_openReaders_b4 (q : Nat)  : Nat → Int32 → Int32 → Mem → Option Int32
  | 0, _, _, _ => none
  | fuel4 + 1, x1, x2, μ => (if 4 ≤ x2 then (some x1) else (f_X7_ofReader q x2 0 μ).bind (fun v1 => f_X7_openReaders_b4 q fuel4 (x1 + v1) (x2 + 1) μ))
def f_X7_openReaders (q : Nat) (μ : Mem) : Option Int32 := f_X7_openReaders_b4 q FU 0 0 μ
def f_X7_sumOfValues_b4 (q : Nat)  : Nat → Int32 → Int32 → Mem → Option Int32
  | 0, _, _, _ => none
  | fuel4 + 1, x1, x2, μ => (f_X7_now q μ).bind (fun v1 => (f_X7_entriesBy q v1 μ).bind (fun v2 => (if v2 ≤ x2 then (some x1) else (f_X7_tellEntry q x2 1 μ).bind (fun v3 => f_X7_sumOfValues_b4 q fuel4 (x1 + v3) (x2 + 1) μ))))
def f_X7_sumOfValues (q : Nat) (μ : Mem) : Option Int32 := f_X7_sumOfValues_b4 q FU 0 0 μ
def f_X7_tell (q : Nat) (a1 : Int32) (μ : Mem) : Option Int32 := (if a1 = 0 then (f_X7_bedsWith q 0 a1 μ).bind (fun v1 => (some v1)) else (if a1 = 1 then (f_X7_bedsWith q 0 a1 μ).bind (fun v2 => (some v2)) else (if a1 = 2 then (f_X7_bedsWith q 0 a1 μ).bind (fun v3 => (some v3)) else (if a1 = 3 then (f_X7_freedToDig q μ).bind (fun v4 => (some v4)) else (if a1 = 4 then (f_X7_needed q (-1) μ).bind (fun v5 => (some v5)) else (if a1 = 5 then (f_X7_now q μ).bind (fun v6 => (f_X7_entriesBy q v6 μ).bind (fun v7 => (some v7))) else (if a1 = 6 then (f_X7_now q μ).bind (fun v8 => (f_X7_of q v8 2 μ).bind (fun v9 => (some v9))) else (if a1 = 7 then (f_X7_openReaders q μ).bind (fun v10 => (some v10)) else (if a1 = 8 then (rd 470 (μ (q + 1)) 466).bind (fun v11 => (some v11)) else (if a1 = 9 then (f_X7_bedsWith q 4 1 μ).bind (fun v12 => (some v12)) else (if a1 = 10 then (f_X7_bedsWith q 5 1 μ).bind (fun v13 => (some v13)) else (if a1 = 11 then (rd 470 (μ (q + 1)) 468).bind (fun v14 => (some v14)) else (if a1 = 12 then (rd 470 (μ (q + 1)) 469).bind (fun v15 => (some v15)) else (if a1 = 13 then (f_X7_sumOfValues q μ).bind (fun v16 => (some v16)) else ((some (μ q 5)))))))))))))))))
def f_X7_whole_b28 (q : Nat) (s0 : Int32) (μ : Mem) : Option (Int32 × Mem) := (some (s0, μ))
def f_X7_whole (q : Nat) (a1 : Int32) (μ : Mem) : Option (Int32 × Mem) := (pf μ q 6 0).bind (fun μ1 => (f_X7_in a1 0 14).bind (fun v2 => (if v2 = 0 then bn2 (f_X7_fails q 1 μ1) (fun v3 μ4 => f_X7_whole_b28 q v3 μ4) else (f_X7_tell q a1 μ1).bind (fun v5 => f_X7_whole_b28 q v5 μ1))))
def f_X7_tellNext_b16 (q : Nat) (s0 : Int32) (μ : Mem) : Option Int32 := (some s0)
def f_X7_tellNext (q : Nat) (μ : Mem) : Option Int32 := (f_X7_nextNow q μ).bind (fun v1 => (if (0 : Int32) ≤ v1 then f_X7_tellNext_b16 q v1 μ else f_X7_tellNext_b16 q (-1000) μ))
def f_X7_nextBed (q : Nat) (μ : Mem) : Option (Int32 × Mem) := (pf μ q 6 0).bind (fun μ1 => (f_X7_tellNext q μ1).bind (fun v2 => (some (v2, μ1))))
def f_X7_bedsFor_b47 (q : Nat) (s0 : Int32) (μ : Mem) : Option (Int32 × Mem) := (some (s0, μ))
def f_X7_bedsFor_b28 (q : Nat) (x1 : Int32) (s0 : Int32) (μ : Mem) : Option (Int32 × Mem) := (pf μ q 6 s0).bind (fun μ3 => (if (μ3 q 6) = 0 then (f_X7_bedsOf q x1 μ3).bind (fun v4 => f_X7_bedsFor_b47 q v4 μ3) else f_X7_bedsFor_b47 q 0 μ3))
def f_X7_bedsFor (q : Nat) (a1 : Int32) (μ : Mem) : Option (Int32 × Mem) := (f_X7_isKey a1).bind (fun v1 => (if v1 = 0 then f_X7_bedsFor_b28 q a1 1 μ else (rd 470 (μ (q + 1)) 466).bind (fun v2 => (if v2 = 0 then f_X7_bedsFor_b28 q a1 2 μ else f_X7_bedsFor_b28 q a1 0 μ))))
def f_X7_reason_b70 (q : Nat) (s0 : Int32) (μ : Mem) : Option (Int32 × Mem) := (some (s0, μ))
def f_X7_reason_b28 (q : Nat) (x1 : Int32) (s0 : Int32) (μ : Mem) : Option (Int32 × Mem) := (pf μ q 6 s0).bind (fun μ3 => (if (μ3 q 6) ≤ 0 then (f_X7_bedsOf q x1 μ3).bind (fun v4 => (if v4 = (-1000) then f_X7_reason_b70 q 1 μ3 else (f_X7_manyToDig q μ3).bind (fun v5 => (if v4 ≤ v5 then f_X7_reason_b70 q 0 μ3 else f_X7_reason_b70 q 2 μ3)))) else (some (0, μ3))))
def f_X7_reason (q : Nat) (a1 : Int32) (μ : Mem) : Option (Int32 × Mem) := (f_X7_isKey a1).bind (fun v1 => (if v1 = 0 then f_X7_reason_b28 q a1 1 μ else (rd 470 (μ (q + 1)) 466).bind (fun v2 => (if v2 = 0 then f_X7_reason_b28 q a1 2 μ else f_X7_reason_b28 q a1 0 μ))))
def f_X7_neededWithout_b45 (q : Nat) (s0 : Int32) (μ : Mem) : Option (Int32 × Mem) := (some (s0, μ))
def f_X7_neededWithout_b26 (q : Nat) (x1 : Int32) (s0 : Int32) (μ : Mem) : Option (Int32 × Mem) := (pf μ q 6 s0).bind (fun μ3 => (if (μ3 q 6) = 0 then (f_X7_needed q x1 μ3).bind (fun v4 => f_X7_neededWithout_b45 q v4 μ3) else f_X7_neededWithout_b45 q 0 μ3))
def f_X7_neededWithout (q : Nat) (a1 : Int32) (μ : Mem) : Option (Int32 × Mem) := (f_X7_isReader a1).bind (fun v1 => (if v1 = 0 then f_X7_neededWithout_b26 q a1 1 μ else (f_X7_ofReader q a1 0 μ).bind (fun v2 => (if v2 = 0 then f_X7_neededWithout_b26 q a1 2 μ else f_X7_neededWithout_b26 q a1 0 μ))))
def f_X7_changedSince_b83 (q : Nat) (x2 : Int32) (μ : Mem) : Option (Int32 × Mem) := (some (x2, μ))
def f_X7_changedSince_b75 (q : Nat) (k33 : Int32 → Int32 → Int32 → Mem → Option (Int32 × Mem)) (x1 : Int32) (x3 : Int32) (s0 : Int32) (s1 : Int32) (μ : Mem) : Option (Int32 × Mem) := k33 x1 (s1 + s0) (x3 + 1) μ
def f_X7_changedSince_b33 (q : Nat)  : Nat → Int32 → Int32 → Int32 → Mem → Option (Int32 × Mem)
  | 0, _, _, _, _ => none
  | fuel33 + 1, x1, x2, x3, μ => (if 100 ≤ x3 then f_X7_changedSince_b83 q x2 μ else (if (μ q 6) = 0 then (f_X7_now q μ).bind (fun v4 => (f_X7_valueBy q v4 x3 μ).bind (fun v5 => (f_X7_ofReader q x1 2 μ).bind (fun v6 => (f_X7_valueBy q v6 x3 μ).bind (fun v7 => (if v5 = v7 then f_X7_changedSince_b75 q (f_X7_changedSince_b33 q fuel33) x1 x3 0 x2 μ else f_X7_changedSince_b75 q (f_X7_changedSince_b33 q fuel33) x1 x3 1 x2 μ))))) else f_X7_changedSince_b83 q x2 μ))
def f_X7_changedSince_b26 (q : Nat) (x1 : Int32) (s0 : Int32) (μ : Mem) : Option (Int32 × Mem) := (pf μ q 6 s0).bind (fun μ3 => f_X7_changedSince_b33 q FU x1 0 0 μ3)
def f_X7_changedSince (q : Nat) (a1 : Int32) (μ : Mem) : Option (Int32 × Mem) := (f_X7_isReader a1).bind (fun v1 => (if v1 = 0 then f_X7_changedSince_b26 q a1 1 μ else (f_X7_ofReader q a1 0 μ).bind (fun v2 => (if v2 = 0 then f_X7_changedSince_b26 q a1 2 μ else f_X7_changedSince_b26 q a1 0 μ))))
def f_X7_type (q : Nat) (a1 : Int32) (μ : Mem) : Option (Int32 × Mem) := (pf μ q 6 0).bind (fun μ1 => (f_X7_in a1 0 127).bind (fun v2 => (if v2 = 0 then bn2 (f_X7_fails q 1 μ1) (fun v7 μ8 => (some (v7, μ8))) else (if (μ1 q 5) = 150 then bn2 (f_X7_fails q 2 μ1) (fun v5 μ6 => (some (v5, μ6))) else (wr μ1 (q + 4) 150 (μ1 q 5) a1).bind (fun μ3 => (pf μ3 q 5 ((μ3 q 5) + 1)).bind (fun μ4 => (some (μ4 q 5, μ4))))))))
def f_X7_clearCommands (q : Nat) (μ : Mem) : Option (Int32 × Mem) := (pf μ q 6 0).bind (fun μ1 => (pf μ1 q 5 0).bind (fun μ2 => (some (μ1 q 5, μ2))))
def f_X7_here_b24 (q : Nat) (s0 : Int32) (μ : Mem) : Option Int32 := (some s0)
def f_X7_here (q : Nat) (μ : Mem) : Option Int32 := (if (μ q 5) ≤ (μ q 9) then f_X7_here_b24 q (-1) μ else (rd 150 (μ (q + 4)) (μ q 9)).bind (fun v1 => f_X7_here_b24 q v1 μ))
def f_X7_spaces_b0 (q : Nat)  : Nat → Mem → Option Mem
  | 0, _ => none
  | fuel0 + 1, μ => (f_X7_here q μ).bind (fun v1 => (if v1 = 32 then (pf μ q 9 ((μ q 9) + 1)).bind (fun μ2 => f_X7_spaces_b0 q fuel0 μ2) else (some μ)))
def f_X7_spaces (q : Nat) (μ : Mem) : Option Mem := f_X7_spaces_b0 q FU μ
def f_X7_meaning_b87  (s0 : Int32)  : Option Int32 := (some s0)
def f_X7_meaning (a0 : Int64) : Option Int32 := (if (lg_cmp a0 2268462) = 0 then f_X7_meaning_b87 1 else (if (lg_cmp a0 17076) = 0 then f_X7_meaning_b87 2 else (if (lg_cmp a0 150000) = 0 then f_X7_meaning_b87 3 else (if (lg_cmp a0 116831540) = 0 then f_X7_meaning_b87 4 else (if (lg_cmp a0 1130068) = 0 then f_X7_meaning_b87 5 else (if (lg_cmp a0 508078) = 0 then f_X7_meaning_b87 6 else (if (lg_cmp a0 3554917) = 0 then f_X7_meaning_b87 7 else f_X7_meaning_b87 0)))))))
def f_X7_readWord_b104 (q : Nat) (s0 : Int32) (μ : Mem) : Option (Int32 × Mem) := (zr s0).bind (fun v6 => (some (v6, μ)))
def f_X7_readWord_b89 (q : Nat) (s0 : Int32) (μ : Mem) : Option (Int32 × Mem) := (pf μ q 9 s0).bind (fun μ5 => (if (μ5 q 10) = 0 then f_X7_readWord_b104 q 0 μ5 else f_X7_readWord_b104 q 1 μ5))
def f_X7_readWord_b51 (q : Nat) (k7 : Int32 → Int64 → Mem → Option (Int32 × Mem)) (x1 : Int32) (s0 : Int64) (μ : Mem) : Option (Int32 × Mem) := (pf μ q 9 ((μ q 9) + 1)).bind (fun μ7 => k7 x1 s0 μ7)
def f_X7_readWord_b7 (q : Nat)  : Nat → Int32 → Int64 → Mem → Option (Int32 × Mem)
  | 0, _, _, _ => none
  | fuel7 + 1, x1, x2, μ => (f_X7_here q μ).bind (fun v1 => (f_X7_in v1 97 122).bind (fun v2 => (if v2 = 0 then (f_X7_meaning x2).bind (fun v3 => (pf μ q 10 v3).bind (fun μ4 => (if (μ4 q 10) = 0 then f_X7_readWord_b89 q x1 μ4 else f_X7_readWord_b89 q (μ4 q 9) μ4))) else (if (x1 + 6) ≤ (μ q 9) then f_X7_readWord_b51 q (f_X7_readWord_b7 q fuel7) x1 0 μ else (f_X7_here q μ).bind (fun v8 => f_X7_readWord_b51 q (f_X7_readWord_b7 q fuel7) x1 (((32 * x2) + v8.toInt64) - 96) μ)))))
def f_X7_readWord (q : Nat) (μ : Mem) : Option (Int32 × Mem) := f_X7_readWord_b7 q FU (μ q 9) 0 μ
def f_X7_readNumber_b100 (q : Nat) (s0 : Int32) (μ : Mem) : Option (Int32 × Mem) := (zr s0).bind (fun v6 => (some (v6, μ)))
def f_X7_readNumber_b87 (q : Nat) (x2 : Int32) (μ : Mem) : Option (Int32 × Mem) := (if (μ q 9) ≤ x2 then f_X7_readNumber_b100 q 0 μ else f_X7_readNumber_b100 q 1 μ)
def f_X7_readNumber_b27 (q : Nat)  : Nat → Int32 → Int32 → Mem → Option (Int32 × Mem)
  | 0, _, _, _ => none
  | fuel27 + 1, x1, x2, μ => (f_X7_here q μ).bind (fun v4 => (f_X7_in v4 48 57).bind (fun v5 => (if v5 = 0 then f_X7_readNumber_b87 q x2 μ else (if (x2 + 3) ≤ (μ q 9) then f_X7_readNumber_b87 q x2 μ else (rd 2 (μ (q + 6)) x1).bind (fun v7 => (f_X7_here q μ).bind (fun v8 => (wr μ (q + 6) 2 x1 (((10 * v7) + v8) - 48)).bind (fun μ9 => (pf μ9 q 9 ((μ9 q 9) + 1)).bind (fun μ10 => f_X7_readNumber_b27 q fuel27 x1 x2 μ10))))))))
def f_X7_readNumber (q : Nat) (a1 : Int32) (μ : Mem) : Option (Int32 × Mem) := (f_X7_here q μ).bind (fun v1 => (if v1 = 32 then (f_X7_spaces q μ).bind (fun μ2 => (wr μ2 (q + 6) 2 a1 0).bind (fun μ3 => f_X7_readNumber_b27 q FU a1 (μ2 q 9) μ3)) else (some (0, μ))))
def f_X7_readCommand_b108 (q : Nat) (x2 : Int32) (s0 : Int32) (s1 : Int32) (μ : Mem) : Option (Int32 × Mem) := (pf μ q 9 (s1 + s0)).bind (fun μ5 => (zr x2).bind (fun v6 => (some (v6, μ5))))
def f_X7_readCommand_b93 (q : Nat) (s0 : Int32) (μ : Mem) : Option (Int32 × Mem) := (if s0 = 0 then f_X7_readCommand_b108 q s0 0 (μ q 9) μ else f_X7_readCommand_b108 q s0 1 (μ q 9) μ)
def f_X7_readCommand_b54 (q : Nat)  : Nat → Int32 → Int32 → Mem → Option (Int32 × Mem)
  | 0, _, _, _ => none
  | fuel54 + 1, x1, x2, μ => (if x1 ≤ x2 then (f_X7_spaces q μ).bind (fun μ3 => (f_X7_here q μ3).bind (fun v4 => (if v4 = 59 then f_X7_readCommand_b93 q 1 μ3 else f_X7_readCommand_b93 q 0 μ3))) else bn2 (f_X7_readNumber q x2 μ) (fun v7 μ8 => (if v7 = 0 then (some (0, μ8)) else f_X7_readCommand_b54 q fuel54 x1 (x2 + 1) μ8)))
def f_X7_readCommand_b51 (q : Nat) (s0 : Int32) (μ : Mem) : Option (Int32 × Mem) := f_X7_readCommand_b54 q FU s0 0 μ
def f_X7_readCommand_b46 (q : Nat)  (μ : Mem) : Option (Int32 × Mem) := f_X7_readCommand_b51 q 1 μ
def f_X7_readCommand (q : Nat) (μ : Mem) : Option (Int32 × Mem) := bn2 (f_X7_readWord q μ) (fun v1 μ2 => (if v1 = 0 then (some (0, μ2)) else (if (μ2 q 10) = 2 then f_X7_readCommand_b51 q 2 μ2 else (if (μ2 q 10) = 3 then f_X7_readCommand_b46 q μ2 else (if (μ2 q 10) = 4 then f_X7_readCommand_b46 q μ2 else (if (μ2 q 10) = 7 then f_X7_readCommand_b46 q μ2 else f_X7_readCommand_b51 q 0 μ2))))))
def f_X7_does (q : Nat) (μ : Mem) : Option (Int32 × Mem) := (if (μ q 10) = 1 then bn2 (f_X7_doBegin q μ) (fun v1 μ2 => (some (v1, μ2))) else (if (μ q 10) = 2 then (rd 2 (μ (q + 6)) 0).bind (fun v3 => (rd 2 (μ (q + 6)) 1).bind (fun v4 => bn2 (f_X7_doPut q v3 v4 μ) (fun v5 μ6 => (some (v5, μ6))))) else (if (μ q 10) = 3 then (rd 2 (μ (q + 6)) 0).bind (fun v7 => bn2 (f_X7_doRemove q v7 μ) (fun v8 μ9 => (some (v8, μ9)))) else (if (μ q 10) = 4 then (rd 2 (μ (q + 6)) 0).bind (fun v10 => bn2 (f_X7_doCommit q v10 μ) (fun v11 μ12 => (some (v11, μ12)))) else (if (μ q 10) = 5 then bn2 (f_X7_doAbort q μ) (fun v13 μ14 => (some (v13, μ14))) else (if (μ q 10) = 6 then bn2 (f_X7_doOpen q μ) (fun v15 μ16 => (some (v15, μ16))) else ((rd 2 (μ (q + 6)) 0).bind (fun v17 => bn2 (f_X7_doClose q v17 μ) (fun v18 μ19 => (some (v18, μ19)))))))))))
def f_X7_runCommands_b116 (q : Nat) (x1 : Int32) (μ : Mem) : Option (Int32 × Mem) := (pf μ q 7 0).bind (fun μ7 => bn2 (f_X7_ends q x1 μ7) (fun v8 μ9 => (some (v8, μ9))))
def f_X7_runCommands_b107 (q : Nat) (k62 : Int32 → Mem → Option (Int32 × Mem)) (s0 : Int32) (s1 : Int32) (μ : Mem) : Option (Int32 × Mem) := (f_X7_spaces q μ).bind (fun μ14 => k62 (s1 + s0) μ14)
def f_X7_runCommands_b106 (q : Nat) (k62 : Int32 → Mem → Option (Int32 × Mem)) (s0 : Int32) (μ : Mem) : Option (Int32 × Mem) := f_X7_runCommands_b107 q k62 0 s0 μ
def f_X7_runCommands_b62 (q : Nat)  : Nat → Int32 → Mem → Option (Int32 × Mem)
  | 0, _, _ => none
  | fuel62 + 1, x1, μ => (if (μ q 5) ≤ (μ q 9) then f_X7_runCommands_b116 q x1 μ else (if (μ q 7) = 0 then bn2 (f_X7_readCommand q μ) (fun v10 μ11 => bn2 (f_X7_does q μ11) (fun v12 μ13 => (if v10 = 0 then f_X7_runCommands_b106 q (f_X7_runCommands_b62 q fuel62) x1 μ13 else (if (μ13 q 7) = 0 then f_X7_runCommands_b107 q (f_X7_runCommands_b62 q fuel62) 1 x1 μ13 else f_X7_runCommands_b106 q (f_X7_runCommands_b62 q fuel62) x1 μ13)))) else f_X7_runCommands_b116 q x1 μ))
def f_X7_runCommands_b14 (q : Nat)  : Nat → Mem → Option (Int32 × Mem)
  | 0, _ => none
  | fuel14 + 1, μ => (if (μ q 5) ≤ (μ q 9) then (f_X7_hold q μ).bind (fun μ4 => (pf μ4 q 9 0).bind (fun μ5 => (f_X7_spaces q μ5).bind (fun μ6 => f_X7_runCommands_b62 q FU 0 μ6))) else bn2 (f_X7_readCommand q μ) (fun v15 μ16 => (if v15 = 0 then (some ((-10) - (μ16 q 9), μ16)) else (f_X7_spaces q μ16).bind (fun μ17 => f_X7_runCommands_b14 q fuel14 μ17))))
def f_X7_runCommands (q : Nat) (μ : Mem) : Option (Int32 × Mem) := (pf μ q 6 0).bind (fun μ1 => (pf μ1 q 9 0).bind (fun μ2 => (f_X7_spaces q μ2).bind (fun μ3 => f_X7_runCommands_b14 q FU μ3)))
def f_X7_undo (q : Nat) (μ : Mem) : Option (Int32 × Mem) := (pf μ q 6 0).bind (fun μ1 => (if (μ1 q 3) = 0 then bn2 (f_X7_fails q 1 μ1) (fun v4 μ5 => (some (v4, μ5))) else (pf μ1 q 3 ((μ1 q 3) - 1)).bind (fun μ2 => (f_X7_bring (q + 3) 1880 (470 * (μ2 q 3)) (q + 1) 470 0 μ2).bind (fun μ3 => (some (μ3 q 3, μ3))))))
