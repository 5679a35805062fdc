/-! what stands outside of the worlds: links of nest mates, the commands and their texts, what a throw wants -/
section ENVS
def xIO : String := "java/lang/IndexOutOfBoundsException"
def xIA : String := "java/lang/IllegalArgumentException"
def xIS : String := "java/lang/IllegalStateException"
def exN (k : Int32) : String := if k = 1 then xIO else if k = 2 then xIA else xIS
def castL : List Cond := [.castable xIO xIO, .castable xIA xIA, .castable xIS xIS, .declares ⟨"java/lang/RuntimeException", "<init>", "(Ljava/lang/String;)V"⟩, .declares ⟨"java/lang/Exception", "<init>", "(Ljava/lang/String;)V"⟩, .declares ⟨"java/lang/Throwable", "<init>", "(Ljava/lang/String;)V"⟩]
def ENV (tC tS : Nat) (adE adK adV : Nat → Nat) (A : Nat → Prop) (U : State) (H : Heap) : Prop :=
  (∀ w ∈ nestL, va_Nw w U) ∧ (∀ w ∈ castL, va_Nw w U) ∧ (va_Nc xIS xIA U ∧ va_Nc xIS xIO U ∧ va_Nc xIA xIO U) ∧
  (tC = tC) ∧ (tS = tS) ∧ (adE = adE) ∧ (adK = adK) ∧ (adV = adV) ∧
  (vx_Zq Bundle.tN "UNASSIGNED_STACK" Bundle.steD A U H ∧ vx_Zq Bundle.tN "SUPPRESSED_SENTINEL" Bundle.listD A U H) ∧
  ∃ s1 s2 s3 : Nat, vk_R RX6 237 "there is no such thing" s1 U ∧ vk_R RX6 244 "an argument is out of its range" s2 U ∧ vk_R RX6 249 "the garden's state does not allow it" s3 U
def isNest : Cond → Bool
  | .methodLinkNest .. => true
  | .fieldLinkNest .. => true
  | _ => false
def isCast : Cond → Bool
  | .castable .. => true
  | .declares .. => true
  | _ => false
theorem nest_warm {s U : State} (hW : s.WarmedH U.vm) : ∀ w : Cond, isNest w = true → va_Nw w s → va_Nw w U := by
  intro w h hZ
  cases w <;> first | exact va_Nw.warmM hW hZ | exact va_Nw.warmF hW hZ | cases h
theorem cast_warm {s U : State} (hW : s.vm.Alike U.vm) : ∀ w : Cond, isCast w = true → va_Nw w s → va_Nw w U := by
  intro w h hZ
  cases w with
  | castable a b => exact va_tabs (A := #[]) (u := s.setVm U.vm) rfl rfl (by rw [Cond.castable_setVm hW]; exact hZ)
  | declares x => exact va_tabs (A := #[]) (u := s.setVm U.vm) rfl rfl (by rw [Cond.declares_setVm hW]; exact hZ)
  | _ => cases h
theorem nestL_ok : ∀ w ∈ nestL, isNest w = true := by decide +kernel
theorem castL_ok : ∀ w ∈ castL, isCast w = true := by decide +kernel
variable {tC tS : Nat} {adE adK adV : Nat → Nat} {A : Nat → Prop}
theorem ENV_moved {u U : State} {H : Heap} (hvm : u.vm.Alike U.vm) (hn : ∀ w ∈ nestL, va_Nw w U) (hk : ∀ (k : Nat) (tx : String) (a : Nat), vk_R RX6 k tx a u → vk_R RX6 k tx a U) (h : ENV tC tS adE adK adV A u H) : ENV tC tS adE adK adV A U H := by
  obtain ⟨-, h2, ⟨n1, n2, n3⟩, -, -, -, -, -, ⟨f1, f2⟩, s1, s2, s3, g1, g2, g3⟩ := h
  exact ⟨hn, fun w hw => cast_warm hvm w (castL_ok w hw) (h2 w hw), ⟨n1.moved hvm, n2.moved hvm, n3.moved hvm⟩, rfl, rfl, rfl, rfl, rfl, ⟨f1.moved hvm, f2.moved hvm⟩, s1, s2, s3, hk _ _ _ g1, hk _ _ _ g2, hk _ _ _ g3⟩
theorem ENV_ok : EnOK (ENV tC tS adE adK adV A) A := by
  refine ⟨fun s U H hW h => ?_, fun U g mk a H h => ?_, fun s H H1 h hq => ?_, fun s H h => h.1⟩
  · exact ENV_moved hW.alike (fun w hw => nest_warm hW w (nestL_ok w hw) (h.1 w hw)) (fun _ _ _ q => q.warm hW) h
  · refine ENV_moved (U := U.calling g mk a) (Vm.Alike.refl U.vm) (fun w hw => ?_) (fun _ _ _ q => q.same rfl) h
    have hw1 := nestL_ok w hw
    have h1 := h.1 w hw
    cases w <;> first | exact va_Nw.same rfl rfl h1 | cases hw1
  · obtain ⟨h1, h2, h3, h4, h5, h6, h7, h8, ⟨f1, f2⟩, h10⟩ := h
    exact ⟨h1, h2, h3, h4, h5, h6, h7, h8, ⟨f1.kept hq, f2.kept hq⟩, h10⟩
variable {p : Program} {l : Launch} {e : Env} {R : Room} {s : State} {m : MethodId} {args : Array Value} {below : List Frame} {meth : Method} {c : Code} {H : Heap} {locs : List Loc} {cells slots : Nat} {Q : State → Prop}
variable {cc : ByteArray} {nL : Nat} {Ts : List Cond} {own : String} {D : va_G} {cI cG cL : ClassId} {pc : Nat} {ls : Array Slot} {rest : List Value} {ws : va_W}
theorem Cx.env (X : Cx p s m args c cc nL Ts own D (tyl cI cG cL) A (ENV tC tS adE adK adV A)) : ENV tC tS adE adK adV A s s.heap := X.2.2.2
end ENVS
