/-! THE TABLE: every method by its number, as a function of the methods that it calls. -/
abbrev dFn : Type := dD → List Value → rm_H → Option dR
def dok (L : Nat) (xs : Nat → Int32) (zf : Value) (D : dD) (k : Nat) (p : rm_M × dFn) : Prop := ∀ (As : List Value) (h : rm_H) (r : dR), p.2 D As h = some r → dq L xs zf p.1 0 (lv_args 0 As) [] h (k + 1) r
def dE_0 (L : Nat) (xs : Nat → Int32) (zf : Value) (w : Nat) : List (rm_M × dFn) := [(ah_M1, fun _ _ _ => none), (ah_M1, fun D As h => f1 L xs zf D w As h), (ah_M1, fun _ _ _ => none), (ah_M3, fun D As h => f3 L xs zf D w As h), (ah_M4, fun D As h => f4 L xs zf D w As h), (ah_M5, fun D As h => f5 L xs zf D w As h), (ah_M6, fun D As h => f6 L xs zf D w As h), (ah_M7, fun D As h => f7 L xs zf D w As h), (ah_M8, fun D As h => f8 L xs zf D w As h), (ah_M9, fun D As h => f9 L xs zf D w As h), (ah_M10, fun D As h => f10 L xs zf D w As h), (ah_M11, fun D As h => f11 L xs zf D w As h), (ah_M12, fun D As h => f12 L xs zf D w As h), (ah_M13, fun D As h => f13 L xs zf D w As h), (ah_M14, fun D As h => f14 L xs zf D w As h), (ah_M15, fun D As h => f15 L xs zf D w As h), (ah_M16, fun D As h => f16 L xs zf D w As h), (ah_M17, fun D As h => f17 L xs zf D w As h), (ah_M18, fun D As h => f18 L xs zf D w As h), (ah_M19, fun D As h => f19 L xs zf D w As h), (ah_M20, fun D As h => f20 L xs zf D w As h), (ah_M21, fun D As h => f21 L xs zf D w As h), (ah_M22, fun D As h => f22 L xs zf D w As h), (ah_M23, fun D As h => f23 L xs zf D w As h), (ah_M24, fun D As h => f24 L xs zf D w As h), (ah_M25, fun D As h => f25 L xs zf D w As h)]
theorem dEo_0 {L : Nat} {xs : Nat → Int32} {zf : Value} {D : dD} {k : Nat} (w : Nat) (hD : dO L xs zf D k) (hz : zf.category = 1) : ∀ p ∈ dE_0 L xs zf w, dok L xs zf D k p := by
  unfold dE_0
  refine List.forall_mem_cons.mpr ⟨fun _ _ _ z => (by cases z), ?_⟩
  refine List.forall_mem_cons.mpr ⟨fun As h r z => d1 (w := w) hD hz As h r z, ?_⟩
  refine List.forall_mem_cons.mpr ⟨fun _ _ _ z => (by cases z), ?_⟩
  refine List.forall_mem_cons.mpr ⟨fun As h r z => d3 (w := w) hD hz As h r z, ?_⟩
  refine List.forall_mem_cons.mpr ⟨fun As h r z => d4 (w := w) hD hz As h r z, ?_⟩
  refine List.forall_mem_cons.mpr ⟨fun As h r z => d5 (w := w) hD hz As h r z, ?_⟩
  refine List.forall_mem_cons.mpr ⟨fun As h r z => d6 (w := w) hD hz As h r z, ?_⟩
  refine List.forall_mem_cons.mpr ⟨fun As h r z => d7 (w := w) hD hz As h r z, ?_⟩
  refine List.forall_mem_cons.mpr ⟨fun As h r z => d8 (w := w) hD hz As h r z, ?_⟩
  refine List.forall_mem_cons.mpr ⟨fun As h r z => d9 (w := w) hD hz As h r z, ?_⟩
  refine List.forall_mem_cons.mpr ⟨fun As h r z => d10 (w := w) hD hz As h r z, ?_⟩
  refine List.forall_mem_cons.mpr ⟨fun As h r z => d11 (w := w) hD hz As h r z, ?_⟩
  refine List.forall_mem_cons.mpr ⟨fun As h r z => d12 (w := w) hD hz As h r z, ?_⟩
  refine List.forall_mem_cons.mpr ⟨fun As h r z => d13 (w := w) hD hz As h r z, ?_⟩
  refine List.forall_mem_cons.mpr ⟨fun As h r z => d14 (w := w) hD hz As h r z, ?_⟩
  refine List.forall_mem_cons.mpr ⟨fun As h r z => d15 (w := w) hD hz As h r z, ?_⟩
  refine List.forall_mem_cons.mpr ⟨fun As h r z => d16 (w := w) hD hz As h r z, ?_⟩
  refine List.forall_mem_cons.mpr ⟨fun As h r z => d17 (w := w) hD hz As h r z, ?_⟩
  refine List.forall_mem_cons.mpr ⟨fun As h r z => d18 (w := w) hD hz As h r z, ?_⟩
  refine List.forall_mem_cons.mpr ⟨fun As h r z => d19 (w := w) hD hz As h r z, ?_⟩
  refine List.forall_mem_cons.mpr ⟨fun As h r z => d20 (w := w) hD hz As h r z, ?_⟩
  refine List.forall_mem_cons.mpr ⟨fun As h r z => d21 (w := w) hD hz As h r z, ?_⟩
  refine List.forall_mem_cons.mpr ⟨fun As h r z => d22 (w := w) hD hz As h r z, ?_⟩
  refine List.forall_mem_cons.mpr ⟨fun As h r z => d23 (w := w) hD hz As h r z, ?_⟩
  refine List.forall_mem_cons.mpr ⟨fun As h r z => d24 (w := w) hD hz As h r z, ?_⟩
  refine List.forall_mem_cons.mpr ⟨fun As h r z => d25 (w := w) hD hz As h r z, ?_⟩
  exact fun _ z => by cases z
def dE_1 (L : Nat) (xs : Nat → Int32) (zf : Value) (w : Nat) : List (rm_M × dFn) := [(ah_M26, fun D As h => f26 L xs zf D w As h), (ah_M27, fun D As h => f27 L xs zf D w As h), (ah_M28, fun D As h => f28 L xs zf D w As h), (ah_M29, fun D As h => f29 L xs zf D w As h), (ah_M30, fun D As h => f30 L xs zf D w As h), (ah_M31, fun D As h => f31 L xs zf D w As h), (ah_M32, fun D As h => f32 L xs zf D w As h), (ah_M33, fun D As h => f33 L xs zf D w As h), (ah_M34, fun D As h => f34 L xs zf D w As h), (ah_M35, fun D As h => f35 L xs zf D w As h), (ah_M36, fun D As h => f36 L xs zf D w As h), (ah_M37, fun D As h => f37 L xs zf D w As h), (ah_M38, fun D As h => f38 L xs zf D w As h), (ah_M39, fun D As h => f39 L xs zf D w As h), (ah_M40, fun D As h => f40 L xs zf D w As h), (ah_M41, fun D As h => f41 L xs zf D w As h), (ah_M42, fun D As h => f42 L xs zf D w As h), (ah_M43, fun D As h => f43 L xs zf D w As h), (ah_M44, fun D As h => f44 L xs zf D w As h), (ah_M45, fun D As h => f45 L xs zf D w As h), (ah_M46, fun D As h => f46 L xs zf D w As h), (ah_M47, fun D As h => f47 L xs zf D w As h), (ah_M48, fun D As h => f48 L xs zf D w As h), (ah_M49, fun D As h => f49 L xs zf D w As h), (ah_M50, fun D As h => f50 L xs zf D w As h), (ah_M51, fun D As h => f51 L xs zf D w As h)]
theorem dEo_1 {L : Nat} {xs : Nat → Int32} {zf : Value} {D : dD} {k : Nat} (w : Nat) (hD : dO L xs zf D k) (hz : zf.category = 1) : ∀ p ∈ dE_1 L xs zf w, dok L xs zf D k p := by
  unfold dE_1
  refine List.forall_mem_cons.mpr ⟨fun As h r z => d26 (w := w) hD hz As h r z, ?_⟩
  refine List.forall_mem_cons.mpr ⟨fun As h r z => d27 (w := w) hD hz As h r z, ?_⟩
  refine List.forall_mem_cons.mpr ⟨fun As h r z => d28 (w := w) hD hz As h r z, ?_⟩
  refine List.forall_mem_cons.mpr ⟨fun As h r z => d29 (w := w) hD hz As h r z, ?_⟩
  refine List.forall_mem_cons.mpr ⟨fun As h r z => d30 (w := w) hD hz As h r z, ?_⟩
  refine List.forall_mem_cons.mpr ⟨fun As h r z => d31 (w := w) hD hz As h r z, ?_⟩
  refine List.forall_mem_cons.mpr ⟨fun As h r z => d32 (w := w) hD hz As h r z, ?_⟩
  refine List.forall_mem_cons.mpr ⟨fun As h r z => d33 (w := w) hD hz As h r z, ?_⟩
  refine List.forall_mem_cons.mpr ⟨fun As h r z => d34 (w := w) hD hz As h r z, ?_⟩
  refine List.forall_mem_cons.mpr ⟨fun As h r z => d35 (w := w) hD hz As h r z, ?_⟩
  refine List.forall_mem_cons.mpr ⟨fun As h r z => d36 (w := w) hD hz As h r z, ?_⟩
  refine List.forall_mem_cons.mpr ⟨fun As h r z => d37 (w := w) hD hz As h r z, ?_⟩
  refine List.forall_mem_cons.mpr ⟨fun As h r z => d38 (w := w) hD hz As h r z, ?_⟩
  refine List.forall_mem_cons.mpr ⟨fun As h r z => d39 (w := w) hD hz As h r z, ?_⟩
  refine List.forall_mem_cons.mpr ⟨fun As h r z => d40 (w := w) hD hz As h r z, ?_⟩
  refine List.forall_mem_cons.mpr ⟨fun As h r z => d41 (w := w) hD hz As h r z, ?_⟩
  refine List.forall_mem_cons.mpr ⟨fun As h r z => d42 (w := w) hD hz As h r z, ?_⟩
  refine List.forall_mem_cons.mpr ⟨fun As h r z => d43 (w := w) hD hz As h r z, ?_⟩
  refine List.forall_mem_cons.mpr ⟨fun As h r z => d44 (w := w) hD hz As h r z, ?_⟩
  refine List.forall_mem_cons.mpr ⟨fun As h r z => d45 (w := w) hD hz As h r z, ?_⟩
  refine List.forall_mem_cons.mpr ⟨fun As h r z => d46 (w := w) hD hz As h r z, ?_⟩
  refine List.forall_mem_cons.mpr ⟨fun As h r z => d47 (w := w) hD hz As h r z, ?_⟩
  refine List.forall_mem_cons.mpr ⟨fun As h r z => d48 (w := w) hD hz As h r z, ?_⟩
  refine List.forall_mem_cons.mpr ⟨fun As h r z => d49 (w := w) hD hz As h r z, ?_⟩
  refine List.forall_mem_cons.mpr ⟨fun As h r z => d50 (w := w) hD hz As h r z, ?_⟩
  refine List.forall_mem_cons.mpr ⟨fun As h r z => d51 (w := w) hD hz As h r z, ?_⟩
  exact fun _ z => by cases z
def dE_2 (L : Nat) (xs : Nat → Int32) (zf : Value) (w : Nat) : List (rm_M × dFn) := [(ah_M52, fun D As h => f52 L xs zf D w As h), (ah_M53, fun D As h => f53 L xs zf D w As h), (ah_M54, fun D As h => f54 L xs zf D w As h), (ah_M55, fun D As h => f55 L xs zf D w As h), (ah_M56, fun D As h => f56 L xs zf D w As h), (ah_M57, fun D As h => f57 L xs zf D w As h), (ah_M58, fun D As h => f58 L xs zf D w As h), (ah_M59, fun D As h => f59 L xs zf D w As h), (ah_M60, fun D As h => f60 L xs zf D w As h), (ah_M61, fun D As h => f61 L xs zf D w As h), (ah_M62, fun D As h => f62 L xs zf D w As h), (ah_M63, fun D As h => f63 L xs zf D w As h), (ah_M64, fun D As h => f64 L xs zf D w As h), (ah_M65, fun D As h => f65 L xs zf D w As h), (ah_M66, fun D As h => f66 L xs zf D w As h), (ah_M67, fun D As h => f67 L xs zf D w As h), (ah_M68, fun D As h => f68 L xs zf D w As h), (ah_M69, fun D As h => f69 L xs zf D w As h), (ah_M70, fun D As h => f70 L xs zf D w As h), (ah_M71, fun D As h => f71 L xs zf D w As h), (ah_M72, fun D As h => f72 L xs zf D w As h), (ah_M73, fun D As h => f73 L xs zf D w As h), (ah_M74, fun D As h => f74 L xs zf D w As h), (ah_M75, fun D As h => f75 L xs zf D w As h), (ah_M76, fun D As h => f76 L xs zf D w As h), (ah_M77, fun D As h => f77 L xs zf D w As h)]
theorem dEo_2 {L : Nat} {xs : Nat → Int32} {zf : Value} {D : dD} {k : Nat} (w : Nat) (hD : dO L xs zf D k) (hz : zf.category = 1) : ∀ p ∈ dE_2 L xs zf w, dok L xs zf D k p := by
  unfold dE_2
  refine List.forall_mem_cons.mpr ⟨fun As h r z => d52 (w := w) hD hz As h r z, ?_⟩
  refine List.forall_mem_cons.mpr ⟨fun As h r z => d53 (w := w) hD hz As h r z, ?_⟩
  refine List.forall_mem_cons.mpr ⟨fun As h r z => d54 (w := w) hD hz As h r z, ?_⟩
  refine List.forall_mem_cons.mpr ⟨fun As h r z => d55 (w := w) hD hz As h r z, ?_⟩
  refine List.forall_mem_cons.mpr ⟨fun As h r z => d56 (w := w) hD hz As h r z, ?_⟩
  refine List.forall_mem_cons.mpr ⟨fun As h r z => d57 (w := w) hD hz As h r z, ?_⟩
  refine List.forall_mem_cons.mpr ⟨fun As h r z => d58 (w := w) hD hz As h r z, ?_⟩
  refine List.forall_mem_cons.mpr ⟨fun As h r z => d59 (w := w) hD hz As h r z, ?_⟩
  refine List.forall_mem_cons.mpr ⟨fun As h r z => d60 (w := w) hD hz As h r z, ?_⟩
  refine List.forall_mem_cons.mpr ⟨fun As h r z => d61 (w := w) hD hz As h r z, ?_⟩
  refine List.forall_mem_cons.mpr ⟨fun As h r z => d62 (w := w) hD hz As h r z, ?_⟩
  refine List.forall_mem_cons.mpr ⟨fun As h r z => d63 (w := w) hD hz As h r z, ?_⟩
  refine List.forall_mem_cons.mpr ⟨fun As h r z => d64 (w := w) hD hz As h r z, ?_⟩
  refine List.forall_mem_cons.mpr ⟨fun As h r z => d65 (w := w) hD hz As h r z, ?_⟩
  refine List.forall_mem_cons.mpr ⟨fun As h r z => d66 (w := w) hD hz As h r z, ?_⟩
  refine List.forall_mem_cons.mpr ⟨fun As h r z => d67 (w := w) hD hz As h r z, ?_⟩
  refine List.forall_mem_cons.mpr ⟨fun As h r z => d68 (w := w) hD hz As h r z, ?_⟩
  refine List.forall_mem_cons.mpr ⟨fun As h r z => d69 (w := w) hD hz As h r z, ?_⟩
  refine List.forall_mem_cons.mpr ⟨fun As h r z => d70 (w := w) hD hz As h r z, ?_⟩
  refine List.forall_mem_cons.mpr ⟨fun As h r z => d71 (w := w) hD hz As h r z, ?_⟩
  refine List.forall_mem_cons.mpr ⟨fun As h r z => d72 (w := w) hD hz As h r z, ?_⟩
  refine List.forall_mem_cons.mpr ⟨fun As h r z => d73 (w := w) hD hz As h r z, ?_⟩
  refine List.forall_mem_cons.mpr ⟨fun As h r z => d74 (w := w) hD hz As h r z, ?_⟩
  refine List.forall_mem_cons.mpr ⟨fun As h r z => d75 (w := w) hD hz As h r z, ?_⟩
  refine List.forall_mem_cons.mpr ⟨fun As h r z => d76 (w := w) hD hz As h r z, ?_⟩
  refine List.forall_mem_cons.mpr ⟨fun As h r z => d77 (w := w) hD hz As h r z, ?_⟩
  exact fun _ z => by cases z
def dE_3 (L : Nat) (xs : Nat → Int32) (zf : Value) (w : Nat) : List (rm_M × dFn) := [(ah_M78, fun D As h => f78 L xs zf D w As h), (ah_M79, fun D As h => f79 L xs zf D w As h), (ah_M80, fun D As h => f80 L xs zf D w As h), (ah_M81, fun D As h => f81 L xs zf D w As h), (ah_M82, fun D As h => f82 L xs zf D w As h), (ah_M83, fun D As h => f83 L xs zf D w As h), (ah_M84, fun D As h => f84 L xs zf D w As h), (ah_M85, fun D As h => f85 L xs zf D w As h), (ah_M86, fun D As h => f86 L xs zf D w As h), (ah_M87, fun D As h => f87 L xs zf D w As h), (ah_M88, fun D As h => f88 L xs zf D w As h), (ah_M89, fun D As h => f89 L xs zf D w As h), (ah_M90, fun D As h => f90 L xs zf D w As h), (ah_M91, fun D As h => f91 L xs zf D w As h), (ah_M92, fun D As h => f92 L xs zf D w As h), (ah_M93, fun D As h => f93 L xs zf D w As h), (ah_M94, fun D As h => f94 L xs zf D w As h), (ah_M95, fun D As h => f95 L xs zf D w As h), (ah_M96, fun D As h => f96 L xs zf D w As h), (ah_M97, fun D As h => f97 L xs zf D w As h), (ah_M98, fun D As h => f98 L xs zf D w As h), (ah_M99, fun D As h => f99 L xs zf D w As h), (ah_M100, fun D As h => f100 L xs zf D w As h), (ah_M101, fun D As h => f101 L xs zf D w As h), (ah_M102, fun D As h => f102 L xs zf D w As h), (ah_M103, fun D As h => f103 L xs zf D w As h)]
theorem dEo_3 {L : Nat} {xs : Nat → Int32} {zf : Value} {D : dD} {k : Nat} (w : Nat) (hD : dO L xs zf D k) (hz : zf.category = 1) : ∀ p ∈ dE_3 L xs zf w, dok L xs zf D k p := by
  unfold dE_3
  refine List.forall_mem_cons.mpr ⟨fun As h r z => d78 (w := w) hD hz As h r z, ?_⟩
  refine List.forall_mem_cons.mpr ⟨fun As h r z => d79 (w := w) hD hz As h r z, ?_⟩
  refine List.forall_mem_cons.mpr ⟨fun As h r z => d80 (w := w) hD hz As h r z, ?_⟩
  refine List.forall_mem_cons.mpr ⟨fun As h r z => d81 (w := w) hD hz As h r z, ?_⟩
  refine List.forall_mem_cons.mpr ⟨fun As h r z => d82 (w := w) hD hz As h r z, ?_⟩
  refine List.forall_mem_cons.mpr ⟨fun As h r z => d83 (w := w) hD hz As h r z, ?_⟩
  refine List.forall_mem_cons.mpr ⟨fun As h r z => d84 (w := w) hD hz As h r z, ?_⟩
  refine List.forall_mem_cons.mpr ⟨fun As h r z => d85 (w := w) hD hz As h r z, ?_⟩
  refine List.forall_mem_cons.mpr ⟨fun As h r z => d86 (w := w) hD hz As h r z, ?_⟩
  refine List.forall_mem_cons.mpr ⟨fun As h r z => d87 (w := w) hD hz As h r z, ?_⟩
  refine List.forall_mem_cons.mpr ⟨fun As h r z => d88 (w := w) hD hz As h r z, ?_⟩
  refine List.forall_mem_cons.mpr ⟨fun As h r z => d89 (w := w) hD hz As h r z, ?_⟩
  refine List.forall_mem_cons.mpr ⟨fun As h r z => d90 (w := w) hD hz As h r z, ?_⟩
  refine List.forall_mem_cons.mpr ⟨fun As h r z => d91 (w := w) hD hz As h r z, ?_⟩
  refine List.forall_mem_cons.mpr ⟨fun As h r z => d92 (w := w) hD hz As h r z, ?_⟩
  refine List.forall_mem_cons.mpr ⟨fun As h r z => d93 (w := w) hD hz As h r z, ?_⟩
  refine List.forall_mem_cons.mpr ⟨fun As h r z => d94 (w := w) hD hz As h r z, ?_⟩
  refine List.forall_mem_cons.mpr ⟨fun As h r z => d95 (w := w) hD hz As h r z, ?_⟩
  refine List.forall_mem_cons.mpr ⟨fun As h r z => d96 (w := w) hD hz As h r z, ?_⟩
  refine List.forall_mem_cons.mpr ⟨fun As h r z => d97 (w := w) hD hz As h r z, ?_⟩
  refine List.forall_mem_cons.mpr ⟨fun As h r z => d98 (w := w) hD hz As h r z, ?_⟩
  refine List.forall_mem_cons.mpr ⟨fun As h r z => d99 (w := w) hD hz As h r z, ?_⟩
  refine List.forall_mem_cons.mpr ⟨fun As h r z => d100 (w := w) hD hz As h r z, ?_⟩
  refine List.forall_mem_cons.mpr ⟨fun As h r z => d101 (w := w) hD hz As h r z, ?_⟩
  refine List.forall_mem_cons.mpr ⟨fun As h r z => d102 (w := w) hD hz As h r z, ?_⟩
  refine List.forall_mem_cons.mpr ⟨fun As h r z => d103 (w := w) hD hz As h r z, ?_⟩
  exact fun _ z => by cases z
def dE_4 (L : Nat) (xs : Nat → Int32) (zf : Value) (w : Nat) : List (rm_M × dFn) := [(ah_M104, fun D As h => f104 L xs zf D w As h), (ah_M105, fun D As h => f105 L xs zf D w As h), (ah_M106, fun D As h => f106 L xs zf D w As h), (ah_M107, fun D As h => f107 L xs zf D w As h), (ah_M108, fun D As h => f108 L xs zf D w As h), (ah_M109, fun D As h => f109 L xs zf D w As h), (ah_M110, fun D As h => f110 L xs zf D w As h), (ah_M111, fun D As h => f111 L xs zf D w As h), (ah_M112, fun D As h => f112 L xs zf D w As h), (ah_M113, fun D As h => f113 L xs zf D w As h), (ah_M114, fun D As h => f114 L xs zf D w As h), (ah_M115, fun D As h => f115 L xs zf D w As h), (ah_M116, fun D As h => f116 L xs zf D w As h), (ah_M117, fun D As h => f117 L xs zf D w As h), (ah_M118, fun D As h => f118 L xs zf D w As h), (ah_M119, fun D As h => f119 L xs zf D w As h), (ah_M120, fun D As h => f120 L xs zf D w As h), (ah_M121, fun D As h => f121 L xs zf D w As h), (ah_M122, fun D As h => f122 L xs zf D w As h), (ah_M123, fun D As h => f123 L xs zf D w As h), (ah_M124, fun D As h => f124 L xs zf D w As h), (ah_M125, fun D As h => f125 L xs zf D w As h), (ah_M126, fun D As h => f126 L xs zf D w As h), (ah_M127, fun D As h => f127 L xs zf D w As h), (ah_M128, fun D As h => f128 L xs zf D w As h), (ah_M129, fun D As h => f129 L xs zf D w As h)]
theorem dEo_4 {L : Nat} {xs : Nat → Int32} {zf : Value} {D : dD} {k : Nat} (w : Nat) (hD : dO L xs zf D k) (hz : zf.category = 1) : ∀ p ∈ dE_4 L xs zf w, dok L xs zf D k p := by
  unfold dE_4
  refine List.forall_mem_cons.mpr ⟨fun As h r z => d104 (w := w) hD hz As h r z, ?_⟩
  refine List.forall_mem_cons.mpr ⟨fun As h r z => d105 (w := w) hD hz As h r z, ?_⟩
  refine List.forall_mem_cons.mpr ⟨fun As h r z => d106 (w := w) hD hz As h r z, ?_⟩
  refine List.forall_mem_cons.mpr ⟨fun As h r z => d107 (w := w) hD hz As h r z, ?_⟩
  refine List.forall_mem_cons.mpr ⟨fun As h r z => d108 (w := w) hD hz As h r z, ?_⟩
  refine List.forall_mem_cons.mpr ⟨fun As h r z => d109 (w := w) hD hz As h r z, ?_⟩
  refine List.forall_mem_cons.mpr ⟨fun As h r z => d110 (w := w) hD hz As h r z, ?_⟩
  refine List.forall_mem_cons.mpr ⟨fun As h r z => d111 (w := w) hD hz As h r z, ?_⟩
  refine List.forall_mem_cons.mpr ⟨fun As h r z => d112 (w := w) hD hz As h r z, ?_⟩
  refine List.forall_mem_cons.mpr ⟨fun As h r z => d113 (w := w) hD hz As h r z, ?_⟩
  refine List.forall_mem_cons.mpr ⟨fun As h r z => d114 (w := w) hD hz As h r z, ?_⟩
  refine List.forall_mem_cons.mpr ⟨fun As h r z => d115 (w := w) hD hz As h r z, ?_⟩
  refine List.forall_mem_cons.mpr ⟨fun As h r z => d116 (w := w) hD hz As h r z, ?_⟩
  refine List.forall_mem_cons.mpr ⟨fun As h r z => d117 (w := w) hD hz As h r z, ?_⟩
  refine List.forall_mem_cons.mpr ⟨fun As h r z => d118 (w := w) hD hz As h r z, ?_⟩
  refine List.forall_mem_cons.mpr ⟨fun As h r z => d119 (w := w) hD hz As h r z, ?_⟩
  refine List.forall_mem_cons.mpr ⟨fun As h r z => d120 (w := w) hD hz As h r z, ?_⟩
  refine List.forall_mem_cons.mpr ⟨fun As h r z => d121 (w := w) hD hz As h r z, ?_⟩
  refine List.forall_mem_cons.mpr ⟨fun As h r z => d122 (w := w) hD hz As h r z, ?_⟩
  refine List.forall_mem_cons.mpr ⟨fun As h r z => d123 (w := w) hD hz As h r z, ?_⟩
  refine List.forall_mem_cons.mpr ⟨fun As h r z => d124 (w := w) hD hz As h r z, ?_⟩
  refine List.forall_mem_cons.mpr ⟨fun As h r z => d125 (w := w) hD hz As h r z, ?_⟩
  refine List.forall_mem_cons.mpr ⟨fun As h r z => d126 (w := w) hD hz As h r z, ?_⟩
  refine List.forall_mem_cons.mpr ⟨fun As h r z => d127 (w := w) hD hz As h r z, ?_⟩
  refine List.forall_mem_cons.mpr ⟨fun As h r z => d128 (w := w) hD hz As h r z, ?_⟩
  refine List.forall_mem_cons.mpr ⟨fun As h r z => d129 (w := w) hD hz As h r z, ?_⟩
  exact fun _ z => by cases z
def dE_5 (L : Nat) (xs : Nat → Int32) (zf : Value) (w : Nat) : List (rm_M × dFn) := [(ah_M130, fun D As h => f130 L xs zf D w As h), (ah_M131, fun D As h => f131 L xs zf D w As h), (ah_M132, fun D As h => f132 L xs zf D w As h), (ah_M133, fun D As h => f133 L xs zf D w As h), (ah_M134, fun D As h => f134 L xs zf D w As h), (ah_M135, fun D As h => f135 L xs zf D w As h), (ah_M136, fun D As h => f136 L xs zf D w As h), (ah_M137, fun D As h => f137 L xs zf D w As h), (ah_M138, fun D As h => f138 L xs zf D w As h), (ah_M139, fun D As h => f139 L xs zf D w As h), (ah_M140, fun D As h => f140 L xs zf D w As h), (ah_M141, fun D As h => f141 L xs zf D w As h), (ah_M142, fun D As h => f142 L xs zf D w As h), (ah_M143, fun D As h => f143 L xs zf D w As h), (ah_M144, fun D As h => f144 L xs zf D w As h), (ah_M145, fun D As h => f145 L xs zf D w As h), (ah_M146, fun D As h => f146 L xs zf D w As h), (ah_M147, fun D As h => f147 L xs zf D w As h), (ah_M148, fun D As h => f148 L xs zf D w As h), (ah_M149, fun D As h => f149 L xs zf D w As h), (ah_M150, fun D As h => f150 L xs zf D w As h), (ah_M151, fun D As h => f151 L xs zf D w As h), (ah_M152, fun D As h => f152 L xs zf D w As h), (ah_M153, fun D As h => f153 L xs zf D w As h), (ah_M154, fun D As h => f154 L xs zf D w As h), (ah_M155, fun D As h => f155 L xs zf D w As h)]
theorem dEo_5 {L : Nat} {xs : Nat → Int32} {zf : Value} {D : dD} {k : Nat} (w : Nat) (hD : dO L xs zf D k) (hz : zf.category = 1) : ∀ p ∈ dE_5 L xs zf w, dok L xs zf D k p := by
  unfold dE_5
  refine List.forall_mem_cons.mpr ⟨fun As h r z => d130 (w := w) hD hz As h r z, ?_⟩
  refine List.forall_mem_cons.mpr ⟨fun As h r z => d131 (w := w) hD hz As h r z, ?_⟩
  refine List.forall_mem_cons.mpr ⟨fun As h r z => d132 (w := w) hD hz As h r z, ?_⟩
  refine List.forall_mem_cons.mpr ⟨fun As h r z => d133 (w := w) hD hz As h r z, ?_⟩
  refine List.forall_mem_cons.mpr ⟨fun As h r z => d134 (w := w) hD hz As h r z, ?_⟩
  refine List.forall_mem_cons.mpr ⟨fun As h r z => d135 (w := w) hD hz As h r z, ?_⟩
  refine List.forall_mem_cons.mpr ⟨fun As h r z => d136 (w := w) hD hz As h r z, ?_⟩
  refine List.forall_mem_cons.mpr ⟨fun As h r z => d137 (w := w) hD hz As h r z, ?_⟩
  refine List.forall_mem_cons.mpr ⟨fun As h r z => d138 (w := w) hD hz As h r z, ?_⟩
  refine List.forall_mem_cons.mpr ⟨fun As h r z => d139 (w := w) hD hz As h r z, ?_⟩
  refine List.forall_mem_cons.mpr ⟨fun As h r z => d140 (w := w) hD hz As h r z, ?_⟩
  refine List.forall_mem_cons.mpr ⟨fun As h r z => d141 (w := w) hD hz As h r z, ?_⟩
  refine List.forall_mem_cons.mpr ⟨fun As h r z => d142 (w := w) hD hz As h r z, ?_⟩
  refine List.forall_mem_cons.mpr ⟨fun As h r z => d143 (w := w) hD hz As h r z, ?_⟩
  refine List.forall_mem_cons.mpr ⟨fun As h r z => d144 (w := w) hD hz As h r z, ?_⟩
  refine List.forall_mem_cons.mpr ⟨fun As h r z => d145 (w := w) hD hz As h r z, ?_⟩
  refine List.forall_mem_cons.mpr ⟨fun As h r z => d146 (w := w) hD hz As h r z, ?_⟩
  refine List.forall_mem_cons.mpr ⟨fun As h r z => d147 (w := w) hD hz As h r z, ?_⟩
  refine List.forall_mem_cons.mpr ⟨fun As h r z => d148 (w := w) hD hz As h r z, ?_⟩
  refine List.forall_mem_cons.mpr ⟨fun As h r z => d149 (w := w) hD hz As h r z, ?_⟩
  refine List.forall_mem_cons.mpr ⟨fun As h r z => d150 (w := w) hD hz As h r z, ?_⟩
  refine List.forall_mem_cons.mpr ⟨fun As h r z => d151 (w := w) hD hz As h r z, ?_⟩
  refine List.forall_mem_cons.mpr ⟨fun As h r z => d152 (w := w) hD hz As h r z, ?_⟩
  refine List.forall_mem_cons.mpr ⟨fun As h r z => d153 (w := w) hD hz As h r z, ?_⟩
  refine List.forall_mem_cons.mpr ⟨fun As h r z => d154 (w := w) hD hz As h r z, ?_⟩
  refine List.forall_mem_cons.mpr ⟨fun As h r z => d155 (w := w) hD hz As h r z, ?_⟩
  exact fun _ z => by cases z
def dE_6 (L : Nat) (xs : Nat → Int32) (zf : Value) (w : Nat) : List (rm_M × dFn) := [(ah_M156, fun D As h => f156 L xs zf D w As h), (ah_M157, fun D As h => f157 L xs zf D w As h), (ah_M158, fun D As h => f158 L xs zf D w As h), (ah_M159, fun D As h => f159 L xs zf D w As h), (ah_M160, fun D As h => f160 L xs zf D w As h), (ah_M161, fun D As h => f161 L xs zf D w As h), (ah_M162, fun D As h => f162 L xs zf D w As h), (ah_M163, fun D As h => f163 L xs zf D w As h), (ah_M164, fun D As h => f164 L xs zf D w As h), (ah_M165, fun D As h => f165 L xs zf D w As h), (ah_M166, fun D As h => f166 L xs zf D w As h), (ah_M167, fun D As h => f167 L xs zf D w As h), (ah_M168, fun D As h => f168 L xs zf D w As h), (ah_M169, fun D As h => f169 L xs zf D w As h), (ah_M170, fun D As h => f170 L xs zf D w As h), (ah_M171, fun D As h => f171 L xs zf D w As h), (ah_M172, fun D As h => f172 L xs zf D w As h), (ah_M173, fun D As h => f173 L xs zf D w As h), (ah_M174, fun D As h => f174 L xs zf D w As h), (ah_M175, fun D As h => f175 L xs zf D w As h), (ah_M176, fun D As h => f176 L xs zf D w As h), (ah_M177, fun D As h => f177 L xs zf D w As h), (ah_M178, fun D As h => f178 L xs zf D w As h), (ah_M179, fun D As h => f179 L xs zf D w As h), (ah_M180, fun D As h => f180 L xs zf D w As h), (ah_M181, fun D As h => f181 L xs zf D w As h)]
theorem dEo_6 {L : Nat} {xs : Nat → Int32} {zf : Value} {D : dD} {k : Nat} (w : Nat) (hD : dO L xs zf D k) (hz : zf.category = 1) : ∀ p ∈ dE_6 L xs zf w, dok L xs zf D k p := by
  unfold dE_6
  refine List.forall_mem_cons.mpr ⟨fun As h r z => d156 (w := w) hD hz As h r z, ?_⟩
  refine List.forall_mem_cons.mpr ⟨fun As h r z => d157 (w := w) hD hz As h r z, ?_⟩
  refine List.forall_mem_cons.mpr ⟨fun As h r z => d158 (w := w) hD hz As h r z, ?_⟩
  refine List.forall_mem_cons.mpr ⟨fun As h r z => d159 (w := w) hD hz As h r z, ?_⟩
  refine List.forall_mem_cons.mpr ⟨fun As h r z => d160 (w := w) hD hz As h r z, ?_⟩
  refine List.forall_mem_cons.mpr ⟨fun As h r z => d161 (w := w) hD hz As h r z, ?_⟩
  refine List.forall_mem_cons.mpr ⟨fun As h r z => d162 (w := w) hD hz As h r z, ?_⟩
  refine List.forall_mem_cons.mpr ⟨fun As h r z => d163 (w := w) hD hz As h r z, ?_⟩
  refine List.forall_mem_cons.mpr ⟨fun As h r z => d164 (w := w) hD hz As h r z, ?_⟩
  refine List.forall_mem_cons.mpr ⟨fun As h r z => d165 (w := w) hD hz As h r z, ?_⟩
  refine List.forall_mem_cons.mpr ⟨fun As h r z => d166 (w := w) hD hz As h r z, ?_⟩
  refine List.forall_mem_cons.mpr ⟨fun As h r z => d167 (w := w) hD hz As h r z, ?_⟩
  refine List.forall_mem_cons.mpr ⟨fun As h r z => d168 (w := w) hD hz As h r z, ?_⟩
  refine List.forall_mem_cons.mpr ⟨fun As h r z => d169 (w := w) hD hz As h r z, ?_⟩
  refine List.forall_mem_cons.mpr ⟨fun As h r z => d170 (w := w) hD hz As h r z, ?_⟩
  refine List.forall_mem_cons.mpr ⟨fun As h r z => d171 (w := w) hD hz As h r z, ?_⟩
  refine List.forall_mem_cons.mpr ⟨fun As h r z => d172 (w := w) hD hz As h r z, ?_⟩
  refine List.forall_mem_cons.mpr ⟨fun As h r z => d173 (w := w) hD hz As h r z, ?_⟩
  refine List.forall_mem_cons.mpr ⟨fun As h r z => d174 (w := w) hD hz As h r z, ?_⟩
  refine List.forall_mem_cons.mpr ⟨fun As h r z => d175 (w := w) hD hz As h r z, ?_⟩
  refine List.forall_mem_cons.mpr ⟨fun As h r z => d176 (w := w) hD hz As h r z, ?_⟩
  refine List.forall_mem_cons.mpr ⟨fun As h r z => d177 (w := w) hD hz As h r z, ?_⟩
  refine List.forall_mem_cons.mpr ⟨fun As h r z => d178 (w := w) hD hz As h r z, ?_⟩
  refine List.forall_mem_cons.mpr ⟨fun As h r z => d179 (w := w) hD hz As h r z, ?_⟩
  refine List.forall_mem_cons.mpr ⟨fun As h r z => d180 (w := w) hD hz As h r z, ?_⟩
  refine List.forall_mem_cons.mpr ⟨fun As h r z => d181 (w := w) hD hz As h r z, ?_⟩
  exact fun _ z => by cases z
def dE_7 (L : Nat) (xs : Nat → Int32) (zf : Value) (w : Nat) : List (rm_M × dFn) := [(ah_M182, fun D As h => f182 L xs zf D w As h), (ah_M183, fun D As h => f183 L xs zf D w As h), (ah_M184, fun D As h => f184 L xs zf D w As h), (ah_M185, fun D As h => f185 L xs zf D w As h), (ah_M186, fun D As h => f186 L xs zf D w As h), (ah_M187, fun D As h => f187 L xs zf D w As h), (ah_M188, fun D As h => f188 L xs zf D w As h), (ah_M189, fun D As h => f189 L xs zf D w As h), (ah_M190, fun D As h => f190 L xs zf D w As h), (ah_M191, fun D As h => f191 L xs zf D w As h), (ah_M192, fun D As h => f192 L xs zf D w As h), (ah_M193, fun D As h => f193 L xs zf D w As h), (ah_M194, fun D As h => f194 L xs zf D w As h), (ah_M195, fun D As h => f195 L xs zf D w As h), (ah_M196, fun D As h => f196 L xs zf D w As h), (ah_M197, fun D As h => f197 L xs zf D w As h), (ah_M198, fun D As h => f198 L xs zf D w As h), (ah_M199, fun D As h => f199 L xs zf D w As h), (ah_M200, fun D As h => f200 L xs zf D w As h), (ah_M201, fun D As h => f201 L xs zf D w As h), (ah_M202, fun D As h => f202 L xs zf D w As h), (ah_M203, fun D As h => f203 L xs zf D w As h), (ah_M204, fun D As h => f204 L xs zf D w As h), (ah_M205, fun D As h => f205 L xs zf D w As h), (ah_M206, fun D As h => f206 L xs zf D w As h), (ah_M207, fun D As h => f207 L xs zf D w As h)]
theorem dEo_7 {L : Nat} {xs : Nat → Int32} {zf : Value} {D : dD} {k : Nat} (w : Nat) (hD : dO L xs zf D k) (hz : zf.category = 1) : ∀ p ∈ dE_7 L xs zf w, dok L xs zf D k p := by
  unfold dE_7
  refine List.forall_mem_cons.mpr ⟨fun As h r z => d182 (w := w) hD hz As h r z, ?_⟩
  refine List.forall_mem_cons.mpr ⟨fun As h r z => d183 (w := w) hD hz As h r z, ?_⟩
  refine List.forall_mem_cons.mpr ⟨fun As h r z => d184 (w := w) hD hz As h r z, ?_⟩
  refine List.forall_mem_cons.mpr ⟨fun As h r z => d185 (w := w) hD hz As h r z, ?_⟩
  refine List.forall_mem_cons.mpr ⟨fun As h r z => d186 (w := w) hD hz As h r z, ?_⟩
  refine List.forall_mem_cons.mpr ⟨fun As h r z => d187 (w := w) hD hz As h r z, ?_⟩
  refine List.forall_mem_cons.mpr ⟨fun As h r z => d188 (w := w) hD hz As h r z, ?_⟩
  refine List.forall_mem_cons.mpr ⟨fun As h r z => d189 (w := w) hD hz As h r z, ?_⟩
  refine List.forall_mem_cons.mpr ⟨fun As h r z => d190 (w := w) hD hz As h r z, ?_⟩
  refine List.forall_mem_cons.mpr ⟨fun As h r z => d191 (w := w) hD hz As h r z, ?_⟩
  refine List.forall_mem_cons.mpr ⟨fun As h r z => d192 (w := w) hD hz As h r z, ?_⟩
  refine List.forall_mem_cons.mpr ⟨fun As h r z => d193 (w := w) hD hz As h r z, ?_⟩
  refine List.forall_mem_cons.mpr ⟨fun As h r z => d194 (w := w) hD hz As h r z, ?_⟩
  refine List.forall_mem_cons.mpr ⟨fun As h r z => d195 (w := w) hD hz As h r z, ?_⟩
  refine List.forall_mem_cons.mpr ⟨fun As h r z => d196 (w := w) hD hz As h r z, ?_⟩
  refine List.forall_mem_cons.mpr ⟨fun As h r z => d197 (w := w) hD hz As h r z, ?_⟩
  refine List.forall_mem_cons.mpr ⟨fun As h r z => d198 (w := w) hD hz As h r z, ?_⟩
  refine List.forall_mem_cons.mpr ⟨fun As h r z => d199 (w := w) hD hz As h r z, ?_⟩
  refine List.forall_mem_cons.mpr ⟨fun As h r z => d200 (w := w) hD hz As h r z, ?_⟩
  refine List.forall_mem_cons.mpr ⟨fun As h r z => d201 (w := w) hD hz As h r z, ?_⟩
  refine List.forall_mem_cons.mpr ⟨fun As h r z => d202 (w := w) hD hz As h r z, ?_⟩
  refine List.forall_mem_cons.mpr ⟨fun As h r z => d203 (w := w) hD hz As h r z, ?_⟩
  refine List.forall_mem_cons.mpr ⟨fun As h r z => d204 (w := w) hD hz As h r z, ?_⟩
  refine List.forall_mem_cons.mpr ⟨fun As h r z => d205 (w := w) hD hz As h r z, ?_⟩
  refine List.forall_mem_cons.mpr ⟨fun As h r z => d206 (w := w) hD hz As h r z, ?_⟩
  refine List.forall_mem_cons.mpr ⟨fun As h r z => d207 (w := w) hD hz As h r z, ?_⟩
  exact fun _ z => by cases z
def dE_8 (L : Nat) (xs : Nat → Int32) (zf : Value) (w : Nat) : List (rm_M × dFn) := [(ah_M208, fun D As h => f208 L xs zf D w As h), (ah_M209, fun D As h => f209 L xs zf D w As h), (ah_M210, fun D As h => f210 L xs zf D w As h), (ah_M211, fun D As h => f211 L xs zf D w As h), (ah_M212, fun D As h => f212 L xs zf D w As h), (ah_M213, fun D As h => f213 L xs zf D w As h), (ah_M214, fun D As h => f214 L xs zf D w As h), (ah_M215, fun D As h => f215 L xs zf D w As h), (ah_M216, fun D As h => f216 L xs zf D w As h), (ah_M217, fun D As h => f217 L xs zf D w As h), (ah_M218, fun D As h => f218 L xs zf D w As h), (ah_M219, fun D As h => f219 L xs zf D w As h), (ah_M220, fun D As h => f220 L xs zf D w As h), (ah_M221, fun D As h => f221 L xs zf D w As h), (ah_M222, fun D As h => f222 L xs zf D w As h), (ah_M223, fun D As h => f223 L xs zf D w As h), (ah_M224, fun D As h => f224 L xs zf D w As h), (ah_M225, fun D As h => f225 L xs zf D w As h), (ah_M226, fun D As h => f226 L xs zf D w As h), (ah_M227, fun D As h => f227 L xs zf D w As h), (ah_M228, fun D As h => f228 L xs zf D w As h), (ah_M229, fun D As h => f229 L xs zf D w As h), (ah_M230, fun D As h => f230 L xs zf D w As h), (ah_M231, fun D As h => f231 L xs zf D w As h), (ah_M232, fun D As h => f232 L xs zf D w As h), (ah_M233, fun D As h => f233 L xs zf D w As h)]
theorem dEo_8 {L : Nat} {xs : Nat → Int32} {zf : Value} {D : dD} {k : Nat} (w : Nat) (hD : dO L xs zf D k) (hz : zf.category = 1) : ∀ p ∈ dE_8 L xs zf w, dok L xs zf D k p := by
  unfold dE_8
  refine List.forall_mem_cons.mpr ⟨fun As h r z => d208 (w := w) hD hz As h r z, ?_⟩
  refine List.forall_mem_cons.mpr ⟨fun As h r z => d209 (w := w) hD hz As h r z, ?_⟩
  refine List.forall_mem_cons.mpr ⟨fun As h r z => d210 (w := w) hD hz As h r z, ?_⟩
  refine List.forall_mem_cons.mpr ⟨fun As h r z => d211 (w := w) hD hz As h r z, ?_⟩
  refine List.forall_mem_cons.mpr ⟨fun As h r z => d212 (w := w) hD hz As h r z, ?_⟩
  refine List.forall_mem_cons.mpr ⟨fun As h r z => d213 (w := w) hD hz As h r z, ?_⟩
  refine List.forall_mem_cons.mpr ⟨fun As h r z => d214 (w := w) hD hz As h r z, ?_⟩
  refine List.forall_mem_cons.mpr ⟨fun As h r z => d215 (w := w) hD hz As h r z, ?_⟩
  refine List.forall_mem_cons.mpr ⟨fun As h r z => d216 (w := w) hD hz As h r z, ?_⟩
  refine List.forall_mem_cons.mpr ⟨fun As h r z => d217 (w := w) hD hz As h r z, ?_⟩
  refine List.forall_mem_cons.mpr ⟨fun As h r z => d218 (w := w) hD hz As h r z, ?_⟩
  refine List.forall_mem_cons.mpr ⟨fun As h r z => d219 (w := w) hD hz As h r z, ?_⟩
  refine List.forall_mem_cons.mpr ⟨fun As h r z => d220 (w := w) hD hz As h r z, ?_⟩
  refine List.forall_mem_cons.mpr ⟨fun As h r z => d221 (w := w) hD hz As h r z, ?_⟩
  refine List.forall_mem_cons.mpr ⟨fun As h r z => d222 (w := w) hD hz As h r z, ?_⟩
  refine List.forall_mem_cons.mpr ⟨fun As h r z => d223 (w := w) hD hz As h r z, ?_⟩
  refine List.forall_mem_cons.mpr ⟨fun As h r z => d224 (w := w) hD hz As h r z, ?_⟩
  refine List.forall_mem_cons.mpr ⟨fun As h r z => d225 (w := w) hD hz As h r z, ?_⟩
  refine List.forall_mem_cons.mpr ⟨fun As h r z => d226 (w := w) hD hz As h r z, ?_⟩
  refine List.forall_mem_cons.mpr ⟨fun As h r z => d227 (w := w) hD hz As h r z, ?_⟩
  refine List.forall_mem_cons.mpr ⟨fun As h r z => d228 (w := w) hD hz As h r z, ?_⟩
  refine List.forall_mem_cons.mpr ⟨fun As h r z => d229 (w := w) hD hz As h r z, ?_⟩
  refine List.forall_mem_cons.mpr ⟨fun As h r z => d230 (w := w) hD hz As h r z, ?_⟩
  refine List.forall_mem_cons.mpr ⟨fun As h r z => d231 (w := w) hD hz As h r z, ?_⟩
  refine List.forall_mem_cons.mpr ⟨fun As h r z => d232 (w := w) hD hz As h r z, ?_⟩
  refine List.forall_mem_cons.mpr ⟨fun As h r z => d233 (w := w) hD hz As h r z, ?_⟩
  exact fun _ z => by cases z
def dE_9 (L : Nat) (xs : Nat → Int32) (zf : Value) (w : Nat) : List (rm_M × dFn) := [(ah_M234, fun D As h => f234 L xs zf D w As h), (ah_M235, fun D As h => f235 L xs zf D w As h), (ah_M236, fun D As h => f236 L xs zf D w As h), (ah_M237, fun D As h => f237 L xs zf D w As h), (ah_M238, fun D As h => f238 L xs zf D w As h), (ah_M239, fun D As h => f239 L xs zf D w As h), (ah_M240, fun D As h => f240 L xs zf D w As h), (ah_M241, fun D As h => f241 L xs zf D w As h), (ah_M242, fun D As h => f242 L xs zf D w As h), (ah_M243, fun D As h => f243 L xs zf D w As h), (ah_M244, fun D As h => f244 L xs zf D w As h), (ah_M245, fun D As h => f245 L xs zf D w As h), (ah_M246, fun D As h => f246 L xs zf D w As h), (ah_M247, fun D As h => f247 L xs zf D w As h), (ah_M248, fun D As h => f248 L xs zf D w As h), (ah_M249, fun D As h => f249 L xs zf D w As h), (ah_M250, fun D As h => f250 L xs zf D w As h), (ah_M251, fun D As h => f251 L xs zf D w As h), (ah_M252, fun D As h => f252 L xs zf D w As h), (ah_M253, fun D As h => f253 L xs zf D w As h), (ah_M254, fun D As h => f254 L xs zf D w As h), (ah_M255, fun D As h => f255 L xs zf D w As h), (ah_M256, fun D As h => f256 L xs zf D w As h), (ah_M257, fun D As h => f257 L xs zf D w As h), (ah_M258, fun D As h => f258 L xs zf D w As h), (ah_M259, fun D As h => f259 L xs zf D w As h)]
theorem dEo_9 {L : Nat} {xs : Nat → Int32} {zf : Value} {D : dD} {k : Nat} (w : Nat) (hD : dO L xs zf D k) (hz : zf.category = 1) : ∀ p ∈ dE_9 L xs zf w, dok L xs zf D k p := by
  unfold dE_9
  refine List.forall_mem_cons.mpr ⟨fun As h r z => d234 (w := w) hD hz As h r z, ?_⟩
  refine List.forall_mem_cons.mpr ⟨fun As h r z => d235 (w := w) hD hz As h r z, ?_⟩
  refine List.forall_mem_cons.mpr ⟨fun As h r z => d236 (w := w) hD hz As h r z, ?_⟩
  refine List.forall_mem_cons.mpr ⟨fun As h r z => d237 (w := w) hD hz As h r z, ?_⟩
  refine List.forall_mem_cons.mpr ⟨fun As h r z => d238 (w := w) hD hz As h r z, ?_⟩
  refine List.forall_mem_cons.mpr ⟨fun As h r z => d239 (w := w) hD hz As h r z, ?_⟩
  refine List.forall_mem_cons.mpr ⟨fun As h r z => d240 (w := w) hD hz As h r z, ?_⟩
  refine List.forall_mem_cons.mpr ⟨fun As h r z => d241 (w := w) hD hz As h r z, ?_⟩
  refine List.forall_mem_cons.mpr ⟨fun As h r z => d242 (w := w) hD hz As h r z, ?_⟩
  refine List.forall_mem_cons.mpr ⟨fun As h r z => d243 (w := w) hD hz As h r z, ?_⟩
  refine List.forall_mem_cons.mpr ⟨fun As h r z => d244 (w := w) hD hz As h r z, ?_⟩
  refine List.forall_mem_cons.mpr ⟨fun As h r z => d245 (w := w) hD hz As h r z, ?_⟩
  refine List.forall_mem_cons.mpr ⟨fun As h r z => d246 (w := w) hD hz As h r z, ?_⟩
  refine List.forall_mem_cons.mpr ⟨fun As h r z => d247 (w := w) hD hz As h r z, ?_⟩
  refine List.forall_mem_cons.mpr ⟨fun As h r z => d248 (w := w) hD hz As h r z, ?_⟩
  refine List.forall_mem_cons.mpr ⟨fun As h r z => d249 (w := w) hD hz As h r z, ?_⟩
  refine List.forall_mem_cons.mpr ⟨fun As h r z => d250 (w := w) hD hz As h r z, ?_⟩
  refine List.forall_mem_cons.mpr ⟨fun As h r z => d251 (w := w) hD hz As h r z, ?_⟩
  refine List.forall_mem_cons.mpr ⟨fun As h r z => d252 (w := w) hD hz As h r z, ?_⟩
  refine List.forall_mem_cons.mpr ⟨fun As h r z => d253 (w := w) hD hz As h r z, ?_⟩
  refine List.forall_mem_cons.mpr ⟨fun As h r z => d254 (w := w) hD hz As h r z, ?_⟩
  refine List.forall_mem_cons.mpr ⟨fun As h r z => d255 (w := w) hD hz As h r z, ?_⟩
  refine List.forall_mem_cons.mpr ⟨fun As h r z => d256 (w := w) hD hz As h r z, ?_⟩
  refine List.forall_mem_cons.mpr ⟨fun As h r z => d257 (w := w) hD hz As h r z, ?_⟩
  refine List.forall_mem_cons.mpr ⟨fun As h r z => d258 (w := w) hD hz As h r z, ?_⟩
  refine List.forall_mem_cons.mpr ⟨fun As h r z => d259 (w := w) hD hz As h r z, ?_⟩
  exact fun _ z => by cases z
def dE_10 (L : Nat) (xs : Nat → Int32) (zf : Value) (w : Nat) : List (rm_M × dFn) := [(ah_M260, fun D As h => f260 L xs zf D w As h), (ah_M261, fun D As h => f261 L xs zf D w As h), (ah_M262, fun D As h => f262 L xs zf D w As h), (ah_M263, fun D As h => f263 L xs zf D w As h), (ah_M264, fun D As h => f264 L xs zf D w As h), (ah_M265, fun D As h => f265 L xs zf D w As h), (ah_M266, fun D As h => f266 L xs zf D w As h), (ah_M267, fun D As h => f267 L xs zf D w As h), (ah_M268, fun D As h => f268 L xs zf D w As h), (ah_M269, fun D As h => f269 L xs zf D w As h), (ah_M270, fun D As h => f270 L xs zf D w As h), (ah_M271, fun D As h => f271 L xs zf D w As h), (ah_M272, fun D As h => f272 L xs zf D w As h), (ah_M273, fun D As h => f273 L xs zf D w As h), (ah_M274, fun D As h => f274 L xs zf D w As h), (ah_M275, fun D As h => f275 L xs zf D w As h), (ah_M276, fun D As h => f276 L xs zf D w As h), (ah_M277, fun D As h => f277 L xs zf D w As h), (ah_M278, fun D As h => f278 L xs zf D w As h), (ah_M279, fun D As h => f279 L xs zf D w As h), (ah_M280, fun D As h => f280 L xs zf D w As h), (ah_M281, fun D As h => f281 L xs zf D w As h), (ah_M282, fun D As h => f282 L xs zf D w As h), (ah_M283, fun D As h => f283 L xs zf D w As h), (ah_M284, fun D As h => f284 L xs zf D w As h), (ah_M285, fun D As h => f285 L xs zf D w As h)]
theorem dEo_10 {L : Nat} {xs : Nat → Int32} {zf : Value} {D : dD} {k : Nat} (w : Nat) (hD : dO L xs zf D k) (hz : zf.category = 1) : ∀ p ∈ dE_10 L xs zf w, dok L xs zf D k p := by
  unfold dE_10
  refine List.forall_mem_cons.mpr ⟨fun As h r z => d260 (w := w) hD hz As h r z, ?_⟩
  refine List.forall_mem_cons.mpr ⟨fun As h r z => d261 (w := w) hD hz As h r z, ?_⟩
  refine List.forall_mem_cons.mpr ⟨fun As h r z => d262 (w := w) hD hz As h r z, ?_⟩
  refine List.forall_mem_cons.mpr ⟨fun As h r z => d263 (w := w) hD hz As h r z, ?_⟩
  refine List.forall_mem_cons.mpr ⟨fun As h r z => d264 (w := w) hD hz As h r z, ?_⟩
  refine List.forall_mem_cons.mpr ⟨fun As h r z => d265 (w := w) hD hz As h r z, ?_⟩
  refine List.forall_mem_cons.mpr ⟨fun As h r z => d266 (w := w) hD hz As h r z, ?_⟩
  refine List.forall_mem_cons.mpr ⟨fun As h r z => d267 (w := w) hD hz As h r z, ?_⟩
  refine List.forall_mem_cons.mpr ⟨fun As h r z => d268 (w := w) hD hz As h r z, ?_⟩
  refine List.forall_mem_cons.mpr ⟨fun As h r z => d269 (w := w) hD hz As h r z, ?_⟩
  refine List.forall_mem_cons.mpr ⟨fun As h r z => d270 (w := w) hD hz As h r z, ?_⟩
  refine List.forall_mem_cons.mpr ⟨fun As h r z => d271 (w := w) hD hz As h r z, ?_⟩
  refine List.forall_mem_cons.mpr ⟨fun As h r z => d272 (w := w) hD hz As h r z, ?_⟩
  refine List.forall_mem_cons.mpr ⟨fun As h r z => d273 (w := w) hD hz As h r z, ?_⟩
  refine List.forall_mem_cons.mpr ⟨fun As h r z => d274 (w := w) hD hz As h r z, ?_⟩
  refine List.forall_mem_cons.mpr ⟨fun As h r z => d275 (w := w) hD hz As h r z, ?_⟩
  refine List.forall_mem_cons.mpr ⟨fun As h r z => d276 (w := w) hD hz As h r z, ?_⟩
  refine List.forall_mem_cons.mpr ⟨fun As h r z => d277 (w := w) hD hz As h r z, ?_⟩
  refine List.forall_mem_cons.mpr ⟨fun As h r z => d278 (w := w) hD hz As h r z, ?_⟩
  refine List.forall_mem_cons.mpr ⟨fun As h r z => d279 (w := w) hD hz As h r z, ?_⟩
  refine List.forall_mem_cons.mpr ⟨fun As h r z => d280 (w := w) hD hz As h r z, ?_⟩
  refine List.forall_mem_cons.mpr ⟨fun As h r z => d281 (w := w) hD hz As h r z, ?_⟩
  refine List.forall_mem_cons.mpr ⟨fun As h r z => d282 (w := w) hD hz As h r z, ?_⟩
  refine List.forall_mem_cons.mpr ⟨fun As h r z => d283 (w := w) hD hz As h r z, ?_⟩
  refine List.forall_mem_cons.mpr ⟨fun As h r z => d284 (w := w) hD hz As h r z, ?_⟩
  refine List.forall_mem_cons.mpr ⟨fun As h r z => d285 (w := w) hD hz As h r z, ?_⟩
  exact fun _ z => by cases z
def dE_11 (L : Nat) (xs : Nat → Int32) (zf : Value) (w : Nat) : List (rm_M × dFn) := [(ah_M286, fun D As h => f286 L xs zf D w As h), (ah_M287, fun D As h => f287 L xs zf D w As h), (ah_M288, fun D As h => f288 L xs zf D w As h), (ah_M289, fun D As h => f289 L xs zf D w As h), (ah_M290, fun D As h => f290 L xs zf D w As h), (ah_M291, fun D As h => f291 L xs zf D w As h), (ah_M292, fun D As h => f292 L xs zf D w As h), (ah_M293, fun D As h => f293 L xs zf D w As h), (ah_M294, fun D As h => f294 L xs zf D w As h), (ah_M295, fun D As h => f295 L xs zf D w As h), (ah_M296, fun D As h => f296 L xs zf D w As h), (ah_M297, fun D As h => f297 L xs zf D w As h), (ah_M298, fun D As h => f298 L xs zf D w As h), (ah_M299, fun D As h => f299 L xs zf D w As h), (ah_M300, fun D As h => f300 L xs zf D w As h), (ah_M301, fun D As h => f301 L xs zf D w As h), (ah_M302, fun D As h => f302 L xs zf D w As h), (ah_M303, fun D As h => f303 L xs zf D w As h), (ah_M304, fun D As h => f304 L xs zf D w As h), (ah_M305, fun D As h => f305 L xs zf D w As h), (ah_M306, fun D As h => f306 L xs zf D w As h), (ah_M307, fun D As h => f307 L xs zf D w As h), (ah_M308, fun D As h => f308 L xs zf D w As h), (ah_M309, fun D As h => f309 L xs zf D w As h), (ah_M310, fun D As h => f310 L xs zf D w As h), (ah_M311, fun D As h => f311 L xs zf D w As h)]
theorem dEo_11 {L : Nat} {xs : Nat → Int32} {zf : Value} {D : dD} {k : Nat} (w : Nat) (hD : dO L xs zf D k) (hz : zf.category = 1) : ∀ p ∈ dE_11 L xs zf w, dok L xs zf D k p := by
  unfold dE_11
  refine List.forall_mem_cons.mpr ⟨fun As h r z => d286 (w := w) hD hz As h r z, ?_⟩
  refine List.forall_mem_cons.mpr ⟨fun As h r z => d287 (w := w) hD hz As h r z, ?_⟩
  refine List.forall_mem_cons.mpr ⟨fun As h r z => d288 (w := w) hD hz As h r z, ?_⟩
  refine List.forall_mem_cons.mpr ⟨fun As h r z => d289 (w := w) hD hz As h r z, ?_⟩
  refine List.forall_mem_cons.mpr ⟨fun As h r z => d290 (w := w) hD hz As h r z, ?_⟩
  refine List.forall_mem_cons.mpr ⟨fun As h r z => d291 (w := w) hD hz As h r z, ?_⟩
  refine List.forall_mem_cons.mpr ⟨fun As h r z => d292 (w := w) hD hz As h r z, ?_⟩
  refine List.forall_mem_cons.mpr ⟨fun As h r z => d293 (w := w) hD hz As h r z, ?_⟩
  refine List.forall_mem_cons.mpr ⟨fun As h r z => d294 (w := w) hD hz As h r z, ?_⟩
  refine List.forall_mem_cons.mpr ⟨fun As h r z => d295 (w := w) hD hz As h r z, ?_⟩
  refine List.forall_mem_cons.mpr ⟨fun As h r z => d296 (w := w) hD hz As h r z, ?_⟩
  refine List.forall_mem_cons.mpr ⟨fun As h r z => d297 (w := w) hD hz As h r z, ?_⟩
  refine List.forall_mem_cons.mpr ⟨fun As h r z => d298 (w := w) hD hz As h r z, ?_⟩
  refine List.forall_mem_cons.mpr ⟨fun As h r z => d299 (w := w) hD hz As h r z, ?_⟩
  refine List.forall_mem_cons.mpr ⟨fun As h r z => d300 (w := w) hD hz As h r z, ?_⟩
  refine List.forall_mem_cons.mpr ⟨fun As h r z => d301 (w := w) hD hz As h r z, ?_⟩
  refine List.forall_mem_cons.mpr ⟨fun As h r z => d302 (w := w) hD hz As h r z, ?_⟩
  refine List.forall_mem_cons.mpr ⟨fun As h r z => d303 (w := w) hD hz As h r z, ?_⟩
  refine List.forall_mem_cons.mpr ⟨fun As h r z => d304 (w := w) hD hz As h r z, ?_⟩
  refine List.forall_mem_cons.mpr ⟨fun As h r z => d305 (w := w) hD hz As h r z, ?_⟩
  refine List.forall_mem_cons.mpr ⟨fun As h r z => d306 (w := w) hD hz As h r z, ?_⟩
  refine List.forall_mem_cons.mpr ⟨fun As h r z => d307 (w := w) hD hz As h r z, ?_⟩
  refine List.forall_mem_cons.mpr ⟨fun As h r z => d308 (w := w) hD hz As h r z, ?_⟩
  refine List.forall_mem_cons.mpr ⟨fun As h r z => d309 (w := w) hD hz As h r z, ?_⟩
  refine List.forall_mem_cons.mpr ⟨fun As h r z => d310 (w := w) hD hz As h r z, ?_⟩
  refine List.forall_mem_cons.mpr ⟨fun As h r z => d311 (w := w) hD hz As h r z, ?_⟩
  exact fun _ z => by cases z
def dE_12 (L : Nat) (xs : Nat → Int32) (zf : Value) (w : Nat) : List (rm_M × dFn) := [(ah_M312, fun D As h => f312 L xs zf D w As h), (ah_M313, fun D As h => f313 L xs zf D w As h), (ah_M314, fun D As h => f314 L xs zf D w As h), (ah_M315, fun D As h => f315 L xs zf D w As h), (ah_M316, fun D As h => f316 L xs zf D w As h), (ah_M317, fun D As h => f317 L xs zf D w As h), (ah_M318, fun D As h => f318 L xs zf D w As h), (ah_M319, fun D As h => f319 L xs zf D w As h), (ah_M320, fun D As h => f320 L xs zf D w As h), (ah_M321, fun D As h => f321 L xs zf D w As h), (ah_M322, fun D As h => f322 L xs zf D w As h), (ah_M323, fun D As h => f323 L xs zf D w As h), (ah_M324, fun D As h => f324 L xs zf D w As h), (ah_M325, fun D As h => f325 L xs zf D w As h), (ah_M326, fun D As h => f326 L xs zf D w As h), (ah_M327, fun D As h => f327 L xs zf D w As h), (ah_M328, fun D As h => f328 L xs zf D w As h), (ah_M329, fun D As h => f329 L xs zf D w As h), (ah_M330, fun D As h => f330 L xs zf D w As h), (ah_M331, fun D As h => f331 L xs zf D w As h), (ah_M332, fun D As h => f332 L xs zf D w As h), (ah_M333, fun D As h => f333 L xs zf D w As h), (ah_M334, fun D As h => f334 L xs zf D w As h), (ah_M335, fun D As h => f335 L xs zf D w As h), (ah_M336, fun D As h => f336 L xs zf D w As h), (ah_M337, fun D As h => f337 L xs zf D w As h)]
theorem dEo_12 {L : Nat} {xs : Nat → Int32} {zf : Value} {D : dD} {k : Nat} (w : Nat) (hD : dO L xs zf D k) (hz : zf.category = 1) : ∀ p ∈ dE_12 L xs zf w, dok L xs zf D k p := by
  unfold dE_12
  refine List.forall_mem_cons.mpr ⟨fun As h r z => d312 (w := w) hD hz As h r z, ?_⟩
  refine List.forall_mem_cons.mpr ⟨fun As h r z => d313 (w := w) hD hz As h r z, ?_⟩
  refine List.forall_mem_cons.mpr ⟨fun As h r z => d314 (w := w) hD hz As h r z, ?_⟩
  refine List.forall_mem_cons.mpr ⟨fun As h r z => d315 (w := w) hD hz As h r z, ?_⟩
  refine List.forall_mem_cons.mpr ⟨fun As h r z => d316 (w := w) hD hz As h r z, ?_⟩
  refine List.forall_mem_cons.mpr ⟨fun As h r z => d317 (w := w) hD hz As h r z, ?_⟩
  refine List.forall_mem_cons.mpr ⟨fun As h r z => d318 (w := w) hD hz As h r z, ?_⟩
  refine List.forall_mem_cons.mpr ⟨fun As h r z => d319 (w := w) hD hz As h r z, ?_⟩
  refine List.forall_mem_cons.mpr ⟨fun As h r z => d320 (w := w) hD hz As h r z, ?_⟩
  refine List.forall_mem_cons.mpr ⟨fun As h r z => d321 (w := w) hD hz As h r z, ?_⟩
  refine List.forall_mem_cons.mpr ⟨fun As h r z => d322 (w := w) hD hz As h r z, ?_⟩
  refine List.forall_mem_cons.mpr ⟨fun As h r z => d323 (w := w) hD hz As h r z, ?_⟩
  refine List.forall_mem_cons.mpr ⟨fun As h r z => d324 (w := w) hD hz As h r z, ?_⟩
  refine List.forall_mem_cons.mpr ⟨fun As h r z => d325 (w := w) hD hz As h r z, ?_⟩
  refine List.forall_mem_cons.mpr ⟨fun As h r z => d326 (w := w) hD hz As h r z, ?_⟩
  refine List.forall_mem_cons.mpr ⟨fun As h r z => d327 (w := w) hD hz As h r z, ?_⟩
  refine List.forall_mem_cons.mpr ⟨fun As h r z => d328 (w := w) hD hz As h r z, ?_⟩
  refine List.forall_mem_cons.mpr ⟨fun As h r z => d329 (w := w) hD hz As h r z, ?_⟩
  refine List.forall_mem_cons.mpr ⟨fun As h r z => d330 (w := w) hD hz As h r z, ?_⟩
  refine List.forall_mem_cons.mpr ⟨fun As h r z => d331 (w := w) hD hz As h r z, ?_⟩
  refine List.forall_mem_cons.mpr ⟨fun As h r z => d332 (w := w) hD hz As h r z, ?_⟩
  refine List.forall_mem_cons.mpr ⟨fun As h r z => d333 (w := w) hD hz As h r z, ?_⟩
  refine List.forall_mem_cons.mpr ⟨fun As h r z => d334 (w := w) hD hz As h r z, ?_⟩
  refine List.forall_mem_cons.mpr ⟨fun As h r z => d335 (w := w) hD hz As h r z, ?_⟩
  refine List.forall_mem_cons.mpr ⟨fun As h r z => d336 (w := w) hD hz As h r z, ?_⟩
  refine List.forall_mem_cons.mpr ⟨fun As h r z => d337 (w := w) hD hz As h r z, ?_⟩
  exact fun _ z => by cases z
def dE_13 (L : Nat) (xs : Nat → Int32) (zf : Value) (w : Nat) : List (rm_M × dFn) := [(ah_M338, fun D As h => f338 L xs zf D w As h), (ah_M339, fun D As h => f339 L xs zf D w As h), (ah_M340, fun D As h => f340 L xs zf D w As h), (ah_M341, fun D As h => f341 L xs zf D w As h), (ah_M342, fun D As h => f342 L xs zf D w As h), (ah_M343, fun D As h => f343 L xs zf D w As h), (ah_M344, fun D As h => f344 L xs zf D w As h), (ah_M345, fun D As h => f345 L xs zf D w As h), (ah_M346, fun D As h => f346 L xs zf D w As h), (ah_M347, fun D As h => f347 L xs zf D w As h), (ah_M348, fun D As h => f348 L xs zf D w As h), (ah_M349, fun D As h => f349 L xs zf D w As h), (ah_M350, fun D As h => f350 L xs zf D w As h), (ah_M351, fun D As h => f351 L xs zf D w As h), (ah_M352, fun D As h => f352 L xs zf D w As h), (ah_M353, fun D As h => f353 L xs zf D w As h), (ah_M354, fun D As h => f354 L xs zf D w As h), (ah_M355, fun D As h => f355 L xs zf D w As h), (ah_M356, fun D As h => f356 L xs zf D w As h), (ah_M357, fun D As h => f357 L xs zf D w As h), (ah_M358, fun D As h => f358 L xs zf D w As h), (ah_M359, fun D As h => f359 L xs zf D w As h), (ah_M360, fun D As h => f360 L xs zf D w As h), (ah_M361, fun D As h => f361 L xs zf D w As h), (ah_M362, fun D As h => f362 L xs zf D w As h), (ah_M363, fun D As h => f363 L xs zf D w As h)]
theorem dEo_13 {L : Nat} {xs : Nat → Int32} {zf : Value} {D : dD} {k : Nat} (w : Nat) (hD : dO L xs zf D k) (hz : zf.category = 1) : ∀ p ∈ dE_13 L xs zf w, dok L xs zf D k p := by
  unfold dE_13
  refine List.forall_mem_cons.mpr ⟨fun As h r z => d338 (w := w) hD hz As h r z, ?_⟩
  refine List.forall_mem_cons.mpr ⟨fun As h r z => d339 (w := w) hD hz As h r z, ?_⟩
  refine List.forall_mem_cons.mpr ⟨fun As h r z => d340 (w := w) hD hz As h r z, ?_⟩
  refine List.forall_mem_cons.mpr ⟨fun As h r z => d341 (w := w) hD hz As h r z, ?_⟩
  refine List.forall_mem_cons.mpr ⟨fun As h r z => d342 (w := w) hD hz As h r z, ?_⟩
  refine List.forall_mem_cons.mpr ⟨fun As h r z => d343 (w := w) hD hz As h r z, ?_⟩
  refine List.forall_mem_cons.mpr ⟨fun As h r z => d344 (w := w) hD hz As h r z, ?_⟩
  refine List.forall_mem_cons.mpr ⟨fun As h r z => d345 (w := w) hD hz As h r z, ?_⟩
  refine List.forall_mem_cons.mpr ⟨fun As h r z => d346 (w := w) hD hz As h r z, ?_⟩
  refine List.forall_mem_cons.mpr ⟨fun As h r z => d347 (w := w) hD hz As h r z, ?_⟩
  refine List.forall_mem_cons.mpr ⟨fun As h r z => d348 (w := w) hD hz As h r z, ?_⟩
  refine List.forall_mem_cons.mpr ⟨fun As h r z => d349 (w := w) hD hz As h r z, ?_⟩
  refine List.forall_mem_cons.mpr ⟨fun As h r z => d350 (w := w) hD hz As h r z, ?_⟩
  refine List.forall_mem_cons.mpr ⟨fun As h r z => d351 (w := w) hD hz As h r z, ?_⟩
  refine List.forall_mem_cons.mpr ⟨fun As h r z => d352 (w := w) hD hz As h r z, ?_⟩
  refine List.forall_mem_cons.mpr ⟨fun As h r z => d353 (w := w) hD hz As h r z, ?_⟩
  refine List.forall_mem_cons.mpr ⟨fun As h r z => d354 (w := w) hD hz As h r z, ?_⟩
  refine List.forall_mem_cons.mpr ⟨fun As h r z => d355 (w := w) hD hz As h r z, ?_⟩
  refine List.forall_mem_cons.mpr ⟨fun As h r z => d356 (w := w) hD hz As h r z, ?_⟩
  refine List.forall_mem_cons.mpr ⟨fun As h r z => d357 (w := w) hD hz As h r z, ?_⟩
  refine List.forall_mem_cons.mpr ⟨fun As h r z => d358 (w := w) hD hz As h r z, ?_⟩
  refine List.forall_mem_cons.mpr ⟨fun As h r z => d359 (w := w) hD hz As h r z, ?_⟩
  refine List.forall_mem_cons.mpr ⟨fun As h r z => d360 (w := w) hD hz As h r z, ?_⟩
  refine List.forall_mem_cons.mpr ⟨fun As h r z => d361 (w := w) hD hz As h r z, ?_⟩
  refine List.forall_mem_cons.mpr ⟨fun As h r z => d362 (w := w) hD hz As h r z, ?_⟩
  refine List.forall_mem_cons.mpr ⟨fun As h r z => d363 (w := w) hD hz As h r z, ?_⟩
  exact fun _ z => by cases z
def dE_14 (L : Nat) (xs : Nat → Int32) (zf : Value) (w : Nat) : List (rm_M × dFn) := [(ah_M364, fun D As h => f364 L xs zf D w As h), (ah_M365, fun D As h => f365 L xs zf D w As h), (ah_M366, fun D As h => f366 L xs zf D w As h), (ah_M367, fun D As h => f367 L xs zf D w As h), (ah_M368, fun D As h => f368 L xs zf D w As h), (ah_M369, fun D As h => f369 L xs zf D w As h), (ah_M370, fun D As h => f370 L xs zf D w As h), (ah_M371, fun D As h => f371 L xs zf D w As h), (ah_M372, fun D As h => f372 L xs zf D w As h), (ah_M373, fun D As h => f373 L xs zf D w As h), (ah_M374, fun D As h => f374 L xs zf D w As h), (ah_M375, fun D As h => f375 L xs zf D w As h), (ah_M376, fun D As h => f376 L xs zf D w As h), (ah_M377, fun D As h => f377 L xs zf D w As h), (ah_M378, fun D As h => f378 L xs zf D w As h), (ah_M379, fun D As h => f379 L xs zf D w As h), (ah_M380, fun D As h => f380 L xs zf D w As h), (ah_M381, fun D As h => f381 L xs zf D w As h), (ah_M382, fun D As h => f382 L xs zf D w As h), (ah_M383, fun D As h => f383 L xs zf D w As h), (ah_M384, fun D As h => f384 L xs zf D w As h), (ah_M385, fun D As h => f385 L xs zf D w As h), (ah_M386, fun D As h => f386 L xs zf D w As h), (ah_M387, fun D As h => f387 L xs zf D w As h), (ah_M388, fun D As h => f388 L xs zf D w As h), (ah_M389, fun D As h => f389 L xs zf D w As h)]
theorem dEo_14 {L : Nat} {xs : Nat → Int32} {zf : Value} {D : dD} {k : Nat} (w : Nat) (hD : dO L xs zf D k) (hz : zf.category = 1) : ∀ p ∈ dE_14 L xs zf w, dok L xs zf D k p := by
  unfold dE_14
  refine List.forall_mem_cons.mpr ⟨fun As h r z => d364 (w := w) hD hz As h r z, ?_⟩
  refine List.forall_mem_cons.mpr ⟨fun As h r z => d365 (w := w) hD hz As h r z, ?_⟩
  refine List.forall_mem_cons.mpr ⟨fun As h r z => d366 (w := w) hD hz As h r z, ?_⟩
  refine List.forall_mem_cons.mpr ⟨fun As h r z => d367 (w := w) hD hz As h r z, ?_⟩
  refine List.forall_mem_cons.mpr ⟨fun As h r z => d368 (w := w) hD hz As h r z, ?_⟩
  refine List.forall_mem_cons.mpr ⟨fun As h r z => d369 (w := w) hD hz As h r z, ?_⟩
  refine List.forall_mem_cons.mpr ⟨fun As h r z => d370 (w := w) hD hz As h r z, ?_⟩
  refine List.forall_mem_cons.mpr ⟨fun As h r z => d371 (w := w) hD hz As h r z, ?_⟩
  refine List.forall_mem_cons.mpr ⟨fun As h r z => d372 (w := w) hD hz As h r z, ?_⟩
  refine List.forall_mem_cons.mpr ⟨fun As h r z => d373 (w := w) hD hz As h r z, ?_⟩
  refine List.forall_mem_cons.mpr ⟨fun As h r z => d374 (w := w) hD hz As h r z, ?_⟩
  refine List.forall_mem_cons.mpr ⟨fun As h r z => d375 (w := w) hD hz As h r z, ?_⟩
  refine List.forall_mem_cons.mpr ⟨fun As h r z => d376 (w := w) hD hz As h r z, ?_⟩
  refine List.forall_mem_cons.mpr ⟨fun As h r z => d377 (w := w) hD hz As h r z, ?_⟩
  refine List.forall_mem_cons.mpr ⟨fun As h r z => d378 (w := w) hD hz As h r z, ?_⟩
  refine List.forall_mem_cons.mpr ⟨fun As h r z => d379 (w := w) hD hz As h r z, ?_⟩
  refine List.forall_mem_cons.mpr ⟨fun As h r z => d380 (w := w) hD hz As h r z, ?_⟩
  refine List.forall_mem_cons.mpr ⟨fun As h r z => d381 (w := w) hD hz As h r z, ?_⟩
  refine List.forall_mem_cons.mpr ⟨fun As h r z => d382 (w := w) hD hz As h r z, ?_⟩
  refine List.forall_mem_cons.mpr ⟨fun As h r z => d383 (w := w) hD hz As h r z, ?_⟩
  refine List.forall_mem_cons.mpr ⟨fun As h r z => d384 (w := w) hD hz As h r z, ?_⟩
  refine List.forall_mem_cons.mpr ⟨fun As h r z => d385 (w := w) hD hz As h r z, ?_⟩
  refine List.forall_mem_cons.mpr ⟨fun As h r z => d386 (w := w) hD hz As h r z, ?_⟩
  refine List.forall_mem_cons.mpr ⟨fun As h r z => d387 (w := w) hD hz As h r z, ?_⟩
  refine List.forall_mem_cons.mpr ⟨fun As h r z => d388 (w := w) hD hz As h r z, ?_⟩
  refine List.forall_mem_cons.mpr ⟨fun As h r z => d389 (w := w) hD hz As h r z, ?_⟩
  exact fun _ z => by cases z
def dE_15 (L : Nat) (xs : Nat → Int32) (zf : Value) (w : Nat) : List (rm_M × dFn) := [(ah_M390, fun D As h => f390 L xs zf D w As h), (ah_M391, fun D As h => f391 L xs zf D w As h), (ah_M392, fun D As h => f392 L xs zf D w As h), (ah_M393, fun D As h => f393 L xs zf D w As h), (ah_M394, fun D As h => f394 L xs zf D w As h), (ah_M395, fun D As h => f395 L xs zf D w As h), (ah_M396, fun D As h => f396 L xs zf D w As h), (ah_M397, fun D As h => f397 L xs zf D w As h), (ah_M398, fun D As h => f398 L xs zf D w As h), (ah_M399, fun D As h => f399 L xs zf D w As h), (ah_M400, fun D As h => f400 L xs zf D w As h), (ah_M401, fun D As h => f401 L xs zf D w As h), (ah_M402, fun D As h => f402 L xs zf D w As h), (ah_M403, fun D As h => f403 L xs zf D w As h), (ah_M404, fun D As h => f404 L xs zf D w As h), (ah_M405, fun D As h => f405 L xs zf D w As h), (ah_M406, fun D As h => f406 L xs zf D w As h), (ah_M407, fun D As h => f407 L xs zf D w As h), (ah_M408, fun D As h => f408 L xs zf D w As h), (ah_M409, fun D As h => f409 L xs zf D w As h), (ah_M410, fun D As h => f410 L xs zf D w As h), (ah_M411, fun D As h => f411 L xs zf D w As h), (ah_M412, fun D As h => f412 L xs zf D w As h), (ah_M413, fun D As h => f413 L xs zf D w As h)]
theorem dEo_15 {L : Nat} {xs : Nat → Int32} {zf : Value} {D : dD} {k : Nat} (w : Nat) (hD : dO L xs zf D k) (hz : zf.category = 1) : ∀ p ∈ dE_15 L xs zf w, dok L xs zf D k p := by
  unfold dE_15
  refine List.forall_mem_cons.mpr ⟨fun As h r z => d390 (w := w) hD hz As h r z, ?_⟩
  refine List.forall_mem_cons.mpr ⟨fun As h r z => d391 (w := w) hD hz As h r z, ?_⟩
  refine List.forall_mem_cons.mpr ⟨fun As h r z => d392 (w := w) hD hz As h r z, ?_⟩
  refine List.forall_mem_cons.mpr ⟨fun As h r z => d393 (w := w) hD hz As h r z, ?_⟩
  refine List.forall_mem_cons.mpr ⟨fun As h r z => d394 (w := w) hD hz As h r z, ?_⟩
  refine List.forall_mem_cons.mpr ⟨fun As h r z => d395 (w := w) hD hz As h r z, ?_⟩
  refine List.forall_mem_cons.mpr ⟨fun As h r z => d396 (w := w) hD hz As h r z, ?_⟩
  refine List.forall_mem_cons.mpr ⟨fun As h r z => d397 (w := w) hD hz As h r z, ?_⟩
  refine List.forall_mem_cons.mpr ⟨fun As h r z => d398 (w := w) hD hz As h r z, ?_⟩
  refine List.forall_mem_cons.mpr ⟨fun As h r z => d399 (w := w) hD hz As h r z, ?_⟩
  refine List.forall_mem_cons.mpr ⟨fun As h r z => d400 (w := w) hD hz As h r z, ?_⟩
  refine List.forall_mem_cons.mpr ⟨fun As h r z => d401 (w := w) hD hz As h r z, ?_⟩
  refine List.forall_mem_cons.mpr ⟨fun As h r z => d402 (w := w) hD hz As h r z, ?_⟩
  refine List.forall_mem_cons.mpr ⟨fun As h r z => d403 (w := w) hD hz As h r z, ?_⟩
  refine List.forall_mem_cons.mpr ⟨fun As h r z => d404 (w := w) hD hz As h r z, ?_⟩
  refine List.forall_mem_cons.mpr ⟨fun As h r z => d405 (w := w) hD hz As h r z, ?_⟩
  refine List.forall_mem_cons.mpr ⟨fun As h r z => d406 (w := w) hD hz As h r z, ?_⟩
  refine List.forall_mem_cons.mpr ⟨fun As h r z => d407 (w := w) hD hz As h r z, ?_⟩
  refine List.forall_mem_cons.mpr ⟨fun As h r z => d408 (w := w) hD hz As h r z, ?_⟩
  refine List.forall_mem_cons.mpr ⟨fun As h r z => d409 (w := w) hD hz As h r z, ?_⟩
  refine List.forall_mem_cons.mpr ⟨fun As h r z => d410 (w := w) hD hz As h r z, ?_⟩
  refine List.forall_mem_cons.mpr ⟨fun As h r z => d411 (w := w) hD hz As h r z, ?_⟩
  refine List.forall_mem_cons.mpr ⟨fun As h r z => d412 (w := w) hD hz As h r z, ?_⟩
  refine List.forall_mem_cons.mpr ⟨fun As h r z => d413 (w := w) hD hz As h r z, ?_⟩
  exact fun _ z => by cases z
def dE (L : Nat) (xs : Nat → Int32) (zf : Value) (w : Nat) : List (rm_M × dFn) := dE_0 L xs zf w ++ (dE_1 L xs zf w ++ (dE_2 L xs zf w ++ (dE_3 L xs zf w ++ (dE_4 L xs zf w ++ (dE_5 L xs zf w ++ (dE_6 L xs zf w ++ (dE_7 L xs zf w ++ (dE_8 L xs zf w ++ (dE_9 L xs zf w ++ (dE_10 L xs zf w ++ (dE_11 L xs zf w ++ (dE_12 L xs zf w ++ (dE_13 L xs zf w ++ (dE_14 L xs zf w ++ (dE_15 L xs zf w)))))))))))))))
set_option maxRecDepth 20000 in
theorem dE_P (L : Nat) (xs : Nat → Int32) (zf : Value) (w : Nat) : (dE L xs zf w).map Prod.fst = ah_P := rfl
theorem dE_o {L : Nat} {xs : Nat → Int32} {zf : Value} {D : dD} {k : Nat} (w : Nat) (hD : dO L xs zf D k) (hz : zf.category = 1) : ∀ p ∈ dE L xs zf w, dok L xs zf D k p := by
  intro p hp
  unfold dE at hp
  rcases List.mem_append.mp hp with hp | hp
  · exact dEo_0 w hD hz p hp
  rcases List.mem_append.mp hp with hp | hp
  · exact dEo_1 w hD hz p hp
  rcases List.mem_append.mp hp with hp | hp
  · exact dEo_2 w hD hz p hp
  rcases List.mem_append.mp hp with hp | hp
  · exact dEo_3 w hD hz p hp
  rcases List.mem_append.mp hp with hp | hp
  · exact dEo_4 w hD hz p hp
  rcases List.mem_append.mp hp with hp | hp
  · exact dEo_5 w hD hz p hp
  rcases List.mem_append.mp hp with hp | hp
  · exact dEo_6 w hD hz p hp
  rcases List.mem_append.mp hp with hp | hp
  · exact dEo_7 w hD hz p hp
  rcases List.mem_append.mp hp with hp | hp
  · exact dEo_8 w hD hz p hp
  rcases List.mem_append.mp hp with hp | hp
  · exact dEo_9 w hD hz p hp
  rcases List.mem_append.mp hp with hp | hp
  · exact dEo_10 w hD hz p hp
  rcases List.mem_append.mp hp with hp | hp
  · exact dEo_11 w hD hz p hp
  rcases List.mem_append.mp hp with hp | hp
  · exact dEo_12 w hD hz p hp
  rcases List.mem_append.mp hp with hp | hp
  · exact dEo_13 w hD hz p hp
  rcases List.mem_append.mp hp with hp | hp
  · exact dEo_14 w hD hz p hp
  exact dEo_15 w hD hz p hp
def dM (L : Nat) (xs : Nat → Int32) (zf : Value) (w : Nat) : Nat → dD
  | 0 => fun _ _ _ => none
  | k + 1 => fun mi As h => match (dE L xs zf w)[mi]? with
    | some p => p.2 (dM L xs zf w k) As h
    | none => none
theorem dM_O {L : Nat} {xs : Nat → Int32} {zf : Value} (w : Nat) (hz : zf.category = 1) : ∀ k : Nat, dO L xs zf (dM L xs zf w k) k
  | 0 => fun _ _ _ _ _ _ hq => by cases hq
  | k + 1 => by
    intro mi M As h r hP hq
    rw [← dE_P L xs zf w, List.getElem?_map] at hP
    have hq : (match (dE L xs zf w)[mi]? with
      | some p => p.2 (dM L xs zf w k) As h
      | none => none) = some r := hq
    cases e : (dE L xs zf w)[mi]? with
    | none => rw [e] at hP; cases hP
    | some p =>
      rw [e] at hP hq
      cases hP
      exact dE_o w (dM_O w hz k) hz p (List.mem_of_getElem? e) As h r hq
theorem e1 (L : Nat) (xs : Nat → Int32) (zf : Value) (w : Nat) (k : Nat) (As : List Value) (h : rm_H) : dM L xs zf w (k + 1) 1 As h = f1 L xs zf (dM L xs zf w k) w As h := rfl
theorem e3 (L : Nat) (xs : Nat → Int32) (zf : Value) (w : Nat) (k : Nat) (As : List Value) (h : rm_H) : dM L xs zf w (k + 1) 3 As h = f3 L xs zf (dM L xs zf w k) w As h := rfl
theorem e4 (L : Nat) (xs : Nat → Int32) (zf : Value) (w : Nat) (k : Nat) (As : List Value) (h : rm_H) : dM L xs zf w (k + 1) 4 As h = f4 L xs zf (dM L xs zf w k) w As h := rfl
theorem e5 (L : Nat) (xs : Nat → Int32) (zf : Value) (w : Nat) (k : Nat) (As : List Value) (h : rm_H) : dM L xs zf w (k + 1) 5 As h = f5 L xs zf (dM L xs zf w k) w As h := rfl
theorem e6 (L : Nat) (xs : Nat → Int32) (zf : Value) (w : Nat) (k : Nat) (As : List Value) (h : rm_H) : dM L xs zf w (k + 1) 6 As h = f6 L xs zf (dM L xs zf w k) w As h := rfl
theorem e7 (L : Nat) (xs : Nat → Int32) (zf : Value) (w : Nat) (k : Nat) (As : List Value) (h : rm_H) : dM L xs zf w (k + 1) 7 As h = f7 L xs zf (dM L xs zf w k) w As h := rfl
theorem e8 (L : Nat) (xs : Nat → Int32) (zf : Value) (w : Nat) (k : Nat) (As : List Value) (h : rm_H) : dM L xs zf w (k + 1) 8 As h = f8 L xs zf (dM L xs zf w k) w As h := rfl
theorem e9 (L : Nat) (xs : Nat → Int32) (zf : Value) (w : Nat) (k : Nat) (As : List Value) (h : rm_H) : dM L xs zf w (k + 1) 9 As h = f9 L xs zf (dM L xs zf w k) w As h := rfl
theorem e10 (L : Nat) (xs : Nat → Int32) (zf : Value) (w : Nat) (k : Nat) (As : List Value) (h : rm_H) : dM L xs zf w (k + 1) 10 As h = f10 L xs zf (dM L xs zf w k) w As h := rfl
theorem e11 (L : Nat) (xs : Nat → Int32) (zf : Value) (w : Nat) (k : Nat) (As : List Value) (h : rm_H) : dM L xs zf w (k + 1) 11 As h = f11 L xs zf (dM L xs zf w k) w As h := rfl
theorem e12 (L : Nat) (xs : Nat → Int32) (zf : Value) (w : Nat) (k : Nat) (As : List Value) (h : rm_H) : dM L xs zf w (k + 1) 12 As h = f12 L xs zf (dM L xs zf w k) w As h := rfl
theorem e13 (L : Nat) (xs : Nat → Int32) (zf : Value) (w : Nat) (k : Nat) (As : List Value) (h : rm_H) : dM L xs zf w (k + 1) 13 As h = f13 L xs zf (dM L xs zf w k) w As h := rfl
theorem e14 (L : Nat) (xs : Nat → Int32) (zf : Value) (w : Nat) (k : Nat) (As : List Value) (h : rm_H) : dM L xs zf w (k + 1) 14 As h = f14 L xs zf (dM L xs zf w k) w As h := rfl
theorem e15 (L : Nat) (xs : Nat → Int32) (zf : Value) (w : Nat) (k : Nat) (As : List Value) (h : rm_H) : dM L xs zf w (k + 1) 15 As h = f15 L xs zf (dM L xs zf w k) w As h := rfl
theorem e16 (L : Nat) (xs : Nat → Int32) (zf : Value) (w : Nat) (k : Nat) (As : List Value) (h : rm_H) : dM L xs zf w (k + 1) 16 As h = f16 L xs zf (dM L xs zf w k) w As h := rfl
theorem e17 (L : Nat) (xs : Nat → Int32) (zf : Value) (w : Nat) (k : Nat) (As : List Value) (h : rm_H) : dM L xs zf w (k + 1) 17 As h = f17 L xs zf (dM L xs zf w k) w As h := rfl
theorem e18 (L : Nat) (xs : Nat → Int32) (zf : Value) (w : Nat) (k : Nat) (As : List Value) (h : rm_H) : dM L xs zf w (k + 1) 18 As h = f18 L xs zf (dM L xs zf w k) w As h := rfl
theorem e19 (L : Nat) (xs : Nat → Int32) (zf : Value) (w : Nat) (k : Nat) (As : List Value) (h : rm_H) : dM L xs zf w (k + 1) 19 As h = f19 L xs zf (dM L xs zf w k) w As h := rfl
theorem e20 (L : Nat) (xs : Nat → Int32) (zf : Value) (w : Nat) (k : Nat) (As : List Value) (h : rm_H) : dM L xs zf w (k + 1) 20 As h = f20 L xs zf (dM L xs zf w k) w As h := rfl
theorem e21 (L : Nat) (xs : Nat → Int32) (zf : Value) (w : Nat) (k : Nat) (As : List Value) (h : rm_H) : dM L xs zf w (k + 1) 21 As h = f21 L xs zf (dM L xs zf w k) w As h := rfl
theorem e22 (L : Nat) (xs : Nat → Int32) (zf : Value) (w : Nat) (k : Nat) (As : List Value) (h : rm_H) : dM L xs zf w (k + 1) 22 As h = f22 L xs zf (dM L xs zf w k) w As h := rfl
theorem e23 (L : Nat) (xs : Nat → Int32) (zf : Value) (w : Nat) (k : Nat) (As : List Value) (h : rm_H) : dM L xs zf w (k + 1) 23 As h = f23 L xs zf (dM L xs zf w k) w As h := rfl
theorem e24 (L : Nat) (xs : Nat → Int32) (zf : Value) (w : Nat) (k : Nat) (As : List Value) (h : rm_H) : dM L xs zf w (k + 1) 24 As h = f24 L xs zf (dM L xs zf w k) w As h := rfl
theorem e25 (L : Nat) (xs : Nat → Int32) (zf : Value) (w : Nat) (k : Nat) (As : List Value) (h : rm_H) : dM L xs zf w (k + 1) 25 As h = f25 L xs zf (dM L xs zf w k) w As h := rfl
theorem e26 (L : Nat) (xs : Nat → Int32) (zf : Value) (w : Nat) (k : Nat) (As : List Value) (h : rm_H) : dM L xs zf w (k + 1) 26 As h = f26 L xs zf (dM L xs zf w k) w As h := rfl
theorem e27 (L : Nat) (xs : Nat → Int32) (zf : Value) (w : Nat) (k : Nat) (As : List Value) (h : rm_H) : dM L xs zf w (k + 1) 27 As h = f27 L xs zf (dM L xs zf w k) w As h := rfl
theorem e28 (L : Nat) (xs : Nat → Int32) (zf : Value) (w : Nat) (k : Nat) (As : List Value) (h : rm_H) : dM L xs zf w (k + 1) 28 As h = f28 L xs zf (dM L xs zf w k) w As h := rfl
theorem e29 (L : Nat) (xs : Nat → Int32) (zf : Value) (w : Nat) (k : Nat) (As : List Value) (h : rm_H) : dM L xs zf w (k + 1) 29 As h = f29 L xs zf (dM L xs zf w k) w As h := rfl
theorem e30 (L : Nat) (xs : Nat → Int32) (zf : Value) (w : Nat) (k : Nat) (As : List Value) (h : rm_H) : dM L xs zf w (k + 1) 30 As h = f30 L xs zf (dM L xs zf w k) w As h := rfl
theorem e31 (L : Nat) (xs : Nat → Int32) (zf : Value) (w : Nat) (k : Nat) (As : List Value) (h : rm_H) : dM L xs zf w (k + 1) 31 As h = f31 L xs zf (dM L xs zf w k) w As h := rfl
theorem e32 (L : Nat) (xs : Nat → Int32) (zf : Value) (w : Nat) (k : Nat) (As : List Value) (h : rm_H) : dM L xs zf w (k + 1) 32 As h = f32 L xs zf (dM L xs zf w k) w As h := rfl
theorem e33 (L : Nat) (xs : Nat → Int32) (zf : Value) (w : Nat) (k : Nat) (As : List Value) (h : rm_H) : dM L xs zf w (k + 1) 33 As h = f33 L xs zf (dM L xs zf w k) w As h := rfl
theorem e34 (L : Nat) (xs : Nat → Int32) (zf : Value) (w : Nat) (k : Nat) (As : List Value) (h : rm_H) : dM L xs zf w (k + 1) 34 As h = f34 L xs zf (dM L xs zf w k) w As h := rfl
theorem e35 (L : Nat) (xs : Nat → Int32) (zf : Value) (w : Nat) (k : Nat) (As : List Value) (h : rm_H) : dM L xs zf w (k + 1) 35 As h = f35 L xs zf (dM L xs zf w k) w As h := rfl
theorem e36 (L : Nat) (xs : Nat → Int32) (zf : Value) (w : Nat) (k : Nat) (As : List Value) (h : rm_H) : dM L xs zf w (k + 1) 36 As h = f36 L xs zf (dM L xs zf w k) w As h := rfl
theorem e37 (L : Nat) (xs : Nat → Int32) (zf : Value) (w : Nat) (k : Nat) (As : List Value) (h : rm_H) : dM L xs zf w (k + 1) 37 As h = f37 L xs zf (dM L xs zf w k) w As h := rfl
theorem e38 (L : Nat) (xs : Nat → Int32) (zf : Value) (w : Nat) (k : Nat) (As : List Value) (h : rm_H) : dM L xs zf w (k + 1) 38 As h = f38 L xs zf (dM L xs zf w k) w As h := rfl
theorem e39 (L : Nat) (xs : Nat → Int32) (zf : Value) (w : Nat) (k : Nat) (As : List Value) (h : rm_H) : dM L xs zf w (k + 1) 39 As h = f39 L xs zf (dM L xs zf w k) w As h := rfl
theorem e40 (L : Nat) (xs : Nat → Int32) (zf : Value) (w : Nat) (k : Nat) (As : List Value) (h : rm_H) : dM L xs zf w (k + 1) 40 As h = f40 L xs zf (dM L xs zf w k) w As h := rfl
theorem e41 (L : Nat) (xs : Nat → Int32) (zf : Value) (w : Nat) (k : Nat) (As : List Value) (h : rm_H) : dM L xs zf w (k + 1) 41 As h = f41 L xs zf (dM L xs zf w k) w As h := rfl
theorem e42 (L : Nat) (xs : Nat → Int32) (zf : Value) (w : Nat) (k : Nat) (As : List Value) (h : rm_H) : dM L xs zf w (k + 1) 42 As h = f42 L xs zf (dM L xs zf w k) w As h := rfl
theorem e43 (L : Nat) (xs : Nat → Int32) (zf : Value) (w : Nat) (k : Nat) (As : List Value) (h : rm_H) : dM L xs zf w (k + 1) 43 As h = f43 L xs zf (dM L xs zf w k) w As h := rfl
theorem e44 (L : Nat) (xs : Nat → Int32) (zf : Value) (w : Nat) (k : Nat) (As : List Value) (h : rm_H) : dM L xs zf w (k + 1) 44 As h = f44 L xs zf (dM L xs zf w k) w As h := rfl
theorem e45 (L : Nat) (xs : Nat → Int32) (zf : Value) (w : Nat) (k : Nat) (As : List Value) (h : rm_H) : dM L xs zf w (k + 1) 45 As h = f45 L xs zf (dM L xs zf w k) w As h := rfl
theorem e46 (L : Nat) (xs : Nat → Int32) (zf : Value) (w : Nat) (k : Nat) (As : List Value) (h : rm_H) : dM L xs zf w (k + 1) 46 As h = f46 L xs zf (dM L xs zf w k) w As h := rfl
theorem e47 (L : Nat) (xs : Nat → Int32) (zf : Value) (w : Nat) (k : Nat) (As : List Value) (h : rm_H) : dM L xs zf w (k + 1) 47 As h = f47 L xs zf (dM L xs zf w k) w As h := rfl
theorem e48 (L : Nat) (xs : Nat → Int32) (zf : Value) (w : Nat) (k : Nat) (As : List Value) (h : rm_H) : dM L xs zf w (k + 1) 48 As h = f48 L xs zf (dM L xs zf w k) w As h := rfl
theorem e49 (L : Nat) (xs : Nat → Int32) (zf : Value) (w : Nat) (k : Nat) (As : List Value) (h : rm_H) : dM L xs zf w (k + 1) 49 As h = f49 L xs zf (dM L xs zf w k) w As h := rfl
theorem e50 (L : Nat) (xs : Nat → Int32) (zf : Value) (w : Nat) (k : Nat) (As : List Value) (h : rm_H) : dM L xs zf w (k + 1) 50 As h = f50 L xs zf (dM L xs zf w k) w As h := rfl
theorem e51 (L : Nat) (xs : Nat → Int32) (zf : Value) (w : Nat) (k : Nat) (As : List Value) (h : rm_H) : dM L xs zf w (k + 1) 51 As h = f51 L xs zf (dM L xs zf w k) w As h := rfl
theorem e52 (L : Nat) (xs : Nat → Int32) (zf : Value) (w : Nat) (k : Nat) (As : List Value) (h : rm_H) : dM L xs zf w (k + 1) 52 As h = f52 L xs zf (dM L xs zf w k) w As h := rfl
theorem e53 (L : Nat) (xs : Nat → Int32) (zf : Value) (w : Nat) (k : Nat) (As : List Value) (h : rm_H) : dM L xs zf w (k + 1) 53 As h = f53 L xs zf (dM L xs zf w k) w As h := rfl
theorem e54 (L : Nat) (xs : Nat → Int32) (zf : Value) (w : Nat) (k : Nat) (As : List Value) (h : rm_H) : dM L xs zf w (k + 1) 54 As h = f54 L xs zf (dM L xs zf w k) w As h := rfl
theorem e55 (L : Nat) (xs : Nat → Int32) (zf : Value) (w : Nat) (k : Nat) (As : List Value) (h : rm_H) : dM L xs zf w (k + 1) 55 As h = f55 L xs zf (dM L xs zf w k) w As h := rfl
theorem e56 (L : Nat) (xs : Nat → Int32) (zf : Value) (w : Nat) (k : Nat) (As : List Value) (h : rm_H) : dM L xs zf w (k + 1) 56 As h = f56 L xs zf (dM L xs zf w k) w As h := rfl
theorem e57 (L : Nat) (xs : Nat → Int32) (zf : Value) (w : Nat) (k : Nat) (As : List Value) (h : rm_H) : dM L xs zf w (k + 1) 57 As h = f57 L xs zf (dM L xs zf w k) w As h := rfl
theorem e58 (L : Nat) (xs : Nat → Int32) (zf : Value) (w : Nat) (k : Nat) (As : List Value) (h : rm_H) : dM L xs zf w (k + 1) 58 As h = f58 L xs zf (dM L xs zf w k) w As h := rfl
theorem e59 (L : Nat) (xs : Nat → Int32) (zf : Value) (w : Nat) (k : Nat) (As : List Value) (h : rm_H) : dM L xs zf w (k + 1) 59 As h = f59 L xs zf (dM L xs zf w k) w As h := rfl
theorem e60 (L : Nat) (xs : Nat → Int32) (zf : Value) (w : Nat) (k : Nat) (As : List Value) (h : rm_H) : dM L xs zf w (k + 1) 60 As h = f60 L xs zf (dM L xs zf w k) w As h := rfl
theorem e61 (L : Nat) (xs : Nat → Int32) (zf : Value) (w : Nat) (k : Nat) (As : List Value) (h : rm_H) : dM L xs zf w (k + 1) 61 As h = f61 L xs zf (dM L xs zf w k) w As h := rfl
theorem e62 (L : Nat) (xs : Nat → Int32) (zf : Value) (w : Nat) (k : Nat) (As : List Value) (h : rm_H) : dM L xs zf w (k + 1) 62 As h = f62 L xs zf (dM L xs zf w k) w As h := rfl
theorem e63 (L : Nat) (xs : Nat → Int32) (zf : Value) (w : Nat) (k : Nat) (As : List Value) (h : rm_H) : dM L xs zf w (k + 1) 63 As h = f63 L xs zf (dM L xs zf w k) w As h := rfl
theorem e64 (L : Nat) (xs : Nat → Int32) (zf : Value) (w : Nat) (k : Nat) (As : List Value) (h : rm_H) : dM L xs zf w (k + 1) 64 As h = f64 L xs zf (dM L xs zf w k) w As h := rfl
theorem e65 (L : Nat) (xs : Nat → Int32) (zf : Value) (w : Nat) (k : Nat) (As : List Value) (h : rm_H) : dM L xs zf w (k + 1) 65 As h = f65 L xs zf (dM L xs zf w k) w As h := rfl
theorem e66 (L : Nat) (xs : Nat → Int32) (zf : Value) (w : Nat) (k : Nat) (As : List Value) (h : rm_H) : dM L xs zf w (k + 1) 66 As h = f66 L xs zf (dM L xs zf w k) w As h := rfl
theorem e67 (L : Nat) (xs : Nat → Int32) (zf : Value) (w : Nat) (k : Nat) (As : List Value) (h : rm_H) : dM L xs zf w (k + 1) 67 As h = f67 L xs zf (dM L xs zf w k) w As h := rfl
theorem e68 (L : Nat) (xs : Nat → Int32) (zf : Value) (w : Nat) (k : Nat) (As : List Value) (h : rm_H) : dM L xs zf w (k + 1) 68 As h = f68 L xs zf (dM L xs zf w k) w As h := rfl
theorem e69 (L : Nat) (xs : Nat → Int32) (zf : Value) (w : Nat) (k : Nat) (As : List Value) (h : rm_H) : dM L xs zf w (k + 1) 69 As h = f69 L xs zf (dM L xs zf w k) w As h := rfl
theorem e70 (L : Nat) (xs : Nat → Int32) (zf : Value) (w : Nat) (k : Nat) (As : List Value) (h : rm_H) : dM L xs zf w (k + 1) 70 As h = f70 L xs zf (dM L xs zf w k) w As h := rfl
theorem e71 (L : Nat) (xs : Nat → Int32) (zf : Value) (w : Nat) (k : Nat) (As : List Value) (h : rm_H) : dM L xs zf w (k + 1) 71 As h = f71 L xs zf (dM L xs zf w k) w As h := rfl
theorem e72 (L : Nat) (xs : Nat → Int32) (zf : Value) (w : Nat) (k : Nat) (As : List Value) (h : rm_H) : dM L xs zf w (k + 1) 72 As h = f72 L xs zf (dM L xs zf w k) w As h := rfl
theorem e73 (L : Nat) (xs : Nat → Int32) (zf : Value) (w : Nat) (k : Nat) (As : List Value) (h : rm_H) : dM L xs zf w (k + 1) 73 As h = f73 L xs zf (dM L xs zf w k) w As h := rfl
theorem e74 (L : Nat) (xs : Nat → Int32) (zf : Value) (w : Nat) (k : Nat) (As : List Value) (h : rm_H) : dM L xs zf w (k + 1) 74 As h = f74 L xs zf (dM L xs zf w k) w As h := rfl
theorem e75 (L : Nat) (xs : Nat → Int32) (zf : Value) (w : Nat) (k : Nat) (As : List Value) (h : rm_H) : dM L xs zf w (k + 1) 75 As h = f75 L xs zf (dM L xs zf w k) w As h := rfl
theorem e76 (L : Nat) (xs : Nat → Int32) (zf : Value) (w : Nat) (k : Nat) (As : List Value) (h : rm_H) : dM L xs zf w (k + 1) 76 As h = f76 L xs zf (dM L xs zf w k) w As h := rfl
theorem e77 (L : Nat) (xs : Nat → Int32) (zf : Value) (w : Nat) (k : Nat) (As : List Value) (h : rm_H) : dM L xs zf w (k + 1) 77 As h = f77 L xs zf (dM L xs zf w k) w As h := rfl
theorem e78 (L : Nat) (xs : Nat → Int32) (zf : Value) (w : Nat) (k : Nat) (As : List Value) (h : rm_H) : dM L xs zf w (k + 1) 78 As h = f78 L xs zf (dM L xs zf w k) w As h := rfl
theorem e79 (L : Nat) (xs : Nat → Int32) (zf : Value) (w : Nat) (k : Nat) (As : List Value) (h : rm_H) : dM L xs zf w (k + 1) 79 As h = f79 L xs zf (dM L xs zf w k) w As h := rfl
theorem e80 (L : Nat) (xs : Nat → Int32) (zf : Value) (w : Nat) (k : Nat) (As : List Value) (h : rm_H) : dM L xs zf w (k + 1) 80 As h = f80 L xs zf (dM L xs zf w k) w As h := rfl
theorem e81 (L : Nat) (xs : Nat → Int32) (zf : Value) (w : Nat) (k : Nat) (As : List Value) (h : rm_H) : dM L xs zf w (k + 1) 81 As h = f81 L xs zf (dM L xs zf w k) w As h := rfl
theorem e82 (L : Nat) (xs : Nat → Int32) (zf : Value) (w : Nat) (k : Nat) (As : List Value) (h : rm_H) : dM L xs zf w (k + 1) 82 As h = f82 L xs zf (dM L xs zf w k) w As h := rfl
theorem e83 (L : Nat) (xs : Nat → Int32) (zf : Value) (w : Nat) (k : Nat) (As : List Value) (h : rm_H) : dM L xs zf w (k + 1) 83 As h = f83 L xs zf (dM L xs zf w k) w As h := rfl
theorem e84 (L : Nat) (xs : Nat → Int32) (zf : Value) (w : Nat) (k : Nat) (As : List Value) (h : rm_H) : dM L xs zf w (k + 1) 84 As h = f84 L xs zf (dM L xs zf w k) w As h := rfl
theorem e85 (L : Nat) (xs : Nat → Int32) (zf : Value) (w : Nat) (k : Nat) (As : List Value) (h : rm_H) : dM L xs zf w (k + 1) 85 As h = f85 L xs zf (dM L xs zf w k) w As h := rfl
theorem e86 (L : Nat) (xs : Nat → Int32) (zf : Value) (w : Nat) (k : Nat) (As : List Value) (h : rm_H) : dM L xs zf w (k + 1) 86 As h = f86 L xs zf (dM L xs zf w k) w As h := rfl
theorem e87 (L : Nat) (xs : Nat → Int32) (zf : Value) (w : Nat) (k : Nat) (As : List Value) (h : rm_H) : dM L xs zf w (k + 1) 87 As h = f87 L xs zf (dM L xs zf w k) w As h := rfl
theorem e88 (L : Nat) (xs : Nat → Int32) (zf : Value) (w : Nat) (k : Nat) (As : List Value) (h : rm_H) : dM L xs zf w (k + 1) 88 As h = f88 L xs zf (dM L xs zf w k) w As h := rfl
theorem e89 (L : Nat) (xs : Nat → Int32) (zf : Value) (w : Nat) (k : Nat) (As : List Value) (h : rm_H) : dM L xs zf w (k + 1) 89 As h = f89 L xs zf (dM L xs zf w k) w As h := rfl
theorem e90 (L : Nat) (xs : Nat → Int32) (zf : Value) (w : Nat) (k : Nat) (As : List Value) (h : rm_H) : dM L xs zf w (k + 1) 90 As h = f90 L xs zf (dM L xs zf w k) w As h := rfl
theorem e91 (L : Nat) (xs : Nat → Int32) (zf : Value) (w : Nat) (k : Nat) (As : List Value) (h : rm_H) : dM L xs zf w (k + 1) 91 As h = f91 L xs zf (dM L xs zf w k) w As h := rfl
theorem e92 (L : Nat) (xs : Nat → Int32) (zf : Value) (w : Nat) (k : Nat) (As : List Value) (h : rm_H) : dM L xs zf w (k + 1) 92 As h = f92 L xs zf (dM L xs zf w k) w As h := rfl
theorem e93 (L : Nat) (xs : Nat → Int32) (zf : Value) (w : Nat) (k : Nat) (As : List Value) (h : rm_H) : dM L xs zf w (k + 1) 93 As h = f93 L xs zf (dM L xs zf w k) w As h := rfl
theorem e94 (L : Nat) (xs : Nat → Int32) (zf : Value) (w : Nat) (k : Nat) (As : List Value) (h : rm_H) : dM L xs zf w (k + 1) 94 As h = f94 L xs zf (dM L xs zf w k) w As h := rfl
theorem e95 (L : Nat) (xs : Nat → Int32) (zf : Value) (w : Nat) (k : Nat) (As : List Value) (h : rm_H) : dM L xs zf w (k + 1) 95 As h = f95 L xs zf (dM L xs zf w k) w As h := rfl
theorem e96 (L : Nat) (xs : Nat → Int32) (zf : Value) (w : Nat) (k : Nat) (As : List Value) (h : rm_H) : dM L xs zf w (k + 1) 96 As h = f96 L xs zf (dM L xs zf w k) w As h := rfl
theorem e97 (L : Nat) (xs : Nat → Int32) (zf : Value) (w : Nat) (k : Nat) (As : List Value) (h : rm_H) : dM L xs zf w (k + 1) 97 As h = f97 L xs zf (dM L xs zf w k) w As h := rfl
theorem e98 (L : Nat) (xs : Nat → Int32) (zf : Value) (w : Nat) (k : Nat) (As : List Value) (h : rm_H) : dM L xs zf w (k + 1) 98 As h = f98 L xs zf (dM L xs zf w k) w As h := rfl
theorem e99 (L : Nat) (xs : Nat → Int32) (zf : Value) (w : Nat) (k : Nat) (As : List Value) (h : rm_H) : dM L xs zf w (k + 1) 99 As h = f99 L xs zf (dM L xs zf w k) w As h := rfl
theorem e100 (L : Nat) (xs : Nat → Int32) (zf : Value) (w : Nat) (k : Nat) (As : List Value) (h : rm_H) : dM L xs zf w (k + 1) 100 As h = f100 L xs zf (dM L xs zf w k) w As h := rfl
theorem e101 (L : Nat) (xs : Nat → Int32) (zf : Value) (w : Nat) (k : Nat) (As : List Value) (h : rm_H) : dM L xs zf w (k + 1) 101 As h = f101 L xs zf (dM L xs zf w k) w As h := rfl
theorem e102 (L : Nat) (xs : Nat → Int32) (zf : Value) (w : Nat) (k : Nat) (As : List Value) (h : rm_H) : dM L xs zf w (k + 1) 102 As h = f102 L xs zf (dM L xs zf w k) w As h := rfl
theorem e103 (L : Nat) (xs : Nat → Int32) (zf : Value) (w : Nat) (k : Nat) (As : List Value) (h : rm_H) : dM L xs zf w (k + 1) 103 As h = f103 L xs zf (dM L xs zf w k) w As h := rfl
theorem e104 (L : Nat) (xs : Nat → Int32) (zf : Value) (w : Nat) (k : Nat) (As : List Value) (h : rm_H) : dM L xs zf w (k + 1) 104 As h = f104 L xs zf (dM L xs zf w k) w As h := rfl
theorem e105 (L : Nat) (xs : Nat → Int32) (zf : Value) (w : Nat) (k : Nat) (As : List Value) (h : rm_H) : dM L xs zf w (k + 1) 105 As h = f105 L xs zf (dM L xs zf w k) w As h := rfl
theorem e106 (L : Nat) (xs : Nat → Int32) (zf : Value) (w : Nat) (k : Nat) (As : List Value) (h : rm_H) : dM L xs zf w (k + 1) 106 As h = f106 L xs zf (dM L xs zf w k) w As h := rfl
theorem e107 (L : Nat) (xs : Nat → Int32) (zf : Value) (w : Nat) (k : Nat) (As : List Value) (h : rm_H) : dM L xs zf w (k + 1) 107 As h = f107 L xs zf (dM L xs zf w k) w As h := rfl
theorem e108 (L : Nat) (xs : Nat → Int32) (zf : Value) (w : Nat) (k : Nat) (As : List Value) (h : rm_H) : dM L xs zf w (k + 1) 108 As h = f108 L xs zf (dM L xs zf w k) w As h := rfl
theorem e109 (L : Nat) (xs : Nat → Int32) (zf : Value) (w : Nat) (k : Nat) (As : List Value) (h : rm_H) : dM L xs zf w (k + 1) 109 As h = f109 L xs zf (dM L xs zf w k) w As h := rfl
theorem e110 (L : Nat) (xs : Nat → Int32) (zf : Value) (w : Nat) (k : Nat) (As : List Value) (h : rm_H) : dM L xs zf w (k + 1) 110 As h = f110 L xs zf (dM L xs zf w k) w As h := rfl
theorem e111 (L : Nat) (xs : Nat → Int32) (zf : Value) (w : Nat) (k : Nat) (As : List Value) (h : rm_H) : dM L xs zf w (k + 1) 111 As h = f111 L xs zf (dM L xs zf w k) w As h := rfl
theorem e112 (L : Nat) (xs : Nat → Int32) (zf : Value) (w : Nat) (k : Nat) (As : List Value) (h : rm_H) : dM L xs zf w (k + 1) 112 As h = f112 L xs zf (dM L xs zf w k) w As h := rfl
theorem e113 (L : Nat) (xs : Nat → Int32) (zf : Value) (w : Nat) (k : Nat) (As : List Value) (h : rm_H) : dM L xs zf w (k + 1) 113 As h = f113 L xs zf (dM L xs zf w k) w As h := rfl
theorem e114 (L : Nat) (xs : Nat → Int32) (zf : Value) (w : Nat) (k : Nat) (As : List Value) (h : rm_H) : dM L xs zf w (k + 1) 114 As h = f114 L xs zf (dM L xs zf w k) w As h := rfl
theorem e115 (L : Nat) (xs : Nat → Int32) (zf : Value) (w : Nat) (k : Nat) (As : List Value) (h : rm_H) : dM L xs zf w (k + 1) 115 As h = f115 L xs zf (dM L xs zf w k) w As h := rfl
theorem e116 (L : Nat) (xs : Nat → Int32) (zf : Value) (w : Nat) (k : Nat) (As : List Value) (h : rm_H) : dM L xs zf w (k + 1) 116 As h = f116 L xs zf (dM L xs zf w k) w As h := rfl
theorem e117 (L : Nat) (xs : Nat → Int32) (zf : Value) (w : Nat) (k : Nat) (As : List Value) (h : rm_H) : dM L xs zf w (k + 1) 117 As h = f117 L xs zf (dM L xs zf w k) w As h := rfl
theorem e118 (L : Nat) (xs : Nat → Int32) (zf : Value) (w : Nat) (k : Nat) (As : List Value) (h : rm_H) : dM L xs zf w (k + 1) 118 As h = f118 L xs zf (dM L xs zf w k) w As h := rfl
theorem e119 (L : Nat) (xs : Nat → Int32) (zf : Value) (w : Nat) (k : Nat) (As : List Value) (h : rm_H) : dM L xs zf w (k + 1) 119 As h = f119 L xs zf (dM L xs zf w k) w As h := rfl
theorem e120 (L : Nat) (xs : Nat → Int32) (zf : Value) (w : Nat) (k : Nat) (As : List Value) (h : rm_H) : dM L xs zf w (k + 1) 120 As h = f120 L xs zf (dM L xs zf w k) w As h := rfl
theorem e121 (L : Nat) (xs : Nat → Int32) (zf : Value) (w : Nat) (k : Nat) (As : List Value) (h : rm_H) : dM L xs zf w (k + 1) 121 As h = f121 L xs zf (dM L xs zf w k) w As h := rfl
theorem e122 (L : Nat) (xs : Nat → Int32) (zf : Value) (w : Nat) (k : Nat) (As : List Value) (h : rm_H) : dM L xs zf w (k + 1) 122 As h = f122 L xs zf (dM L xs zf w k) w As h := rfl
theorem e123 (L : Nat) (xs : Nat → Int32) (zf : Value) (w : Nat) (k : Nat) (As : List Value) (h : rm_H) : dM L xs zf w (k + 1) 123 As h = f123 L xs zf (dM L xs zf w k) w As h := rfl
theorem e124 (L : Nat) (xs : Nat → Int32) (zf : Value) (w : Nat) (k : Nat) (As : List Value) (h : rm_H) : dM L xs zf w (k + 1) 124 As h = f124 L xs zf (dM L xs zf w k) w As h := rfl
theorem e125 (L : Nat) (xs : Nat → Int32) (zf : Value) (w : Nat) (k : Nat) (As : List Value) (h : rm_H) : dM L xs zf w (k + 1) 125 As h = f125 L xs zf (dM L xs zf w k) w As h := rfl
theorem e126 (L : Nat) (xs : Nat → Int32) (zf : Value) (w : Nat) (k : Nat) (As : List Value) (h : rm_H) : dM L xs zf w (k + 1) 126 As h = f126 L xs zf (dM L xs zf w k) w As h := rfl
theorem e127 (L : Nat) (xs : Nat → Int32) (zf : Value) (w : Nat) (k : Nat) (As : List Value) (h : rm_H) : dM L xs zf w (k + 1) 127 As h = f127 L xs zf (dM L xs zf w k) w As h := rfl
theorem e128 (L : Nat) (xs : Nat → Int32) (zf : Value) (w : Nat) (k : Nat) (As : List Value) (h : rm_H) : dM L xs zf w (k + 1) 128 As h = f128 L xs zf (dM L xs zf w k) w As h := rfl
theorem e129 (L : Nat) (xs : Nat → Int32) (zf : Value) (w : Nat) (k : Nat) (As : List Value) (h : rm_H) : dM L xs zf w (k + 1) 129 As h = f129 L xs zf (dM L xs zf w k) w As h := rfl
theorem e130 (L : Nat) (xs : Nat → Int32) (zf : Value) (w : Nat) (k : Nat) (As : List Value) (h : rm_H) : dM L xs zf w (k + 1) 130 As h = f130 L xs zf (dM L xs zf w k) w As h := rfl
theorem e131 (L : Nat) (xs : Nat → Int32) (zf : Value) (w : Nat) (k : Nat) (As : List Value) (h : rm_H) : dM L xs zf w (k + 1) 131 As h = f131 L xs zf (dM L xs zf w k) w As h := rfl
theorem e132 (L : Nat) (xs : Nat → Int32) (zf : Value) (w : Nat) (k : Nat) (As : List Value) (h : rm_H) : dM L xs zf w (k + 1) 132 As h = f132 L xs zf (dM L xs zf w k) w As h := rfl
theorem e133 (L : Nat) (xs : Nat → Int32) (zf : Value) (w : Nat) (k : Nat) (As : List Value) (h : rm_H) : dM L xs zf w (k + 1) 133 As h = f133 L xs zf (dM L xs zf w k) w As h := rfl
theorem e134 (L : Nat) (xs : Nat → Int32) (zf : Value) (w : Nat) (k : Nat) (As : List Value) (h : rm_H) : dM L xs zf w (k + 1) 134 As h = f134 L xs zf (dM L xs zf w k) w As h := rfl
theorem e135 (L : Nat) (xs : Nat → Int32) (zf : Value) (w : Nat) (k : Nat) (As : List Value) (h : rm_H) : dM L xs zf w (k + 1) 135 As h = f135 L xs zf (dM L xs zf w k) w As h := rfl
theorem e136 (L : Nat) (xs : Nat → Int32) (zf : Value) (w : Nat) (k : Nat) (As : List Value) (h : rm_H) : dM L xs zf w (k + 1) 136 As h = f136 L xs zf (dM L xs zf w k) w As h := rfl
theorem e137 (L : Nat) (xs : Nat → Int32) (zf : Value) (w : Nat) (k : Nat) (As : List Value) (h : rm_H) : dM L xs zf w (k + 1) 137 As h = f137 L xs zf (dM L xs zf w k) w As h := rfl
theorem e138 (L : Nat) (xs : Nat → Int32) (zf : Value) (w : Nat) (k : Nat) (As : List Value) (h : rm_H) : dM L xs zf w (k + 1) 138 As h = f138 L xs zf (dM L xs zf w k) w As h := rfl
theorem e139 (L : Nat) (xs : Nat → Int32) (zf : Value) (w : Nat) (k : Nat) (As : List Value) (h : rm_H) : dM L xs zf w (k + 1) 139 As h = f139 L xs zf (dM L xs zf w k) w As h := rfl
theorem e140 (L : Nat) (xs : Nat → Int32) (zf : Value) (w : Nat) (k : Nat) (As : List Value) (h : rm_H) : dM L xs zf w (k + 1) 140 As h = f140 L xs zf (dM L xs zf w k) w As h := rfl
theorem e141 (L : Nat) (xs : Nat → Int32) (zf : Value) (w : Nat) (k : Nat) (As : List Value) (h : rm_H) : dM L xs zf w (k + 1) 141 As h = f141 L xs zf (dM L xs zf w k) w As h := rfl
theorem e142 (L : Nat) (xs : Nat → Int32) (zf : Value) (w : Nat) (k : Nat) (As : List Value) (h : rm_H) : dM L xs zf w (k + 1) 142 As h = f142 L xs zf (dM L xs zf w k) w As h := rfl
theorem e143 (L : Nat) (xs : Nat → Int32) (zf : Value) (w : Nat) (k : Nat) (As : List Value) (h : rm_H) : dM L xs zf w (k + 1) 143 As h = f143 L xs zf (dM L xs zf w k) w As h := rfl
theorem e144 (L : Nat) (xs : Nat → Int32) (zf : Value) (w : Nat) (k : Nat) (As : List Value) (h : rm_H) : dM L xs zf w (k + 1) 144 As h = f144 L xs zf (dM L xs zf w k) w As h := rfl
theorem e145 (L : Nat) (xs : Nat → Int32) (zf : Value) (w : Nat) (k : Nat) (As : List Value) (h : rm_H) : dM L xs zf w (k + 1) 145 As h = f145 L xs zf (dM L xs zf w k) w As h := rfl
theorem e146 (L : Nat) (xs : Nat → Int32) (zf : Value) (w : Nat) (k : Nat) (As : List Value) (h : rm_H) : dM L xs zf w (k + 1) 146 As h = f146 L xs zf (dM L xs zf w k) w As h := rfl
theorem e147 (L : Nat) (xs : Nat → Int32) (zf : Value) (w : Nat) (k : Nat) (As : List Value) (h : rm_H) : dM L xs zf w (k + 1) 147 As h = f147 L xs zf (dM L xs zf w k) w As h := rfl
theorem e148 (L : Nat) (xs : Nat → Int32) (zf : Value) (w : Nat) (k : Nat) (As : List Value) (h : rm_H) : dM L xs zf w (k + 1) 148 As h = f148 L xs zf (dM L xs zf w k) w As h := rfl
theorem e149 (L : Nat) (xs : Nat → Int32) (zf : Value) (w : Nat) (k : Nat) (As : List Value) (h : rm_H) : dM L xs zf w (k + 1) 149 As h = f149 L xs zf (dM L xs zf w k) w As h := rfl
theorem e150 (L : Nat) (xs : Nat → Int32) (zf : Value) (w : Nat) (k : Nat) (As : List Value) (h : rm_H) : dM L xs zf w (k + 1) 150 As h = f150 L xs zf (dM L xs zf w k) w As h := rfl
theorem e151 (L : Nat) (xs : Nat → Int32) (zf : Value) (w : Nat) (k : Nat) (As : List Value) (h : rm_H) : dM L xs zf w (k + 1) 151 As h = f151 L xs zf (dM L xs zf w k) w As h := rfl
theorem e152 (L : Nat) (xs : Nat → Int32) (zf : Value) (w : Nat) (k : Nat) (As : List Value) (h : rm_H) : dM L xs zf w (k + 1) 152 As h = f152 L xs zf (dM L xs zf w k) w As h := rfl
theorem e153 (L : Nat) (xs : Nat → Int32) (zf : Value) (w : Nat) (k : Nat) (As : List Value) (h : rm_H) : dM L xs zf w (k + 1) 153 As h = f153 L xs zf (dM L xs zf w k) w As h := rfl
theorem e154 (L : Nat) (xs : Nat → Int32) (zf : Value) (w : Nat) (k : Nat) (As : List Value) (h : rm_H) : dM L xs zf w (k + 1) 154 As h = f154 L xs zf (dM L xs zf w k) w As h := rfl
theorem e155 (L : Nat) (xs : Nat → Int32) (zf : Value) (w : Nat) (k : Nat) (As : List Value) (h : rm_H) : dM L xs zf w (k + 1) 155 As h = f155 L xs zf (dM L xs zf w k) w As h := rfl
theorem e156 (L : Nat) (xs : Nat → Int32) (zf : Value) (w : Nat) (k : Nat) (As : List Value) (h : rm_H) : dM L xs zf w (k + 1) 156 As h = f156 L xs zf (dM L xs zf w k) w As h := rfl
theorem e157 (L : Nat) (xs : Nat → Int32) (zf : Value) (w : Nat) (k : Nat) (As : List Value) (h : rm_H) : dM L xs zf w (k + 1) 157 As h = f157 L xs zf (dM L xs zf w k) w As h := rfl
theorem e158 (L : Nat) (xs : Nat → Int32) (zf : Value) (w : Nat) (k : Nat) (As : List Value) (h : rm_H) : dM L xs zf w (k + 1) 158 As h = f158 L xs zf (dM L xs zf w k) w As h := rfl
theorem e159 (L : Nat) (xs : Nat → Int32) (zf : Value) (w : Nat) (k : Nat) (As : List Value) (h : rm_H) : dM L xs zf w (k + 1) 159 As h = f159 L xs zf (dM L xs zf w k) w As h := rfl
theorem e160 (L : Nat) (xs : Nat → Int32) (zf : Value) (w : Nat) (k : Nat) (As : List Value) (h : rm_H) : dM L xs zf w (k + 1) 160 As h = f160 L xs zf (dM L xs zf w k) w As h := rfl
theorem e161 (L : Nat) (xs : Nat → Int32) (zf : Value) (w : Nat) (k : Nat) (As : List Value) (h : rm_H) : dM L xs zf w (k + 1) 161 As h = f161 L xs zf (dM L xs zf w k) w As h := rfl
theorem e162 (L : Nat) (xs : Nat → Int32) (zf : Value) (w : Nat) (k : Nat) (As : List Value) (h : rm_H) : dM L xs zf w (k + 1) 162 As h = f162 L xs zf (dM L xs zf w k) w As h := rfl
theorem e163 (L : Nat) (xs : Nat → Int32) (zf : Value) (w : Nat) (k : Nat) (As : List Value) (h : rm_H) : dM L xs zf w (k + 1) 163 As h = f163 L xs zf (dM L xs zf w k) w As h := rfl
theorem e164 (L : Nat) (xs : Nat → Int32) (zf : Value) (w : Nat) (k : Nat) (As : List Value) (h : rm_H) : dM L xs zf w (k + 1) 164 As h = f164 L xs zf (dM L xs zf w k) w As h := rfl
theorem e165 (L : Nat) (xs : Nat → Int32) (zf : Value) (w : Nat) (k : Nat) (As : List Value) (h : rm_H) : dM L xs zf w (k + 1) 165 As h = f165 L xs zf (dM L xs zf w k) w As h := rfl
theorem e166 (L : Nat) (xs : Nat → Int32) (zf : Value) (w : Nat) (k : Nat) (As : List Value) (h : rm_H) : dM L xs zf w (k + 1) 166 As h = f166 L xs zf (dM L xs zf w k) w As h := rfl
theorem e167 (L : Nat) (xs : Nat → Int32) (zf : Value) (w : Nat) (k : Nat) (As : List Value) (h : rm_H) : dM L xs zf w (k + 1) 167 As h = f167 L xs zf (dM L xs zf w k) w As h := rfl
theorem e168 (L : Nat) (xs : Nat → Int32) (zf : Value) (w : Nat) (k : Nat) (As : List Value) (h : rm_H) : dM L xs zf w (k + 1) 168 As h = f168 L xs zf (dM L xs zf w k) w As h := rfl
theorem e169 (L : Nat) (xs : Nat → Int32) (zf : Value) (w : Nat) (k : Nat) (As : List Value) (h : rm_H) : dM L xs zf w (k + 1) 169 As h = f169 L xs zf (dM L xs zf w k) w As h := rfl
theorem e170 (L : Nat) (xs : Nat → Int32) (zf : Value) (w : Nat) (k : Nat) (As : List Value) (h : rm_H) : dM L xs zf w (k + 1) 170 As h = f170 L xs zf (dM L xs zf w k) w As h := rfl
theorem e171 (L : Nat) (xs : Nat → Int32) (zf : Value) (w : Nat) (k : Nat) (As : List Value) (h : rm_H) : dM L xs zf w (k + 1) 171 As h = f171 L xs zf (dM L xs zf w k) w As h := rfl
theorem e172 (L : Nat) (xs : Nat → Int32) (zf : Value) (w : Nat) (k : Nat) (As : List Value) (h : rm_H) : dM L xs zf w (k + 1) 172 As h = f172 L xs zf (dM L xs zf w k) w As h := rfl
theorem e173 (L : Nat) (xs : Nat → Int32) (zf : Value) (w : Nat) (k : Nat) (As : List Value) (h : rm_H) : dM L xs zf w (k + 1) 173 As h = f173 L xs zf (dM L xs zf w k) w As h := rfl
theorem e174 (L : Nat) (xs : Nat → Int32) (zf : Value) (w : Nat) (k : Nat) (As : List Value) (h : rm_H) : dM L xs zf w (k + 1) 174 As h = f174 L xs zf (dM L xs zf w k) w As h := rfl
theorem e175 (L : Nat) (xs : Nat → Int32) (zf : Value) (w : Nat) (k : Nat) (As : List Value) (h : rm_H) : dM L xs zf w (k + 1) 175 As h = f175 L xs zf (dM L xs zf w k) w As h := rfl
theorem e176 (L : Nat) (xs : Nat → Int32) (zf : Value) (w : Nat) (k : Nat) (As : List Value) (h : rm_H) : dM L xs zf w (k + 1) 176 As h = f176 L xs zf (dM L xs zf w k) w As h := rfl
theorem e177 (L : Nat) (xs : Nat → Int32) (zf : Value) (w : Nat) (k : Nat) (As : List Value) (h : rm_H) : dM L xs zf w (k + 1) 177 As h = f177 L xs zf (dM L xs zf w k) w As h := rfl
theorem e178 (L : Nat) (xs : Nat → Int32) (zf : Value) (w : Nat) (k : Nat) (As : List Value) (h : rm_H) : dM L xs zf w (k + 1) 178 As h = f178 L xs zf (dM L xs zf w k) w As h := rfl
theorem e179 (L : Nat) (xs : Nat → Int32) (zf : Value) (w : Nat) (k : Nat) (As : List Value) (h : rm_H) : dM L xs zf w (k + 1) 179 As h = f179 L xs zf (dM L xs zf w k) w As h := rfl
theorem e180 (L : Nat) (xs : Nat → Int32) (zf : Value) (w : Nat) (k : Nat) (As : List Value) (h : rm_H) : dM L xs zf w (k + 1) 180 As h = f180 L xs zf (dM L xs zf w k) w As h := rfl
theorem e181 (L : Nat) (xs : Nat → Int32) (zf : Value) (w : Nat) (k : Nat) (As : List Value) (h : rm_H) : dM L xs zf w (k + 1) 181 As h = f181 L xs zf (dM L xs zf w k) w As h := rfl
theorem e182 (L : Nat) (xs : Nat → Int32) (zf : Value) (w : Nat) (k : Nat) (As : List Value) (h : rm_H) : dM L xs zf w (k + 1) 182 As h = f182 L xs zf (dM L xs zf w k) w As h := rfl
theorem e183 (L : Nat) (xs : Nat → Int32) (zf : Value) (w : Nat) (k : Nat) (As : List Value) (h : rm_H) : dM L xs zf w (k + 1) 183 As h = f183 L xs zf (dM L xs zf w k) w As h := rfl
theorem e184 (L : Nat) (xs : Nat → Int32) (zf : Value) (w : Nat) (k : Nat) (As : List Value) (h : rm_H) : dM L xs zf w (k + 1) 184 As h = f184 L xs zf (dM L xs zf w k) w As h := rfl
theorem e185 (L : Nat) (xs : Nat → Int32) (zf : Value) (w : Nat) (k : Nat) (As : List Value) (h : rm_H) : dM L xs zf w (k + 1) 185 As h = f185 L xs zf (dM L xs zf w k) w As h := rfl
theorem e186 (L : Nat) (xs : Nat → Int32) (zf : Value) (w : Nat) (k : Nat) (As : List Value) (h : rm_H) : dM L xs zf w (k + 1) 186 As h = f186 L xs zf (dM L xs zf w k) w As h := rfl
theorem e187 (L : Nat) (xs : Nat → Int32) (zf : Value) (w : Nat) (k : Nat) (As : List Value) (h : rm_H) : dM L xs zf w (k + 1) 187 As h = f187 L xs zf (dM L xs zf w k) w As h := rfl
theorem e188 (L : Nat) (xs : Nat → Int32) (zf : Value) (w : Nat) (k : Nat) (As : List Value) (h : rm_H) : dM L xs zf w (k + 1) 188 As h = f188 L xs zf (dM L xs zf w k) w As h := rfl
theorem e189 (L : Nat) (xs : Nat → Int32) (zf : Value) (w : Nat) (k : Nat) (As : List Value) (h : rm_H) : dM L xs zf w (k + 1) 189 As h = f189 L xs zf (dM L xs zf w k) w As h := rfl
theorem e190 (L : Nat) (xs : Nat → Int32) (zf : Value) (w : Nat) (k : Nat) (As : List Value) (h : rm_H) : dM L xs zf w (k + 1) 190 As h = f190 L xs zf (dM L xs zf w k) w As h := rfl
theorem e191 (L : Nat) (xs : Nat → Int32) (zf : Value) (w : Nat) (k : Nat) (As : List Value) (h : rm_H) : dM L xs zf w (k + 1) 191 As h = f191 L xs zf (dM L xs zf w k) w As h := rfl
theorem e192 (L : Nat) (xs : Nat → Int32) (zf : Value) (w : Nat) (k : Nat) (As : List Value) (h : rm_H) : dM L xs zf w (k + 1) 192 As h = f192 L xs zf (dM L xs zf w k) w As h := rfl
theorem e193 (L : Nat) (xs : Nat → Int32) (zf : Value) (w : Nat) (k : Nat) (As : List Value) (h : rm_H) : dM L xs zf w (k + 1) 193 As h = f193 L xs zf (dM L xs zf w k) w As h := rfl
theorem e194 (L : Nat) (xs : Nat → Int32) (zf : Value) (w : Nat) (k : Nat) (As : List Value) (h : rm_H) : dM L xs zf w (k + 1) 194 As h = f194 L xs zf (dM L xs zf w k) w As h := rfl
theorem e195 (L : Nat) (xs : Nat → Int32) (zf : Value) (w : Nat) (k : Nat) (As : List Value) (h : rm_H) : dM L xs zf w (k + 1) 195 As h = f195 L xs zf (dM L xs zf w k) w As h := rfl
theorem e196 (L : Nat) (xs : Nat → Int32) (zf : Value) (w : Nat) (k : Nat) (As : List Value) (h : rm_H) : dM L xs zf w (k + 1) 196 As h = f196 L xs zf (dM L xs zf w k) w As h := rfl
theorem e197 (L : Nat) (xs : Nat → Int32) (zf : Value) (w : Nat) (k : Nat) (As : List Value) (h : rm_H) : dM L xs zf w (k + 1) 197 As h = f197 L xs zf (dM L xs zf w k) w As h := rfl
theorem e198 (L : Nat) (xs : Nat → Int32) (zf : Value) (w : Nat) (k : Nat) (As : List Value) (h : rm_H) : dM L xs zf w (k + 1) 198 As h = f198 L xs zf (dM L xs zf w k) w As h := rfl
theorem e199 (L : Nat) (xs : Nat → Int32) (zf : Value) (w : Nat) (k : Nat) (As : List Value) (h : rm_H) : dM L xs zf w (k + 1) 199 As h = f199 L xs zf (dM L xs zf w k) w As h := rfl
theorem e200 (L : Nat) (xs : Nat → Int32) (zf : Value) (w : Nat) (k : Nat) (As : List Value) (h : rm_H) : dM L xs zf w (k + 1) 200 As h = f200 L xs zf (dM L xs zf w k) w As h := rfl
theorem e201 (L : Nat) (xs : Nat → Int32) (zf : Value) (w : Nat) (k : Nat) (As : List Value) (h : rm_H) : dM L xs zf w (k + 1) 201 As h = f201 L xs zf (dM L xs zf w k) w As h := rfl
theorem e202 (L : Nat) (xs : Nat → Int32) (zf : Value) (w : Nat) (k : Nat) (As : List Value) (h : rm_H) : dM L xs zf w (k + 1) 202 As h = f202 L xs zf (dM L xs zf w k) w As h := rfl
theorem e203 (L : Nat) (xs : Nat → Int32) (zf : Value) (w : Nat) (k : Nat) (As : List Value) (h : rm_H) : dM L xs zf w (k + 1) 203 As h = f203 L xs zf (dM L xs zf w k) w As h := rfl
theorem e204 (L : Nat) (xs : Nat → Int32) (zf : Value) (w : Nat) (k : Nat) (As : List Value) (h : rm_H) : dM L xs zf w (k + 1) 204 As h = f204 L xs zf (dM L xs zf w k) w As h := rfl
theorem e205 (L : Nat) (xs : Nat → Int32) (zf : Value) (w : Nat) (k : Nat) (As : List Value) (h : rm_H) : dM L xs zf w (k + 1) 205 As h = f205 L xs zf (dM L xs zf w k) w As h := rfl
theorem e206 (L : Nat) (xs : Nat → Int32) (zf : Value) (w : Nat) (k : Nat) (As : List Value) (h : rm_H) : dM L xs zf w (k + 1) 206 As h = f206 L xs zf (dM L xs zf w k) w As h := rfl
theorem e207 (L : Nat) (xs : Nat → Int32) (zf : Value) (w : Nat) (k : Nat) (As : List Value) (h : rm_H) : dM L xs zf w (k + 1) 207 As h = f207 L xs zf (dM L xs zf w k) w As h := rfl
theorem e208 (L : Nat) (xs : Nat → Int32) (zf : Value) (w : Nat) (k : Nat) (As : List Value) (h : rm_H) : dM L xs zf w (k + 1) 208 As h = f208 L xs zf (dM L xs zf w k) w As h := rfl
theorem e209 (L : Nat) (xs : Nat → Int32) (zf : Value) (w : Nat) (k : Nat) (As : List Value) (h : rm_H) : dM L xs zf w (k + 1) 209 As h = f209 L xs zf (dM L xs zf w k) w As h := rfl
theorem e210 (L : Nat) (xs : Nat → Int32) (zf : Value) (w : Nat) (k : Nat) (As : List Value) (h : rm_H) : dM L xs zf w (k + 1) 210 As h = f210 L xs zf (dM L xs zf w k) w As h := rfl
theorem e211 (L : Nat) (xs : Nat → Int32) (zf : Value) (w : Nat) (k : Nat) (As : List Value) (h : rm_H) : dM L xs zf w (k + 1) 211 As h = f211 L xs zf (dM L xs zf w k) w As h := rfl
theorem e212 (L : Nat) (xs : Nat → Int32) (zf : Value) (w : Nat) (k : Nat) (As : List Value) (h : rm_H) : dM L xs zf w (k + 1) 212 As h = f212 L xs zf (dM L xs zf w k) w As h := rfl
theorem e213 (L : Nat) (xs : Nat → Int32) (zf : Value) (w : Nat) (k : Nat) (As : List Value) (h : rm_H) : dM L xs zf w (k + 1) 213 As h = f213 L xs zf (dM L xs zf w k) w As h := rfl
theorem e214 (L : Nat) (xs : Nat → Int32) (zf : Value) (w : Nat) (k : Nat) (As : List Value) (h : rm_H) : dM L xs zf w (k + 1) 214 As h = f214 L xs zf (dM L xs zf w k) w As h := rfl
theorem e215 (L : Nat) (xs : Nat → Int32) (zf : Value) (w : Nat) (k : Nat) (As : List Value) (h : rm_H) : dM L xs zf w (k + 1) 215 As h = f215 L xs zf (dM L xs zf w k) w As h := rfl
theorem e216 (L : Nat) (xs : Nat → Int32) (zf : Value) (w : Nat) (k : Nat) (As : List Value) (h : rm_H) : dM L xs zf w (k + 1) 216 As h = f216 L xs zf (dM L xs zf w k) w As h := rfl
theorem e217 (L : Nat) (xs : Nat → Int32) (zf : Value) (w : Nat) (k : Nat) (As : List Value) (h : rm_H) : dM L xs zf w (k + 1) 217 As h = f217 L xs zf (dM L xs zf w k) w As h := rfl
theorem e218 (L : Nat) (xs : Nat → Int32) (zf : Value) (w : Nat) (k : Nat) (As : List Value) (h : rm_H) : dM L xs zf w (k + 1) 218 As h = f218 L xs zf (dM L xs zf w k) w As h := rfl
theorem e219 (L : Nat) (xs : Nat → Int32) (zf : Value) (w : Nat) (k : Nat) (As : List Value) (h : rm_H) : dM L xs zf w (k + 1) 219 As h = f219 L xs zf (dM L xs zf w k) w As h := rfl
theorem e220 (L : Nat) (xs : Nat → Int32) (zf : Value) (w : Nat) (k : Nat) (As : List Value) (h : rm_H) : dM L xs zf w (k + 1) 220 As h = f220 L xs zf (dM L xs zf w k) w As h := rfl
theorem e221 (L : Nat) (xs : Nat → Int32) (zf : Value) (w : Nat) (k : Nat) (As : List Value) (h : rm_H) : dM L xs zf w (k + 1) 221 As h = f221 L xs zf (dM L xs zf w k) w As h := rfl
theorem e222 (L : Nat) (xs : Nat → Int32) (zf : Value) (w : Nat) (k : Nat) (As : List Value) (h : rm_H) : dM L xs zf w (k + 1) 222 As h = f222 L xs zf (dM L xs zf w k) w As h := rfl
theorem e223 (L : Nat) (xs : Nat → Int32) (zf : Value) (w : Nat) (k : Nat) (As : List Value) (h : rm_H) : dM L xs zf w (k + 1) 223 As h = f223 L xs zf (dM L xs zf w k) w As h := rfl
theorem e224 (L : Nat) (xs : Nat → Int32) (zf : Value) (w : Nat) (k : Nat) (As : List Value) (h : rm_H) : dM L xs zf w (k + 1) 224 As h = f224 L xs zf (dM L xs zf w k) w As h := rfl
theorem e225 (L : Nat) (xs : Nat → Int32) (zf : Value) (w : Nat) (k : Nat) (As : List Value) (h : rm_H) : dM L xs zf w (k + 1) 225 As h = f225 L xs zf (dM L xs zf w k) w As h := rfl
theorem e226 (L : Nat) (xs : Nat → Int32) (zf : Value) (w : Nat) (k : Nat) (As : List Value) (h : rm_H) : dM L xs zf w (k + 1) 226 As h = f226 L xs zf (dM L xs zf w k) w As h := rfl
theorem e227 (L : Nat) (xs : Nat → Int32) (zf : Value) (w : Nat) (k : Nat) (As : List Value) (h : rm_H) : dM L xs zf w (k + 1) 227 As h = f227 L xs zf (dM L xs zf w k) w As h := rfl
theorem e228 (L : Nat) (xs : Nat → Int32) (zf : Value) (w : Nat) (k : Nat) (As : List Value) (h : rm_H) : dM L xs zf w (k + 1) 228 As h = f228 L xs zf (dM L xs zf w k) w As h := rfl
theorem e229 (L : Nat) (xs : Nat → Int32) (zf : Value) (w : Nat) (k : Nat) (As : List Value) (h : rm_H) : dM L xs zf w (k + 1) 229 As h = f229 L xs zf (dM L xs zf w k) w As h := rfl
theorem e230 (L : Nat) (xs : Nat → Int32) (zf : Value) (w : Nat) (k : Nat) (As : List Value) (h : rm_H) : dM L xs zf w (k + 1) 230 As h = f230 L xs zf (dM L xs zf w k) w As h := rfl
theorem e231 (L : Nat) (xs : Nat → Int32) (zf : Value) (w : Nat) (k : Nat) (As : List Value) (h : rm_H) : dM L xs zf w (k + 1) 231 As h = f231 L xs zf (dM L xs zf w k) w As h := rfl
theorem e232 (L : Nat) (xs : Nat → Int32) (zf : Value) (w : Nat) (k : Nat) (As : List Value) (h : rm_H) : dM L xs zf w (k + 1) 232 As h = f232 L xs zf (dM L xs zf w k) w As h := rfl
theorem e233 (L : Nat) (xs : Nat → Int32) (zf : Value) (w : Nat) (k : Nat) (As : List Value) (h : rm_H) : dM L xs zf w (k + 1) 233 As h = f233 L xs zf (dM L xs zf w k) w As h := rfl
theorem e234 (L : Nat) (xs : Nat → Int32) (zf : Value) (w : Nat) (k : Nat) (As : List Value) (h : rm_H) : dM L xs zf w (k + 1) 234 As h = f234 L xs zf (dM L xs zf w k) w As h := rfl
theorem e235 (L : Nat) (xs : Nat → Int32) (zf : Value) (w : Nat) (k : Nat) (As : List Value) (h : rm_H) : dM L xs zf w (k + 1) 235 As h = f235 L xs zf (dM L xs zf w k) w As h := rfl
theorem e236 (L : Nat) (xs : Nat → Int32) (zf : Value) (w : Nat) (k : Nat) (As : List Value) (h : rm_H) : dM L xs zf w (k + 1) 236 As h = f236 L xs zf (dM L xs zf w k) w As h := rfl
theorem e237 (L : Nat) (xs : Nat → Int32) (zf : Value) (w : Nat) (k : Nat) (As : List Value) (h : rm_H) : dM L xs zf w (k + 1) 237 As h = f237 L xs zf (dM L xs zf w k) w As h := rfl
theorem e238 (L : Nat) (xs : Nat → Int32) (zf : Value) (w : Nat) (k : Nat) (As : List Value) (h : rm_H) : dM L xs zf w (k + 1) 238 As h = f238 L xs zf (dM L xs zf w k) w As h := rfl
theorem e239 (L : Nat) (xs : Nat → Int32) (zf : Value) (w : Nat) (k : Nat) (As : List Value) (h : rm_H) : dM L xs zf w (k + 1) 239 As h = f239 L xs zf (dM L xs zf w k) w As h := rfl
theorem e240 (L : Nat) (xs : Nat → Int32) (zf : Value) (w : Nat) (k : Nat) (As : List Value) (h : rm_H) : dM L xs zf w (k + 1) 240 As h = f240 L xs zf (dM L xs zf w k) w As h := rfl
theorem e241 (L : Nat) (xs : Nat → Int32) (zf : Value) (w : Nat) (k : Nat) (As : List Value) (h : rm_H) : dM L xs zf w (k + 1) 241 As h = f241 L xs zf (dM L xs zf w k) w As h := rfl
theorem e242 (L : Nat) (xs : Nat → Int32) (zf : Value) (w : Nat) (k : Nat) (As : List Value) (h : rm_H) : dM L xs zf w (k + 1) 242 As h = f242 L xs zf (dM L xs zf w k) w As h := rfl
theorem e243 (L : Nat) (xs : Nat → Int32) (zf : Value) (w : Nat) (k : Nat) (As : List Value) (h : rm_H) : dM L xs zf w (k + 1) 243 As h = f243 L xs zf (dM L xs zf w k) w As h := rfl
theorem e244 (L : Nat) (xs : Nat → Int32) (zf : Value) (w : Nat) (k : Nat) (As : List Value) (h : rm_H) : dM L xs zf w (k + 1) 244 As h = f244 L xs zf (dM L xs zf w k) w As h := rfl
theorem e245 (L : Nat) (xs : Nat → Int32) (zf : Value) (w : Nat) (k : Nat) (As : List Value) (h : rm_H) : dM L xs zf w (k + 1) 245 As h = f245 L xs zf (dM L xs zf w k) w As h := rfl
theorem e246 (L : Nat) (xs : Nat → Int32) (zf : Value) (w : Nat) (k : Nat) (As : List Value) (h : rm_H) : dM L xs zf w (k + 1) 246 As h = f246 L xs zf (dM L xs zf w k) w As h := rfl
theorem e247 (L : Nat) (xs : Nat → Int32) (zf : Value) (w : Nat) (k : Nat) (As : List Value) (h : rm_H) : dM L xs zf w (k + 1) 247 As h = f247 L xs zf (dM L xs zf w k) w As h := rfl
theorem e248 (L : Nat) (xs : Nat → Int32) (zf : Value) (w : Nat) (k : Nat) (As : List Value) (h : rm_H) : dM L xs zf w (k + 1) 248 As h = f248 L xs zf (dM L xs zf w k) w As h := rfl
theorem e249 (L : Nat) (xs : Nat → Int32) (zf : Value) (w : Nat) (k : Nat) (As : List Value) (h : rm_H) : dM L xs zf w (k + 1) 249 As h = f249 L xs zf (dM L xs zf w k) w As h := rfl
theorem e250 (L : Nat) (xs : Nat → Int32) (zf : Value) (w : Nat) (k : Nat) (As : List Value) (h : rm_H) : dM L xs zf w (k + 1) 250 As h = f250 L xs zf (dM L xs zf w k) w As h := rfl
theorem e251 (L : Nat) (xs : Nat → Int32) (zf : Value) (w : Nat) (k : Nat) (As : List Value) (h : rm_H) : dM L xs zf w (k + 1) 251 As h = f251 L xs zf (dM L xs zf w k) w As h := rfl
theorem e252 (L : Nat) (xs : Nat → Int32) (zf : Value) (w : Nat) (k : Nat) (As : List Value) (h : rm_H) : dM L xs zf w (k + 1) 252 As h = f252 L xs zf (dM L xs zf w k) w As h := rfl
theorem e253 (L : Nat) (xs : Nat → Int32) (zf : Value) (w : Nat) (k : Nat) (As : List Value) (h : rm_H) : dM L xs zf w (k + 1) 253 As h = f253 L xs zf (dM L xs zf w k) w As h := rfl
theorem e254 (L : Nat) (xs : Nat → Int32) (zf : Value) (w : Nat) (k : Nat) (As : List Value) (h : rm_H) : dM L xs zf w (k + 1) 254 As h = f254 L xs zf (dM L xs zf w k) w As h := rfl
theorem e255 (L : Nat) (xs : Nat → Int32) (zf : Value) (w : Nat) (k : Nat) (As : List Value) (h : rm_H) : dM L xs zf w (k + 1) 255 As h = f255 L xs zf (dM L xs zf w k) w As h := rfl
theorem e256 (L : Nat) (xs : Nat → Int32) (zf : Value) (w : Nat) (k : Nat) (As : List Value) (h : rm_H) : dM L xs zf w (k + 1) 256 As h = f256 L xs zf (dM L xs zf w k) w As h := rfl
theorem e257 (L : Nat) (xs : Nat → Int32) (zf : Value) (w : Nat) (k : Nat) (As : List Value) (h : rm_H) : dM L xs zf w (k + 1) 257 As h = f257 L xs zf (dM L xs zf w k) w As h := rfl
theorem e258 (L : Nat) (xs : Nat → Int32) (zf : Value) (w : Nat) (k : Nat) (As : List Value) (h : rm_H) : dM L xs zf w (k + 1) 258 As h = f258 L xs zf (dM L xs zf w k) w As h := rfl
theorem e259 (L : Nat) (xs : Nat → Int32) (zf : Value) (w : Nat) (k : Nat) (As : List Value) (h : rm_H) : dM L xs zf w (k + 1) 259 As h = f259 L xs zf (dM L xs zf w k) w As h := rfl
theorem e260 (L : Nat) (xs : Nat → Int32) (zf : Value) (w : Nat) (k : Nat) (As : List Value) (h : rm_H) : dM L xs zf w (k + 1) 260 As h = f260 L xs zf (dM L xs zf w k) w As h := rfl
theorem e261 (L : Nat) (xs : Nat → Int32) (zf : Value) (w : Nat) (k : Nat) (As : List Value) (h : rm_H) : dM L xs zf w (k + 1) 261 As h = f261 L xs zf (dM L xs zf w k) w As h := rfl
theorem e262 (L : Nat) (xs : Nat → Int32) (zf : Value) (w : Nat) (k : Nat) (As : List Value) (h : rm_H) : dM L xs zf w (k + 1) 262 As h = f262 L xs zf (dM L xs zf w k) w As h := rfl
theorem e263 (L : Nat) (xs : Nat → Int32) (zf : Value) (w : Nat) (k : Nat) (As : List Value) (h : rm_H) : dM L xs zf w (k + 1) 263 As h = f263 L xs zf (dM L xs zf w k) w As h := rfl
theorem e264 (L : Nat) (xs : Nat → Int32) (zf : Value) (w : Nat) (k : Nat) (As : List Value) (h : rm_H) : dM L xs zf w (k + 1) 264 As h = f264 L xs zf (dM L xs zf w k) w As h := rfl
theorem e265 (L : Nat) (xs : Nat → Int32) (zf : Value) (w : Nat) (k : Nat) (As : List Value) (h : rm_H) : dM L xs zf w (k + 1) 265 As h = f265 L xs zf (dM L xs zf w k) w As h := rfl
theorem e266 (L : Nat) (xs : Nat → Int32) (zf : Value) (w : Nat) (k : Nat) (As : List Value) (h : rm_H) : dM L xs zf w (k + 1) 266 As h = f266 L xs zf (dM L xs zf w k) w As h := rfl
theorem e267 (L : Nat) (xs : Nat → Int32) (zf : Value) (w : Nat) (k : Nat) (As : List Value) (h : rm_H) : dM L xs zf w (k + 1) 267 As h = f267 L xs zf (dM L xs zf w k) w As h := rfl
theorem e268 (L : Nat) (xs : Nat → Int32) (zf : Value) (w : Nat) (k : Nat) (As : List Value) (h : rm_H) : dM L xs zf w (k + 1) 268 As h = f268 L xs zf (dM L xs zf w k) w As h := rfl
theorem e269 (L : Nat) (xs : Nat → Int32) (zf : Value) (w : Nat) (k : Nat) (As : List Value) (h : rm_H) : dM L xs zf w (k + 1) 269 As h = f269 L xs zf (dM L xs zf w k) w As h := rfl
theorem e270 (L : Nat) (xs : Nat → Int32) (zf : Value) (w : Nat) (k : Nat) (As : List Value) (h : rm_H) : dM L xs zf w (k + 1) 270 As h = f270 L xs zf (dM L xs zf w k) w As h := rfl
theorem e271 (L : Nat) (xs : Nat → Int32) (zf : Value) (w : Nat) (k : Nat) (As : List Value) (h : rm_H) : dM L xs zf w (k + 1) 271 As h = f271 L xs zf (dM L xs zf w k) w As h := rfl
theorem e272 (L : Nat) (xs : Nat → Int32) (zf : Value) (w : Nat) (k : Nat) (As : List Value) (h : rm_H) : dM L xs zf w (k + 1) 272 As h = f272 L xs zf (dM L xs zf w k) w As h := rfl
theorem e273 (L : Nat) (xs : Nat → Int32) (zf : Value) (w : Nat) (k : Nat) (As : List Value) (h : rm_H) : dM L xs zf w (k + 1) 273 As h = f273 L xs zf (dM L xs zf w k) w As h := rfl
theorem e274 (L : Nat) (xs : Nat → Int32) (zf : Value) (w : Nat) (k : Nat) (As : List Value) (h : rm_H) : dM L xs zf w (k + 1) 274 As h = f274 L xs zf (dM L xs zf w k) w As h := rfl
theorem e275 (L : Nat) (xs : Nat → Int32) (zf : Value) (w : Nat) (k : Nat) (As : List Value) (h : rm_H) : dM L xs zf w (k + 1) 275 As h = f275 L xs zf (dM L xs zf w k) w As h := rfl
theorem e276 (L : Nat) (xs : Nat → Int32) (zf : Value) (w : Nat) (k : Nat) (As : List Value) (h : rm_H) : dM L xs zf w (k + 1) 276 As h = f276 L xs zf (dM L xs zf w k) w As h := rfl
theorem e277 (L : Nat) (xs : Nat → Int32) (zf : Value) (w : Nat) (k : Nat) (As : List Value) (h : rm_H) : dM L xs zf w (k + 1) 277 As h = f277 L xs zf (dM L xs zf w k) w As h := rfl
theorem e278 (L : Nat) (xs : Nat → Int32) (zf : Value) (w : Nat) (k : Nat) (As : List Value) (h : rm_H) : dM L xs zf w (k + 1) 278 As h = f278 L xs zf (dM L xs zf w k) w As h := rfl
theorem e279 (L : Nat) (xs : Nat → Int32) (zf : Value) (w : Nat) (k : Nat) (As : List Value) (h : rm_H) : dM L xs zf w (k + 1) 279 As h = f279 L xs zf (dM L xs zf w k) w As h := rfl
theorem e280 (L : Nat) (xs : Nat → Int32) (zf : Value) (w : Nat) (k : Nat) (As : List Value) (h : rm_H) : dM L xs zf w (k + 1) 280 As h = f280 L xs zf (dM L xs zf w k) w As h := rfl
theorem e281 (L : Nat) (xs : Nat → Int32) (zf : Value) (w : Nat) (k : Nat) (As : List Value) (h : rm_H) : dM L xs zf w (k + 1) 281 As h = f281 L xs zf (dM L xs zf w k) w As h := rfl
theorem e282 (L : Nat) (xs : Nat → Int32) (zf : Value) (w : Nat) (k : Nat) (As : List Value) (h : rm_H) : dM L xs zf w (k + 1) 282 As h = f282 L xs zf (dM L xs zf w k) w As h := rfl
theorem e283 (L : Nat) (xs : Nat → Int32) (zf : Value) (w : Nat) (k : Nat) (As : List Value) (h : rm_H) : dM L xs zf w (k + 1) 283 As h = f283 L xs zf (dM L xs zf w k) w As h := rfl
theorem e284 (L : Nat) (xs : Nat → Int32) (zf : Value) (w : Nat) (k : Nat) (As : List Value) (h : rm_H) : dM L xs zf w (k + 1) 284 As h = f284 L xs zf (dM L xs zf w k) w As h := rfl
theorem e285 (L : Nat) (xs : Nat → Int32) (zf : Value) (w : Nat) (k : Nat) (As : List Value) (h : rm_H) : dM L xs zf w (k + 1) 285 As h = f285 L xs zf (dM L xs zf w k) w As h := rfl
theorem e286 (L : Nat) (xs : Nat → Int32) (zf : Value) (w : Nat) (k : Nat) (As : List Value) (h : rm_H) : dM L xs zf w (k + 1) 286 As h = f286 L xs zf (dM L xs zf w k) w As h := rfl
theorem e287 (L : Nat) (xs : Nat → Int32) (zf : Value) (w : Nat) (k : Nat) (As : List Value) (h : rm_H) : dM L xs zf w (k + 1) 287 As h = f287 L xs zf (dM L xs zf w k) w As h := rfl
theorem e288 (L : Nat) (xs : Nat → Int32) (zf : Value) (w : Nat) (k : Nat) (As : List Value) (h : rm_H) : dM L xs zf w (k + 1) 288 As h = f288 L xs zf (dM L xs zf w k) w As h := rfl
theorem e289 (L : Nat) (xs : Nat → Int32) (zf : Value) (w : Nat) (k : Nat) (As : List Value) (h : rm_H) : dM L xs zf w (k + 1) 289 As h = f289 L xs zf (dM L xs zf w k) w As h := rfl
theorem e290 (L : Nat) (xs : Nat → Int32) (zf : Value) (w : Nat) (k : Nat) (As : List Value) (h : rm_H) : dM L xs zf w (k + 1) 290 As h = f290 L xs zf (dM L xs zf w k) w As h := rfl
theorem e291 (L : Nat) (xs : Nat → Int32) (zf : Value) (w : Nat) (k : Nat) (As : List Value) (h : rm_H) : dM L xs zf w (k + 1) 291 As h = f291 L xs zf (dM L xs zf w k) w As h := rfl
theorem e292 (L : Nat) (xs : Nat → Int32) (zf : Value) (w : Nat) (k : Nat) (As : List Value) (h : rm_H) : dM L xs zf w (k + 1) 292 As h = f292 L xs zf (dM L xs zf w k) w As h := rfl
theorem e293 (L : Nat) (xs : Nat → Int32) (zf : Value) (w : Nat) (k : Nat) (As : List Value) (h : rm_H) : dM L xs zf w (k + 1) 293 As h = f293 L xs zf (dM L xs zf w k) w As h := rfl
theorem e294 (L : Nat) (xs : Nat → Int32) (zf : Value) (w : Nat) (k : Nat) (As : List Value) (h : rm_H) : dM L xs zf w (k + 1) 294 As h = f294 L xs zf (dM L xs zf w k) w As h := rfl
theorem e295 (L : Nat) (xs : Nat → Int32) (zf : Value) (w : Nat) (k : Nat) (As : List Value) (h : rm_H) : dM L xs zf w (k + 1) 295 As h = f295 L xs zf (dM L xs zf w k) w As h := rfl
theorem e296 (L : Nat) (xs : Nat → Int32) (zf : Value) (w : Nat) (k : Nat) (As : List Value) (h : rm_H) : dM L xs zf w (k + 1) 296 As h = f296 L xs zf (dM L xs zf w k) w As h := rfl
theorem e297 (L : Nat) (xs : Nat → Int32) (zf : Value) (w : Nat) (k : Nat) (As : List Value) (h : rm_H) : dM L xs zf w (k + 1) 297 As h = f297 L xs zf (dM L xs zf w k) w As h := rfl
theorem e298 (L : Nat) (xs : Nat → Int32) (zf : Value) (w : Nat) (k : Nat) (As : List Value) (h : rm_H) : dM L xs zf w (k + 1) 298 As h = f298 L xs zf (dM L xs zf w k) w As h := rfl
theorem e299 (L : Nat) (xs : Nat → Int32) (zf : Value) (w : Nat) (k : Nat) (As : List Value) (h : rm_H) : dM L xs zf w (k + 1) 299 As h = f299 L xs zf (dM L xs zf w k) w As h := rfl
theorem e300 (L : Nat) (xs : Nat → Int32) (zf : Value) (w : Nat) (k : Nat) (As : List Value) (h : rm_H) : dM L xs zf w (k + 1) 300 As h = f300 L xs zf (dM L xs zf w k) w As h := rfl
theorem e301 (L : Nat) (xs : Nat → Int32) (zf : Value) (w : Nat) (k : Nat) (As : List Value) (h : rm_H) : dM L xs zf w (k + 1) 301 As h = f301 L xs zf (dM L xs zf w k) w As h := rfl
theorem e302 (L : Nat) (xs : Nat → Int32) (zf : Value) (w : Nat) (k : Nat) (As : List Value) (h : rm_H) : dM L xs zf w (k + 1) 302 As h = f302 L xs zf (dM L xs zf w k) w As h := rfl
theorem e303 (L : Nat) (xs : Nat → Int32) (zf : Value) (w : Nat) (k : Nat) (As : List Value) (h : rm_H) : dM L xs zf w (k + 1) 303 As h = f303 L xs zf (dM L xs zf w k) w As h := rfl
theorem e304 (L : Nat) (xs : Nat → Int32) (zf : Value) (w : Nat) (k : Nat) (As : List Value) (h : rm_H) : dM L xs zf w (k + 1) 304 As h = f304 L xs zf (dM L xs zf w k) w As h := rfl
theorem e305 (L : Nat) (xs : Nat → Int32) (zf : Value) (w : Nat) (k : Nat) (As : List Value) (h : rm_H) : dM L xs zf w (k + 1) 305 As h = f305 L xs zf (dM L xs zf w k) w As h := rfl
theorem e306 (L : Nat) (xs : Nat → Int32) (zf : Value) (w : Nat) (k : Nat) (As : List Value) (h : rm_H) : dM L xs zf w (k + 1) 306 As h = f306 L xs zf (dM L xs zf w k) w As h := rfl
theorem e307 (L : Nat) (xs : Nat → Int32) (zf : Value) (w : Nat) (k : Nat) (As : List Value) (h : rm_H) : dM L xs zf w (k + 1) 307 As h = f307 L xs zf (dM L xs zf w k) w As h := rfl
theorem e308 (L : Nat) (xs : Nat → Int32) (zf : Value) (w : Nat) (k : Nat) (As : List Value) (h : rm_H) : dM L xs zf w (k + 1) 308 As h = f308 L xs zf (dM L xs zf w k) w As h := rfl
theorem e309 (L : Nat) (xs : Nat → Int32) (zf : Value) (w : Nat) (k : Nat) (As : List Value) (h : rm_H) : dM L xs zf w (k + 1) 309 As h = f309 L xs zf (dM L xs zf w k) w As h := rfl
theorem e310 (L : Nat) (xs : Nat → Int32) (zf : Value) (w : Nat) (k : Nat) (As : List Value) (h : rm_H) : dM L xs zf w (k + 1) 310 As h = f310 L xs zf (dM L xs zf w k) w As h := rfl
theorem e311 (L : Nat) (xs : Nat → Int32) (zf : Value) (w : Nat) (k : Nat) (As : List Value) (h : rm_H) : dM L xs zf w (k + 1) 311 As h = f311 L xs zf (dM L xs zf w k) w As h := rfl
theorem e312 (L : Nat) (xs : Nat → Int32) (zf : Value) (w : Nat) (k : Nat) (As : List Value) (h : rm_H) : dM L xs zf w (k + 1) 312 As h = f312 L xs zf (dM L xs zf w k) w As h := rfl
theorem e313 (L : Nat) (xs : Nat → Int32) (zf : Value) (w : Nat) (k : Nat) (As : List Value) (h : rm_H) : dM L xs zf w (k + 1) 313 As h = f313 L xs zf (dM L xs zf w k) w As h := rfl
theorem e314 (L : Nat) (xs : Nat → Int32) (zf : Value) (w : Nat) (k : Nat) (As : List Value) (h : rm_H) : dM L xs zf w (k + 1) 314 As h = f314 L xs zf (dM L xs zf w k) w As h := rfl
theorem e315 (L : Nat) (xs : Nat → Int32) (zf : Value) (w : Nat) (k : Nat) (As : List Value) (h : rm_H) : dM L xs zf w (k + 1) 315 As h = f315 L xs zf (dM L xs zf w k) w As h := rfl
theorem e316 (L : Nat) (xs : Nat → Int32) (zf : Value) (w : Nat) (k : Nat) (As : List Value) (h : rm_H) : dM L xs zf w (k + 1) 316 As h = f316 L xs zf (dM L xs zf w k) w As h := rfl
theorem e317 (L : Nat) (xs : Nat → Int32) (zf : Value) (w : Nat) (k : Nat) (As : List Value) (h : rm_H) : dM L xs zf w (k + 1) 317 As h = f317 L xs zf (dM L xs zf w k) w As h := rfl
theorem e318 (L : Nat) (xs : Nat → Int32) (zf : Value) (w : Nat) (k : Nat) (As : List Value) (h : rm_H) : dM L xs zf w (k + 1) 318 As h = f318 L xs zf (dM L xs zf w k) w As h := rfl
theorem e319 (L : Nat) (xs : Nat → Int32) (zf : Value) (w : Nat) (k : Nat) (As : List Value) (h : rm_H) : dM L xs zf w (k + 1) 319 As h = f319 L xs zf (dM L xs zf w k) w As h := rfl
theorem e320 (L : Nat) (xs : Nat → Int32) (zf : Value) (w : Nat) (k : Nat) (As : List Value) (h : rm_H) : dM L xs zf w (k + 1) 320 As h = f320 L xs zf (dM L xs zf w k) w As h := rfl
theorem e321 (L : Nat) (xs : Nat → Int32) (zf : Value) (w : Nat) (k : Nat) (As : List Value) (h : rm_H) : dM L xs zf w (k + 1) 321 As h = f321 L xs zf (dM L xs zf w k) w As h := rfl
theorem e322 (L : Nat) (xs : Nat → Int32) (zf : Value) (w : Nat) (k : Nat) (As : List Value) (h : rm_H) : dM L xs zf w (k + 1) 322 As h = f322 L xs zf (dM L xs zf w k) w As h := rfl
theorem e323 (L : Nat) (xs : Nat → Int32) (zf : Value) (w : Nat) (k : Nat) (As : List Value) (h : rm_H) : dM L xs zf w (k + 1) 323 As h = f323 L xs zf (dM L xs zf w k) w As h := rfl
theorem e324 (L : Nat) (xs : Nat → Int32) (zf : Value) (w : Nat) (k : Nat) (As : List Value) (h : rm_H) : dM L xs zf w (k + 1) 324 As h = f324 L xs zf (dM L xs zf w k) w As h := rfl
theorem e325 (L : Nat) (xs : Nat → Int32) (zf : Value) (w : Nat) (k : Nat) (As : List Value) (h : rm_H) : dM L xs zf w (k + 1) 325 As h = f325 L xs zf (dM L xs zf w k) w As h := rfl
theorem e326 (L : Nat) (xs : Nat → Int32) (zf : Value) (w : Nat) (k : Nat) (As : List Value) (h : rm_H) : dM L xs zf w (k + 1) 326 As h = f326 L xs zf (dM L xs zf w k) w As h := rfl
theorem e327 (L : Nat) (xs : Nat → Int32) (zf : Value) (w : Nat) (k : Nat) (As : List Value) (h : rm_H) : dM L xs zf w (k + 1) 327 As h = f327 L xs zf (dM L xs zf w k) w As h := rfl
theorem e328 (L : Nat) (xs : Nat → Int32) (zf : Value) (w : Nat) (k : Nat) (As : List Value) (h : rm_H) : dM L xs zf w (k + 1) 328 As h = f328 L xs zf (dM L xs zf w k) w As h := rfl
theorem e329 (L : Nat) (xs : Nat → Int32) (zf : Value) (w : Nat) (k : Nat) (As : List Value) (h : rm_H) : dM L xs zf w (k + 1) 329 As h = f329 L xs zf (dM L xs zf w k) w As h := rfl
theorem e330 (L : Nat) (xs : Nat → Int32) (zf : Value) (w : Nat) (k : Nat) (As : List Value) (h : rm_H) : dM L xs zf w (k + 1) 330 As h = f330 L xs zf (dM L xs zf w k) w As h := rfl
theorem e331 (L : Nat) (xs : Nat → Int32) (zf : Value) (w : Nat) (k : Nat) (As : List Value) (h : rm_H) : dM L xs zf w (k + 1) 331 As h = f331 L xs zf (dM L xs zf w k) w As h := rfl
theorem e332 (L : Nat) (xs : Nat → Int32) (zf : Value) (w : Nat) (k : Nat) (As : List Value) (h : rm_H) : dM L xs zf w (k + 1) 332 As h = f332 L xs zf (dM L xs zf w k) w As h := rfl
theorem e333 (L : Nat) (xs : Nat → Int32) (zf : Value) (w : Nat) (k : Nat) (As : List Value) (h : rm_H) : dM L xs zf w (k + 1) 333 As h = f333 L xs zf (dM L xs zf w k) w As h := rfl
theorem e334 (L : Nat) (xs : Nat → Int32) (zf : Value) (w : Nat) (k : Nat) (As : List Value) (h : rm_H) : dM L xs zf w (k + 1) 334 As h = f334 L xs zf (dM L xs zf w k) w As h := rfl
theorem e335 (L : Nat) (xs : Nat → Int32) (zf : Value) (w : Nat) (k : Nat) (As : List Value) (h : rm_H) : dM L xs zf w (k + 1) 335 As h = f335 L xs zf (dM L xs zf w k) w As h := rfl
theorem e336 (L : Nat) (xs : Nat → Int32) (zf : Value) (w : Nat) (k : Nat) (As : List Value) (h : rm_H) : dM L xs zf w (k + 1) 336 As h = f336 L xs zf (dM L xs zf w k) w As h := rfl
theorem e337 (L : Nat) (xs : Nat → Int32) (zf : Value) (w : Nat) (k : Nat) (As : List Value) (h : rm_H) : dM L xs zf w (k + 1) 337 As h = f337 L xs zf (dM L xs zf w k) w As h := rfl
theorem e338 (L : Nat) (xs : Nat → Int32) (zf : Value) (w : Nat) (k : Nat) (As : List Value) (h : rm_H) : dM L xs zf w (k + 1) 338 As h = f338 L xs zf (dM L xs zf w k) w As h := rfl
theorem e339 (L : Nat) (xs : Nat → Int32) (zf : Value) (w : Nat) (k : Nat) (As : List Value) (h : rm_H) : dM L xs zf w (k + 1) 339 As h = f339 L xs zf (dM L xs zf w k) w As h := rfl
theorem e340 (L : Nat) (xs : Nat → Int32) (zf : Value) (w : Nat) (k : Nat) (As : List Value) (h : rm_H) : dM L xs zf w (k + 1) 340 As h = f340 L xs zf (dM L xs zf w k) w As h := rfl
theorem e341 (L : Nat) (xs : Nat → Int32) (zf : Value) (w : Nat) (k : Nat) (As : List Value) (h : rm_H) : dM L xs zf w (k + 1) 341 As h = f341 L xs zf (dM L xs zf w k) w As h := rfl
theorem e342 (L : Nat) (xs : Nat → Int32) (zf : Value) (w : Nat) (k : Nat) (As : List Value) (h : rm_H) : dM L xs zf w (k + 1) 342 As h = f342 L xs zf (dM L xs zf w k) w As h := rfl
theorem e343 (L : Nat) (xs : Nat → Int32) (zf : Value) (w : Nat) (k : Nat) (As : List Value) (h : rm_H) : dM L xs zf w (k + 1) 343 As h = f343 L xs zf (dM L xs zf w k) w As h := rfl
theorem e344 (L : Nat) (xs : Nat → Int32) (zf : Value) (w : Nat) (k : Nat) (As : List Value) (h : rm_H) : dM L xs zf w (k + 1) 344 As h = f344 L xs zf (dM L xs zf w k) w As h := rfl
theorem e345 (L : Nat) (xs : Nat → Int32) (zf : Value) (w : Nat) (k : Nat) (As : List Value) (h : rm_H) : dM L xs zf w (k + 1) 345 As h = f345 L xs zf (dM L xs zf w k) w As h := rfl
theorem e346 (L : Nat) (xs : Nat → Int32) (zf : Value) (w : Nat) (k : Nat) (As : List Value) (h : rm_H) : dM L xs zf w (k + 1) 346 As h = f346 L xs zf (dM L xs zf w k) w As h := rfl
theorem e347 (L : Nat) (xs : Nat → Int32) (zf : Value) (w : Nat) (k : Nat) (As : List Value) (h : rm_H) : dM L xs zf w (k + 1) 347 As h = f347 L xs zf (dM L xs zf w k) w As h := rfl
theorem e348 (L : Nat) (xs : Nat → Int32) (zf : Value) (w : Nat) (k : Nat) (As : List Value) (h : rm_H) : dM L xs zf w (k + 1) 348 As h = f348 L xs zf (dM L xs zf w k) w As h := rfl
theorem e349 (L : Nat) (xs : Nat → Int32) (zf : Value) (w : Nat) (k : Nat) (As : List Value) (h : rm_H) : dM L xs zf w (k + 1) 349 As h = f349 L xs zf (dM L xs zf w k) w As h := rfl
theorem e350 (L : Nat) (xs : Nat → Int32) (zf : Value) (w : Nat) (k : Nat) (As : List Value) (h : rm_H) : dM L xs zf w (k + 1) 350 As h = f350 L xs zf (dM L xs zf w k) w As h := rfl
theorem e351 (L : Nat) (xs : Nat → Int32) (zf : Value) (w : Nat) (k : Nat) (As : List Value) (h : rm_H) : dM L xs zf w (k + 1) 351 As h = f351 L xs zf (dM L xs zf w k) w As h := rfl
theorem e352 (L : Nat) (xs : Nat → Int32) (zf : Value) (w : Nat) (k : Nat) (As : List Value) (h : rm_H) : dM L xs zf w (k + 1) 352 As h = f352 L xs zf (dM L xs zf w k) w As h := rfl
theorem e353 (L : Nat) (xs : Nat → Int32) (zf : Value) (w : Nat) (k : Nat) (As : List Value) (h : rm_H) : dM L xs zf w (k + 1) 353 As h = f353 L xs zf (dM L xs zf w k) w As h := rfl
theorem e354 (L : Nat) (xs : Nat → Int32) (zf : Value) (w : Nat) (k : Nat) (As : List Value) (h : rm_H) : dM L xs zf w (k + 1) 354 As h = f354 L xs zf (dM L xs zf w k) w As h := rfl
theorem e355 (L : Nat) (xs : Nat → Int32) (zf : Value) (w : Nat) (k : Nat) (As : List Value) (h : rm_H) : dM L xs zf w (k + 1) 355 As h = f355 L xs zf (dM L xs zf w k) w As h := rfl
theorem e356 (L : Nat) (xs : Nat → Int32) (zf : Value) (w : Nat) (k : Nat) (As : List Value) (h : rm_H) : dM L xs zf w (k + 1) 356 As h = f356 L xs zf (dM L xs zf w k) w As h := rfl
theorem e357 (L : Nat) (xs : Nat → Int32) (zf : Value) (w : Nat) (k : Nat) (As : List Value) (h : rm_H) : dM L xs zf w (k + 1) 357 As h = f357 L xs zf (dM L xs zf w k) w As h := rfl
theorem e358 (L : Nat) (xs : Nat → Int32) (zf : Value) (w : Nat) (k : Nat) (As : List Value) (h : rm_H) : dM L xs zf w (k + 1) 358 As h = f358 L xs zf (dM L xs zf w k) w As h := rfl
theorem e359 (L : Nat) (xs : Nat → Int32) (zf : Value) (w : Nat) (k : Nat) (As : List Value) (h : rm_H) : dM L xs zf w (k + 1) 359 As h = f359 L xs zf (dM L xs zf w k) w As h := rfl
theorem e360 (L : Nat) (xs : Nat → Int32) (zf : Value) (w : Nat) (k : Nat) (As : List Value) (h : rm_H) : dM L xs zf w (k + 1) 360 As h = f360 L xs zf (dM L xs zf w k) w As h := rfl
theorem e361 (L : Nat) (xs : Nat → Int32) (zf : Value) (w : Nat) (k : Nat) (As : List Value) (h : rm_H) : dM L xs zf w (k + 1) 361 As h = f361 L xs zf (dM L xs zf w k) w As h := rfl
theorem e362 (L : Nat) (xs : Nat → Int32) (zf : Value) (w : Nat) (k : Nat) (As : List Value) (h : rm_H) : dM L xs zf w (k + 1) 362 As h = f362 L xs zf (dM L xs zf w k) w As h := rfl
theorem e363 (L : Nat) (xs : Nat → Int32) (zf : Value) (w : Nat) (k : Nat) (As : List Value) (h : rm_H) : dM L xs zf w (k + 1) 363 As h = f363 L xs zf (dM L xs zf w k) w As h := rfl
theorem e364 (L : Nat) (xs : Nat → Int32) (zf : Value) (w : Nat) (k : Nat) (As : List Value) (h : rm_H) : dM L xs zf w (k + 1) 364 As h = f364 L xs zf (dM L xs zf w k) w As h := rfl
theorem e365 (L : Nat) (xs : Nat → Int32) (zf : Value) (w : Nat) (k : Nat) (As : List Value) (h : rm_H) : dM L xs zf w (k + 1) 365 As h = f365 L xs zf (dM L xs zf w k) w As h := rfl
theorem e366 (L : Nat) (xs : Nat → Int32) (zf : Value) (w : Nat) (k : Nat) (As : List Value) (h : rm_H) : dM L xs zf w (k + 1) 366 As h = f366 L xs zf (dM L xs zf w k) w As h := rfl
theorem e367 (L : Nat) (xs : Nat → Int32) (zf : Value) (w : Nat) (k : Nat) (As : List Value) (h : rm_H) : dM L xs zf w (k + 1) 367 As h = f367 L xs zf (dM L xs zf w k) w As h := rfl
theorem e368 (L : Nat) (xs : Nat → Int32) (zf : Value) (w : Nat) (k : Nat) (As : List Value) (h : rm_H) : dM L xs zf w (k + 1) 368 As h = f368 L xs zf (dM L xs zf w k) w As h := rfl
theorem e369 (L : Nat) (xs : Nat → Int32) (zf : Value) (w : Nat) (k : Nat) (As : List Value) (h : rm_H) : dM L xs zf w (k + 1) 369 As h = f369 L xs zf (dM L xs zf w k) w As h := rfl
theorem e370 (L : Nat) (xs : Nat → Int32) (zf : Value) (w : Nat) (k : Nat) (As : List Value) (h : rm_H) : dM L xs zf w (k + 1) 370 As h = f370 L xs zf (dM L xs zf w k) w As h := rfl
theorem e371 (L : Nat) (xs : Nat → Int32) (zf : Value) (w : Nat) (k : Nat) (As : List Value) (h : rm_H) : dM L xs zf w (k + 1) 371 As h = f371 L xs zf (dM L xs zf w k) w As h := rfl
theorem e372 (L : Nat) (xs : Nat → Int32) (zf : Value) (w : Nat) (k : Nat) (As : List Value) (h : rm_H) : dM L xs zf w (k + 1) 372 As h = f372 L xs zf (dM L xs zf w k) w As h := rfl
theorem e373 (L : Nat) (xs : Nat → Int32) (zf : Value) (w : Nat) (k : Nat) (As : List Value) (h : rm_H) : dM L xs zf w (k + 1) 373 As h = f373 L xs zf (dM L xs zf w k) w As h := rfl
theorem e374 (L : Nat) (xs : Nat → Int32) (zf : Value) (w : Nat) (k : Nat) (As : List Value) (h : rm_H) : dM L xs zf w (k + 1) 374 As h = f374 L xs zf (dM L xs zf w k) w As h := rfl
theorem e375 (L : Nat) (xs : Nat → Int32) (zf : Value) (w : Nat) (k : Nat) (As : List Value) (h : rm_H) : dM L xs zf w (k + 1) 375 As h = f375 L xs zf (dM L xs zf w k) w As h := rfl
theorem e376 (L : Nat) (xs : Nat → Int32) (zf : Value) (w : Nat) (k : Nat) (As : List Value) (h : rm_H) : dM L xs zf w (k + 1) 376 As h = f376 L xs zf (dM L xs zf w k) w As h := rfl
theorem e377 (L : Nat) (xs : Nat → Int32) (zf : Value) (w : Nat) (k : Nat) (As : List Value) (h : rm_H) : dM L xs zf w (k + 1) 377 As h = f377 L xs zf (dM L xs zf w k) w As h := rfl
theorem e378 (L : Nat) (xs : Nat → Int32) (zf : Value) (w : Nat) (k : Nat) (As : List Value) (h : rm_H) : dM L xs zf w (k + 1) 378 As h = f378 L xs zf (dM L xs zf w k) w As h := rfl
theorem e379 (L : Nat) (xs : Nat → Int32) (zf : Value) (w : Nat) (k : Nat) (As : List Value) (h : rm_H) : dM L xs zf w (k + 1) 379 As h = f379 L xs zf (dM L xs zf w k) w As h := rfl
theorem e380 (L : Nat) (xs : Nat → Int32) (zf : Value) (w : Nat) (k : Nat) (As : List Value) (h : rm_H) : dM L xs zf w (k + 1) 380 As h = f380 L xs zf (dM L xs zf w k) w As h := rfl
theorem e381 (L : Nat) (xs : Nat → Int32) (zf : Value) (w : Nat) (k : Nat) (As : List Value) (h : rm_H) : dM L xs zf w (k + 1) 381 As h = f381 L xs zf (dM L xs zf w k) w As h := rfl
theorem e382 (L : Nat) (xs : Nat → Int32) (zf : Value) (w : Nat) (k : Nat) (As : List Value) (h : rm_H) : dM L xs zf w (k + 1) 382 As h = f382 L xs zf (dM L xs zf w k) w As h := rfl
theorem e383 (L : Nat) (xs : Nat → Int32) (zf : Value) (w : Nat) (k : Nat) (As : List Value) (h : rm_H) : dM L xs zf w (k + 1) 383 As h = f383 L xs zf (dM L xs zf w k) w As h := rfl
theorem e384 (L : Nat) (xs : Nat → Int32) (zf : Value) (w : Nat) (k : Nat) (As : List Value) (h : rm_H) : dM L xs zf w (k + 1) 384 As h = f384 L xs zf (dM L xs zf w k) w As h := rfl
theorem e385 (L : Nat) (xs : Nat → Int32) (zf : Value) (w : Nat) (k : Nat) (As : List Value) (h : rm_H) : dM L xs zf w (k + 1) 385 As h = f385 L xs zf (dM L xs zf w k) w As h := rfl
theorem e386 (L : Nat) (xs : Nat → Int32) (zf : Value) (w : Nat) (k : Nat) (As : List Value) (h : rm_H) : dM L xs zf w (k + 1) 386 As h = f386 L xs zf (dM L xs zf w k) w As h := rfl
theorem e387 (L : Nat) (xs : Nat → Int32) (zf : Value) (w : Nat) (k : Nat) (As : List Value) (h : rm_H) : dM L xs zf w (k + 1) 387 As h = f387 L xs zf (dM L xs zf w k) w As h := rfl
theorem e388 (L : Nat) (xs : Nat → Int32) (zf : Value) (w : Nat) (k : Nat) (As : List Value) (h : rm_H) : dM L xs zf w (k + 1) 388 As h = f388 L xs zf (dM L xs zf w k) w As h := rfl
theorem e389 (L : Nat) (xs : Nat → Int32) (zf : Value) (w : Nat) (k : Nat) (As : List Value) (h : rm_H) : dM L xs zf w (k + 1) 389 As h = f389 L xs zf (dM L xs zf w k) w As h := rfl
theorem e390 (L : Nat) (xs : Nat → Int32) (zf : Value) (w : Nat) (k : Nat) (As : List Value) (h : rm_H) : dM L xs zf w (k + 1) 390 As h = f390 L xs zf (dM L xs zf w k) w As h := rfl
theorem e391 (L : Nat) (xs : Nat → Int32) (zf : Value) (w : Nat) (k : Nat) (As : List Value) (h : rm_H) : dM L xs zf w (k + 1) 391 As h = f391 L xs zf (dM L xs zf w k) w As h := rfl
theorem e392 (L : Nat) (xs : Nat → Int32) (zf : Value) (w : Nat) (k : Nat) (As : List Value) (h : rm_H) : dM L xs zf w (k + 1) 392 As h = f392 L xs zf (dM L xs zf w k) w As h := rfl
theorem e393 (L : Nat) (xs : Nat → Int32) (zf : Value) (w : Nat) (k : Nat) (As : List Value) (h : rm_H) : dM L xs zf w (k + 1) 393 As h = f393 L xs zf (dM L xs zf w k) w As h := rfl
theorem e394 (L : Nat) (xs : Nat → Int32) (zf : Value) (w : Nat) (k : Nat) (As : List Value) (h : rm_H) : dM L xs zf w (k + 1) 394 As h = f394 L xs zf (dM L xs zf w k) w As h := rfl
theorem e395 (L : Nat) (xs : Nat → Int32) (zf : Value) (w : Nat) (k : Nat) (As : List Value) (h : rm_H) : dM L xs zf w (k + 1) 395 As h = f395 L xs zf (dM L xs zf w k) w As h := rfl
theorem e396 (L : Nat) (xs : Nat → Int32) (zf : Value) (w : Nat) (k : Nat) (As : List Value) (h : rm_H) : dM L xs zf w (k + 1) 396 As h = f396 L xs zf (dM L xs zf w k) w As h := rfl
theorem e397 (L : Nat) (xs : Nat → Int32) (zf : Value) (w : Nat) (k : Nat) (As : List Value) (h : rm_H) : dM L xs zf w (k + 1) 397 As h = f397 L xs zf (dM L xs zf w k) w As h := rfl
theorem e398 (L : Nat) (xs : Nat → Int32) (zf : Value) (w : Nat) (k : Nat) (As : List Value) (h : rm_H) : dM L xs zf w (k + 1) 398 As h = f398 L xs zf (dM L xs zf w k) w As h := rfl
theorem e399 (L : Nat) (xs : Nat → Int32) (zf : Value) (w : Nat) (k : Nat) (As : List Value) (h : rm_H) : dM L xs zf w (k + 1) 399 As h = f399 L xs zf (dM L xs zf w k) w As h := rfl
theorem e400 (L : Nat) (xs : Nat → Int32) (zf : Value) (w : Nat) (k : Nat) (As : List Value) (h : rm_H) : dM L xs zf w (k + 1) 400 As h = f400 L xs zf (dM L xs zf w k) w As h := rfl
theorem e401 (L : Nat) (xs : Nat → Int32) (zf : Value) (w : Nat) (k : Nat) (As : List Value) (h : rm_H) : dM L xs zf w (k + 1) 401 As h = f401 L xs zf (dM L xs zf w k) w As h := rfl
theorem e402 (L : Nat) (xs : Nat → Int32) (zf : Value) (w : Nat) (k : Nat) (As : List Value) (h : rm_H) : dM L xs zf w (k + 1) 402 As h = f402 L xs zf (dM L xs zf w k) w As h := rfl
theorem e403 (L : Nat) (xs : Nat → Int32) (zf : Value) (w : Nat) (k : Nat) (As : List Value) (h : rm_H) : dM L xs zf w (k + 1) 403 As h = f403 L xs zf (dM L xs zf w k) w As h := rfl
theorem e404 (L : Nat) (xs : Nat → Int32) (zf : Value) (w : Nat) (k : Nat) (As : List Value) (h : rm_H) : dM L xs zf w (k + 1) 404 As h = f404 L xs zf (dM L xs zf w k) w As h := rfl
theorem e405 (L : Nat) (xs : Nat → Int32) (zf : Value) (w : Nat) (k : Nat) (As : List Value) (h : rm_H) : dM L xs zf w (k + 1) 405 As h = f405 L xs zf (dM L xs zf w k) w As h := rfl
theorem e406 (L : Nat) (xs : Nat → Int32) (zf : Value) (w : Nat) (k : Nat) (As : List Value) (h : rm_H) : dM L xs zf w (k + 1) 406 As h = f406 L xs zf (dM L xs zf w k) w As h := rfl
theorem e407 (L : Nat) (xs : Nat → Int32) (zf : Value) (w : Nat) (k : Nat) (As : List Value) (h : rm_H) : dM L xs zf w (k + 1) 407 As h = f407 L xs zf (dM L xs zf w k) w As h := rfl
theorem e408 (L : Nat) (xs : Nat → Int32) (zf : Value) (w : Nat) (k : Nat) (As : List Value) (h : rm_H) : dM L xs zf w (k + 1) 408 As h = f408 L xs zf (dM L xs zf w k) w As h := rfl
theorem e409 (L : Nat) (xs : Nat → Int32) (zf : Value) (w : Nat) (k : Nat) (As : List Value) (h : rm_H) : dM L xs zf w (k + 1) 409 As h = f409 L xs zf (dM L xs zf w k) w As h := rfl
theorem e410 (L : Nat) (xs : Nat → Int32) (zf : Value) (w : Nat) (k : Nat) (As : List Value) (h : rm_H) : dM L xs zf w (k + 1) 410 As h = f410 L xs zf (dM L xs zf w k) w As h := rfl
theorem e411 (L : Nat) (xs : Nat → Int32) (zf : Value) (w : Nat) (k : Nat) (As : List Value) (h : rm_H) : dM L xs zf w (k + 1) 411 As h = f411 L xs zf (dM L xs zf w k) w As h := rfl
theorem e412 (L : Nat) (xs : Nat → Int32) (zf : Value) (w : Nat) (k : Nat) (As : List Value) (h : rm_H) : dM L xs zf w (k + 1) 412 As h = f412 L xs zf (dM L xs zf w k) w As h := rfl
theorem e413 (L : Nat) (xs : Nat → Int32) (zf : Value) (w : Nat) (k : Nat) (As : List Value) (h : rm_H) : dM L xs zf w (k + 1) 413 As h = f413 L xs zf (dM L xs zf w k) w As h := rfl
