/-! RIGHTS: the class's tables and the reference's rules. -/
theorem ri_t0 {L : Nat} {xs : Nat → Int32} {zf : Value} {w k : Nat} (h : rm_H) : dM L xs zf w (k + 2) 221 [.ref 21, .int 0, .int 0, .int 0] h = some (some (.int 1), h) := rfl
theorem ri_t1 {w k : Nat} (s : rS) : rM w (k + 2) 289 [.ref 36, .int 0, .int 0, .int 0] s = some (some (.int 1), s) := rfl
