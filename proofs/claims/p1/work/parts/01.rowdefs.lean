/-! A method: its name, bytes, locals, what it returns, its instructions with their links. -/
abbrev rm_M : Type := MethodName × ByteArray × Nat × Option FieldType × List (Nat × Instr × Nat × List Nat)
/-- the rows are what the bytes decode to -/
def rm_dec (b : ByteArray) (rows : List (Nat × Instr × Nat × List Nat)) : Bool := rows.all (fun q => decide (decode b q.1 = .ok (q.2.1, q.2.2.1)))
theorem rm_dec_ok {b : ByteArray} {rows : List (Nat × Instr × Nat × List Nat)} (h : rm_dec b rows = true) {q : Nat × Instr × Nat × List Nat} (hq : q ∈ rows) : decode b q.1 = .ok (q.2.1, q.2.2.1) := of_decide_eq_true (List.all_eq_true.mp h q hq)
theorem rm_dec_app {b : ByteArray} {r1 r2 : List (Nat × Instr × Nat × List Nat)} (h1 : rm_dec b r1 = true) (h2 : rm_dec b r2 = true) : rm_dec b (r1 ++ r2) = true := by
  unfold rm_dec at *
  rw [List.all_append, h1, h2]
  rfl
