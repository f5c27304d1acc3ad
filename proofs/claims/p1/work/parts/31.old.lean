/-! THE LAW'S START, 2: the old cells: the script, the static arrays, the texts. Old places: 0 the script; 1 to 4 AS_GOOD, SAFE, SWAPPED, SEEN; 5 ArrayList's empty array; 6 a formatter that is only carried; 7 to 13 the texts; 14 to 20 their bytes. -/
def ah_sa (k : Nat) : List Int32 := match k with
  | 0 => [1, 1, 1, 1, 1, 0, 1, 1, 1, 1, 0, 0, 1, 0, 1, 0, 0, 0, 1, 1, 0, 0, 0, 0, 1]
  | 1 => [1, 0, 0, 1, 0, 1, 1, 0, 1, 0, 1, 1, 1, 1, 1, 0, 0, 0, 0, 0, 0, 0, 0, 0, 0]
  | 2 => [0, (-1), (-1), 3, (-1), 0, 4, 4, 3, 4, 0, 1, 2, 3, 4, (-1), (-1), (-1), (-1), (-1), (-1), (-1), (-1), (-1), (-1)]
  | _ => [0, (-1), (-1), 3, (-1), 0, 4, 4, 3, 4, 0, 1, 2, 3, 4, 3, 3, 3, 3, 3, (-1), 4, 4, 3, 4]
def ah_len : List Nat := [117, 14, 0, 3, 4, 4, 117]
def ah_byt : List (List Int32) := [[99, 108, 97, 115, 115, 32, 97, 99, 116, 111, 114, 32, 110, 101, 119, 32, 102, 117, 110, 32, 98, 101, 32, 118, 97, 114, 32, 105, 102, 32, 101, 108, 115, 101, 32, 119, 104, 105, 108, 101, 32, 114, 101, 116, 117, 114, 110, 32, 116, 101, 108, 108, 32, 103, 105, 118, 101, 32, 104, 97, 115, 32, 115, 119, 97, 112, 32, 110, 111, 110, 101, 32, 116, 104, 105, 115, 32, 99, 111, 110, 115, 117, 109, 101, 32, 114, 101, 99, 111, 118, 101, 114, 32, 105, 115, 111, 32, 116, 114, 110, 32, 114, 101, 102, 32, 118, 97, 108, 32, 98, 111, 120, 32, 105, 110, 116, 32], [123, 125, 40, 41, 59, 44, 58, 46, 33, 61, 60, 43, 45, 42], [], [110, 101, 119], [77, 97, 105, 110], [110, 111, 110, 101], [99, 108, 97, 115, 115, 32, 97, 99, 116, 111, 114, 32, 110, 101, 119, 32, 102, 117, 110, 32, 98, 101, 32, 118, 97, 114, 32, 105, 102, 32, 101, 108, 115, 101, 32, 119, 104, 105, 108, 101, 32, 116, 101, 108, 108, 32, 114, 101, 116, 117, 114, 110, 32, 103, 105, 118, 101, 32, 104, 97, 115, 32, 115, 119, 97, 112, 32, 110, 111, 110, 101, 32, 116, 104, 105, 115, 32, 99, 111, 110, 115, 117, 109, 101, 32, 114, 101, 99, 111, 118, 101, 114, 32, 105, 115, 111, 32, 116, 114, 110, 32, 114, 101, 102, 32, 118, 97, 108, 32, 98, 111, 120, 32, 105, 110, 116, 32]]
def ah_tm (i : Nat) : Term := match i with
  | 0 => .string "ActorHouse$Reader" 86
  | 1 => .string "ActorHouse$Reader" 72
  | 2 => .string "ActorHouse$Parser" 136
  | 3 => .string "ActorHouse$Parser" 101
  | 4 => .string "ActorHouse$Program" 103
  | 5 => .string "ActorHouse$Output" 150
  | _ => .string "ActorHouseModel" 254
def ah_n0 : Nat := 21
def ah_O (L : Nat) (xs : Nat → Int32) (a : Nat) : Option rm_E := match a with
  | 0 => some (.inl (0, L, .inl xs))
  | 1 => some (.inl (0, 25, .inl (fun j => (ah_sa 0).getD j 0)))
  | 2 => some (.inl (0, 25, .inl (fun j => (ah_sa 1).getD j 0)))
  | 3 => some (.inl (0, 25, .inl (fun j => (ah_sa 2).getD j 0)))
  | 4 => some (.inl (0, 25, .inl (fun j => (ah_sa 3).getD j 0)))
  | 5 => some (.inl (4, 0, .inr (.inr (.inr (.inr (fun _ => none))))))
  | 7 => some (.inr (16, [.ref 14, .int 0]))
  | 8 => some (.inr (16, [.ref 15, .int 0]))
  | 9 => some (.inr (16, [.ref 16, .int 0]))
  | 10 => some (.inr (16, [.ref 17, .int 0]))
  | 11 => some (.inr (16, [.ref 18, .int 0]))
  | 12 => some (.inr (16, [.ref 19, .int 0]))
  | 13 => some (.inr (16, [.ref 20, .int 0]))
  | 14 => some (.inl (1, 117, .inl (fun j => (ah_byt.getD 0 []).getD j 0)))
  | 15 => some (.inl (1, 14, .inl (fun j => (ah_byt.getD 1 []).getD j 0)))
  | 16 => some (.inl (1, 0, .inl (fun j => (ah_byt.getD 2 []).getD j 0)))
  | 17 => some (.inl (1, 3, .inl (fun j => (ah_byt.getD 3 []).getD j 0)))
  | 18 => some (.inl (1, 4, .inl (fun j => (ah_byt.getD 4 []).getD j 0)))
  | 19 => some (.inl (1, 4, .inl (fun j => (ah_byt.getD 5 []).getD j 0)))
  | 20 => some (.inl (1, 117, .inl (fun j => (ah_byt.getD 6 []).getD j 0)))
  | _ => none
def ah_Z (zf : Value) (z : Nat) : Value := match z with
  | 0 => .int 1
  | 1 => zf
  | 2 => .int 1
  | 3 => .int 0
  | 4 => .int 8
  | 5 => .ref 5
  | 6 => .ref 1
  | 7 => .ref 2
  | 8 => .ref 3
  | _ => .ref 4
def ah_gc (a : Nat) : Bool := Nat.ble 21 a || Nat.beq a 5 || (Nat.ble 7 a && Nat.ble a 13)
