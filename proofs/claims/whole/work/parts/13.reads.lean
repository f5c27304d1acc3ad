/-! THE INSTRUCTIONS THAT READ: fields, arrays, statics, constants, casts. 'lk' is what the tables' program says of an instruction's link: of a field its number and the classes that it may be read of; of a static its number in Z; of a constant 0 and the int, 1 and the old place of the text; of a cast the classes that pass. -/
def rm_in (i : Int32) (n : Nat) : Bool := !(decide (i < 0)) && decide (i.toNatClampNeg < n)
theorem rm_in_vp {i : Int32} {n m : Nat} (h : rm_in i n = true) (hm : n ≤ m) : ¬ (i < 0 ∨ m ≤ i.toNatClampNeg) ∧ i.toNatClampNeg < n := by
  simp only [rm_in, Bool.and_eq_true, Bool.not_eq_true', decide_eq_false_iff_not, decide_eq_true_eq] at h
  exact ⟨fun z => z.elim h.1 (fun z => by omega), h.2⟩
def rm_sB (n0 : Nat) (O : Nat → Option rm_E) (Z : Nat → Value) (TY : List FieldType) (ins : Instr) (len : Nat) (lk : List Nat) (pc : Nat) (lv : rm_L) (st : List Value) (h : rm_H) : Option (Nat × rm_L × List Value) := match ins with
  | .getfield _ => if len = 3 then (match lk, st with
    | k :: cis, .ref a :: r => (match rm_look n0 O h a with
      | some (.inr (ci, fs)) => if cis.contains ci = true then (match fs[k]? with
        | some v => some (pc + 3, lv, v :: r)
        | none => none) else none
      | _ => none)
    | _, _ => none) else none
  | .arraylength => if len = 1 then (match st with
    | .ref a :: r => (match rm_look n0 O h a with
      | some (.inl (t, x)) => if t < TY.length then some (pc + 1, lv, .int (Int32.ofNat x.1) :: r) else none
      | _ => none)
    | _ => none) else none
  | .iaload => if len = 1 then (match st with
    | .int i :: .ref a :: r => (match rm_look n0 O h a with
      | some (.inl (t, n, .inl f)) => if TY[t]? = some .int ∧ rm_in i n = true then some (pc + 1, lv, .int (f i.toNatClampNeg) :: r) else none
      | _ => none)
    | _ => none) else none
  | .baload => if len = 1 then (match st with
    | .int i :: .ref a :: r => (match rm_look n0 O h a with
      | some (.inl (t, n, .inl f)) => if (TY[t]? = some .byte ∨ TY[t]? = some .boolean) ∧ rm_in i n = true then some (pc + 1, lv, .int (f i.toNatClampNeg) :: r) else none
      | _ => none)
    | _ => none) else none
  | .laload => if len = 1 then (match st with
    | .int i :: .ref a :: r => (match rm_look n0 O h a with
      | some (.inl (t, n, .inr (.inl f))) => if TY[t]? = some .long ∧ rm_in i n = true then some (pc + 1, lv, .long (f i.toNatClampNeg) :: r) else none
      | _ => none)
    | _ => none) else none
  | .aaload => if len = 1 then (match st with
    | .int i :: .ref a :: r => (match rm_look n0 O h a with
      | some (.inl (t, n, .inr (.inr (.inr (.inr f))))) => (match TY[t]? with
        | some (.object _) => if rm_in i n = true then some (pc + 1, lv, va_rf (f i.toNatClampNeg) :: r) else none
        | _ => none)
      | _ => none)
    | _ => none) else none
  | .getstatic _ => if len = 3 then (match lk with
    | [z] => some (pc + 3, lv, Z z :: st)
    | _ => none) else none
  | .ldc _ => if len = 2 then (match lk with
    | [0, n] => some (pc + 2, lv, .int (Int32.ofNat n) :: st)
    | [1, a] => some (pc + 2, lv, .ref a :: st)
    | _ => none) else none
  | .ldc_w _ => if len = 3 then (match lk with
    | [0, n] => some (pc + 3, lv, .int (Int32.ofNat n) :: st)
    | _ => none) else none
  | .ldc2_w _ => if len = 3 then (match lk with
    | [n] => some (pc + 3, lv, .long (Int64.ofNat n) :: st)
    | _ => none) else none
  | .checkcast _ => if len = 3 ∧ lk ≠ [77] then (match st with
    | .null :: r => some (pc + 3, lv, .null :: r)
    | .ref a :: r => (match rm_look n0 O h a with
      | some (.inr (ci, _)) => if lk.contains ci = true then some (pc + 3, lv, .ref a :: r) else none
      | _ => none)
    | _ => none) else none
  | .instanceof _ => if len = 3 then (match st with
    | .null :: r => some (pc + 3, lv, .int 0 :: r)
    | .ref a :: r => (match rm_look n0 O h a with
      | some (.inr (ci, _)) => if lk.contains ci = true then some (pc + 3, lv, .int 1 :: r) else none
      | _ => none)
    | _ => none) else none
  | _ => none
/-- a field by its link -/
def rm_lkF (Ts : List Cond) (cl : List vw_C) (own : String) (idx k ci : Nat) : Prop := ∃ (r : vw_C) (ref : String), cl[ci]? = some r ∧ k < r.2.2 ∧ (ref = (r.2.1 k).1 ∨ Cond.sameField ref (r.2.1 k).1 (r.2.1 k).2.1 (r.2.1 k).2.2.1 ∈ Ts) ∧ (Cond.fieldLink own idx ref (r.2.1 k).2.1 (r.2.1 k).2.2.1 ∈ Ts ∨ ∃ host, Cond.fieldLinkNest own idx ref (r.2.1 k).2.1 (r.2.1 k).2.2.1 host ∈ Ts)
/-- a class by its link, to which objects of class ci can be cast -/
def rm_lkC (Ts : List Cond) (cl : List vw_C) (own : String) (idx ci : Nat) : Prop := ∃ (r : vw_C) (nm : String), cl[ci]? = some r ∧ Cond.classLink own idx nm ∈ Ts ∧ (r.1 = nm ∨ Cond.castable r.1 nm ∈ Ts)
def rm_lkB (Ts : List Cond) (cl : List vw_C) (strs : List (String × Nat × String × Nat)) (stats : List (String × String × String × Nat)) (own : String) (ins : Instr) (lk : List Nat) : Prop := match ins with
  | .getfield idx => ∀ ci ∈ lk.drop 1, rm_lkF Ts cl own idx (lk.headD 0) ci
  | .getstatic idx => lk ≠ [] → ∃ C n d, (C, n, d, lk.headD 0) ∈ stats ∧ (Cond.fieldLink own idx C n d ∈ Ts ∨ ∃ host, Cond.fieldLinkNest own idx C n d host ∈ Ts)
  | .ldc idx => (lk.headD 2 = 0 → Cond.constant own idx (Int32.ofNat (lk.getD 1 0)) ∈ Ts) ∧ (lk.headD 2 = 1 → ∃ tx, (own, idx, tx, lk.getD 1 0) ∈ strs)
  | .ldc_w idx => lk ≠ [] → Cond.constant own idx (Int32.ofNat (lk.getD 1 0)) ∈ Ts
  | .ldc2_w idx => lk ≠ [] → Cond.constantLong own idx (Int64.ofNat (lk.headD 0)) ∈ Ts
  | .checkcast idx => lk ≠ [77] → ∀ ci ∈ lk, rm_lkC Ts cl own idx ci
  | .instanceof idx => ∀ ci ∈ lk, rm_lkC Ts cl own idx ci
  | _ => True
section RM_B
variable {p : Program} {l : Launch} {e : Env} {R : Room} {s : State} {m : MethodId} {args : Array Value} {below : List Frame} {meth : Method} {c : Code} {H : Heap} {locs : List Loc} {cells slots : Nat} {Q : State → Prop} {cc : ByteArray} {ρ : Nat → Nat} {pc : Nat} {ls : Array Slot} {rest : List Value}
theorem rm_getf (hx : p.tables.exec = Jvm.exec) (hb : c.code = cc) {Ts : List Cond} {cl : List vw_C} {TY : List FieldType} {own : String} {idx k ci q : Nat} {fs : List Value} {v : Value} (hts : ∀ w ∈ Ts, w.before args s = true) (hown : s.vm.findClass own = some m.cls) (hk : rm_lkF Ts cl own idx k ci) (hr : rm_rd s cl TY H q (.inr (ci, fs))) (hv : fs[k]? = some v) (hd : decode cc pc = .ok (.getfield idx, 3))
    (kk : W p l e R s m args below meth c H locs cells slots Q (F0 m (pc + 3) ls (v :: rest))) : W p l e R s m args below meth c H locs cells slots Q (F0 m pc ls (.ref q :: rest)) := by
  obtain ⟨r, ref, hc, hkn, hsm, hlk⟩ := hk
  obtain ⟨cell, h1, h2, h3, h4, h5⟩ := hr r hc
  obtain ⟨cf, kf, fi, f, g1, g2, g3⟩ := h5 k v hkn hv
  have g4 : s.fieldFound? ref (r.2.1 k).2.1 (r.2.1 k).2.2.1 = some (cf, kf, fi, f) := by
    rcases hsm with rfl | hsm
    · exact g1
    · exact u_same (hts _ hsm) _ g1
  rcases hlk with hlk | ⟨host, hlk⟩
  · exact W.getf hx hb hown (hts _ hlk) g4 g2 h1 h3 g3 rfl rfl hd kk
  · exact va_Wgetf hx hb hown (hts _ hlk) g4 g2 h1 h3 g3 rfl rfl hd kk
theorem rm_alen (hx : p.tables.exec = Jvm.exec) (hb : c.code = cc) {ty : FieldType} {q n : Nat} {f : Nat → Value} (hr : rm_RA s H q ty n f) (hd : decode cc pc = .ok (.arraylength, 1))
    (kk : W p l e R s m args below meth c H locs cells slots Q (F0 m (pc + 1) ls (.int (Int32.ofNat n) :: rest))) : W p l e R s m args below meth c H locs cells slots Q (F0 m pc ls (.ref q :: rest)) := by
  obtain ⟨cell, h1, h2, h3, h4, h5, h6⟩ := hr
  exact W.alen hx hb h1 h2 h5 rfl rfl hd kk
theorem rm_cast (hx : p.tables.exec = Jvm.exec) (hb : c.code = cc) {Ts : List Cond} {cl : List vw_C} {TY : List FieldType} {own : String} {idx ci q : Nat} {fs : List Value} (hts : ∀ w ∈ Ts, w.before args s = true) (hg : ∀ w ∈ Ts, w.before #[] s = true) (hown : s.vm.findClass own = some m.cls) (hk : rm_lkC Ts cl own idx ci) (hr : rm_rd s cl TY H q (.inr (ci, fs))) (hd : decode cc pc = .ok (.checkcast idx, 3))
    (kk : W p l e R s m args below meth c H locs cells slots Q (F0 m (pc + 3) ls (.ref q :: rest))) : W p l e R s m args below meth c H locs cells slots Q (F0 m pc ls (.ref q :: rest)) := by
  obtain ⟨r, nm, hc, hlk, hcs⟩ := hk
  obtain ⟨cell, h1, h2, h3, h4, h5⟩ := hr r hc
  rcases hcs with rfl | hcs
  · exact va_castE hx hb hown (hts _ hlk) ⟨cell, h1, h2, h4⟩ hd kk
  · exact va_castY hx hb hown (hts _ hlk) (hg _ hcs) ⟨cell, h1, h2, h4⟩ hd kk
theorem rm_inst (hx : p.tables.exec = Jvm.exec) (hb : c.code = cc) {Ts : List Cond} {cl : List vw_C} {TY : List FieldType} {own : String} {idx ci q : Nat} {fs : List Value} (hts : ∀ w ∈ Ts, w.before args s = true) (hg : ∀ w ∈ Ts, w.before #[] s = true) (hown : s.vm.findClass own = some m.cls) (hk : rm_lkC Ts cl own idx ci) (hr : rm_rd s cl TY H q (.inr (ci, fs))) (hd : decode cc pc = .ok (.instanceof idx, 3))
    (kk : W p l e R s m args below meth c H locs cells slots Q (F0 m (pc + 3) ls (.int 1 :: rest))) : W p l e R s m args below meth c H locs cells slots Q (F0 m pc ls (.ref q :: rest)) := by
  obtain ⟨r, nm, hc, hlk, hcs⟩ := hk
  obtain ⟨cell, h1, h2, h3, h4, h5⟩ := hr r hc
  rcases hcs with rfl | hcs
  · exact va_instE hx hb hown (hts _ hlk) ⟨cell, h1, h2, h4⟩ hd kk
  · exact va_instY hx hb hown (hts _ hlk) (hg _ hcs) ⟨cell, h1, h2, h4⟩ hd kk
end RM_B
