/-! TYPED CODE depends on what the checks leave alone. -/
/-- what the checks leave alone -/
def stp (s : rS) : rS := (fun j => if 57 ≤ j ∧ j ≤ 66 ∧ j ≠ 59 then 0 else s.1 j, fun p => if p = 53 ∨ p = 83 ∨ p = 84 ∨ p = 85 ∨ p = 86 then fun _ => 0 else s.2.1 p, fun p => if p = 82 then fun _ => 0 else s.2.2 p)
section TUK
variable {s s' : rS} {SL A B : Nat → Int32} {m : Nat}
theorem stp_k (rk : rK s s') : stp s' = stp s := by
  unfold stp
  refine Prod.ext (funext fun j => ?_) (Prod.ext (funext fun p => ?_) (funext fun p => ?_))
  · show (if 57 ≤ j ∧ j ≤ 66 ∧ j ≠ 59 then 0 else s'.1 j) = if 57 ≤ j ∧ j ≤ 66 ∧ j ≠ 59 then 0 else s.1 j
    by_cases c : 57 ≤ j ∧ j ≤ 66 ∧ j ≠ 59
    · rw [if_pos c, if_pos c]
    · rw [if_neg c, if_neg c]
      exact rk.1 j (by omega)
  · show (if p = 53 ∨ p = 83 ∨ p = 84 ∨ p = 85 ∨ p = 86 then fun _ => (0 : Int32) else s'.2.1 p) = if p = 53 ∨ p = 83 ∨ p = 84 ∨ p = 85 ∨ p = 86 then fun _ => (0 : Int32) else s.2.1 p
    by_cases c : p = 53 ∨ p = 83 ∨ p = 84 ∨ p = 85 ∨ p = 86
    · rw [if_pos c, if_pos c]
    · rw [if_neg c, if_neg c]
      exact rk.2.1 p (by omega) (by omega) (by omega) (by omega) (by omega)
  · show (if p = 82 then fun _ => (0 : Int64) else s'.2.2 p) = if p = 82 then fun _ => (0 : Int64) else s.2.2 p
    by_cases c : p = 82
    · rw [if_pos c, if_pos c]
    · rw [if_neg c, if_neg c]
      exact rk.2.2 p c
theorem su_r {q : Nat} (hq : q ≠ 53 ∧ q ≠ 83 ∧ q ≠ 84 ∧ q ≠ 85 ∧ q ≠ 86) : (stp s).2.1 q = s.2.1 q := if_neg (by omega)
theorem su_l {q : Nat} (hq : q ≠ 82) : (stp s).2.2 q = s.2.2 q := if_neg hq
theorem su_44 : (stp s).2.1 44 = s.2.1 44 := su_r (by decide)
theorem su_45 : (stp s).2.1 45 = s.2.1 45 := su_r (by decide)
theorem su_46 : (stp s).2.1 46 = s.2.1 46 := su_r (by decide)
theorem su_47 : (stp s).2.1 47 = s.2.1 47 := su_r (by decide)
theorem su_48 : (stp s).2.1 48 = s.2.1 48 := su_r (by decide)
theorem su_54 : (stp s).2.1 54 = s.2.1 54 := su_r (by decide)
theorem su_60 : (stp s).2.1 60 = s.2.1 60 := su_r (by decide)
theorem su_64 : (stp s).2.1 64 = s.2.1 64 := su_r (by decide)
theorem su_65 : (stp s).2.1 65 = s.2.1 65 := su_r (by decide)
theorem su_66 : (stp s).2.1 66 = s.2.1 66 := su_r (by decide)
theorem su_69 : (stp s).2.1 69 = s.2.1 69 := su_r (by decide)
theorem su_70 : (stp s).2.1 70 = s.2.1 70 := su_r (by decide)
theorem su_71 : (stp s).2.1 71 = s.2.1 71 := su_r (by decide)
theorem su_72 : (stp s).2.1 72 = s.2.1 72 := su_r (by decide)
theorem su_75 : (stp s).2.1 75 = s.2.1 75 := su_r (by decide)
theorem su_77 : (stp s).2.1 77 = s.2.1 77 := su_r (by decide)
theorem su_81 : (stp s).2.1 81 = s.2.1 81 := su_r (by decide)
theorem su_56 : (stp s).2.2 56 = s.2.2 56 := su_l (by decide)
theorem su_67 : (stp s).2.2 67 = s.2.2 67 := su_l (by decide)
theorem su_78 : (stp s).2.2 78 = s.2.2 78 := su_l (by decide)
theorem st_tyc : tyc (stp s) = tyc s := by
  unfold tyc
  simp only [su_44, su_45, su_46, su_47, su_48, su_54, su_60, su_64, su_65, su_66, su_69, su_70, su_71, su_72, su_75, su_77, su_81, su_56, su_67, su_78]
theorem st_pmT : pmT (stp s) = pmT s := by
  unfold pmT
  simp only [su_44, su_45, su_46, su_47, su_48, su_54, su_60, su_64, su_65, su_66, su_69, su_70, su_71, su_72, su_75, su_77, su_81, su_56, su_67, su_78, st_tyc]
theorem st_rsT : rsT (stp s) = rsT s := by
  unfold rsT
  simp only [su_44, su_45, su_46, su_47, su_48, su_54, su_60, su_64, su_65, su_66, su_69, su_70, su_71, su_72, su_75, su_77, su_81, su_56, su_67, su_78, st_tyc]
theorem st_thT : thT (stp s) = thT s := by
  unfold thT
  simp only [su_44, su_45, su_46, su_47, su_48, su_54, su_60, su_64, su_65, su_66, su_69, su_70, su_71, su_72, su_75, su_77, su_81, su_56, su_67, su_78]
theorem st_kRl {k : Nat} : kRl (stp s) k = kRl s k := by
  have e : (stp s).1 32 = s.1 32 := by
    show (if 57 ≤ 32 ∧ 32 ≤ 66 ∧ 32 ≠ 59 then (0 : Int32) else s.1 32) = s.1 32
    exact if_neg (by decide)
  unfold kRl
  rw [e]
theorem st_fdT : fdT (stp s) = fdT s := by
  unfold fdT
  simp only [su_44, su_45, su_46, su_47, su_48, su_54, su_60, su_64, su_65, su_66, su_69, su_70, su_71, su_72, su_75, su_77, su_81, su_56, su_67, su_78, st_tyc, st_kRl]
theorem st_mtT : mtT (stp s) = mtT s := by
  unfold mtT
  simp only [su_44, su_45, su_46, su_47, su_48, su_54, su_60, su_64, su_65, su_66, su_69, su_70, su_71, su_72, su_75, su_77, su_81, su_56, su_67, su_78, st_kRl]
theorem st_hmT : hmT (stp s) = hmT s := by
  unfold hmT
  simp only [su_44, su_45, su_46, su_47, su_48, su_54, su_60, su_64, su_65, su_66, su_69, su_70, su_71, su_72, su_75, su_77, su_81, su_56, su_67, su_78, st_pmT, st_rsT]
theorem st_clT : clT (stp s) = clT s := by
  unfold clT
  simp only [su_44, su_45, su_46, su_47, su_48, su_54, su_60, su_64, su_65, su_66, su_69, su_70, su_71, su_72, su_75, su_77, su_81, su_56, su_67, su_78, st_hmT]
theorem st_VL : VL (stp s) = VL s := by
  unfold VL
  simp only [su_44, su_45, su_46, su_47, su_48, su_54, su_60, su_64, su_65, su_66, su_69, su_70, su_71, su_72, su_75, su_77, su_81, su_56, su_67, su_78]
theorem st_AF : AF (stp s) = AF s := by
  unfold AF
  simp only [su_44, su_45, su_46, su_47, su_48, su_54, su_60, su_64, su_65, su_66, su_69, su_70, su_71, su_72, su_75, su_77, su_81, su_56, su_67, su_78, st_pmT]
theorem st_AG {R : EXJ} {lv : Nat} {G : List scN} : ∀ (ts : List Nat) (g x g' : Int32) (a b : Nat), AG (stp s) R lv G ts g x g' a b = AG s R lv G ts g x g' a b
  | [], _, _, _, _, _ => rfl
  | t :: ts, g, x, g', a, b => by
    unfold AG
    simp only [su_44, su_45, su_46, su_47, su_48, su_54, su_60, su_64, su_65, su_66, su_69, su_70, su_71, su_72, su_75, su_77, su_81, su_56, su_67, su_78, st_VL, st_AG ts]
theorem st_ST {R : EXJ} {sw : Bool} {lv : Nat} {G : List scN} {g : Int32} {p e t : Nat} {g' : Int32} {a b : Nat} : ST (stp s) SL A B R sw lv G g p e t g' a b = ST s SL A B R sw lv G g p e t g' a b := by
  unfold ST
  simp only [su_44, su_45, su_46, su_47, su_48, su_54, su_60, su_64, su_65, su_66, su_69, su_70, su_71, su_72, su_75, su_77, su_81, su_56, su_67, su_78, st_VL, st_fdT]
theorem st_XE {R : EXJ} {Q : BLJ} {lv : Nat} {G : List scN} {g : Int32} {n t : Nat} {g' : Int32} {a b : Nat} : XE (stp s) SL A B m R Q lv G g n t g' a b = XE s SL A B m R Q lv G g n t g' a b := by
  unfold XE
  simp only [su_44, su_45, su_46, su_47, su_48, su_54, su_60, su_64, su_65, su_66, su_69, su_70, su_71, su_72, su_75, su_77, su_81, su_56, su_67, su_78, st_kRl, st_VL, st_fdT, st_thT, st_ST, st_AG, st_AF, st_pmT, st_mtT, st_clT, st_rsT]
theorem st_XS {R : EXJ} {Q : BLJ} {lv : Nat} {G : List scN} {g : Int32} {n how : Nat} {G' : List scN} {tg : Nat} {g' : Int32} {a b : Nat} : XS (stp s) SL A B m R Q lv G g n how G' tg g' a b = XS s SL A B m R Q lv G g n how G' tg g' a b := by
  unfold XS
  simp only [su_44, su_45, su_46, su_47, su_48, su_54, su_60, su_64, su_65, su_66, su_69, su_70, su_71, su_72, su_75, su_77, su_81, su_56, su_67, su_78, st_VL, st_ST, st_tyc]
theorem st_XL {R : EXJ} {Q : BLJ} {lv how : Nat} : ∀ (es : List Nat) (G : List scN) (g x : Int32) (tg : Nat) (g' : Int32) (a b : Nat), XL (stp s) SL A B m R Q lv how es G g x tg g' a b = XL s SL A B m R Q lv how es G g x tg g' a b
  | [], _, _, _, _, _, _, _ => rfl
  | e :: r, G, g, x, tg, g', a, b => by
    unfold XL
    simp only [su_44, su_45, su_46, su_47, su_48, su_54, su_60, su_64, su_65, su_66, su_69, su_70, su_71, su_72, su_75, su_77, su_81, su_56, su_67, su_78, st_XS, st_XL r]
theorem st_XB {R : EXJ} {Q : BLJ} {lv : Nat} {G : List scN} {g : Int32} {n how t : Nat} {g' : Int32} {a b : Nat} : XB (stp s) SL A B m R Q lv G g n how t g' a b = XB s SL A B m R Q lv G g n how t g' a b := by
  unfold XB
  simp only [su_44, su_45, su_46, su_47, su_48, su_54, su_60, su_64, su_65, su_66, su_69, su_70, su_71, su_72, su_75, su_77, su_81, su_56, su_67, su_78, st_XL]
theorem st_TU : ∀ f, TU (stp s) SL A B m f = TU s SL A B m f
  | 0 => rfl
  | f + 1 => by
    have ih := st_TU f
    unfold TU
    rw [ih]
    refine Prod.ext ?_ ?_
    · funext lv G g n t g' a b
      show (_ ∨ XE (stp s) SL A B m _ _ lv G g n t g' a b) = (_ ∨ XE s SL A B m _ _ lv G g n t g' a b)
      rw [st_XE]
    · funext lv G g n how t g' a b
      show (_ ∨ XB (stp s) SL A B m _ _ lv G g n how t g' a b) = (_ ∨ XB s SL A B m _ _ lv G g n how t g' a b)
      rw [st_XB]
/-- the same typed code -/
theorem TU_k (rk : rK s s') (f : Nat) : TU s' SL A B m f = TU s SL A B m f := by rw [← st_TU (s := s') f, stp_k rk, st_TU]
end TUK
