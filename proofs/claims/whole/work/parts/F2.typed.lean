/-! WHAT A CHECKED BODY IS: the types and the code of its nodes. -/
/-- a name that can be seen: its code, its slot, its type, in how many recovers it stands -/
abbrev scN := Int64 × Nat × Nat × Nat
abbrev EXJ := Nat → List scN → Int32 → Nat → Nat → Int32 → Nat → Nat → Prop
abbrev BLJ := Nat → List scN → Int32 → Nat → Nat → Nat → Int32 → Nat → Nat → Prop
/-- the bit of a slot -/
def bt (sl : Nat) : Int32 := (1 : Int32) <<< (Int32.ofNat sl &&& 31)
/-- the node is a place -/
def isPl (K : Int32) : Bool := decide (K = 3) || decide (K = 4) || decide (K = 10)
/-- what a value of an expression is: the fault (0: none) and the type -/
def vlF (pl : Bool) (t : Nat) : Int32 × Nat := if t = 0 then (8, 0) else if 8 ≤ t ∧ t % 8 = 6 then (0, t - 1) else if (isO t && pl) = true then (if t % 8 = 0 then (6, t) else if t % 8 = 1 then (0, t + 3) else (0, t)) else (0, t)
/-- int, an actor, an object that may go over -/
def sdT (t : Nat) : Bool := decide (t = 1) || (decide (8 ≤ t) && (decide (t % 8 = 5) || decide (t % 8 = 0) || decide (t % 8 = 3)))
section TXD
variable (s0 : rS) (SL A B : Nat → Int32) (m : Nat)
/-- the type that is written at y -/
def tyc (y : Int32) (t : Nat) : Prop := ∃ k : Nat, k < 2000 ∧ y = Int32.ofNat k ∧ s0.2.1 60 k = rTp t ∧ dTy t = true
/-- the parameters of a method -/
def pmT (m' : Nat) (ts : List Nat) : Prop := ∃ p0 : Nat, s0.2.1 77 m' = Int32.ofNat p0 ∧ s0.2.1 77 (m' + 1) = Int32.ofNat (p0 + ts.length) ∧ p0 + ts.length ≤ 440 ∧ ∀ i t, ts[i]? = some t → tyc s0 (s0.2.1 81 (p0 + i)) t
def rsT (m' : Nat) (t : Nat) : Prop := (s0.2.1 75 m' = -1 ∧ t = 0) ∨ tyc s0 (s0.2.1 75 m') t
/-- this -/
def thT (lv t : Nat) : Prop := ∃ k : Nat, k < 8 ∧ s0.2.1 71 m = Int32.ofNat k ∧ ((s0.2.1 66 k = 1 ∧ t = 8 * (k + 1) + (if lv = 0 then 6 else 5)) ∨ (s0.2.1 66 k = 0 ∧ ∃ c, c < 5 ∧ (if s0.2.1 70 m = 0 then 2 else s0.2.1 72 m) = Int32.ofNat c ∧ t = 8 * (k + 1) + c ∧ (lv ≠ 0 → c = 3)))
/-- a kind of the program -/
def kRl (k : Nat) : Prop := k < 8 ∧ (k : Int) < (s0.1 32).toInt
/-- field f of kind k, its name's code and its type -/
def fdT (k : Nat) (c : Int64) (f0 f t : Nat) : Prop := ∃ f1 : Nat, s0.2.1 64 k = Int32.ofNat f0 ∧ s0.2.1 64 (k + 1) = Int32.ofNat f1 ∧ f0 ≤ f ∧ f < f1 ∧ f1 ≤ 64 ∧ f1 ≤ f0 + 8 ∧ s0.2.2 67 f = c ∧ tyc s0 (s0.2.1 69 f) t ∧ kRl s0 k
/-- method m' of kind k -/
def mtT (k : Nat) (so : Int32) (c : Int64) (m' : Nat) : Prop := ∃ m0 m1 : Nat, s0.2.1 65 k = Int32.ofNat m0 ∧ s0.2.1 65 (k + 1) = Int32.ofNat m1 ∧ m0 < m' ∧ m' < m1 ∧ m1 ≤ 72 ∧ s0.2.1 70 m' = so ∧ s0.2.2 78 m' = c ∧ kRl s0 k
/-- nothing mutable goes in or out -/
def hmT (m' : Nat) : Prop := ∃ (ts : List Nat) (t : Nat), pmT s0 m' ts ∧ (∀ x ∈ ts, sdT x = true) ∧ rsT s0 m' t ∧ (t = 0 ∨ sdT t = true)
/-- fun m' may be called on what is seen with right a, a place or not -/
def clT (pl : Bool) (a m' : Nat) : Prop := if pl = true ∧ a = 1 then s0.2.1 72 m' = 4 ∨ (s0.2.1 72 m' = 2 ∧ hmT s0 m') else if pl = true ∧ a = 0 then (s0.2.1 72 m' = 4 ∨ s0.2.1 72 m' = 2) ∧ hmT s0 m' else lkV 1 (Int32.ofNat a) (s0.2.1 72 m') = 1
/-- the type of a field behind right a, by table q -/
def bhT (q a t t' : Nat) : Prop := if isO t = true then ∃ c, c < 5 ∧ lkV q (Int32.ofNat a) (Int32.ofNat (t % 8)) = Int32.ofNat c ∧ t' = t - t % 8 + c else t' = t
/-- what can be ahead of a dot -/
def ahT (t k : Nat) : Prop := 8 ≤ t ∧ t % 8 ≠ 5 ∧ k = t / 8 - 1
/-- a value -/
def VL (R : EXJ) (lv : Nat) (G : List scN) (g : Int32) (n t : Nat) (g' : Int32) (a b : Nat) : Prop := ∃ t0, R lv G g n t0 g' a b ∧ vlF (isPl (s0.2.1 44 n)) t0 = (0, t)
/-- arguments -/
def AG (R : EXJ) (lv : Nat) (G : List scN) : List Nat → Int32 → Int32 → Int32 → Nat → Nat → Prop
  | [], g, x, g', a, b => x = 0 ∧ g' = g ∧ b = a
  | t :: ts, g, x, g', a, b => ∃ (e : Nat) (g1 : Int32) (c : Nat), 1 ≤ e ∧ e < 4400 ∧ x = Int32.ofNat e ∧ VL s0 R lv G g e t g1 a c ∧ AG R lv G ts g1 (s0.2.1 48 e) g' c b
/-- they fit -/
def AF (m' : Nat) (ts : List Nat) : Prop := ∃ ps : List Nat, pmT s0 m' ps ∧ ps.length = ts.length ∧ ∀ (i t q : Nat), ts[i]? = some t → ps[i]? = some q → fitC (cT t) (cT q) = 0
/-- p is given the value of e: by name or by field; swapped or not -/
def ST (R : EXJ) (sw : Bool) (lv : Nat) (G : List scN) (g : Int32) (p e t : Nat) (g' : Int32) (a b : Nat) : Prop := ∃ (tv : Nat) (g1 : Int32) (c : Nat), VL s0 R lv G g e tv g1 a c ∧
  ((s0.2.1 44 p = 4 ∧ b = c + 1 ∧ ∃ (i : Nat) (x : scN), G[i]? = some x ∧ x.1 = s0.2.2 56 p ∧ x.2.2.1 = t ∧ SL p = Int32.ofNat x.2.1 ∧ (sw = true → g1 &&& bt x.2.1 = 0) ∧ x.2.2.2 = lv ∧ fitC (cT tv) (cT t) = 0 ∧ g' = g1 &&& (bt x.2.1 ^^^ (-1)) ∧ A c = (if sw = true then 9 else 11) ∧ B c = SL p)
  ∨ (s0.2.1 44 p = 10 ∧ ∃ (l ta k f0 f tf d : Nat), s0.2.1 45 p = Int32.ofNat l ∧ 1 ≤ l ∧ l < 4400 ∧ R lv G g1 l ta g' c d ∧ b = d + 1 ∧ ahT ta k ∧ fdT s0 k (s0.2.2 56 p) f0 f tf ∧ SL p = Int32.ofNat (f - f0) ∧ cpT ta ≠ 3 ∧ cpT ta ≠ 4 ∧ fitC (cT tv) (cT tf) = 0 ∧ (isO tv = true → lkV 2 (Int32.ofNat (cpT ta)) (Int32.ofNat (tv % 8)) = 1) ∧ (sw = true → bhT 3 (cpT ta) tf t) ∧ A d = (if sw = true then 10 else 12) ∧ B d = Int32.ofNat (f - f0) * 2 + oT ta))
/-- expressions -/
def XE (R : EXJ) (Q : BLJ) : EXJ := fun lv G g n t g' a b => ∃ K : Nat, s0.2.1 44 n = Int32.ofNat K ∧ K ≤ 13 ∧ match K with
  | 1 => t = 1 ∧ g' = g ∧ b = a + 1 ∧ A a = 0 ∧ B a = s0.2.1 54 n
  | 2 => t = 2 ∧ g' = g ∧ b = a + 1 ∧ A a = 0 ∧ B a = 0
  | 3 => thT s0 m lv t ∧ g' = g ∧ b = a + 1 ∧ A a = 1 ∧ B a = 0
  | 4 => ∃ (i : Nat) (x : scN), G[i]? = some x ∧ x.1 = s0.2.2 56 n ∧ t = x.2.2.1 ∧ SL n = Int32.ofNat x.2.1 ∧ g &&& bt x.2.1 = 0 ∧ (x.2.2.2 < lv → isO t = true → t % 8 = 3) ∧ g' = g ∧ b = a + 1 ∧ A a = 2 ∧ B a = SL n
  | 5 => ∃ (i : Nat) (x : scN), G[i]? = some x ∧ x.1 = s0.2.2 56 n ∧ t = x.2.2.1 ∧ SL n = Int32.ofNat x.2.1 ∧ g &&& bt x.2.1 = 0 ∧ (x.2.2.2 < lv → isO t = true → t % 8 = 3 ∨ t % 8 = 0) ∧ g' = g ||| bt x.2.1 ∧ b = a + 1 ∧ A a = 2 ∧ B a = SL n
  | 6 => ∃ (l tl c : Nat), s0.2.1 45 n = Int32.ofNat l ∧ 1 ≤ l ∧ l < 4400 ∧ R lv G g l tl g' a c ∧ 2 ≤ tl ∧ t = 1 ∧ b = c + 1 ∧ A c = 8 ∧ B c = 0
  | 7 => ∃ (p e : Nat), s0.2.1 45 n = Int32.ofNat p ∧ s0.2.1 46 n = Int32.ofNat e ∧ 1 ≤ p ∧ p < 4400 ∧ 1 ≤ e ∧ e < 4400 ∧ ST s0 SL A B R true lv G g p e t g' a b
  | 8 => ∃ (k m' c : Nat) (ts : List Nat), SL n = Int32.ofNat k ∧ kRl s0 k ∧ s0.2.1 65 k = Int32.ofNat m' ∧ m' < 72 ∧ AG s0 R lv G ts g (s0.2.1 45 n) g' a c ∧ AF s0 m' ts ∧ b = c + 1 ∧ B c = Int32.ofNat m' ∧ ((s0.2.1 66 k = 1 ∧ t = 8 * (k + 1) + 5 ∧ A c = 7) ∨ (s0.2.1 66 k = 0 ∧ A c = 6 ∧ ∃ cp, cp < 5 ∧ t = 8 * (k + 1) + cp ∧ (if s0.2.1 54 n = -1 then 2 else s0.2.1 54 n) = Int32.ofNat cp ∧ (cp = 0 ∨ cp = 1 ∨ cp = 3 → ∃ ps : List Nat, pmT s0 m' ps ∧ ∀ x ∈ ps, sdT x = true)))
  | 9 => ∃ (l tg : Nat), s0.2.1 45 n = Int32.ofNat l ∧ 1 ≤ l ∧ l < 4400 ∧ Q (lv + 1) G g l 2 tg g' a b ∧ t = (if isO tg = true then tg - tg % 8 + (if tg % 8 < 3 then 0 else 3) else tg)
  | 10 => ∃ (l tl k f0 f tf c : Nat), s0.2.1 45 n = Int32.ofNat l ∧ 1 ≤ l ∧ l < 4400 ∧ R lv G g l tl g' a c ∧ ahT tl k ∧ fdT s0 k (s0.2.2 56 n) f0 f tf ∧ bhT 4 (cpT tl) tf t ∧ SL n = Int32.ofNat (f - f0) ∧ b = c + 1 ∧ A c = 3 ∧ B c = Int32.ofNat (f - f0) * 2 + oT tl
  | 11 => ∃ (l tl k m' c d : Nat) (g1 : Int32) (ts : List Nat), s0.2.1 46 n = Int32.ofNat l ∧ 1 ≤ l ∧ l < 4400 ∧ AG s0 R lv G ts g (s0.2.1 45 n) g1 a c ∧ R lv G g1 l tl g' c d ∧ ahT tl k ∧ mtT s0 k 1 (s0.2.2 56 n) m' ∧ AF s0 m' ts ∧ (isO tl = true → clT s0 (isPl (s0.2.1 44 l)) (cpT tl) m') ∧ rsT s0 m' t ∧ SL n = Int32.ofNat m' ∧ b = d + 1 ∧ A d = 4 ∧ B d = Int32.ofNat m'
  | 12 => ∃ (l tl m' c d : Nat) (g1 : Int32) (ts : List Nat), s0.2.1 46 n = Int32.ofNat l ∧ 1 ≤ l ∧ l < 4400 ∧ AG s0 R lv G ts g (s0.2.1 45 n) g1 a c ∧ R lv G g1 l tl g' c d ∧ 8 ≤ tl ∧ 5 ≤ tl % 8 ∧ mtT s0 (tl / 8 - 1) 2 (s0.2.2 56 n) m' ∧ AF s0 m' ts ∧ t = 0 ∧ SL n = Int32.ofNat m' ∧ b = d + 1 ∧ A d = 5 ∧ B d = Int32.ofNat m'
  | 13 => ∃ (l r c d : Nat) (g1 : Int32), s0.2.1 45 n = Int32.ofNat l ∧ s0.2.1 46 n = Int32.ofNat r ∧ 1 ≤ l ∧ l < 4400 ∧ 1 ≤ r ∧ r < 4400 ∧ R lv G g l 1 g1 a c ∧ R lv G g1 r 1 g' c d ∧ t = 1 ∧ b = d + 1 ∧ A d = 13 ∧ opS (B d) (s0.2.1 54 n)
  | _ => False
/-- a step: what is seen behind it, what it gives -/
def XS (R : EXJ) (Q : BLJ) (lv : Nat) (G : List scN) (g : Int32) (n how : Nat) (G' : List scN) (tg : Nat) (g' : Int32) (a b : Nat) : Prop := ∃ (K l : Nat), s0.2.1 44 n = Int32.ofNat K ∧ s0.2.1 45 n = Int32.ofNat l ∧ 1 ≤ l ∧ l < 4400 ∧ match K with
  | 20 => ∃ (tv td sl c : Nat) (g1 : Int32), VL s0 R lv G g l tv g1 a c ∧ tyc s0 (s0.2.1 54 n) td ∧ (∀ x ∈ G, x.1 ≠ s0.2.2 56 n) ∧ fitC (cT tv) (cT td) = 0 ∧ SL n = Int32.ofNat sl ∧ sl < 16 ∧ G' = G ++ [(s0.2.2 56 n, sl, td, lv)] ∧ g' = g1 &&& (bt sl ^^^ (-1)) ∧ tg = 0 ∧ b = c + 1 ∧ A c = 11 ∧ B c = Int32.ofNat sl
  | 21 => G' = G ∧ tg = 0 ∧ ∃ (r c d x : Nat) (g1 g2 : Int32), s0.2.1 46 n = Int32.ofNat r ∧ 1 ≤ r ∧ r < 4400 ∧ R lv G g l 1 g1 a c ∧ A c = 18 ∧ Q lv G g1 r 0 x g2 (c + 1) d ∧ ((s0.2.1 47 n = 0 ∧ b = d ∧ B c = Int32.ofNat d ∧ g' = g1 ||| g2) ∨ ∃ (e y : Nat) (g3 : Int32), s0.2.1 47 n = Int32.ofNat e ∧ 1 ≤ e ∧ e < 4400 ∧ A d = 20 ∧ B d = Int32.ofNat b ∧ B c = Int32.ofNat (d + 1) ∧ Q lv G g1 e 0 y g3 (d + 1) b ∧ g' = g3 ||| g2)
  | 22 => G' = G ∧ tg = 0 ∧ ∃ (r c d x : Nat) (g2 : Int32), s0.2.1 46 n = Int32.ofNat r ∧ 1 ≤ r ∧ r < 4400 ∧ R lv G g l 1 g' a c ∧ A c = 18 ∧ B c = Int32.ofNat b ∧ Q lv G g' r 0 x g2 (c + 1) d ∧ A d = 20 ∧ B d = Int32.ofNat a ∧ b = d + 1 ∧ ∀ x ∈ G, g2 &&& (g ^^^ (-1)) &&& bt x.2.1 = 0
  | 23 => G' = G ∧ tg = 0 ∧ ∃ c, R lv G g l 1 g' a c ∧ b = c + 1 ∧ A c = 14 ∧ B c = 0
  | 24 => G' = G ∧ how = 1 ∧ tg = 0 ∧ ∃ tv c tr, VL s0 R lv G g l tv g' a c ∧ tyc s0 (s0.2.1 75 m) tr ∧ fitC (cT tv) (cT tr) = 0 ∧ b = c + 1 ∧ A c = 15 ∧ B c = 0
  | 25 => G' = G ∧ how = 2 ∧ ∃ c, VL s0 R lv G g l tg g' a c ∧ b = c + 1 ∧ A c = 16 ∧ B c = 0
  | 26 => G' = G ∧ tg = 0 ∧ ∃ (r x : Nat), s0.2.1 46 n = Int32.ofNat r ∧ 1 ≤ r ∧ r < 4400 ∧ ST s0 SL A B R false lv G g l r x g' a b
  | 27 => G' = G ∧ tg = 0 ∧ ∃ t c, R lv G g l t g' a c ∧ b = c + 1 ∧ A c = 17 ∧ B c = 0
  | _ => False
/-- steps, one behind the other -/
def XL (R : EXJ) (Q : BLJ) (lv how : Nat) : List Nat → List scN → Int32 → Int32 → Nat → Int32 → Nat → Nat → Prop
  | [], _, g, x, tg, g', a, b => x = 0 ∧ g' = g ∧ b = a ∧ tg = 0 ∧ how = 0
  | e :: r, G, g, x, tg, g', a, b => ∃ (G1 : List scN) (t1 c : Nat) (g1 : Int32), 1 ≤ e ∧ e < 4400 ∧ x = Int32.ofNat e ∧ ((r = [] ∧ s0.2.1 48 e = 0 ∧ XS s0 SL A B m R Q lv G g e how G1 tg g' a b ∧ (how ≠ 0 → s0.2.1 44 e = if how = 1 then 24 else 25)) ∨ (r ≠ [] ∧ XS s0 SL A B m R Q lv G g e 0 G1 t1 g1 a c ∧ XL R Q lv how r G1 g1 (s0.2.1 48 e) tg g' c b))
def XB (R : EXJ) (Q : BLJ) : BLJ := fun lv G g n how tg g' a b => s0.2.1 44 n = 30 ∧ ∃ es : List Nat, XL s0 SL A B m R Q lv how es G g (s0.2.1 45 n) tg g' a b
/-- derivations f deep at most -/
def TU : Nat → EXJ × BLJ
  | 0 => (fun _ _ _ _ _ _ _ _ => False, fun _ _ _ _ _ _ _ _ _ => False)
  | f + 1 => (fun lv G g n t g' a b => (TU f).1 lv G g n t g' a b ∨ XE s0 SL A B m (TU f).1 (TU f).2 lv G g n t g' a b, fun lv G g n how t g' a b => (TU f).2 lv G g n how t g' a b ∨ XB s0 SL A B m (TU f).1 (TU f).2 lv G g n how t g' a b)
end TXD
section TXL
variable {s0 : rS} {SL A B : Nat → Int32} {m f f2 lv n t how a b : Nat} {G : List scN} {g g' : Int32}
theorem TU_e (e : (TU s0 SL A B m f).1 lv G g n t g' a b) (h : f ≤ f2) : (TU s0 SL A B m f2).1 lv G g n t g' a b := by
  obtain ⟨j, rfl⟩ : ∃ j, f2 = f + j := ⟨f2 - f, by omega⟩
  clear h
  induction j with
  | zero => exact e
  | succ j ih => exact Or.inl ih
theorem TU_b (e : (TU s0 SL A B m f).2 lv G g n how t g' a b) (h : f ≤ f2) : (TU s0 SL A B m f2).2 lv G g n how t g' a b := by
  obtain ⟨j, rfl⟩ : ∃ j, f2 = f + j := ⟨f2 - f, by omega⟩
  clear h
  induction j with
  | zero => exact e
  | succ j ih => exact Or.inl ih
end TXL
