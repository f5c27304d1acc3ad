/-! POINTS: where an actor stands in the code of a method, and what is behind it. -/
/-- a value on the stack: its type, whether it is seen in its place, in how many recovers it lies -/
abbrev stE := Nat × Bool × Nat
abbrev ECt := Nat → Nat → Nat → List scN → Int32 → Nat → List stE → Prop
abbrev SCt := Nat → Nat → Nat → Nat → List scN → Int32 → List stE → Prop
def vE (lv : Nat) (ts : List Nat) : List stE := ts.reverse.map fun t => (t, false, lv)
/-- what is there by g' is there by g -/
def gl (G : List scN) (g g' : Int32) : Prop := ∀ x ∈ G, g' &&& bt x.2.1 = 0 → g &&& bt x.2.1 = 0
section PTS
variable (s : rS) (A B : Nat → Int32) (m F lo hi : Nat)
/-- 45 of a field that is set -/
def isSet (p : Nat) : Prop := ∃ P : Nat, s.2.1 49 p = Int32.ofNat P ∧ 1 ≤ P ∧ P < 4400 ∧ (s.2.1 44 P = 7 ∨ s.2.1 44 P = 26) ∧ s.2.1 45 P = Int32.ofNat p
def PTs (sw : Bool) (N : Int32 → Nat → List stE → Prop) (i q lv : Nat) (G : List scN) (g : Int32) (St : List stE) : Prop := ∃ p : Nat, s.2.1 45 q = Int32.ofNat p ∧ 1 ≤ p ∧ p < 4400 ∧
  ((s.2.1 44 p = 4 ∧ ∃ (tv j : Nat) (x : scN) (St0 : List stE), St = (tv, false, lv) :: St0 ∧ G[j]? = some x ∧ s.2.1 53 p = Int32.ofNat x.2.1 ∧ (sw = true → g &&& bt x.2.1 = 0) ∧ x.2.2.2 = lv ∧ fitC (cT tv) (cT x.2.2.1) = 0 ∧ A i = (if sw = true then 9 else 11) ∧ B i = s.2.1 53 p ∧ N (g &&& (bt x.2.1 ^^^ (-1))) x.2.2.1 St0)
  ∨ (s.2.1 44 p = 10 ∧ ∃ (tv ta : Nat) (pl : Bool) (k f0 f tf t : Nat) (St0 : List stE), St = (ta, pl, lv) :: (tv, false, lv) :: St0 ∧ ahT ta k ∧ fdT s k (s.2.2 56 p) f0 f tf ∧ s.2.1 53 p = Int32.ofNat (f - f0) ∧ cpT ta ≠ 3 ∧ cpT ta ≠ 4 ∧ fitC (cT tv) (cT tf) = 0 ∧ (isO tv = true → lkV 2 (Int32.ofNat (cpT ta)) (Int32.ofNat (tv % 8)) = 1) ∧ (sw = true → bhT 3 (cpT ta) tf t) ∧ A i = (if sw = true then 10 else 12) ∧ B i = Int32.ofNat (f - f0) * 2 + oT ta ∧ N g t St0))
/-- node q does its instruction at i -/
def PTb (E : ECt) (S : SCt) (i q lv : Nat) (G : List scN) (g : Int32) (St : List stE) : Prop := (1 ≤ q ∧ q < 4400) ∧ ∃ K : Nat, s.2.1 44 q = Int32.ofNat K ∧ K ≤ 31 ∧ match K with
  | 1 => A i = 0 ∧ B i = s.2.1 54 q ∧ E q (i + 1) lv G g 1 St
  | 2 => A i = 0 ∧ B i = 0 ∧ E q (i + 1) lv G g 2 St
  | 3 => ∃ t, thT s m lv t ∧ A i = 1 ∧ B i = 0 ∧ E q (i + 1) lv G g t St
  | 4 => ∃ (j : Nat) (x : scN), G[j]? = some x ∧ s.2.1 53 q = Int32.ofNat x.2.1 ∧ g &&& bt x.2.1 = 0 ∧ (x.2.2.2 < lv → isO x.2.2.1 = true → x.2.2.1 % 8 = 3) ∧ A i = 2 ∧ B i = s.2.1 53 q ∧ E q (i + 1) lv G g x.2.2.1 St
  | 5 => ∃ (j : Nat) (x : scN), G[j]? = some x ∧ s.2.1 53 q = Int32.ofNat x.2.1 ∧ g &&& bt x.2.1 = 0 ∧ (x.2.2.2 < lv → isO x.2.2.1 = true → x.2.2.1 % 8 = 3 ∨ x.2.2.1 % 8 = 0) ∧ A i = 2 ∧ B i = s.2.1 53 q ∧ E q (i + 1) lv G (g ||| bt x.2.1) x.2.2.1 St
  | 6 => ∃ (t : Nat) (pl : Bool) (St0 : List stE), St = (t, pl, lv) :: St0 ∧ 2 ≤ t ∧ A i = 8 ∧ B i = 0 ∧ E q (i + 1) lv G g 1 St0
  | 7 => PTs s A B true (fun g' t St0 => E q (i + 1) lv G g' t St0) i q lv G g St
  | 8 => ∃ (k m' : Nat) (ts : List Nat) (St0 : List stE), St = vE lv ts ++ St0 ∧ s.2.1 53 q = Int32.ofNat k ∧ kRl s k ∧ s.2.1 65 k = Int32.ofNat m' ∧ m' < 72 ∧ (AF s m' ts ∧ ts.length ≤ 6) ∧ s.2.1 52 q = Int32.ofNat ts.length ∧ B i = Int32.ofNat m' ∧ ((s.2.1 66 k = 1 ∧ A i = 7 ∧ E q (i + 1) lv G g (8 * (k + 1) + 5) St0) ∨ (s.2.1 66 k = 0 ∧ A i = 6 ∧ ∃ cp, cp < 5 ∧ (cp = 0 ∨ cp = 1 ∨ cp = 3 → ∃ ps : List Nat, pmT s m' ps ∧ ∀ x ∈ ps, sdT x = true) ∧ E q (i + 1) lv G g (8 * (k + 1) + cp) St0))
  | 10 => ∃ (tl k f0 f tf t : Nat) (pl : Bool) (St0 : List stE), St = (tl, pl, lv) :: St0 ∧ ahT tl k ∧ fdT s k (s.2.2 56 q) f0 f tf ∧ bhT 4 (cpT tl) tf t ∧ s.2.1 53 q = Int32.ofNat (f - f0) ∧ A i = 3 ∧ B i = Int32.ofNat (f - f0) * 2 + oT tl ∧ E q (i + 1) lv G g t St0
  | 11 => ∃ (tl k m' t : Nat) (pl : Bool) (ts : List Nat) (St0 : List stE), St = (tl, pl, lv) :: (vE lv ts ++ St0) ∧ ahT tl k ∧ mtT s k 1 (s.2.2 56 q) m' ∧ (AF s m' ts ∧ ts.length ≤ 6) ∧ (isO tl = true → clT s pl (cpT tl) m') ∧ rsT s m' t ∧ (s.2.1 53 q = Int32.ofNat m' ∧ s.2.1 52 q = Int32.ofNat ts.length) ∧ A i = 4 ∧ B i = Int32.ofNat m' ∧ E q (i + 1) lv G g t St0
  | 12 => ∃ (tl m' : Nat) (pl : Bool) (ts : List Nat) (St0 : List stE), St = (tl, pl, lv) :: (vE lv ts ++ St0) ∧ 8 ≤ tl ∧ 5 ≤ tl % 8 ∧ mtT s (tl / 8 - 1) 2 (s.2.2 56 q) m' ∧ (AF s m' ts ∧ ts.length ≤ 6) ∧ s.2.1 52 q = Int32.ofNat ts.length ∧ s.2.1 53 q = Int32.ofNat m' ∧ A i = 5 ∧ B i = Int32.ofNat m' ∧ E q (i + 1) lv G g 0 St0
  | 13 => ∃ (pl : Bool) (St0 : List stE), St = (1, pl, lv) :: (1, false, lv) :: St0 ∧ A i = 13 ∧ opS (B i) (s.2.1 54 q) ∧ E q (i + 1) lv G g 1 St0
  | 20 => ∃ (tv td sl : Nat) (St0 : List stE), St = (tv, false, lv) :: St0 ∧ tyc s (s.2.1 54 q) td ∧ fitC (cT tv) (cT td) = 0 ∧ s.2.1 53 q = Int32.ofNat sl ∧ sl < 16 ∧ ((∀ x ∈ G, x.2.1 ≠ sl) ∧ lo ≤ q ∧ q < hi) ∧ A i = 11 ∧ B i = Int32.ofNat sl ∧ ∃ u, S u q (i + 1) lv (G ++ [(s.2.2 56 q, sl, td, lv)]) (g &&& (bt sl ^^^ (-1))) St0
  | 21 => ∃ (u dd r d x : Nat) (g2 : Int32) (pl : Bool) (St0 : List stE), u + 2 * dd ≤ 2 * F + 4 ∧ dd ≤ F ∧ PKA s lo hi q ∧ St = (1, pl, lv) :: St0 ∧ s.2.1 46 q = Int32.ofNat r ∧ 1 ≤ r ∧ r < 4400 ∧ A i = 18 ∧ (TU s (s.2.1 53) A B m dd).2 lv G g r 0 x g2 (i + 1) d ∧ ((s.2.1 47 q = 0 ∧ B i = Int32.ofNat d ∧ S u q d lv G (g ||| g2) St0) ∨ ∃ (e y b : Nat) (g3 : Int32), s.2.1 47 q = Int32.ofNat e ∧ 1 ≤ e ∧ e < 4400 ∧ A d = 20 ∧ B d = Int32.ofNat b ∧ B i = Int32.ofNat (d + 1) ∧ (TU s (s.2.1 53) A B m dd).2 lv G g e 0 y g3 (d + 1) b ∧ S u q b lv G (g3 ||| g2) St0)
  | 22 => ∃ (u dd l r a d x : Nat) (g0 g2 : Int32) (pl : Bool) (St0 : List stE), u + 2 * dd ≤ 2 * F + 4 ∧ dd ≤ F ∧ PKA s lo hi q ∧ St = (1, pl, lv) :: St0 ∧ s.2.1 45 q = Int32.ofNat l ∧ 1 ≤ l ∧ l < 4400 ∧ s.2.1 46 q = Int32.ofNat r ∧ 1 ≤ r ∧ r < 4400 ∧ A i = 18 ∧ B i = Int32.ofNat (d + 1) ∧ (TU s (s.2.1 53) A B m F).1 lv G g0 l 1 g a i ∧ (TU s (s.2.1 53) A B m dd).2 lv G g r 0 x g2 (i + 1) d ∧ A d = 20 ∧ B d = Int32.ofNat a ∧ gl G g2 g0 ∧ S u q (d + 1) lv G g St0
  | 23 => ∃ (pl : Bool) (St0 : List stE), St = (1, pl, lv) :: St0 ∧ A i = 14 ∧ B i = 0 ∧ ∃ u, S u q (i + 1) lv G g St0
  | 24 => ∃ tv tr, St = [(tv, false, 0)] ∧ lv = 0 ∧ tyc s (s.2.1 75 m) tr ∧ fitC (cT tv) (cT tr) = 0 ∧ A i = 15 ∧ B i = 0
  | 25 => ∃ (tg c R lv0 : Nat) (Go gx : List scN) (St0 : List stE), St = (tg, false, lv) :: St0 ∧ A i = 16 ∧ B i = 0 ∧ s.2.1 49 q = Int32.ofNat c ∧ 1 ≤ c ∧ c < 4400 ∧ s.2.1 49 c = Int32.ofNat R ∧ 1 ≤ R ∧ R < 4400 ∧ (lv = lv0 + 1 ∧ (∀ x ∈ Go, x.2.2.2 ≤ lv0) ∧ s.2.1 44 R = 9) ∧ G = Go ++ gx ∧ E R (i + 1) lv0 Go g (rqT tg) St0
  | 26 => PTs s A B false (fun g' _ St0 => ∃ u, S u q (i + 1) lv G g' St0) i q lv G g St
  | 27 => ∃ (t : Nat) (pl : Bool) (St0 : List stE), St = (t, pl, lv) :: St0 ∧ A i = 17 ∧ B i = 0 ∧ ∃ u, S u q (i + 1) lv G g St0
  | 31 => lv = 0 ∧ St = [] ∧ s.2.1 54 q = Int32.ofNat m ∧ s.2.1 75 m = -1 ∧ A i = 19 ∧ ∃ k : Nat, k < 8 ∧ s.2.1 71 m = Int32.ofNat k ∧ B i = if s.2.1 70 m = 0 ∧ s.2.1 66 k = 0 then 1 else 0
  | _ => False
/-- expression n is done, the code goes on at b -/
def ECb (P : Nat → Nat → Nat → List scN → Int32 → List stE → Prop) (n b lv : Nat) (G : List scN) (g : Int32) (t : Nat) (St : List stE) : Prop := ∃ p : Nat, s.2.1 49 n = Int32.ofNat p ∧ 1 ≤ p ∧ p < 4400 ∧ PKA s lo hi p ∧ s.2.1 44 n ≠ 30 ∧ ∃ K : Nat, s.2.1 44 p = Int32.ofNat K ∧ K ≤ 31 ∧
  (((K = 6 ∨ K = 21 ∨ K = 22 ∨ K = 23 ∨ K = 27 ∨ (K = 10 ∧ ¬ isSet s p) ∨ (K = 13 ∧ s.2.1 45 p ≠ Int32.ofNat n) ∨ ((K = 11 ∨ K = 12) ∧ s.2.1 46 p = Int32.ofNat n)) ∧ P b p lv G g ((t, isPl (s.2.1 44 n), lv) :: St))
  ∨ ((K = 20 ∨ K = 24 ∨ K = 25 ∨ (K = 8 ∧ s.2.1 48 n = 0) ∨ ((K = 7 ∨ K = 26) ∧ s.2.1 46 p = Int32.ofNat n ∧ ∃ q : Nat, s.2.1 45 p = Int32.ofNat q ∧ 1 ≤ q ∧ q < 4400 ∧ s.2.1 44 q ≠ 10)) ∧ ∃ t', vlF (isPl (s.2.1 44 n)) t = (0, t') ∧ P b p lv G g ((t', false, lv) :: St))
  ∨ (K = 10 ∧ ∃ Pp : Nat, s.2.1 49 p = Int32.ofNat Pp ∧ Pp ≠ p ∧ 1 ≤ Pp ∧ Pp < 4400 ∧ (s.2.1 44 Pp = 7 ∨ s.2.1 44 Pp = 26) ∧ s.2.1 45 Pp = Int32.ofNat p ∧ P b Pp lv G g ((t, isPl (s.2.1 44 n), lv) :: St))
  ∨ (∃ (e te d : Nat) (g' : Int32) (t' : Nat), ((K = 13 ∧ s.2.1 45 p = Int32.ofNat n ∧ s.2.1 46 p = Int32.ofNat e) ∨ ((K = 11 ∨ K = 12) ∧ s.2.1 46 p ≠ Int32.ofNat n ∧ s.2.1 48 n = 0 ∧ s.2.1 46 p = Int32.ofNat e) ∨ ((K = 7 ∨ K = 26) ∧ s.2.1 46 p = Int32.ofNat n ∧ ∃ q : Nat, s.2.1 45 p = Int32.ofNat q ∧ 1 ≤ q ∧ q < 4400 ∧ s.2.1 44 q = 10 ∧ s.2.1 45 q = Int32.ofNat e ∧ s.2.1 49 q = Int32.ofNat p ∧ q ≠ p ∧ q ≠ n)) ∧ 1 ≤ e ∧ e < 4400 ∧ (TU s (s.2.1 53) A B m F).1 lv G g e te g' b d ∧ vlF (isPl (s.2.1 44 n)) t = (0, t') ∧ P d p lv G g' ((te, isPl (s.2.1 44 e), lv) :: (t', false, lv) :: St))
  ∨ (∃ (t' u c : Nat) (ts : List Nat) (g1 : Int32), vlF (isPl (s.2.1 44 n)) t = (0, t') ∧ s.2.1 46 p ≠ Int32.ofNat n ∧ CHA s lo hi p K (s.2.1 48 n) ∧ AG s (TU s (s.2.1 53) A B m F).1 lv G (u :: ts) g (s.2.1 48 n) g1 b c ∧ ((K = 8 ∧ P c p lv G g1 (vE lv (u :: ts) ++ (t', false, lv) :: St)) ∨ ((K = 11 ∨ K = 12) ∧ ∃ (l tl d : Nat) (g' : Int32), s.2.1 46 p = Int32.ofNat l ∧ 1 ≤ l ∧ l < 4400 ∧ (TU s (s.2.1 53) A B m F).1 lv G g1 l tl g' c d ∧ P d p lv G g' ((tl, isPl (s.2.1 44 l), lv) :: (vE lv (u :: ts) ++ (t', false, lv) :: St))))))
/-- step n is done -/
def SCb (E : ECt) (Bk : SCt) (u n b lv : Nat) (G : List scN) (g : Int32) (St : List stE) : Prop := ∃ c : Nat, s.2.1 49 n = Int32.ofNat c ∧ 1 ≤ c ∧ c < 4400 ∧ CHA s lo hi c 30 (s.2.1 48 n) ∧ s.2.1 44 n ≠ 30 ∧ s.2.1 44 c = 30 ∧ ∃ (how tg d dd : Nat) (es : List Nat) (g' : Int32) (Go gx : List scN), u + 2 * dd ≤ 2 * F + 4 ∧ dd ≤ F ∧ XL s (s.2.1 53) A B m (TU s (s.2.1 53) A B m dd).1 (TU s (s.2.1 53) A B m dd).2 lv how es G g (s.2.1 48 n) tg g' b d ∧ G = Go ++ gx ∧ ((how = 0 ∧ ∃ u', u = u' + 1 ∧ Bk u' c d lv Go g' St) ∨ (how = 1 ∧ lv = 0 ∧ St = []) ∨ (how = 2 ∧ ∃ R lv0 : Nat, s.2.1 49 c = Int32.ofNat R ∧ 1 ≤ R ∧ R < 4400 ∧ (lv = lv0 + 1 ∧ (∀ x ∈ Go, x.2.2.2 ≤ lv0) ∧ s.2.1 44 R = 9) ∧ E R d lv0 Go g' (rqT tg) St))
/-- block n is done -/
def BCb (P : Nat → Nat → Nat → List scN → Int32 → List stE → Prop) (S : SCt) (u n b lv : Nat) (G : List scN) (g : Int32) (St : List stE) : Prop := s.2.1 44 n = 30 ∧ 1 ≤ u ∧ ∃ p : Nat, s.2.1 49 n = Int32.ofNat p ∧ 1 ≤ p ∧ p < 4400 ∧
  ((s.2.1 44 p = 31 ∧ P b p lv G g St)
  ∨ (s.2.1 44 p = 21 ∧ ∃ (g' : Int32) (u' : Nat), u = u' + 1 ∧ gl G g g' ∧ (S u' p b lv G g' St ∨ ∃ b2 : Nat, A b = 20 ∧ B b = Int32.ofNat b2 ∧ b < b2 ∧ S u' p b2 lv G g' St))
  ∨ (s.2.1 44 p = 22 ∧ PKA s lo hi p ∧ ∃ (l a c : Nat) (g0 g1 : Int32), s.2.1 45 p = Int32.ofNat l ∧ 1 ≤ l ∧ l < 4400 ∧ A b = 20 ∧ B b = Int32.ofNat a ∧ gl G g g0 ∧ (TU s (s.2.1 53) A B m F).1 lv G g0 l 1 g1 a c ∧ P c p lv G g1 ((1, isPl (s.2.1 44 l), lv) :: St)))
/-- contexts f deep at most: expressions, steps, blocks -/
def CT : Nat → ECt × SCt × SCt
  | 0 => (fun _ _ _ _ _ _ _ => False, fun _ _ _ _ _ _ _ => False, fun _ _ _ _ _ _ _ => False)
  | f + 1 => (ECb s A B m F lo hi (PTb s A B m F lo hi (CT f).1 (CT f).2.1), SCb s A B m F lo hi (CT f).1 (CT f).2.2, BCb s A B m F lo hi (PTb s A B m F lo hi (CT f).1 (CT f).2.1) (CT f).2.1)
def PT (i q lv : Nat) (G : List scN) (g : Int32) (St : List stE) : Prop := ∃ f, PTb s A B m F lo hi (CT s A B m F lo hi f).1 (CT s A B m F lo hi f).2.1 i q lv G g St
def EC (n b lv : Nat) (G : List scN) (g : Int32) (t : Nat) (St : List stE) : Prop := ∃ f, (CT s A B m F lo hi f).1 n b lv G g t St
def SC (u n b lv : Nat) (G : List scN) (g : Int32) (St : List stE) : Prop := ∃ f, (CT s A B m F lo hi f).2.1 u n b lv G g St
def BC (u n b lv : Nat) (G : List scN) (g : Int32) (St : List stE) : Prop := ∃ f, (CT s A B m F lo hi f).2.2 u n b lv G g St
end PTS
