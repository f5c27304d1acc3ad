/-! WHAT HOLDS OF A RUN. om: W, T, g, Kn, Rm (the region of an actor); ka: Kinds of objects, of actors, how many of each. -/
abbrev oMg : Type := (Nat → Int64) × (Nat → Nat) × rGt × (Nat → Nat → Prop) × (Nat → Nat)
abbrev kAp : Type := (Nat → Nat) × (Nat → Nat) × Nat × Nat
/-- a body: method, level, names, gone, stack, regions of the levels, where its locals and its values lie -/
abbrev fDs : Type := Nat × Nat × List scN × Int32 × List stE × (Nat → Nat) × Nat × Nat
abbrev fMe (x : fDs) : Nat := x.1
abbrev fL (x : fDs) : Nat := x.2.1
abbrev fG (x : fDs) : List scN := x.2.2.1
abbrev fGn (x : fDs) : Int32 := x.2.2.2.1
abbrev fSt (x : fDs) : List stE := x.2.2.2.2.1
abbrev fRe (x : fDs) : Nat → Nat := x.2.2.2.2.2.1
abbrev fBs (x : fDs) : Nat := x.2.2.2.2.2.2.1
abbrev fQ (x : fDs) : Nat := x.2.2.2.2.2.2.2
/-- v is of type t for actor a -/
def vTy (ka : kAp) (a t : Nat) (v : Int64) : Prop := (t = 1 ∧ ∃ x, v = mdV 1 x) ∨ ((t = 0 ∨ t = 2) ∧ v = 0) ∨ (8 ≤ t ∧ t % 8 < 5 ∧ (v = 0 ∨ ∃ o : Nat, 1 ≤ o ∧ o ≤ ka.2.2.1 ∧ v = mdV 2 (Int32.ofNat o) ∧ ka.1 o + 1 = t / 8)) ∨ (8 ≤ t ∧ t % 8 = 5 ∧ (v = 0 ∨ ∃ b : Nat, b < ka.2.2.2 ∧ v = mdV 3 (Int32.ofNat b) ∧ ka.2.1 b + 1 = t / 8)) ∨ (8 ≤ t ∧ t % 8 = 6 ∧ v = mdV 3 (Int32.ofNat a) ∧ a < ka.2.2.2 ∧ ka.2.1 a + 1 = t / 8)
def vAl (om : oMg) (ka : kAp) (a t : Nat) (v : Int64) : Prop := vTy ka a t v ∧ (oV v ≠ 0 → om.2.2.2.1 a (oV v))
/-- names and fields of actor b, fields of objects -/
def lOf (b lx : Nat) : Prop := lx % 6 = 0 ∨ (lx % 6 = 1 ∧ lx / 48 = b) ∨ (lx % 6 = 2 ∧ lx / 960 = b) ∨ (lx % 6 = 4 ∧ (lx / 60 = b ∨ lx = pH (120 + b)))
/-- u is seen by b in region r with iso or trn: some other place enters the region where it lies -/
def sEe (om : oMg) (b t r u : Nat) : Prop := om.2.2.1.2.1 u ≠ 0 ∧ (t % 8 = 1 → om.2.2.1.2.2.2.1 (om.2.2.1.2.1 u) = 2 ∧ om.2.2.1.2.2.1 (om.2.2.1.2.1 u) = r) ∧ ∃ lx, lOf b lx ∧ tgF om.2.1 om.1 lx ≠ 0 ∧ om.2.1 lx % 8 ≤ 1 ∧ om.2.2.1.1 lx = r ∧ inR om.2.2.1 (om.2.2.1.2.1 (tgF om.2.1 om.1 lx)) (om.2.2.1.2.1 u)
/-- a value on the stack -/
def pEn (om : oMg) (ka : kAp) (sg : cS) (s : rS) (a bl q0 : Nat) (R : Nat → Nat) (e : stE) (j : Nat) : Prop := vAl om ka a e.1 (om.1 (pS a (q0 + j))) ∧ sg.2.2.2.1 a 12 (bl + j) = cvl (om.1 (pS a (q0 + j))) ∧ s.2.2 97 (10100 * a + (q0 + j)) = om.1 (pS a (q0 + j)) ∧ ((om.2.1 (pS a (q0 + j)) = e.1 ∧ (e.1 ≠ 0 → om.2.2.1.1 (pS a (q0 + j)) = R e.2.2)) ∨ (e.2.1 = true ∧ isO e.1 = true ∧ e.1 % 8 ≤ 1 ∧ om.2.1 (pS a (q0 + j)) = 0 ∧ (oV (om.1 (pS a (q0 + j))) ≠ 0 → sEe om a e.1 (R e.2.2) (oV (om.1 (pS a (q0 + j))))))) ∧ gTy e.1 = true ∧ (8 ≤ e.1 → e.1 % 8 = 6 → e.2.1 = true ∧ R e.2.2 = om.2.2.2.2 a)
def sVl (P : stE → Nat → Prop) : List stE → Prop
  | [] => True
  | e :: r => P e r.length ∧ sVl P r
/-- a name -/
def nAm (om : oMg) (ka : kAp) (sg : cS) (s : rS) (a i bs : Nat) (R : Nat → Nat) (x : scN) : Prop := vAl om ka a x.2.2.1 (om.1 (pN i x.2.1)) ∧ om.2.1 (pN i x.2.1) = x.2.2.1 ∧ om.2.2.1.1 (pN i x.2.1) = R x.2.2.2 ∧ sg.2.2.2.1 a 12 (bs + x.2.1) = cvl (om.1 (pN i x.2.1)) ∧ s.2.2 101 (16 * i + x.2.1) = om.1 (pN i x.2.1)
/-- this -/
def tHs (sB : rS) (om : oMg) (ka : kAp) (sg : cS) (s : rS) (a d m : Nat) (R : Nat → Nat) : Prop := ∃ tt, thT sB m 0 tt ∧ vAl om ka a tt (om.1 (pH (10 * a + d))) ∧ om.1 (pH (10 * a + d)) ≠ 0 ∧ om.2.1 (pH (10 * a + d)) = tt ∧ om.2.2.1.1 (pH (10 * a + d)) = R 0 ∧ sg.2.2.2.1 a 9 d = cvl (om.1 (pH (10 * a + d))) ∧ s.2.2 100 (10 * a + d) = om.1 (pH (10 * a + d)) ∧ (tt % 8 = 6 → R 0 = om.2.2.2.2 a)
/-- names have slots of their own -/
def gDs (G : List scN) : Prop := ∀ (i j : Nat) (x y : scN), G[i]? = some x → G[j]? = some y → x.2.1 = y.2.1 → i = j
section FRD
variable (sB : rS) (A B : Nat → Int32) (mi : Nat → Nat × Nat × Nat × Nat × Nat) (om : oMg) (ka : kAp) (N : Nat) (sg : cS) (s : rS) (a : Nat)
/-- where a body stands -/
def fPt (d : Nat) (x : fDs) : Prop := ∃ p q b j : Nat, PJ A B j b p ∧ PT sB A B (fMe x) (mi (fMe x)).1 (mi (fMe x)).2.1 (mi (fMe x)).2.2.1 p q (fL x) (fG x) (fGn x) (fSt x) ∧ sg.2.2.2.1 a 7 d = Int32.ofNat b ∧ s.2.1 99 (10 * a + d) = Int32.ofNat q ∧ q < 4400 ∧ fQ x ≤ 1010 * d ∧ fBs x ≤ 1026 * d ∧ (fSt x).length ≤ 1010
/-- a body: its values -/
def fVl (d : Nat) (x : fDs) (S : List stE) : Prop := sg.2.2.2.1 a 8 d = Int32.ofNat (fBs x) ∧ (∀ y ∈ fG x, fGn x &&& bt y.2.1 = 0 → nAm om ka sg s a (10 * a + d) (fBs x) (fRe x) y) ∧ tHs sB om ka sg s a d (fMe x) (fRe x) ∧ sVl (pEn om ka sg s a (fBs x + (mi (fMe x)).2.2.2.2) (fQ x) (fRe x)) S
/-- its regions -/
def fRg (x : fDs) : Prop := (∀ j, j ≤ fL x → fRe x j ≠ 0 ∧ fRe x j < N ∧ om.2.2.1.2.2.2.2 (fRe x j) = a) ∧ ∀ j, 1 ≤ j → j ≤ fL x → om.2.2.1.2.2.2.1 (fRe x j) = 0
/-- a method that is there -/
def mtOk (m : Nat) : Prop := m < 72 ∧ DSL sB (mi m).2.1 (mi m).2.2.1 (mi m).2.2.2.1 ∧ (mi m).1 ≤ 2995 ∧ ((mi m).2.2.2.2 ≤ 16 ∧ ∀ n sl : Nat, (mi m).2.1 ≤ n → n < (mi m).2.2.1 → sB.2.1 44 n = 20 → sl < 16 → sB.2.1 53 n = Int32.ofNat sl → sl < (mi m).2.2.2.2) ∧ ∀ (i q lv : Nat) (G : List scN) (g : Int32) (St : List stE), PT sB A B m (mi m).1 (mi m).2.1 (mi m).2.2.1 i q lv G g St → St.length ≤ 1010
def fNm (x : fDs) : Prop := GO sB (mi (fMe x)).2.1 (mi (fMe x)).2.2.1 (mi (fMe x)).2.2.2.1 (fL x) (fG x) ∧ gDs (fG x) ∧ (∀ y ∈ fG x, y.2.1 < (mi (fMe x)).2.2.2.2 ∧ dTy y.2.2.1 = true) ∧ mtOk sB A B mi (fMe x)
/-- regions in their order: a later one is not above an earlier one -/
def fOr (g : rGt) (x : Nat → fDs) (d : Nat) : Prop := ∀ d' j' j : Nat, (d' < d ∧ j' ≤ fL (x d')) ∨ (d' = d ∧ j' < j) → j ≤ fL (x d) → (fRe (x d) j ≠ fRe (x d') j' → ¬ inR g (fRe (x d) j) (fRe (x d') j')) ∧ (1 ≤ j → fRe (x d) j ≠ fRe (x d') j')
/-- body z was called by body y, at depth d -/
def fLk (g : rGt) (x : Nat → fDs) (d : Nat) : Prop := ∃ (t le : Nat) (S0 : List stE), fSt (x d) = (t, false, le) :: S0 ∧ le ≤ fL (x d) ∧ fBs (x (d + 1)) = fBs (x d) + (mi (fMe (x d))).2.2.2.2 + S0.length ∧ fQ (x (d + 1)) = fQ (x d) + S0.length ∧
  ((sB.2.1 70 (fMe (x (d + 1))) = 1 ∧ rsT sB (fMe (x (d + 1))) t ∧ (fRe (x (d + 1)) 0 = fRe (x d) le ∨ hmT sB (fMe (x (d + 1))))) ∨
   (sB.2.1 70 (fMe (x (d + 1))) = 0 ∧ sB.2.1 75 (fMe (x (d + 1))) = -1 ∧ ∃ k cp : Nat, k < 8 ∧ cp < 5 ∧ sB.2.1 71 (fMe (x (d + 1))) = Int32.ofNat k ∧ sB.2.1 66 k = 0 ∧ t = 8 * (k + 1) + cp ∧ (((cp = 2 ∨ cp = 4) ∧ fRe (x (d + 1)) 0 = fRe (x d) le) ∨ (g.2.2.2.1 (fRe (x (d + 1)) 0) = 0 ∧ (cp = 0 ∨ cp = 1 ∨ cp = 3) ∧ ∀ d' j : Nat, d' ≤ d → j ≤ fL (x d') → fRe (x d') j ≠ fRe (x (d + 1)) 0))))
/-- the first body -/
def fB0 (x : Nat → fDs) : Prop := fBs (x 0) = 0 ∧ fQ (x 0) = 0 ∧ fRe (x 0) 0 = om.2.2.2.2 a ∧ sB.2.1 71 (fMe (x 0)) = Int32.ofNat (ka.2.1 a)
def fOk (x : Nat → fDs) (d : Nat) (S : List stE) : Prop := fPt sB A B mi sg s a d (x d) ∧ fVl sB mi om ka sg s a d (x d) S ∧ fRg om N a (x d) ∧ fNm sB A B mi (x d) ∧ fOr om.2.2.1 x d ∧ ((d = 0 ∧ fB0 sB om ka a x) ∨ ∃ d', d = d' + 1 ∧ fLk sB mi om.2.2.1 x d')
/-- all bodies below d wait for what the one above gives -/
def fSu (x : Nat → fDs) (d : Nat) : Prop := ∀ e, e < d → ∃ S0 t, fSt (x e) = t :: S0 ∧ fOk sB A B mi om ka N sg s a x e S0
/-- an actor's bodies: D of them -/
def aBd (x : Nat → fDs) (D : Nat) : Prop := (D = 0 ∧ SOK sg a 0 ∧ s.2.1 93 a = 0) ∨ ∃ d, D = d + 1 ∧ d < 10 ∧ fSu sB A B mi om ka N sg s a x d ∧ fOk sB A B mi om ka N sg s a x d (fSt (x d)) ∧ SOK sg a (fBs (x d) + (mi (fMe (x d))).2.2.2.2 + (fSt (x d)).length) ∧ s.2.1 93 a = Int32.ofNat (fQ (x d) + (fSt (x d)).length)
end FRD
