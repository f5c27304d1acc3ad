/-! LISTS STAY APART OVER BUILD. -/
section UAB
variable {L : Nat} {xs : Nat → Int32} {zf : Value} {w j : Nat} {h h' : rm_H} {s : rS} {p b n m : Nat} {f : Nat → Int32} {ml : Int32}
theorem o8_bR {D : dD} {hp : rm_H} {pg : Nat} (hE : fE8 D) : oK5 hp (bR L xs zf D w pg (some (none, hp))) := by
  have z := nF5_r hp
  unfold bR
  show oK5 hp ((dgI L xs hp 7 [4] (some pg)).bind fun x48 => if mx_f1 .ne x48 = true then b43_59 L xs zf D w (some 21) (some pg) hp else ((dcV L xs D 145 [4] (some pg) [] hp).bind dxV).bind fun h51 => b43_59 L xs zf D w (some 21) (some pg) h51)
  refine o5_rd (fun x => o5_if (n8_43_59 hE _ _ _ z) (o8_vV hE (by decide) z (fun h1 z1 => n8_43_59 hE _ _ _ z1)))
theorem uA_build {fs : List Value} {v : Option Value} (hB : hc h 21 = some (.inr (0, fs))) (h0 : fs[0]? = some (.ref p)) (hS : sB h p b n m ml f) (hn : n ≤ 2000) (hw : 2100 ≤ w) (u : uA h) (h2 : s.1 2 = Int32.ofNat n) (tx : ∀ i, i < n → s.2.1 37 i = f i &&& 255) (hwd : wdR (s.2.2 39)) (e : dM L xs zf w (256 + j) 43 [.ref 21] h = some (v, h')) : uA h' := by
  obtain ⟨h1, s1, hp, sp, g, ts, cx, F, N, e1, _, _, _, _, _, _, _, _, _, _, _, _, _, _, cs⟩ := b_parse (L := L) (xs := xs) (zf := zf) (w := w) (k := 53 + j) (k2 := 0) hB h0 hS hn hw u h2 tx hwd
  rw [show 202 + (53 + j) = 255 + j from by omega] at e1
  have up : uA hp := by
    rcases cs with ⟨kl, ml', a9, c9, a10, c10, sy, _⟩ | ⟨_, _, up, _⟩
    · exact sy.1.2.2.2.1.2.2.2.1
    · exact up
  rw [show 256 + j = 255 + j + 1 from by omega, e43] at e
  have e : b43_0 L xs zf (dM L xs zf w (255 + j)) w (some 21) h = some (v, h') := e
  rw [e1] at e
  have q := o8_bR (fE8_all L xs zf w (255 + j)) _ _ e
  exact uA_of q.1 q.2 up
end UAB
