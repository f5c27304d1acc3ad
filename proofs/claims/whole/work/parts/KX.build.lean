/-! BUILD, OVER THE INVARIANT (what is still wanted of it as premises). -/
/-- a cell that no program has -/
def nPg (c : rm_E) : Prop := (∀ ci fs, c = .inr (ci, fs) → ci ≠ 4 ∧ ci ≠ 5 ∧ ci ≠ 7 ∧ ci ≠ 9 ∧ ci ≠ 10 ∧ ci ≠ 11 ∧ ci ≠ 16) ∧ (∀ cap f, c ≠ rfA cap f) ∧ ∀ n f, c = .inl (1, n, .inl f) → 9 ≤ n
/-- the World's numbers are nothing -/
def sZe (sg : cS) : cS := (fun q => if 8 ≤ q ∧ q ≤ 15 then 0 else sg.1 q, sg.2)
section OBB
variable {L : Nat} {xs : Nat → Int32} {zf : Value} {w k j : Nat} {h h1 : rm_H} {s : rS} {bp cd : Option Nat} {fn fp : Int32} {b0 n0 m0 b m n y : Nat} {cdv : Value} {sg : cS}
theorem rs_tn : ∀ p, p < 115 → 37 ≤ p → (rs_t p).1 ≠ 4 ∧ (rs_t p).1 ≠ 1 := by decide +kernel
/-- every cell of Z is known -/
theorem zC_of (ial : iAl L xs j h s bp fn fp b0 n0 m0 b m cdv n sg) (r : RS h s) (z : Zb (zX b0 n sg) b y) : y < 21 + h.length ∧ ∃ c, hc h y = some c ∧ nPg c := by
  obtain ⟨⟨ml0, f0, t1, t2, t3, t4, t5⟩, _, _, _, ⟨c, st, dep, mk, sa, sc, sn, o1, o2, o3, o4, o5⟩, _, ⟨w1, w2, w3, w4⟩, _⟩ := ial
  have h94 := t1.2.2.2
  have key : (∃ c, hc h y = some c ∧ nPg c) → y < 21 + h.length ∧ ∃ c, hc h y = some c ∧ nPg c := fun ⟨c, e, g⟩ => ⟨hc_lt e, c, e, g⟩
  have ia : ∀ N g, nPg (iaA N g) := fun N g => ⟨fun _ _ z => (by cases z), fun _ _ z => (by cases z), fun _ _ z => (by cases z)⟩
  have ob : ∀ ci fs, (ci ≠ 4 ∧ ci ≠ 5 ∧ ci ≠ 7 ∧ ci ≠ 9 ∧ ci ≠ 10 ∧ ci ≠ 11 ∧ ci ≠ 16) → nPg (.inr (ci, fs)) := fun ci fs q => ⟨fun _ _ z => (by cases z; exact q), fun _ _ z => (by cases z), fun _ _ z => (by cases z)⟩
  have by' : ∀ (n : Nat) (f : Nat → Int32), 9 ≤ n → nPg (.inl (1, n, .inl f)) := fun n f q => ⟨fun _ _ z => (by cases z), fun _ _ z => (by cases z), fun _ _ z => by cases z; exact q⟩
  obtain ⟨h30, h33, h34, h35, _, nt, mlt, ft, hS, _⟩ := id o1
  rcases z with (z | z | z | z) | z | z
  · obtain ⟨x, hx, rfl⟩ := z
    refine key ⟨_, (w1.2.1 x hx).1, ?_⟩
    unfold vcl
    split
    · unfold vW
      split
      · exact ob _ _ (by decide)
      · exact ia _ _
      · exact ia _ _
      · exact ⟨fun _ _ z => (by cases z), fun _ _ z => (by cases z), fun _ _ z => (by cases z)⟩
      · exact ia _ _
      · exact ia _ _
    · unfold vA
      split
      · exact ob _ _ (by decide)
      · exact ia _ _
      · exact ia _ _
      · exact ia _ _
      · exact ia _ _
      · exact ia _ _
  · exact key ⟨_, by rw [z]; exact hc_of (p := 22) (by decide) t1.2.1.2.2.2.2.2.2.1, ob _ _ (by decide)⟩
  · exact key ⟨_, by rw [z]; exact hc_of (p := b0) t1.2.1.2.1 t1.2.1.2.2.2.2.2.2.2, by' _ _ (by omega)⟩
  · by_cases q : y = 36
    · exact key ⟨_, by rw [q]; exact hc_of (p := 36) (by decide) r.1, ob _ _ (by decide)⟩
    · refine key ⟨_, hc_of (by omega) (r.2 y (by omega) (by omega)), ?_⟩
      obtain ⟨q1, q2⟩ := rs_tn y (by omega) (by omega)
      unfold rs_cell
      exact ⟨fun _ _ z => (by cases z), fun _ _ z => q1 (congrArg (fun x => x.1) (Sum.inl.inj z)), fun _ _ z => absurd (congrArg (fun x => x.1) (Sum.inl.inj z)) q2⟩
  · have : y = 30 ∨ y = 31 ∨ y = 33 ∨ y = 34 ∨ y = 35 := by omega
    rcases this with rfl | rfl | rfl | rfl | rfl
    · exact key ⟨_, h30, ob _ _ (by decide)⟩
    · exact key ⟨_, hc_of (p := 31) (by decide) hS.2.2.2.2.2.2.1, ob _ _ (by decide)⟩
    · exact key ⟨_, h33, ia _ _⟩
    · exact key ⟨_, h34, ia _ _⟩
    · exact key ⟨_, h35, ia _ _⟩
  · exact key ⟨_, by rw [z]; exact hc_of (p := b) hS.2.1 hS.2.2.2.2.2.2.2, by' _ _ (by omega)⟩
/-- so no cell of a new program is one of them -/
theorem zDj_of (zc : ∀ y, Zb (zX b0 n sg) b y → y < 21 + h.length ∧ ∃ c, hc h1 y = some c ∧ nPg c) (z5 : ¬ Zb (zX b0 n sg) b 5) : zDj h1 (fun y => Zb (zX b0 n sg) b y ∨ ∃ ci fs, hc h1 y = some (.inr (ci, fs)) ∧ ci < 4) (21 + h.length) := by
  refine ⟨fun y ci fs e q z => ?_, fun y cap f e z => ?_, fun y n f e q z => ?_, fun y m f e q z => ?_, fun z => ?_⟩
  · rcases z with z | ⟨ci', fs', e', l⟩
    · obtain ⟨_, c, e1, g⟩ := zc y z
      rw [e] at e1
      cases e1
      have := g.1 ci fs rfl
      omega
    · rw [e] at e'
      cases e'
      omega
  · rcases z with z | ⟨ci', fs', e', l⟩
    · obtain ⟨_, c, e1, g⟩ := zc y z
      rw [e] at e1
      cases e1
      exact g.2.1 cap f rfl
    · rw [e] at e'
      cases e'
  · rcases z with z | ⟨ci', fs', e', l⟩
    · obtain ⟨_, c, e1, g⟩ := zc y z
      rw [e] at e1
      cases e1
      have := g.2.2 n f rfl
      omega
    · rw [e] at e'
      cases e'
  · rcases z with z | ⟨ci', fs', e', l⟩
    · have := (zc y z).1
      omega
    · rw [e] at e'
      cases e'
  · rcases z with z | ⟨ci', fs', e', l⟩
    · exact z5 z
    · have := hc_ge e'
      omega
end OBB
