/-! blocks -/
section N5B
variable {L : Nat} {xs : Nat → Int32} {zf : Value} {D : dD} {w : Nat} {Hz : rm_H}
theorem n5_275_24 (hE : fE5 D) : ∀ (n : Nat) (b0 : Option Nat) (b1 : Int64) (b2 : Int64) (b3 : Int32) (h : rm_H), nF5 Hz h → oK5 Hz (b275_24 L xs zf D w n b0 b1 b2 b3 h)
  | 0, _, _, _, _, _, _ => fun r s' e => by
    have e : (none : Option dR) = some (r, s') := e
    cases e
  | n + 1, b0, b1, b2, b3, h, z => by
    have ih := n5_275_24 hE n
    unfold b275_24
    repeat' (first
      | with_reducible exact o5_dr (by assumption)
      | with_reducible exact o5_so (by assumption)
      | exact o5_none
      | with_reducible exact n5_275_56 hE _ _ _ _ _ (by assumption)
      | with_reducible exact ih _ _ _ _ _ (by assumption)
      | with_reducible refine o5_if ?_ ?_
      | (with_reducible refine o5_pF (by decide) (by assumption) (fun _ _ => ?_))
      | (with_reducible refine o5_sI (by assumption) (fun _ _ => ?_))
      | (with_reducible refine o5_sB (by assumption) (fun _ _ => ?_))
      | (with_reducible refine o5_sR (by assumption) (fun _ _ => ?_))
      | (with_reducible refine o5_nI (by assumption) (fun _ _ => ?_))
      | (with_reducible refine o5_cp (by assumption) (fun _ _ => ?_))
      | (with_reducible refine o5_cl (by assumption) (fun _ _ => ?_))
      | (with_reducible refine o5_ap (by decide) (by assumption) (fun _ _ => ?_))
      | (with_reducible refine o5_vI hE (by decide) (by assumption) (fun _ _ => ?_))
      | (with_reducible refine o5_vV hE (by decide) (by assumption) (fun _ _ => ?_))
      | (with_reducible refine o5_vR hE (by decide) (by assumption) (fun _ _ => ?_))
      | (with_reducible refine o5_dI hE (by decide) (by assumption) (fun _ _ => ?_))
      | (with_reducible refine o5_dV hE (by decide) (by assumption) (fun _ _ => ?_))
      | (with_reducible refine o5_dR hE (by decide) (by assumption) (fun _ _ => ?_))
      | (with_reducible refine o5_nV hE (by decide) (by assumption) (fun _ _ => ?_))
      | (with_reducible refine o5_rd (fun _ => ?_)))
theorem n5_275_18 (hE : fE5 D) (o0 : Option Nat) (j2 : Int64) (h : rm_H) (z : nF5 Hz h) : oK5 Hz (b275_18 L xs zf D w o0 j2 h) := by
  unfold b275_18
  repeat' (first
    | with_reducible exact o5_dr (by assumption)
    | with_reducible exact o5_so (by assumption)
    | exact o5_none
    | with_reducible exact n5_275_24 hE _ _ _ _ _ _ (by assumption)
    | with_reducible refine o5_if ?_ ?_
    | (with_reducible refine o5_pF (by decide) (by assumption) (fun _ _ => ?_))
    | (with_reducible refine o5_sI (by assumption) (fun _ _ => ?_))
    | (with_reducible refine o5_sB (by assumption) (fun _ _ => ?_))
    | (with_reducible refine o5_sR (by assumption) (fun _ _ => ?_))
    | (with_reducible refine o5_nI (by assumption) (fun _ _ => ?_))
    | (with_reducible refine o5_cp (by assumption) (fun _ _ => ?_))
    | (with_reducible refine o5_cl (by assumption) (fun _ _ => ?_))
    | (with_reducible refine o5_ap (by decide) (by assumption) (fun _ _ => ?_))
    | (with_reducible refine o5_vI hE (by decide) (by assumption) (fun _ _ => ?_))
    | (with_reducible refine o5_vV hE (by decide) (by assumption) (fun _ _ => ?_))
    | (with_reducible refine o5_vR hE (by decide) (by assumption) (fun _ _ => ?_))
    | (with_reducible refine o5_dI hE (by decide) (by assumption) (fun _ _ => ?_))
    | (with_reducible refine o5_dV hE (by decide) (by assumption) (fun _ _ => ?_))
    | (with_reducible refine o5_dR hE (by decide) (by assumption) (fun _ _ => ?_))
    | (with_reducible refine o5_nV hE (by decide) (by assumption) (fun _ _ => ?_))
    | (with_reducible refine o5_rd (fun _ => ?_)))
theorem n5_275_0 (hE : fE5 D) (o0 : Option Nat) (i1 : Int32) (h : rm_H) (z : nF5 Hz h) : oK5 Hz (b275_0 L xs zf D w o0 i1 h) := by
  unfold b275_0
  repeat' (first
    | with_reducible exact o5_dr (by assumption)
    | with_reducible exact o5_so (by assumption)
    | exact o5_none
    | with_reducible exact n5_275_18 hE _ _ _ (by assumption)
    | with_reducible refine o5_if ?_ ?_
    | (with_reducible refine o5_pF (by decide) (by assumption) (fun _ _ => ?_))
    | (with_reducible refine o5_sI (by assumption) (fun _ _ => ?_))
    | (with_reducible refine o5_sB (by assumption) (fun _ _ => ?_))
    | (with_reducible refine o5_sR (by assumption) (fun _ _ => ?_))
    | (with_reducible refine o5_nI (by assumption) (fun _ _ => ?_))
    | (with_reducible refine o5_cp (by assumption) (fun _ _ => ?_))
    | (with_reducible refine o5_cl (by assumption) (fun _ _ => ?_))
    | (with_reducible refine o5_ap (by decide) (by assumption) (fun _ _ => ?_))
    | (with_reducible refine o5_vI hE (by decide) (by assumption) (fun _ _ => ?_))
    | (with_reducible refine o5_vV hE (by decide) (by assumption) (fun _ _ => ?_))
    | (with_reducible refine o5_vR hE (by decide) (by assumption) (fun _ _ => ?_))
    | (with_reducible refine o5_dI hE (by decide) (by assumption) (fun _ _ => ?_))
    | (with_reducible refine o5_dV hE (by decide) (by assumption) (fun _ _ => ?_))
    | (with_reducible refine o5_dR hE (by decide) (by assumption) (fun _ _ => ?_))
    | (with_reducible refine o5_nV hE (by decide) (by assumption) (fun _ _ => ?_))
    | (with_reducible refine o5_rd (fun _ => ?_)))
theorem n5_276_19 (hE : fE5 D) (o0 : Option Nat) (h : rm_H) (z : nF5 Hz h) : oK5 Hz (b276_19 L xs zf D w o0 h) := by
  unfold b276_19
  repeat' (first
    | with_reducible exact o5_dr (by assumption)
    | with_reducible exact o5_so (by assumption)
    | exact o5_none
    | with_reducible refine o5_if ?_ ?_
    | (with_reducible refine o5_pF (by decide) (by assumption) (fun _ _ => ?_))
    | (with_reducible refine o5_sI (by assumption) (fun _ _ => ?_))
    | (with_reducible refine o5_sB (by assumption) (fun _ _ => ?_))
    | (with_reducible refine o5_sR (by assumption) (fun _ _ => ?_))
    | (with_reducible refine o5_nI (by assumption) (fun _ _ => ?_))
    | (with_reducible refine o5_cp (by assumption) (fun _ _ => ?_))
    | (with_reducible refine o5_cl (by assumption) (fun _ _ => ?_))
    | (with_reducible refine o5_ap (by decide) (by assumption) (fun _ _ => ?_))
    | (with_reducible refine o5_vI hE (by decide) (by assumption) (fun _ _ => ?_))
    | (with_reducible refine o5_vV hE (by decide) (by assumption) (fun _ _ => ?_))
    | (with_reducible refine o5_vR hE (by decide) (by assumption) (fun _ _ => ?_))
    | (with_reducible refine o5_dI hE (by decide) (by assumption) (fun _ _ => ?_))
    | (with_reducible refine o5_dV hE (by decide) (by assumption) (fun _ _ => ?_))
    | (with_reducible refine o5_dR hE (by decide) (by assumption) (fun _ _ => ?_))
    | (with_reducible refine o5_nV hE (by decide) (by assumption) (fun _ _ => ?_))
    | (with_reducible refine o5_rd (fun _ => ?_)))
theorem n5_276_0 (hE : fE5 D) (o0 : Option Nat) (i1 : Int32) (h : rm_H) (z : nF5 Hz h) : oK5 Hz (b276_0 L xs zf D w o0 i1 h) := by
  unfold b276_0
  repeat' (first
    | with_reducible exact o5_dr (by assumption)
    | with_reducible exact o5_so (by assumption)
    | exact o5_none
    | with_reducible exact n5_276_19 hE _ _ (by assumption)
    | with_reducible refine o5_if ?_ ?_
    | (with_reducible refine o5_pF (by decide) (by assumption) (fun _ _ => ?_))
    | (with_reducible refine o5_sI (by assumption) (fun _ _ => ?_))
    | (with_reducible refine o5_sB (by assumption) (fun _ _ => ?_))
    | (with_reducible refine o5_sR (by assumption) (fun _ _ => ?_))
    | (with_reducible refine o5_nI (by assumption) (fun _ _ => ?_))
    | (with_reducible refine o5_cp (by assumption) (fun _ _ => ?_))
    | (with_reducible refine o5_cl (by assumption) (fun _ _ => ?_))
    | (with_reducible refine o5_ap (by decide) (by assumption) (fun _ _ => ?_))
    | (with_reducible refine o5_vI hE (by decide) (by assumption) (fun _ _ => ?_))
    | (with_reducible refine o5_vV hE (by decide) (by assumption) (fun _ _ => ?_))
    | (with_reducible refine o5_vR hE (by decide) (by assumption) (fun _ _ => ?_))
    | (with_reducible refine o5_dI hE (by decide) (by assumption) (fun _ _ => ?_))
    | (with_reducible refine o5_dV hE (by decide) (by assumption) (fun _ _ => ?_))
    | (with_reducible refine o5_dR hE (by decide) (by assumption) (fun _ _ => ?_))
    | (with_reducible refine o5_nV hE (by decide) (by assumption) (fun _ _ => ?_))
    | (with_reducible refine o5_rd (fun _ => ?_)))
theorem n5_277_2 (hE : fE5 D) : ∀ (n : Nat) (b0 : Option Nat) (b1 : Option Nat) (b2 : Int32) (h : rm_H), nF5 Hz h → oK5 Hz (b277_2 L xs zf D w n b0 b1 b2 h)
  | 0, _, _, _, _, _ => fun r s' e => by
    have e : (none : Option dR) = some (r, s') := e
    cases e
  | n + 1, b0, b1, b2, h, z => by
    have ih := n5_277_2 hE n
    unfold b277_2
    repeat' (first
      | with_reducible exact o5_dr (by assumption)
      | with_reducible exact o5_so (by assumption)
      | exact o5_none
      | with_reducible exact ih _ _ _ _ (by assumption)
      | with_reducible refine o5_if ?_ ?_
      | (with_reducible refine o5_pF (by decide) (by assumption) (fun _ _ => ?_))
      | (with_reducible refine o5_sI (by assumption) (fun _ _ => ?_))
      | (with_reducible refine o5_sB (by assumption) (fun _ _ => ?_))
      | (with_reducible refine o5_sR (by assumption) (fun _ _ => ?_))
      | (with_reducible refine o5_nI (by assumption) (fun _ _ => ?_))
      | (with_reducible refine o5_cp (by assumption) (fun _ _ => ?_))
      | (with_reducible refine o5_cl (by assumption) (fun _ _ => ?_))
      | (with_reducible refine o5_ap (by decide) (by assumption) (fun _ _ => ?_))
      | (with_reducible refine o5_vI hE (by decide) (by assumption) (fun _ _ => ?_))
      | (with_reducible refine o5_vV hE (by decide) (by assumption) (fun _ _ => ?_))
      | (with_reducible refine o5_vR hE (by decide) (by assumption) (fun _ _ => ?_))
      | (with_reducible refine o5_dI hE (by decide) (by assumption) (fun _ _ => ?_))
      | (with_reducible refine o5_dV hE (by decide) (by assumption) (fun _ _ => ?_))
      | (with_reducible refine o5_dR hE (by decide) (by assumption) (fun _ _ => ?_))
      | (with_reducible refine o5_nV hE (by decide) (by assumption) (fun _ _ => ?_))
      | (with_reducible refine o5_rd (fun _ => ?_)))
theorem n5_277_0 (hE : fE5 D) (o0 : Option Nat) (o1 : Option Nat) (h : rm_H) (z : nF5 Hz h) : oK5 Hz (b277_0 L xs zf D w o0 o1 h) := by
  unfold b277_0
  repeat' (first
    | with_reducible exact o5_dr (by assumption)
    | with_reducible exact o5_so (by assumption)
    | exact o5_none
    | with_reducible exact n5_277_2 hE _ _ _ _ _ (by assumption)
    | with_reducible refine o5_if ?_ ?_
    | (with_reducible refine o5_pF (by decide) (by assumption) (fun _ _ => ?_))
    | (with_reducible refine o5_sI (by assumption) (fun _ _ => ?_))
    | (with_reducible refine o5_sB (by assumption) (fun _ _ => ?_))
    | (with_reducible refine o5_sR (by assumption) (fun _ _ => ?_))
    | (with_reducible refine o5_nI (by assumption) (fun _ _ => ?_))
    | (with_reducible refine o5_cp (by assumption) (fun _ _ => ?_))
    | (with_reducible refine o5_cl (by assumption) (fun _ _ => ?_))
    | (with_reducible refine o5_ap (by decide) (by assumption) (fun _ _ => ?_))
    | (with_reducible refine o5_vI hE (by decide) (by assumption) (fun _ _ => ?_))
    | (with_reducible refine o5_vV hE (by decide) (by assumption) (fun _ _ => ?_))
    | (with_reducible refine o5_vR hE (by decide) (by assumption) (fun _ _ => ?_))
    | (with_reducible refine o5_dI hE (by decide) (by assumption) (fun _ _ => ?_))
    | (with_reducible refine o5_dV hE (by decide) (by assumption) (fun _ _ => ?_))
    | (with_reducible refine o5_dR hE (by decide) (by assumption) (fun _ _ => ?_))
    | (with_reducible refine o5_nV hE (by decide) (by assumption) (fun _ _ => ?_))
    | (with_reducible refine o5_rd (fun _ => ?_)))
theorem n5_278_38 (hE : fE5 D) (h : rm_H) (z : nF5 Hz h) : oK5 Hz (b278_38 L xs zf D w h) := by
  unfold b278_38
  repeat' (first
    | with_reducible exact o5_dr (by assumption)
    | with_reducible exact o5_so (by assumption)
    | exact o5_none
    | with_reducible refine o5_if ?_ ?_
    | (with_reducible refine o5_pF (by decide) (by assumption) (fun _ _ => ?_))
    | (with_reducible refine o5_sI (by assumption) (fun _ _ => ?_))
    | (with_reducible refine o5_sB (by assumption) (fun _ _ => ?_))
    | (with_reducible refine o5_sR (by assumption) (fun _ _ => ?_))
    | (with_reducible refine o5_nI (by assumption) (fun _ _ => ?_))
    | (with_reducible refine o5_cp (by assumption) (fun _ _ => ?_))
    | (with_reducible refine o5_cl (by assumption) (fun _ _ => ?_))
    | (with_reducible refine o5_ap (by decide) (by assumption) (fun _ _ => ?_))
    | (with_reducible refine o5_vI hE (by decide) (by assumption) (fun _ _ => ?_))
    | (with_reducible refine o5_vV hE (by decide) (by assumption) (fun _ _ => ?_))
    | (with_reducible refine o5_vR hE (by decide) (by assumption) (fun _ _ => ?_))
    | (with_reducible refine o5_dI hE (by decide) (by assumption) (fun _ _ => ?_))
    | (with_reducible refine o5_dV hE (by decide) (by assumption) (fun _ _ => ?_))
    | (with_reducible refine o5_dR hE (by decide) (by assumption) (fun _ _ => ?_))
    | (with_reducible refine o5_nV hE (by decide) (by assumption) (fun _ _ => ?_))
    | (with_reducible refine o5_rd (fun _ => ?_)))
theorem n5_278_0 (hE : fE5 D) (o0 : Option Nat) (i1 : Int32) (h : rm_H) (z : nF5 Hz h) : oK5 Hz (b278_0 L xs zf D w o0 i1 h) := by
  unfold b278_0
  repeat' (first
    | with_reducible exact o5_dr (by assumption)
    | with_reducible exact o5_so (by assumption)
    | exact o5_none
    | with_reducible exact n5_278_38 hE _ (by assumption)
    | with_reducible refine o5_if ?_ ?_
    | (with_reducible refine o5_pF (by decide) (by assumption) (fun _ _ => ?_))
    | (with_reducible refine o5_sI (by assumption) (fun _ _ => ?_))
    | (with_reducible refine o5_sB (by assumption) (fun _ _ => ?_))
    | (with_reducible refine o5_sR (by assumption) (fun _ _ => ?_))
    | (with_reducible refine o5_nI (by assumption) (fun _ _ => ?_))
    | (with_reducible refine o5_cp (by assumption) (fun _ _ => ?_))
    | (with_reducible refine o5_cl (by assumption) (fun _ _ => ?_))
    | (with_reducible refine o5_ap (by decide) (by assumption) (fun _ _ => ?_))
    | (with_reducible refine o5_vI hE (by decide) (by assumption) (fun _ _ => ?_))
    | (with_reducible refine o5_vV hE (by decide) (by assumption) (fun _ _ => ?_))
    | (with_reducible refine o5_vR hE (by decide) (by assumption) (fun _ _ => ?_))
    | (with_reducible refine o5_dI hE (by decide) (by assumption) (fun _ _ => ?_))
    | (with_reducible refine o5_dV hE (by decide) (by assumption) (fun _ _ => ?_))
    | (with_reducible refine o5_dR hE (by decide) (by assumption) (fun _ _ => ?_))
    | (with_reducible refine o5_nV hE (by decide) (by assumption) (fun _ _ => ?_))
    | (with_reducible refine o5_rd (fun _ => ?_)))
theorem n5_279_0 (hE : fE5 D) (o0 : Option Nat) (h : rm_H) (z : nF5 Hz h) : oK5 Hz (b279_0 L xs zf D w o0 h) := by
  unfold b279_0
  repeat' (first
    | with_reducible exact o5_dr (by assumption)
    | with_reducible exact o5_so (by assumption)
    | exact o5_none
    | with_reducible refine o5_if ?_ ?_
    | (with_reducible refine o5_pF (by decide) (by assumption) (fun _ _ => ?_))
    | (with_reducible refine o5_sI (by assumption) (fun _ _ => ?_))
    | (with_reducible refine o5_sB (by assumption) (fun _ _ => ?_))
    | (with_reducible refine o5_sR (by assumption) (fun _ _ => ?_))
    | (with_reducible refine o5_nI (by assumption) (fun _ _ => ?_))
    | (with_reducible refine o5_cp (by assumption) (fun _ _ => ?_))
    | (with_reducible refine o5_cl (by assumption) (fun _ _ => ?_))
    | (with_reducible refine o5_ap (by decide) (by assumption) (fun _ _ => ?_))
    | (with_reducible refine o5_vI hE (by decide) (by assumption) (fun _ _ => ?_))
    | (with_reducible refine o5_vV hE (by decide) (by assumption) (fun _ _ => ?_))
    | (with_reducible refine o5_vR hE (by decide) (by assumption) (fun _ _ => ?_))
    | (with_reducible refine o5_dI hE (by decide) (by assumption) (fun _ _ => ?_))
    | (with_reducible refine o5_dV hE (by decide) (by assumption) (fun _ _ => ?_))
    | (with_reducible refine o5_dR hE (by decide) (by assumption) (fun _ _ => ?_))
    | (with_reducible refine o5_nV hE (by decide) (by assumption) (fun _ _ => ?_))
    | (with_reducible refine o5_rd (fun _ => ?_)))
theorem n5_280_32 (hE : fE5 D) (h : rm_H) (z : nF5 Hz h) : oK5 Hz (b280_32 L xs zf D w h) := by
  unfold b280_32
  repeat' (first
    | with_reducible exact o5_dr (by assumption)
    | with_reducible exact o5_so (by assumption)
    | exact o5_none
    | with_reducible refine o5_if ?_ ?_
    | (with_reducible refine o5_pF (by decide) (by assumption) (fun _ _ => ?_))
    | (with_reducible refine o5_sI (by assumption) (fun _ _ => ?_))
    | (with_reducible refine o5_sB (by assumption) (fun _ _ => ?_))
    | (with_reducible refine o5_sR (by assumption) (fun _ _ => ?_))
    | (with_reducible refine o5_nI (by assumption) (fun _ _ => ?_))
    | (with_reducible refine o5_cp (by assumption) (fun _ _ => ?_))
    | (with_reducible refine o5_cl (by assumption) (fun _ _ => ?_))
    | (with_reducible refine o5_ap (by decide) (by assumption) (fun _ _ => ?_))
    | (with_reducible refine o5_vI hE (by decide) (by assumption) (fun _ _ => ?_))
    | (with_reducible refine o5_vV hE (by decide) (by assumption) (fun _ _ => ?_))
    | (with_reducible refine o5_vR hE (by decide) (by assumption) (fun _ _ => ?_))
    | (with_reducible refine o5_dI hE (by decide) (by assumption) (fun _ _ => ?_))
    | (with_reducible refine o5_dV hE (by decide) (by assumption) (fun _ _ => ?_))
    | (with_reducible refine o5_dR hE (by decide) (by assumption) (fun _ _ => ?_))
    | (with_reducible refine o5_nV hE (by decide) (by assumption) (fun _ _ => ?_))
    | (with_reducible refine o5_rd (fun _ => ?_)))
theorem n5_280_0 (hE : fE5 D) (o0 : Option Nat) (i1 : Int32) (i2 : Int32) (h : rm_H) (z : nF5 Hz h) : oK5 Hz (b280_0 L xs zf D w o0 i1 i2 h) := by
  unfold b280_0
  repeat' (first
    | with_reducible exact o5_dr (by assumption)
    | with_reducible exact o5_so (by assumption)
    | exact o5_none
    | with_reducible exact n5_280_32 hE _ (by assumption)
    | with_reducible refine o5_if ?_ ?_
    | (with_reducible refine o5_pF (by decide) (by assumption) (fun _ _ => ?_))
    | (with_reducible refine o5_sI (by assumption) (fun _ _ => ?_))
    | (with_reducible refine o5_sB (by assumption) (fun _ _ => ?_))
    | (with_reducible refine o5_sR (by assumption) (fun _ _ => ?_))
    | (with_reducible refine o5_nI (by assumption) (fun _ _ => ?_))
    | (with_reducible refine o5_cp (by assumption) (fun _ _ => ?_))
    | (with_reducible refine o5_cl (by assumption) (fun _ _ => ?_))
    | (with_reducible refine o5_ap (by decide) (by assumption) (fun _ _ => ?_))
    | (with_reducible refine o5_vI hE (by decide) (by assumption) (fun _ _ => ?_))
    | (with_reducible refine o5_vV hE (by decide) (by assumption) (fun _ _ => ?_))
    | (with_reducible refine o5_vR hE (by decide) (by assumption) (fun _ _ => ?_))
    | (with_reducible refine o5_dI hE (by decide) (by assumption) (fun _ _ => ?_))
    | (with_reducible refine o5_dV hE (by decide) (by assumption) (fun _ _ => ?_))
    | (with_reducible refine o5_dR hE (by decide) (by assumption) (fun _ _ => ?_))
    | (with_reducible refine o5_nV hE (by decide) (by assumption) (fun _ _ => ?_))
    | (with_reducible refine o5_rd (fun _ => ?_)))
theorem n5_281_75 (hE : fE5 D) {K49 : Option Nat → Option Nat → Option Nat → Int32 → Option Nat → Int32 → rm_H → Option dR} (hK49 : ∀ (a0 : Option Nat) (a1 : Option Nat) (a2 : Option Nat) (a3 : Int32) (a4 : Option Nat) (a5 : Int32) (h : rm_H), nF5 Hz h → oK5 Hz (K49 a0 a1 a2 a3 a4 a5 h)) (o0 : Option Nat) (o1 : Option Nat) (o2 : Option Nat) (i3 : Int32) (o4 : Option Nat) (i5 : Int32) (h : rm_H) (z : nF5 Hz h) : oK5 Hz (b281_75 L xs zf D w K49 o0 o1 o2 i3 o4 i5 h) := by
  unfold b281_75
  repeat' (first
    | with_reducible exact o5_dr (by assumption)
    | with_reducible exact o5_so (by assumption)
    | exact o5_none
    | with_reducible exact hK49 _ _ _ _ _ _ _ (by assumption)
    | with_reducible refine o5_if ?_ ?_
    | (with_reducible refine o5_pF (by decide) (by assumption) (fun _ _ => ?_))
    | (with_reducible refine o5_sI (by assumption) (fun _ _ => ?_))
    | (with_reducible refine o5_sB (by assumption) (fun _ _ => ?_))
    | (with_reducible refine o5_sR (by assumption) (fun _ _ => ?_))
    | (with_reducible refine o5_nI (by assumption) (fun _ _ => ?_))
    | (with_reducible refine o5_cp (by assumption) (fun _ _ => ?_))
    | (with_reducible refine o5_cl (by assumption) (fun _ _ => ?_))
    | (with_reducible refine o5_ap (by decide) (by assumption) (fun _ _ => ?_))
    | (with_reducible refine o5_vI hE (by decide) (by assumption) (fun _ _ => ?_))
    | (with_reducible refine o5_vV hE (by decide) (by assumption) (fun _ _ => ?_))
    | (with_reducible refine o5_vR hE (by decide) (by assumption) (fun _ _ => ?_))
    | (with_reducible refine o5_dI hE (by decide) (by assumption) (fun _ _ => ?_))
    | (with_reducible refine o5_dV hE (by decide) (by assumption) (fun _ _ => ?_))
    | (with_reducible refine o5_dR hE (by decide) (by assumption) (fun _ _ => ?_))
    | (with_reducible refine o5_nV hE (by decide) (by assumption) (fun _ _ => ?_))
    | (with_reducible refine o5_rd (fun _ => ?_)))
theorem n5_281_49 (hE : fE5 D) : ∀ (n : Nat) (b0 : Option Nat) (b1 : Option Nat) (b2 : Option Nat) (b3 : Int32) (b4 : Option Nat) (b5 : Int32) (h : rm_H), nF5 Hz h → oK5 Hz (b281_49 L xs zf D w n b0 b1 b2 b3 b4 b5 h)
  | 0, _, _, _, _, _, _, _, _ => fun r s' e => by
    have e : (none : Option dR) = some (r, s') := e
    cases e
  | n + 1, b0, b1, b2, b3, b4, b5, h, z => by
    have ih := n5_281_49 hE n
    unfold b281_49
    repeat' (first
      | with_reducible exact o5_dr (by assumption)
      | with_reducible exact o5_so (by assumption)
      | exact o5_none
      | with_reducible exact n5_281_75 hE ih _ _ _ _ _ _ _ (by assumption)
      | with_reducible exact ih _ _ _ _ _ _ _ (by assumption)
      | with_reducible refine o5_if ?_ ?_
      | (with_reducible refine o5_pF (by decide) (by assumption) (fun _ _ => ?_))
      | (with_reducible refine o5_sI (by assumption) (fun _ _ => ?_))
      | (with_reducible refine o5_sB (by assumption) (fun _ _ => ?_))
      | (with_reducible refine o5_sR (by assumption) (fun _ _ => ?_))
      | (with_reducible refine o5_nI (by assumption) (fun _ _ => ?_))
      | (with_reducible refine o5_cp (by assumption) (fun _ _ => ?_))
      | (with_reducible refine o5_cl (by assumption) (fun _ _ => ?_))
      | (with_reducible refine o5_ap (by decide) (by assumption) (fun _ _ => ?_))
      | (with_reducible refine o5_vI hE (by decide) (by assumption) (fun _ _ => ?_))
      | (with_reducible refine o5_vV hE (by decide) (by assumption) (fun _ _ => ?_))
      | (with_reducible refine o5_vR hE (by decide) (by assumption) (fun _ _ => ?_))
      | (with_reducible refine o5_dI hE (by decide) (by assumption) (fun _ _ => ?_))
      | (with_reducible refine o5_dV hE (by decide) (by assumption) (fun _ _ => ?_))
      | (with_reducible refine o5_dR hE (by decide) (by assumption) (fun _ _ => ?_))
      | (with_reducible refine o5_nV hE (by decide) (by assumption) (fun _ _ => ?_))
      | (with_reducible refine o5_rd (fun _ => ?_)))
theorem n5_281_23 (hE : fE5 D) (o0 : Option Nat) (o1 : Option Nat) (o2 : Option Nat) (i3 : Int32) (s0 : Option Nat) (h : rm_H) (z : nF5 Hz h) : oK5 Hz (b281_23 L xs zf D w o0 o1 o2 i3 s0 h) := by
  unfold b281_23
  repeat' (first
    | with_reducible exact o5_dr (by assumption)
    | with_reducible exact o5_so (by assumption)
    | exact o5_none
    | with_reducible exact n5_281_49 hE _ _ _ _ _ _ _ _ (by assumption)
    | with_reducible refine o5_if ?_ ?_
    | (with_reducible refine o5_pF (by decide) (by assumption) (fun _ _ => ?_))
    | (with_reducible refine o5_sI (by assumption) (fun _ _ => ?_))
    | (with_reducible refine o5_sB (by assumption) (fun _ _ => ?_))
    | (with_reducible refine o5_sR (by assumption) (fun _ _ => ?_))
    | (with_reducible refine o5_nI (by assumption) (fun _ _ => ?_))
    | (with_reducible refine o5_cp (by assumption) (fun _ _ => ?_))
    | (with_reducible refine o5_cl (by assumption) (fun _ _ => ?_))
    | (with_reducible refine o5_ap (by decide) (by assumption) (fun _ _ => ?_))
    | (with_reducible refine o5_vI hE (by decide) (by assumption) (fun _ _ => ?_))
    | (with_reducible refine o5_vV hE (by decide) (by assumption) (fun _ _ => ?_))
    | (with_reducible refine o5_vR hE (by decide) (by assumption) (fun _ _ => ?_))
    | (with_reducible refine o5_dI hE (by decide) (by assumption) (fun _ _ => ?_))
    | (with_reducible refine o5_dV hE (by decide) (by assumption) (fun _ _ => ?_))
    | (with_reducible refine o5_dR hE (by decide) (by assumption) (fun _ _ => ?_))
    | (with_reducible refine o5_nV hE (by decide) (by assumption) (fun _ _ => ?_))
    | (with_reducible refine o5_rd (fun _ => ?_)))
theorem n5_281_0 (hE : fE5 D) (o0 : Option Nat) (o1 : Option Nat) (o2 : Option Nat) (i3 : Int32) (h : rm_H) (z : nF5 Hz h) : oK5 Hz (b281_0 L xs zf D w o0 o1 o2 i3 h) := by
  unfold b281_0
  repeat' (first
    | with_reducible exact o5_dr (by assumption)
    | with_reducible exact o5_so (by assumption)
    | exact o5_none
    | with_reducible exact n5_281_23 hE _ _ _ _ _ _ (by assumption)
    | with_reducible refine o5_if ?_ ?_
    | (with_reducible refine o5_pF (by decide) (by assumption) (fun _ _ => ?_))
    | (with_reducible refine o5_sI (by assumption) (fun _ _ => ?_))
    | (with_reducible refine o5_sB (by assumption) (fun _ _ => ?_))
    | (with_reducible refine o5_sR (by assumption) (fun _ _ => ?_))
    | (with_reducible refine o5_nI (by assumption) (fun _ _ => ?_))
    | (with_reducible refine o5_cp (by assumption) (fun _ _ => ?_))
    | (with_reducible refine o5_cl (by assumption) (fun _ _ => ?_))
    | (with_reducible refine o5_ap (by decide) (by assumption) (fun _ _ => ?_))
    | (with_reducible refine o5_vI hE (by decide) (by assumption) (fun _ _ => ?_))
    | (with_reducible refine o5_vV hE (by decide) (by assumption) (fun _ _ => ?_))
    | (with_reducible refine o5_vR hE (by decide) (by assumption) (fun _ _ => ?_))
    | (with_reducible refine o5_dI hE (by decide) (by assumption) (fun _ _ => ?_))
    | (with_reducible refine o5_dV hE (by decide) (by assumption) (fun _ _ => ?_))
    | (with_reducible refine o5_dR hE (by decide) (by assumption) (fun _ _ => ?_))
    | (with_reducible refine o5_nV hE (by decide) (by assumption) (fun _ _ => ?_))
    | (with_reducible refine o5_rd (fun _ => ?_)))
end N5B
