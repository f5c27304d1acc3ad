/-! blocks -/
section N8B
variable {L : Nat} {xs : Nat → Int32} {zf : Value} {D : dD} {w : Nat} {Hz : rm_H}
theorem n8_150_2 (hE : fE8 D) : ∀ (n : Nat) (b0 : Option Nat) (b1 : Option Nat) (b2 : Int32) (h : rm_H), nF5 Hz h → oK5 Hz (b150_2 L xs zf D w n b0 b1 b2 h)
  | 0, _, _, _, _, _ => fun r s' e => by
    have e : (none : Option dR) = some (r, s') := e
    cases e
  | n + 1, b0, b1, b2, h, z => by
    have ih := n8_150_2 hE n
    unfold b150_2
    repeat' (first
      | with_reducible exact o5_dr (by assumption)
      | with_reducible exact o5_so (by assumption)
      | exact o5_none
      | with_reducible exact ih _ _ _ _ (by assumption)
      | with_reducible refine o5_if ?_ ?_
      | (with_reducible refine o5_pF (by decide) (by assumption) (fun _ _ => ?_))
      | (with_reducible refine o5_sI (by assumption) (fun _ _ => ?_))
      | (with_reducible refine o5_sB (by assumption) (fun _ _ => ?_))
      | (with_reducible refine o5_sR (by assumption) (fun _ _ => ?_))
      | (with_reducible refine o8_nR (by assumption) (fun _ _ => ?_))
      | (with_reducible refine o5_nI (by assumption) (fun _ _ => ?_))
      | (with_reducible refine o5_cp (by assumption) (fun _ _ => ?_))
      | (with_reducible refine o5_cl (by assumption) (fun _ _ => ?_))
      | (with_reducible refine o5_ap (by decide) (by assumption) (fun _ _ => ?_))
      | (with_reducible refine o8_vI hE (by decide) (by assumption) (fun _ _ => ?_))
      | (with_reducible refine o8_vV hE (by decide) (by assumption) (fun _ _ => ?_))
      | (with_reducible refine o8_vR hE (by decide) (by assumption) (fun _ _ => ?_))
      | (with_reducible refine o8_dI hE (by decide) (by assumption) (fun _ _ => ?_))
      | (with_reducible refine o8_dV hE (by decide) (by assumption) (fun _ _ => ?_))
      | (with_reducible refine o8_dR hE (by decide) (by assumption) (fun _ _ => ?_))
      | (with_reducible refine o8_nV hE (by decide) (by assumption) (fun _ _ => ?_))
      | (with_reducible refine o5_rd (fun _ => ?_)))
theorem n8_150_0 (hE : fE8 D) (o0 : Option Nat) (o1 : Option Nat) (h : rm_H) (z : nF5 Hz h) : oK5 Hz (b150_0 L xs zf D w o0 o1 h) := by
  unfold b150_0
  repeat' (first
    | with_reducible exact o5_dr (by assumption)
    | with_reducible exact o5_so (by assumption)
    | exact o5_none
    | with_reducible exact n8_150_2 hE _ _ _ _ _ (by assumption)
    | with_reducible refine o5_if ?_ ?_
    | (with_reducible refine o5_pF (by decide) (by assumption) (fun _ _ => ?_))
    | (with_reducible refine o5_sI (by assumption) (fun _ _ => ?_))
    | (with_reducible refine o5_sB (by assumption) (fun _ _ => ?_))
    | (with_reducible refine o5_sR (by assumption) (fun _ _ => ?_))
    | (with_reducible refine o8_nR (by assumption) (fun _ _ => ?_))
    | (with_reducible refine o5_nI (by assumption) (fun _ _ => ?_))
    | (with_reducible refine o5_cp (by assumption) (fun _ _ => ?_))
    | (with_reducible refine o5_cl (by assumption) (fun _ _ => ?_))
    | (with_reducible refine o5_ap (by decide) (by assumption) (fun _ _ => ?_))
    | (with_reducible refine o8_vI hE (by decide) (by assumption) (fun _ _ => ?_))
    | (with_reducible refine o8_vV hE (by decide) (by assumption) (fun _ _ => ?_))
    | (with_reducible refine o8_vR hE (by decide) (by assumption) (fun _ _ => ?_))
    | (with_reducible refine o8_dI hE (by decide) (by assumption) (fun _ _ => ?_))
    | (with_reducible refine o8_dV hE (by decide) (by assumption) (fun _ _ => ?_))
    | (with_reducible refine o8_dR hE (by decide) (by assumption) (fun _ _ => ?_))
    | (with_reducible refine o8_nV hE (by decide) (by assumption) (fun _ _ => ?_))
    | (with_reducible refine o5_rd (fun _ => ?_)))
theorem n8_151_55 (hE : fE8 D) (s0 : Int32) (h : rm_H) (z : nF5 Hz h) : oK5 Hz (b151_55 L xs zf D w s0 h) := by
  unfold b151_55
  repeat' (first
    | with_reducible exact o5_dr (by assumption)
    | with_reducible exact o5_so (by assumption)
    | exact o5_none
    | with_reducible refine o5_if ?_ ?_
    | (with_reducible refine o5_pF (by decide) (by assumption) (fun _ _ => ?_))
    | (with_reducible refine o5_sI (by assumption) (fun _ _ => ?_))
    | (with_reducible refine o5_sB (by assumption) (fun _ _ => ?_))
    | (with_reducible refine o5_sR (by assumption) (fun _ _ => ?_))
    | (with_reducible refine o8_nR (by assumption) (fun _ _ => ?_))
    | (with_reducible refine o5_nI (by assumption) (fun _ _ => ?_))
    | (with_reducible refine o5_cp (by assumption) (fun _ _ => ?_))
    | (with_reducible refine o5_cl (by assumption) (fun _ _ => ?_))
    | (with_reducible refine o5_ap (by decide) (by assumption) (fun _ _ => ?_))
    | (with_reducible refine o8_vI hE (by decide) (by assumption) (fun _ _ => ?_))
    | (with_reducible refine o8_vV hE (by decide) (by assumption) (fun _ _ => ?_))
    | (with_reducible refine o8_vR hE (by decide) (by assumption) (fun _ _ => ?_))
    | (with_reducible refine o8_dI hE (by decide) (by assumption) (fun _ _ => ?_))
    | (with_reducible refine o8_dV hE (by decide) (by assumption) (fun _ _ => ?_))
    | (with_reducible refine o8_dR hE (by decide) (by assumption) (fun _ _ => ?_))
    | (with_reducible refine o8_nV hE (by decide) (by assumption) (fun _ _ => ?_))
    | (with_reducible refine o5_rd (fun _ => ?_)))
theorem n8_151_54 (hE : fE8 D) (h : rm_H) (z : nF5 Hz h) : oK5 Hz (b151_54 L xs zf D w h) := by
  unfold b151_54
  repeat' (first
    | with_reducible exact o5_dr (by assumption)
    | with_reducible exact o5_so (by assumption)
    | exact o5_none
    | with_reducible exact n8_151_55 hE _ _ (by assumption)
    | with_reducible refine o5_if ?_ ?_
    | (with_reducible refine o5_pF (by decide) (by assumption) (fun _ _ => ?_))
    | (with_reducible refine o5_sI (by assumption) (fun _ _ => ?_))
    | (with_reducible refine o5_sB (by assumption) (fun _ _ => ?_))
    | (with_reducible refine o5_sR (by assumption) (fun _ _ => ?_))
    | (with_reducible refine o8_nR (by assumption) (fun _ _ => ?_))
    | (with_reducible refine o5_nI (by assumption) (fun _ _ => ?_))
    | (with_reducible refine o5_cp (by assumption) (fun _ _ => ?_))
    | (with_reducible refine o5_cl (by assumption) (fun _ _ => ?_))
    | (with_reducible refine o5_ap (by decide) (by assumption) (fun _ _ => ?_))
    | (with_reducible refine o8_vI hE (by decide) (by assumption) (fun _ _ => ?_))
    | (with_reducible refine o8_vV hE (by decide) (by assumption) (fun _ _ => ?_))
    | (with_reducible refine o8_vR hE (by decide) (by assumption) (fun _ _ => ?_))
    | (with_reducible refine o8_dI hE (by decide) (by assumption) (fun _ _ => ?_))
    | (with_reducible refine o8_dV hE (by decide) (by assumption) (fun _ _ => ?_))
    | (with_reducible refine o8_dR hE (by decide) (by assumption) (fun _ _ => ?_))
    | (with_reducible refine o8_nV hE (by decide) (by assumption) (fun _ _ => ?_))
    | (with_reducible refine o5_rd (fun _ => ?_)))
theorem n8_151_36 (hE : fE8 D) (o0 : Option Nat) (o2 : Option Nat) (h : rm_H) (z : nF5 Hz h) : oK5 Hz (b151_36 L xs zf D w o0 o2 h) := by
  unfold b151_36
  repeat' (first
    | with_reducible exact o5_dr (by assumption)
    | with_reducible exact o5_so (by assumption)
    | exact o5_none
    | with_reducible exact n8_151_54 hE _ (by assumption)
    | with_reducible exact n8_151_55 hE _ _ (by assumption)
    | with_reducible refine o5_if ?_ ?_
    | (with_reducible refine o5_pF (by decide) (by assumption) (fun _ _ => ?_))
    | (with_reducible refine o5_sI (by assumption) (fun _ _ => ?_))
    | (with_reducible refine o5_sB (by assumption) (fun _ _ => ?_))
    | (with_reducible refine o5_sR (by assumption) (fun _ _ => ?_))
    | (with_reducible refine o8_nR (by assumption) (fun _ _ => ?_))
    | (with_reducible refine o5_nI (by assumption) (fun _ _ => ?_))
    | (with_reducible refine o5_cp (by assumption) (fun _ _ => ?_))
    | (with_reducible refine o5_cl (by assumption) (fun _ _ => ?_))
    | (with_reducible refine o5_ap (by decide) (by assumption) (fun _ _ => ?_))
    | (with_reducible refine o8_vI hE (by decide) (by assumption) (fun _ _ => ?_))
    | (with_reducible refine o8_vV hE (by decide) (by assumption) (fun _ _ => ?_))
    | (with_reducible refine o8_vR hE (by decide) (by assumption) (fun _ _ => ?_))
    | (with_reducible refine o8_dI hE (by decide) (by assumption) (fun _ _ => ?_))
    | (with_reducible refine o8_dV hE (by decide) (by assumption) (fun _ _ => ?_))
    | (with_reducible refine o8_dR hE (by decide) (by assumption) (fun _ _ => ?_))
    | (with_reducible refine o8_nV hE (by decide) (by assumption) (fun _ _ => ?_))
    | (with_reducible refine o5_rd (fun _ => ?_)))
theorem n8_151_0 (hE : fE8 D) (o0 : Option Nat) (o1 : Option Nat) (h : rm_H) (z : nF5 Hz h) : oK5 Hz (b151_0 L xs zf D w o0 o1 h) := by
  unfold b151_0
  repeat' (first
    | with_reducible exact o5_dr (by assumption)
    | with_reducible exact o5_so (by assumption)
    | exact o5_none
    | with_reducible exact n8_151_36 hE _ _ _ (by assumption)
    | with_reducible exact n8_151_54 hE _ (by assumption)
    | with_reducible refine o5_if ?_ ?_
    | (with_reducible refine o5_pF (by decide) (by assumption) (fun _ _ => ?_))
    | (with_reducible refine o5_sI (by assumption) (fun _ _ => ?_))
    | (with_reducible refine o5_sB (by assumption) (fun _ _ => ?_))
    | (with_reducible refine o5_sR (by assumption) (fun _ _ => ?_))
    | (with_reducible refine o8_nR (by assumption) (fun _ _ => ?_))
    | (with_reducible refine o5_nI (by assumption) (fun _ _ => ?_))
    | (with_reducible refine o5_cp (by assumption) (fun _ _ => ?_))
    | (with_reducible refine o5_cl (by assumption) (fun _ _ => ?_))
    | (with_reducible refine o5_ap (by decide) (by assumption) (fun _ _ => ?_))
    | (with_reducible refine o8_vI hE (by decide) (by assumption) (fun _ _ => ?_))
    | (with_reducible refine o8_vV hE (by decide) (by assumption) (fun _ _ => ?_))
    | (with_reducible refine o8_vR hE (by decide) (by assumption) (fun _ _ => ?_))
    | (with_reducible refine o8_dI hE (by decide) (by assumption) (fun _ _ => ?_))
    | (with_reducible refine o8_dV hE (by decide) (by assumption) (fun _ _ => ?_))
    | (with_reducible refine o8_dR hE (by decide) (by assumption) (fun _ _ => ?_))
    | (with_reducible refine o8_nV hE (by decide) (by assumption) (fun _ _ => ?_))
    | (with_reducible refine o5_rd (fun _ => ?_)))
theorem n8_152_9 (hE : fE8 D) : ∀ (n : Nat) (b0 : Option Nat) (b1 : Option Nat) (b2 : Int32) (h : rm_H), nF5 Hz h → oK5 Hz (b152_9 L xs zf D w n b0 b1 b2 h)
  | 0, _, _, _, _, _ => fun r s' e => by
    have e : (none : Option dR) = some (r, s') := e
    cases e
  | n + 1, b0, b1, b2, h, z => by
    have ih := n8_152_9 hE n
    unfold b152_9
    repeat' (first
      | with_reducible exact o5_dr (by assumption)
      | with_reducible exact o5_so (by assumption)
      | exact o5_none
      | with_reducible exact ih _ _ _ _ (by assumption)
      | with_reducible refine o5_if ?_ ?_
      | (with_reducible refine o5_pF (by decide) (by assumption) (fun _ _ => ?_))
      | (with_reducible refine o5_sI (by assumption) (fun _ _ => ?_))
      | (with_reducible refine o5_sB (by assumption) (fun _ _ => ?_))
      | (with_reducible refine o5_sR (by assumption) (fun _ _ => ?_))
      | (with_reducible refine o8_nR (by assumption) (fun _ _ => ?_))
      | (with_reducible refine o5_nI (by assumption) (fun _ _ => ?_))
      | (with_reducible refine o5_cp (by assumption) (fun _ _ => ?_))
      | (with_reducible refine o5_cl (by assumption) (fun _ _ => ?_))
      | (with_reducible refine o5_ap (by decide) (by assumption) (fun _ _ => ?_))
      | (with_reducible refine o8_vI hE (by decide) (by assumption) (fun _ _ => ?_))
      | (with_reducible refine o8_vV hE (by decide) (by assumption) (fun _ _ => ?_))
      | (with_reducible refine o8_vR hE (by decide) (by assumption) (fun _ _ => ?_))
      | (with_reducible refine o8_dI hE (by decide) (by assumption) (fun _ _ => ?_))
      | (with_reducible refine o8_dV hE (by decide) (by assumption) (fun _ _ => ?_))
      | (with_reducible refine o8_dR hE (by decide) (by assumption) (fun _ _ => ?_))
      | (with_reducible refine o8_nV hE (by decide) (by assumption) (fun _ _ => ?_))
      | (with_reducible refine o5_rd (fun _ => ?_)))
theorem n8_152_0 (hE : fE8 D) (o0 : Option Nat) (o1 : Option Nat) (h : rm_H) (z : nF5 Hz h) : oK5 Hz (b152_0 L xs zf D w o0 o1 h) := by
  unfold b152_0
  repeat' (first
    | with_reducible exact o5_dr (by assumption)
    | with_reducible exact o5_so (by assumption)
    | exact o5_none
    | with_reducible exact n8_152_9 hE _ _ _ _ _ (by assumption)
    | with_reducible refine o5_if ?_ ?_
    | (with_reducible refine o5_pF (by decide) (by assumption) (fun _ _ => ?_))
    | (with_reducible refine o5_sI (by assumption) (fun _ _ => ?_))
    | (with_reducible refine o5_sB (by assumption) (fun _ _ => ?_))
    | (with_reducible refine o5_sR (by assumption) (fun _ _ => ?_))
    | (with_reducible refine o8_nR (by assumption) (fun _ _ => ?_))
    | (with_reducible refine o5_nI (by assumption) (fun _ _ => ?_))
    | (with_reducible refine o5_cp (by assumption) (fun _ _ => ?_))
    | (with_reducible refine o5_cl (by assumption) (fun _ _ => ?_))
    | (with_reducible refine o5_ap (by decide) (by assumption) (fun _ _ => ?_))
    | (with_reducible refine o8_vI hE (by decide) (by assumption) (fun _ _ => ?_))
    | (with_reducible refine o8_vV hE (by decide) (by assumption) (fun _ _ => ?_))
    | (with_reducible refine o8_vR hE (by decide) (by assumption) (fun _ _ => ?_))
    | (with_reducible refine o8_dI hE (by decide) (by assumption) (fun _ _ => ?_))
    | (with_reducible refine o8_dV hE (by decide) (by assumption) (fun _ _ => ?_))
    | (with_reducible refine o8_dR hE (by decide) (by assumption) (fun _ _ => ?_))
    | (with_reducible refine o8_nV hE (by decide) (by assumption) (fun _ _ => ?_))
    | (with_reducible refine o5_rd (fun _ => ?_)))
theorem n8_153_0 (hE : fE8 D) (i0 : Int32) (i1 : Int32) (i2 : Int32) (h : rm_H) (z : nF5 Hz h) : oK5 Hz (b153_0 L xs zf D w i0 i1 i2 h) := by
  unfold b153_0
  repeat' (first
    | with_reducible exact o5_dr (by assumption)
    | with_reducible exact o5_so (by assumption)
    | exact o5_none
    | with_reducible refine o5_if ?_ ?_
    | (with_reducible refine o5_pF (by decide) (by assumption) (fun _ _ => ?_))
    | (with_reducible refine o5_sI (by assumption) (fun _ _ => ?_))
    | (with_reducible refine o5_sB (by assumption) (fun _ _ => ?_))
    | (with_reducible refine o5_sR (by assumption) (fun _ _ => ?_))
    | (with_reducible refine o8_nR (by assumption) (fun _ _ => ?_))
    | (with_reducible refine o5_nI (by assumption) (fun _ _ => ?_))
    | (with_reducible refine o5_cp (by assumption) (fun _ _ => ?_))
    | (with_reducible refine o5_cl (by assumption) (fun _ _ => ?_))
    | (with_reducible refine o5_ap (by decide) (by assumption) (fun _ _ => ?_))
    | (with_reducible refine o8_vI hE (by decide) (by assumption) (fun _ _ => ?_))
    | (with_reducible refine o8_vV hE (by decide) (by assumption) (fun _ _ => ?_))
    | (with_reducible refine o8_vR hE (by decide) (by assumption) (fun _ _ => ?_))
    | (with_reducible refine o8_dI hE (by decide) (by assumption) (fun _ _ => ?_))
    | (with_reducible refine o8_dV hE (by decide) (by assumption) (fun _ _ => ?_))
    | (with_reducible refine o8_dR hE (by decide) (by assumption) (fun _ _ => ?_))
    | (with_reducible refine o8_nV hE (by decide) (by assumption) (fun _ _ => ?_))
    | (with_reducible refine o5_rd (fun _ => ?_)))
theorem n8_154_69 (hE : fE8 D) {K2 : Option Nat → Option Nat → Int32 → rm_H → Option dR} {K14 : Option Nat → Option Nat → Int32 → Int32 → rm_H → Option dR} (hK2 : ∀ (a0 : Option Nat) (a1 : Option Nat) (a2 : Int32) (h : rm_H), nF5 Hz h → oK5 Hz (K2 a0 a1 a2 h)) (hK14 : ∀ (a0 : Option Nat) (a1 : Option Nat) (a2 : Int32) (a3 : Int32) (h : rm_H), nF5 Hz h → oK5 Hz (K14 a0 a1 a2 a3 h)) (o0 : Option Nat) (o1 : Option Nat) (i2 : Int32) (i3 : Int32) (h : rm_H) (z : nF5 Hz h) : oK5 Hz (b154_69 L xs zf D w K2 K14 o0 o1 i2 i3 h) := by
  unfold b154_69
  repeat' (first
    | with_reducible exact o5_dr (by assumption)
    | with_reducible exact o5_so (by assumption)
    | exact o5_none
    | with_reducible exact hK2 _ _ _ _ (by assumption)
    | with_reducible exact hK14 _ _ _ _ _ (by assumption)
    | with_reducible refine o5_if ?_ ?_
    | (with_reducible refine o5_pF (by decide) (by assumption) (fun _ _ => ?_))
    | (with_reducible refine o5_sI (by assumption) (fun _ _ => ?_))
    | (with_reducible refine o5_sB (by assumption) (fun _ _ => ?_))
    | (with_reducible refine o5_sR (by assumption) (fun _ _ => ?_))
    | (with_reducible refine o8_nR (by assumption) (fun _ _ => ?_))
    | (with_reducible refine o5_nI (by assumption) (fun _ _ => ?_))
    | (with_reducible refine o5_cp (by assumption) (fun _ _ => ?_))
    | (with_reducible refine o5_cl (by assumption) (fun _ _ => ?_))
    | (with_reducible refine o5_ap (by decide) (by assumption) (fun _ _ => ?_))
    | (with_reducible refine o8_vI hE (by decide) (by assumption) (fun _ _ => ?_))
    | (with_reducible refine o8_vV hE (by decide) (by assumption) (fun _ _ => ?_))
    | (with_reducible refine o8_vR hE (by decide) (by assumption) (fun _ _ => ?_))
    | (with_reducible refine o8_dI hE (by decide) (by assumption) (fun _ _ => ?_))
    | (with_reducible refine o8_dV hE (by decide) (by assumption) (fun _ _ => ?_))
    | (with_reducible refine o8_dR hE (by decide) (by assumption) (fun _ _ => ?_))
    | (with_reducible refine o8_nV hE (by decide) (by assumption) (fun _ _ => ?_))
    | (with_reducible refine o5_rd (fun _ => ?_)))
theorem n8_154_14 (hE : fE8 D) {K2 : Option Nat → Option Nat → Int32 → rm_H → Option dR} (hK2 : ∀ (a0 : Option Nat) (a1 : Option Nat) (a2 : Int32) (h : rm_H), nF5 Hz h → oK5 Hz (K2 a0 a1 a2 h)) : ∀ (n : Nat) (b0 : Option Nat) (b1 : Option Nat) (b2 : Int32) (b3 : Int32) (h : rm_H), nF5 Hz h → oK5 Hz (b154_14 L xs zf D w K2 n b0 b1 b2 b3 h)
  | 0, _, _, _, _, _, _ => fun r s' e => by
    have e : (none : Option dR) = some (r, s') := e
    cases e
  | n + 1, b0, b1, b2, b3, h, z => by
    have ih := n8_154_14 hE hK2 n
    unfold b154_14
    repeat' (first
      | with_reducible exact o5_dr (by assumption)
      | with_reducible exact o5_so (by assumption)
      | exact o5_none
      | with_reducible exact n8_154_69 hE hK2 ih _ _ _ _ _ (by assumption)
      | with_reducible exact ih _ _ _ _ _ (by assumption)
      | with_reducible exact hK2 _ _ _ _ (by assumption)
      | with_reducible refine o5_if ?_ ?_
      | (with_reducible refine o5_pF (by decide) (by assumption) (fun _ _ => ?_))
      | (with_reducible refine o5_sI (by assumption) (fun _ _ => ?_))
      | (with_reducible refine o5_sB (by assumption) (fun _ _ => ?_))
      | (with_reducible refine o5_sR (by assumption) (fun _ _ => ?_))
      | (with_reducible refine o8_nR (by assumption) (fun _ _ => ?_))
      | (with_reducible refine o5_nI (by assumption) (fun _ _ => ?_))
      | (with_reducible refine o5_cp (by assumption) (fun _ _ => ?_))
      | (with_reducible refine o5_cl (by assumption) (fun _ _ => ?_))
      | (with_reducible refine o5_ap (by decide) (by assumption) (fun _ _ => ?_))
      | (with_reducible refine o8_vI hE (by decide) (by assumption) (fun _ _ => ?_))
      | (with_reducible refine o8_vV hE (by decide) (by assumption) (fun _ _ => ?_))
      | (with_reducible refine o8_vR hE (by decide) (by assumption) (fun _ _ => ?_))
      | (with_reducible refine o8_dI hE (by decide) (by assumption) (fun _ _ => ?_))
      | (with_reducible refine o8_dV hE (by decide) (by assumption) (fun _ _ => ?_))
      | (with_reducible refine o8_dR hE (by decide) (by assumption) (fun _ _ => ?_))
      | (with_reducible refine o8_nV hE (by decide) (by assumption) (fun _ _ => ?_))
      | (with_reducible refine o5_rd (fun _ => ?_)))
theorem n8_154_2 (hE : fE8 D) : ∀ (n : Nat) (b0 : Option Nat) (b1 : Option Nat) (b2 : Int32) (h : rm_H), nF5 Hz h → oK5 Hz (b154_2 L xs zf D w n b0 b1 b2 h)
  | 0, _, _, _, _, _ => fun r s' e => by
    have e : (none : Option dR) = some (r, s') := e
    cases e
  | n + 1, b0, b1, b2, h, z => by
    have ih := n8_154_2 hE n
    unfold b154_2
    repeat' (first
      | with_reducible exact o5_dr (by assumption)
      | with_reducible exact o5_so (by assumption)
      | exact o5_none
      | with_reducible exact n8_154_14 hE ih _ _ _ _ _ _ (by assumption)
      | with_reducible exact ih _ _ _ _ (by assumption)
      | with_reducible refine o5_if ?_ ?_
      | (with_reducible refine o5_pF (by decide) (by assumption) (fun _ _ => ?_))
      | (with_reducible refine o5_sI (by assumption) (fun _ _ => ?_))
      | (with_reducible refine o5_sB (by assumption) (fun _ _ => ?_))
      | (with_reducible refine o5_sR (by assumption) (fun _ _ => ?_))
      | (with_reducible refine o8_nR (by assumption) (fun _ _ => ?_))
      | (with_reducible refine o5_nI (by assumption) (fun _ _ => ?_))
      | (with_reducible refine o5_cp (by assumption) (fun _ _ => ?_))
      | (with_reducible refine o5_cl (by assumption) (fun _ _ => ?_))
      | (with_reducible refine o5_ap (by decide) (by assumption) (fun _ _ => ?_))
      | (with_reducible refine o8_vI hE (by decide) (by assumption) (fun _ _ => ?_))
      | (with_reducible refine o8_vV hE (by decide) (by assumption) (fun _ _ => ?_))
      | (with_reducible refine o8_vR hE (by decide) (by assumption) (fun _ _ => ?_))
      | (with_reducible refine o8_dI hE (by decide) (by assumption) (fun _ _ => ?_))
      | (with_reducible refine o8_dV hE (by decide) (by assumption) (fun _ _ => ?_))
      | (with_reducible refine o8_dR hE (by decide) (by assumption) (fun _ _ => ?_))
      | (with_reducible refine o8_nV hE (by decide) (by assumption) (fun _ _ => ?_))
      | (with_reducible refine o5_rd (fun _ => ?_)))
theorem n8_154_0 (hE : fE8 D) (o0 : Option Nat) (o1 : Option Nat) (h : rm_H) (z : nF5 Hz h) : oK5 Hz (b154_0 L xs zf D w o0 o1 h) := by
  unfold b154_0
  repeat' (first
    | with_reducible exact o5_dr (by assumption)
    | with_reducible exact o5_so (by assumption)
    | exact o5_none
    | with_reducible exact n8_154_2 hE _ _ _ _ _ (by assumption)
    | with_reducible refine o5_if ?_ ?_
    | (with_reducible refine o5_pF (by decide) (by assumption) (fun _ _ => ?_))
    | (with_reducible refine o5_sI (by assumption) (fun _ _ => ?_))
    | (with_reducible refine o5_sB (by assumption) (fun _ _ => ?_))
    | (with_reducible refine o5_sR (by assumption) (fun _ _ => ?_))
    | (with_reducible refine o8_nR (by assumption) (fun _ _ => ?_))
    | (with_reducible refine o5_nI (by assumption) (fun _ _ => ?_))
    | (with_reducible refine o5_cp (by assumption) (fun _ _ => ?_))
    | (with_reducible refine o5_cl (by assumption) (fun _ _ => ?_))
    | (with_reducible refine o5_ap (by decide) (by assumption) (fun _ _ => ?_))
    | (with_reducible refine o8_vI hE (by decide) (by assumption) (fun _ _ => ?_))
    | (with_reducible refine o8_vV hE (by decide) (by assumption) (fun _ _ => ?_))
    | (with_reducible refine o8_vR hE (by decide) (by assumption) (fun _ _ => ?_))
    | (with_reducible refine o8_dI hE (by decide) (by assumption) (fun _ _ => ?_))
    | (with_reducible refine o8_dV hE (by decide) (by assumption) (fun _ _ => ?_))
    | (with_reducible refine o8_dR hE (by decide) (by assumption) (fun _ _ => ?_))
    | (with_reducible refine o8_nV hE (by decide) (by assumption) (fun _ _ => ?_))
    | (with_reducible refine o5_rd (fun _ => ?_)))
theorem n8_155_54 (hE : fE8 D) {K2 : Option Nat → Option Nat → Int32 → rm_H → Option dR} (hK2 : ∀ (a0 : Option Nat) (a1 : Option Nat) (a2 : Int32) (h : rm_H), nF5 Hz h → oK5 Hz (K2 a0 a1 a2 h)) (o0 : Option Nat) (o1 : Option Nat) (i2 : Int32) (h : rm_H) (z : nF5 Hz h) : oK5 Hz (b155_54 L xs zf D w K2 o0 o1 i2 h) := by
  unfold b155_54
  repeat' (first
    | with_reducible exact o5_dr (by assumption)
    | with_reducible exact o5_so (by assumption)
    | exact o5_none
    | with_reducible exact hK2 _ _ _ _ (by assumption)
    | with_reducible refine o5_if ?_ ?_
    | (with_reducible refine o5_pF (by decide) (by assumption) (fun _ _ => ?_))
    | (with_reducible refine o5_sI (by assumption) (fun _ _ => ?_))
    | (with_reducible refine o5_sB (by assumption) (fun _ _ => ?_))
    | (with_reducible refine o5_sR (by assumption) (fun _ _ => ?_))
    | (with_reducible refine o8_nR (by assumption) (fun _ _ => ?_))
    | (with_reducible refine o5_nI (by assumption) (fun _ _ => ?_))
    | (with_reducible refine o5_cp (by assumption) (fun _ _ => ?_))
    | (with_reducible refine o5_cl (by assumption) (fun _ _ => ?_))
    | (with_reducible refine o5_ap (by decide) (by assumption) (fun _ _ => ?_))
    | (with_reducible refine o8_vI hE (by decide) (by assumption) (fun _ _ => ?_))
    | (with_reducible refine o8_vV hE (by decide) (by assumption) (fun _ _ => ?_))
    | (with_reducible refine o8_vR hE (by decide) (by assumption) (fun _ _ => ?_))
    | (with_reducible refine o8_dI hE (by decide) (by assumption) (fun _ _ => ?_))
    | (with_reducible refine o8_dV hE (by decide) (by assumption) (fun _ _ => ?_))
    | (with_reducible refine o8_dR hE (by decide) (by assumption) (fun _ _ => ?_))
    | (with_reducible refine o8_nV hE (by decide) (by assumption) (fun _ _ => ?_))
    | (with_reducible refine o5_rd (fun _ => ?_)))
theorem n8_155_2 (hE : fE8 D) : ∀ (n : Nat) (b0 : Option Nat) (b1 : Option Nat) (b2 : Int32) (h : rm_H), nF5 Hz h → oK5 Hz (b155_2 L xs zf D w n b0 b1 b2 h)
  | 0, _, _, _, _, _ => fun r s' e => by
    have e : (none : Option dR) = some (r, s') := e
    cases e
  | n + 1, b0, b1, b2, h, z => by
    have ih := n8_155_2 hE n
    unfold b155_2
    repeat' (first
      | with_reducible exact o5_dr (by assumption)
      | with_reducible exact o5_so (by assumption)
      | exact o5_none
      | with_reducible exact n8_155_54 hE ih _ _ _ _ (by assumption)
      | with_reducible exact ih _ _ _ _ (by assumption)
      | with_reducible refine o5_if ?_ ?_
      | (with_reducible refine o5_pF (by decide) (by assumption) (fun _ _ => ?_))
      | (with_reducible refine o5_sI (by assumption) (fun _ _ => ?_))
      | (with_reducible refine o5_sB (by assumption) (fun _ _ => ?_))
      | (with_reducible refine o5_sR (by assumption) (fun _ _ => ?_))
      | (with_reducible refine o8_nR (by assumption) (fun _ _ => ?_))
      | (with_reducible refine o5_nI (by assumption) (fun _ _ => ?_))
      | (with_reducible refine o5_cp (by assumption) (fun _ _ => ?_))
      | (with_reducible refine o5_cl (by assumption) (fun _ _ => ?_))
      | (with_reducible refine o5_ap (by decide) (by assumption) (fun _ _ => ?_))
      | (with_reducible refine o8_vI hE (by decide) (by assumption) (fun _ _ => ?_))
      | (with_reducible refine o8_vV hE (by decide) (by assumption) (fun _ _ => ?_))
      | (with_reducible refine o8_vR hE (by decide) (by assumption) (fun _ _ => ?_))
      | (with_reducible refine o8_dI hE (by decide) (by assumption) (fun _ _ => ?_))
      | (with_reducible refine o8_dV hE (by decide) (by assumption) (fun _ _ => ?_))
      | (with_reducible refine o8_dR hE (by decide) (by assumption) (fun _ _ => ?_))
      | (with_reducible refine o8_nV hE (by decide) (by assumption) (fun _ _ => ?_))
      | (with_reducible refine o5_rd (fun _ => ?_)))
theorem n8_155_0 (hE : fE8 D) (o0 : Option Nat) (o1 : Option Nat) (h : rm_H) (z : nF5 Hz h) : oK5 Hz (b155_0 L xs zf D w o0 o1 h) := by
  unfold b155_0
  repeat' (first
    | with_reducible exact o5_dr (by assumption)
    | with_reducible exact o5_so (by assumption)
    | exact o5_none
    | with_reducible exact n8_155_2 hE _ _ _ _ _ (by assumption)
    | with_reducible refine o5_if ?_ ?_
    | (with_reducible refine o5_pF (by decide) (by assumption) (fun _ _ => ?_))
    | (with_reducible refine o5_sI (by assumption) (fun _ _ => ?_))
    | (with_reducible refine o5_sB (by assumption) (fun _ _ => ?_))
    | (with_reducible refine o5_sR (by assumption) (fun _ _ => ?_))
    | (with_reducible refine o8_nR (by assumption) (fun _ _ => ?_))
    | (with_reducible refine o5_nI (by assumption) (fun _ _ => ?_))
    | (with_reducible refine o5_cp (by assumption) (fun _ _ => ?_))
    | (with_reducible refine o5_cl (by assumption) (fun _ _ => ?_))
    | (with_reducible refine o5_ap (by decide) (by assumption) (fun _ _ => ?_))
    | (with_reducible refine o8_vI hE (by decide) (by assumption) (fun _ _ => ?_))
    | (with_reducible refine o8_vV hE (by decide) (by assumption) (fun _ _ => ?_))
    | (with_reducible refine o8_vR hE (by decide) (by assumption) (fun _ _ => ?_))
    | (with_reducible refine o8_dI hE (by decide) (by assumption) (fun _ _ => ?_))
    | (with_reducible refine o8_dV hE (by decide) (by assumption) (fun _ _ => ?_))
    | (with_reducible refine o8_dR hE (by decide) (by assumption) (fun _ _ => ?_))
    | (with_reducible refine o8_nV hE (by decide) (by assumption) (fun _ _ => ?_))
    | (with_reducible refine o5_rd (fun _ => ?_)))
theorem n8_156_57 (hE : fE8 D) (s0 : Option Nat) (h : rm_H) (z : nF5 Hz h) : oK5 Hz (b156_57 L xs zf D w s0 h) := by
  unfold b156_57
  repeat' (first
    | with_reducible exact o5_dr (by assumption)
    | with_reducible exact o5_so (by assumption)
    | exact o5_none
    | with_reducible refine o5_if ?_ ?_
    | (with_reducible refine o5_pF (by decide) (by assumption) (fun _ _ => ?_))
    | (with_reducible refine o5_sI (by assumption) (fun _ _ => ?_))
    | (with_reducible refine o5_sB (by assumption) (fun _ _ => ?_))
    | (with_reducible refine o5_sR (by assumption) (fun _ _ => ?_))
    | (with_reducible refine o8_nR (by assumption) (fun _ _ => ?_))
    | (with_reducible refine o5_nI (by assumption) (fun _ _ => ?_))
    | (with_reducible refine o5_cp (by assumption) (fun _ _ => ?_))
    | (with_reducible refine o5_cl (by assumption) (fun _ _ => ?_))
    | (with_reducible refine o5_ap (by decide) (by assumption) (fun _ _ => ?_))
    | (with_reducible refine o8_vI hE (by decide) (by assumption) (fun _ _ => ?_))
    | (with_reducible refine o8_vV hE (by decide) (by assumption) (fun _ _ => ?_))
    | (with_reducible refine o8_vR hE (by decide) (by assumption) (fun _ _ => ?_))
    | (with_reducible refine o8_dI hE (by decide) (by assumption) (fun _ _ => ?_))
    | (with_reducible refine o8_dV hE (by decide) (by assumption) (fun _ _ => ?_))
    | (with_reducible refine o8_dR hE (by decide) (by assumption) (fun _ _ => ?_))
    | (with_reducible refine o8_nV hE (by decide) (by assumption) (fun _ _ => ?_))
    | (with_reducible refine o5_rd (fun _ => ?_)))
theorem n8_156_2 (hE : fE8 D) : ∀ (n : Nat) (b0 : Option Nat) (b1 : Option Nat) (b2 : Int32) (b3 : Int32) (h : rm_H), nF5 Hz h → oK5 Hz (b156_2 L xs zf D w n b0 b1 b2 b3 h)
  | 0, _, _, _, _, _, _ => fun r s' e => by
    have e : (none : Option dR) = some (r, s') := e
    cases e
  | n + 1, b0, b1, b2, b3, h, z => by
    have ih := n8_156_2 hE n
    unfold b156_2
    repeat' (first
      | with_reducible exact o5_dr (by assumption)
      | with_reducible exact o5_so (by assumption)
      | exact o5_none
      | with_reducible exact n8_156_57 hE _ _ (by assumption)
      | with_reducible exact ih _ _ _ _ _ (by assumption)
      | with_reducible refine o5_if ?_ ?_
      | (with_reducible refine o5_pF (by decide) (by assumption) (fun _ _ => ?_))
      | (with_reducible refine o5_sI (by assumption) (fun _ _ => ?_))
      | (with_reducible refine o5_sB (by assumption) (fun _ _ => ?_))
      | (with_reducible refine o5_sR (by assumption) (fun _ _ => ?_))
      | (with_reducible refine o8_nR (by assumption) (fun _ _ => ?_))
      | (with_reducible refine o5_nI (by assumption) (fun _ _ => ?_))
      | (with_reducible refine o5_cp (by assumption) (fun _ _ => ?_))
      | (with_reducible refine o5_cl (by assumption) (fun _ _ => ?_))
      | (with_reducible refine o5_ap (by decide) (by assumption) (fun _ _ => ?_))
      | (with_reducible refine o8_vI hE (by decide) (by assumption) (fun _ _ => ?_))
      | (with_reducible refine o8_vV hE (by decide) (by assumption) (fun _ _ => ?_))
      | (with_reducible refine o8_vR hE (by decide) (by assumption) (fun _ _ => ?_))
      | (with_reducible refine o8_dI hE (by decide) (by assumption) (fun _ _ => ?_))
      | (with_reducible refine o8_dV hE (by decide) (by assumption) (fun _ _ => ?_))
      | (with_reducible refine o8_dR hE (by decide) (by assumption) (fun _ _ => ?_))
      | (with_reducible refine o8_nV hE (by decide) (by assumption) (fun _ _ => ?_))
      | (with_reducible refine o5_rd (fun _ => ?_)))
theorem n8_156_0 (hE : fE8 D) (o0 : Option Nat) (o1 : Option Nat) (i2 : Int32) (h : rm_H) (z : nF5 Hz h) : oK5 Hz (b156_0 L xs zf D w o0 o1 i2 h) := by
  unfold b156_0
  repeat' (first
    | with_reducible exact o5_dr (by assumption)
    | with_reducible exact o5_so (by assumption)
    | exact o5_none
    | with_reducible exact n8_156_2 hE _ _ _ _ _ _ (by assumption)
    | with_reducible refine o5_if ?_ ?_
    | (with_reducible refine o5_pF (by decide) (by assumption) (fun _ _ => ?_))
    | (with_reducible refine o5_sI (by assumption) (fun _ _ => ?_))
    | (with_reducible refine o5_sB (by assumption) (fun _ _ => ?_))
    | (with_reducible refine o5_sR (by assumption) (fun _ _ => ?_))
    | (with_reducible refine o8_nR (by assumption) (fun _ _ => ?_))
    | (with_reducible refine o5_nI (by assumption) (fun _ _ => ?_))
    | (with_reducible refine o5_cp (by assumption) (fun _ _ => ?_))
    | (with_reducible refine o5_cl (by assumption) (fun _ _ => ?_))
    | (with_reducible refine o5_ap (by decide) (by assumption) (fun _ _ => ?_))
    | (with_reducible refine o8_vI hE (by decide) (by assumption) (fun _ _ => ?_))
    | (with_reducible refine o8_vV hE (by decide) (by assumption) (fun _ _ => ?_))
    | (with_reducible refine o8_vR hE (by decide) (by assumption) (fun _ _ => ?_))
    | (with_reducible refine o8_dI hE (by decide) (by assumption) (fun _ _ => ?_))
    | (with_reducible refine o8_dV hE (by decide) (by assumption) (fun _ _ => ?_))
    | (with_reducible refine o8_dR hE (by decide) (by assumption) (fun _ _ => ?_))
    | (with_reducible refine o8_nV hE (by decide) (by assumption) (fun _ _ => ?_))
    | (with_reducible refine o5_rd (fun _ => ?_)))
theorem n8_157_121 (hE : fE8 D) {K47 : Option Nat → Option Nat → Int32 → Int32 → rm_H → Option dR} (hK47 : ∀ (a0 : Option Nat) (a1 : Option Nat) (a2 : Int32) (a3 : Int32) (h : rm_H), nF5 Hz h → oK5 Hz (K47 a0 a1 a2 a3 h)) (o0 : Option Nat) (o1 : Option Nat) (i2 : Int32) (i3 : Int32) (h : rm_H) (z : nF5 Hz h) : oK5 Hz (b157_121 L xs zf D w K47 o0 o1 i2 i3 h) := by
  unfold b157_121
  repeat' (first
    | with_reducible exact o5_dr (by assumption)
    | with_reducible exact o5_so (by assumption)
    | exact o5_none
    | with_reducible exact hK47 _ _ _ _ _ (by assumption)
    | with_reducible refine o5_if ?_ ?_
    | (with_reducible refine o5_pF (by decide) (by assumption) (fun _ _ => ?_))
    | (with_reducible refine o5_sI (by assumption) (fun _ _ => ?_))
    | (with_reducible refine o5_sB (by assumption) (fun _ _ => ?_))
    | (with_reducible refine o5_sR (by assumption) (fun _ _ => ?_))
    | (with_reducible refine o8_nR (by assumption) (fun _ _ => ?_))
    | (with_reducible refine o5_nI (by assumption) (fun _ _ => ?_))
    | (with_reducible refine o5_cp (by assumption) (fun _ _ => ?_))
    | (with_reducible refine o5_cl (by assumption) (fun _ _ => ?_))
    | (with_reducible refine o5_ap (by decide) (by assumption) (fun _ _ => ?_))
    | (with_reducible refine o8_vI hE (by decide) (by assumption) (fun _ _ => ?_))
    | (with_reducible refine o8_vV hE (by decide) (by assumption) (fun _ _ => ?_))
    | (with_reducible refine o8_vR hE (by decide) (by assumption) (fun _ _ => ?_))
    | (with_reducible refine o8_dI hE (by decide) (by assumption) (fun _ _ => ?_))
    | (with_reducible refine o8_dV hE (by decide) (by assumption) (fun _ _ => ?_))
    | (with_reducible refine o8_dR hE (by decide) (by assumption) (fun _ _ => ?_))
    | (with_reducible refine o8_nV hE (by decide) (by assumption) (fun _ _ => ?_))
    | (with_reducible refine o5_rd (fun _ => ?_)))
theorem n8_157_160 (hE : fE8 D) (s0 : Int32) (s1 : Option Nat) (h : rm_H) (z : nF5 Hz h) : oK5 Hz (b157_160 L xs zf D w s0 s1 h) := by
  unfold b157_160
  repeat' (first
    | with_reducible exact o5_dr (by assumption)
    | with_reducible exact o5_so (by assumption)
    | exact o5_none
    | with_reducible refine o5_if ?_ ?_
    | (with_reducible refine o5_pF (by decide) (by assumption) (fun _ _ => ?_))
    | (with_reducible refine o5_sI (by assumption) (fun _ _ => ?_))
    | (with_reducible refine o5_sB (by assumption) (fun _ _ => ?_))
    | (with_reducible refine o5_sR (by assumption) (fun _ _ => ?_))
    | (with_reducible refine o8_nR (by assumption) (fun _ _ => ?_))
    | (with_reducible refine o5_nI (by assumption) (fun _ _ => ?_))
    | (with_reducible refine o5_cp (by assumption) (fun _ _ => ?_))
    | (with_reducible refine o5_cl (by assumption) (fun _ _ => ?_))
    | (with_reducible refine o5_ap (by decide) (by assumption) (fun _ _ => ?_))
    | (with_reducible refine o8_vI hE (by decide) (by assumption) (fun _ _ => ?_))
    | (with_reducible refine o8_vV hE (by decide) (by assumption) (fun _ _ => ?_))
    | (with_reducible refine o8_vR hE (by decide) (by assumption) (fun _ _ => ?_))
    | (with_reducible refine o8_dI hE (by decide) (by assumption) (fun _ _ => ?_))
    | (with_reducible refine o8_dV hE (by decide) (by assumption) (fun _ _ => ?_))
    | (with_reducible refine o8_dR hE (by decide) (by assumption) (fun _ _ => ?_))
    | (with_reducible refine o8_nV hE (by decide) (by assumption) (fun _ _ => ?_))
    | (with_reducible refine o5_rd (fun _ => ?_)))
end N8B
