/-! THE CLAIM OUT OF A RUN of the machine of the mind. -/
def ah_Goal (L : Nat) (xs : Nat → Int32) (zf : Value) : Prop := rm_Runs ah_P ah_gc 21 (ah_O L xs) (ah_Z zf) ah_TY ah_FT ah_DV ah_CA ah_M0 0 [(0, .ref 0)] [] [] 600000 7300000 2048 84000 (fun v _ => v = some (.int 1))
set_option maxHeartbeats 4000000 in
theorem ah_reduce {p : Program} {e : Env} {s : State} {m : MethodId} {below : List Frame} {meth : Method} {c : Code} (l : Launch) {b L : Nat} {xs : Nat → Int32} (C0 : lw_At p s m meth c b L xs) (hrun : ∀ zf : Value, zf = .null ∨ zf = .ref 6 → ah_Goal L xs zf) : W p l e room_1 s m #[Value.ref b] below meth c s.heap [] 0 0 (lw_Z below #[Value.ref b] s) (entryFrame m ([Value.ref b] : List Value).toArray 4) := by
  obtain ⟨hx, hb, hr, hml, hown, hts, hX, hbl, hlocks, hgv⟩ := C0
  obtain ⟨D, cA, ρ, zf, hzf, hρ, hinj, h0, hE⟩ := ah_env hts (flat_of_before _ hgv) hX hbl
  obtain ⟨n, r, hr1, hc, hs, hf, hlo, hv⟩ := hrun zf hzf
  have hl := lv_entry ([.ref b]) (n := 4) (Nat.le_of_ble_eq_true rfl)
  rw [lg_entry_eq]
  have hG : rm_G D ah_cl cA ρ s.heap.size s.heap [] s.heap [] := ⟨by simp, fun k x h => by simp at h, fun q _ => rfl, fun q h => by cases h⟩
  have hlv : rm_lv ρ [(0, .ref 0)] = [(0, .ref b)] := by simp [rm_lv, rm_v, h0]
  have hl2 : lv_has (lg_sl [.ref b] ++ List.replicate (4 - (lg_sl [.ref b]).length) Slot.unset).toArray 4 (rm_lv ρ [(0, .ref 0)]) := by rw [hlv]; exact hl
  have h9 := rm_walk (l := l) ah_know ah_cp hρ hinj n ah_M0 ah_law 0 [(0, .ref 0)] [] [] r hr1 p e room_1 s m #[Value.ref b] below meth c s.heap [] _ 0 0 hx hb hml hr hlocks (fun h => absurd h (by decide)) hown (fun w h => hts w (List.mem_filter.mp h).1) hE hG hl2 (by rw [Nat.zero_add]; exact hc) (by rw [Nat.zero_add]; exact Nat.le_trans hs (by decide)) hf hlo
  intro T hT X
  obtain ⟨t, st, o, g1, g2, ⟨ho, -⟩, Lc, hF, hLc⟩ := h9 T hT X
  refine ⟨t, st, o, g1, g2, ?_, hF.1, hF.2.1, ?_⟩
  · rw [ho, hv]; rfl
  · exact (State.sameButNew.drop_fresh (L := []) hF.2.2 hLc).mono (by rw [Nat.zero_add]; exact hc) (by rw [Nat.zero_add]; exact Nat.le_trans hs (by decide))
