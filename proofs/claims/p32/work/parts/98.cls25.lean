theorem c_X6_tellD {l : Launch} {Z : zZ} (hZ : zSt l Z) (hO : zOps Z) {μ : zMem} {σ : zS2} {π : zP2} {g : zG2} {t : Nat} (ht : ta t) {S : zS2} (hM : mo t μ σ π S) (hK : KI S) (hQ : QS S) {sp st : Nat} (hsp : zSp μ σ π sp S st) (hv : stepV S st) (hx : stX S st) (hRc : S 98 st ≠ 10 → RI (chgF S st)) (hT : ∃ E, S 67 34 = nI E ∧ E ≤ 2000 ∧ (S 98 st = 10 → E + stC S st ≤ 2000)) :
    zCt l Z mX6_tell 5 0 0 [.ref t, .ref sp] (zA4 μ σ π g) (fun r μ' => r = some (.int (nI (doF S st).2)) ∧ zE0 t μ σ π g (doF S st).1 μ') := by
  obtain ⟨E, e1, e2, e3⟩ := hT
  obtain ⟨hio, hspn, hk, hk0, hk1, _⟩ := id hsp
  obtain ⟨k, g1, g2, g3, g4, g5, g6⟩ := stepV_kind hv
  by_cases q : S 98 st = 10
  · have hd : doF S st = tickF S (stC S st) := by unfold doF; rw [if_pos q]
    rw [hd]
    exact zCt_mono (c_X6_tellT hZ hO ht hM hK hQ hk hio (hk0.trans q) (hk1.trans g3) e1 (e3 q)) (fun r μ' h => ⟨h.1, h.2.e0⟩)
  · exact c_X6_tell hZ hO ht hM hK hsp hv q (fun q0 => by
      have k0 : k = 0 := (nI_10 g1 (j := 0) (by omega) g2).mp (q0.trans (by rfl))
      exact (g4 (by omega)).2 k0) hx (hRc q) (by rw [e1]; exact nI_ge0 e2)


