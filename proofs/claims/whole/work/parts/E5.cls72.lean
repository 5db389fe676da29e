/-! ===== the law's loop ===== -/
def zDp (l : Launch) (Z : zZ) (mC mX : zM) (μ0 : zMem) : Prop := ∃ (v : Int32) (kc kx : Nat) (R : zMem → Prop), (kc ≤ 190 ∧ kx ≤ 190) ∧ zCt l Z mC kc 0 0 [.ref 0] μ0 (fun r μ' => r = some (.int v) ∧ R μ') ∧ ∀ μ', R μ' → zK μ' 67 = 9 + 8 ∧ zCt l Z mX kx 0 0 [.ref 67] μ' (fun r μy => r = some (.int v) ∧ ∃ n L μ1 σ π g, μy = zA4 μ1 σ π g ∧ LW n L μ1 σ π ∧ zK μ1 106 = 3 ∧ zL μ1 106 = 1)
theorem dq_steps {l : Launch} {Z : zZ} (hZ : zSt l Z) {n L : Nat} {μ : zMem} {σ : zS2} {π : zP2} {g : zG2} (h : LW n L μ σ π) (h6 : zK μ 106 = 3 ∧ zL μ 106 = 1) : zDp l Z mX8_steps mX9_steps (zA4 μ σ π g) :=
  ⟨nI n, 0, 0, fun μ' => μ' = zA4 μ σ π g, by decide, c_X8_steps hZ h.cw, fun μ' e => by
    subst e
    exact ⟨h.1.1, zCt_mono (c_X9_steps hZ h.1) (fun r μy q => ⟨by rw [q.1, h.2.1.1.2.1], n, L, μ, _, π, g, q.2, h.m 45 0 (Or.inr rfl), h6.1, h6.2⟩)⟩⟩
theorem dq_now {l : Launch} {Z : zZ} (hZ : zSt l Z) {n L : Nat} {μ : zMem} {σ : zS2} {π : zP2} {g : zG2} (h : LW n L μ σ π) (h6 : zK μ 106 = 3 ∧ zL μ 106 = 1) : zDp l Z mX8_now mX9_now (zA4 μ σ π g) :=
  ⟨σ 67 34, 0, 0, fun μ' => μ' = zA4 μ σ π g, by decide, c_X8_now hZ h.cw, fun μ' e => by
    subst e
    exact ⟨h.1.1, zCt_mono (c_X9_now hZ h.1) (fun r μy q => ⟨q.1, n, L, μ, _, π, g, q.2, h.m 45 0 (Or.inr rfl), h6.1, h6.2⟩)⟩⟩
theorem dq_work {l : Launch} {Z : zZ} (hZ : zSt l Z) {n L : Nat} {μ : zMem} {σ : zS2} {π : zP2} {g : zG2} (h : LW n L μ σ π) (h6 : zK μ 106 = 3 ∧ zL μ 106 = 1) : zDp l Z mX8_work mX9_work (zA4 μ σ π g) :=
  ⟨σ 67 33, 0, 0, fun μ' => μ' = zA4 μ σ π g, by decide, c_X8_work hZ h.cw, fun μ' e => by
    subst e
    exact ⟨h.1.1, zCt_mono (c_X9_work hZ h.1) (fun r μy q => ⟨q.1, n, L, μ, _, π, g, q.2, h.m 45 0 (Or.inr rfl), h6.1, h6.2⟩)⟩⟩
theorem dq_wipe {l : Launch} {Z : zZ} (hZ : zSt l Z) {n L : Nat} {μ : zMem} {σ : zS2} {π : zP2} {g : zG2} (h : LW n L μ σ π) (h6 : zK μ 106 = 3 ∧ zL μ 106 = 1) : zDp l Z mX8_wipe mX9_wipe (zA4 μ σ π g) := by
  have hT := h.2.2.1
  refine ⟨nI L, 0, 0, fun μ' => ∃ σ', μ' = zA4 μ σ' π g ∧ CW n (zu σ 67 1 0) μ σ' π ∧ zPf2 σ σ', by decide, c_X8_wipe hZ h.cw hT, fun μ' e => ?_⟩
  obtain ⟨σ', rfl, hC, hp⟩ := e
  have e : ∀ b, 67 ≤ b → ∀ j, σ' b j = σ b j := fun b hb j => hp b j (by omega) (by omega)
  have hl : LW n 0 μ (zu (zu σ' 67 45 0) 67 1 0) π := h.txt hC hp (fun b j h1 h2 => zu_off h2) (fun b j h1 h2 => by
      have z1 : ¬ (b = 67 ∧ j = 1) := fun q => h2 ⟨q.1, Or.inl q.2⟩
      have z2 : ¬ (b = 67 ∧ j = 45) := fun q => h2 ⟨q.1, Or.inr q.2⟩
      simp only [zu, z1, z2, if_false]) ((zu_eq _ _ _ _).trans (zu_eq _ _ _ _).symm) (fun i => (zu_ne _ _ _ _ (by decide) i).trans ((zu_ne _ _ _ _ (by decide) i).trans ((e 68 (by decide) i).trans (zu_ne _ _ _ _ (by decide) i).symm))) ((hT.mv (S' := zu σ' 67 45 0) ((zu_nj _ _ _ _ _ (by decide)).trans (e 67 (by decide) 1)) (fun i => (zu_ne _ _ _ _ (by decide) i).trans (e 68 (by decide) i))).none)
  exact ⟨h.1.1, zCt_mono (c_X9_wipe hZ h.1) (fun r μy q => ⟨by rw [q.1, e 67 (by decide) 1, hT.1], n, 0, μ, _, π, g, q.2, hl, h6.1, h6.2⟩)⟩
theorem dq_fault {l : Launch} {Z : zZ} (hZ : zSt l Z) {n L : Nat} {μ : zMem} {σ : zS2} {π : zP2} {g : zG2} (h : LW n L μ σ π) (h6 : zK μ 106 = 3 ∧ zL μ 106 = 1) : zDp l Z mX8_fault mX9_fault (zA4 μ σ π g) := by
  have hT := h.2.2.1
  obtain ⟨d1, -⟩ := dR0_ok (S := σ) hT.2.1
  refine ⟨cFl (dR0 σ L) L, 163, 3, fun μ' => ∃ σ', μ' = zA4 μ σ' π g ∧ zPf σ σ' ∧ CW n σ μ σ' π, by decide, zCt_mono (c_X8_fault hZ h.cw hT) (fun r μ' q => ?_), fun μ' e => ?_⟩
  · obtain ⟨q1, σ', q2, q3, q4, -⟩ := q
    exact ⟨q1, σ', q2, q3, q4⟩
  · obtain ⟨σ', rfl, hp, hC⟩ := e
    have h2 := h.cl zgr.rf hC (zcl.pf (g := g) hp)
    have er : rdF σ' L = rdF σ L := rdF_mv (fun j => hp 68 j (by decide) (by decide)) L
    exact ⟨h.1.1, zCt_mono (c_X9_fault hZ h2.1 h2.2.2.1.1 hT.2.1) (fun r μy q => by
      obtain ⟨q1, σ2, q2, q3⟩ := q
      exact ⟨by rw [q1, d1, er], n, L, μ, σ2, π, g, q2, (h2.m 45 0 (Or.inr rfl)).pf q3, h6.1, h6.2⟩)⟩
set_option maxHeartbeats 1000000 in
set_option maxRecDepth 20000 in
theorem lc_1 {l : Launch} {Z : zZ} (hE : zEv l Z) {nm : String} {τ : zT} {mc ms : Nat} (hY : zCy l Z τ (mLw nm) 200 mc ms) {F : State → Prop} {b0 N i : Nat} {xs : Nat → Int32} (hX : zScr b0 N xs τ) (hi : i + 3 < N) (hN : N ≤ 2048) {n L : Nat} {μ : zMem} {σ : zS2} {π : zP2} {g : zG2} (h : LW n L μ σ π) (h6 : zK μ 106 = 3 ∧ zL μ 106 = 1) {c k : Nat} (hc : c + 3 ≤ mc) (hk : k + 38 ≤ ms) (hK : ∀ n L μ σ π g, LW n L μ σ π → (zK μ 106 = 3 ∧ zL μ 106 = 1) → zJL b0 τ F 1705 (zLc i) [] (zA4 μ σ π g) (c + 3) (k + 38)) : zJL b0 τ F 226 (zLc i) [] (zA4 μ σ π g) c k := by
  have hZ := hE.1
  have hT := hY.1
  obtain ⟨v, kc, kx, R, ⟨b1, b2⟩, hw, hx⟩ := dq_wipe hZ (g := g) h h6
  refine Q_aload_n (i := 1) hT dL_law_226 rfl rfl ?_
  refine Q_callV (ci := 8) hY dL_law_227 mfX8_wipe miX8_wipe msX8_wipe kL_107 ⟨by decide, rfl⟩ h.cw.k0 hw rfl (by omega) rfl rfl (Nat.le_of_ble_eq_true rfl) (by omega) (by omega) (fun r μ1 hq => ?_)
  obtain ⟨rfl, hR⟩ := hq
  obtain ⟨h67, hxc⟩ := hx _ hR
  show zJL _ _ _ _ _ [.int v] _ _ _
  refine Q_aload_n (i := 2) hT dL_law_230 rfl rfl ?_
  refine Q_callV (ci := 9) hY dL_law_231 mfX9_wipe miX9_wipe msX9_wipe kL_110 ⟨by decide, rfl⟩ h67 hxc rfl (by omega) rfl rfl (Nat.le_of_ble_eq_true rfl) (by omega) (by omega) (fun r μ2 hq => ?_)
  obtain ⟨rfl, n2, L2, μ3, σ3, π3, g3, rfl, hl, k6, l6⟩ := hq
  show zJL _ _ _ _ _ [.int v, .int v] _ _ _
  refine Q_icmp_eq (tgt := 1705) hT dL_law_234 (by decide) (fun _ => ?_) (fun q => absurd rfl q)
  exact (hK n2 L2 μ3 σ3 π3 g3 hl ⟨k6, l6⟩).wide (by omega) (by omega)
set_option maxHeartbeats 1000000 in
set_option maxRecDepth 20000 in
theorem lc_2 {l : Launch} {Z : zZ} (hE : zEv l Z) {nm : String} {τ : zT} {mc ms : Nat} (hY : zCy l Z τ (mLw nm) 200 mc ms) {F : State → Prop} {b0 N i : Nat} {xs : Nat → Int32} (hX : zScr b0 N xs τ) (hi : i + 3 < N) (hN : N ≤ 2048) {n L : Nat} {μ : zMem} {σ : zS2} {π : zP2} {g : zG2} (h : LW n L μ σ π) (h6 : zK μ 106 = 3 ∧ zL μ 106 = 1) {c k : Nat} (hc : c + 3 ≤ mc) (hk : k + 38 ≤ ms) (hK : ∀ n L μ σ π g, LW n L μ σ π → (zK μ 106 = 3 ∧ zL μ 106 = 1) → zJL b0 τ F 1705 (zLc i) [] (zA4 μ σ π g) (c + 3) (k + 38)) : zJL b0 τ F 239 (zLc i) [] (zA4 μ σ π g) c k := by
  have hZ := hE.1
  have hT := hY.1
  obtain ⟨v, kc, kx, R, ⟨b1, b2⟩, hw, hx⟩ := dq_fault hZ (g := g) h h6
  refine Q_aload_n (i := 1) hT dL_law_239 rfl rfl ?_
  refine Q_callV (ci := 8) hY dL_law_240 mfX8_fault miX8_fault msX8_fault kL_111 ⟨by decide, rfl⟩ h.cw.k0 hw rfl (by omega) rfl rfl (Nat.le_of_ble_eq_true rfl) (by omega) (by omega) (fun r μ1 hq => ?_)
  obtain ⟨rfl, hR⟩ := hq
  obtain ⟨h67, hxc⟩ := hx _ hR
  show zJL _ _ _ _ _ [.int v] _ _ _
  refine Q_aload_n (i := 2) hT dL_law_243 rfl rfl ?_
  refine Q_callV (ci := 9) hY dL_law_244 mfX9_fault miX9_fault msX9_fault kL_114 ⟨by decide, rfl⟩ h67 hxc rfl (by omega) rfl rfl (Nat.le_of_ble_eq_true rfl) (by omega) (by omega) (fun r μ2 hq => ?_)
  obtain ⟨rfl, n2, L2, μ3, σ3, π3, g3, rfl, hl, k6, l6⟩ := hq
  show zJL _ _ _ _ _ [.int v, .int v] _ _ _
  refine Q_icmp_eq (tgt := 1705) hT dL_law_247 (by decide) (fun _ => ?_) (fun q => absurd rfl q)
  exact (hK n2 L2 μ3 σ3 π3 g3 hl ⟨k6, l6⟩).wide (by omega) (by omega)
set_option maxHeartbeats 1000000 in
set_option maxRecDepth 20000 in
theorem lc_15 {l : Launch} {Z : zZ} (hE : zEv l Z) {nm : String} {τ : zT} {mc ms : Nat} (hY : zCy l Z τ (mLw nm) 200 mc ms) {F : State → Prop} {b0 N i : Nat} {xs : Nat → Int32} (hX : zScr b0 N xs τ) (hi : i + 3 < N) (hN : N ≤ 2048) {n L : Nat} {μ : zMem} {σ : zS2} {π : zP2} {g : zG2} (h : LW n L μ σ π) (h6 : zK μ 106 = 3 ∧ zL μ 106 = 1) {c k : Nat} (hc : c + 3 ≤ mc) (hk : k + 38 ≤ ms) (hK : ∀ n L μ σ π g, LW n L μ σ π → (zK μ 106 = 3 ∧ zL μ 106 = 1) → zJL b0 τ F 1705 (zLc i) [] (zA4 μ σ π g) (c + 3) (k + 38)) : zJL b0 τ F 1036 (zLc i) [] (zA4 μ σ π g) c k := by
  have hZ := hE.1
  have hT := hY.1
  obtain ⟨v, kc, kx, R, ⟨b1, b2⟩, hw, hx⟩ := dq_steps hZ (g := g) h h6
  refine Q_aload_n (i := 1) hT dL_law_1036 rfl rfl ?_
  refine Q_callV (ci := 8) hY dL_law_1037 mfX8_steps miX8_steps msX8_steps kL_156 ⟨by decide, rfl⟩ h.cw.k0 hw rfl (by omega) rfl rfl (Nat.le_of_ble_eq_true rfl) (by omega) (by omega) (fun r μ1 hq => ?_)
  obtain ⟨rfl, hR⟩ := hq
  obtain ⟨h67, hxc⟩ := hx _ hR
  show zJL _ _ _ _ _ [.int v] _ _ _
  refine Q_aload_n (i := 2) hT dL_law_1040 rfl rfl ?_
  refine Q_callV (ci := 9) hY dL_law_1041 mfX9_steps miX9_steps msX9_steps kL_159 ⟨by decide, rfl⟩ h67 hxc rfl (by omega) rfl rfl (Nat.le_of_ble_eq_true rfl) (by omega) (by omega) (fun r μ2 hq => ?_)
  obtain ⟨rfl, n2, L2, μ3, σ3, π3, g3, rfl, hl, k6, l6⟩ := hq
  show zJL _ _ _ _ _ [.int v, .int v] _ _ _
  refine Q_icmp_eq (tgt := 1705) hT dL_law_1044 (by decide) (fun _ => ?_) (fun q => absurd rfl q)
  exact (hK n2 L2 μ3 σ3 π3 g3 hl ⟨k6, l6⟩).wide (by omega) (by omega)
set_option maxHeartbeats 1000000 in
set_option maxRecDepth 20000 in
theorem lc_16 {l : Launch} {Z : zZ} (hE : zEv l Z) {nm : String} {τ : zT} {mc ms : Nat} (hY : zCy l Z τ (mLw nm) 200 mc ms) {F : State → Prop} {b0 N i : Nat} {xs : Nat → Int32} (hX : zScr b0 N xs τ) (hi : i + 3 < N) (hN : N ≤ 2048) {n L : Nat} {μ : zMem} {σ : zS2} {π : zP2} {g : zG2} (h : LW n L μ σ π) (h6 : zK μ 106 = 3 ∧ zL μ 106 = 1) {c k : Nat} (hc : c + 3 ≤ mc) (hk : k + 38 ≤ ms) (hK : ∀ n L μ σ π g, LW n L μ σ π → (zK μ 106 = 3 ∧ zL μ 106 = 1) → zJL b0 τ F 1705 (zLc i) [] (zA4 μ σ π g) (c + 3) (k + 38)) : zJL b0 τ F 1049 (zLc i) [] (zA4 μ σ π g) c k := by
  have hZ := hE.1
  have hT := hY.1
  obtain ⟨v, kc, kx, R, ⟨b1, b2⟩, hw, hx⟩ := dq_now hZ (g := g) h h6
  refine Q_aload_n (i := 1) hT dL_law_1049 rfl rfl ?_
  refine Q_callV (ci := 8) hY dL_law_1050 mfX8_now miX8_now msX8_now kL_160 ⟨by decide, rfl⟩ h.cw.k0 hw rfl (by omega) rfl rfl (Nat.le_of_ble_eq_true rfl) (by omega) (by omega) (fun r μ1 hq => ?_)
  obtain ⟨rfl, hR⟩ := hq
  obtain ⟨h67, hxc⟩ := hx _ hR
  show zJL _ _ _ _ _ [.int v] _ _ _
  refine Q_aload_n (i := 2) hT dL_law_1053 rfl rfl ?_
  refine Q_callV (ci := 9) hY dL_law_1054 mfX9_now miX9_now msX9_now kL_163 ⟨by decide, rfl⟩ h67 hxc rfl (by omega) rfl rfl (Nat.le_of_ble_eq_true rfl) (by omega) (by omega) (fun r μ2 hq => ?_)
  obtain ⟨rfl, n2, L2, μ3, σ3, π3, g3, rfl, hl, k6, l6⟩ := hq
  show zJL _ _ _ _ _ [.int v, .int v] _ _ _
  refine Q_icmp_eq (tgt := 1705) hT dL_law_1057 (by decide) (fun _ => ?_) (fun q => absurd rfl q)
  exact (hK n2 L2 μ3 σ3 π3 g3 hl ⟨k6, l6⟩).wide (by omega) (by omega)
set_option maxHeartbeats 1000000 in
set_option maxRecDepth 20000 in
theorem lc_22 {l : Launch} {Z : zZ} (hE : zEv l Z) {nm : String} {τ : zT} {mc ms : Nat} (hY : zCy l Z τ (mLw nm) 200 mc ms) {F : State → Prop} {b0 N i : Nat} {xs : Nat → Int32} (hX : zScr b0 N xs τ) (hi : i + 3 < N) (hN : N ≤ 2048) {n L : Nat} {μ : zMem} {σ : zS2} {π : zP2} {g : zG2} (h : LW n L μ σ π) (h6 : zK μ 106 = 3 ∧ zL μ 106 = 1) {c k : Nat} (hc : c + 3 ≤ mc) (hk : k + 38 ≤ ms) (hK : ∀ n L μ σ π g, LW n L μ σ π → (zK μ 106 = 3 ∧ zL μ 106 = 1) → zJL b0 τ F 1705 (zLc i) [] (zA4 μ σ π g) (c + 3) (k + 38)) : zJL b0 τ F 1349 (zLc i) [] (zA4 μ σ π g) c k := by
  have hZ := hE.1
  have hT := hY.1
  obtain ⟨v, kc, kx, R, ⟨b1, b2⟩, hw, hx⟩ := dq_work hZ (g := g) h h6
  refine Q_aload_n (i := 1) hT dL_law_1349 rfl rfl ?_
  refine Q_callV (ci := 8) hY dL_law_1350 mfX8_work miX8_work msX8_work kL_179 ⟨by decide, rfl⟩ h.cw.k0 hw rfl (by omega) rfl rfl (Nat.le_of_ble_eq_true rfl) (by omega) (by omega) (fun r μ1 hq => ?_)
  obtain ⟨rfl, hR⟩ := hq
  obtain ⟨h67, hxc⟩ := hx _ hR
  show zJL _ _ _ _ _ [.int v] _ _ _
  refine Q_aload_n (i := 2) hT dL_law_1353 rfl rfl ?_
  refine Q_callV (ci := 9) hY dL_law_1354 mfX9_work miX9_work msX9_work kL_182 ⟨by decide, rfl⟩ h67 hxc rfl (by omega) rfl rfl (Nat.le_of_ble_eq_true rfl) (by omega) (by omega) (fun r μ2 hq => ?_)
  obtain ⟨rfl, n2, L2, μ3, σ3, π3, g3, rfl, hl, k6, l6⟩ := hq
  show zJL _ _ _ _ _ [.int v, .int v] _ _ _
  refine Q_icmp_eq (tgt := 1705) hT dL_law_1357 (by decide) (fun _ => ?_) (fun q => absurd rfl q)
  exact (hK n2 L2 μ3 σ3 π3 g3 hl ⟨k6, l6⟩).wide (by omega) (by omega)
set_option maxHeartbeats 4000000 in
set_option maxRecDepth 20000 in
theorem law_it {l : Launch} {Z : zZ} (hE : zEv l Z) {nm : String} {τ : zT} {mc ms : Nat} (hY : zCy l Z τ (mLw nm) 200 mc ms) {F : State → Prop} {b0 N i : Nat} {xs : Nat → Int32} (hX : zScr b0 N xs τ) (hi : i + 3 < N) (hN : N ≤ 2048) {n L : Nat} {μ : zMem} {σ : zS2} {π : zP2} {g : zG2} (h : LW n L μ σ π) (h6 : zK μ 106 = 3 ∧ zL μ 106 = 1) {c k : Nat} (hc : c + 3 ≤ mc) (hk : k + 38 ≤ ms) (hK : ∀ n L μ σ π g, LW n L μ σ π → (zK μ 106 = 3 ∧ zL μ 106 = 1) → zJL b0 τ F 1705 (zLc i) [] (zA4 μ σ π g) (c + 3) (k + 38)) : zJL b0 τ F 32 (zLc i) [] (zA4 μ σ π g) c k := by
  have hT := hY.1
  have hNb : N < 2147483648 := by omega
  obtain ⟨j, hj, ej⟩ := pk_andE (xs i) (m := 31) 5 (by decide)
  refine Q_s0 hT hX (by omega) hNb rfl dL_law_32 dL_law_33 dL_law_35 ?_
  refine Q_bipush (v := 31) hT dL_law_36 rfl ?_
  refine Q_iand hT dL_law_38 ?_
  refine Q_topil ej ?_
  have hj' : j = 0 ∨ j = 1 ∨ j = 2 ∨ j = 3 ∨ j = 4 ∨ j = 5 ∨ j = 6 ∨ j = 7 ∨ j = 8 ∨ j = 9 ∨ j = 10 ∨ j = 11 ∨ j = 12 ∨ j = 13 ∨ j = 14 ∨ j = 15 ∨ j = 16 ∨ j = 17 ∨ j = 18 ∨ j = 19 ∨ j = 20 ∨ j = 21 ∨ j = 22 ∨ j = 23 ∨ j = 24 ∨ j = 25 ∨ j = 26 ∨ j = 27 ∨ j = 28 ∨ j = 29 ∨ j = 30 ∨ j = 31 := by omega
  rcases hj' with rfl | rfl | rfl | rfl | rfl | rfl | rfl | rfl | rfl | rfl | rfl | rfl | rfl | rfl | rfl | rfl | rfl | rfl | rfl | rfl | rfl | rfl | rfl | rfl | rfl | rfl | rfl | rfl | rfl | rfl | rfl | rfl
  · exact Q_tableIn (off := 129) (tgt := 168) hT dL_law_39 (by decide) (by decide) (by decide) (by decide) (lc_0 hE hY hX hi hN h h6 hc hk hK)
  · exact Q_tableIn (off := 187) (tgt := 226) hT dL_law_39 (by decide) (by decide) (by decide) (by decide) (lc_1 hE hY hX hi hN h h6 hc hk hK)
  · exact Q_tableIn (off := 200) (tgt := 239) hT dL_law_39 (by decide) (by decide) (by decide) (by decide) (lc_2 hE hY hX hi hN h h6 hc hk hK)
  · exact Q_tableIn (off := 213) (tgt := 252) hT dL_law_39 (by decide) (by decide) (by decide) (by decide) (lc_3 hE hY hX hi hN h h6 hc hk hK)
  · exact Q_tableIn (off := 269) (tgt := 308) hT dL_law_39 (by decide) (by decide) (by decide) (by decide) (lc_4 hE hY hX hi hN h h6 hc hk hK)
  · exact Q_tableIn (off := 337) (tgt := 376) hT dL_law_39 (by decide) (by decide) (by decide) (by decide) (lc_5 hE hY hX hi hN h h6 hc hk hK)
  · exact Q_tableIn (off := 393) (tgt := 432) hT dL_law_39 (by decide) (by decide) (by decide) (by decide) (lc_6 hE hY hX hi hN h h6 hc hk hK)
  · exact Q_tableIn (off := 461) (tgt := 500) hT dL_law_39 (by decide) (by decide) (by decide) (by decide) (lc_7 hE hY hX hi hN h h6 hc hk hK)
  · exact Q_tableIn (off := 529) (tgt := 568) hT dL_law_39 (by decide) (by decide) (by decide) (by decide) (lc_8 hE hY hX hi hN h h6 hc hk hK)
  · exact Q_tableIn (off := 597) (tgt := 636) hT dL_law_39 (by decide) (by decide) (by decide) (by decide) (lc_9 hE hY hX hi hN h h6 hc hk hK)
  · exact Q_tableIn (off := 677) (tgt := 716) hT dL_law_39 (by decide) (by decide) (by decide) (by decide) (lc_10 hE hY hX hi hN h h6 hc hk hK)
  · exact Q_tableIn (off := 773) (tgt := 812) hT dL_law_39 (by decide) (by decide) (by decide) (by decide) (lc_11 hE hY hX hi hN h h6 hc hk hK)
  · exact Q_tableIn (off := 841) (tgt := 880) hT dL_law_39 (by decide) (by decide) (by decide) (by decide) (lc_12 hE hY hX hi hN h h6 hc hk hK)
  · exact Q_tableIn (off := 897) (tgt := 936) hT dL_law_39 (by decide) (by decide) (by decide) (by decide) (lc_13 hE hY hX hi hN h h6 hc hk hK)
  · exact Q_tableIn (off := 953) (tgt := 992) hT dL_law_39 (by decide) (by decide) (by decide) (by decide) (lc_14 hE hY hX hi hN h h6 hc hk hK)
  · exact Q_tableIn (off := 997) (tgt := 1036) hT dL_law_39 (by decide) (by decide) (by decide) (by decide) (lc_15 hE hY hX hi hN h h6 hc hk hK)
  · exact Q_tableIn (off := 1010) (tgt := 1049) hT dL_law_39 (by decide) (by decide) (by decide) (by decide) (lc_16 hE hY hX hi hN h h6 hc hk hK)
  · exact Q_tableIn (off := 1023) (tgt := 1062) hT dL_law_39 (by decide) (by decide) (by decide) (by decide) (lc_17 hE hY hX hi hN h h6 hc hk hK)
  · exact Q_tableIn (off := 1079) (tgt := 1118) hT dL_law_39 (by decide) (by decide) (by decide) (by decide) (lc_18 hE hY hX hi hN h h6 hc hk hK)
  · exact Q_tableIn (off := 1135) (tgt := 1174) hT dL_law_39 (by decide) (by decide) (by decide) (by decide) (lc_19 hE hY hX hi hN h h6 hc hk hK)
  · exact Q_tableIn (off := 1191) (tgt := 1230) hT dL_law_39 (by decide) (by decide) (by decide) (by decide) (lc_20 hE hY hX hi hN h h6 hc hk hK)
  · exact Q_tableIn (off := 1247) (tgt := 1286) hT dL_law_39 (by decide) (by decide) (by decide) (by decide) (lc_21 hE hY hX hi hN h h6 hc hk hK)
  · exact Q_tableIn (off := 1310) (tgt := 1349) hT dL_law_39 (by decide) (by decide) (by decide) (by decide) (lc_22 hE hY hX hi hN h h6 hc hk hK)
  · exact Q_tableIn (off := 1323) (tgt := 1362) hT dL_law_39 (by decide) (by decide) (by decide) (by decide) (lc_23 hE hY hX hi hN h h6 hc hk hK)
  · exact Q_tableIn (off := 1379) (tgt := 1418) hT dL_law_39 (by decide) (by decide) (by decide) (by decide) (lc_24 hE hY hX hi hN h h6 hc hk hK)
  · exact Q_tableIn (off := 1435) (tgt := 1474) hT dL_law_39 (by decide) (by decide) (by decide) (by decide) (lc_25 hE hY hX hi hN h h6 hc hk hK)
  · exact Q_tableIn (off := 1491) (tgt := 1530) hT dL_law_39 (by decide) (by decide) (by decide) (by decide) (lc_26 hE hY hX hi hN h h6 hc hk hK)
  · exact Q_tableIn (off := 1547) (tgt := 1586) hT dL_law_39 (by decide) (by decide) (by decide) (by decide) (lc_27 hE hY hX hi hN h h6 hc hk hK)
  · exact Q_tableIn (off := 1603) (tgt := 1642) hT dL_law_39 (by decide) (by decide) (by decide) (by decide) (lc_28 hE hY hX hi hN h h6 hc hk hK)
  · exact Q_tableOut (tgt := 1705) hT dL_law_39 (by decide) (by decide) ((hK n L μ σ π g h h6).wide (by omega) (by omega))
  · exact Q_tableOut (tgt := 1705) hT dL_law_39 (by decide) (by decide) ((hK n L μ σ π g h h6).wide (by omega) (by omega))
  · exact Q_tableOut (tgt := 1705) hT dL_law_39 (by decide) (by decide) ((hK n L μ σ π g h h6).wide (by omega) (by omega))

theorem sub4 : ∀ N, N < 2049 → (nI N - 4).toInt = (N : Int) - 4 := by decide +kernel
theorem law_loop {l : Launch} {Z : zZ} (hE : zEv l Z) {nm : String} {τ : zT} {mc ms : Nat} (hY : zCy l Z τ (mLw nm) 200 mc ms) {F : State → Prop} {b0 N : Nat} {xs : Nat → Int32} (hX : zScr b0 N xs τ) (hN : N ≤ 2048)
    (hEnd : ∀ i n L μ σ π g c k, LW n L μ σ π → c ≤ mc → k ≤ ms → zJL b0 τ F 1711 (zLc i) [] (zA4 μ σ π g) c k) : ∀ t i n L μ σ π g c k, i ≤ 2051 → N ≤ i + 4 * t → c + 3 * t ≤ mc → k + 38 * t ≤ ms → LW n L μ σ π → (zK μ 106 = 3 ∧ zL μ 106 = 1) → zJL b0 τ F 23 (zLc i) [] (zA4 μ σ π g) c k := by
  intro t
  induction t with
  | zero =>
    intro i n L μ σ π g c k hi ht hc hk h h6
    have hT := hY.1
    refine Q_iload hT dL_law_23 rfl ?_
    refine Q_slen hT hX dL_law_25 dL_law_26 ?_
    refine Q_iconst (v := 4) hT dL_law_27 rfl ?_
    refine Q_isub hT dL_law_28 ?_
    refine Q_icmp_gt (tgt := 1711) hT dL_law_29 (by decide) (fun _ => hEnd i n L μ σ π g c k h (by omega) (by omega)) (fun q => ?_)
    refine absurd ?_ q
    have e1 := sub4 N (by omega)
    have e2 := nI_toInt (n := i) (by omega)
    first
      | exact Int32.lt_iff_toInt_lt.mpr (by rw [e1, e2]; omega)
      | exact gt_iff_lt.mpr (Int32.lt_iff_toInt_lt.mpr (by rw [e1, e2]; omega))
  | succ t ih =>
    intro i n L μ σ π g c k hi ht hc hk h h6
    have hT := hY.1
    refine Q_iload hT dL_law_23 rfl ?_
    refine Q_slen hT hX dL_law_25 dL_law_26 ?_
    refine Q_iconst (v := 4) hT dL_law_27 rfl ?_
    refine Q_isub hT dL_law_28 ?_
    refine Q_icmp_gt (tgt := 1711) hT dL_law_29 (by decide) (fun _ => hEnd i n L μ σ π g c k h (by omega) (by omega)) (fun q => ?_)
    have hi3 : i + 3 < N := by
      have e1 := sub4 N (by omega)
      have e2 := nI_toInt (n := i) (by omega)
      rcases Nat.lt_or_ge (i + 3) N with z | z
      · exact z
      · refine absurd ?_ q
        first
          | exact Int32.lt_iff_toInt_lt.mpr (by rw [e1, e2]; omega)
          | exact gt_iff_lt.mpr (Int32.lt_iff_toInt_lt.mpr (by rw [e1, e2]; omega))
    refine law_it hE hY hX hi3 hN h h6 (c := c) (k := k) (by omega) (by omega) (fun n2 L2 μ2 σ2 π2 g2 h2 h26 => ?_)
    refine Q_iinc (i := 4) (v := nI (i + 4)) hT dL_law_1705 (by decide) rfl (nI_ad i 4) ?_
    show zJL _ _ _ _ (zLc (i + 4)) [] _ _ _
    refine Q_goto (tgt := 23) hT dL_law_1708 (by decide) ?_
    exact ih (i + 4) n2 L2 μ2 σ2 π2 g2 (c + 3) (k + 38) (by omega) (by omega) (by omega) (by omega) h2 h26
