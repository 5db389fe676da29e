/-! ===== the law's beginning ===== -/
theorem chV_0 : chV 0 := rfl
theorem beginF_o (S : zS2) : beginF S 67 1 = S 67 1 ∧ (∀ i, beginF S 68 i = S 68 i) ∧ ∀ k, beginF S 104 k = S 104 k := by
  refine ⟨?_, fun i => ?_, fun k => ?_⟩
  all_goals simp [beginF, beD, clearF, clS, clP, beS, beP, zu]
def S0z : zS2 := beginF (fun _ _ => 0)
theorem S0z_80 (c : Nat) : S0z 80 c = 0 := by
  unfold S0z
  simp [beginF, beD, clearF, clS, clP, beS, beP, zu]
theorem start_pw {μ0 μ : zMem} {σ : zS2} {π : zP2} (h : DI σ π) (h0 : zK μ0 0 = 8 + 8) (hN : zN μ0 = 1) (hg : zgr (zals μ0 dl) μ) (hn : 70 ≤ zN μ) : PW 0 0 μ σ π S0z := by
  obtain ⟨e1, e2, e3⟩ := beginF_o (fun _ _ => 0)
  have hb := RV_begin (S := fun _ _ => 0) rfl
  refine ⟨⟨hb.1, hb.2, fun k hk => absurd hk (Nat.not_lt_zero k)⟩, ⟨e1, by decide, fun i _ => ?_⟩, fun k => ?_, h.cw h0 hN hg hn e1 (fun i _ => e2 i)⟩
  · show chV (beginF (fun _ _ => 0) 68 i)
    rw [e2]
    exact chV_0
  · show (beginF (fun _ _ => 0) 104 _).toNatClampNeg ≤ 30
    rw [e3]
    decide
theorem bt_0z (c : Nat) : bt 0 c = decide (S0z 80 c ≠ 0) := by
  rw [S0z_80]
  simp [bt]
def zM0 : zMem := (0, fun _ => 0, fun _ => 0, fun _ _ => 0, fun _ _ => none, fun _ _ => 0)
set_option maxRecDepth 100000 in
set_option maxHeartbeats 4000000 in
theorem law_walk {l : Launch} {Z : zZ} (hE : zEv l Z) {nm : String} {τ : zT} {mc ms : Nat} (hY : zCy l Z τ (mLw nm) 200 mc ms) (hmc : 2000 ≤ mc) (hms : 30000 ≤ ms) {F : State → Prop} {b0 N : Nat} {xs : Nat → Int32} (hX : zScZ b0 N xs Z) (hN : N < 2147483648)
    (hEnd : ∀ (bf bh i : Nat) (held : Int32) (v8 v9 v10 v11 v12 : Option Value) (μ : zMem) (σ : zS2) (π : zP2) (g : zG2) (c k : Nat), c ≤ mc → k ≤ ms → zJL b0 τ F 576 [none, some (.ref 0), some (.ref 67), some (.ref bf), some (.ref bh), some (.int (held)), some (.int 1), some (.int (nI i)), v8, v9, v10, v11, v12] [] (zA4 μ σ π g) (c) (k)) :
    zJL b0 τ F 0 [none, none, none, none, none, none, none, none, none, none, none, none, none] [] zM0 0 0 := by
  have hT := hY.1
  have hZ := hE.1
  refine Q_new (ci := 8) hT (by decide) dL_law_0 kcL_10 inX8 itX8 (by decide) (by omega) (by show 0 + 7 ≤ ms; omega) ?_
  refine Q_dup hT dL_law_3 rfl ?_
  obtain ⟨μ1, hμ1⟩ : ∃ μ1, μ1 = zal zM0 (8 + 8) 0 := ⟨_, rfl⟩
  have n1 : zN μ1 = 1 := by rw [hμ1]; rfl
  have k1 : zK μ1 0 = 8 + 8 := by rw [hμ1]; rfl
  refine Q_mu (μ' := zA4 μ1 (zI μ1) (zP μ1) (zG μ1)) (by rw [zA4_eta, hμ1]) ?_
  refine Q_callI (b := 0) hY dL_law_4 mfX8_init rfl rfl miX8_init kL_172 (c_X8_init hZ k1 n1) rfl (by decide) rfl rfl (Nat.le_of_ble_eq_true rfl) (by omega) (by show 0 + 7 + 552 ≤ ms; omega) (fun r μ2 hq => ?_)
  obtain ⟨rfl, σ1, π1, g1, rfl, hD⟩ := hq
  obtain ⟨ν, hν⟩ : ∃ ν, ν = zA4 (zals μ1 dl) σ1 π1 g1 := ⟨_, rfl⟩
  have nν : zN ν = 67 := by rw [hν]; show zN (zals μ1 dl) = 67; rw [zals_N, n1]; rfl
  rw [← hν]
  show zJL _ _ _ _ _ [.ref 0] _ _ _
  refine Q_astore_n (i := 1) hT dL_law_7 rfl (by decide) (Nat.le_of_ble_eq_true rfl) ?_
  show zJL _ _ _ _ [none, some (.ref 0), none, none, none, none, none, none, none, none, none, none, none] [] _ _ _
  refine Q_bipush (v := 30) hT dL_law_8 rfl ?_
  refine Q_newI (kd := 0) (n := 30) hT (Or.inl ⟨rfl, rfl⟩) dL_law_10 ac_int rfl (by decide) (by omega) (by show 0 + 7 + 552 + 30 ≤ ms; omega) ?_
  rw [nν]
  refine Q_astore_n (i := 2) hT dL_law_12 rfl (by decide) (Nat.le_of_ble_eq_true rfl) ?_
  show zJL _ _ _ _ [none, some (.ref 0), some (.ref 67), none, none, none, none, none, none, none, none, none, none] [] _ _ _
  refine Q_bipush (v := 47) hT dL_law_13 rfl ?_
  refine Q_newI (kd := 0) (n := 47) hT (Or.inl ⟨rfl, rfl⟩) dL_law_15 ac_int rfl (by decide) (by omega) (by show 0 + 7 + 552 + 30 + 47 ≤ ms; omega) ?_
  obtain ⟨ν1, hν1⟩ : ∃ y, y = zal ν 0 30 := ⟨_, rfl⟩
  have nν1 : zN ν1 = 68 := by rw [hν1, zN_al, nν]
  rw [← hν1, nν1]
  refine Q_astore_n (i := 3) hT dL_law_17 rfl (by decide) (Nat.le_of_ble_eq_true rfl) ?_
  show zJL _ _ _ _ [none, some (.ref 0), some (.ref 67), some (.ref 68), none, none, none, none, none, none, none, none, none] [] _ _ _
  refine Q_bipush (v := 47) hT dL_law_18 rfl ?_
  refine Q_newI (kd := 0) (n := 47) hT (Or.inl ⟨rfl, rfl⟩) dL_law_20 ac_int rfl (by decide) (by omega) (by show 0 + 7 + 552 + 30 + 47 + 47 ≤ ms; omega) ?_
  obtain ⟨ν2, hν2⟩ : ∃ y, y = zal ν1 0 47 := ⟨_, rfl⟩
  have nν2 : zN ν2 = 69 := by rw [hν2, zN_al, nν1]
  rw [← hν2, nν2]
  refine Q_astore (i := 4) hT dL_law_22 (by decide) (Nat.le_of_ble_eq_true rfl) ?_
  show zJL _ _ _ _ [none, some (.ref 0), some (.ref 67), some (.ref 68), some (.ref 69), none, none, none, none, none, none, none, none] [] _ _ _
  obtain ⟨ν3, hν3⟩ : ∃ y, y = zal ν2 0 47 := ⟨_, rfl⟩
  have nν3 : zN ν3 = 70 := by rw [hν3, zN_al, nν2]
  rw [← hν3]
  have ga : zgr ν ν1 := by rw [hν1]; exact zgr_al ν 0 30
  have gb : zgr ν1 ν2 := by rw [hν2]; exact zgr_al ν1 0 47
  have gc : zgr ν2 ν3 := by rw [hν3]; exact zgr_al ν2 0 47
  have hK : lwK ν3 := by
    have a1 : zK ν1 67 = 0 ∧ zL ν1 67 = 30 := by rw [hν1, zK_al, zL_al, nν]; exact ⟨if_pos rfl, if_pos rfl⟩
    have a2 : zK ν2 68 = 0 ∧ zL ν2 68 = 47 := by rw [hν2, zK_al, zL_al, nν1]; exact ⟨if_pos rfl, if_pos rfl⟩
    have a3 : zK ν3 69 = 0 ∧ zL ν3 69 = 47 := by rw [hν3, zK_al, zL_al, nν2]; exact ⟨if_pos rfl, if_pos rfl⟩
    have b1 := gb.2 67 (by omega)
    have b2 := gc.2 67 (by omega)
    have b3 := gc.2 68 (by omega)
    exact ⟨⟨(b2.1.trans b1.1).trans a1.1, (b2.2.trans b1.2).trans a1.2⟩, ⟨b3.1.trans a2.1, b3.2.trans a2.2⟩, a3⟩
  have hg : zgr (zals μ1 dl) ν3 := by
    have e : zgr ν ν3 := (ga.tr gb).tr gc
    rw [hν] at e
    exact e
  have hs : ∀ b, b < zN (zA4 (zals μ1 dl) σ1 π1 g1) → ∀ j, zI ν3 b j = σ1 b j ∧ zP ν3 b j = π1 b j := fun b hb j => by
    rw [← hν, nν] at hb
    rw [hν3, zI_al, zP_al, nν2, if_neg (by omega), if_neg (by omega), hν2, zI_al, zP_al, nν1, if_neg (by omega), if_neg (by omega), hν1, zI_al, zP_al, nν, if_neg (by omega), if_neg (by omega), hν]
    exact ⟨rfl, rfl⟩
  have hP : PW 0 0 ν3 (zI ν3) (zP ν3) S0z := by
    refine start_pw (μ0 := μ1) ?_ k1 n1 hg (by omega)
    obtain ⟨⟨a1, a2, a3, a4, a5, a6⟩, b, ⟨c1, c2, c3⟩, ⟨d1, d2⟩, t5, t35, e1, e2⟩ := hD
    have hs : ∀ b, b < 67 → ∀ j, zI ν3 b j = σ1 b j ∧ zP ν3 b j = π1 b j := fun b hb j => hs b (by rw [← hν, nν]; exact hb) j
    have f : ∀ b, b < 67 → ∀ j, zI ν3 b j = σ1 b j := fun b hb j => (hs b hb j).1
    have p : ∀ b, b < 67 → ∀ j, zP ν3 b j = π1 b j := fun b hb j => (hs b hb j).2
    exact ⟨⟨(p _ (by decide) _).trans a1, (p _ (by decide) _).trans a2, (p _ (by decide) _).trans a3, (p _ (by decide) _).trans a4, (p _ (by decide) _).trans a5, (p _ (by decide) _).trans a6⟩, (f _ (by decide) _).trans b, ⟨(p _ (by decide) _).trans c1, (f _ (by decide) _).trans c2, fun i => (f _ (by decide) _).trans (c3 i)⟩, ⟨(p _ (by decide) _).trans d1, (p _ (by decide) _).trans d2⟩, t5.mv (fun b q1 q2 j => ⟨f b (by omega) j, p b (by omega) j⟩), t35.mv (fun b q1 q2 j => ⟨f b (by omega) j, p b (by omega) j⟩), (f _ (by decide) _).trans e1, (f _ (by decide) _).trans e2⟩
  refine Q_mu (μ' := zA4 ν3 (zI ν3) (zP ν3) (zG ν3)) (zA4_eta _).symm ?_
  refine Q_iconst (v := 0) hT dL_law_24 rfl ?_
  refine Q_istore (i := 5) hT dL_law_25 (Nat.le_of_ble_eq_true rfl) (by decide) ?_
  show zJL _ _ _ _ [none, some (.ref 0), some (.ref 67), some (.ref 68), some (.ref 69), some (.int 0), none, none, none, none, none, none, none] [] _ _ _
  refine Q_aload_n (i := 1) hT dL_law_27 rfl rfl ?_
  refine Q_iconst (v := 0) hT dL_law_28 rfl ?_
  refine Q_callS hY dL_law_29 mfL_fits mtL_fits kL_173 (c_L_fits hZ hE.2.1 hP (hv := 0) (fun c _ => bt_0z c)) rfl (by decide) rfl rfl (Nat.le_of_ble_eq_true rfl) (by omega) (by show 0 + 7 + 552 + 30 + 47 + 47 + 0 ≤ ms; omega) (fun r μq hq => ?_)
  obtain ⟨rfl, σ2, rfl, hP2, -⟩ := hq
  show zJL _ _ _ _ _ [.int 1] (zA4 ν3 σ2 (zP ν3) (zG ν3)) _ _
  refine Q_istore (i := 6) hT dL_law_32 (Nat.le_of_ble_eq_true rfl) (by decide) ?_
  show zJL _ _ _ _ [none, some (.ref 0), some (.ref 67), some (.ref 68), some (.ref 69), some (.int 0), some (.int 1), none, none, none, none, none, none] [] _ _ _
  refine Q_iconst (v := 0) hT dL_law_34 rfl ?_
  refine Q_istore (i := 7) hT dL_law_35 (Nat.le_of_ble_eq_true rfl) (by decide) ?_
  show zJL _ _ _ _ [none, some (.ref 0), some (.ref 67), some (.ref 68), some (.ref 69), some (.int 0), some (.int 1), some (.int (nI 0)), none, none, none, none, none] [] _ _ _
  exact law_loop hE hY hX hN hEnd 36 0 rfl hK (Or.inl ⟨rfl, rfl⟩) hP2 (fun c _ => bt_0z c) (by omega) (by show 0 + 7 + 552 + 30 + 47 + 47 + 0 + 300 * 36 ≤ ms; omega)
