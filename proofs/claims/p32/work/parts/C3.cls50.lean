theorem cw_ac2 : Cond.arrayClass (zty 2) ∈ ztb := ztb_in (zc1 (List.mem_of_getElem? (i := 47) rfl)) rfl
set_option maxRecDepth 100000 in
set_option maxHeartbeats 4000000 in
theorem c_X7_init {l : Launch} {Z : zZ} (hZ : zSt l Z) {μ : zMem} {σ : zS2} {π : zP2} {g : zG2} {q : List (Nat × Nat)} {a b : Nat} (hb : zN μ + q.length = b) (ha : a < b) (hk : zK (zals μ q) a = 7 + 8) : zCt l Z mX7_init 0 1 30 [.ref a] (zA4 (zals μ q) σ π g) (fun r μ' => r = none ∧ μ' = zA4 (zals μ (q ++ [(2, 30)])) (zu (n1 b σ) a 1 0) (zup (n2 b π) a 0 (some b)) (n3 b g)) := by
  refine zCt_of hZ mpX7_init (Nat.le_of_ble_eq_true rfl) (L := [some (.ref a)]) rfl (fun τ hY => ?_)
  have hT := hY.1
  have hk2 : zK (zals μ (q ++ [(2, 30)])) a = 7 + 8 := by
    rw [← zals_snoc, zK_al, if_neg (by rw [zals_N]; omega)]
    exact hk
  refine J_aload_n (i := 0) hT dX7_init_0 rfl rfl ?_
  refine J_objInit hT dX7_init_1 kX7_3 oi1 oi2 rfl (by decide) ?_
  refine J_aload_n (i := 0) hT dX7_init_4 rfl rfl ?_
  refine J_bipush (v := 30) hT dX7_init_5 rfl ?_
  refine N_newI (b := b) (kd := 2) (n := 30) hT (Or.inr (Or.inr ⟨rfl, rfl⟩)) dX7_init_7 cw_ac2 rfl (by decide) (by decide) (by decide) hb ?_
  refine C_putP hT fX7_9 (Or.inr ⟨rfl, rfl, wX7_9⟩) rfl dX7_init_9 hk2 ?_
  refine J_aload_n (i := 0) hT dX7_init_12 rfl rfl ?_
  refine J_iconst (v := 0) hT dX7_init_13 rfl ?_
  refine C_putI hT fX7_15 (Or.inr ⟨rfl, rfl, wX7_15⟩) rfl dX7_init_14 hk2 ?_
  exact J_vret hT dX7_init_17 rfl (⟨rfl, rfl⟩) (by decide) (by decide)

set_option maxRecDepth 100000 in
set_option maxHeartbeats 4000000 in
theorem c_X2_init {l : Launch} {Z : zZ} (hZ : zSt l Z) {μ : zMem} {σ : zS2} {π : zP2} {g : zG2} {q : List (Nat × Nat)} {a b : Nat} (hb : zN μ + q.length = b) (ha : a < b) (hk : zK (zals μ q) a = 2 + 8) {x : Nat} : zCt l Z mX2_init 0 1 30 [.ref a, .ref x] (zA4 (zals μ q) σ π g) (fun r μ' => r = none ∧ μ' = zA4 (zals μ (q ++ [(0, 30)])) (zu (zu (zu (zu (n1 b σ) a 2 0) a 3 0) a 4 0) a 5 0) (zup (zup (n2 b π) a 1 (some b)) a 0 (some x)) (n3 b g)) := by
  refine zCt_of hZ mpX2_init (Nat.le_of_ble_eq_true rfl) (L := [some (.ref a), some (.ref x)]) rfl (fun τ hY => ?_)
  have hT := hY.1
  have hk2 : zK (zals μ (q ++ [(0, 30)])) a = 2 + 8 := by
    rw [← zals_snoc, zK_al, if_neg (by rw [zals_N]; omega)]
    exact hk
  refine J_aload_n (i := 0) hT dX2_init_0 rfl rfl ?_
  refine J_objInit hT dX2_init_1 kX2_3 oi1 oi2 rfl (by decide) ?_
  refine J_aload_n (i := 0) hT dX2_init_4 rfl rfl ?_
  refine J_bipush (v := 30) hT dX2_init_5 rfl ?_
  refine N_newI (b := b) (kd := 0) (n := 30) hT (Or.inl ⟨rfl, rfl⟩) dX2_init_7 cw_ai rfl (by decide) (by decide) (by decide) hb ?_
  refine C_putP hT fX2_9 (Or.inr ⟨rfl, rfl, wX2_9⟩) rfl dX2_init_9 hk2 ?_
  refine J_aload_n (i := 0) hT dX2_init_12 rfl rfl ?_
  refine J_iconst (v := 0) hT dX2_init_13 rfl ?_
  refine C_putI hT fX2_15 (Or.inr ⟨rfl, rfl, wX2_15⟩) rfl dX2_init_14 hk2 ?_
  refine J_aload_n (i := 0) hT dX2_init_17 rfl rfl ?_
  refine J_iconst (v := 0) hT dX2_init_18 rfl ?_
  refine C_putI hT fX2_19 (Or.inr ⟨rfl, rfl, wX2_19⟩) rfl dX2_init_19 hk2 ?_
  refine J_aload_n (i := 0) hT dX2_init_22 rfl rfl ?_
  refine J_iconst (v := 0) hT dX2_init_23 rfl ?_
  refine C_putI hT fX2_22 (Or.inr ⟨rfl, rfl, wX2_22⟩) rfl dX2_init_24 hk2 ?_
  refine J_aload_n (i := 0) hT dX2_init_27 rfl rfl ?_
  refine J_iconst (v := 0) hT dX2_init_28 rfl ?_
  refine C_putZ hT fX2_25 (Or.inr ⟨rfl, rfl, wX2_25⟩) rfl (by decide) dX2_init_29 hk2 ?_
  refine J_aload_n (i := 0) hT dX2_init_32 rfl rfl ?_
  refine J_aload_n (i := 1) hT dX2_init_33 rfl rfl ?_
  refine C_putP hT fX2_29 (Or.inr ⟨rfl, rfl, wX2_29⟩) rfl dX2_init_34 hk2 ?_
  exact J_vret hT dX2_init_37 rfl (⟨rfl, rfl⟩) (by decide) (by decide)

theorem zals_app (μ : zMem) (l l2 : List (Nat × Nat)) : zals (zals μ l) l2 = zals μ (l ++ l2) := by
  unfold zals
  rw [List.foldl_append]
theorem TI.mv {t : Nat} {σ σ' : zS2} {π π' : zP2} (h : TI t 12 5 5 σ π) (e : ∀ b, t ≤ b → b < t + 30 → ∀ j, σ' b j = σ b j ∧ π' b j = π b j) : TI t 12 5 5 σ' π' := by
  obtain ⟨⟨a1, a2, a3, a4, a5, a6⟩, ⟨b1, b2, b3⟩, ⟨c1, c2, c3⟩, d, f, k⟩ := h
  have s : ∀ b, t ≤ b → b < t + 30 → ∀ j, σ' b j = σ b j := fun b h1 h2 j => (e b h1 h2 j).1
  have p : ∀ b, t ≤ b → b < t + 30 → ∀ j, π' b j = π b j := fun b h1 h2 j => (e b h1 h2 j).2
  refine ⟨⟨(p _ (by omega) (by omega) _).trans a1, (p _ (by omega) (by omega) _).trans a2, (p _ (by omega) (by omega) _).trans a3, (p _ (by omega) (by omega) _).trans a4, (p _ (by omega) (by omega) _).trans a5, (p _ (by omega) (by omega) _).trans a6⟩, ⟨(s _ (by omega) (by omega) _).trans b1, (s _ (by omega) (by omega) _).trans b2, (s _ (by omega) (by omega) _).trans b3⟩, ⟨(p _ (by omega) (by omega) _).trans c1, (s _ (by omega) (by omega) _).trans c2, (s _ (by omega) (by omega) _).trans c3⟩, fun i hi => ?_, fun i hi => ?_, fun i hi => ?_⟩
  · obtain ⟨d1, d2, d3, d4, d5, d6, d7⟩ := d i hi
    exact ⟨(p _ (by omega) (by omega) _).trans d1, (p _ (by omega) (by omega) _).trans d2, (p _ (by omega) (by omega) _).trans d3, (s _ (by omega) (by omega) _).trans d4, (s _ (by omega) (by omega) _).trans d5, (s _ (by omega) (by omega) _).trans d6, (s _ (by omega) (by omega) _).trans d7⟩
  · obtain ⟨d1, d2, d3⟩ := f i hi
    exact ⟨(p _ (by omega) (by omega) _).trans d1, (s _ (by omega) (by omega) _).trans d2, (s _ (by omega) (by omega) _).trans d3⟩
  · obtain ⟨d1, d2, d3⟩ := k i hi
    exact ⟨(p _ (by omega) (by omega) _).trans d1, (s _ (by omega) (by omega) _).trans d2, fun j q1 q2 => (s _ (by omega) (by omega) _).trans (d3 j q1 q2)⟩

