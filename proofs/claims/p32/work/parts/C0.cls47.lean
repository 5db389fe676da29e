set_option maxRecDepth 100000 in
set_option maxHeartbeats 4000000 in
theorem c_X0_init {l : Launch} {Z : zZ} (hZ : zSt l Z) {μ : zMem} {σ : zS2} {π : zP2} {g : zG2} {a f : Nat} (ha : zK μ a = 0 + 8) {v : Int32} : zCt l Z mX0_init 0 0 0 [.ref a, .int v, .ref f] (zA4 μ σ π g) (fun r μ' => r = none ∧ μ' = zA4 μ (zu (zu (zu (zu (σ) a 2 0) a 3 0) a 4 0) a 0 v) (zup π a 1 (some f)) g) := by
  refine zCt_of hZ mpX0_init (Nat.le_of_ble_eq_true rfl) (L := [some (.ref a), some (.int v), some (.ref f)]) rfl (fun τ hY => ?_)
  have hT := hY.1
  refine J_aload_n (i := 0) hT dX0_init_0 rfl rfl ?_
  refine J_objInit hT dX0_init_1 kX0_1 oi1 oi2 rfl (by decide) ?_
  refine J_aload_n (i := 0) hT dX0_init_4 rfl rfl ?_
  refine J_iconst (v := 0) hT dX0_init_5 rfl ?_
  refine C_putI hT fX0_7 (Or.inr ⟨rfl, rfl, wX0_7⟩) rfl dX0_init_6 ha ?_
  refine J_aload_n (i := 0) hT dX0_init_9 rfl rfl ?_
  refine J_iconst (v := 0) hT dX0_init_10 rfl ?_
  refine C_putI hT fX0_13 (Or.inr ⟨rfl, rfl, wX0_13⟩) rfl dX0_init_11 ha ?_
  refine J_aload_n (i := 0) hT dX0_init_14 rfl rfl ?_
  refine J_iconst (v := 0) hT dX0_init_15 rfl ?_
  refine C_putZ hT fX0_16 (Or.inr ⟨rfl, rfl, wX0_16⟩) rfl (by decide) dX0_init_16 ha ?_
  refine J_aload_n (i := 0) hT dX0_init_19 rfl rfl ?_
  refine J_iload_n (i := 1) hT dX0_init_20 rfl rfl ?_
  refine C_putI hT fX0_20 (Or.inr ⟨rfl, rfl, wX0_20⟩) rfl dX0_init_21 ha ?_
  refine J_aload_n (i := 0) hT dX0_init_24 rfl rfl ?_
  refine J_aload_n (i := 2) hT dX0_init_25 rfl rfl ?_
  refine C_putP hT fX0_23 (Or.inr ⟨rfl, rfl, wX0_23⟩) rfl dX0_init_26 ha ?_
  exact J_vret hT dX0_init_29 rfl (⟨rfl, rfl⟩) (Nat.le_refl _) (Nat.le_refl _)

set_option maxRecDepth 100000 in
set_option maxHeartbeats 4000000 in
theorem c_X3_init {l : Launch} {Z : zZ} (hZ : zSt l Z) {μ : zMem} {σ : zS2} {π : zP2} {g : zG2} {a : Nat} (ha : zK μ a = 3 + 8) : zCt l Z mX3_init 0 0 0 [.ref a] (zA4 μ σ π g) (fun r μ' => r = none ∧ μ' = zA4 μ (zu (zu (σ) a 0 0) a 1 (-1)) π g) := by
  refine zCt_of hZ mpX3_init (Nat.le_of_ble_eq_true rfl) (L := [some (.ref a)]) rfl (fun τ hY => ?_)
  have hT := hY.1
  refine J_aload_n (i := 0) hT dX3_init_0 rfl rfl ?_
  refine J_objInit hT dX3_init_1 kX3_3 oi1 oi2 rfl (by decide) ?_
  refine J_aload_n (i := 0) hT dX3_init_4 rfl rfl ?_
  refine J_iconst (v := 0) hT dX3_init_5 rfl ?_
  refine C_putI hT fX3_9 (Or.inr ⟨rfl, rfl, wX3_9⟩) rfl dX3_init_6 ha ?_
  refine J_aload_n (i := 0) hT dX3_init_9 rfl rfl ?_
  refine J_iconst (v := -1) hT dX3_init_10 rfl ?_
  refine C_putI hT fX3_15 (Or.inr ⟨rfl, rfl, wX3_15⟩) rfl dX3_init_11 ha ?_
  exact J_vret hT dX3_init_14 rfl (⟨rfl, rfl⟩) (Nat.le_refl _) (Nat.le_refl _)

set_option maxRecDepth 100000 in
set_option maxHeartbeats 4000000 in
theorem c_X4_init {l : Launch} {Z : zZ} (hZ : zSt l Z) {μ : zMem} {σ : zS2} {π : zP2} {g : zG2} {a : Nat} (ha : zK μ a = 4 + 8) {v : Int32} : zCt l Z mX4_init 0 0 0 [.ref a, .int v] (zA4 μ σ π g) (fun r μ' => r = none ∧ μ' = zA4 μ (zu (zu (zu (zu (zu (zu (zu (zu (zu (zu (zu (zu (zu (zu (σ) a 1 0) a 2 (-1)) a 3 (-1)) a 4 0) a 5 0) a 6 0) a 7 (-1)) a 8 0) a 9 0) a 10 0) a 11 0) a 12 0) a 13 0) a 0 v) π g) := by
  refine zCt_of hZ mpX4_init (Nat.le_of_ble_eq_true rfl) (L := [some (.ref a), some (.int v)]) rfl (fun τ hY => ?_)
  have hT := hY.1
  refine J_aload_n (i := 0) hT dX4_init_0 rfl rfl ?_
  refine J_objInit hT dX4_init_1 kX4_3 oi1 oi2 rfl (by decide) ?_
  refine J_aload_n (i := 0) hT dX4_init_4 rfl rfl ?_
  refine J_iconst (v := 0) hT dX4_init_5 rfl ?_
  refine C_putI hT fX4_9 (Or.inr ⟨rfl, rfl, wX4_9⟩) rfl dX4_init_6 ha ?_
  refine J_aload_n (i := 0) hT dX4_init_9 rfl rfl ?_
  refine J_iconst (v := -1) hT dX4_init_10 rfl ?_
  refine C_putI hT fX4_15 (Or.inr ⟨rfl, rfl, wX4_15⟩) rfl dX4_init_11 ha ?_
  refine J_aload_n (i := 0) hT dX4_init_14 rfl rfl ?_
  refine J_iconst (v := -1) hT dX4_init_15 rfl ?_
  refine C_putI hT fX4_18 (Or.inr ⟨rfl, rfl, wX4_18⟩) rfl dX4_init_16 ha ?_
  refine J_aload_n (i := 0) hT dX4_init_19 rfl rfl ?_
  refine J_iconst (v := 0) hT dX4_init_20 rfl ?_
  refine C_putI hT fX4_21 (Or.inr ⟨rfl, rfl, wX4_21⟩) rfl dX4_init_21 ha ?_
  refine J_aload_n (i := 0) hT dX4_init_24 rfl rfl ?_
  refine J_iconst (v := 0) hT dX4_init_25 rfl ?_
  refine C_putI hT fX4_24 (Or.inr ⟨rfl, rfl, wX4_24⟩) rfl dX4_init_26 ha ?_
  refine J_aload_n (i := 0) hT dX4_init_29 rfl rfl ?_
  refine J_iconst (v := 0) hT dX4_init_30 rfl ?_
  refine C_putI hT fX4_27 (Or.inr ⟨rfl, rfl, wX4_27⟩) rfl dX4_init_31 ha ?_
  refine J_aload_n (i := 0) hT dX4_init_34 rfl rfl ?_
  refine J_iconst (v := -1) hT dX4_init_35 rfl ?_
  refine C_putI hT fX4_30 (Or.inr ⟨rfl, rfl, wX4_30⟩) rfl dX4_init_36 ha ?_
  refine J_aload_n (i := 0) hT dX4_init_39 rfl rfl ?_
  refine J_iconst (v := 0) hT dX4_init_40 rfl ?_
  refine C_putI hT fX4_33 (Or.inr ⟨rfl, rfl, wX4_33⟩) rfl dX4_init_41 ha ?_
  refine J_aload_n (i := 0) hT dX4_init_44 rfl rfl ?_
  refine J_iconst (v := 0) hT dX4_init_45 rfl ?_
  refine C_putI hT fX4_36 (Or.inr ⟨rfl, rfl, wX4_36⟩) rfl dX4_init_46 ha ?_
  refine J_aload_n (i := 0) hT dX4_init_49 rfl rfl ?_
  refine J_iconst (v := 0) hT dX4_init_50 rfl ?_
  refine C_putI hT fX4_39 (Or.inr ⟨rfl, rfl, wX4_39⟩) rfl dX4_init_51 ha ?_
  refine J_aload_n (i := 0) hT dX4_init_54 rfl rfl ?_
  refine J_iconst (v := 0) hT dX4_init_55 rfl ?_
  refine C_putI hT fX4_42 (Or.inr ⟨rfl, rfl, wX4_42⟩) rfl dX4_init_56 ha ?_
  refine J_aload_n (i := 0) hT dX4_init_59 rfl rfl ?_
  refine J_iconst (v := 0) hT dX4_init_60 rfl ?_
  refine C_putI hT fX4_45 (Or.inr ⟨rfl, rfl, wX4_45⟩) rfl dX4_init_61 ha ?_
  refine J_aload_n (i := 0) hT dX4_init_64 rfl rfl ?_
  refine J_iconst (v := 0) hT dX4_init_65 rfl ?_
  refine C_putI hT fX4_48 (Or.inr ⟨rfl, rfl, wX4_48⟩) rfl dX4_init_66 ha ?_
  refine J_aload_n (i := 0) hT dX4_init_69 rfl rfl ?_
  refine J_iload_n (i := 1) hT dX4_init_70 rfl rfl ?_
  refine C_putI hT fX4_51 (Or.inr ⟨rfl, rfl, wX4_51⟩) rfl dX4_init_71 ha ?_
  exact J_vret hT dX4_init_74 rfl (⟨rfl, rfl⟩) (Nat.le_refl _) (Nat.le_refl _)

/-- made one behind the other -/
def zals (μ : zMem) (l : List (Nat × Nat)) : zMem := l.foldl (fun m x => zal m x.1 x.2) μ
theorem zals_snoc (μ : zMem) (l : List (Nat × Nat)) (k n : Nat) : zal (zals μ l) k n = zals μ (l ++ [(k, n)]) := by
  unfold zals
  rw [List.foldl_append]
  rfl
theorem zals_N (l : List (Nat × Nat)) : ∀ μ, zN (zals μ l) = zN μ + l.length := by
  induction l with
  | nil => exact fun μ => rfl
  | cons x l ih =>
    intro μ
    show zN (zals (zal μ x.1 x.2) l) = _
    rw [ih, zN_al]
    simp only [List.length_cons]
    omega
theorem zals_o (l : List (Nat × Nat)) : ∀ μ b, b < zN μ → zK (zals μ l) b = zK μ b ∧ zL (zals μ l) b = zL μ b := by
  induction l with
  | nil => exact fun μ b _ => ⟨rfl, rfl⟩
  | cons x l ih =>
    intro μ b hb
    obtain ⟨h1, h2⟩ := ih (zal μ x.1 x.2) b (by rw [zN_al]; omega)
    show zK (zals (zal μ x.1 x.2) l) b = _ ∧ zL (zals (zal μ x.1 x.2) l) b = _
    rw [h1, h2]
    exact ⟨if_neg (by omega), if_neg (by omega)⟩
theorem zals_at (l : List (Nat × Nat)) : ∀ μ i x, l[i]? = some x → zK (zals μ l) (zN μ + i) = x.1 ∧ zL (zals μ l) (zN μ + i) = x.2 := by
  induction l with
  | nil => exact fun μ i x h => by simp at h
  | cons y l ih =>
    intro μ i x h
    show zK (zals (zal μ y.1 y.2) l) (zN μ + i) = _ ∧ zL (zals (zal μ y.1 y.2) l) (zN μ + i) = _
    cases i with
    | zero =>
      have e : y = x := by simpa using h
      obtain ⟨h1, h2⟩ := zals_o l (zal μ y.1 y.2) (zN μ) (by rw [zN_al]; omega)
      rw [Nat.add_zero, h1, h2, ← e]
      exact ⟨if_pos rfl, if_pos rfl⟩
    | succ i =>
      have := ih (zal μ y.1 y.2) i x (by simpa using h)
      rw [zN_al, show zN μ + 1 + i = zN μ + (i + 1) by omega] at this
      exact this
theorem zals_gr (μ : zMem) (l : List (Nat × Nat)) : zgr μ (zals μ l) := ⟨by rw [zals_N]; omega, fun b hb => zals_o l μ b hb⟩

