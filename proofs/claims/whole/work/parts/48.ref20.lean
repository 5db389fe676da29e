
/-! ===== the text, read by the reference ===== -/
theorem figB_nI {x : Int32} (h : figB x = true) : ∃ t, 48 ≤ t ∧ t ≤ 57 ∧ x = nI t := by
  unfold figB at h
  rw [Bool.and_eq_true, decide_eq_true_eq, decide_eq_true_eq, Int32.le_iff_toInt_le, Int32.le_iff_toInt_le] at h
  have e1 : (48 : Int32).toInt = 48 := rfl
  have e2 : (57 : Int32).toInt = 57 := rfl
  refine ⟨x.toInt.toNat, by omega, by omega, ?_⟩
  apply Int32.toInt_inj.mp
  rw [show nI x.toInt.toNat = Int32.ofNat x.toInt.toNat from rfl, Int32.toInt_ofNat_of_lt (by omega)]
  omega
/-- figures from a place on, at most f; what they come to -/
def ndF (σ : Nat → Nat → Int32) (L : Nat) : Nat → Nat → Nat
  | _, 0 => 0
  | p, f + 1 => if p < L ∧ figB (σ 68 p) = true then 1 + ndF σ L (p + 1) f else 0
def nvF (σ : Nat → Nat → Int32) (p : Nat) : Nat → Nat
  | 0 => 0
  | d + 1 => 10 * nvF σ p d + ((σ 68 (p + d)).toNatClampNeg - 48)
theorem ndF_s (σ : Nat → Nat → Int32) (L p f : Nat) : ndF σ L p (f + 1) = if p < L ∧ figB (σ 68 p) = true then 1 + ndF σ L (p + 1) f else 0 := rfl
theorem ndF_le (σ : Nat → Nat → Int32) (L : Nat) (f : Nat) : ∀ p, ndF σ L p f ≤ f := by
  induction f with
  | zero => exact fun _ => Nat.le_refl 0
  | succ f ih =>
    intro p
    unfold ndF
    have := ih (p + 1)
    split <;> omega
theorem ndF_L (σ : Nat → Nat → Int32) (L : Nat) (f : Nat) : ∀ p, p ≤ L → p + ndF σ L p f ≤ L := by
  induction f with
  | zero => exact fun p h => h
  | succ f ih =>
    intro p h
    unfold ndF
    split
    · have := ih (p + 1) (by omega)
      omega
    · exact h
theorem nv_s {σ : Nat → Nat → Int32} {p i : Nat} (h : figB (σ 68 (p + i)) = true) : nI 10 * nI (nvF σ p i) + σ 68 (p + i) - 48 = nI (nvF σ p (i + 1)) := by
  obtain ⟨t, h1, h2, e⟩ := figB_nI h
  simp only [nvF]
  rw [e, nI_mul, nI_clamp (show t < 2147483648 by omega), nI_add]
  exact (nI_sub (a := 10 * nvF σ p i + t) (b := 48) (by omega)).trans (congrArg nI (by omega))

set_option maxRecDepth 100000 in
set_option maxHeartbeats 4000000 in
theorem c_X9_takesNumber {l : Launch} {Z : zZ} (hZ : zSt l Z) {μ : zMem} {σ : Nat → Nat → Int32} {π : Nat → Nat → Option Nat} {g : Nat → Nat → Int64} (hS : zRef μ π) {p L n : Nat} (hL : σ 67 1 = nI L) (hL30 : L ≤ 30) (hp : p < L) (hn : n < 30) (hm : σ 67 3 = nI n) : zCt l Z mX9_takesNumber 1 0 0 [.ref 67, .int (nI p)] (zA4 μ σ π g) (fun r μ' => r = some (.int (nI (p + (ndF σ L p 4)))) ∧ μ' = zA4 μ (zu (zu σ 69 n (nI (nvF σ p (ndF σ L p 4)))) 67 3 (nI (n + 1))) π g) := by
  refine zCt_of hZ mpX9_takesNumber (Nat.le_of_ble_eq_true rfl) (L := [some (.ref 67), some (.int (nI p)), none, none]) rfl (fun τ hY => ?_)
  have hT := hY.1
  have fin : ∀ i, ndF σ L p 4 = i → zJ τ (zFn τ (fun r μ' => r = some (.int (nI (p + (ndF σ L p 4)))) ∧ μ' = zA4 μ (zu (zu σ 69 n (nI (nvF σ p (ndF σ L p 4)))) 67 3 (nI (n + 1))) π g) 0 0) 52 [some (.ref 67), some (.int (nI p)), some (.int (nI (p + i))), some (.int (nI (nvF σ p i)))] [] (zA4 μ σ π g) 0 0 := by
    intro i hi
    rw [hi]
    refine J_aload_n (i := 0) hT dX9_takesNumber_52 rfl rfl ?_
    refine J_iload_n (i := 3) hT dX9_takesNumber_53 rfl rfl ?_
    refine R_callV0 (ci := 9) hY dX9_takesNumber_54 mfX9_makes miX9_makes msX9_makes kX9_163 ⟨by decide, rfl⟩ (rk hS) (c_X9_makes hZ hS hn hm) rfl (by decide) rfl rfl (Nat.le_of_ble_eq_true rfl) (Nat.le_refl _) (Nat.le_refl _) ?_
    refine J_iload_n (i := 2) hT dX9_takesNumber_57 rfl rfl ?_
    exact J_iret hT dX9_takesNumber_58 rfl rfl (⟨rfl, rfl⟩) (Nat.le_refl _) (Nat.le_refl _)
  have loop : ∀ f i, i + f = 4 → ndF σ L p 4 = i + ndF σ L (p + i) f → zJ τ (zFn τ (fun r μ' => r = some (.int (nI (p + (ndF σ L p 4)))) ∧ μ' = zA4 μ (zu (zu σ 69 n (nI (nvF σ p (ndF σ L p 4)))) 67 3 (nI (n + 1))) π g) 0 0) 4 [some (.ref 67), some (.int (nI p)), some (.int (nI (p + i))), some (.int (nI (nvF σ p i)))] [] (zA4 μ σ π g) 0 0 := by
    intro f
    induction f with
    | zero =>
      intro i hi he
      have e4 : i = 4 := by omega
      by_cases hq : p + i < L
      · refine J_iload_n (i := 2) hT dX9_takesNumber_4 rfl rfl ?_
        refine J_aload_n (i := 0) hT dX9_takesNumber_5 rfl rfl ?_
        refine R_getI hT fX9_147 rfl dX9_takesNumber_6 (rk hS) ?_
        refine J_topil (hL) ?_
        refine J_icmp_ge (tgt := 52) hT dX9_takesNumber_9 (by decide) (fun q => absurd q (Int32.not_le.mpr (nI_lt (a := p + i) (b := L) (by omega) (by omega)))) (fun _ => ?_)
        refine J_iload_n (i := 2) hT dX9_takesNumber_12 rfl rfl ?_
        refine J_iload_n (i := 1) hT dX9_takesNumber_13 rfl rfl ?_
        refine J_iconst (v := 4) hT dX9_takesNumber_14 rfl ?_
        refine J_iadd hT dX9_takesNumber_15 ?_
        refine J_topil ((nI_add p 4)) ?_
        refine J_icmp_ge (tgt := 52) hT dX9_takesNumber_16 (by decide) (fun _ => ?_) (fun q => absurd (nI_le (a := p + 4) (b := p + i) (by omega) (by omega)) q)
        exact fin i (by rw [he]; rfl)
      · refine J_iload_n (i := 2) hT dX9_takesNumber_4 rfl rfl ?_
        refine J_aload_n (i := 0) hT dX9_takesNumber_5 rfl rfl ?_
        refine R_getI hT fX9_147 rfl dX9_takesNumber_6 (rk hS) ?_
        refine J_topil (hL) ?_
        refine J_icmp_ge (tgt := 52) hT dX9_takesNumber_9 (by decide) (fun _ => ?_) (fun q => absurd (nI_le (a := L) (b := p + i) (by omega) (by omega)) q)
        exact fin i (by rw [he]; rfl)
    | succ f ih =>
      intro i hi he
      by_cases hq : p + i < L
      · cases hf : figB (σ 68 (p + i)) with
        | true =>
          have he2 : ndF σ L p 4 = (i + 1) + ndF σ L (p + (i + 1)) f := by
            rw [he, ndF_s, if_pos ⟨hq, hf⟩, Nat.add_assoc p i 1]; omega
          refine J_iload_n (i := 2) hT dX9_takesNumber_4 rfl rfl ?_
          refine J_aload_n (i := 0) hT dX9_takesNumber_5 rfl rfl ?_
          refine R_getI hT fX9_147 rfl dX9_takesNumber_6 (rk hS) ?_
          refine J_topil (hL) ?_
          refine J_icmp_ge (tgt := 52) hT dX9_takesNumber_9 (by decide) (fun q => absurd q (Int32.not_le.mpr (nI_lt (a := p + i) (b := L) (by omega) (by omega)))) (fun _ => ?_)
          refine J_iload_n (i := 2) hT dX9_takesNumber_12 rfl rfl ?_
          refine J_iload_n (i := 1) hT dX9_takesNumber_13 rfl rfl ?_
          refine J_iconst (v := 4) hT dX9_takesNumber_14 rfl ?_
          refine J_iadd hT dX9_takesNumber_15 ?_
          refine J_topil ((nI_add p 4)) ?_
          refine J_icmp_ge (tgt := 52) hT dX9_takesNumber_16 (by decide) (fun q => absurd q (Int32.not_le.mpr (nI_lt (a := p + i) (b := p + 4) (by omega) (by omega)))) (fun _ => ?_)
          refine J_aload_n (i := 0) hT dX9_takesNumber_19 rfl rfl ?_
          refine R_getP hT fX9_7 rfl dX9_takesNumber_20 (rk hS) (rp_text hS) ?_
          refine J_iload_n (i := 2) hT dX9_takesNumber_23 rfl rfl ?_
          refine R_iald hT dX9_takesNumber_24 (rk_text hS) (rl_text hS) (by first | exact ⟨rfl, by decide⟩ | exact zix_nI (by omega) (by decide) | assumption) ?_
          refine R_callS1 hY dX9_takesNumber_25 mfX9_isFigure mtX9_isFigure kX9_133 (c_X9_isFigure hZ) rfl (by decide) rfl rfl (Nat.le_of_ble_eq_true rfl) (Nat.le_refl _) (Nat.le_refl _) ?_
          refine J_topil (zbT hf) ?_
          refine J_if_eq (tgt := 52) hT dX9_takesNumber_28 (by decide) (fun q => absurd q (by decide)) (fun _ => ?_)
          refine J_bipush (v := 10) hT dX9_takesNumber_31 rfl ?_
          refine J_iload_n (i := 3) hT dX9_takesNumber_33 rfl rfl ?_
          refine J_imul hT dX9_takesNumber_34 ?_
          refine J_aload_n (i := 0) hT dX9_takesNumber_35 rfl rfl ?_
          refine R_getP hT fX9_7 rfl dX9_takesNumber_36 (rk hS) (rp_text hS) ?_
          refine J_iload_n (i := 2) hT dX9_takesNumber_39 rfl rfl ?_
          refine R_iald hT dX9_takesNumber_40 (rk_text hS) (rl_text hS) (by first | exact ⟨rfl, by decide⟩ | exact zix_nI (by omega) (by decide) | assumption) ?_
          refine J_iadd hT dX9_takesNumber_41 ?_
          refine J_bipush (v := 48) hT dX9_takesNumber_42 rfl ?_
          refine J_isub hT dX9_takesNumber_44 ?_
          refine J_topil (nv_s hf) ?_
          refine S_istore3 hT dX9_takesNumber_45 rfl rfl ?_
          refine S_iinc2 hT dX9_takesNumber_46 (nI_inc _) rfl ?_
          refine J_goto (tgt := 4) hT dX9_takesNumber_49 (by decide) ?_
          exact ih (i + 1) (by omega) he2
        | false =>
          have he2 : ndF σ L p 4 = i := by
            rw [he, ndF_s, if_neg (fun q => by rw [hf] at q; exact absurd q.2 (by decide))]; rfl
          refine J_iload_n (i := 2) hT dX9_takesNumber_4 rfl rfl ?_
          refine J_aload_n (i := 0) hT dX9_takesNumber_5 rfl rfl ?_
          refine R_getI hT fX9_147 rfl dX9_takesNumber_6 (rk hS) ?_
          refine J_topil (hL) ?_
          refine J_icmp_ge (tgt := 52) hT dX9_takesNumber_9 (by decide) (fun q => absurd q (Int32.not_le.mpr (nI_lt (a := p + i) (b := L) (by omega) (by omega)))) (fun _ => ?_)
          refine J_iload_n (i := 2) hT dX9_takesNumber_12 rfl rfl ?_
          refine J_iload_n (i := 1) hT dX9_takesNumber_13 rfl rfl ?_
          refine J_iconst (v := 4) hT dX9_takesNumber_14 rfl ?_
          refine J_iadd hT dX9_takesNumber_15 ?_
          refine J_topil ((nI_add p 4)) ?_
          refine J_icmp_ge (tgt := 52) hT dX9_takesNumber_16 (by decide) (fun q => absurd q (Int32.not_le.mpr (nI_lt (a := p + i) (b := p + 4) (by omega) (by omega)))) (fun _ => ?_)
          refine J_aload_n (i := 0) hT dX9_takesNumber_19 rfl rfl ?_
          refine R_getP hT fX9_7 rfl dX9_takesNumber_20 (rk hS) (rp_text hS) ?_
          refine J_iload_n (i := 2) hT dX9_takesNumber_23 rfl rfl ?_
          refine R_iald hT dX9_takesNumber_24 (rk_text hS) (rl_text hS) (by first | exact ⟨rfl, by decide⟩ | exact zix_nI (by omega) (by decide) | assumption) ?_
          refine R_callS1 hY dX9_takesNumber_25 mfX9_isFigure mtX9_isFigure kX9_133 (c_X9_isFigure hZ) rfl (by decide) rfl rfl (Nat.le_of_ble_eq_true rfl) (Nat.le_refl _) (Nat.le_refl _) ?_
          refine J_topil (zbF hf) ?_
          refine J_if_eq (tgt := 52) hT dX9_takesNumber_28 (by decide) (fun _ => ?_) (fun q => absurd (rfl) q)
          exact fin i he2
      · have he2 : ndF σ L p 4 = i := by
          rw [he, ndF_s, if_neg (fun q => hq q.1)]; rfl
        refine J_iload_n (i := 2) hT dX9_takesNumber_4 rfl rfl ?_
        refine J_aload_n (i := 0) hT dX9_takesNumber_5 rfl rfl ?_
        refine R_getI hT fX9_147 rfl dX9_takesNumber_6 (rk hS) ?_
        refine J_topil (hL) ?_
        refine J_icmp_ge (tgt := 52) hT dX9_takesNumber_9 (by decide) (fun _ => ?_) (fun q => absurd (nI_le (a := L) (b := p + i) (by omega) (by omega)) q)
        exact fin i he2
  refine J_iload_n (i := 1) hT dX9_takesNumber_0 rfl rfl ?_
  refine S_istore2 hT dX9_takesNumber_1 rfl rfl ?_
  refine J_iconst (v := 0) hT dX9_takesNumber_2 rfl ?_
  refine S_istore3 hT dX9_takesNumber_3 rfl rfl ?_
  exact loop 4 0 rfl (Nat.zero_add _).symm
