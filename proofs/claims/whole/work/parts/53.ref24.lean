
def zFr (σ : Nat → Nat → Int32) : List (Bool × Nat × Nat) → Prop
  | [] => True
  | f :: s => σ 71 s.length = zbi f.1 ∧ (s ≠ [] → σ 72 s.length = nI f.2.1 ∧ σ 73 s.length = nI f.2.2) ∧ zFr σ s
theorem zFr_mv {σ σ' : Nat → Nat → Int32} {s : List (Bool × Nat × Nat)} (h : zFr σ s) (e : ∀ b, b = 71 ∨ b = 72 ∨ b = 73 → ∀ j, j < s.length → σ' b j = σ b j) : zFr σ' s := by
  induction s with
  | nil => trivial
  | cons x s ih =>
    have hl : s.length < (x :: s).length := Nat.lt_succ_self _
    refine ⟨(e _ (Or.inl rfl) _ hl).trans h.1, fun q => ?_, ih h.2.2 (fun b hb j hj => e b hb j (by simp only [List.length_cons]; omega))⟩
    rw [e _ (Or.inr (Or.inl rfl)) _ hl, e _ (Or.inr (Or.inr rfl)) _ hl]
    exact h.2.1 q
/-- what reading the text may change -/
def zpf (σ σ' : Nat → Nat → Int32) : Prop := ∀ b j, b ≠ 69 → b ≠ 70 → b ≠ 71 → b ≠ 72 → b ≠ 73 → ¬ (b = 67 ∧ (j = 3 ∨ j = 5)) → σ' b j = σ b j
theorem zpf_refl (σ : Nat → Nat → Int32) : zpf σ σ := fun _ _ _ _ _ _ _ _ => rfl
theorem zpf_trans {a b c : Nat → Nat → Int32} (h1 : zpf a b) (h2 : zpf b c) : zpf a c := fun x j p q r s t u => (h2 x j p q r s t u).trans (h1 x j p q r s t u)
theorem zpf_c {a b : Nat → Nat → Int32} (h : zpc a b) : zpf a b := fun x j p _ _ _ _ u => h x j p u
theorem zpf_u (σ : Nat → Nat → Int32) (a i : Nat) (v : Int32) (h : a = 69 ∨ a = 70 ∨ a = 71 ∨ a = 72 ∨ a = 73 ∨ (a = 67 ∧ (i = 3 ∨ i = 5))) : zpf σ (zu σ a i v) := by
  intro b j p q r s t u
  simp only [zu]
  split
  · rename_i e
    obtain ⟨rfl, rfl⟩ := e
    rcases h with h | h | h | h | h | h
    · exact absurd h p
    · exact absurd h q
    · exact absurd h r
    · exact absurd h s
    · exact absurd h t
    · exact absurd h u
  · rfl
theorem PM_tok {σ : Nat → Nat → Int32} {ks op : List Nat} (h : PM σ ks op) (hn : ks.length < 30) (x : Nat) : PM (zu (zu σ 69 ks.length (nI x)) 67 3 (nI (ks.length + 1))) (x :: ks) op ∧ zpc σ (zu (zu σ 69 ks.length (nI x)) 67 3 (nI (ks.length + 1))) := by
  obtain ⟨h1, h2, h3, h4, h5, h6, h7⟩ := h
  refine ⟨⟨by simp [zu], by simpa [zu] using h2, ⟨by simp [zu], zOp_mv h3 (fun j hj => ?_)⟩, zOp_mv h4 (fun j hj => by simp [zu]), by simp only [List.length_cons]; omega, h6, h7⟩, ?_⟩
  · have : ¬ j = ks.length := by omega
    simp [zu, this]
  · intro b j hb hc
    have h2 : ¬ (b = 67 ∧ j = 3) := fun q => hc ⟨q.1, Or.inl q.2⟩
    simp only [zu, h2, hb, false_and, if_false]
theorem PM_open {σ : Nat → Nat → Int32} {ks op : List Nat} (h : PM σ ks op) (hn : op.length < 62) {d : Nat} (hd : d < 12) : PM (zu (zu σ 70 op.length (nI d)) 67 5 (nI (op.length + 1))) ks (d :: op) := by
  obtain ⟨h1, h2, h3, h4, h5, h6, h7⟩ := h
  refine ⟨by simpa [zu] using h1, by simp [zu], zOp_mv h3 (fun j hj => by simp [zu]), ⟨by simp [zu], zOp_mv h4 (fun j hj => ?_)⟩, h5, by simp only [List.length_cons]; omega, fun x hx => ?_⟩
  · have : ¬ j = op.length := by omega
    simp [zu, this]
  · rcases List.mem_cons.mp hx with rfl | hx
    · exact hd
    · exact h7 x hx
theorem PM_mv {σ σ' : Nat → Nat → Int32} {ks op : List Nat} (h : PM σ ks op) (e : ∀ b, b = 69 ∨ b = 70 ∨ b = 67 → ∀ j, σ' b j = σ b j) : PM σ' ks op := by
  obtain ⟨h1, h2, h3, h4, h5⟩ := h
  exact ⟨(e _ (by simp) _).trans h1, (e _ (by simp) _).trans h2, zOp_mv h3 (fun j _ => e _ (by simp) j), zOp_mv h4 (fun j _ => e _ (by simp) j), h5⟩
theorem ndF_mv {σ σ' : Nat → Nat → Int32} (h : ∀ j, σ' 68 j = σ 68 j) (L f : Nat) : ∀ p, ndF σ' L p f = ndF σ L p f := by
  induction f with
  | zero => exact fun _ => rfl
  | succ f ih => exact fun p => by rw [ndF_s, ndF_s, h, ih]
theorem nvF_mv {σ σ' : Nat → Nat → Int32} (h : ∀ j, σ' 68 j = σ 68 j) (p d : Nat) : nvF σ' p d = nvF σ p d := by
  induction d with
  | zero => rfl
  | succ d ih => simp only [nvF, ih, h]
theorem txN_mv {σ σ' : Nat → Nat → Int32} (h : ∀ j, σ' 68 j = σ 68 j) (p : Nat) : txN σ' p = txN σ p := by unfold txN; rw [h]
theorem nmBad_mv {σ σ' : Nat → Nat → Int32} (h : ∀ j, σ' 68 j = σ 68 j) (L p : Nat) : nmBad σ' L p = nmBad σ L p := by unfold nmBad; rw [h, h, txN_mv h]
theorem nmTwo_mv {σ σ' : Nat → Nat → Int32} (h : ∀ j, σ' 68 j = σ 68 j) (L p : Nat) : nmTwo σ' L p = nmTwo σ L p := by unfold nmTwo; rw [h, h, txN_mv h]
theorem nmV_mv {σ σ' : Nat → Nat → Int32} (h : ∀ j, σ' 68 j = σ 68 j) (L p : Nat) : nmV σ' L p = nmV σ L p := by unfold nmV; rw [nmTwo_mv h, txN_mv h, txN_mv h]
theorem nmP_mv {σ σ' : Nat → Nat → Int32} (h : ∀ j, σ' 68 j = σ 68 j) (L p : Nat) : nmP σ' L p = nmP σ L p := by unfold nmP; rw [nmTwo_mv h]
theorem ndF_pos {σ : Nat → Nat → Int32} {L p f : Nat} (hp : p < L) (h : figB (σ 68 p) = true) : 0 < ndF σ L p (f + 1) := by
  rw [ndF_s, if_pos ⟨hp, h⟩]; omega
theorem nmP_L {σ : Nat → Nat → Int32} {L p : Nat} (hp : p < L) (h : nmBad σ L p = false) : p < nmP σ L p ∧ nmP σ L p ≤ L := by
  have h1 : ¬ p + 1 = L := by
    simp only [nmBad, Bool.or_eq_false_iff, decide_eq_false_iff_not] at h
    exact h.1
  unfold nmP
  split
  · rename_i q
    simp only [nmTwo, Bool.and_eq_true, decide_eq_true_eq] at q
    omega
  · omega

set_option maxRecDepth 100000 in
set_option maxHeartbeats 4000000 in
theorem fo_true {l : Launch} {Z : zZ} (hZ : zSt l Z) {μ : zMem} {σ σ1 : Nat → Nat → Int32} {π : Nat → Nat → Option Nat} {g : Nat → Nat → Int64} (hS : zRef μ π) {τ : _} (hY : zCy l Z τ mX9_faultOf 2 0 0) {P : Option Value → zMem → Prop} {L p : Nat} {ks op : List Nat} {fr : List (Bool × Nat × Nat)}
    (hL : σ 67 1 = nI L) (hL30 : L ≤ 30) (hp : p < L) (hz : zpf σ σ1) (hP : PM σ1 ks op) (hF : zFr σ1 fr) (hI : IV p ks op fr)
    (K : ∀ w' p' ks' op' fr' σ', zpf σ σ' → PM σ' ks' op' → zFr σ' fr' → IV p' ks' op' fr' → p < p' → p' ≤ L → stF σ L true p ks op fr = .inr (w', p', ks', op', fr') → zJ τ (zFn τ P 0 0) 23 [some (.ref 67), some (.int (nI (fr'.length - 1))), some (.int (zbi w')), some (.int (nI p')), none, none] [] (zA4 μ σ' π g) 0 0)
    (K2 : ∀ q, stF σ L true p ks op fr = .inl q → ∀ σ', zpf σ σ' → P (some (.int (nI q))) (zA4 μ σ' π g)) : zJ τ (zFn τ P 0 0) 23 [some (.ref 67), some (.int (nI (fr.length - 1))), some (.int (zbi true)), some (.int (nI p)), none, none] [] (zA4 μ σ1 π g) 0 0 := by
  have hT := hY.1
  have hx : ∀ j, σ1 68 j = σ 68 j := fun j => hz _ _ (by decide) (by decide) (by decide) (by decide) (by decide) (fun q => absurd q.1 (by decide))
  have hL1 : σ1 67 1 = nI L := (hz _ _ (by decide) (by decide) (by decide) (by decide) (by decide) (by decide)).trans hL
  obtain ⟨ik, io⟩ := IV_ks hI
  have hfl := hI.2.2.1
  have hf1 : 1 ≤ fr.length := by have := hI.2.1; omega
  cases hf : figB (σ 68 p) with
  | true =>
    have es : stF σ L true p ks op fr = .inr (false, p + ndF σ L p 4, nvF σ p (ndF σ L p 4) :: ks, op, fr) := by unfold stF; rw [if_pos ⟨rfl, hf⟩]
    have hd : 0 < ndF σ L p 4 := ndF_pos (f := 3) hp hf
    have hl := ndF_L σ L 4 p (by omega)
    obtain ⟨t1, t2⟩ := PM_tok hP (by omega) (nvF σ p (ndF σ L p 4))
    refine J_iload_n (i := 3) hT dX9_faultOf_23 rfl rfl ?_
    refine J_aload_n (i := 0) hT dX9_faultOf_24 rfl rfl ?_
    refine R_getI hT fX9_147 rfl dX9_faultOf_25 (rk hS) ?_
    refine J_topil (hL1) ?_
    refine J_icmp_ge (tgt := 486) hT dX9_faultOf_28 (by decide) (fun q => absurd q (Int32.not_le.mpr (nI_lt (a := p) (b := L) hp (by omega)))) (fun _ => ?_)
    refine J_aload_n (i := 0) hT dX9_faultOf_31 rfl rfl ?_
    refine R_getP hT fX9_7 rfl dX9_faultOf_32 (rk hS) (rp_text hS) ?_
    refine J_iload_n (i := 3) hT dX9_faultOf_35 rfl rfl ?_
    refine R_iald hT dX9_faultOf_36 (rk_text hS) (rl_text hS) (by first | exact ⟨rfl, by decide⟩ | exact zix_nI (by omega) (by decide) | assumption) ?_
    refine J_topil (hx p) ?_
    refine S_istore4 hT dX9_faultOf_37 rfl ?_
    refine J_iload_n (i := 2) hT dX9_faultOf_39 rfl rfl ?_
    refine J_if_eq (tgt := 62) hT dX9_faultOf_40 (by decide) (fun q => absurd q (by decide)) (fun _ => ?_)
    refine J_iload (i := 4) hT dX9_faultOf_43 rfl ?_
    refine R_callS1 hY dX9_faultOf_45 mfX9_isFigure mtX9_isFigure kX9_133 (c_X9_isFigure hZ) rfl (by decide) rfl rfl (Nat.le_of_ble_eq_true rfl) (Nat.le_refl _) (Nat.le_refl _) ?_
    refine J_topil (zbT hf) ?_
    refine J_if_eq (tgt := 62) hT dX9_faultOf_48 (by decide) (fun q => absurd q (by decide)) (fun _ => ?_)
    refine J_aload_n (i := 0) hT dX9_faultOf_51 rfl rfl ?_
    refine J_iload_n (i := 3) hT dX9_faultOf_52 rfl rfl ?_
    refine R_callV1 (ci := 9) hY dX9_faultOf_53 mfX9_takesNumber miX9_takesNumber msX9_takesNumber kX9_167 ⟨by decide, rfl⟩ (rk hS) (c_X9_takesNumber hZ hS (L := L) (n := ks.length) hL1 hL30 hp (by omega) hP.1) rfl (by decide) rfl rfl (Nat.le_of_ble_eq_true rfl) (Nat.le_refl _) (Nat.le_refl _) ?_
    simp only [ndF_mv hx, nvF_mv hx]
    refine S_istore3 hT dX9_faultOf_56 rfl rfl ?_
    refine J_iconst (v := 0) hT dX9_faultOf_57 rfl ?_
    refine S_istore2 hT dX9_faultOf_58 rfl rfl ?_
    refine J_goto (tgt := 483) hT dX9_faultOf_59 (by decide) ?_
    refine J_goto (tgt := 23) hT dX9_faultOf_483 (by decide) ?_
    refine J_L (L' := [_, _, _, _, none, none]) (zsub_keep (zsub_keep (zsub_keep (zsub_keep (zsub_drop (zsub_drop (zsub_refl _))))))) ?_
    exact K false (p + ndF σ L p 4) _ _ _ _ (zpf_trans hz (zpf_c t2)) t1 (zFr_mv hF (fun b hb j _ => t2 b j (by rcases hb with rfl | rfl | rfl <;> decide) (fun q => absurd q.1 (by rcases hb with rfl | rfl | rfl <;> decide)))) (IV_tok hI _ (by omega)) (by omega) (by omega) es
  | false =>
    cases hn : namB (σ 68 p) with
    | true =>
      cases hb : nmBad σ L p with
      | true =>
        have es : stF σ L true p ks op fr = .inl (p + 1) := by unfold stF; rw [if_neg (fun q => by rw [hf] at q; exact absurd q.2 (by decide)), if_pos ⟨rfl, hn⟩, if_pos hb]
        refine J_iload_n (i := 3) hT dX9_faultOf_23 rfl rfl ?_
        refine J_aload_n (i := 0) hT dX9_faultOf_24 rfl rfl ?_
        refine R_getI hT fX9_147 rfl dX9_faultOf_25 (rk hS) ?_
        refine J_topil (hL1) ?_
        refine J_icmp_ge (tgt := 486) hT dX9_faultOf_28 (by decide) (fun q => absurd q (Int32.not_le.mpr (nI_lt (a := p) (b := L) hp (by omega)))) (fun _ => ?_)
        refine J_aload_n (i := 0) hT dX9_faultOf_31 rfl rfl ?_
        refine R_getP hT fX9_7 rfl dX9_faultOf_32 (rk hS) (rp_text hS) ?_
        refine J_iload_n (i := 3) hT dX9_faultOf_35 rfl rfl ?_
        refine R_iald hT dX9_faultOf_36 (rk_text hS) (rl_text hS) (by first | exact ⟨rfl, by decide⟩ | exact zix_nI (by omega) (by decide) | assumption) ?_
        refine J_topil (hx p) ?_
        refine S_istore4 hT dX9_faultOf_37 rfl ?_
        refine J_iload_n (i := 2) hT dX9_faultOf_39 rfl rfl ?_
        refine J_if_eq (tgt := 62) hT dX9_faultOf_40 (by decide) (fun q => absurd q (by decide)) (fun _ => ?_)
        refine J_iload (i := 4) hT dX9_faultOf_43 rfl ?_
        refine R_callS1 hY dX9_faultOf_45 mfX9_isFigure mtX9_isFigure kX9_133 (c_X9_isFigure hZ) rfl (by decide) rfl rfl (Nat.le_of_ble_eq_true rfl) (Nat.le_refl _) (Nat.le_refl _) ?_
        refine J_topil (zbF hf) ?_
        refine J_if_eq (tgt := 62) hT dX9_faultOf_48 (by decide) (fun _ => ?_) (fun q => absurd (rfl) q)
        refine J_iload_n (i := 2) hT dX9_faultOf_62 rfl rfl ?_
        refine J_if_eq (tgt := 96) hT dX9_faultOf_63 (by decide) (fun q => absurd q (by decide)) (fun _ => ?_)
        refine J_iload (i := 4) hT dX9_faultOf_66 rfl ?_
        refine R_callS1 hY dX9_faultOf_68 mfX9_isName mtX9_isName kX9_140 (c_X9_isName hZ) rfl (by decide) rfl rfl (Nat.le_of_ble_eq_true rfl) (Nat.le_refl _) (Nat.le_refl _) ?_
        refine J_topil (zbT hn) ?_
        refine J_if_eq (tgt := 96) hT dX9_faultOf_71 (by decide) (fun q => absurd q (by decide)) (fun _ => ?_)
        refine J_aload_n (i := 0) hT dX9_faultOf_74 rfl rfl ?_
        refine J_iload_n (i := 3) hT dX9_faultOf_75 rfl rfl ?_
        refine R_callV1 (ci := 9) hY dX9_faultOf_76 mfX9_takesName miX9_takesName msX9_takesName kX9_170 ⟨by decide, rfl⟩ (rk hS) (c_X9_takesName_no hZ hS (L := L) (n := ks.length) hL1 hL30 hp (by omega) hP.1 (by rw [nmBad_mv hx]; exact hb)) rfl (by decide) rfl rfl (Nat.le_of_ble_eq_true rfl) (Nat.le_refl _) (Nat.le_refl _) ?_
        refine S_istore3 hT dX9_faultOf_79 rfl rfl ?_
        refine J_iload_n (i := 3) hT dX9_faultOf_80 rfl rfl ?_
        refine J_bipush (v := 100) hT dX9_faultOf_81 rfl ?_
        refine J_icmp_lt (tgt := 91) hT dX9_faultOf_83 (by decide) (fun q => absurd q (Int32.not_lt.mpr (nI_le (a := 100) (b := 100 + (p + 1)) (by omega) (by omega)))) (fun _ => ?_)
        refine J_iload_n (i := 3) hT dX9_faultOf_86 rfl rfl ?_
        refine J_bipush (v := 100) hT dX9_faultOf_87 rfl ?_
        refine J_isub hT dX9_faultOf_89 ?_
        refine J_topil ((nI_sub (a := 100 + (p + 1)) (b := 100) (by omega)).trans (congrArg nI (show 100 + (p + 1) - 100 = p + 1 by omega))) ?_
        exact J_iret hT dX9_faultOf_90 rfl rfl (K2 _ es _ hz) (Nat.le_refl _) (Nat.le_refl _)
      | false =>
        have es : stF σ L true p ks op fr = .inr (false, nmP σ L p, (nmBase (σ 68 p) + nmV σ L p) :: ks, op, fr) := by unfold stF; rw [if_neg (fun q => by rw [hf] at q; exact absurd q.2 (by decide)), if_pos ⟨rfl, hn⟩, if_neg (fun q => by rw [hb] at q; exact absurd q (by decide))]
        obtain ⟨h1, h2⟩ := nmP_L hp hb
        obtain ⟨t1, t2⟩ := PM_tok hP (by omega) (nmBase (σ 68 p) + nmV σ L p)
        refine J_iload_n (i := 3) hT dX9_faultOf_23 rfl rfl ?_
        refine J_aload_n (i := 0) hT dX9_faultOf_24 rfl rfl ?_
        refine R_getI hT fX9_147 rfl dX9_faultOf_25 (rk hS) ?_
        refine J_topil (hL1) ?_
        refine J_icmp_ge (tgt := 486) hT dX9_faultOf_28 (by decide) (fun q => absurd q (Int32.not_le.mpr (nI_lt (a := p) (b := L) hp (by omega)))) (fun _ => ?_)
        refine J_aload_n (i := 0) hT dX9_faultOf_31 rfl rfl ?_
        refine R_getP hT fX9_7 rfl dX9_faultOf_32 (rk hS) (rp_text hS) ?_
        refine J_iload_n (i := 3) hT dX9_faultOf_35 rfl rfl ?_
        refine R_iald hT dX9_faultOf_36 (rk_text hS) (rl_text hS) (by first | exact ⟨rfl, by decide⟩ | exact zix_nI (by omega) (by decide) | assumption) ?_
        refine J_topil (hx p) ?_
        refine S_istore4 hT dX9_faultOf_37 rfl ?_
        refine J_iload_n (i := 2) hT dX9_faultOf_39 rfl rfl ?_
        refine J_if_eq (tgt := 62) hT dX9_faultOf_40 (by decide) (fun q => absurd q (by decide)) (fun _ => ?_)
        refine J_iload (i := 4) hT dX9_faultOf_43 rfl ?_
        refine R_callS1 hY dX9_faultOf_45 mfX9_isFigure mtX9_isFigure kX9_133 (c_X9_isFigure hZ) rfl (by decide) rfl rfl (Nat.le_of_ble_eq_true rfl) (Nat.le_refl _) (Nat.le_refl _) ?_
        refine J_topil (zbF hf) ?_
        refine J_if_eq (tgt := 62) hT dX9_faultOf_48 (by decide) (fun _ => ?_) (fun q => absurd (rfl) q)
        refine J_iload_n (i := 2) hT dX9_faultOf_62 rfl rfl ?_
        refine J_if_eq (tgt := 96) hT dX9_faultOf_63 (by decide) (fun q => absurd q (by decide)) (fun _ => ?_)
        refine J_iload (i := 4) hT dX9_faultOf_66 rfl ?_
        refine R_callS1 hY dX9_faultOf_68 mfX9_isName mtX9_isName kX9_140 (c_X9_isName hZ) rfl (by decide) rfl rfl (Nat.le_of_ble_eq_true rfl) (Nat.le_refl _) (Nat.le_refl _) ?_
        refine J_topil (zbT hn) ?_
        refine J_if_eq (tgt := 96) hT dX9_faultOf_71 (by decide) (fun q => absurd q (by decide)) (fun _ => ?_)
        refine J_aload_n (i := 0) hT dX9_faultOf_74 rfl rfl ?_
        refine J_iload_n (i := 3) hT dX9_faultOf_75 rfl rfl ?_
        refine R_callV1 (ci := 9) hY dX9_faultOf_76 mfX9_takesName miX9_takesName msX9_takesName kX9_170 ⟨by decide, rfl⟩ (rk hS) (c_X9_takesName_ok hZ hS (L := L) (n := ks.length) hL1 hL30 hp (by omega) hP.1 (by rw [nmBad_mv hx]; exact hb)) rfl (by decide) rfl rfl (Nat.le_of_ble_eq_true rfl) (Nat.le_refl _) (Nat.le_refl _) ?_
        simp only [nmP_mv hx, nmV_mv hx, hx]
        refine S_istore3 hT dX9_faultOf_79 rfl rfl ?_
        refine J_iload_n (i := 3) hT dX9_faultOf_80 rfl rfl ?_
        refine J_bipush (v := 100) hT dX9_faultOf_81 rfl ?_
        refine J_icmp_lt (tgt := 91) hT dX9_faultOf_83 (by decide) (fun _ => ?_) (fun q => absurd (nI_lt (a := nmP σ L p) (b := 100) (by omega) (by omega)) q)
        refine J_iconst (v := 0) hT dX9_faultOf_91 rfl ?_
        refine S_istore2 hT dX9_faultOf_92 rfl rfl ?_
        refine J_goto (tgt := 483) hT dX9_faultOf_93 (by decide) ?_
        refine J_goto (tgt := 23) hT dX9_faultOf_483 (by decide) ?_
        refine J_L (L' := [_, _, _, _, none, none]) (zsub_keep (zsub_keep (zsub_keep (zsub_keep (zsub_drop (zsub_drop (zsub_refl _))))))) ?_
        exact K false (nmP σ L p) _ _ _ _ (zpf_trans hz (zpf_c t2)) t1 (zFr_mv hF (fun b hb j _ => t2 b j (by rcases hb with rfl | rfl | rfl <;> decide) (fun q => absurd q.1 (by rcases hb with rfl | rfl | rfl <;> decide)))) (IV_tok hI _ (by omega)) (by omega) (by omega) es
    | false =>
      have e0 : ∀ x : Nat ⊕ zPS, (if true = true ∧ figB (σ 68 p) = true then x else x) = x := fun x => by split <;> rfl
      have nf : ¬ (true = true ∧ figB (σ 68 p) = true) := fun q => by rw [hf] at q; exact absurd q.2 (by decide)
      have nn : ¬ (true = true ∧ namB (σ 68 p) = true) := fun q => by rw [hn] at q; exact absurd q.2 (by decide)
      by_cases hm : σ 68 p = 45
      · have es : stF σ L true p ks op fr = .inr (true, p + 1, ks, 1 :: op, fr) := by unfold stF; rw [if_neg nf, if_neg nn, if_pos ⟨rfl, hm⟩]
        refine J_iload_n (i := 3) hT dX9_faultOf_23 rfl rfl ?_
        refine J_aload_n (i := 0) hT dX9_faultOf_24 rfl rfl ?_
        refine R_getI hT fX9_147 rfl dX9_faultOf_25 (rk hS) ?_
        refine J_topil (hL1) ?_
        refine J_icmp_ge (tgt := 486) hT dX9_faultOf_28 (by decide) (fun q => absurd q (Int32.not_le.mpr (nI_lt (a := p) (b := L) hp (by omega)))) (fun _ => ?_)
        refine J_aload_n (i := 0) hT dX9_faultOf_31 rfl rfl ?_
        refine R_getP hT fX9_7 rfl dX9_faultOf_32 (rk hS) (rp_text hS) ?_
        refine J_iload_n (i := 3) hT dX9_faultOf_35 rfl rfl ?_
        refine R_iald hT dX9_faultOf_36 (rk_text hS) (rl_text hS) (by first | exact ⟨rfl, by decide⟩ | exact zix_nI (by omega) (by decide) | assumption) ?_
        refine J_topil (hx p) ?_
        refine S_istore4 hT dX9_faultOf_37 rfl ?_
        refine J_iload_n (i := 2) hT dX9_faultOf_39 rfl rfl ?_
        refine J_if_eq (tgt := 62) hT dX9_faultOf_40 (by decide) (fun q => absurd q (by decide)) (fun _ => ?_)
        refine J_iload (i := 4) hT dX9_faultOf_43 rfl ?_
        refine R_callS1 hY dX9_faultOf_45 mfX9_isFigure mtX9_isFigure kX9_133 (c_X9_isFigure hZ) rfl (by decide) rfl rfl (Nat.le_of_ble_eq_true rfl) (Nat.le_refl _) (Nat.le_refl _) ?_
        refine J_topil (zbF hf) ?_
        refine J_if_eq (tgt := 62) hT dX9_faultOf_48 (by decide) (fun _ => ?_) (fun q => absurd (rfl) q)
        refine J_iload_n (i := 2) hT dX9_faultOf_62 rfl rfl ?_
        refine J_if_eq (tgt := 96) hT dX9_faultOf_63 (by decide) (fun q => absurd q (by decide)) (fun _ => ?_)
        refine J_iload (i := 4) hT dX9_faultOf_66 rfl ?_
        refine R_callS1 hY dX9_faultOf_68 mfX9_isName mtX9_isName kX9_140 (c_X9_isName hZ) rfl (by decide) rfl rfl (Nat.le_of_ble_eq_true rfl) (Nat.le_refl _) (Nat.le_refl _) ?_
        refine J_topil (zbF hn) ?_
        refine J_if_eq (tgt := 96) hT dX9_faultOf_71 (by decide) (fun _ => ?_) (fun q => absurd (rfl) q)
        refine J_iload_n (i := 2) hT dX9_faultOf_96 rfl rfl ?_
        refine J_if_eq (tgt := 118) hT dX9_faultOf_97 (by decide) (fun q => absurd q (by decide)) (fun _ => ?_)
        refine J_iload (i := 4) hT dX9_faultOf_100 rfl ?_
        refine J_bipush (v := 45) hT dX9_faultOf_102 rfl ?_
        refine J_icmp_ne (tgt := 118) hT dX9_faultOf_104 (by decide) (fun q => absurd (hm) q) (fun _ => ?_)
        refine J_aload_n (i := 0) hT dX9_faultOf_107 rfl rfl ?_
        refine J_iconst (v := 1) hT dX9_faultOf_108 rfl ?_
        refine R_callV0 (ci := 9) hY dX9_faultOf_109 mfX9_opensOne miX9_opensOne msX9_opensOne kX9_173 ⟨by decide, rfl⟩ (rk hS) (c_X9_opensOne hZ hS (n := op.length) (by omega) hP.2.1) rfl (by decide) rfl rfl (Nat.le_of_ble_eq_true rfl) (Nat.le_refl _) (Nat.le_refl _) ?_
        refine S_iinc3 hT dX9_faultOf_112 (nI_inc _) rfl ?_
        refine J_goto (tgt := 483) hT dX9_faultOf_115 (by decide) ?_
        refine J_goto (tgt := 23) hT dX9_faultOf_483 (by decide) ?_
        refine J_L (L' := [_, _, _, _, none, none]) (zsub_keep (zsub_keep (zsub_keep (zsub_keep (zsub_drop (zsub_drop (zsub_refl _))))))) ?_
        exact K true _ _ _ _ _ (zpf_trans hz (zpf_trans (zpf_u σ1 70 op.length 1 (by simp)) (zpf_u _ 67 5 _ (by simp)))) (PM_open (d := 1) hP (by omega) (by decide)) (zFr_mv hF (fun b hb j _ => by rcases hb with rfl | rfl | rfl <;> simp [zu])) (IV_neg hI) (by omega) (by omega) es
      · have n45 : ¬ (true = true ∧ σ 68 p = 45) := fun q => hm q.2
        by_cases h40 : σ 68 p = 40
        · have es : stF σ L true p ks op fr = .inr (true, p + 1, ks, 11 :: op, (false, txN σ p, 1) :: fr) := by
            unfold stF
            rw [if_neg nf, if_neg nn, if_neg n45, if_pos ⟨rfl, Or.inl h40⟩]
            simp only [h40, if_true]
            rw [if_neg (fun q => q.elim (fun q => by omega) (fun q => q rfl))]
          have e40 : txN σ p = 40 := by unfold txN; rw [h40]; rfl
          rw [e40] at es
          refine J_iload_n (i := 3) hT dX9_faultOf_23 rfl rfl ?_
          refine J_aload_n (i := 0) hT dX9_faultOf_24 rfl rfl ?_
          refine R_getI hT fX9_147 rfl dX9_faultOf_25 (rk hS) ?_
          refine J_topil (hL1) ?_
          refine J_icmp_ge (tgt := 486) hT dX9_faultOf_28 (by decide) (fun q => absurd q (Int32.not_le.mpr (nI_lt (a := p) (b := L) hp (by omega)))) (fun _ => ?_)
          refine J_aload_n (i := 0) hT dX9_faultOf_31 rfl rfl ?_
          refine R_getP hT fX9_7 rfl dX9_faultOf_32 (rk hS) (rp_text hS) ?_
          refine J_iload_n (i := 3) hT dX9_faultOf_35 rfl rfl ?_
          refine R_iald hT dX9_faultOf_36 (rk_text hS) (rl_text hS) (by first | exact ⟨rfl, by decide⟩ | exact zix_nI (by omega) (by decide) | assumption) ?_
          refine J_topil (hx p) ?_
          refine S_istore4 hT dX9_faultOf_37 rfl ?_
          refine J_iload_n (i := 2) hT dX9_faultOf_39 rfl rfl ?_
          refine J_if_eq (tgt := 62) hT dX9_faultOf_40 (by decide) (fun q => absurd q (by decide)) (fun _ => ?_)
          refine J_iload (i := 4) hT dX9_faultOf_43 rfl ?_
          refine R_callS1 hY dX9_faultOf_45 mfX9_isFigure mtX9_isFigure kX9_133 (c_X9_isFigure hZ) rfl (by decide) rfl rfl (Nat.le_of_ble_eq_true rfl) (Nat.le_refl _) (Nat.le_refl _) ?_
          refine J_topil (zbF hf) ?_
          refine J_if_eq (tgt := 62) hT dX9_faultOf_48 (by decide) (fun _ => ?_) (fun q => absurd (rfl) q)
          refine J_iload_n (i := 2) hT dX9_faultOf_62 rfl rfl ?_
          refine J_if_eq (tgt := 96) hT dX9_faultOf_63 (by decide) (fun q => absurd q (by decide)) (fun _ => ?_)
          refine J_iload (i := 4) hT dX9_faultOf_66 rfl ?_
          refine R_callS1 hY dX9_faultOf_68 mfX9_isName mtX9_isName kX9_140 (c_X9_isName hZ) rfl (by decide) rfl rfl (Nat.le_of_ble_eq_true rfl) (Nat.le_refl _) (Nat.le_refl _) ?_
          refine J_topil (zbF hn) ?_
          refine J_if_eq (tgt := 96) hT dX9_faultOf_71 (by decide) (fun _ => ?_) (fun q => absurd (rfl) q)
          refine J_iload_n (i := 2) hT dX9_faultOf_96 rfl rfl ?_
          refine J_if_eq (tgt := 118) hT dX9_faultOf_97 (by decide) (fun q => absurd q (by decide)) (fun _ => ?_)
          refine J_iload (i := 4) hT dX9_faultOf_100 rfl ?_
          refine J_bipush (v := 45) hT dX9_faultOf_102 rfl ?_
          refine J_icmp_ne (tgt := 118) hT dX9_faultOf_104 (by decide) (fun _ => ?_) (fun q => absurd q (hm))
          refine J_iload_n (i := 2) hT dX9_faultOf_118 rfl rfl ?_
          refine J_if_eq (tgt := 232) hT dX9_faultOf_119 (by decide) (fun q => absurd q (by decide)) (fun _ => ?_)
          refine J_iload (i := 4) hT dX9_faultOf_122 rfl ?_
          refine J_bipush (v := 40) hT dX9_faultOf_124 rfl ?_
          refine J_icmp_eq (tgt := 137) hT dX9_faultOf_126 (by decide) (fun _ => ?_) (fun q => absurd (h40) q)
          refine J_iload_n (i := 3) hT dX9_faultOf_137 rfl rfl ?_
          refine J_iload (i := 4) hT dX9_faultOf_138 rfl ?_
          refine J_bipush (v := 40) hT dX9_faultOf_140 rfl ?_
          refine J_icmp_ne (tgt := 149) hT dX9_faultOf_142 (by decide) (fun q => absurd (h40) q) (fun _ => ?_)
          refine J_iconst (v := 0) hT dX9_faultOf_145 rfl ?_
          refine J_goto (tgt := 150) hT dX9_faultOf_146 (by decide) ?_
          refine J_iadd hT dX9_faultOf_150 ?_
          refine J_topil (((nI_add p 0).trans (congrArg nI (Nat.add_zero p)))) ?_
          refine S_istore3 hT dX9_faultOf_151 rfl rfl ?_
          refine J_iload_n (i := 3) hT dX9_faultOf_152 rfl rfl ?_
          refine J_aload_n (i := 0) hT dX9_faultOf_153 rfl rfl ?_
          refine R_getI hT fX9_147 rfl dX9_faultOf_154 (rk hS) ?_
          refine J_topil (hL1) ?_
          refine J_icmp_eq (tgt := 171) hT dX9_faultOf_157 (by decide) (fun q => absurd q (fun q => absurd ((nI_eq (a := p) (b := L) (by omega) (by omega)).mp q) (by omega))) (fun _ => ?_)
          refine J_aload_n (i := 0) hT dX9_faultOf_160 rfl rfl ?_
          refine R_getP hT fX9_7 rfl dX9_faultOf_161 (rk hS) (rp_text hS) ?_
          refine J_iload_n (i := 3) hT dX9_faultOf_164 rfl rfl ?_
          refine R_iald hT dX9_faultOf_165 (rk_text hS) (rl_text hS) (by first | exact ⟨rfl, by decide⟩ | exact zix_nI (by omega) (by decide) | assumption) ?_
          refine J_topil (hx p) ?_
          refine J_bipush (v := 40) hT dX9_faultOf_166 rfl ?_
          refine J_icmp_eq (tgt := 173) hT dX9_faultOf_168 (by decide) (fun _ => ?_) (fun q => absurd (h40) q)
          refine S_iinc3 hT dX9_faultOf_173 (nI_inc _) rfl ?_
          refine S_iinc1 hT dX9_faultOf_176 ((nI_inc _).trans (congrArg nI (show fr.length - 1 + 1 = fr.length by omega))) rfl ?_
          refine J_aload_n (i := 0) hT dX9_faultOf_179 rfl rfl ?_
          refine R_getP hT fX9_19 rfl dX9_faultOf_180 (rk hS) (rp_hasCompared hS) ?_
          refine J_iload_n (i := 1) hT dX9_faultOf_183 rfl rfl ?_
          refine J_iconst (v := 0) hT dX9_faultOf_184 rfl ?_
          refine R_zast hT dX9_faultOf_185 (rk_hasCompared hS) (rl_hasCompared hS) (by first | exact ⟨rfl, by decide⟩ | exact zix_nI (by omega) (by decide) | assumption) (by decide) ?_
          refine J_aload_n (i := 0) hT dX9_faultOf_186 rfl rfl ?_
          refine R_getP hT fX9_23 rfl dX9_faultOf_187 (rk hS) (rp_opens hS) ?_
          refine J_iload_n (i := 1) hT dX9_faultOf_190 rfl rfl ?_
          refine J_iload (i := 4) hT dX9_faultOf_191 rfl ?_
          refine J_topil ((show σ 68 p = nI 40 from h40)) ?_
          refine R_iast hT dX9_faultOf_193 (rk_opens hS) (rl_opens hS) (by first | exact ⟨rfl, by decide⟩ | exact zix_nI (by omega) (by decide) | assumption) ?_
          refine J_aload_n (i := 0) hT dX9_faultOf_194 rfl rfl ?_
          refine R_getP hT fX9_26 rfl dX9_faultOf_195 (rk hS) (rp_args hS) ?_
          refine J_iload_n (i := 1) hT dX9_faultOf_198 rfl rfl ?_
          refine J_iload (i := 4) hT dX9_faultOf_199 rfl ?_
          refine J_bipush (v := 40) hT dX9_faultOf_201 rfl ?_
          refine J_icmp_ne (tgt := 210) hT dX9_faultOf_203 (by decide) (fun q => absurd (h40) q) (fun _ => ?_)
          refine J_iconst (v := 1) hT dX9_faultOf_206 rfl ?_
          refine J_goto (tgt := 222) hT dX9_faultOf_207 (by decide) ?_
          refine R_iast hT dX9_faultOf_222 (rk_args hS) (rl_args hS) (by first | exact ⟨rfl, by decide⟩ | exact zix_nI (by omega) (by decide) | assumption) ?_
          refine J_aload_n (i := 0) hT dX9_faultOf_223 rfl rfl ?_
          refine J_bipush (v := 11) hT dX9_faultOf_224 rfl ?_
          refine R_callV0 (ci := 9) hY dX9_faultOf_226 mfX9_opensOne miX9_opensOne msX9_opensOne kX9_173 ⟨by decide, rfl⟩ (rk hS) (c_X9_opensOne hZ hS (n := op.length) (by omega) (by simp [zu]; exact hP.2.1)) rfl (by decide) rfl rfl (Nat.le_of_ble_eq_true rfl) (Nat.le_refl _) (Nat.le_refl _) ?_
          refine J_goto (tgt := 483) hT dX9_faultOf_229 (by decide) ?_
          refine J_goto (tgt := 23) hT dX9_faultOf_483 (by decide) ?_
          refine J_L (L' := [_, _, _, _, none, none]) (zsub_keep (zsub_keep (zsub_keep (zsub_keep (zsub_drop (zsub_drop (zsub_refl _))))))) ?_
          refine K true _ _ _ ((false, 40, 1) :: fr) _ (zpf_trans hz (zpf_trans (zpf_trans (zpf_trans (zpf_trans (zpf_u σ1 71 fr.length 0 (by simp)) (zpf_u _ 72 fr.length (nI 40) (by simp))) (zpf_u _ 73 fr.length 1 (by simp))) (zpf_u _ 70 op.length 11 (by simp))) (zpf_u _ 67 5 _ (by simp)))) (PM_open (d := 11) (PM_mv hP (fun b hb j => by rcases hb with rfl | rfl | rfl <;> simp [zu])) (by omega) (by decide)) ?_ (IV_open hI (s := 40) (a := 1) (by omega) (by omega) (Or.inl ⟨rfl, rfl⟩)) (by omega) (by omega) es
          refine ⟨by simp [zu, zbi], fun _ => ⟨by simp [zu], by simp [zu]; rfl⟩, zFr_mv hF (fun b hb j hj => ?_)⟩
          have hne : ¬ j = fr.length := by omega
          rcases hb with rfl | rfl | rfl <;> simp [zu, hne]
        · cases hu : funB (σ 68 p) with
          | true =>
            have eo : stF σ L true p ks op fr = (if p + 1 = L ∨ σ 68 (p + 1) ≠ 40 then .inl (p + 1) else .inr (true, p + 1 + 1, ks, 11 :: op, (false, txN σ p, if σ 68 p = 105 then 3 else 2) :: fr)) := by
              unfold stF
              rw [if_neg nf, if_neg nn, if_neg n45, if_pos ⟨rfl, Or.inr hu⟩]
              simp only [h40, if_false]
            by_cases hq : p + 1 = L
            · have es := eo.trans (if_pos (Or.inl hq))
              refine J_iload_n (i := 3) hT dX9_faultOf_23 rfl rfl ?_
              refine J_aload_n (i := 0) hT dX9_faultOf_24 rfl rfl ?_
              refine R_getI hT fX9_147 rfl dX9_faultOf_25 (rk hS) ?_
              refine J_topil (hL1) ?_
              refine J_icmp_ge (tgt := 486) hT dX9_faultOf_28 (by decide) (fun q => absurd q (Int32.not_le.mpr (nI_lt (a := p) (b := L) hp (by omega)))) (fun _ => ?_)
              refine J_aload_n (i := 0) hT dX9_faultOf_31 rfl rfl ?_
              refine R_getP hT fX9_7 rfl dX9_faultOf_32 (rk hS) (rp_text hS) ?_
              refine J_iload_n (i := 3) hT dX9_faultOf_35 rfl rfl ?_
              refine R_iald hT dX9_faultOf_36 (rk_text hS) (rl_text hS) (by first | exact ⟨rfl, by decide⟩ | exact zix_nI (by omega) (by decide) | assumption) ?_
              refine J_topil (hx p) ?_
              refine S_istore4 hT dX9_faultOf_37 rfl ?_
              refine J_iload_n (i := 2) hT dX9_faultOf_39 rfl rfl ?_
              refine J_if_eq (tgt := 62) hT dX9_faultOf_40 (by decide) (fun q => absurd q (by decide)) (fun _ => ?_)
              refine J_iload (i := 4) hT dX9_faultOf_43 rfl ?_
              refine R_callS1 hY dX9_faultOf_45 mfX9_isFigure mtX9_isFigure kX9_133 (c_X9_isFigure hZ) rfl (by decide) rfl rfl (Nat.le_of_ble_eq_true rfl) (Nat.le_refl _) (Nat.le_refl _) ?_
              refine J_topil (zbF hf) ?_
              refine J_if_eq (tgt := 62) hT dX9_faultOf_48 (by decide) (fun _ => ?_) (fun q => absurd (rfl) q)
              refine J_iload_n (i := 2) hT dX9_faultOf_62 rfl rfl ?_
              refine J_if_eq (tgt := 96) hT dX9_faultOf_63 (by decide) (fun q => absurd q (by decide)) (fun _ => ?_)
              refine J_iload (i := 4) hT dX9_faultOf_66 rfl ?_
              refine R_callS1 hY dX9_faultOf_68 mfX9_isName mtX9_isName kX9_140 (c_X9_isName hZ) rfl (by decide) rfl rfl (Nat.le_of_ble_eq_true rfl) (Nat.le_refl _) (Nat.le_refl _) ?_
              refine J_topil (zbF hn) ?_
              refine J_if_eq (tgt := 96) hT dX9_faultOf_71 (by decide) (fun _ => ?_) (fun q => absurd (rfl) q)
              refine J_iload_n (i := 2) hT dX9_faultOf_96 rfl rfl ?_
              refine J_if_eq (tgt := 118) hT dX9_faultOf_97 (by decide) (fun q => absurd q (by decide)) (fun _ => ?_)
              refine J_iload (i := 4) hT dX9_faultOf_100 rfl ?_
              refine J_bipush (v := 45) hT dX9_faultOf_102 rfl ?_
              refine J_icmp_ne (tgt := 118) hT dX9_faultOf_104 (by decide) (fun _ => ?_) (fun q => absurd q (hm))
              refine J_iload_n (i := 2) hT dX9_faultOf_118 rfl rfl ?_
              refine J_if_eq (tgt := 232) hT dX9_faultOf_119 (by decide) (fun q => absurd q (by decide)) (fun _ => ?_)
              refine J_iload (i := 4) hT dX9_faultOf_122 rfl ?_
              refine J_bipush (v := 40) hT dX9_faultOf_124 rfl ?_
              refine J_icmp_eq (tgt := 137) hT dX9_faultOf_126 (by decide) (fun q => absurd q (h40)) (fun _ => ?_)
              refine J_iload (i := 4) hT dX9_faultOf_129 rfl ?_
              refine R_callS1 hY dX9_faultOf_131 mfX9_isFunction mtX9_isFunction kX9_137 (c_X9_isFunction hZ) rfl (by decide) rfl rfl (Nat.le_of_ble_eq_true rfl) (Nat.le_refl _) (Nat.le_refl _) ?_
              refine J_topil (zbT hu) ?_
              refine J_if_eq (tgt := 232) hT dX9_faultOf_134 (by decide) (fun q => absurd q (by decide)) (fun _ => ?_)
              refine J_iload_n (i := 3) hT dX9_faultOf_137 rfl rfl ?_
              refine J_iload (i := 4) hT dX9_faultOf_138 rfl ?_
              refine J_bipush (v := 40) hT dX9_faultOf_140 rfl ?_
              refine J_icmp_ne (tgt := 149) hT dX9_faultOf_142 (by decide) (fun _ => ?_) (fun q => absurd q (h40))
              refine J_iconst (v := 1) hT dX9_faultOf_149 rfl ?_
              refine J_iadd hT dX9_faultOf_150 ?_
              refine J_topil ((nI_add p 1)) ?_
              refine S_istore3 hT dX9_faultOf_151 rfl rfl ?_
              refine J_iload_n (i := 3) hT dX9_faultOf_152 rfl rfl ?_
              refine J_aload_n (i := 0) hT dX9_faultOf_153 rfl rfl ?_
              refine R_getI hT fX9_147 rfl dX9_faultOf_154 (rk hS) ?_
              refine J_topil (hL1) ?_
              refine J_icmp_eq (tgt := 171) hT dX9_faultOf_157 (by decide) (fun _ => ?_) (fun q => absurd (congrArg nI hq) q)
              refine J_iload_n (i := 3) hT dX9_faultOf_171 rfl rfl ?_
              exact J_iret hT dX9_faultOf_172 rfl rfl (K2 _ es _ hz) (Nat.le_refl _) (Nat.le_refl _)
            · by_cases hy : σ 68 (p + 1) = 40
              · have es := eo.trans (if_neg (fun q => q.elim (fun q => hq q) (fun q => q hy)))
                obtain ⟨t, ht, et⟩ : ∃ t, t < 128 ∧ σ 68 p = nI t := by
                  simp only [funB, Bool.or_eq_true, decide_eq_true_eq] at hu
                  rcases hu with (q | q) | q
                  · exact ⟨109, by omega, q⟩
                  · exact ⟨110, by omega, q⟩
                  · exact ⟨105, by omega, q⟩
                have etx : txN σ p = t := by unfold txN; rw [et]; exact nI_clamp (by omega)
                rw [etx] at es
                by_cases h105 : σ 68 p = 105
                · rw [if_pos h105] at es
                  refine J_iload_n (i := 3) hT dX9_faultOf_23 rfl rfl ?_
                  refine J_aload_n (i := 0) hT dX9_faultOf_24 rfl rfl ?_
                  refine R_getI hT fX9_147 rfl dX9_faultOf_25 (rk hS) ?_
                  refine J_topil (hL1) ?_
                  refine J_icmp_ge (tgt := 486) hT dX9_faultOf_28 (by decide) (fun q => absurd q (Int32.not_le.mpr (nI_lt (a := p) (b := L) hp (by omega)))) (fun _ => ?_)
                  refine J_aload_n (i := 0) hT dX9_faultOf_31 rfl rfl ?_
                  refine R_getP hT fX9_7 rfl dX9_faultOf_32 (rk hS) (rp_text hS) ?_
                  refine J_iload_n (i := 3) hT dX9_faultOf_35 rfl rfl ?_
                  refine R_iald hT dX9_faultOf_36 (rk_text hS) (rl_text hS) (by first | exact ⟨rfl, by decide⟩ | exact zix_nI (by omega) (by decide) | assumption) ?_
                  refine J_topil (hx p) ?_
                  refine S_istore4 hT dX9_faultOf_37 rfl ?_
                  refine J_iload_n (i := 2) hT dX9_faultOf_39 rfl rfl ?_
                  refine J_if_eq (tgt := 62) hT dX9_faultOf_40 (by decide) (fun q => absurd q (by decide)) (fun _ => ?_)
                  refine J_iload (i := 4) hT dX9_faultOf_43 rfl ?_
                  refine R_callS1 hY dX9_faultOf_45 mfX9_isFigure mtX9_isFigure kX9_133 (c_X9_isFigure hZ) rfl (by decide) rfl rfl (Nat.le_of_ble_eq_true rfl) (Nat.le_refl _) (Nat.le_refl _) ?_
                  refine J_topil (zbF hf) ?_
                  refine J_if_eq (tgt := 62) hT dX9_faultOf_48 (by decide) (fun _ => ?_) (fun q => absurd (rfl) q)
                  refine J_iload_n (i := 2) hT dX9_faultOf_62 rfl rfl ?_
                  refine J_if_eq (tgt := 96) hT dX9_faultOf_63 (by decide) (fun q => absurd q (by decide)) (fun _ => ?_)
                  refine J_iload (i := 4) hT dX9_faultOf_66 rfl ?_
                  refine R_callS1 hY dX9_faultOf_68 mfX9_isName mtX9_isName kX9_140 (c_X9_isName hZ) rfl (by decide) rfl rfl (Nat.le_of_ble_eq_true rfl) (Nat.le_refl _) (Nat.le_refl _) ?_
                  refine J_topil (zbF hn) ?_
                  refine J_if_eq (tgt := 96) hT dX9_faultOf_71 (by decide) (fun _ => ?_) (fun q => absurd (rfl) q)
                  refine J_iload_n (i := 2) hT dX9_faultOf_96 rfl rfl ?_
                  refine J_if_eq (tgt := 118) hT dX9_faultOf_97 (by decide) (fun q => absurd q (by decide)) (fun _ => ?_)
                  refine J_iload (i := 4) hT dX9_faultOf_100 rfl ?_
                  refine J_bipush (v := 45) hT dX9_faultOf_102 rfl ?_
                  refine J_icmp_ne (tgt := 118) hT dX9_faultOf_104 (by decide) (fun _ => ?_) (fun q => absurd q (hm))
                  refine J_iload_n (i := 2) hT dX9_faultOf_118 rfl rfl ?_
                  refine J_if_eq (tgt := 232) hT dX9_faultOf_119 (by decide) (fun q => absurd q (by decide)) (fun _ => ?_)
                  refine J_iload (i := 4) hT dX9_faultOf_122 rfl ?_
                  refine J_bipush (v := 40) hT dX9_faultOf_124 rfl ?_
                  refine J_icmp_eq (tgt := 137) hT dX9_faultOf_126 (by decide) (fun q => absurd q (h40)) (fun _ => ?_)
                  refine J_iload (i := 4) hT dX9_faultOf_129 rfl ?_
                  refine R_callS1 hY dX9_faultOf_131 mfX9_isFunction mtX9_isFunction kX9_137 (c_X9_isFunction hZ) rfl (by decide) rfl rfl (Nat.le_of_ble_eq_true rfl) (Nat.le_refl _) (Nat.le_refl _) ?_
                  refine J_topil (zbT hu) ?_
                  refine J_if_eq (tgt := 232) hT dX9_faultOf_134 (by decide) (fun q => absurd q (by decide)) (fun _ => ?_)
                  refine J_iload_n (i := 3) hT dX9_faultOf_137 rfl rfl ?_
                  refine J_iload (i := 4) hT dX9_faultOf_138 rfl ?_
                  refine J_bipush (v := 40) hT dX9_faultOf_140 rfl ?_
                  refine J_icmp_ne (tgt := 149) hT dX9_faultOf_142 (by decide) (fun _ => ?_) (fun q => absurd q (h40))
                  refine J_iconst (v := 1) hT dX9_faultOf_149 rfl ?_
                  refine J_iadd hT dX9_faultOf_150 ?_
                  refine J_topil ((nI_add p 1)) ?_
                  refine S_istore3 hT dX9_faultOf_151 rfl rfl ?_
                  refine J_iload_n (i := 3) hT dX9_faultOf_152 rfl rfl ?_
                  refine J_aload_n (i := 0) hT dX9_faultOf_153 rfl rfl ?_
                  refine R_getI hT fX9_147 rfl dX9_faultOf_154 (rk hS) ?_
                  refine J_topil (hL1) ?_
                  refine J_icmp_eq (tgt := 171) hT dX9_faultOf_157 (by decide) (fun q => absurd q (fun q => hq ((nI_eq (by omega) (by omega)).mp q))) (fun _ => ?_)
                  refine J_aload_n (i := 0) hT dX9_faultOf_160 rfl rfl ?_
                  refine R_getP hT fX9_7 rfl dX9_faultOf_161 (rk hS) (rp_text hS) ?_
                  refine J_iload_n (i := 3) hT dX9_faultOf_164 rfl rfl ?_
                  refine R_iald hT dX9_faultOf_165 (rk_text hS) (rl_text hS) (by first | exact ⟨rfl, by decide⟩ | exact zix_nI (by omega) (by decide) | assumption) ?_
                  refine J_topil (hx (p + 1)) ?_
                  refine J_bipush (v := 40) hT dX9_faultOf_166 rfl ?_
                  refine J_icmp_eq (tgt := 173) hT dX9_faultOf_168 (by decide) (fun _ => ?_) (fun q => absurd (hy) q)
                  refine S_iinc3 hT dX9_faultOf_173 (nI_inc _) rfl ?_
                  refine S_iinc1 hT dX9_faultOf_176 ((nI_inc _).trans (congrArg nI (show fr.length - 1 + 1 = fr.length by omega))) rfl ?_
                  refine J_aload_n (i := 0) hT dX9_faultOf_179 rfl rfl ?_
                  refine R_getP hT fX9_19 rfl dX9_faultOf_180 (rk hS) (rp_hasCompared hS) ?_
                  refine J_iload_n (i := 1) hT dX9_faultOf_183 rfl rfl ?_
                  refine J_iconst (v := 0) hT dX9_faultOf_184 rfl ?_
                  refine R_zast hT dX9_faultOf_185 (rk_hasCompared hS) (rl_hasCompared hS) (by first | exact ⟨rfl, by decide⟩ | exact zix_nI (by omega) (by decide) | assumption) (by decide) ?_
                  refine J_aload_n (i := 0) hT dX9_faultOf_186 rfl rfl ?_
                  refine R_getP hT fX9_23 rfl dX9_faultOf_187 (rk hS) (rp_opens hS) ?_
                  refine J_iload_n (i := 1) hT dX9_faultOf_190 rfl rfl ?_
                  refine J_iload (i := 4) hT dX9_faultOf_191 rfl ?_
                  refine J_topil (et) ?_
                  refine R_iast hT dX9_faultOf_193 (rk_opens hS) (rl_opens hS) (by first | exact ⟨rfl, by decide⟩ | exact zix_nI (by omega) (by decide) | assumption) ?_
                  refine J_aload_n (i := 0) hT dX9_faultOf_194 rfl rfl ?_
                  refine R_getP hT fX9_26 rfl dX9_faultOf_195 (rk hS) (rp_args hS) ?_
                  refine J_iload_n (i := 1) hT dX9_faultOf_198 rfl rfl ?_
                  refine J_iload (i := 4) hT dX9_faultOf_199 rfl ?_
                  refine J_bipush (v := 40) hT dX9_faultOf_201 rfl ?_
                  refine J_icmp_ne (tgt := 210) hT dX9_faultOf_203 (by decide) (fun _ => ?_) (fun q => absurd q (h40))
                  refine J_iload (i := 4) hT dX9_faultOf_210 rfl ?_
                  refine J_bipush (v := 105) hT dX9_faultOf_212 rfl ?_
                  refine J_icmp_ne (tgt := 221) hT dX9_faultOf_214 (by decide) (fun q => absurd (h105) q) (fun _ => ?_)
                  refine J_iconst (v := 3) hT dX9_faultOf_217 rfl ?_
                  refine J_goto (tgt := 222) hT dX9_faultOf_218 (by decide) ?_
                  refine R_iast hT dX9_faultOf_222 (rk_args hS) (rl_args hS) (by first | exact ⟨rfl, by decide⟩ | exact zix_nI (by omega) (by decide) | assumption) ?_
                  refine J_aload_n (i := 0) hT dX9_faultOf_223 rfl rfl ?_
                  refine J_bipush (v := 11) hT dX9_faultOf_224 rfl ?_
                  refine R_callV0 (ci := 9) hY dX9_faultOf_226 mfX9_opensOne miX9_opensOne msX9_opensOne kX9_173 ⟨by decide, rfl⟩ (rk hS) (c_X9_opensOne hZ hS (n := op.length) (by omega) (by simp [zu]; exact hP.2.1)) rfl (by decide) rfl rfl (Nat.le_of_ble_eq_true rfl) (Nat.le_refl _) (Nat.le_refl _) ?_
                  refine J_goto (tgt := 483) hT dX9_faultOf_229 (by decide) ?_
                  refine J_goto (tgt := 23) hT dX9_faultOf_483 (by decide) ?_
                  refine J_L (L' := [_, _, _, _, none, none]) (zsub_keep (zsub_keep (zsub_keep (zsub_keep (zsub_drop (zsub_drop (zsub_refl _))))))) ?_
                  refine K true _ _ _ ((false, t, 3) :: fr) _ (zpf_trans hz (zpf_trans (zpf_trans (zpf_trans (zpf_trans (zpf_u σ1 71 fr.length 0 (by simp)) (zpf_u _ 72 fr.length (nI t) (by simp))) (zpf_u _ 73 fr.length 3 (by simp))) (zpf_u _ 70 op.length 11 (by simp))) (zpf_u _ 67 5 _ (by simp)))) (PM_open (d := 11) (PM_mv hP (fun b hb j => by rcases hb with rfl | rfl | rfl <;> simp [zu])) (by omega) (by decide)) ?_ (IV_open hI (s := t) (a := 3) (by omega) (by omega) (Or.inr rfl)) (by omega) (by omega) es
                  refine ⟨by simp [zu, zbi], fun _ => ⟨by simp [zu], by simp [zu]; rfl⟩, zFr_mv hF (fun b hb j hj => ?_)⟩
                  have hne : ¬ j = fr.length := by omega
                  rcases hb with rfl | rfl | rfl <;> simp [zu, hne]
                · rw [if_neg h105] at es
                  refine J_iload_n (i := 3) hT dX9_faultOf_23 rfl rfl ?_
                  refine J_aload_n (i := 0) hT dX9_faultOf_24 rfl rfl ?_
                  refine R_getI hT fX9_147 rfl dX9_faultOf_25 (rk hS) ?_
                  refine J_topil (hL1) ?_
                  refine J_icmp_ge (tgt := 486) hT dX9_faultOf_28 (by decide) (fun q => absurd q (Int32.not_le.mpr (nI_lt (a := p) (b := L) hp (by omega)))) (fun _ => ?_)
                  refine J_aload_n (i := 0) hT dX9_faultOf_31 rfl rfl ?_
                  refine R_getP hT fX9_7 rfl dX9_faultOf_32 (rk hS) (rp_text hS) ?_
                  refine J_iload_n (i := 3) hT dX9_faultOf_35 rfl rfl ?_
                  refine R_iald hT dX9_faultOf_36 (rk_text hS) (rl_text hS) (by first | exact ⟨rfl, by decide⟩ | exact zix_nI (by omega) (by decide) | assumption) ?_
                  refine J_topil (hx p) ?_
                  refine S_istore4 hT dX9_faultOf_37 rfl ?_
                  refine J_iload_n (i := 2) hT dX9_faultOf_39 rfl rfl ?_
                  refine J_if_eq (tgt := 62) hT dX9_faultOf_40 (by decide) (fun q => absurd q (by decide)) (fun _ => ?_)
                  refine J_iload (i := 4) hT dX9_faultOf_43 rfl ?_
                  refine R_callS1 hY dX9_faultOf_45 mfX9_isFigure mtX9_isFigure kX9_133 (c_X9_isFigure hZ) rfl (by decide) rfl rfl (Nat.le_of_ble_eq_true rfl) (Nat.le_refl _) (Nat.le_refl _) ?_
                  refine J_topil (zbF hf) ?_
                  refine J_if_eq (tgt := 62) hT dX9_faultOf_48 (by decide) (fun _ => ?_) (fun q => absurd (rfl) q)
                  refine J_iload_n (i := 2) hT dX9_faultOf_62 rfl rfl ?_
                  refine J_if_eq (tgt := 96) hT dX9_faultOf_63 (by decide) (fun q => absurd q (by decide)) (fun _ => ?_)
                  refine J_iload (i := 4) hT dX9_faultOf_66 rfl ?_
                  refine R_callS1 hY dX9_faultOf_68 mfX9_isName mtX9_isName kX9_140 (c_X9_isName hZ) rfl (by decide) rfl rfl (Nat.le_of_ble_eq_true rfl) (Nat.le_refl _) (Nat.le_refl _) ?_
                  refine J_topil (zbF hn) ?_
                  refine J_if_eq (tgt := 96) hT dX9_faultOf_71 (by decide) (fun _ => ?_) (fun q => absurd (rfl) q)
                  refine J_iload_n (i := 2) hT dX9_faultOf_96 rfl rfl ?_
                  refine J_if_eq (tgt := 118) hT dX9_faultOf_97 (by decide) (fun q => absurd q (by decide)) (fun _ => ?_)
                  refine J_iload (i := 4) hT dX9_faultOf_100 rfl ?_
                  refine J_bipush (v := 45) hT dX9_faultOf_102 rfl ?_
                  refine J_icmp_ne (tgt := 118) hT dX9_faultOf_104 (by decide) (fun _ => ?_) (fun q => absurd q (hm))
                  refine J_iload_n (i := 2) hT dX9_faultOf_118 rfl rfl ?_
                  refine J_if_eq (tgt := 232) hT dX9_faultOf_119 (by decide) (fun q => absurd q (by decide)) (fun _ => ?_)
                  refine J_iload (i := 4) hT dX9_faultOf_122 rfl ?_
                  refine J_bipush (v := 40) hT dX9_faultOf_124 rfl ?_
                  refine J_icmp_eq (tgt := 137) hT dX9_faultOf_126 (by decide) (fun q => absurd q (h40)) (fun _ => ?_)
                  refine J_iload (i := 4) hT dX9_faultOf_129 rfl ?_
                  refine R_callS1 hY dX9_faultOf_131 mfX9_isFunction mtX9_isFunction kX9_137 (c_X9_isFunction hZ) rfl (by decide) rfl rfl (Nat.le_of_ble_eq_true rfl) (Nat.le_refl _) (Nat.le_refl _) ?_
                  refine J_topil (zbT hu) ?_
                  refine J_if_eq (tgt := 232) hT dX9_faultOf_134 (by decide) (fun q => absurd q (by decide)) (fun _ => ?_)
                  refine J_iload_n (i := 3) hT dX9_faultOf_137 rfl rfl ?_
                  refine J_iload (i := 4) hT dX9_faultOf_138 rfl ?_
                  refine J_bipush (v := 40) hT dX9_faultOf_140 rfl ?_
                  refine J_icmp_ne (tgt := 149) hT dX9_faultOf_142 (by decide) (fun _ => ?_) (fun q => absurd q (h40))
                  refine J_iconst (v := 1) hT dX9_faultOf_149 rfl ?_
                  refine J_iadd hT dX9_faultOf_150 ?_
                  refine J_topil ((nI_add p 1)) ?_
                  refine S_istore3 hT dX9_faultOf_151 rfl rfl ?_
                  refine J_iload_n (i := 3) hT dX9_faultOf_152 rfl rfl ?_
                  refine J_aload_n (i := 0) hT dX9_faultOf_153 rfl rfl ?_
                  refine R_getI hT fX9_147 rfl dX9_faultOf_154 (rk hS) ?_
                  refine J_topil (hL1) ?_
                  refine J_icmp_eq (tgt := 171) hT dX9_faultOf_157 (by decide) (fun q => absurd q (fun q => hq ((nI_eq (by omega) (by omega)).mp q))) (fun _ => ?_)
                  refine J_aload_n (i := 0) hT dX9_faultOf_160 rfl rfl ?_
                  refine R_getP hT fX9_7 rfl dX9_faultOf_161 (rk hS) (rp_text hS) ?_
                  refine J_iload_n (i := 3) hT dX9_faultOf_164 rfl rfl ?_
                  refine R_iald hT dX9_faultOf_165 (rk_text hS) (rl_text hS) (by first | exact ⟨rfl, by decide⟩ | exact zix_nI (by omega) (by decide) | assumption) ?_
                  refine J_topil (hx (p + 1)) ?_
                  refine J_bipush (v := 40) hT dX9_faultOf_166 rfl ?_
                  refine J_icmp_eq (tgt := 173) hT dX9_faultOf_168 (by decide) (fun _ => ?_) (fun q => absurd (hy) q)
                  refine S_iinc3 hT dX9_faultOf_173 (nI_inc _) rfl ?_
                  refine S_iinc1 hT dX9_faultOf_176 ((nI_inc _).trans (congrArg nI (show fr.length - 1 + 1 = fr.length by omega))) rfl ?_
                  refine J_aload_n (i := 0) hT dX9_faultOf_179 rfl rfl ?_
                  refine R_getP hT fX9_19 rfl dX9_faultOf_180 (rk hS) (rp_hasCompared hS) ?_
                  refine J_iload_n (i := 1) hT dX9_faultOf_183 rfl rfl ?_
                  refine J_iconst (v := 0) hT dX9_faultOf_184 rfl ?_
                  refine R_zast hT dX9_faultOf_185 (rk_hasCompared hS) (rl_hasCompared hS) (by first | exact ⟨rfl, by decide⟩ | exact zix_nI (by omega) (by decide) | assumption) (by decide) ?_
                  refine J_aload_n (i := 0) hT dX9_faultOf_186 rfl rfl ?_
                  refine R_getP hT fX9_23 rfl dX9_faultOf_187 (rk hS) (rp_opens hS) ?_
                  refine J_iload_n (i := 1) hT dX9_faultOf_190 rfl rfl ?_
                  refine J_iload (i := 4) hT dX9_faultOf_191 rfl ?_
                  refine J_topil (et) ?_
                  refine R_iast hT dX9_faultOf_193 (rk_opens hS) (rl_opens hS) (by first | exact ⟨rfl, by decide⟩ | exact zix_nI (by omega) (by decide) | assumption) ?_
                  refine J_aload_n (i := 0) hT dX9_faultOf_194 rfl rfl ?_
                  refine R_getP hT fX9_26 rfl dX9_faultOf_195 (rk hS) (rp_args hS) ?_
                  refine J_iload_n (i := 1) hT dX9_faultOf_198 rfl rfl ?_
                  refine J_iload (i := 4) hT dX9_faultOf_199 rfl ?_
                  refine J_bipush (v := 40) hT dX9_faultOf_201 rfl ?_
                  refine J_icmp_ne (tgt := 210) hT dX9_faultOf_203 (by decide) (fun _ => ?_) (fun q => absurd q (h40))
                  refine J_iload (i := 4) hT dX9_faultOf_210 rfl ?_
                  refine J_bipush (v := 105) hT dX9_faultOf_212 rfl ?_
                  refine J_icmp_ne (tgt := 221) hT dX9_faultOf_214 (by decide) (fun _ => ?_) (fun q => absurd q (h105))
                  refine J_iconst (v := 2) hT dX9_faultOf_221 rfl ?_
                  refine R_iast hT dX9_faultOf_222 (rk_args hS) (rl_args hS) (by first | exact ⟨rfl, by decide⟩ | exact zix_nI (by omega) (by decide) | assumption) ?_
                  refine J_aload_n (i := 0) hT dX9_faultOf_223 rfl rfl ?_
                  refine J_bipush (v := 11) hT dX9_faultOf_224 rfl ?_
                  refine R_callV0 (ci := 9) hY dX9_faultOf_226 mfX9_opensOne miX9_opensOne msX9_opensOne kX9_173 ⟨by decide, rfl⟩ (rk hS) (c_X9_opensOne hZ hS (n := op.length) (by omega) (by simp [zu]; exact hP.2.1)) rfl (by decide) rfl rfl (Nat.le_of_ble_eq_true rfl) (Nat.le_refl _) (Nat.le_refl _) ?_
                  refine J_goto (tgt := 483) hT dX9_faultOf_229 (by decide) ?_
                  refine J_goto (tgt := 23) hT dX9_faultOf_483 (by decide) ?_
                  refine J_L (L' := [_, _, _, _, none, none]) (zsub_keep (zsub_keep (zsub_keep (zsub_keep (zsub_drop (zsub_drop (zsub_refl _))))))) ?_
                  refine K true _ _ _ ((false, t, 2) :: fr) _ (zpf_trans hz (zpf_trans (zpf_trans (zpf_trans (zpf_trans (zpf_u σ1 71 fr.length 0 (by simp)) (zpf_u _ 72 fr.length (nI t) (by simp))) (zpf_u _ 73 fr.length 2 (by simp))) (zpf_u _ 70 op.length 11 (by simp))) (zpf_u _ 67 5 _ (by simp)))) (PM_open (d := 11) (PM_mv hP (fun b hb j => by rcases hb with rfl | rfl | rfl <;> simp [zu])) (by omega) (by decide)) ?_ (IV_open hI (s := t) (a := 2) (by omega) (by omega) (Or.inr rfl)) (by omega) (by omega) es
                  refine ⟨by simp [zu, zbi], fun _ => ⟨by simp [zu], by simp [zu]; rfl⟩, zFr_mv hF (fun b hb j hj => ?_)⟩
                  have hne : ¬ j = fr.length := by omega
                  rcases hb with rfl | rfl | rfl <;> simp [zu, hne]
              · have es := eo.trans (if_pos (Or.inr hy))
                refine J_iload_n (i := 3) hT dX9_faultOf_23 rfl rfl ?_
                refine J_aload_n (i := 0) hT dX9_faultOf_24 rfl rfl ?_
                refine R_getI hT fX9_147 rfl dX9_faultOf_25 (rk hS) ?_
                refine J_topil (hL1) ?_
                refine J_icmp_ge (tgt := 486) hT dX9_faultOf_28 (by decide) (fun q => absurd q (Int32.not_le.mpr (nI_lt (a := p) (b := L) hp (by omega)))) (fun _ => ?_)
                refine J_aload_n (i := 0) hT dX9_faultOf_31 rfl rfl ?_
                refine R_getP hT fX9_7 rfl dX9_faultOf_32 (rk hS) (rp_text hS) ?_
                refine J_iload_n (i := 3) hT dX9_faultOf_35 rfl rfl ?_
                refine R_iald hT dX9_faultOf_36 (rk_text hS) (rl_text hS) (by first | exact ⟨rfl, by decide⟩ | exact zix_nI (by omega) (by decide) | assumption) ?_
                refine J_topil (hx p) ?_
                refine S_istore4 hT dX9_faultOf_37 rfl ?_
                refine J_iload_n (i := 2) hT dX9_faultOf_39 rfl rfl ?_
                refine J_if_eq (tgt := 62) hT dX9_faultOf_40 (by decide) (fun q => absurd q (by decide)) (fun _ => ?_)
                refine J_iload (i := 4) hT dX9_faultOf_43 rfl ?_
                refine R_callS1 hY dX9_faultOf_45 mfX9_isFigure mtX9_isFigure kX9_133 (c_X9_isFigure hZ) rfl (by decide) rfl rfl (Nat.le_of_ble_eq_true rfl) (Nat.le_refl _) (Nat.le_refl _) ?_
                refine J_topil (zbF hf) ?_
                refine J_if_eq (tgt := 62) hT dX9_faultOf_48 (by decide) (fun _ => ?_) (fun q => absurd (rfl) q)
                refine J_iload_n (i := 2) hT dX9_faultOf_62 rfl rfl ?_
                refine J_if_eq (tgt := 96) hT dX9_faultOf_63 (by decide) (fun q => absurd q (by decide)) (fun _ => ?_)
                refine J_iload (i := 4) hT dX9_faultOf_66 rfl ?_
                refine R_callS1 hY dX9_faultOf_68 mfX9_isName mtX9_isName kX9_140 (c_X9_isName hZ) rfl (by decide) rfl rfl (Nat.le_of_ble_eq_true rfl) (Nat.le_refl _) (Nat.le_refl _) ?_
                refine J_topil (zbF hn) ?_
                refine J_if_eq (tgt := 96) hT dX9_faultOf_71 (by decide) (fun _ => ?_) (fun q => absurd (rfl) q)
                refine J_iload_n (i := 2) hT dX9_faultOf_96 rfl rfl ?_
                refine J_if_eq (tgt := 118) hT dX9_faultOf_97 (by decide) (fun q => absurd q (by decide)) (fun _ => ?_)
                refine J_iload (i := 4) hT dX9_faultOf_100 rfl ?_
                refine J_bipush (v := 45) hT dX9_faultOf_102 rfl ?_
                refine J_icmp_ne (tgt := 118) hT dX9_faultOf_104 (by decide) (fun _ => ?_) (fun q => absurd q (hm))
                refine J_iload_n (i := 2) hT dX9_faultOf_118 rfl rfl ?_
                refine J_if_eq (tgt := 232) hT dX9_faultOf_119 (by decide) (fun q => absurd q (by decide)) (fun _ => ?_)
                refine J_iload (i := 4) hT dX9_faultOf_122 rfl ?_
                refine J_bipush (v := 40) hT dX9_faultOf_124 rfl ?_
                refine J_icmp_eq (tgt := 137) hT dX9_faultOf_126 (by decide) (fun q => absurd q (h40)) (fun _ => ?_)
                refine J_iload (i := 4) hT dX9_faultOf_129 rfl ?_
                refine R_callS1 hY dX9_faultOf_131 mfX9_isFunction mtX9_isFunction kX9_137 (c_X9_isFunction hZ) rfl (by decide) rfl rfl (Nat.le_of_ble_eq_true rfl) (Nat.le_refl _) (Nat.le_refl _) ?_
                refine J_topil (zbT hu) ?_
                refine J_if_eq (tgt := 232) hT dX9_faultOf_134 (by decide) (fun q => absurd q (by decide)) (fun _ => ?_)
                refine J_iload_n (i := 3) hT dX9_faultOf_137 rfl rfl ?_
                refine J_iload (i := 4) hT dX9_faultOf_138 rfl ?_
                refine J_bipush (v := 40) hT dX9_faultOf_140 rfl ?_
                refine J_icmp_ne (tgt := 149) hT dX9_faultOf_142 (by decide) (fun _ => ?_) (fun q => absurd q (h40))
                refine J_iconst (v := 1) hT dX9_faultOf_149 rfl ?_
                refine J_iadd hT dX9_faultOf_150 ?_
                refine J_topil ((nI_add p 1)) ?_
                refine S_istore3 hT dX9_faultOf_151 rfl rfl ?_
                refine J_iload_n (i := 3) hT dX9_faultOf_152 rfl rfl ?_
                refine J_aload_n (i := 0) hT dX9_faultOf_153 rfl rfl ?_
                refine R_getI hT fX9_147 rfl dX9_faultOf_154 (rk hS) ?_
                refine J_topil (hL1) ?_
                refine J_icmp_eq (tgt := 171) hT dX9_faultOf_157 (by decide) (fun q => absurd q (fun q => hq ((nI_eq (by omega) (by omega)).mp q))) (fun _ => ?_)
                refine J_aload_n (i := 0) hT dX9_faultOf_160 rfl rfl ?_
                refine R_getP hT fX9_7 rfl dX9_faultOf_161 (rk hS) (rp_text hS) ?_
                refine J_iload_n (i := 3) hT dX9_faultOf_164 rfl rfl ?_
                refine R_iald hT dX9_faultOf_165 (rk_text hS) (rl_text hS) (by first | exact ⟨rfl, by decide⟩ | exact zix_nI (by omega) (by decide) | assumption) ?_
                refine J_topil (hx (p + 1)) ?_
                refine J_bipush (v := 40) hT dX9_faultOf_166 rfl ?_
                refine J_icmp_eq (tgt := 173) hT dX9_faultOf_168 (by decide) (fun q => absurd q (hy)) (fun _ => ?_)
                refine J_iload_n (i := 3) hT dX9_faultOf_171 rfl rfl ?_
                exact J_iret hT dX9_faultOf_172 rfl rfl (K2 _ es _ hz) (Nat.le_refl _) (Nat.le_refl _)
          | false =>
            have es : stF σ L true p ks op fr = .inl p := by
              unfold stF
              rw [if_neg nf, if_neg nn, if_neg n45, if_neg (fun q => q.2.elim (fun q => h40 q) (fun q => by rw [hu] at q; exact absurd q (by decide))), if_pos rfl]
            refine J_iload_n (i := 3) hT dX9_faultOf_23 rfl rfl ?_
            refine J_aload_n (i := 0) hT dX9_faultOf_24 rfl rfl ?_
            refine R_getI hT fX9_147 rfl dX9_faultOf_25 (rk hS) ?_
            refine J_topil (hL1) ?_
            refine J_icmp_ge (tgt := 486) hT dX9_faultOf_28 (by decide) (fun q => absurd q (Int32.not_le.mpr (nI_lt (a := p) (b := L) hp (by omega)))) (fun _ => ?_)
            refine J_aload_n (i := 0) hT dX9_faultOf_31 rfl rfl ?_
            refine R_getP hT fX9_7 rfl dX9_faultOf_32 (rk hS) (rp_text hS) ?_
            refine J_iload_n (i := 3) hT dX9_faultOf_35 rfl rfl ?_
            refine R_iald hT dX9_faultOf_36 (rk_text hS) (rl_text hS) (by first | exact ⟨rfl, by decide⟩ | exact zix_nI (by omega) (by decide) | assumption) ?_
            refine J_topil (hx p) ?_
            refine S_istore4 hT dX9_faultOf_37 rfl ?_
            refine J_iload_n (i := 2) hT dX9_faultOf_39 rfl rfl ?_
            refine J_if_eq (tgt := 62) hT dX9_faultOf_40 (by decide) (fun q => absurd q (by decide)) (fun _ => ?_)
            refine J_iload (i := 4) hT dX9_faultOf_43 rfl ?_
            refine R_callS1 hY dX9_faultOf_45 mfX9_isFigure mtX9_isFigure kX9_133 (c_X9_isFigure hZ) rfl (by decide) rfl rfl (Nat.le_of_ble_eq_true rfl) (Nat.le_refl _) (Nat.le_refl _) ?_
            refine J_topil (zbF hf) ?_
            refine J_if_eq (tgt := 62) hT dX9_faultOf_48 (by decide) (fun _ => ?_) (fun q => absurd (rfl) q)
            refine J_iload_n (i := 2) hT dX9_faultOf_62 rfl rfl ?_
            refine J_if_eq (tgt := 96) hT dX9_faultOf_63 (by decide) (fun q => absurd q (by decide)) (fun _ => ?_)
            refine J_iload (i := 4) hT dX9_faultOf_66 rfl ?_
            refine R_callS1 hY dX9_faultOf_68 mfX9_isName mtX9_isName kX9_140 (c_X9_isName hZ) rfl (by decide) rfl rfl (Nat.le_of_ble_eq_true rfl) (Nat.le_refl _) (Nat.le_refl _) ?_
            refine J_topil (zbF hn) ?_
            refine J_if_eq (tgt := 96) hT dX9_faultOf_71 (by decide) (fun _ => ?_) (fun q => absurd (rfl) q)
            refine J_iload_n (i := 2) hT dX9_faultOf_96 rfl rfl ?_
            refine J_if_eq (tgt := 118) hT dX9_faultOf_97 (by decide) (fun q => absurd q (by decide)) (fun _ => ?_)
            refine J_iload (i := 4) hT dX9_faultOf_100 rfl ?_
            refine J_bipush (v := 45) hT dX9_faultOf_102 rfl ?_
            refine J_icmp_ne (tgt := 118) hT dX9_faultOf_104 (by decide) (fun _ => ?_) (fun q => absurd q (hm))
            refine J_iload_n (i := 2) hT dX9_faultOf_118 rfl rfl ?_
            refine J_if_eq (tgt := 232) hT dX9_faultOf_119 (by decide) (fun q => absurd q (by decide)) (fun _ => ?_)
            refine J_iload (i := 4) hT dX9_faultOf_122 rfl ?_
            refine J_bipush (v := 40) hT dX9_faultOf_124 rfl ?_
            refine J_icmp_eq (tgt := 137) hT dX9_faultOf_126 (by decide) (fun q => absurd q (h40)) (fun _ => ?_)
            refine J_iload (i := 4) hT dX9_faultOf_129 rfl ?_
            refine R_callS1 hY dX9_faultOf_131 mfX9_isFunction mtX9_isFunction kX9_137 (c_X9_isFunction hZ) rfl (by decide) rfl rfl (Nat.le_of_ble_eq_true rfl) (Nat.le_refl _) (Nat.le_refl _) ?_
            refine J_topil (zbF hu) ?_
            refine J_if_eq (tgt := 232) hT dX9_faultOf_134 (by decide) (fun _ => ?_) (fun q => absurd (rfl) q)
            refine J_iload_n (i := 2) hT dX9_faultOf_232 rfl rfl ?_
            refine J_if_eq (tgt := 238) hT dX9_faultOf_233 (by decide) (fun q => absurd q (by decide)) (fun _ => ?_)
            refine J_iload_n (i := 3) hT dX9_faultOf_236 rfl rfl ?_
            exact J_iret hT dX9_faultOf_237 rfl rfl (K2 _ es _ hz) (Nat.le_refl _) (Nat.le_refl _)
