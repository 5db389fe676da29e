/-- the class's number of a comparison -/
def cmpO (a : Int32) : Int32 := if a = 60 then 8 else if a = 62 then 9 else if a = 61 then 10 else -1
theorem zbq_t {b : Bool} (h : ¬ zbi b = 0) : b = true := by cases b <;> first | rfl | exact absurd rfl h
theorem zbq_f {b : Bool} (h : zbi b = 0) : ¬ b = true := by cases b <;> first | decide | exact absurd h (by decide)
theorem zu_nj (σ : zS2) (a i : Nat) (v : Int32) (b : Nat) {j : Nat} (h : j ≠ i) : zu σ a i v b j = σ b j := by simp [zu, h]
/-! ===== the class's text and parser ===== -/
def chV (v : Int32) : Prop := narrow FieldType.char (.int v) = .int v
/-- text and parser in the memory -/
def zPh (μ : zMem) (π : zP2) : Prop := (zK μ 1 = 7 + 8 ∧ π 1 0 = some 2 ∧ zK μ 2 = 2 ∧ zL μ 2 = 30) ∧ zK μ 3 = 2 + 8 ∧ π 3 0 = some 1 ∧ π 3 1 = some 4 ∧ zK μ 4 = 0 ∧ zL μ 4 = 30
theorem zPh.k1 {μ : zMem} {π : zP2} (h : zPh μ π) : zK μ 1 = 7 + 8 := h.1.1
theorem zPh.q1 {μ : zMem} {π : zP2} (h : zPh μ π) : π 1 0 = some 2 := h.1.2.1
theorem zPh.k2 {μ : zMem} {π : zP2} (h : zPh μ π) : zK μ 2 = 2 := h.1.2.2.1
theorem zPh.l2 {μ : zMem} {π : zP2} (h : zPh μ π) : zL μ 2 = 30 := h.1.2.2.2
theorem zPh.k3 {μ : zMem} {π : zP2} (h : zPh μ π) : zK μ 3 = 2 + 8 := h.2.1
theorem zPh.q30 {μ : zMem} {π : zP2} (h : zPh μ π) : π 3 0 = some 1 := h.2.2.1
theorem zPh.q31 {μ : zMem} {π : zP2} (h : zPh μ π) : π 3 1 = some 4 := h.2.2.2.1
theorem zPh.k4 {μ : zMem} {π : zP2} (h : zPh μ π) : zK μ 4 = 0 := h.2.2.2.2.1
theorem zPh.l4 {μ : zMem} {π : zP2} (h : zPh μ π) : zL μ 4 = 30 := h.2.2.2.2.2
def zTx (S : zS2) (L : Nat) (σ : zS2) : Prop := σ 1 1 = nI L ∧ L ≤ 30 ∧ (∀ i, i < 30 → σ 2 i = S 68 i) ∧ ∀ i, i < 30 → chV (S 68 i)
/-- the letter at a place -/
def ltr (S : zS2) (L p : Nat) : Int32 := if p < L then S 68 p else 0
theorem ltr_in {S : zS2} {L p : Nat} (h : p < L) : ltr S L p = S 68 p := if_pos h
theorem ltr_out {S : zS2} {L p : Nat} (h : ¬ p < L) : ltr S L p = 0 := if_neg h
/-- only parser and code change -/
def zPf (σ σ' : zS2) : Prop := ∀ b j, b ≠ 3 → b ≠ 4 → σ' b j = σ b j
theorem zPf.rf (σ : zS2) : zPf σ σ := fun _ _ _ _ => rfl
theorem zPf.tr {a b c : zS2} (h1 : zPf a b) (h2 : zPf b c) : zPf a c := fun x j p q => (h2 x j p q).trans (h1 x j p q)
theorem zPf.u3 (σ : zS2) (j : Nat) (v : Int32) : zPf σ (zu σ 3 j v) := fun b i h _ => zu_ne _ _ _ _ h i
theorem zPf.u4 (σ : zS2) (j : Nat) (v : Int32) : zPf σ (zu σ 4 j v) := fun b i _ h => zu_ne _ _ _ _ h i
theorem zTx.mv {S : zS2} {L : Nat} {σ σ' : zS2} (h : zTx S L σ) (hf : zPf σ σ') : zTx S L σ' :=
  ⟨(hf _ _ (by decide) (by decide)).trans h.1, h.2.1, fun i hi => (hf _ _ (by decide) (by decide)).trans (h.2.2.1 i hi), h.2.2.2⟩
/-- the code that is written holds the tokens, the last one first -/
def zCo (σ : zS2) : List Nat → Prop
  | [] => True
  | x :: s => σ 4 s.length = enc x ∧ zCo σ s
theorem zCo.mv {σ σ' : zS2} {s : List Nat} (h : zCo σ s) (e : ∀ j, j < s.length → σ' 4 j = σ 4 j) : zCo σ' s := by
  induction s with
  | nil => trivial
  | cons x s ih => exact ⟨(e s.length (Nat.lt_succ_self _)).trans h.1, ih h.2 (fun j hj => e j (by simp only [List.length_cons]; omega))⟩
/-- what the tokens read -/
def rdB (x : Nat) : Int32 := if x < 20000 then 0 else if x < 21000 then (1 : Int32) <<< (nI (x - 20000) &&& 31) else if x < 22000 then (1 : Int32) <<< (nI (12 + (x - 21000)) &&& 31) else if x < 30000 then (1 : Int32) <<< (nI (17 + (x - 22000)) &&& 31) else 0
def pkm : List Nat → Int32
  | [] => 0
  | x :: s => pkm s ||| rdB x
/-- the parser at a place, with tokens made, b letters of room -/
def zPp (L p : Nat) (ks : List Nat) (b : Nat) (σ : zS2) : Prop := σ 3 2 = nI ks.length ∧ σ 3 3 = pkm ks ∧ σ 3 4 = nI p ∧ σ 3 5 = 0 ∧ zCo σ ks ∧ ks.length + b ≤ p ∧ p ≤ L
def zPR (L b : Nat) (R : Nat ⊕ (Nat × List Nat)) (σ : zS2) : Prop := match R with
  | .inl q => q ≤ L ∧ σ 3 4 = nI q ∧ σ 3 5 = 1
  | .inr s => zPp L s.1 s.2 b σ
theorem zPp.le {L p : Nat} {ks : List Nat} {b b' : Nat} {σ : zS2} (h : zPp L p ks b σ) (hb : b' ≤ b) : zPp L p ks b' σ := ⟨h.1, h.2.1, h.2.2.1, h.2.2.2.1, h.2.2.2.2.1, by have := h.2.2.2.2.2.1; omega, h.2.2.2.2.2.2⟩
theorem zPp.go {L p : Nat} {ks : List Nat} {b : Nat} {σ : zS2} (h : zPp L p ks b σ) (hp : p < L) : zPp L (p + 1) ks (b + 1) (zu σ 3 4 (nI (p + 1))) := by
  obtain ⟨h1, h2, h3, h4, h5, h6, h7⟩ := h
  exact ⟨(zu_nj _ _ _ _ _ (by decide)).trans h1, (zu_nj _ _ _ _ _ (by decide)).trans h2, zu_eq _ _ _ _, (zu_nj _ _ _ _ _ (by decide)).trans h4, h5.mv (fun j _ => zu_ne _ _ _ _ (by decide) j), by omega, by omega⟩
theorem zPp.wr {L p : Nat} {ks : List Nat} {b x : Nat} {σ : zS2} (h : zPp L p ks (b + 1) σ) (hx : rdB x = 0) : zPp L p (x :: ks) b (zu (zu σ 4 ks.length (enc x)) 3 2 (nI (ks.length + 1))) := by
  obtain ⟨h1, h2, h3, h4, h5, h6, h7⟩ := h
  have e : ∀ j, j ≠ 2 → zu (zu σ 4 ks.length (enc x)) 3 2 (nI (ks.length + 1)) 3 j = σ 3 j := fun j hj => (zu_nj _ _ _ _ _ hj).trans (zu_ne _ _ _ _ (by decide) j)
  refine ⟨zu_eq _ _ _ _, ?_, (e 4 (by decide)).trans h3, (e 5 (by decide)).trans h4, ⟨(zu_ne _ _ _ _ (by decide) _).trans (zu_eq _ _ _ _), h5.mv (fun j hj => (zu_ne _ _ _ _ (by decide) j).trans (zu_nj _ _ _ _ _ (by omega)))⟩, by simp only [List.length_cons]; omega, h7⟩
  rw [e 3 (by decide), h2, pkm, hx]
  exact (Int32.or_zero).symm
theorem zPp.q {L p : Nat} {ks : List Nat} {b : Nat} {σ : zS2} (h : zPp L p ks b σ) : zPR L b (.inr (p, ks)) σ := h
set_option maxRecDepth 100000 in
set_option maxHeartbeats 4000000 in
theorem c_X7_letterAt {l : Launch} {Z : zZ} (hZ : zSt l Z) {μ : zMem} {σ : zS2} {π : zP2} {g : zG2} {S : zS2} {L : Nat} (hH : zPh μ π) (hX : zTx S L σ) {p : Nat} (hp : p ≤ 30) : zCt l Z mX7_letterAt 0 0 0 [.ref 1, .int (nI p)] (zA4 μ σ π g) (fun r μ' => r = some (.int (ltr S L p)) ∧ μ' = zA4 μ σ π g) := by
  refine zCt_of hZ mpX7_letterAt (Nat.le_of_ble_eq_true rfl) (L := [some (.ref 1), some (.int (nI p)), none]) rfl (fun τ hY => ?_)
  have hT := hY.1
  have h30 := hX.2.1
  by_cases hl : p < L
  · rw [ltr_in hl]
    refine J_iload_n (i := 1) hT dX7_letterAt_0 rfl rfl ?_
    refine J_if_lt (tgt := 25) hT dX7_letterAt_1 (by decide) (fun q => absurd q (Int32.not_lt.mpr (nI_le (a := 0) (b := p) (by omega) (by omega)))) (fun _ => ?_)
    refine J_iload_n (i := 1) hT dX7_letterAt_4 rfl rfl ?_
    refine J_aload_n (i := 0) hT dX7_letterAt_5 rfl rfl ?_
    refine R_getI hT fX7_15 rfl dX7_letterAt_6 hH.k1 ?_
    refine J_topil (hX.1) ?_
    refine J_icmp_ge (tgt := 25) hT dX7_letterAt_9 (by decide) (fun q => absurd q (Int32.not_le.mpr (nI_lt (a := p) (b := L) hl (by omega)))) (fun _ => ?_)
    refine J_iload_n (i := 1) hT dX7_letterAt_12 rfl rfl ?_
    refine J_aload_n (i := 0) hT dX7_letterAt_13 rfl rfl ?_
    refine R_getP hT fX7_9 rfl dX7_letterAt_14 hH.k1 hH.q1 ?_
    refine R_alen hT dX7_letterAt_17 (by rw [hH.k2]; decide) hH.l2 ?_
    refine J_icmp_ge (tgt := 25) hT dX7_letterAt_18 (by decide) (fun q => absurd q (Int32.not_le.mpr (nI_lt (a := p) (b := 30) (by omega) (by decide)))) (fun _ => ?_)
    refine J_iconst (v := 1) hT dX7_letterAt_21 rfl ?_
    refine J_goto (tgt := 26) hT dX7_letterAt_22 (by decide) ?_
    refine S_istore2 hT dX7_letterAt_26 rfl rfl ?_
    refine J_iload_n (i := 2) hT dX7_letterAt_27 rfl rfl ?_
    refine J_if_eq (tgt := 40) hT dX7_letterAt_28 (by decide) (fun q => absurd q ((by decide))) (fun _ => ?_)
    refine J_aload_n (i := 0) hT dX7_letterAt_31 rfl rfl ?_
    refine R_getP hT fX7_9 rfl dX7_letterAt_32 hH.k1 hH.q1 ?_
    refine J_iload_n (i := 1) hT dX7_letterAt_35 rfl rfl ?_
    refine R_cald hT dX7_letterAt_36 hH.k2 hH.l2 (by first | exact ⟨rfl, by decide⟩ | exact zix_nI (by omega) (by decide) | assumption) ?_
    refine J_topil ((hX.2.2.1 p (by omega))) ?_
    refine J_goto (tgt := 41) hT dX7_letterAt_37 (by decide) ?_
    exact J_iret hT dX7_letterAt_41 rfl (hX.2.2.2 p (by omega)) (⟨rfl, rfl⟩) (Nat.le_refl _) (Nat.le_refl _)
  · rw [ltr_out hl]
    refine J_iload_n (i := 1) hT dX7_letterAt_0 rfl rfl ?_
    refine J_if_lt (tgt := 25) hT dX7_letterAt_1 (by decide) (fun q => absurd q (Int32.not_lt.mpr (nI_le (a := 0) (b := p) (by omega) (by omega)))) (fun _ => ?_)
    refine J_iload_n (i := 1) hT dX7_letterAt_4 rfl rfl ?_
    refine J_aload_n (i := 0) hT dX7_letterAt_5 rfl rfl ?_
    refine R_getI hT fX7_15 rfl dX7_letterAt_6 hH.k1 ?_
    refine J_topil (hX.1) ?_
    refine J_icmp_ge (tgt := 25) hT dX7_letterAt_9 (by decide) (fun _ => ?_) (fun q => absurd (nI_le (a := L) (b := p) (by omega) (by omega)) q)
    refine J_iconst (v := 0) hT dX7_letterAt_25 rfl ?_
    refine S_istore2 hT dX7_letterAt_26 rfl rfl ?_
    refine J_iload_n (i := 2) hT dX7_letterAt_27 rfl rfl ?_
    refine J_if_eq (tgt := 40) hT dX7_letterAt_28 (by decide) (fun _ => ?_) (fun q => absurd (rfl) q)
    refine J_iconst (v := 0) hT dX7_letterAt_40 rfl ?_
    exact J_iret hT dX7_letterAt_41 rfl rfl (⟨rfl, rfl⟩) (Nat.le_refl _) (Nat.le_refl _)

set_option maxRecDepth 100000 in
set_option maxHeartbeats 4000000 in
theorem c_X2_write {l : Launch} {Z : zZ} (hZ : zSt l Z) {μ : zMem} {σ : zS2} {π : zP2} {g : zG2} {S : zS2} {L : Nat} (hH : zPh μ π) (hX : zTx S L σ) {ks : List Nat} {w v : Int32} (h2 : σ 3 2 = nI ks.length) (h5 : σ 3 5 = 0) (hk : ks.length < 30) : zCt l Z mX2_write 0 0 0 [.ref 3, .int w, .int v] (zA4 μ σ π g) (fun r μ' => r = none ∧ μ' = zA4 μ (zu (zu σ 4 ks.length (v <<< ((4 : Int32) &&& 31) ||| w)) 3 2 (nI (ks.length + 1))) π g) := by
  refine zCt_of hZ mpX2_write (Nat.le_of_ble_eq_true rfl) (L := [some (.ref 3), some (.int w), some (.int v)]) rfl (fun τ hY => ?_)
  have hT := hY.1
  refine J_aload_n (i := 0) hT dX2_write_0 rfl rfl ?_
  refine R_getI hT fX2_25 rfl dX2_write_1 hH.k3 ?_
  refine J_if_ne (tgt := 50) hT dX2_write_4 (by decide) (fun q => absurd (h5) q) (fun _ => ?_)
  refine J_aload_n (i := 0) hT dX2_write_7 rfl rfl ?_
  refine R_getI hT fX2_15 rfl dX2_write_8 hH.k3 ?_
  refine J_topil (h2) ?_
  refine J_if_lt (tgt := 50) hT dX2_write_11 (by decide) (fun q => absurd q (Int32.not_lt.mpr (nI_le (a := 0) (b := ks.length) (by omega) (by omega)))) (fun _ => ?_)
  refine J_aload_n (i := 0) hT dX2_write_14 rfl rfl ?_
  refine R_getI hT fX2_15 rfl dX2_write_15 hH.k3 ?_
  refine J_topil (h2) ?_
  refine J_aload_n (i := 0) hT dX2_write_18 rfl rfl ?_
  refine R_getP hT fX2_9 rfl dX2_write_19 hH.k3 hH.q31 ?_
  refine R_alen hT dX2_write_22 (by rw [hH.k4]; decide) hH.l4 ?_
  refine J_icmp_ge (tgt := 50) hT dX2_write_23 (by decide) (fun q => absurd q (Int32.not_le.mpr (nI_lt (a := ks.length) (b := 30) hk (by decide)))) (fun _ => ?_)
  refine J_aload_n (i := 0) hT dX2_write_26 rfl rfl ?_
  refine R_getP hT fX2_9 rfl dX2_write_27 hH.k3 hH.q31 ?_
  refine J_aload_n (i := 0) hT dX2_write_30 rfl rfl ?_
  refine R_getI hT fX2_15 rfl dX2_write_31 hH.k3 ?_
  refine J_topil (h2) ?_
  refine J_iload_n (i := 2) hT dX2_write_34 rfl rfl ?_
  refine J_iconst (v := 4) hT dX2_write_35 rfl ?_
  refine J_ishl hT dX2_write_36 ?_
  refine J_iload_n (i := 1) hT dX2_write_37 rfl rfl ?_
  refine J_ior hT dX2_write_38 ?_
  refine R_iast hT dX2_write_39 hH.k4 hH.l4 (by first | exact ⟨rfl, by decide⟩ | exact zix_nI (by omega) (by decide) | assumption) ?_
  refine J_aload_n (i := 0) hT dX2_write_40 rfl rfl ?_
  refine J_dup hT dX2_write_41 rfl ?_
  refine R_getI hT fX2_15 rfl dX2_write_42 hH.k3 ?_
  refine J_topil (((zu_ne _ _ _ _ (by decide) _).trans h2)) ?_
  refine J_iconst (v := 1) hT dX2_write_45 rfl ?_
  refine J_iadd hT dX2_write_46 ?_
  refine J_topil ((nI_1 _)) ?_
  refine R_putI hT fX2_15 rfl rfl dX2_write_47 hH.k3 ?_
  exact J_vret hT dX2_write_50 rfl (⟨rfl, rfl⟩) (Nat.le_refl _) (Nat.le_refl _)

set_option maxRecDepth 100000 in
set_option maxHeartbeats 4000000 in
theorem c_X2_writeS {l : Launch} {Z : zZ} (hZ : zSt l Z) {μ : zMem} {σ : zS2} {π : zP2} {g : zG2} {S : zS2} {L : Nat} (hH : zPh μ π) (hX : zTx S L σ) {w v : Int32} (h5 : σ 3 5 ≠ 0) : zCt l Z mX2_write 0 0 0 [.ref 3, .int w, .int v] (zA4 μ σ π g) (fun r μ' => r = none ∧ μ' = zA4 μ σ π g) := by
  refine zCt_of hZ mpX2_write (Nat.le_of_ble_eq_true rfl) (L := [some (.ref 3), some (.int w), some (.int v)]) rfl (fun τ hY => ?_)
  have hT := hY.1
  refine J_aload_n (i := 0) hT dX2_write_0 rfl rfl ?_
  refine R_getI hT fX2_25 rfl dX2_write_1 hH.k3 ?_
  refine J_if_ne (tgt := 50) hT dX2_write_4 (by decide) (fun _ => ?_) (fun q => absurd q (h5))
  exact J_vret hT dX2_write_50 rfl (⟨rfl, rfl⟩) (Nat.le_refl _) (Nat.le_refl _)

set_option maxRecDepth 100000 in
set_option maxHeartbeats 4000000 in
theorem c_X2_figureAt {l : Launch} {Z : zZ} (hZ : zSt l Z) {μ : zMem} {σ : zS2} {π : zP2} {g : zG2} {S : zS2} {L : Nat} (hH : zPh μ π) (hX : zTx S L σ) {p : Nat} (hp : p ≤ 30) : zCt l Z mX2_figureAt 1 0 0 [.ref 3, .int (nI p)] (zA4 μ σ π g) (fun r μ' => r = some (.int (if figB (ltr S L p) = true then ltr S L p - 48 else -1)) ∧ μ' = zA4 μ σ π g) := by
  refine zCt_of hZ mpX2_figureAt (Nat.le_of_ble_eq_true rfl) (L := [some (.ref 3), some (.int (nI p)), none]) rfl (fun τ hY => ?_)
  have hT := hY.1
  refine J_aload_n (i := 0) hT dX2_figureAt_0 rfl rfl ?_
  refine R_getP hT fX2_29 rfl dX2_figureAt_1 hH.k3 hH.q30 ?_
  refine J_iload_n (i := 1) hT dX2_figureAt_4 rfl rfl ?_
  refine R_callV1 (ci := 7) hY dX2_figureAt_5 mfX7_letterAt miX7_letterAt msX7_letterAt kX2_62 ⟨by decide, rfl⟩ hH.k1 (c_X7_letterAt hZ hH hX hp) rfl (by decide) rfl rfl (Nat.le_of_ble_eq_true rfl) (Nat.le_refl _) (Nat.le_refl _) ?_
  refine S_istore2 hT dX2_figureAt_8 rfl rfl ?_
  refine J_iload_n (i := 2) hT dX2_figureAt_9 rfl rfl ?_
  refine R_callS1 hY dX2_figureAt_10 mfX8_isFigure mtX8_isFigure kX2_80 (c_X8_isFigure hZ) rfl (by decide) rfl rfl (Nat.le_of_ble_eq_true rfl) (Nat.le_refl _) (Nat.le_refl _) ?_
  refine J_if_eq (tgt := 23) hT dX2_figureAt_13 (by decide) (fun q13 => ?_) (fun q13 => ?_)
  · refine J_iconst (v := -1) hT dX2_figureAt_23 rfl ?_
    exact J_iret hT dX2_figureAt_24 rfl rfl (⟨by first | rw [if_pos (zbq_t q13)] | rw [if_neg (zbq_f q13)], rfl⟩) (Nat.le_refl _) (Nat.le_refl _)
  · refine J_iload_n (i := 2) hT dX2_figureAt_16 rfl rfl ?_
    refine J_bipush (v := 48) hT dX2_figureAt_17 rfl ?_
    refine J_isub hT dX2_figureAt_19 ?_
    refine J_goto (tgt := 24) hT dX2_figureAt_20 (by decide) ?_
    exact J_iret hT dX2_figureAt_24 rfl rfl (⟨by first | rw [if_pos (zbq_t q13)] | rw [if_neg (zbq_f q13)], rfl⟩) (Nat.le_refl _) (Nat.le_refl _)

set_option maxRecDepth 100000 in
set_option maxHeartbeats 4000000 in
theorem c_X2_comparisonOf {l : Launch} {Z : zZ} (hZ : zSt l Z) {a : Int32} {μ : zMem} : zCt l Z mX2_comparisonOf 0 0 0 [.int a] μ (fun r μ' => r = some (.int (cmpO a)) ∧ μ' = μ) := by
  refine zCt_of hZ mpX2_comparisonOf (Nat.le_of_ble_eq_true rfl) (L := [some (.int a)]) rfl (fun τ hY => ?_)
  have hT := hY.1
  refine J_iload_n (i := 0) hT dX2_comparisonOf_0 rfl rfl ?_
  unfold cmpO
  by_cases h1 : a = 60
  · rw [if_pos h1]
    refine J_topil h1 ?_
    refine J_tableIn (tgt := 28) hT dX2_comparisonOf_1 (by decide) (by decide) rfl (by decide) ?_
    refine J_bipush (v := 8) hT dX2_comparisonOf_28 rfl ?_
    exact J_iret hT dX2_comparisonOf_30 rfl rfl (⟨rfl, rfl⟩) (Nat.le_refl _) (Nat.le_refl _)
  · rw [if_neg h1]
    by_cases h2 : a = 62
    · rw [if_pos h2]
      refine J_topil h2 ?_
      refine J_tableIn (tgt := 31) hT dX2_comparisonOf_1 (by decide) (by decide) rfl (by decide) ?_
      refine J_bipush (v := 9) hT dX2_comparisonOf_31 rfl ?_
      exact J_iret hT dX2_comparisonOf_33 rfl rfl (⟨rfl, rfl⟩) (Nat.le_refl _) (Nat.le_refl _)
    · rw [if_neg h2]
      by_cases h3 : a = 61
      · rw [if_pos h3]
        refine J_topil h3 ?_
        refine J_tableIn (tgt := 34) hT dX2_comparisonOf_1 (by decide) (by decide) rfl (by decide) ?_
        refine J_bipush (v := 10) hT dX2_comparisonOf_34 rfl ?_
        exact J_iret hT dX2_comparisonOf_36 rfl rfl (⟨rfl, rfl⟩) (Nat.le_refl _) (Nat.le_refl _)
      · rw [if_neg h3]
        refine J_tableOut (tgt := 37) hT dX2_comparisonOf_1 ?_ (by decide) ?_
        · have e1 : a.toInt ≠ 60 := fun q => h1 (Int32.toInt_inj.mp q)
          have e2 : a.toInt ≠ 62 := fun q => h2 (Int32.toInt_inj.mp q)
          have e3 : a.toInt ≠ 61 := fun q => h3 (Int32.toInt_inj.mp q)
          omega
        refine J_iconst (v := -1) hT dX2_comparisonOf_37 rfl ?_
        exact J_iret hT dX2_comparisonOf_38 rfl rfl (⟨rfl, rfl⟩) (Nat.le_refl _) (Nat.le_refl _)


