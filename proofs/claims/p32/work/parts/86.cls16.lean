/-- a Step object at sp that says step st of S -/
def Io (b : Nat) : Prop := b = 66 ∨ 70 ≤ b
def zSp (μ : zMem) (σ : zS2) (π : zP2) (sp : Nat) (S : zS2) (st : Nat) : Prop :=
  Io sp ∧ sp < zN μ ∧ zK μ sp = 5 + 8 ∧ σ sp 0 = S 98 st ∧ σ sp 1 = S 99 st ∧ σ sp 2 = S 100 st ∧ σ sp 3 = S 101 st ∧ σ sp 5 = S 102 st ∧ (S 98 st = 0 → ∃ f, π sp 4 = some f ∧ zFo μ σ π f (stw S st) (stN S st) (maskP S st 20000 20999 (stN S st)) (maskP S st 21000 21999 (stN S st)) (maskP S st 22000 29999 (stN S st)))
theorem Io.out {t b : Nat} (ht : ta t) (h : Io b) : b < t ∨ t + 30 ≤ b := by unfold Io at h; unfold ta at ht; omega
theorem zfT.io {t : Nat} (ht : ta t) {σ σ' : zS2} (h : zfT t σ σ') {b : Nat} (hb : Io b) (j : Nat) : σ' b j = σ b j := h b j (by have := hb.out ht; unfold zmu; omega)
theorem zfP.io {t : Nat} (ht : ta t) {σ σ' : zP2} (h : zfP t σ σ') {b : Nat} (hb : Io b) (j : Nat) : σ' b j = σ b j := h b j (by have := hb.out ht; unfold zmp; omega)
theorem maskP_mv {S S' : zS2} {st st' : Nat} {lo hi : Int32} (n : Nat) (h : ∀ i, i < n → S' 103 (30 * st' + i) = S 103 (30 * st + i)) : maskP S' st' lo hi n = maskP S st lo hi n := by
  induction n with
  | zero => rfl
  | succ n ih => rw [maskP, maskP, ih (fun i hi => h i (by omega)), h n (by omega)]
theorem zSp.mv {μ μ' : zMem} {σ σ' : zS2} {π π' : zP2} {sp st : Nat} {S S' : zS2} (h : zSp μ σ π sp S st) (hg : zgr μ μ') (hs : ∀ b, Io b ∨ Im b → b < zN μ → ∀ j, σ' b j = σ b j) (hp : ∀ b, Io b ∨ Im b → b < zN μ → ∀ j, π' b j = π b j) (hS : ∀ b, b ∈ [98, 99, 100, 101, 102, 104] → S' b st = S b st) (h3 : ∀ i, i < stN S st → S' 103 (30 * st + i) = S 103 (30 * st + i)) : zSp μ' σ' π' sp S' st := by
  obtain ⟨h1, h2, h4, h5, h6, h7, h8, h9, h10⟩ := h
  have en : stN S' st = stN S st := by unfold stN; rw [hS 104 (by decide)]
  refine ⟨h1, Nat.lt_of_lt_of_le h2 hg.1, by rw [(hg.2 sp h2).1]; exact h4, ?_, ?_, ?_, ?_, ?_, fun hk => ?_⟩
  · rw [hs sp (Or.inl h1) h2, hS 98 (by decide)]; exact h5
  · rw [hs sp (Or.inl h1) h2, hS 99 (by decide)]; exact h6
  · rw [hs sp (Or.inl h1) h2, hS 100 (by decide)]; exact h7
  · rw [hs sp (Or.inl h1) h2, hS 101 (by decide)]; exact h8
  · rw [hs sp (Or.inl h1) h2, hS 102 (by decide)]; exact h9
  · rw [hS 98 (by decide)] at hk
    obtain ⟨f, e, hF⟩ := h10 hk
    refine ⟨f, by rw [hp sp (Or.inl h1) h2]; exact e, ?_⟩
    rw [en]
    exact hF.mv hg (fun b hb hn => hs b (Or.inr hb) hn) (fun b hb hn => hp b (Or.inr hb) hn) (fun k hk => by unfold stw; rw [h3 k hk]) (maskP_mv _ h3) (maskP_mv _ h3) (maskP_mv _ h3)
/-- what a step says is as the calls let it be -/
def stX (S : zS2) (st : Nat) : Prop := ((S 98 st = 1 ∨ S 98 st = 3) → vb (S 100 st)) ∧ (S 98 st = 6 → 0 ≤ S 100 st ∧ S 100 st ≤ 1000) ∧ (S 98 st = 8 → S 100 st = -1 ∨ (0 ≤ S 100 st ∧ S 100 st ≤ 1000)) ∧ ((S 98 st = 4 ∨ S 98 st = 5) → okC (S 100 st)) ∧ (S 98 st = 7 → (∃ o, o < 5 ∧ S 100 st = nI o) ∧ (S 101 st = 0 ∨ S 101 st = 1))
theorem mi.lk1 {t : Nat} (ht : ta t) {μ : zMem} {σ : zS2} {π : zP2} {S : zS2} (h : mi t μ σ π S) {o f n b k : Nat} {v : Int32} (hx : (o, f, n, b) ∈ lks) (hk : k < n) (h92 : b ≠ 92 ∨ v ≠ 1) : mi t μ (zu σ (t + o + k) f v) π (zu S b k v) := h.ul ht hx hk (fun e q => (h92.resolve_left (fun z => z e) q).elim)
theorem mo.lk {t : Nat} (ht : ta t) {μ : zMem} {σ : zS2} {π : zP2} {S : zS2} (h : mo t μ σ π S) {o f n b k : Nat} {v : Int32} (hx : (o, f, n, b) ∈ lks) (hk : k < n) (h92 : b ≠ 92 ∨ v ≠ 1) (h79 : b ≠ 79) : mo t μ (zu σ (t + o + k) f v) π (zu S b k v) := ⟨h.1.lk1 ht hx hk h92, h.2.mv (fun _ => rfl) (fun c _ => zu_ne _ _ _ _ (fun e => h79 e.symm) c)⟩
theorem mo.j81 {t : Nat} {μ : zMem} {σ : zS2} {π : zP2} {S : zS2} (h : mo t μ σ π S) {c : Nat} {v : Int32} : mo t μ σ π (zu S 81 c v) := by
  refine ⟨h.1.S (fun x hx k _ => zu_ne _ _ _ _ ((by decide : ∀ x, x ∈ lks → x.2.2.2 ≠ 81) x hx) k) (fun i _ => by rw [zu_ne _ _ _ _ (by decide)]) (zu_ne _ _ _ _ (by decide) _) (zu_ne _ _ _ _ (by decide) _) (fun s _ _ => ⟨zu_ne _ _ _ _ (by decide) _, zu_ne _ _ _ _ (by decide) _⟩) (fun c _ => ⟨zu_ne _ _ _ _ (by decide) _, zu_ne _ _ _ _ (by decide) _, zu_ne _ _ _ _ (by decide) _, zu_ne _ _ _ _ (by decide) _, fun k _ => zu_ne _ _ _ _ (by decide) _⟩), h.2.mv (fun _ => rfl) (fun c _ => zu_ne _ _ _ _ (by decide) c)⟩
theorem zIm_io {t b : Nat} (ht : ta t) (h : Im b) : b < t ∨ b = t + 1 ∨ b = t + 2 ∨ t + 30 ≤ b := im_out ht h

set_option maxRecDepth 100000 in
set_option maxHeartbeats 4000000 in
theorem c_X6_changeReading {l : Launch} {Z : zZ} (hZ : zSt l Z) {μ : zMem} {σ : zS2} {π : zP2} {g : zG2} {t : Nat} (ht : ta t) {S : zS2} (hM : mo t μ σ π S) {sp w : Nat} (hk : zK μ sp = 5 + 8) (hio : Io sp) (hw : w < 5) (h1 : σ sp 1 = nI w) : zCt l Z mX6_changeReading 2 0 0 [.ref t, .ref sp] (zA4 μ σ π g) (fun r μ' => r = none ∧ zE t μ σ π g (readF S w (σ sp 2)) μ') := by
  refine zCt_of hZ mpX6_changeReading (Nat.le_of_ble_eq_true rfl) (L := [some (.ref t), some (.ref sp), none]) rfl (fun τ hY => ?_)
  have hT := hY.1
  have hB := hM.1.tb
  have hso : sp < t ∨ t + 30 ≤ sp := hio.out ht
  have hM1 := hM.lk ht (o := 20) (f := 1) (n := 5) (b := 91) (k := w) (v := S 67 34) (by decide) hw (Or.inl (by decide)) (by decide)
  have hM2 := hM1.lk ht (o := 20) (f := 0) (n := 5) (b := 90) (k := w) (v := σ sp 2) (by decide) hw (Or.inl (by decide)) (by decide)
  refine J_aload_n (i := 1) hT dX6_changeReading_0 rfl rfl ?_
  refine R_getI hT fX6_104 rfl dX6_changeReading_1 hk ?_
  refine J_topil (h1) ?_
  refine J_if_lt (tgt := 19) hT dX6_changeReading_4 (by decide) (fun q => absurd q (nI_pos (by omega))) (fun _ => ?_)
  refine J_aload_n (i := 1) hT dX6_changeReading_7 rfl rfl ?_
  refine R_getI hT fX6_104 rfl dX6_changeReading_8 hk ?_
  refine J_topil (h1) ?_
  refine J_aload_n (i := 0) hT dX6_changeReading_11 rfl rfl ?_
  refine R_getP hT fX6_31 rfl dX6_changeReading_12 hB.k hB.p3 ?_
  refine R_alen hT dX6_changeReading_15 (by rw [hB.k5]; decide) hB.l5 ?_
  refine J_icmp_lt (tgt := 20) hT dX6_changeReading_16 (by decide) (fun _ => ?_) (fun q => absurd (nI_lt (a := w) (b := 5) (by omega) (by decide)) q)
  refine J_aload_n (i := 0) hT dX6_changeReading_20 rfl rfl ?_
  refine R_getP hT fX6_31 rfl dX6_changeReading_21 hB.k hB.p3 ?_
  refine J_aload_n (i := 1) hT dX6_changeReading_24 rfl rfl ?_
  refine R_getI hT fX6_104 rfl dX6_changeReading_25 hk ?_
  refine J_topil (h1) ?_
  refine R_aald1 hT dX6_changeReading_28 hB.k5 (by decide) hB.l5 (by first | exact ⟨rfl, by decide⟩ | exact zix_nI (by omega) (by decide) | assumption) (hB.pr hw) ?_
  refine S_astore2 hT dX6_changeReading_29 rfl rfl ?_
  refine J_aload_n (i := 2) hT dX6_changeReading_30 rfl rfl ?_
  refine J_aload_n (i := 0) hT dX6_changeReading_31 rfl rfl ?_
  refine R_getI hT fX6_49 rfl dX6_changeReading_32 hB.k ?_
  refine J_topil (hM.1.w) ?_
  refine R_putI hT fX6_73 rfl rfl dX6_changeReading_35 (hB.kr hw) ?_
  refine J_aload_n (i := 2) hT dX6_changeReading_38 rfl rfl ?_
  refine R_getI hT fX6_72 rfl dX6_changeReading_39 (hB.kr hw) ?_
  refine J_topil ((zu_n _ _ _ _ (by omega)).trans (hM.1.rv hw)) ?_
  refine J_aload_n (i := 1) hT dX6_changeReading_42 rfl rfl ?_
  refine R_getI hT fX6_124 rfl dX6_changeReading_43 hk ?_
  refine J_topil (zu_n _ _ _ _ (by omega)) ?_
  refine J_icmp_eq (tgt := 68) hT dX6_changeReading_46 (by decide) (fun q46 => ?_) (fun q46 => ?_)
  · exact J_vret hT dX6_changeReading_68 rfl ⟨rfl, by
          have e : readF S w (σ sp 2) = zu S 91 w (S 67 34) := if_pos q46
          rw [e]; exact zE.ret hM1 (zfT_u (zmu_r hw)) rfl (zch_u (by decide))⟩ (Nat.le_refl _) (Nat.le_refl _)
  · refine J_aload_n (i := 2) hT dX6_changeReading_49 rfl rfl ?_
    refine J_aload_n (i := 1) hT dX6_changeReading_50 rfl rfl ?_
    refine R_getI hT fX6_124 rfl dX6_changeReading_51 hk ?_
    refine J_topil (zu_n _ _ _ _ (by omega)) ?_
    refine R_putI hT fX6_72 rfl rfl dX6_changeReading_54 (hB.kr hw) ?_
    refine J_aload_n (i := 0) hT dX6_changeReading_57 rfl rfl ?_
    refine J_bipush (v := 12) hT dX6_changeReading_58 rfl ?_
    refine J_aload_n (i := 1) hT dX6_changeReading_60 rfl rfl ?_
    refine R_getI hT fX6_104 rfl dX6_changeReading_61 hk ?_
    refine J_topil (((zu_n _ _ _ _ (by omega)).trans (zu_n _ _ _ _ (by omega))).trans h1) ?_
    refine J_iadd hT dX6_changeReading_64 ?_
    refine J_topil ((nI_ad 12 w)) ?_
    refine J_callV (ci := 6) hY dX6_changeReading_65 mfX6_soilReaders miX6_soilReaders msX6_soilReaders kX6_127 ⟨by decide, rfl⟩ hB.k (c_X6_soilReaders hZ ht hM2 (rd := 12 + w) (rk := 77) (w := w) (by omega) (fun d hd f hf => hM2.1.b77 hd hf hw)) rfl (by decide) rfl rfl (Nat.le_of_ble_eq_true rfl) (Nat.le_refl _) (Nat.le_refl _) (fun r1 μ1 hq1 => ?_)
    obtain ⟨rfl, hq2⟩ := hq1
    exact J_vret hT dX6_changeReading_68 rfl (⟨rfl, by
          have e : readF S w (σ sp 2) = soilF (zu (zu S 91 w (S 67 34)) 90 w (σ sp 2)) 77 w := if_neg q46
          rw [e]; exact hq2.mv ((zfT_u (zmu_r hw)).tr (zfT_u (zmu_r hw))) rfl (zch.tr (zch_u (by decide)) (zch_u (by decide)))⟩) (Nat.le_refl _) (Nat.le_refl _)

theorem setSF_kd {S : zS2} {s st k : Nat} (hk : 4 ≤ k ∧ k ≤ 9) (h : S 98 st = nI k) : setSF S s st =
    if k = 4 then zu S 82 s (S 100 st) else if k = 5 then zu S 83 s (S 100 st) else if k = 6 then zu (zu S 85 s (S 100 st)) 86 s (S 101 st) else if k = 7 then zu S 84 s (if S 101 st = 1 then S 84 s ||| ((1 : Int32) <<< (S 100 st &&& 31)) else S 84 s &&& (((1 : Int32) <<< (S 100 st &&& 31)) ^^^ (-1))) else if k = 8 then zu S 87 s (S 100 st) else zu S 92 s 0 := by
  have hkk : k = 4 ∨ k = 5 ∨ k = 6 ∨ k = 7 ∨ k = 8 ∨ k = 9 := by omega
  have z : ∀ (T : zS2) (b : Nat), T b s = S b s → zu T b s (S b s) = T := fun T b e => zu_self e
  unfold setSF
  dsimp only
  rcases hkk with rfl | rfl | rfl | rfl | rfl | rfl
  · rw [h]
    rw [if_pos (show nI 4 = 4 by decide), if_neg (show ¬ nI 4 = 5 by decide), if_neg (show ¬ nI 4 = 6 by decide), if_neg (show ¬ nI 4 = 6 by decide), if_neg (show ¬ nI 4 = 8 by decide), if_neg (show ¬ nI 4 = 9 by decide), if_neg (show ¬ nI 4 = 7 by decide), if_pos rfl]
    rw [z _ 83 (by rw [zu_ne _ _ _ _ (by decide)]), z _ 85 (by rw [zu_ne _ _ _ _ (by decide)]), z _ 86 (by rw [zu_ne _ _ _ _ (by decide)]), z _ 87 (by rw [zu_ne _ _ _ _ (by decide)]), z _ 92 (by rw [zu_ne _ _ _ _ (by decide)])]
  · rw [h]
    rw [if_neg (show ¬ nI 5 = 4 by decide), if_pos (show nI 5 = 5 by decide), if_neg (show ¬ nI 5 = 6 by decide), if_neg (show ¬ nI 5 = 6 by decide), if_neg (show ¬ nI 5 = 8 by decide), if_neg (show ¬ nI 5 = 9 by decide), if_neg (show ¬ nI 5 = 7 by decide), if_neg (by decide), if_pos rfl]
    rw [z _ 82 rfl, z _ 85 (by rw [zu_ne _ _ _ _ (by decide)]), z _ 86 (by rw [zu_ne _ _ _ _ (by decide)]), z _ 87 (by rw [zu_ne _ _ _ _ (by decide)]), z _ 92 (by rw [zu_ne _ _ _ _ (by decide)])]
  · rw [h]
    rw [if_neg (show ¬ nI 6 = 4 by decide), if_neg (show ¬ nI 6 = 5 by decide), if_pos (show nI 6 = 6 by decide), if_pos (show nI 6 = 6 by decide), if_neg (show ¬ nI 6 = 8 by decide), if_neg (show ¬ nI 6 = 9 by decide), if_neg (show ¬ nI 6 = 7 by decide), if_neg (by decide), if_neg (by decide), if_pos rfl]
    rw [z _ 82 rfl, z _ 83 rfl, z _ 87 (by rw [zu_ne _ _ _ _ (by decide), zu_ne _ _ _ _ (by decide)]), z _ 92 (by rw [zu_ne _ _ _ _ (by decide), zu_ne _ _ _ _ (by decide)])]
  · rw [h]
    rw [if_neg (show ¬ nI 7 = 4 by decide), if_neg (show ¬ nI 7 = 5 by decide), if_neg (show ¬ nI 7 = 6 by decide), if_neg (show ¬ nI 7 = 6 by decide), if_neg (show ¬ nI 7 = 8 by decide), if_neg (show ¬ nI 7 = 9 by decide), if_pos (show nI 7 = 7 by decide), if_neg (show ¬ (7 : Nat) = 4 by decide), if_neg (show ¬ (7 : Nat) = 5 by decide), if_neg (show ¬ (7 : Nat) = 6 by decide), if_pos (show (7 : Nat) = 7 from rfl)]
    rw [z _ 82 rfl, z _ 83 rfl, z _ 85 rfl, z _ 86 rfl, z _ 87 rfl, z _ 92 rfl]
  · rw [h]
    rw [if_neg (show ¬ nI 8 = 4 by decide), if_neg (show ¬ nI 8 = 5 by decide), if_neg (show ¬ nI 8 = 6 by decide), if_neg (show ¬ nI 8 = 6 by decide), if_pos (show nI 8 = 8 by decide), if_neg (show ¬ nI 8 = 9 by decide), if_neg (show ¬ nI 8 = 7 by decide), if_neg (by decide), if_neg (by decide), if_neg (by decide), if_neg (by decide), if_pos rfl]
    rw [z _ 82 rfl, z _ 83 rfl, z _ 85 rfl, z _ 86 rfl, z _ 92 (by rw [zu_ne _ _ _ _ (by decide)])]
  · rw [h]
    rw [if_neg (show ¬ nI 9 = 4 by decide), if_neg (show ¬ nI 9 = 5 by decide), if_neg (show ¬ nI 9 = 6 by decide), if_neg (show ¬ nI 9 = 6 by decide), if_neg (show ¬ nI 9 = 8 by decide), if_pos (show nI 9 = 9 by decide), if_neg (show ¬ nI 9 = 7 by decide), if_neg (by decide), if_neg (by decide), if_neg (by decide), if_neg (by decide), if_neg (by decide)]
    rw [z _ 82 rfl, z _ 83 rfl, z _ 85 rfl, z _ 86 rfl, z _ 87 rfl]
theorem zch0 {t : Nat} {σ σ' : zS2} (h : zch t σ σ') : zch t σ σ' := h
theorem needs_1 (x b : Int32) : (x &&& (b ^^^ (-1))) ||| b = x ||| b := b_ext fun i hi => by
  rw [b_or, b_or, b_and, b_not _ hi]
  cases bt x i <;> cases bt b i <;> rfl

set_option maxRecDepth 100000 in
set_option maxHeartbeats 4000000 in
theorem c_X6_changeService {l : Launch} {Z : zZ} (hZ : zSt l Z) {μ : zMem} {σ : zS2} {π : zP2} {g : zG2} {t : Nat} (ht : ta t) {S : zS2} (hM : mo t μ σ π S) {sp s st k : Nat} (hk : zK μ sp = 5 + 8) (hio : Io sp) (hs : s < 5) (h1 : σ sp 1 = nI s) (hk9 : 4 ≤ k ∧ k ≤ 9) (hk0 : σ sp 0 = nI k) (hkS : S 98 st = nI k) (he2 : σ sp 2 = S 100 st) (he3 : σ sp 3 = S 101 st) (h7 : k = 7 → σ sp 3 = 0 ∨ σ sp 3 = 1) : zCt l Z mX6_changeService 1 0 0 [.ref t, .ref sp] (zA4 μ σ π g) (fun r μ' => r = none ∧ zE t μ σ π g (setSF S s st) μ') := by
  refine zCt_of hZ mpX6_changeService (Nat.le_of_ble_eq_true rfl) (L := [some (.ref t), some (.ref sp), none, none]) rfl (fun τ hY => ?_)
  have hT := hY.1
  have hB := hM.1.tb
  have hso : sp < t ∨ t + 30 ≤ sp := hio.out ht
  have hkk : k = 4 ∨ k = 5 ∨ k = 6 ∨ k = 7 ∨ k = 8 ∨ k = 9 := by omega
  have hset := setSF_kd (S := S) (s := s) hk9 hkS
  rw [← he2, ← he3] at hset
  rcases hkk with rfl | rfl | rfl | rfl | rfl | rfl
  · rw [if_pos rfl] at hset
    refine J_aload_n (i := 1) hT dX6_changeService_0 rfl rfl ?_
    refine R_getI hT fX6_104 rfl dX6_changeService_1 hk ?_
    refine J_topil (h1) ?_
    refine J_if_lt (tgt := 19) hT dX6_changeService_4 (by decide) (fun q => absurd q (nI_pos (by omega))) (fun _ => ?_)
    refine J_aload_n (i := 1) hT dX6_changeService_7 rfl rfl ?_
    refine R_getI hT fX6_104 rfl dX6_changeService_8 hk ?_
    refine J_topil (h1) ?_
    refine J_aload_n (i := 0) hT dX6_changeService_11 rfl rfl ?_
    refine R_getP hT fX6_37 rfl dX6_changeService_12 hB.k hB.p4 ?_
    refine R_alen hT dX6_changeService_15 (by rw [hB.k6]; decide) hB.l6 ?_
    refine J_icmp_lt (tgt := 20) hT dX6_changeService_16 (by decide) (fun _ => ?_) (fun q => absurd (nI_lt (a := s) (b := 5) (by omega) (by decide)) q)
    refine J_aload_n (i := 0) hT dX6_changeService_20 rfl rfl ?_
    refine R_getP hT fX6_37 rfl dX6_changeService_21 hB.k hB.p4 ?_
    refine J_aload_n (i := 1) hT dX6_changeService_24 rfl rfl ?_
    refine R_getI hT fX6_104 rfl dX6_changeService_25 hk ?_
    refine J_topil (h1) ?_
    refine R_aald1 hT dX6_changeService_28 hB.k6 (by decide) hB.l6 (by first | exact ⟨rfl, by decide⟩ | exact zix_nI (by omega) (by decide) | assumption) (hB.ps hs) ?_
    refine S_astore2 hT dX6_changeService_29 rfl rfl ?_
    refine J_aload_n (i := 1) hT dX6_changeService_30 rfl rfl ?_
    refine R_getI hT fX6_91 rfl dX6_changeService_31 hk ?_
    refine J_topil (hk0) ?_
    refine J_tableIn (off := 34) (tgt := 68) hT dX6_changeService_34 (by decide) (by decide) (by decide) (by decide) ?_
    refine J_aload_n (i := 2) hT dX6_changeService_68 rfl rfl ?_
    refine J_aload_n (i := 1) hT dX6_changeService_69 rfl rfl ?_
    refine R_getI hT fX6_124 rfl dX6_changeService_70 hk ?_
    refine R_putI hT fX6_138 rfl rfl dX6_changeService_73 (hB.ks hs) ?_
    refine J_goto (tgt := 167) hT dX6_changeService_76 (by decide) ?_
    exact J_vret hT dX6_changeService_167 rfl (⟨rfl, by rw [hset]; exact zE.ret (hM.lk ht (o := 25) (f := 2) (n := 5) (b := 82) (by decide) hs (Or.inl (by decide)) (by decide)) (zfT_u (zmu_s hs)) rfl (zch_u (by decide))⟩) (Nat.le_refl _) (Nat.le_refl _)
  · rw [if_neg (by decide), if_pos rfl] at hset
    refine J_aload_n (i := 1) hT dX6_changeService_0 rfl rfl ?_
    refine R_getI hT fX6_104 rfl dX6_changeService_1 hk ?_
    refine J_topil (h1) ?_
    refine J_if_lt (tgt := 19) hT dX6_changeService_4 (by decide) (fun q => absurd q (nI_pos (by omega))) (fun _ => ?_)
    refine J_aload_n (i := 1) hT dX6_changeService_7 rfl rfl ?_
    refine R_getI hT fX6_104 rfl dX6_changeService_8 hk ?_
    refine J_topil (h1) ?_
    refine J_aload_n (i := 0) hT dX6_changeService_11 rfl rfl ?_
    refine R_getP hT fX6_37 rfl dX6_changeService_12 hB.k hB.p4 ?_
    refine R_alen hT dX6_changeService_15 (by rw [hB.k6]; decide) hB.l6 ?_
    refine J_icmp_lt (tgt := 20) hT dX6_changeService_16 (by decide) (fun _ => ?_) (fun q => absurd (nI_lt (a := s) (b := 5) (by omega) (by decide)) q)
    refine J_aload_n (i := 0) hT dX6_changeService_20 rfl rfl ?_
    refine R_getP hT fX6_37 rfl dX6_changeService_21 hB.k hB.p4 ?_
    refine J_aload_n (i := 1) hT dX6_changeService_24 rfl rfl ?_
    refine R_getI hT fX6_104 rfl dX6_changeService_25 hk ?_
    refine J_topil (h1) ?_
    refine R_aald1 hT dX6_changeService_28 hB.k6 (by decide) hB.l6 (by first | exact ⟨rfl, by decide⟩ | exact zix_nI (by omega) (by decide) | assumption) (hB.ps hs) ?_
    refine S_astore2 hT dX6_changeService_29 rfl rfl ?_
    refine J_aload_n (i := 1) hT dX6_changeService_30 rfl rfl ?_
    refine R_getI hT fX6_91 rfl dX6_changeService_31 hk ?_
    refine J_topil (hk0) ?_
    refine J_tableIn (off := 45) (tgt := 79) hT dX6_changeService_34 (by decide) (by decide) (by decide) (by decide) ?_
    refine J_aload_n (i := 2) hT dX6_changeService_79 rfl rfl ?_
    refine J_aload_n (i := 1) hT dX6_changeService_80 rfl rfl ?_
    refine R_getI hT fX6_124 rfl dX6_changeService_81 hk ?_
    refine R_putI hT fX6_141 rfl rfl dX6_changeService_84 (hB.ks hs) ?_
    refine J_goto (tgt := 167) hT dX6_changeService_87 (by decide) ?_
    exact J_vret hT dX6_changeService_167 rfl (⟨rfl, by rw [hset]; exact zE.ret (hM.lk ht (o := 25) (f := 3) (n := 5) (b := 83) (by decide) hs (Or.inl (by decide)) (by decide)) (zfT_u (zmu_s hs)) rfl (zch_u (by decide))⟩) (Nat.le_refl _) (Nat.le_refl _)
  · rw [if_neg (by decide), if_neg (by decide), if_pos rfl] at hset
    refine J_aload_n (i := 1) hT dX6_changeService_0 rfl rfl ?_
    refine R_getI hT fX6_104 rfl dX6_changeService_1 hk ?_
    refine J_topil (h1) ?_
    refine J_if_lt (tgt := 19) hT dX6_changeService_4 (by decide) (fun q => absurd q (nI_pos (by omega))) (fun _ => ?_)
    refine J_aload_n (i := 1) hT dX6_changeService_7 rfl rfl ?_
    refine R_getI hT fX6_104 rfl dX6_changeService_8 hk ?_
    refine J_topil (h1) ?_
    refine J_aload_n (i := 0) hT dX6_changeService_11 rfl rfl ?_
    refine R_getP hT fX6_37 rfl dX6_changeService_12 hB.k hB.p4 ?_
    refine R_alen hT dX6_changeService_15 (by rw [hB.k6]; decide) hB.l6 ?_
    refine J_icmp_lt (tgt := 20) hT dX6_changeService_16 (by decide) (fun _ => ?_) (fun q => absurd (nI_lt (a := s) (b := 5) (by omega) (by decide)) q)
    refine J_aload_n (i := 0) hT dX6_changeService_20 rfl rfl ?_
    refine R_getP hT fX6_37 rfl dX6_changeService_21 hB.k hB.p4 ?_
    refine J_aload_n (i := 1) hT dX6_changeService_24 rfl rfl ?_
    refine R_getI hT fX6_104 rfl dX6_changeService_25 hk ?_
    refine J_topil (h1) ?_
    refine R_aald1 hT dX6_changeService_28 hB.k6 (by decide) hB.l6 (by first | exact ⟨rfl, by decide⟩ | exact zix_nI (by omega) (by decide) | assumption) (hB.ps hs) ?_
    refine S_astore2 hT dX6_changeService_29 rfl rfl ?_
    refine J_aload_n (i := 1) hT dX6_changeService_30 rfl rfl ?_
    refine R_getI hT fX6_91 rfl dX6_changeService_31 hk ?_
    refine J_topil (hk0) ?_
    refine J_tableIn (off := 56) (tgt := 90) hT dX6_changeService_34 (by decide) (by decide) (by decide) (by decide) ?_
    refine J_aload_n (i := 2) hT dX6_changeService_90 rfl rfl ?_
    refine J_aload_n (i := 1) hT dX6_changeService_91 rfl rfl ?_
    refine R_getI hT fX6_124 rfl dX6_changeService_92 hk ?_
    refine R_putI hT fX6_144 rfl rfl dX6_changeService_95 (hB.ks hs) ?_
    refine J_aload_n (i := 2) hT dX6_changeService_98 rfl rfl ?_
    refine J_aload_n (i := 1) hT dX6_changeService_99 rfl rfl ?_
    refine R_getI hT fX6_147 rfl dX6_changeService_100 hk ?_
    refine J_topil (zu_n _ _ _ _ (by omega)) ?_
    refine R_putI hT fX6_150 rfl rfl dX6_changeService_103 (hB.ks hs) ?_
    refine J_goto (tgt := 167) hT dX6_changeService_106 (by decide) ?_
    exact J_vret hT dX6_changeService_167 rfl (⟨rfl, by rw [hset]; exact zE.ret ((hM.lk ht (o := 25) (f := 5) (n := 5) (b := 85) (by decide) hs (Or.inl (by decide)) (by decide)).lk ht (o := 25) (f := 6) (n := 5) (b := 86) (by decide) hs (Or.inl (by decide)) (by decide)) ((zfT_u (zmu_s hs)).tr (zfT_u (zmu_s hs))) rfl (zch.tr (zch_u (by decide)) (zch_u (by decide)))⟩) (Nat.le_refl _) (Nat.le_refl _)
  · rw [if_neg (by decide), if_neg (by decide), if_neg (by decide), if_pos rfl] at hset
    refine J_aload_n (i := 1) hT dX6_changeService_0 rfl rfl ?_
    refine R_getI hT fX6_104 rfl dX6_changeService_1 hk ?_
    refine J_topil (h1) ?_
    refine J_if_lt (tgt := 19) hT dX6_changeService_4 (by decide) (fun q => absurd q (nI_pos (by omega))) (fun _ => ?_)
    refine J_aload_n (i := 1) hT dX6_changeService_7 rfl rfl ?_
    refine R_getI hT fX6_104 rfl dX6_changeService_8 hk ?_
    refine J_topil (h1) ?_
    refine J_aload_n (i := 0) hT dX6_changeService_11 rfl rfl ?_
    refine R_getP hT fX6_37 rfl dX6_changeService_12 hB.k hB.p4 ?_
    refine R_alen hT dX6_changeService_15 (by rw [hB.k6]; decide) hB.l6 ?_
    refine J_icmp_lt (tgt := 20) hT dX6_changeService_16 (by decide) (fun _ => ?_) (fun q => absurd (nI_lt (a := s) (b := 5) (by omega) (by decide)) q)
    refine J_aload_n (i := 0) hT dX6_changeService_20 rfl rfl ?_
    refine R_getP hT fX6_37 rfl dX6_changeService_21 hB.k hB.p4 ?_
    refine J_aload_n (i := 1) hT dX6_changeService_24 rfl rfl ?_
    refine R_getI hT fX6_104 rfl dX6_changeService_25 hk ?_
    refine J_topil (h1) ?_
    refine R_aald1 hT dX6_changeService_28 hB.k6 (by decide) hB.l6 (by first | exact ⟨rfl, by decide⟩ | exact zix_nI (by omega) (by decide) | assumption) (hB.ps hs) ?_
    refine S_astore2 hT dX6_changeService_29 rfl rfl ?_
    refine J_aload_n (i := 1) hT dX6_changeService_30 rfl rfl ?_
    refine R_getI hT fX6_91 rfl dX6_changeService_31 hk ?_
    refine J_topil (hk0) ?_
    refine J_tableIn (off := 75) (tgt := 109) hT dX6_changeService_34 (by decide) (by decide) (by decide) (by decide) ?_
    refine J_aload_n (i := 2) hT dX6_changeService_109 rfl rfl ?_
    refine R_getI hT fX6_153 rfl dX6_changeService_110 (hB.ks hs) ?_
    refine J_topil (hM.1.nds hs) ?_
    refine J_aload_n (i := 1) hT dX6_changeService_113 rfl rfl ?_
    refine R_getI hT fX6_124 rfl dX6_changeService_114 hk ?_
    refine R_callS1 hY dX6_changeService_117 mfX8_bit mtX8_bit kX6_83 (c_X8_bit hZ) rfl (by decide) rfl rfl (Nat.le_of_ble_eq_true rfl) (Nat.le_refl _) (Nat.le_refl _) ?_
    refine J_iconst (v := -1) hT dX6_changeService_120 rfl ?_
    refine J_ixor hT dX6_changeService_121 ?_
    refine J_iand hT dX6_changeService_122 ?_
    refine S_istore3 hT dX6_changeService_123 rfl rfl ?_
    refine J_aload_n (i := 2) hT dX6_changeService_124 rfl rfl ?_
    refine J_aload_n (i := 1) hT dX6_changeService_125 rfl rfl ?_
    refine R_getI hT fX6_147 rfl dX6_changeService_126 hk ?_
    refine J_if_eq (tgt := 144) hT dX6_changeService_129 (by decide) (fun q129 => ?_) (fun q129 => ?_)
    · refine J_iload_n (i := 3) hT dX6_changeService_144 rfl rfl ?_
      refine J_topil (y := if σ sp 3 = 1 then S 84 s ||| ((1 : Int32) <<< (σ sp 2 &&& 31)) else S 84 s &&& (((1 : Int32) <<< (σ sp 2 &&& 31)) ^^^ (-1))) ?_ ?_
      · rcases h7 rfl with e | e
        · first
            | exact (if_neg (by rw [e]; decide)).symm
            | exact absurd e q129
        · first
            | (rw [if_pos e]; exact needs_1 _ _)
            | exact absurd (q129.symm.trans e) (by decide)
      refine R_putI hT fX6_153 rfl rfl dX6_changeService_145 (hB.ks hs) ?_
      refine J_goto (tgt := 167) hT dX6_changeService_148 (by decide) ?_
      exact J_vret hT dX6_changeService_167 rfl (⟨rfl, by rw [hset]; exact zE.ret (hM.lk ht (o := 25) (f := 4) (n := 5) (b := 84) (by decide) hs (Or.inl (by decide)) (by decide)) (zfT_u (zmu_s hs)) rfl (zch_u (by decide))⟩) (Nat.le_refl _) (Nat.le_refl _)
    · refine J_iload_n (i := 3) hT dX6_changeService_132 rfl rfl ?_
      refine J_aload_n (i := 1) hT dX6_changeService_133 rfl rfl ?_
      refine R_getI hT fX6_124 rfl dX6_changeService_134 hk ?_
      refine R_callS1 hY dX6_changeService_137 mfX8_bit mtX8_bit kX6_83 (c_X8_bit hZ) rfl (by decide) rfl rfl (Nat.le_of_ble_eq_true rfl) (Nat.le_refl _) (Nat.le_refl _) ?_
      refine J_ior hT dX6_changeService_140 ?_
      refine J_goto (tgt := 145) hT dX6_changeService_141 (by decide) ?_
      refine J_topil (y := if σ sp 3 = 1 then S 84 s ||| ((1 : Int32) <<< (σ sp 2 &&& 31)) else S 84 s &&& (((1 : Int32) <<< (σ sp 2 &&& 31)) ^^^ (-1))) ?_ ?_
      · rcases h7 rfl with e | e
        · first
            | exact (if_neg (by rw [e]; decide)).symm
            | exact absurd e q129
        · first
            | (rw [if_pos e]; exact needs_1 _ _)
            | exact absurd (q129.symm.trans e) (by decide)
      refine R_putI hT fX6_153 rfl rfl dX6_changeService_145 (hB.ks hs) ?_
      refine J_goto (tgt := 167) hT dX6_changeService_148 (by decide) ?_
      exact J_vret hT dX6_changeService_167 rfl (⟨rfl, by rw [hset]; exact zE.ret (hM.lk ht (o := 25) (f := 4) (n := 5) (b := 84) (by decide) hs (Or.inl (by decide)) (by decide)) (zfT_u (zmu_s hs)) rfl (zch_u (by decide))⟩) (Nat.le_refl _) (Nat.le_refl _)
  · rw [if_neg (by decide), if_neg (by decide), if_neg (by decide), if_neg (by decide), if_pos rfl] at hset
    refine J_aload_n (i := 1) hT dX6_changeService_0 rfl rfl ?_
    refine R_getI hT fX6_104 rfl dX6_changeService_1 hk ?_
    refine J_topil (h1) ?_
    refine J_if_lt (tgt := 19) hT dX6_changeService_4 (by decide) (fun q => absurd q (nI_pos (by omega))) (fun _ => ?_)
    refine J_aload_n (i := 1) hT dX6_changeService_7 rfl rfl ?_
    refine R_getI hT fX6_104 rfl dX6_changeService_8 hk ?_
    refine J_topil (h1) ?_
    refine J_aload_n (i := 0) hT dX6_changeService_11 rfl rfl ?_
    refine R_getP hT fX6_37 rfl dX6_changeService_12 hB.k hB.p4 ?_
    refine R_alen hT dX6_changeService_15 (by rw [hB.k6]; decide) hB.l6 ?_
    refine J_icmp_lt (tgt := 20) hT dX6_changeService_16 (by decide) (fun _ => ?_) (fun q => absurd (nI_lt (a := s) (b := 5) (by omega) (by decide)) q)
    refine J_aload_n (i := 0) hT dX6_changeService_20 rfl rfl ?_
    refine R_getP hT fX6_37 rfl dX6_changeService_21 hB.k hB.p4 ?_
    refine J_aload_n (i := 1) hT dX6_changeService_24 rfl rfl ?_
    refine R_getI hT fX6_104 rfl dX6_changeService_25 hk ?_
    refine J_topil (h1) ?_
    refine R_aald1 hT dX6_changeService_28 hB.k6 (by decide) hB.l6 (by first | exact ⟨rfl, by decide⟩ | exact zix_nI (by omega) (by decide) | assumption) (hB.ps hs) ?_
    refine S_astore2 hT dX6_changeService_29 rfl rfl ?_
    refine J_aload_n (i := 1) hT dX6_changeService_30 rfl rfl ?_
    refine R_getI hT fX6_91 rfl dX6_changeService_31 hk ?_
    refine J_topil (hk0) ?_
    refine J_tableIn (off := 117) (tgt := 151) hT dX6_changeService_34 (by decide) (by decide) (by decide) (by decide) ?_
    refine J_aload_n (i := 2) hT dX6_changeService_151 rfl rfl ?_
    refine J_aload_n (i := 1) hT dX6_changeService_152 rfl rfl ?_
    refine R_getI hT fX6_124 rfl dX6_changeService_153 hk ?_
    refine R_putI hT fX6_156 rfl rfl dX6_changeService_156 (hB.ks hs) ?_
    refine J_goto (tgt := 167) hT dX6_changeService_159 (by decide) ?_
    exact J_vret hT dX6_changeService_167 rfl (⟨rfl, by rw [hset]; exact zE.ret (hM.lk ht (o := 25) (f := 7) (n := 5) (b := 87) (by decide) hs (Or.inl (by decide)) (by decide)) (zfT_u (zmu_s hs)) rfl (zch_u (by decide))⟩) (Nat.le_refl _) (Nat.le_refl _)
  · rw [if_neg (by decide), if_neg (by decide), if_neg (by decide), if_neg (by decide), if_neg (by decide)] at hset
    refine J_aload_n (i := 1) hT dX6_changeService_0 rfl rfl ?_
    refine R_getI hT fX6_104 rfl dX6_changeService_1 hk ?_
    refine J_topil (h1) ?_
    refine J_if_lt (tgt := 19) hT dX6_changeService_4 (by decide) (fun q => absurd q (nI_pos (by omega))) (fun _ => ?_)
    refine J_aload_n (i := 1) hT dX6_changeService_7 rfl rfl ?_
    refine R_getI hT fX6_104 rfl dX6_changeService_8 hk ?_
    refine J_topil (h1) ?_
    refine J_aload_n (i := 0) hT dX6_changeService_11 rfl rfl ?_
    refine R_getP hT fX6_37 rfl dX6_changeService_12 hB.k hB.p4 ?_
    refine R_alen hT dX6_changeService_15 (by rw [hB.k6]; decide) hB.l6 ?_
    refine J_icmp_lt (tgt := 20) hT dX6_changeService_16 (by decide) (fun _ => ?_) (fun q => absurd (nI_lt (a := s) (b := 5) (by omega) (by decide)) q)
    refine J_aload_n (i := 0) hT dX6_changeService_20 rfl rfl ?_
    refine R_getP hT fX6_37 rfl dX6_changeService_21 hB.k hB.p4 ?_
    refine J_aload_n (i := 1) hT dX6_changeService_24 rfl rfl ?_
    refine R_getI hT fX6_104 rfl dX6_changeService_25 hk ?_
    refine J_topil (h1) ?_
    refine R_aald1 hT dX6_changeService_28 hB.k6 (by decide) hB.l6 (by first | exact ⟨rfl, by decide⟩ | exact zix_nI (by omega) (by decide) | assumption) (hB.ps hs) ?_
    refine S_astore2 hT dX6_changeService_29 rfl rfl ?_
    refine J_aload_n (i := 1) hT dX6_changeService_30 rfl rfl ?_
    refine R_getI hT fX6_91 rfl dX6_changeService_31 hk ?_
    refine J_topil (hk0) ?_
    refine J_tableOut (tgt := 162) hT dX6_changeService_34 (by decide) (by decide) ?_
    refine J_aload_n (i := 2) hT dX6_changeService_162 rfl rfl ?_
    refine J_iconst (v := 0) hT dX6_changeService_163 rfl ?_
    refine R_putI hT fX6_159 rfl rfl dX6_changeService_164 (hB.ks hs) ?_
    exact J_vret hT dX6_changeService_167 rfl (⟨rfl, by rw [hset]; exact zE.ret (hM.lk ht (o := 25) (f := 1) (n := 5) (b := 92) (by decide) hs (Or.inr (by decide)) (by decide)) (zfT_u (zmu_s hs)) rfl (zch_u (by decide))⟩) (Nat.le_refl _) (Nat.le_refl _)


