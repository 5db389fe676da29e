/-! ===== what holds between two calls, call by call ===== -/
theorem zq_near {n : Nat} {σ σ' : zS2} (e : ∀ b, 73 < b → b < 107 → ∀ j, σ' b j = σ b j) (e3 : σ' 67 33 = σ 67 33) (e4 : σ' 67 34 = σ 67 34) : zq n σ σ' := by
  have h1 : ∀ b, b ∈ zqL → 73 < b ∧ b < 107 := by decide
  have h2 : ∀ b, b ∈ [98, 99, 100, 101, 102, 104] → 73 < b ∧ b < 107 := by decide
  exact zq_of (fun b hb j => e b (h1 b hb).1 (h1 b hb).2 j) e3 e4 (fun s _ _ => ⟨e 93 (by decide) (by decide) s, e 94 (by decide) (by decide) s⟩) (fun c _ _ => e 81 (by decide) (by decide) c) (fun c k _ _ => e 74 (by decide) (by decide) _) (fun b hb k _ => e b (h2 b hb).1 (h2 b hb).2 k) (fun k _ i _ => e 103 (by decide) (by decide) _)
theorem stX_q {n k : Nat} {S S' : zS2} (q : zq n S S') (hk : k < n) (h : stX S k) : stX S' k := by
  unfold stX at *
  rw [q.step 98 (by decide) k hk, q.step 100 (by decide) k hk, q.step 101 (by decide) k hk]
  exact h
theorem CV.q {n : Nat} {S S' : zS2} (h : CV n S) (q : zq n S S') (he : S' 67 42 = S 67 42) : CV n S' := ⟨h.1.mv q he, h.2.1.mv (Nat.le_refl n) h.1.2.2.1 q.zof q.zst, fun k hk => stX_q q hk (h.2.2 k hk)⟩
theorem zkp_out {b : Nat} (h : b < 67 ∨ 107 ≤ b) (j : Nat) : zkp b j := by unfold zkp; omega
theorem zkp_67 {j : Nat} (h : j ≠ 33 ∧ j ≠ 34 ∧ j ≠ 44) : zkp 67 j := by unfold zkp; omega
theorem zkp_tx (j : Nat) : zkp 68 j := by unfold zkp; omega
theorem zkp_104 (j : Nat) : zkp 104 j := by unfold zkp; omega
theorem LW.m {n L : Nat} {μ : zMem} {σ : zS2} {π : zP2} (h : LW n L μ σ π) (i : Nat) (v : Int32) (hi : i = 44 ∨ i = 45) : LW n L μ (zu σ 67 i v) π := by
  have e : ∀ b, b ≠ 67 → ∀ j, zu σ 67 i v b j = σ b j := fun b hb j => zu_ne _ _ _ _ hb j
  have e7 : ∀ j, j ≠ i → zu σ 67 i v 67 j = σ 67 j := fun j hj => zu_nj _ _ _ _ _ hj
  have q : zq n σ (zu σ 67 i v) := zq_near (fun b h1 _ j => e b (by omega) j) (e7 33 (by omega)) (e7 34 (by omega))
  exact h.ref q (e7 1 (by omega)) (fun j => e 68 (by decide) j) (fun b hb j => e b (by omega) j) (h.2.1.q q (e7 42 (by omega))) (h.2.2.1.mv (e7 1 (by omega)) (fun j => e 68 (by decide) j)) (fun k => by unfold stN; rw [e 104 (by decide)]; exact h.2.2.2.1 k)
theorem LW.cl {n L : Nat} {μ μ' : zMem} {σ σc : zS2} {π πc : zP2} {g gc : zG2} (h : LW n L μ σ π) (hg : zgr μ μ') (hC : CW n σ μ' σc πc) (hz : zcl σ σc π πc g gc) : LW n L μ' σc πc := by
  have e : ∀ b, 67 ≤ b → b < 107 → ∀ j, σc b j = σ b j := fun b h1 h2 j => (hz b h1 h2 j).1
  have e7 : ∀ j, σc 67 j = σ 67 j := e 67 (by decide) (by decide)
  have q : zq n σ σc := zq_near (fun b h1 h2 j => e b (by omega) h2 j) (e7 33) (e7 34)
  have hs : ∀ k, stN σc k ≤ 30 := fun k => by unfold stN; rw [e 104 (by decide) (by decide)]; exact h.2.2.2.1 k
  exact h.both hg hC hz q (fun k _ => h.2.2.2.1 k) (e7 1) (fun i => e 68 (by decide) (by decide) i) (fun _ _ _ _ => rfl) (fun _ _ _ => rfl) (h.2.1.q q (e7 42)) (h.2.2.1.mv (e7 1) (fun i => e 68 (by decide) (by decide) i)) hs (zq_refl _ _) rfl (fun _ => rfl) (fun k _ => hs k)
/-- a step of both sides, from states that agree but for junk -/
theorem LW.keep {n L : Nat} {μ μ' : zMem} {σ S0 S1 σc : zS2} {π πc : zP2} {g gc : zG2} (h : LW n L μ σ π) (hn : n < 40) {w a b c : Int32}
    (hV : CV n S1) (k0 : stepV (kpS S0 n w a b c) n) (ks : KS n S1 w a b c) (e : ∀ x, 73 < x → x < 107 → ∀ j, S1 x j = S0 x j) (e7 : ∀ j, j ≠ 45 → j ≠ 3 → j ≠ 5 → S1 67 j = S0 67 j) (e67 : S0 67 1 = σ 67 1) (e68 : ∀ j, S1 68 j = S0 68 j ∧ S0 68 j = σ 68 j) (e104 : ∀ k, stN S0 k ≤ 30) (ho : ∀ x, x < 67 ∨ 107 ≤ x → ∀ j, S1 x j = σc x j) (e45 : S1 67 45 = 0)
    (hC : CW (n + 1) (doF (kpS S0 n w a b c) n).1 μ' σc πc) (hg : zgr μ μ') (hz : zcl σ σc π πc g gc) :
    LW (n + 1) L μ' (doF (kpS S1 n w a b c) n).1 πc ∧ (doF (kpS S1 n w a b c) n).2 = (doF (kpS S0 n w a b c) n).2 ∧ (doF (kpS S1 n w a b c) n).1 67 45 = 0 := by
  have ek : ∀ x, 73 < x → x < 107 → ∀ j, kpS S1 n w a b c x j = kpS S0 n w a b c x j := fun x h1 h2 j => by
    simp only [kpS, zu, e x h1 h2 j, e7 34 (by decide) (by decide) (by decide)]
  have ek7 : ∀ X : zS2, ∀ j, j ≠ 42 → kpS X n w a b c 67 j = X 67 j := fun X j hj => by simp [kpS, zu, hj]
  have qk : zq (n + 1) (kpS S0 n w a b c) (kpS S1 n w a b c) := zq_near ek ((ek7 S1 33 (by decide)).trans ((e7 33 (by decide) (by decide) (by decide)).trans (ek7 S0 33 (by decide)).symm)) ((ek7 S1 34 (by decide)).trans ((e7 34 (by decide) (by decide) (by decide)).trans (ek7 S0 34 (by decide)).symm))
  obtain ⟨hd1, hd2⟩ := doF_q qk (Nat.lt_succ_self n) k0
  have f1 : ∀ X : zS2, zkf (kpS X n w a b c) (doF (kpS X n w a b c) n).1 := fun X => doF_k _ _
  have m1 : ∀ X : zS2, ∀ j, j ≠ 42 → j ≠ 33 ∧ j ≠ 34 ∧ j ≠ 44 → (doF (kpS X n w a b c) n).1 67 j = X 67 j := fun X j h1 h2 => (f1 X 67 j (zkp_67 h2)).trans (ek7 X j h1)
  have m8 : ∀ X : zS2, ∀ j, (doF (kpS X n w a b c) n).1 68 j = X 68 j := fun X j => (f1 X 68 j (zkp_tx j)).trans (kp_ne _ _ _ _ _ _ (by decide) j)
  have m4 : ∀ X : zS2, ∀ k, stN (doF (kpS X n w a b c) n).1 k = stN X k := fun X k => by unfold stN; rw [f1 X 104 k (zkp_104 k), kp_ne _ _ _ _ _ _ (by decide)]
  have s104 : ∀ k, stN S1 k ≤ 30 := fun k => by unfold stN; rw [e 104 (by decide) (by decide)]; exact e104 k
  obtain ⟨ks1, ks2, ks3, -, -, E, ks4, ks5, ks6⟩ := ks
  have hT := h.2.2.1
  have hV1 : CV (n + 1) (doF (kpS S1 n w a b c) n).1 := ⟨hV.1.keep hn ⟨ks1, ks3⟩, hV.2.1.step hV.1 (kpS_q _ _ _ _ _ _) ks1 ks4 ks5 ks6, fun k hk => stX_zkf (f1 S1) (by
    by_cases q : k = n
    · rw [q]; exact ks2
    · exact stX_q (kpS_q S1 n w a b c) (by omega) (hV.2.2 k (by omega)))⟩
  refine ⟨h.both hg hC hz hd1 (fun k _ => by rw [m4]; exact e104 k) ?_ (fun i => by rw [m8, m8]; exact (e68 i).1) (fun _ _ _ _ => rfl) (fun x hx j => ?_) hV1 (hT.mv ?_ (fun i => by rw [m8]; exact (e68 i).1.trans (e68 i).2)) (fun k => by rw [m4]; exact s104 k) (zq_refl _ _) rfl (fun _ => rfl) (fun k _ => by rw [m4]; exact s104 k), hd2, (m1 S1 45 (by decide) (by decide)).trans e45⟩
  · rw [m1 S1 1 (by decide) (by decide), m1 S0 1 (by decide) (by decide)]; exact e7 1 (by decide) (by decide) (by decide)
  · rw [f1 S1 x j (zkp_out hx j), kp_ne _ _ _ _ _ _ (by simp only [List.mem_cons, List.not_mem_nil, or_false]; omega)]; exact ho x hx j
  · rw [m1 S1 1 (by decide) (by decide)]; exact (e7 1 (by decide) (by decide) (by decide)).trans e67
theorem LW.step {n L : Nat} {μ μ' : zMem} {σ σc : zS2} {π πc : zP2} {g gc : zG2} (h : LW n L μ σ π) (hn : n < 40) {w a b c : Int32} (hk : ∀ S, CV n S → S 67 34 = σ 67 34 → KS n S w a b c)
    (hC : CW (n + 1) (doF (kpS σ n w a b c) n).1 μ' σc πc) (hg : zgr μ μ') (hz : zcl σ σc π πc g gc) :
    LW (n + 1) L μ' (doF (kpS (zu σc 67 45 0) n w a b c) n).1 πc ∧ (doF (kpS (zu σc 67 45 0) n w a b c) n).2 = (doF (kpS σ n w a b c) n).2 ∧ (doF (kpS (zu σc 67 45 0) n w a b c) n).1 67 45 = 0 := by
  have e : ∀ b, 67 ≤ b → b < 107 → ∀ j, σc b j = σ b j := fun b h1 h2 j => (hz b h1 h2 j).1
  have e1 : ∀ b, b ≠ 67 → ∀ j, zu σc 67 45 0 b j = σc b j := fun b hb j => zu_ne _ _ _ _ hb j
  have e7 : ∀ j, j ≠ 45 → zu σc 67 45 0 67 j = σ 67 j := fun j hj => (zu_nj _ _ _ _ _ hj).trans (e 67 (by decide) (by decide) j)
  have q : zq n σ (zu σc 67 45 0) := zq_near (fun b h1 h2 j => (e1 b (by omega) j).trans (e b (by omega) h2 j)) (e7 33 (by decide)) (e7 34 (by decide))
  have hV := h.2.1.q q (e7 42 (by decide))
  exact h.keep hn hV (hk σ h.2.1 rfl).1 (hk _ hV (e7 34 (by decide))) (fun x h1 h2 j => (e1 x (by omega) j).trans (e x (by omega) h2 j)) (fun j hj _ _ => e7 j hj) rfl (fun j => ⟨(e1 68 (by decide) j).trans (e 68 (by decide) (by decide) j), rfl⟩) h.2.2.2.1 (fun x hx j => e1 x (by omega) j) (zu_eq _ _ _ _) hC hg hz
theorem LW.undo {n L : Nat} {μ μ' : zMem} {σ σc : zS2} {π πc : zP2} {g gc : zG2} (h : LW (n + 1) L μ σ π) (hC : CW n (rpF (zu σ 67 42 (nI n)) n) μ' σc πc) (hg : zgr μ μ') (hz : zcl σ σc π πc g gc) :
    LW n L μ' (rpF (zu (zu σc 67 45 0) 67 42 (nI n)) n) πc ∧ rpF (zu (zu σc 67 45 0) 67 42 (nI n)) n 67 45 = 0 := by
  have e : ∀ b, 67 ≤ b → b < 107 → ∀ j, σc b j = σ b j := fun b h1 h2 j => (hz b h1 h2 j).1
  obtain ⟨S0, hS0⟩ : ∃ S0, S0 = zu σc 67 45 0 := ⟨_, rfl⟩
  have e1 : ∀ b, b ≠ 67 → ∀ j, S0 b j = σc b j := fun b hb j => by rw [hS0]; exact zu_ne _ _ _ _ hb j
  have e7 : ∀ j, j ≠ 45 → S0 67 j = σ 67 j := fun j hj => by rw [hS0]; exact (zu_nj _ _ _ _ _ hj).trans (e 67 (by decide) (by decide) j)
  have e45 : S0 67 45 = 0 := by rw [hS0]; exact zu_eq _ _ _ _
  have q0 : zq (n + 1) σ S0 := zq_near (fun b h1 h2 j => (e1 b (by omega) j).trans (e b (by omega) h2 j)) (e7 33 (by decide)) (e7 34 (by decide))
  have hV0 := h.2.1.q q0 (e7 42 (by decide))
  rw [← hS0]
  obtain ⟨Sa, hSa⟩ : ∃ Sa, Sa = zu σ 67 42 (nI n) := ⟨_, rfl⟩
  obtain ⟨Sb, hSb⟩ : ∃ Sb, Sb = zu S0 67 42 (nI n) := ⟨_, rfl⟩
  rw [← hSa] at hC
  rw [← hSb]
  have a1 : ∀ b, b ≠ 67 → ∀ j, Sa b j = σ b j := fun b hb j => by rw [hSa]; exact zu_ne _ _ _ _ hb j
  have a7 : ∀ j, j ≠ 42 → Sa 67 j = σ 67 j := fun j hj => by rw [hSa]; exact zu_nj _ _ _ _ _ hj
  have b1 : ∀ b, b ≠ 67 → ∀ j, Sb b j = S0 b j := fun b hb j => by rw [hSb]; exact zu_ne _ _ _ _ hb j
  have b7 : ∀ j, j ≠ 42 → Sb 67 j = S0 67 j := fun j hj => by rw [hSb]; exact zu_nj _ _ _ _ _ hj
  have qa : zq (n + 1) σ Sa := zq_near (fun b h1 _ j => a1 b (by omega) j) (a7 33 (by decide)) (a7 34 (by decide))
  have qb : zq (n + 1) S0 Sb := zq_near (fun b h1 _ j => b1 b (by omega) j) (b7 33 (by decide)) (b7 34 (by decide))
  have qab : zq (n + 1) Sa Sb := zq_trans (zq_symm qa) (zq_trans q0 qb)
  have sa : ∀ k, k < n + 1 → stepV Sa k := fun k hk => stepV_q qa hk (h.2.1.1.2.2.1 k hk)
  have sb : ∀ k, k < n + 1 → stepV Sb k := fun k hk => stepV_q qb hk (hV0.1.2.2.1 k hk)
  have hqq : zq n (rpF Sa n) (rpF Sb n) := rpF_q qab.zof (zq_less qab (Nat.le_succ n)).zst (fun k hk => sa k (by omega)) n (Nat.le_refl n)
  have fa := rpF_k Sa n
  have fb := rpF_k Sb n
  have s0 : ∀ k, stN S0 k ≤ 30 := fun k => by unfold stN; rw [e1 104 (by decide), e 104 (by decide) (by decide)]; exact h.2.2.2.1 k
  have na : ∀ k, stN (rpF Sa n) k ≤ 30 := fun k => by unfold stN; rw [fa 104 k (zkp_104 k), a1 104 (by decide)]; exact h.2.2.2.1 k
  have nb : ∀ k, stN (rpF Sb n) k ≤ 30 := fun k => by unfold stN; rw [fb 104 k (zkp_104 k), b1 104 (by decide)]; exact s0 k
  have hRV : RV n (rpF Sb n) := by rw [hSb]; exact hV0.1.undo
  have hRT : RT n (rpF Sb n) := by
    have r1 : RT (n + 1) Sb := hV0.2.1.mv (Nat.le_refl _) hV0.1.2.2.1 qb.zof qb.zst
    exact r1.mv (Nat.le_succ n) sb (rpF_f Sb (fun k hk => sb k (by omega))) (zst_k fb)
  have hCV : CV n (rpF Sb n) := ⟨hRV, hRT, fun k hk => stX_zkf fb (stX_q qb (by omega) (hV0.2.2 k (by omega)))⟩
  have w1 : rpF Sb n 67 1 = σ 67 1 := (fb 67 1 (zkp_67 (by decide))).trans ((b7 1 (by decide)).trans (e7 1 (by decide)))
  have w8 : ∀ i, rpF Sb n 68 i = σ 68 i := fun i => (fb 68 i (zkp_tx i)).trans ((b1 68 (by decide) i).trans ((e1 68 (by decide) i).trans (e 68 (by decide) (by decide) i)))
  have v1 : rpF Sa n 67 1 = σ 67 1 := (fa 67 1 (zkp_67 (by decide))).trans (a7 1 (by decide))
  have v8 : ∀ i, rpF Sa n 68 i = σ 68 i := fun i => (fa 68 i (zkp_tx i)).trans (a1 68 (by decide) i)
  refine ⟨h.both hg hC hz hqq (fun k _ => na k) (w1.trans v1.symm) (fun i => (w8 i).trans (v8 i).symm) (fun _ _ _ _ => rfl) (fun x hx j => ?_) hCV (h.2.2.1.mv w1 w8) nb (zq_refl _ _) rfl (fun _ => rfl) (fun k _ => nb k), (fb 67 45 (zkp_67 (by decide))).trans ((b7 45 (by decide)).trans e45)⟩
  rw [fb x j (zkp_out hx j), b1 x (by omega), e1 x (by omega)]
theorem LW.trial {n L E : Nat} {μ : zMem} {σ S : zS2} {π : zP2} (h : LW n L μ σ π) (hS : S = zu σ 67 45 0) : LW n L μ (rpF (trF S E n) n) π ∧ rpF (trF S E n) n 67 45 = 0 := by
  have h0 := h.m 45 0 (Or.inr rfl)
  rw [← hS] at h0
  obtain ⟨r1, r2⟩ := h0.2.1.1.trial E
  have f := zkf_trans (trF_k S E n) (rpF_k (trF S E n) n)
  have w1 := f 67 1 (zkp_67 (by decide))
  have w8 : ∀ i, rpF (trF S E n) n 68 i = S 68 i := fun i => f 68 i (zkp_tx i)
  exact ⟨h0.ref r2 w1 w8 (fun b hb j => f b j (zkp_out hb j)) (h0.2.1.q r2 (f 67 42 (zkp_67 (by decide)))) (h0.2.2.1.mv w1 w8) (fun k => by unfold stN; rw [f 104 k (zkp_104 k)]; exact h0.2.2.2.1 k), (f 67 45 (zkp_67 (by decide))).trans (by rw [hS]; exact zu_eq _ _ _ _)⟩
theorem LW.pf {n L : Nat} {μ : zMem} {σ σ' : zS2} {π : zP2} (h : LW n L μ σ π) (hz : zpf σ σ') : LW n L μ σ' π := by
  have q : zq n σ σ' := zq_f hz
  have m1 : ∀ j, j ≠ 3 → j ≠ 5 → σ' 67 j = σ 67 j := fun j h1 h2 => hz 67 j (by decide) (by decide) (by decide) (by decide) (by decide) (by omega)
  have w8 : ∀ i, σ' 68 i = σ 68 i := fun i => hz 68 i (by decide) (by decide) (by decide) (by decide) (by decide) (by omega)
  exact h.ref q (m1 1 (by decide) (by decide)) w8 (fun b hb j => hz b j (by omega) (by omega) (by omega) (by omega) (by omega) (by omega)) (h.2.1.q q (m1 42 (by decide) (by decide))) (h.2.2.1.mv (m1 1 (by decide) (by decide)) w8) (fun k => by unfold stN; rw [hz 104 k (by decide) (by decide) (by decide) (by decide) (by decide) (by omega)]; exact h.2.2.2.1 k)
/-- the text goes on, on both sides -/
theorem LW.txt {n L L' : Nat} {μ : zMem} {σ σc σr S : zS2} {π : zP2} (h : LW n L μ σ π) (hC : CW n S μ σc π) (hp : zPf2 σ σc) (hS : ∀ b j, b ≠ 68 → ¬ (b = 67 ∧ j = 1) → S b j = σ b j) (hr : ∀ b j, b ≠ 68 → ¬ (b = 67 ∧ (j = 1 ∨ j = 45)) → σr b j = σc b j) (h1 : σr 67 1 = S 67 1) (h8 : ∀ i, σr 68 i = S 68 i) (hT : TX L' σr) : LW n L' μ σr π := by
  have hz : ∀ g : zG2, zcl σ σc π π g g := fun g b h1 _ j => ⟨hp b j (by omega) (by omega), rfl, rfl⟩
  have er : ∀ b, 68 < b → b < 107 → ∀ j, σr b j = σ b j := fun b h1 h2 j => (hr b j (by omega) (by omega)).trans (hp b j (by omega) (by omega))
  have e7 : ∀ j, j ≠ 1 → j ≠ 45 → σr 67 j = σ 67 j := fun j a1 a2 => (hr 67 j (by decide) (by omega)).trans (hp 67 j (by decide) (by decide))
  have q : zq n σ σr := zq_near (fun b h1 h2 j => er b (by omega) h2 j) (e7 33 (by decide) (by decide)) (e7 34 (by decide) (by decide))
  have qS : zq n S σ := zq_near (fun b h1 _ j => (hS b j (by omega) (by omega)).symm) (hS 67 33 (by decide) (by decide)).symm (hS 67 34 (by decide) (by decide)).symm
  have s1 : ∀ k, stN S k ≤ 30 := fun k => by unfold stN; rw [hS 104 k (by decide) (by omega)]; exact h.2.2.2.1 k
  have s2 : ∀ k, stN σr k ≤ 30 := fun k => by unfold stN; rw [er 104 (by decide) (by decide)]; exact h.2.2.2.1 k
  exact h.both zgr.rf hC (hz (fun _ _ => 0)) (zq_trans qS q) (fun k _ => s1 k) h1 h8 (fun _ _ _ _ => rfl) (fun x hx j => hr x j (by omega) (by omega)) (h.2.1.q q (e7 42 (by decide) (by decide))) hT s2 (zq_refl _ _) rfl (fun _ => rfl) (fun k _ => s2 k)

