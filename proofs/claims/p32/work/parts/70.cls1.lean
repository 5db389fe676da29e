/-! ===== the class's table: its memory at t, mirrored by a state S of the reference's form ===== -/
abbrev zS2 : Type := Nat → Nat → Int32
abbrev zP2 : Type := Nat → Nat → Option Nat
abbrev zG2 : Type := Nat → Nat → Int64
/-- place of a Table's part (offset, field, how many) and the reference's array -/
def lks : List (Nat × Nat × Nat × Nat) := [(8, 2, 12, 88), (8, 4, 12, 80), (8, 3, 12, 79), (20, 0, 5, 90), (20, 1, 5, 91), (25, 1, 5, 92), (25, 2, 5, 82), (25, 3, 5, 83), (25, 4, 5, 84), (25, 5, 5, 85), (25, 6, 5, 86), (25, 7, 5, 87), (25, 8, 5, 95), (25, 9, 5, 96), (25, 10, 5, 97)]
def Im (b : Nat) : Prop := b = 6 ∨ b = 7 ∨ b = 36 ∨ b = 37 ∨ 70 ≤ b
def ta (t : Nat) : Prop := t = 5 ∨ t = 35
def zmu (t b : Nat) : Prop := b = t ∨ b = t + 7 ∨ (t + 8 ≤ b ∧ b < t + 30)
def zmp (t b j : Nat) : Prop := b = t + 4 ∨ (t + 8 ≤ b ∧ b < t + 20 ∧ j = 1)
def zfT (t : Nat) (σ σ' : zS2) : Prop := ∀ b j, ¬ zmu t b → σ' b j = σ b j
def zfP (t : Nat) (π π' : zP2) : Prop := ∀ b j, ¬ zmp t b j → π' b j = π b j
theorem zfT.rf {t : Nat} {σ : zS2} : zfT t σ σ := fun _ _ _ => rfl
theorem zfP.rf {t : Nat} {π : zP2} : zfP t π π := fun _ _ _ => rfl
theorem zfT.tr {t : Nat} {σ σ1 σ2 : zS2} (h : zfT t σ σ1) (h2 : zfT t σ1 σ2) : zfT t σ σ2 := fun b j q => (h2 b j q).trans (h b j q)
theorem zfP.tr {t : Nat} {σ σ1 σ2 : zP2} (h : zfP t σ σ1) (h2 : zfP t σ1 σ2) : zfP t σ σ2 := fun b j q => (h2 b j q).trans (h b j q)
theorem zu_n (σ : zS2) (a i : Nat) (v : Int32) {b j : Nat} (h : ¬ (b = a ∧ j = i)) : zu σ a i v b j = σ b j := by simp only [zu, if_neg h]
theorem zup_n (π : zP2) (a i : Nat) (v : Option Nat) {b j : Nat} (h : ¬ (b = a ∧ j = i)) : zup π a i v b j = π b j := by simp only [zup, if_neg h]
theorem zup_eq (π : zP2) (a i : Nat) (v : Option Nat) : zup π a i v a i = v := by simp [zup]
theorem zfT_u {t a i : Nat} {σ : zS2} {v : Int32} (h : zmu t a) : zfT t σ (zu σ a i v) := fun b j q => zu_n _ _ _ _ (fun e => q (e.1 ▸ h))
theorem zfP_u {t a i : Nat} {π : zP2} {v : Option Nat} (h : zmp t a i) : zfP t π (zup π a i v) := fun b j q => zup_n _ _ _ _ (fun e => q (by rw [e.1, e.2]; exact h))
theorem zfT.im {t : Nat} (ht : ta t) {σ σ' : zS2} (h : zfT t σ σ') {b : Nat} (hb : Im b) (j : Nat) : σ' b j = σ b j := h b j (by unfold Im at hb; unfold ta at ht; unfold zmu; omega)
theorem zfP.im {t : Nat} (ht : ta t) {σ σ' : zP2} (h : zfP t σ σ') {b : Nat} (hb : Im b) (j : Nat) : σ' b j = σ b j := h b j (by unfold Im at hb; unfold ta at ht; unfold zmp; omega)
/-- shapes that grow -/
def zgr (μ μ' : zMem) : Prop := zN μ ≤ zN μ' ∧ ∀ b, b < zN μ → zK μ' b = zK μ b ∧ zL μ' b = zL μ b
theorem zgr.rf {μ : zMem} : zgr μ μ := ⟨Nat.le_refl _, fun _ _ => ⟨rfl, rfl⟩⟩
theorem zgr.tr {μ μ1 μ2 : zMem} (h : zgr μ μ1) (h2 : zgr μ1 μ2) : zgr μ μ2 := ⟨Nat.le_trans h.1 h2.1, fun b hb => ⟨((h2.2 b (Nat.lt_of_lt_of_le hb h.1)).1).trans (h.2 b hb).1, ((h2.2 b (Nat.lt_of_lt_of_le hb h.1)).2).trans (h.2 b hb).2⟩⟩
/-- a Table's shape -/
def zTb (t : Nat) (μ : zMem) (π : zP2) : Prop :=
  t + 30 ≤ zN μ ∧ zK μ t = 6 + 8 ∧ π t 0 = some (t + 1) ∧ (π t 1 = some (t + 3) ∧ zK μ (t + 3) = 4 ∧ zL μ (t + 3) = 12) ∧ (π t 2 = some (t + 4) ∧ zK μ (t + 4) = 4 ∧ zL μ (t + 4) = 12) ∧ (π t 3 = some (t + 5) ∧ zK μ (t + 5) = 5 ∧ zL μ (t + 5) = 5) ∧ (π t 4 = some (t + 6) ∧ zK μ (t + 6) = 6 ∧ zL μ (t + 6) = 5) ∧ (π t 5 = some (t + 7) ∧ zK μ (t + 7) = 0 ∧ zL μ (t + 7) = 33)
  ∧ (∀ i, i < 12 → π (t + 3) i = some (t + 8 + i) ∧ zK μ (t + 8 + i) = 0 + 8) ∧ (∀ i, i < 5 → π (t + 5) i = some (t + 20 + i) ∧ zK μ (t + 20 + i) = 3 + 8) ∧ (∀ i, i < 5 → π (t + 6) i = some (t + 25 + i) ∧ zK μ (t + 25 + i) = 4 + 8)
theorem zTb.n {t : Nat} {μ : zMem} {π : zP2} (h : zTb t μ π) : t + 30 ≤ zN μ := h.1
theorem zTb.k {t : Nat} {μ : zMem} {π : zP2} (h : zTb t μ π) : zK μ t = 6 + 8 := h.2.1
theorem zTb.p0 {t : Nat} {μ : zMem} {π : zP2} (h : zTb t μ π) : π t 0 = some (t + 1) := h.2.2.1
theorem zTb.p1 {t : Nat} {μ : zMem} {π : zP2} (h : zTb t μ π) : π t 1 = some (t + 3) := h.2.2.2.1.1
theorem zTb.k3 {t : Nat} {μ : zMem} {π : zP2} (h : zTb t μ π) : zK μ (t + 3) = 4 := h.2.2.2.1.2.1
theorem zTb.l3 {t : Nat} {μ : zMem} {π : zP2} (h : zTb t μ π) : zL μ (t + 3) = 12 := h.2.2.2.1.2.2
theorem zTb.p2 {t : Nat} {μ : zMem} {π : zP2} (h : zTb t μ π) : π t 2 = some (t + 4) := h.2.2.2.2.1.1
theorem zTb.k4 {t : Nat} {μ : zMem} {π : zP2} (h : zTb t μ π) : zK μ (t + 4) = 4 := h.2.2.2.2.1.2.1
theorem zTb.l4 {t : Nat} {μ : zMem} {π : zP2} (h : zTb t μ π) : zL μ (t + 4) = 12 := h.2.2.2.2.1.2.2
theorem zTb.p3 {t : Nat} {μ : zMem} {π : zP2} (h : zTb t μ π) : π t 3 = some (t + 5) := h.2.2.2.2.2.1.1
theorem zTb.k5 {t : Nat} {μ : zMem} {π : zP2} (h : zTb t μ π) : zK μ (t + 5) = 5 := h.2.2.2.2.2.1.2.1
theorem zTb.l5 {t : Nat} {μ : zMem} {π : zP2} (h : zTb t μ π) : zL μ (t + 5) = 5 := h.2.2.2.2.2.1.2.2
theorem zTb.p4 {t : Nat} {μ : zMem} {π : zP2} (h : zTb t μ π) : π t 4 = some (t + 6) := h.2.2.2.2.2.2.1.1
theorem zTb.k6 {t : Nat} {μ : zMem} {π : zP2} (h : zTb t μ π) : zK μ (t + 6) = 6 := h.2.2.2.2.2.2.1.2.1
theorem zTb.l6 {t : Nat} {μ : zMem} {π : zP2} (h : zTb t μ π) : zL μ (t + 6) = 5 := h.2.2.2.2.2.2.1.2.2
theorem zTb.p5 {t : Nat} {μ : zMem} {π : zP2} (h : zTb t μ π) : π t 5 = some (t + 7) := h.2.2.2.2.2.2.2.1.1
theorem zTb.k7 {t : Nat} {μ : zMem} {π : zP2} (h : zTb t μ π) : zK μ (t + 7) = 0 := h.2.2.2.2.2.2.2.1.2.1
theorem zTb.l7 {t : Nat} {μ : zMem} {π : zP2} (h : zTb t μ π) : zL μ (t + 7) = 33 := h.2.2.2.2.2.2.2.1.2.2
theorem zTb.pc {t : Nat} {μ : zMem} {π : zP2} (h : zTb t μ π) {i : Nat} (hi : i < 12) : π (t + 3) i = some (t + 8 + i) := (h.2.2.2.2.2.2.2.2.1 i hi).1
theorem zTb.kc {t : Nat} {μ : zMem} {π : zP2} (h : zTb t μ π) {i : Nat} (hi : i < 12) : zK μ (t + 8 + i) = 0 + 8 := (h.2.2.2.2.2.2.2.2.1 i hi).2
theorem zTb.pr {t : Nat} {μ : zMem} {π : zP2} (h : zTb t μ π) {i : Nat} (hi : i < 5) : π (t + 5) i = some (t + 20 + i) := (h.2.2.2.2.2.2.2.2.2.1 i hi).1
theorem zTb.kr {t : Nat} {μ : zMem} {π : zP2} (h : zTb t μ π) {i : Nat} (hi : i < 5) : zK μ (t + 20 + i) = 3 + 8 := (h.2.2.2.2.2.2.2.2.2.1 i hi).2
theorem zTb.ps {t : Nat} {μ : zMem} {π : zP2} (h : zTb t μ π) {i : Nat} (hi : i < 5) : π (t + 6) i = some (t + 25 + i) := (h.2.2.2.2.2.2.2.2.2.2 i hi).1
theorem zTb.ks {t : Nat} {μ : zMem} {π : zP2} (h : zTb t μ π) {i : Nat} (hi : i < 5) : zK μ (t + 25 + i) = 4 + 8 := (h.2.2.2.2.2.2.2.2.2.2 i hi).2
theorem zTb.mv {t : Nat} {μ μ' : zMem} {π π' : zP2} (h : zTb t μ π) (hg : zgr μ μ') (hp : ∀ b j, t ≤ b → b < t + 30 → ¬ zmp t b j → π' b j = π b j) : zTb t μ' π' := by
  have hn := h.n
  have gk : ∀ i, i < 30 → zK μ' (t + i) = zK μ (t + i) := fun i hi => (hg.2 _ (by omega)).1
  have gl : ∀ i, i < 30 → zL μ' (t + i) = zL μ (t + i) := fun i hi => (hg.2 _ (by omega)).2
  have gp : ∀ b j, t ≤ b → b < t + 8 → b ≠ t + 4 → π' b j = π b j := fun b j h1 h2 h3 => hp b j h1 (by omega) (by unfold zmp; omega)
  refine ⟨by have := hg.1; omega, by have := gk 0 (by omega); rw [Nat.add_zero] at this; rw [this]; exact h.k, ?_, ⟨?_, ?_, ?_⟩, ⟨?_, ?_, ?_⟩, ⟨?_, ?_, ?_⟩, ⟨?_, ?_, ?_⟩, ⟨?_, ?_, ?_⟩, fun i hi => ⟨?_, ?_⟩, fun i hi => ⟨?_, ?_⟩, fun i hi => ⟨?_, ?_⟩⟩
  · rw [gp t 0 (by omega) (by omega) (by omega)]; exact h.p0
  · rw [gp t 1 (by omega) (by omega) (by omega)]; exact h.p1
  · rw [gk 3 (by omega)]; exact h.k3
  · rw [gl 3 (by omega)]; exact h.l3
  · rw [gp t 2 (by omega) (by omega) (by omega)]; exact h.p2
  · rw [gk 4 (by omega)]; exact h.k4
  · rw [gl 4 (by omega)]; exact h.l4
  · rw [gp t 3 (by omega) (by omega) (by omega)]; exact h.p3
  · rw [gk 5 (by omega)]; exact h.k5
  · rw [gl 5 (by omega)]; exact h.l5
  · rw [gp t 4 (by omega) (by omega) (by omega)]; exact h.p4
  · rw [gk 6 (by omega)]; exact h.k6
  · rw [gl 6 (by omega)]; exact h.l6
  · rw [gp t 5 (by omega) (by omega) (by omega)]; exact h.p5
  · rw [gk 7 (by omega)]; exact h.k7
  · rw [gl 7 (by omega)]; exact h.l7
  · rw [gp (t + 3) i (by omega) (by omega) (by omega)]; exact h.pc hi
  · rw [Nat.add_assoc, gk (8 + i) (by omega), ← Nat.add_assoc]; exact h.kc hi
  · rw [gp (t + 5) i (by omega) (by omega) (by omega)]; exact h.pr hi
  · rw [Nat.add_assoc, gk (20 + i) (by omega), ← Nat.add_assoc]; exact h.kr hi
  · rw [gp (t + 6) i (by omega) (by omega) (by omega)]; exact h.ps hi
  · rw [Nat.add_assoc, gk (25 + i) (by omega), ← Nat.add_assoc]; exact h.ks hi
theorem zTb.fp {t : Nat} {μ : zMem} {π π' : zP2} (h : zTb t μ π) (hp : zfP t π π') : zTb t μ π' := h.mv zgr.rf (fun b j _ _ q => hp b j q)
/-- a Formula that says the codes w 0 .. w (n - 1) and the sets a, b, c of what it reads -/
def enc (x : Nat) : Int32 := nI (if x < 20000 then 16 * x else if x < 21000 then 16 * (x - 20000) + 1 else if x < 22000 then 16 * (x - 21000) + 2 else if x < 30000 then 16 * (x - 22000) + 3 else x - 30001 + 4)
def zFo (μ : zMem) (σ : zS2) (π : zP2) (f : Nat) (w : Nat → Nat) (n : Nat) (a b c : Int32) : Prop :=
  Im f ∧ f < zN μ ∧ zK μ f = 1 + 8 ∧ (∀ i, i < 12 → bt (σ f 1) i = bt a i) ∧ (∀ i, i < 5 → bt (σ f 1) (12 + i) = bt b i) ∧ (∀ i, i < 5 → bt (σ f 1) (17 + i) = bt c i) ∧ (∀ i, 22 ≤ i → bt (σ f 1) i = false) ∧ ∃ ca, π f 0 = some ca ∧ Im ca ∧ ca < zN μ ∧ zK μ ca = 0 ∧ zL μ ca = n ∧ ∀ k, k < n → σ ca k = enc (w k)
theorem zFo.mv {μ μ' : zMem} {σ σ' : zS2} {π π' : zP2} {f n : Nat} {w w' : Nat → Nat} {a b c a' b' c' : Int32} (h : zFo μ σ π f w n a b c) (hg : zgr μ μ') (hs : ∀ b, Im b → b < zN μ → ∀ j, σ' b j = σ b j) (hp : ∀ b, Im b → b < zN μ → ∀ j, π' b j = π b j) (hw : ∀ k, k < n → w' k = w k) (ha : a' = a) (hb : b' = b) (hc : c' = c) : zFo μ' σ' π' f w' n a' b' c' := by
  obtain ⟨h1, h2, h3, h4, h5, h6, h7, ca, h8, h9, h10, h11, h12, h13⟩ := h
  subst ha; subst hb; subst hc
  refine ⟨h1, Nat.lt_of_lt_of_le h2 hg.1, by rw [(hg.2 f h2).1]; exact h3, by rw [hs f h1 h2]; exact h4, by rw [hs f h1 h2]; exact h5, by rw [hs f h1 h2]; exact h6, by rw [hs f h1 h2]; exact h7, ca, by rw [hp f h1 h2]; exact h8, h9, Nat.lt_of_lt_of_le h10 hg.1, by rw [(hg.2 ca h10).1]; exact h11, by rw [(hg.2 ca h10).2]; exact h12, fun k hk => by rw [hs ca h9 h10, hw k hk]; exact h13 k hk⟩
def zFc (μ : zMem) (σ : zS2) (π : zP2) (o : Option Nat) (S : zS2) (c : Nat) : Prop := ∃ f, o = some f ∧ zFo μ σ π f (cdw S c) (cdn S c) (S 76 c) (S 77 c) (S 78 c)
def dM (m : Int32) (S : zS2) : Prop := ∀ i, i < 32 → bt m i = (decide (i < 12) && decide (S 89 i ≠ 0))
def zNm (t : Nat) (σ : zS2) : Prop := (∀ i, i < 12 → σ (t + 8 + i) 0 = nI i) ∧ ∀ i, i < 5 → σ (t + 25 + i) 0 = nI i
def sM (t : Nat) (σ S : zS2) : Prop := ∀ s, s < 5 → S 92 s = 1 → σ (t + 25 + s) 11 = S 93 s ∧ σ (t + 25 + s) 12 = S 94 s
/-- the mirror, but for the order of the cells -/
def mi (t : Nat) (μ : zMem) (σ : zS2) (π : zP2) (S : zS2) : Prop :=
  zTb t μ π ∧ zNm t σ ∧ (∀ x, x ∈ lks → ∀ k, k < x.2.2.1 → σ (t + x.1 + k) x.2.1 = S x.2.2.2 k) ∧ dM (σ t 6) S ∧ σ t 7 = S 67 34 ∧ σ t 8 = S 67 33 ∧ sM t σ S ∧ ∀ c, c < 12 → zFc μ σ π (π (t + 8 + c) 1) S c
theorem mi.tb {t : Nat} {μ : zMem} {σ : zS2} {π : zP2} {S : zS2} (h : mi t μ σ π S) : zTb t μ π := h.1
theorem mi.nc {t : Nat} {μ : zMem} {σ : zS2} {π : zP2} {S : zS2} (h : mi t μ σ π S) {i : Nat} (hi : i < 12) : σ (t + 8 + i) 0 = nI i := h.2.1.1 i hi
theorem mi.ns {t : Nat} {μ : zMem} {σ : zS2} {π : zP2} {S : zS2} (h : mi t μ σ π S) {i : Nat} (hi : i < 5) : σ (t + 25 + i) 0 = nI i := h.2.1.2 i hi
theorem mi.lk {t : Nat} {μ : zMem} {σ : zS2} {π : zP2} {S : zS2} (h : mi t μ σ π S) {o f n b : Nat} (hx : (o, f, n, b) ∈ lks) {k : Nat} (hk : k < n) : σ (t + o + k) f = S b k := h.2.2.1 _ hx k hk
theorem mi.d {t : Nat} {μ : zMem} {σ : zS2} {π : zP2} {S : zS2} (h : mi t μ σ π S) : dM (σ t 6) S := h.2.2.2.1
theorem mi.w {t : Nat} {μ : zMem} {σ : zS2} {π : zP2} {S : zS2} (h : mi t μ σ π S) : σ t 7 = S 67 34 := h.2.2.2.2.1
theorem mi.wk {t : Nat} {μ : zMem} {σ : zS2} {π : zP2} {S : zS2} (h : mi t μ σ π S) : σ t 8 = S 67 33 := h.2.2.2.2.2.1
theorem mi.st {t : Nat} {μ : zMem} {σ : zS2} {π : zP2} {S : zS2} (h : mi t μ σ π S) : sM t σ S := h.2.2.2.2.2.2.1
theorem mi.fm {t : Nat} {μ : zMem} {σ : zS2} {π : zP2} {S : zS2} (h : mi t μ σ π S) {c : Nat} (hc : c < 12) : ∃ f, π (t + 8 + c) 1 = some f ∧ zFo μ σ π f (cdw S c) (cdn S c) (S 76 c) (S 77 c) (S 78 c) := h.2.2.2.2.2.2.2 c hc
theorem mi.val {t : Nat} {μ : zMem} {σ : zS2} {π : zP2} {S : zS2} (h : mi t μ σ π S) {i : Nat} (hi : i < 12) : σ (t + 8 + i) 2 = S 88 i := h.lk (o := 8) (f := 2) (n := 12) (b := 88) (by decide) hi
theorem mi.held {t : Nat} {μ : zMem} {σ : zS2} {π : zP2} {S : zS2} (h : mi t μ σ π S) {i : Nat} (hi : i < 12) : σ (t + 8 + i) 4 = S 80 i := h.lk (o := 8) (f := 4) (n := 12) (b := 80) (by decide) hi
theorem mi.dep {t : Nat} {μ : zMem} {σ : zS2} {π : zP2} {S : zS2} (h : mi t μ σ π S) {i : Nat} (hi : i < 12) : σ (t + 8 + i) 3 = S 79 i := h.lk (o := 8) (f := 3) (n := 12) (b := 79) (by decide) hi
theorem mi.rv {t : Nat} {μ : zMem} {σ : zS2} {π : zP2} {S : zS2} (h : mi t μ σ π S) {i : Nat} (hi : i < 5) : σ (t + 20 + i) 0 = S 90 i := h.lk (o := 20) (f := 0) (n := 5) (b := 90) (by decide) hi
theorem mi.rt {t : Nat} {μ : zMem} {σ : zS2} {π : zP2} {S : zS2} (h : mi t μ σ π S) {i : Nat} (hi : i < 5) : σ (t + 20 + i) 1 = S 91 i := h.lk (o := 20) (f := 1) (n := 5) (b := 91) (by decide) hi
theorem mi.sst {t : Nat} {μ : zMem} {σ : zS2} {π : zP2} {S : zS2} (h : mi t μ σ π S) {i : Nat} (hi : i < 5) : σ (t + 25 + i) 1 = S 92 i := h.lk (o := 25) (f := 1) (n := 5) (b := 92) (by decide) hi
theorem mi.ctl {t : Nat} {μ : zMem} {σ : zS2} {π : zP2} {S : zS2} (h : mi t μ σ π S) {i : Nat} (hi : i < 5) : σ (t + 25 + i) 2 = S 82 i := h.lk (o := 25) (f := 2) (n := 5) (b := 82) (by decide) hi
theorem mi.lim {t : Nat} {μ : zMem} {σ : zS2} {π : zP2} {S : zS2} (h : mi t μ σ π S) {i : Nat} (hi : i < 5) : σ (t + 25 + i) 3 = S 83 i := h.lk (o := 25) (f := 3) (n := 5) (b := 83) (by decide) hi
theorem mi.nds {t : Nat} {μ : zMem} {σ : zS2} {π : zP2} {S : zS2} (h : mi t μ σ π S) {i : Nat} (hi : i < 5) : σ (t + 25 + i) 4 = S 84 i := h.lk (o := 25) (f := 4) (n := 5) (b := 84) (by decide) hi
theorem mi.dem {t : Nat} {μ : zMem} {σ : zS2} {π : zP2} {S : zS2} (h : mi t μ σ π S) {i : Nat} (hi : i < 5) : σ (t + 25 + i) 5 = S 85 i := h.lk (o := 25) (f := 5) (n := 5) (b := 85) (by decide) hi
theorem mi.dly {t : Nat} {μ : zMem} {σ : zS2} {π : zP2} {S : zS2} (h : mi t μ σ π S) {i : Nat} (hi : i < 5) : σ (t + 25 + i) 6 = S 86 i := h.lk (o := 25) (f := 6) (n := 5) (b := 86) (by decide) hi
theorem mi.lie {t : Nat} {μ : zMem} {σ : zS2} {π : zP2} {S : zS2} (h : mi t μ σ π S) {i : Nat} (hi : i < 5) : σ (t + 25 + i) 7 = S 87 i := h.lk (o := 25) (f := 7) (n := 5) (b := 87) (by decide) hi
theorem mi.lod {t : Nat} {μ : zMem} {σ : zS2} {π : zP2} {S : zS2} (h : mi t μ σ π S) {i : Nat} (hi : i < 5) : σ (t + 25 + i) 8 = S 95 i := h.lk (o := 25) (f := 8) (n := 5) (b := 95) (by decide) hi
theorem mi.tld {t : Nat} {μ : zMem} {σ : zS2} {π : zP2} {S : zS2} (h : mi t μ σ π S) {i : Nat} (hi : i < 5) : σ (t + 25 + i) 9 = S 96 i := h.lk (o := 25) (f := 9) (n := 5) (b := 96) (by decide) hi
theorem mi.srt {t : Nat} {μ : zMem} {σ : zS2} {π : zP2} {S : zS2} (h : mi t μ σ π S) {i : Nat} (hi : i < 5) : σ (t + 25 + i) 10 = S 97 i := h.lk (o := 25) (f := 10) (n := 5) (b := 97) (by decide) hi
/-- the mirror looks at S in these places alone -/
theorem mi.S {t : Nat} {μ : zMem} {σ : zS2} {π : zP2} {S S' : zS2} (h : mi t μ σ π S) (hl : ∀ x, x ∈ lks → ∀ k, k < x.2.2.1 → S' x.2.2.2 k = S x.2.2.2 k) (hd : ∀ i, i < 12 → decide (S' 89 i ≠ 0) = decide (S 89 i ≠ 0)) (hn : S' 67 34 = S 67 34) (hw : S' 67 33 = S 67 33) (hs : ∀ s, s < 5 → S' 92 s = 1 → S' 93 s = S 93 s ∧ S' 94 s = S 94 s)
    (hf : ∀ c, c < 12 → S' 75 c = S 75 c ∧ S' 76 c = S 76 c ∧ S' 77 c = S 77 c ∧ S' 78 c = S 78 c ∧ ∀ k, k < cdn S c → S' 74 (30 * c + k) = S 74 (30 * c + k)) : mi t μ σ π S' := by
  refine ⟨h.1, h.2.1, fun x hx k hk => by rw [hl x hx k hk]; exact h.2.2.1 x hx k hk, fun i hi => ?_, by rw [hn]; exact h.w, by rw [hw]; exact h.wk, fun s h5 h1 => ?_, fun c hc => ?_⟩
  · by_cases h12 : i < 12
    · rw [hd i h12]; exact h.d i hi
    · rw [h.d i hi]; simp [h12]
  · have e := hl (25, 1, 5, 92) (by decide) s h5
    have := h.st s h5 (e.symm.trans h1)
    rw [(hs s h5 h1).1, (hs s h5 h1).2]; exact this
  · obtain ⟨f, e, hF⟩ := h.fm hc
    obtain ⟨a1, a2, a3, a4, a5⟩ := hf c hc
    have en : cdn S' c = cdn S c := by unfold cdn; rw [a1]
    exact ⟨f, e, by rw [en]; exact hF.mv zgr.rf (fun _ _ _ _ => rfl) (fun _ _ _ _ => rfl) (fun k hk => by unfold cdw; rw [a5 k hk]) a2 a3 a4⟩
theorem mi.q {t n : Nat} {μ : zMem} {σ : zS2} {π : zP2} {S S' : zS2} (h : mi t μ σ π S) (q : zq n S S') : mi t μ σ π S' := by
  obtain ⟨q1, q2, q3, q4, q5, q6, q7, q8⟩ := q
  refine h.S (fun x hx k _ => ?_) (fun i _ => by rw [q1 89 (by decide)]) q3 q2 (fun s h5 h1 => q4 s h5 ((q1 92 (by decide) s).symm.trans h1)) (fun c hc => ⟨q1 75 (by decide) c, q1 76 (by decide) c, q1 77 (by decide) c, q1 78 (by decide) c, fun k hk => q6 c k hc hk⟩)
  exact q1 _ ((by decide : ∀ x, x ∈ lks → x.2.2.2 ∈ zqL) x hx) k
/-- the world grows, and what is outside the table changes, but no Formula -/
theorem mi.fr {t : Nat} {μ μ' : zMem} {σ σ' : zS2} {π π' : zP2} {S : zS2} (h : mi t μ σ π S) (hg : zgr μ μ') (hs : ∀ b, (t ≤ b ∧ b < t + 30) ∨ (Im b ∧ b < zN μ) → ∀ j, σ' b j = σ b j) (hp : ∀ b, (t ≤ b ∧ b < t + 30) ∨ (Im b ∧ b < zN μ) → ∀ j, π' b j = π b j) : mi t μ' σ' π' S := by
  refine ⟨h.1.mv hg (fun b j h1 h2 _ => hp b (Or.inl ⟨h1, h2⟩) j), ⟨fun i hi => ?_, fun i hi => ?_⟩, fun x hx k hk => ?_, ?_, ?_, ?_, fun s h5 h1 => ?_, fun c hc => ?_⟩
  · rw [hs _ (Or.inl (by omega))]; exact h.nc hi
  · rw [hs _ (Or.inl (by omega))]; exact h.ns hi
  · have := (by decide : ∀ x, x ∈ lks → x.1 + x.2.2.1 ≤ 30) x hx
    rw [hs _ (Or.inl (by omega))]; exact h.2.2.1 x hx k hk
  · rw [hs _ (Or.inl (by omega))]; exact h.d
  · rw [hs _ (Or.inl (by omega))]; exact h.w
  · rw [hs _ (Or.inl (by omega))]; exact h.wk
  · rw [hs _ (Or.inl (by omega)), hs _ (Or.inl (by omega))]; exact h.st s h5 h1
  · obtain ⟨f, e, hF⟩ := h.fm hc
    exact ⟨f, by rw [hp _ (Or.inl (by omega))]; exact e, hF.mv hg (fun b hb hn => hs b (Or.inr ⟨hb, hn⟩)) (fun b hb hn => hp b (Or.inr ⟨hb, hn⟩)) (fun _ _ => rfl) rfl rfl rfl⟩
/-- one number of the table changes -/
theorem mi.up {t : Nat} (ht : ta t) {μ : zMem} {σ : zS2} {π : zP2} {S S' : zS2} (h : mi t μ σ π S) {a i : Nat} {v : Int32} (ha : zmu t a) (h0 : i = 0 → a < t + 8 ∨ (t + 20 ≤ a ∧ a < t + 25))
    (hl : ∀ x, x ∈ lks → ∀ k, k < x.2.2.1 → zu σ a i v (t + x.1 + k) x.2.1 = S' x.2.2.2 k) (hd : dM (zu σ a i v t 6) S') (hn : zu σ a i v t 7 = S' 67 34) (hw : zu σ a i v t 8 = S' 67 33) (hs : sM t (zu σ a i v) S')
    (hf : ∀ b, b ∈ [74, 75, 76, 77, 78] → ∀ j, S' b j = S b j) : mi t μ (zu σ a i v) π S' := by
  refine ⟨h.1, ⟨fun j hj => ?_, fun j hj => ?_⟩, hl, hd, hn, hw, hs, fun c hc => ?_⟩
  · rw [zu_n _ _ _ _ (by omega)]; exact h.nc hj
  · rw [zu_n _ _ _ _ (by omega)]; exact h.ns hj
  · obtain ⟨f, e, hF⟩ := h.fm hc
    have en : cdn S' c = cdn S c := by unfold cdn; rw [hf 75 (by decide)]
    exact ⟨f, e, by rw [en]; exact hF.mv zgr.rf (fun b hb _ j => (zfT_u ha).im ht hb j) (fun _ _ _ _ => rfl) (fun k _ => by unfold cdw; rw [hf 74 (by decide)]) (hf 76 (by decide) c) (hf 77 (by decide) c) (hf 78 (by decide) c)⟩
theorem lks_2 : ∀ x, x ∈ lks → ∀ y, y ∈ lks → x = y ∨ (x.2.2.2 ≠ y.2.2.2 ∧ (x.2.1 ≠ y.2.1 ∨ x.1 + x.2.2.1 ≤ y.1 ∨ y.1 + y.2.2.1 ≤ x.1)) := by decide
theorem lks_f : ∀ x, x ∈ lks → 8 ≤ x.1 ∧ x.1 + x.2.2.1 ≤ 30 ∧ x.2.1 < 11 ∧ (x.2.1 = 0 → x.1 = 20) ∧ (x.1 = 20 → x.2.2.1 = 5) ∧ x.2.2.2 ∉ [74, 75, 76, 77, 78, 89, 67, 93, 94] := by decide
/-- a linked number, both sides -/
theorem mi.ul {t : Nat} (ht : ta t) {μ : zMem} {σ : zS2} {π : zP2} {S : zS2} (h : mi t μ σ π S) {o f n b k : Nat} {v : Int32} (hx : (o, f, n, b) ∈ lks) (hk : k < n) (h92 : b = 92 → v = 1 → σ (t + 25 + k) 11 = S 93 k ∧ σ (t + 25 + k) 12 = S 94 k) : mi t μ (zu σ (t + o + k) f v) π (zu S b k v) := by
  obtain ⟨f1, f2, f3, f4, f5, f6⟩ := lks_f _ hx
  dsimp only at f1 f2 f3 f4 f5 f6
  have hb : ∀ c, c ∈ [74, 75, 76, 77, 78, 89, 67, 93, 94] → c ≠ b := fun c hc e => f6 (e ▸ hc)
  refine h.up ht (by unfold zmu; omega) (fun e => by have := f4 e; have := f5 this; omega) (fun x hx' k' hk' => ?_) (fun i hi => ?_) ?_ ?_ (fun s h5 h1 => ?_) (fun c hc j => zu_ne _ _ _ _ (hb c (by revert c; decide)) j)
  · rcases lks_2 _ hx' _ hx with e | ⟨e1, e2⟩
    · subst e
      by_cases hkk : k' = k
      · subst hkk; rw [zu_eq, zu_eq]
      · rw [zu_n _ _ _ _ (by dsimp only; omega), zu_n _ _ _ _ (by dsimp only; omega)]; exact h.2.2.1 _ hx' k' hk'
    · dsimp only at e1 e2
      rw [zu_n _ _ _ _ (by omega), zu_n _ _ _ _ (by omega)]; exact h.2.2.1 _ hx' k' hk'
  · rw [zu_n _ _ _ _ (by omega), zu_ne _ _ _ _ (hb 89 (by decide))]; exact h.d i hi
  · rw [zu_n _ _ _ _ (by omega), zu_ne _ _ _ _ (hb 67 (by decide))]; exact h.w
  · rw [zu_n _ _ _ _ (by omega), zu_ne _ _ _ _ (hb 67 (by decide))]; exact h.wk
  · rw [zu_n _ _ _ _ (by omega), zu_ne _ _ _ _ (hb 93 (by decide)), zu_n _ _ _ _ (by omega), zu_ne _ _ _ _ (hb 94 (by decide))]
    by_cases e : b = 92 ∧ s = k
    · obtain ⟨rfl, rfl⟩ := e
      rw [zu_eq] at h1
      exact h92 rfl h1
    · rw [zu_n _ _ _ _ (by omega)] at h1
      exact h.st s h5 h1
/-- the set of dirty cells -/
theorem mi.ud {t : Nat} (ht : ta t) {μ : zMem} {σ : zS2} {π : zP2} {S S' : zS2} (h : mi t μ σ π S) {m : Int32} (hm : dM m S') (hS : ∀ b, b ≠ 89 → ∀ j, S' b j = S b j) : mi t μ (zu σ t 6 m) π S' := by
  refine h.up ht (Or.inl rfl) (fun e => by omega) (fun x hx k hk => ?_) (by rw [zu_eq]; exact hm) ?_ ?_ (fun s h5 h1 => ?_) (fun b hb j => hS b (by revert b; decide) j)
  · obtain ⟨f1, f2, f3, f4, f5, f6⟩ := lks_f _ hx
    rw [zu_n _ _ _ _ (by omega), hS _ (fun e => f6 (by rw [e]; decide))]; exact h.2.2.1 x hx k hk
  · rw [zu_n _ _ _ _ (by omega), hS _ (by decide)]; exact h.w
  · rw [zu_n _ _ _ _ (by omega), hS _ (by decide)]; exact h.wk
  · rw [hS _ (by decide)] at h1
    rw [zu_n _ _ _ _ (by omega), zu_n _ _ _ _ (by omega), hS _ (by decide), hS _ (by decide)]; exact h.st s h5 h1
/-- now and work -/
theorem mi.uw {t : Nat} (ht : ta t) {μ : zMem} {σ : zS2} {π : zP2} {S : zS2} (h : mi t μ σ π S) {f j : Nat} {v : Int32} (hf : (f = 7 ∧ j = 34) ∨ (f = 8 ∧ j = 33)) : mi t μ (zu σ t f v) π (zu S 67 j v) := by
  refine h.up ht (Or.inl rfl) (fun e => by omega) (fun x hx k hk => ?_) (fun i hi => ?_) ?_ ?_ (fun s h5 h1 => ?_) (fun b hb j => zu_ne _ _ _ _ (by revert b; decide) j)
  · obtain ⟨f1, f2, f3, f4, f5, f6⟩ := lks_f _ hx
    rw [zu_n _ _ _ _ (by omega), zu_ne _ _ _ _ (fun e => f6 (by rw [e]; decide))]; exact h.2.2.1 x hx k hk
  · rw [zu_n _ _ _ _ (by omega), zu_ne _ _ _ _ (by decide)]; exact h.d i hi
  · rcases hf with ⟨rfl, rfl⟩ | ⟨rfl, rfl⟩
    · rw [zu_eq, zu_eq]
    · rw [zu_n _ _ _ _ (by omega), zu_n _ _ _ _ (by omega)]; exact h.w
  · rcases hf with ⟨rfl, rfl⟩ | ⟨rfl, rfl⟩
    · rw [zu_n _ _ _ _ (by omega), zu_n _ _ _ _ (by omega)]; exact h.wk
    · rw [zu_eq, zu_eq]
  · rw [zu_ne _ _ _ _ (by decide)] at h1
    rw [zu_n _ _ _ _ (by omega), zu_ne _ _ _ _ (by decide), zu_n _ _ _ _ (by omega), zu_ne _ _ _ _ (by decide)]; exact h.st s h5 h1
/-- numbers that S doesn't see -/
theorem mi.uj {t : Nat} (ht : ta t) {μ : zMem} {σ : zS2} {π : zP2} {S : zS2} (h : mi t μ σ π S) {a i : Nat} {v : Int32} (ha : a = t + 7 ∨ (t + 25 ≤ a ∧ a < t + 30 ∧ (i = 13 ∨ (10 < i ∧ ∀ s, s < 5 → a = t + 25 + s → S 92 s ≠ 1)))) : mi t μ (zu σ a i v) π S := by
  refine h.up ht (by unfold zmu; omega) (fun e => by omega) (fun x hx k hk => ?_) (fun j hj => ?_) ?_ ?_ (fun s h5 h1 => ?_) (fun _ _ _ => rfl)
  · obtain ⟨f1, f2, f3, f4, f5, f6⟩ := lks_f _ hx
    rw [zu_n _ _ _ _ (by omega)]; exact h.2.2.1 x hx k hk
  · rw [zu_n _ _ _ _ (by omega)]; exact h.d j hj
  · rw [zu_n _ _ _ _ (by omega)]; exact h.w
  · rw [zu_n _ _ _ _ (by omega)]; exact h.wk
  · have hne : ∀ q, q < 13 → ¬ (t + 25 + s = a ∧ q = i) := by
      intro q hq e
      rcases ha with ha | ⟨_, _, ha | ⟨_, ha⟩⟩
      · omega
      · omega
      · exact ha s h5 e.1.symm h1
    rw [zu_n _ _ _ _ (hne 11 (by omega)), zu_n _ _ _ _ (hne 12 (by omega))]; exact h.st s h5 h1
/-- the start of a service's delay, ahead of its state -/
theorem mi.uf {t : Nat} (ht : ta t) {μ : zMem} {σ : zS2} {π : zP2} {S : zS2} (h : mi t μ σ π S) {c f : Nat} (hc : c < 12) {S' : zS2} (hF : zFo μ σ π f (cdw S' c) (cdn S' c) (S' 76 c) (S' 77 c) (S' 78 c)) (hS : ∀ b, b ∉ [74, 75, 76, 77, 78] → ∀ j, S' b j = S b j) (hS2 : ∀ d, d < 12 → d ≠ c → cdn S' d = cdn S d ∧ (∀ k, k < cdn S d → cdw S' d k = cdw S d k) ∧ S' 76 d = S 76 d ∧ S' 77 d = S 77 d ∧ S' 78 d = S 78 d) : mi t μ σ (zup π (t + 8 + c) 1 (some f)) S' := by
  have hp : zfP t π (zup π (t + 8 + c) 1 (some f)) := zfP_u (Or.inr ⟨by omega, by omega, rfl⟩)
  have hne : ∀ x, x ∈ lks → x.2.2.2 ∉ [74, 75, 76, 77, 78] := by decide
  refine ⟨h.1.fp hp, h.2.1, fun x hx k hk => by rw [hS _ (hne x hx)]; exact h.2.2.1 x hx k hk, fun i hi => by rw [hS 89 (by decide)]; exact h.d i hi, by rw [hS 67 (by decide)]; exact h.w, by rw [hS 67 (by decide)]; exact h.wk, fun s h5 h1 => ?_, fun d hd => ?_⟩
  · rw [hS 92 (by decide)] at h1
    rw [hS 93 (by decide), hS 94 (by decide)]; exact h.st s h5 h1
  · by_cases e : d = c
    · subst e
      exact ⟨f, zup_eq _ _ _ _, hF.mv zgr.rf (fun _ _ _ _ => rfl) (fun b hb _ j => hp.im ht hb j) (fun _ _ => rfl) rfl rfl rfl⟩
    · obtain ⟨f', e', hF'⟩ := h.fm hd
      obtain ⟨b1, b2, b3, b4, b5⟩ := hS2 d hd e
      refine ⟨f', by rw [zup_n _ _ _ _ (by omega)]; exact e', ?_⟩
      rw [b1]
      exact hF'.mv zgr.rf (fun _ _ _ _ => rfl) (fun b hb _ j => hp.im ht hb j) b2 b3 b4 b5
/-- the cells by depth and number: the order of the table -/
def kls (S : zS2) (a b : Nat) : Prop := S 79 a < S 79 b ∨ (S 79 a = S 79 b ∧ a < b)
def zOr (t : Nat) (π : zP2) (S : zS2) : Prop := ∃ ρ : Nat → Nat, (∀ i, i < 12 → ρ i < 12 ∧ π (t + 4) i = some (t + 8 + ρ i)) ∧ (∀ c, c < 12 → ∃ i, i < 12 ∧ ρ i = c) ∧ ∀ i j, i < j → j < 12 → kls S (ρ i) (ρ j)
def mo (t : Nat) (μ : zMem) (σ : zS2) (π : zP2) (S : zS2) : Prop := mi t μ σ π S ∧ zOr t π S
theorem zOr.mv {t : Nat} {π π' : zP2} {S S' : zS2} (h : zOr t π S) (hp : ∀ j, π' (t + 4) j = π (t + 4) j) (hS : ∀ c, c < 12 → S' 79 c = S 79 c) : zOr t π' S' := by
  obtain ⟨ρ, h1, h2, h3⟩ := h
  refine ⟨ρ, fun i hi => ⟨(h1 i hi).1, by rw [hp]; exact (h1 i hi).2⟩, h2, fun i j hij hj => ?_⟩
  unfold kls
  rw [hS _ (h1 i (by omega)).1, hS _ (h1 j hj).1]
  exact h3 i j hij hj
/-- the rounds in which services changed stay -/
def zch (t : Nat) (σ σ' : zS2) : Prop := ∀ j, j < 5 → σ' (t + 25 + j) 13 = σ (t + 25 + j) 13
theorem zch.rf {t : Nat} {σ : zS2} : zch t σ σ := fun _ _ => rfl
theorem zch.tr {t : Nat} {σ σ1 σ2 : zS2} (h : zch t σ σ1) (h2 : zch t σ1 σ2) : zch t σ σ2 := fun j q => (h2 j q).trans (h j q)
theorem zch_u {t a i : Nat} {σ : zS2} {v : Int32} (h : i ≠ 13) : zch t σ (zu σ a i v) := fun _ _ => zu_n _ _ _ _ (fun e => h e.2.symm)
/-- what a call leaves that works on table t -/
def zE (t : Nat) (μ : zMem) (σ : zS2) (π : zP2) (g : zG2) (S' : zS2) (μ' : zMem) : Prop := ∃ σ' π', μ' = zA4 μ σ' π' g ∧ mo t μ σ' π' S' ∧ zfT t σ σ' ∧ π' = π ∧ zch t σ σ'
/-- the same, but for the rounds in which services changed -/
def zE1 (t : Nat) (μ : zMem) (σ : zS2) (π : zP2) (g : zG2) (S' : zS2) (μ' : zMem) : Prop := ∃ σ', μ' = zA4 μ σ' π g ∧ mo t μ σ' π S' ∧ zfT t σ σ'
/-- the same, and order and formulas may be others -/
def zE0 (t : Nat) (μ : zMem) (σ : zS2) (π : zP2) (g : zG2) (S' : zS2) (μ' : zMem) : Prop := ∃ σ' π', μ' = zA4 μ σ' π' g ∧ mo t μ σ' π' S' ∧ zfT t σ σ' ∧ zfP t π π'
theorem zE.e0 {t : Nat} {μ μ' : zMem} {σ : zS2} {π : zP2} {g : zG2} {S : zS2} (h : zE t μ σ π g S μ') : zE0 t μ σ π g S μ' := by
  obtain ⟨σ', π', e, hM, a, b, _⟩ := h
  exact ⟨σ', π', e, hM, a, b ▸ zfP.rf⟩
theorem zE.e1 {t : Nat} {μ μ' : zMem} {σ : zS2} {π : zP2} {g : zG2} {S : zS2} (h : zE t μ σ π g S μ') : zE1 t μ σ π g S μ' := by
  obtain ⟨σ', π', e, hM, a, b, _⟩ := h
  subst b
  exact ⟨σ', e, hM, a⟩
theorem zE1.e0 {t : Nat} {μ μ' : zMem} {σ : zS2} {π : zP2} {g : zG2} {S : zS2} (h : zE1 t μ σ π g S μ') : zE0 t μ σ π g S μ' := by
  obtain ⟨σ', e, hM, a⟩ := h
  exact ⟨σ', π, e, hM, a, zfP.rf⟩
theorem zE1.mv {t : Nat} {μ μ' : zMem} {σ σ1 : zS2} {π : zP2} {g : zG2} {S : zS2} (h : zE1 t μ σ1 π g S μ') (h1 : zfT t σ σ1) : zE1 t μ σ π g S μ' := by
  obtain ⟨σ', e, hM, a⟩ := h
  exact ⟨σ', e, hM, h1.tr a⟩
theorem zE0.mv {t : Nat} {μ μ' : zMem} {σ σ1 : zS2} {π π1 : zP2} {g : zG2} {S : zS2} (h : zE0 t μ σ1 π1 g S μ') (h1 : zfT t σ σ1) (h2 : zfP t π π1) : zE0 t μ σ π g S μ' := by
  obtain ⟨σ', π', e, hM, a, b⟩ := h
  exact ⟨σ', π', e, hM, h1.tr a, h2.tr b⟩

