/-! ===== the reference: one object, its arrays ===== -/
def zrl : List (Nat × Nat × Nat × Nat) := [(0, 68, 0, 30), (2, 69, 0, 30), (4, 70, 0, 62), (6, 71, 1, 32), (7, 72, 0, 32), (8, 73, 0, 32), (9, 74, 0, 360), (10, 75, 0, 12), (11, 76, 0, 12), (12, 77, 0, 12), (13, 78, 0, 12), (14, 79, 0, 12), (15, 80, 1, 12), (16, 81, 0, 12), (17, 82, 0, 5), (18, 83, 0, 5), (19, 84, 0, 5), (20, 85, 0, 5), (21, 86, 0, 5), (22, 87, 0, 5), (23, 88, 0, 12), (24, 89, 1, 12), (25, 90, 0, 5), (26, 91, 0, 5), (27, 92, 0, 5), (28, 93, 0, 5), (29, 94, 0, 5), (30, 95, 0, 5), (31, 96, 0, 5), (32, 97, 0, 5), (35, 98, 0, 40), (36, 99, 0, 40), (37, 100, 0, 40), (38, 101, 0, 40), (39, 102, 0, 40), (40, 103, 0, 1200), (41, 104, 0, 40), (43, 105, 3, 32)]
def zRef (μ : zMem) (π : Nat → Nat → Option Nat) : Prop := zK μ 67 = 9 + 8 ∧ ∀ j a kd n, (j, a, kd, n) ∈ zrl → π 67 j = some a ∧ zK μ a = kd ∧ zL μ a = n
theorem rk {μ : zMem} {π : Nat → Nat → Option Nat} (h : zRef μ π) : zK μ 67 = 9 + 8 := h.1
theorem rp_text {μ : zMem} {π : Nat → Nat → Option Nat} (h : zRef μ π) : π 67 0 = some 68 := (h.2 0 68 0 30 (by decide)).1
theorem rk_text {μ : zMem} {π : Nat → Nat → Option Nat} (h : zRef μ π) : zK μ 68 = 0 := (h.2 0 68 0 30 (by decide)).2.1
theorem rl_text {μ : zMem} {π : Nat → Nat → Option Nat} (h : zRef μ π) : zL μ 68 = 30 := (h.2 0 68 0 30 (by decide)).2.2
theorem rp_made {μ : zMem} {π : Nat → Nat → Option Nat} (h : zRef μ π) : π 67 2 = some 69 := (h.2 2 69 0 30 (by decide)).1
theorem rk_made {μ : zMem} {π : Nat → Nat → Option Nat} (h : zRef μ π) : zK μ 69 = 0 := (h.2 2 69 0 30 (by decide)).2.1
theorem rl_made {μ : zMem} {π : Nat → Nat → Option Nat} (h : zRef μ π) : zL μ 69 = 30 := (h.2 2 69 0 30 (by decide)).2.2
theorem rp_open {μ : zMem} {π : Nat → Nat → Option Nat} (h : zRef μ π) : π 67 4 = some 70 := (h.2 4 70 0 62 (by decide)).1
theorem rk_open {μ : zMem} {π : Nat → Nat → Option Nat} (h : zRef μ π) : zK μ 70 = 0 := (h.2 4 70 0 62 (by decide)).2.1
theorem rl_open {μ : zMem} {π : Nat → Nat → Option Nat} (h : zRef μ π) : zL μ 70 = 62 := (h.2 4 70 0 62 (by decide)).2.2
theorem rp_hasCompared {μ : zMem} {π : Nat → Nat → Option Nat} (h : zRef μ π) : π 67 6 = some 71 := (h.2 6 71 1 32 (by decide)).1
theorem rk_hasCompared {μ : zMem} {π : Nat → Nat → Option Nat} (h : zRef μ π) : zK μ 71 = 1 := (h.2 6 71 1 32 (by decide)).2.1
theorem rl_hasCompared {μ : zMem} {π : Nat → Nat → Option Nat} (h : zRef μ π) : zL μ 71 = 32 := (h.2 6 71 1 32 (by decide)).2.2
theorem rp_opens {μ : zMem} {π : Nat → Nat → Option Nat} (h : zRef μ π) : π 67 7 = some 72 := (h.2 7 72 0 32 (by decide)).1
theorem rk_opens {μ : zMem} {π : Nat → Nat → Option Nat} (h : zRef μ π) : zK μ 72 = 0 := (h.2 7 72 0 32 (by decide)).2.1
theorem rl_opens {μ : zMem} {π : Nat → Nat → Option Nat} (h : zRef μ π) : zL μ 72 = 32 := (h.2 7 72 0 32 (by decide)).2.2
theorem rp_args {μ : zMem} {π : Nat → Nat → Option Nat} (h : zRef μ π) : π 67 8 = some 73 := (h.2 8 73 0 32 (by decide)).1
theorem rk_args {μ : zMem} {π : Nat → Nat → Option Nat} (h : zRef μ π) : zK μ 73 = 0 := (h.2 8 73 0 32 (by decide)).2.1
theorem rl_args {μ : zMem} {π : Nat → Nat → Option Nat} (h : zRef μ π) : zL μ 73 = 32 := (h.2 8 73 0 32 (by decide)).2.2
theorem rp_code {μ : zMem} {π : Nat → Nat → Option Nat} (h : zRef μ π) : π 67 9 = some 74 := (h.2 9 74 0 360 (by decide)).1
theorem rk_code {μ : zMem} {π : Nat → Nat → Option Nat} (h : zRef μ π) : zK μ 74 = 0 := (h.2 9 74 0 360 (by decide)).2.1
theorem rl_code {μ : zMem} {π : Nat → Nat → Option Nat} (h : zRef μ π) : zL μ 74 = 360 := (h.2 9 74 0 360 (by decide)).2.2
theorem rp_codeLength {μ : zMem} {π : Nat → Nat → Option Nat} (h : zRef μ π) : π 67 10 = some 75 := (h.2 10 75 0 12 (by decide)).1
theorem rk_codeLength {μ : zMem} {π : Nat → Nat → Option Nat} (h : zRef μ π) : zK μ 75 = 0 := (h.2 10 75 0 12 (by decide)).2.1
theorem rl_codeLength {μ : zMem} {π : Nat → Nat → Option Nat} (h : zRef μ π) : zL μ 75 = 12 := (h.2 10 75 0 12 (by decide)).2.2
theorem rp_readsCells {μ : zMem} {π : Nat → Nat → Option Nat} (h : zRef μ π) : π 67 11 = some 76 := (h.2 11 76 0 12 (by decide)).1
theorem rk_readsCells {μ : zMem} {π : Nat → Nat → Option Nat} (h : zRef μ π) : zK μ 76 = 0 := (h.2 11 76 0 12 (by decide)).2.1
theorem rl_readsCells {μ : zMem} {π : Nat → Nat → Option Nat} (h : zRef μ π) : zL μ 76 = 12 := (h.2 11 76 0 12 (by decide)).2.2
theorem rp_readsReadings {μ : zMem} {π : Nat → Nat → Option Nat} (h : zRef μ π) : π 67 12 = some 77 := (h.2 12 77 0 12 (by decide)).1
theorem rk_readsReadings {μ : zMem} {π : Nat → Nat → Option Nat} (h : zRef μ π) : zK μ 77 = 0 := (h.2 12 77 0 12 (by decide)).2.1
theorem rl_readsReadings {μ : zMem} {π : Nat → Nat → Option Nat} (h : zRef μ π) : zL μ 77 = 12 := (h.2 12 77 0 12 (by decide)).2.2
theorem rp_readsLoads {μ : zMem} {π : Nat → Nat → Option Nat} (h : zRef μ π) : π 67 13 = some 78 := (h.2 13 78 0 12 (by decide)).1
theorem rk_readsLoads {μ : zMem} {π : Nat → Nat → Option Nat} (h : zRef μ π) : zK μ 78 = 0 := (h.2 13 78 0 12 (by decide)).2.1
theorem rl_readsLoads {μ : zMem} {π : Nat → Nat → Option Nat} (h : zRef μ π) : zL μ 78 = 12 := (h.2 13 78 0 12 (by decide)).2.2
theorem rp_depth {μ : zMem} {π : Nat → Nat → Option Nat} (h : zRef μ π) : π 67 14 = some 79 := (h.2 14 79 0 12 (by decide)).1
theorem rk_depth {μ : zMem} {π : Nat → Nat → Option Nat} (h : zRef μ π) : zK μ 79 = 0 := (h.2 14 79 0 12 (by decide)).2.1
theorem rl_depth {μ : zMem} {π : Nat → Nat → Option Nat} (h : zRef μ π) : zL μ 79 = 12 := (h.2 14 79 0 12 (by decide)).2.2
theorem rp_isHeld {μ : zMem} {π : Nat → Nat → Option Nat} (h : zRef μ π) : π 67 15 = some 80 := (h.2 15 80 1 12 (by decide)).1
theorem rk_isHeld {μ : zMem} {π : Nat → Nat → Option Nat} (h : zRef μ π) : zK μ 80 = 1 := (h.2 15 80 1 12 (by decide)).2.1
theorem rl_isHeld {μ : zMem} {π : Nat → Nat → Option Nat} (h : zRef μ π) : zL μ 80 = 12 := (h.2 15 80 1 12 (by decide)).2.2
theorem rp_heldAt {μ : zMem} {π : Nat → Nat → Option Nat} (h : zRef μ π) : π 67 16 = some 81 := (h.2 16 81 0 12 (by decide)).1
theorem rk_heldAt {μ : zMem} {π : Nat → Nat → Option Nat} (h : zRef μ π) : zK μ 81 = 0 := (h.2 16 81 0 12 (by decide)).2.1
theorem rl_heldAt {μ : zMem} {π : Nat → Nat → Option Nat} (h : zRef μ π) : zL μ 81 = 12 := (h.2 16 81 0 12 (by decide)).2.2
theorem rp_control {μ : zMem} {π : Nat → Nat → Option Nat} (h : zRef μ π) : π 67 17 = some 82 := (h.2 17 82 0 5 (by decide)).1
theorem rk_control {μ : zMem} {π : Nat → Nat → Option Nat} (h : zRef μ π) : zK μ 82 = 0 := (h.2 17 82 0 5 (by decide)).2.1
theorem rl_control {μ : zMem} {π : Nat → Nat → Option Nat} (h : zRef μ π) : zL μ 82 = 5 := (h.2 17 82 0 5 (by decide)).2.2
theorem rp_limit {μ : zMem} {π : Nat → Nat → Option Nat} (h : zRef μ π) : π 67 18 = some 83 := (h.2 18 83 0 5 (by decide)).1
theorem rk_limit {μ : zMem} {π : Nat → Nat → Option Nat} (h : zRef μ π) : zK μ 83 = 0 := (h.2 18 83 0 5 (by decide)).2.1
theorem rl_limit {μ : zMem} {π : Nat → Nat → Option Nat} (h : zRef μ π) : zL μ 83 = 5 := (h.2 18 83 0 5 (by decide)).2.2
theorem rp_needs {μ : zMem} {π : Nat → Nat → Option Nat} (h : zRef μ π) : π 67 19 = some 84 := (h.2 19 84 0 5 (by decide)).1
theorem rk_needs {μ : zMem} {π : Nat → Nat → Option Nat} (h : zRef μ π) : zK μ 84 = 0 := (h.2 19 84 0 5 (by decide)).2.1
theorem rl_needs {μ : zMem} {π : Nat → Nat → Option Nat} (h : zRef μ π) : zL μ 84 = 5 := (h.2 19 84 0 5 (by decide)).2.2
theorem rp_demand {μ : zMem} {π : Nat → Nat → Option Nat} (h : zRef μ π) : π 67 20 = some 85 := (h.2 20 85 0 5 (by decide)).1
theorem rk_demand {μ : zMem} {π : Nat → Nat → Option Nat} (h : zRef μ π) : zK μ 85 = 0 := (h.2 20 85 0 5 (by decide)).2.1
theorem rl_demand {μ : zMem} {π : Nat → Nat → Option Nat} (h : zRef μ π) : zL μ 85 = 5 := (h.2 20 85 0 5 (by decide)).2.2
theorem rp_delay {μ : zMem} {π : Nat → Nat → Option Nat} (h : zRef μ π) : π 67 21 = some 86 := (h.2 21 86 0 5 (by decide)).1
theorem rk_delay {μ : zMem} {π : Nat → Nat → Option Nat} (h : zRef μ π) : zK μ 86 = 0 := (h.2 21 86 0 5 (by decide)).2.1
theorem rl_delay {μ : zMem} {π : Nat → Nat → Option Nat} (h : zRef μ π) : zL μ 86 = 5 := (h.2 21 86 0 5 (by decide)).2.2
theorem rp_lie {μ : zMem} {π : Nat → Nat → Option Nat} (h : zRef μ π) : π 67 22 = some 87 := (h.2 22 87 0 5 (by decide)).1
theorem rk_lie {μ : zMem} {π : Nat → Nat → Option Nat} (h : zRef μ π) : zK μ 87 = 0 := (h.2 22 87 0 5 (by decide)).2.1
theorem rl_lie {μ : zMem} {π : Nat → Nat → Option Nat} (h : zRef μ π) : zL μ 87 = 5 := (h.2 22 87 0 5 (by decide)).2.2
theorem rp_value {μ : zMem} {π : Nat → Nat → Option Nat} (h : zRef μ π) : π 67 23 = some 88 := (h.2 23 88 0 12 (by decide)).1
theorem rk_value {μ : zMem} {π : Nat → Nat → Option Nat} (h : zRef μ π) : zK μ 88 = 0 := (h.2 23 88 0 12 (by decide)).2.1
theorem rl_value {μ : zMem} {π : Nat → Nat → Option Nat} (h : zRef μ π) : zL μ 88 = 12 := (h.2 23 88 0 12 (by decide)).2.2
theorem rp_isDirty {μ : zMem} {π : Nat → Nat → Option Nat} (h : zRef μ π) : π 67 24 = some 89 := (h.2 24 89 1 12 (by decide)).1
theorem rk_isDirty {μ : zMem} {π : Nat → Nat → Option Nat} (h : zRef μ π) : zK μ 89 = 1 := (h.2 24 89 1 12 (by decide)).2.1
theorem rl_isDirty {μ : zMem} {π : Nat → Nat → Option Nat} (h : zRef μ π) : zL μ 89 = 12 := (h.2 24 89 1 12 (by decide)).2.2
theorem rp_reading {μ : zMem} {π : Nat → Nat → Option Nat} (h : zRef μ π) : π 67 25 = some 90 := (h.2 25 90 0 5 (by decide)).1
theorem rk_reading {μ : zMem} {π : Nat → Nat → Option Nat} (h : zRef μ π) : zK μ 90 = 0 := (h.2 25 90 0 5 (by decide)).2.1
theorem rl_reading {μ : zMem} {π : Nat → Nat → Option Nat} (h : zRef μ π) : zL μ 90 = 5 := (h.2 25 90 0 5 (by decide)).2.2
theorem rp_toldAt {μ : zMem} {π : Nat → Nat → Option Nat} (h : zRef μ π) : π 67 26 = some 91 := (h.2 26 91 0 5 (by decide)).1
theorem rk_toldAt {μ : zMem} {π : Nat → Nat → Option Nat} (h : zRef μ π) : zK μ 91 = 0 := (h.2 26 91 0 5 (by decide)).2.1
theorem rl_toldAt {μ : zMem} {π : Nat → Nat → Option Nat} (h : zRef μ π) : zL μ 91 = 5 := (h.2 26 91 0 5 (by decide)).2.2
theorem rp_state {μ : zMem} {π : Nat → Nat → Option Nat} (h : zRef μ π) : π 67 27 = some 92 := (h.2 27 92 0 5 (by decide)).1
theorem rk_state {μ : zMem} {π : Nat → Nat → Option Nat} (h : zRef μ π) : zK μ 92 = 0 := (h.2 27 92 0 5 (by decide)).2.1
theorem rl_state {μ : zMem} {π : Nat → Nat → Option Nat} (h : zRef μ π) : zL μ 92 = 5 := (h.2 27 92 0 5 (by decide)).2.2
theorem rp_since {μ : zMem} {π : Nat → Nat → Option Nat} (h : zRef μ π) : π 67 28 = some 93 := (h.2 28 93 0 5 (by decide)).1
theorem rk_since {μ : zMem} {π : Nat → Nat → Option Nat} (h : zRef μ π) : zK μ 93 = 0 := (h.2 28 93 0 5 (by decide)).2.1
theorem rl_since {μ : zMem} {π : Nat → Nat → Option Nat} (h : zRef μ π) : zL μ 93 = 5 := (h.2 28 93 0 5 (by decide)).2.2
theorem rp_waits {μ : zMem} {π : Nat → Nat → Option Nat} (h : zRef μ π) : π 67 29 = some 94 := (h.2 29 94 0 5 (by decide)).1
theorem rk_waits {μ : zMem} {π : Nat → Nat → Option Nat} (h : zRef μ π) : zK μ 94 = 0 := (h.2 29 94 0 5 (by decide)).2.1
theorem rl_waits {μ : zMem} {π : Nat → Nat → Option Nat} (h : zRef μ π) : zL μ 94 = 5 := (h.2 29 94 0 5 (by decide)).2.2
theorem rp_load {μ : zMem} {π : Nat → Nat → Option Nat} (h : zRef μ π) : π 67 30 = some 95 := (h.2 30 95 0 5 (by decide)).1
theorem rk_load {μ : zMem} {π : Nat → Nat → Option Nat} (h : zRef μ π) : zK μ 95 = 0 := (h.2 30 95 0 5 (by decide)).2.1
theorem rl_load {μ : zMem} {π : Nat → Nat → Option Nat} (h : zRef μ π) : zL μ 95 = 5 := (h.2 30 95 0 5 (by decide)).2.2
theorem rp_told {μ : zMem} {π : Nat → Nat → Option Nat} (h : zRef μ π) : π 67 31 = some 96 := (h.2 31 96 0 5 (by decide)).1
theorem rk_told {μ : zMem} {π : Nat → Nat → Option Nat} (h : zRef μ π) : zK μ 96 = 0 := (h.2 31 96 0 5 (by decide)).2.1
theorem rl_told {μ : zMem} {π : Nat → Nat → Option Nat} (h : zRef μ π) : zL μ 96 = 5 := (h.2 31 96 0 5 (by decide)).2.2
theorem rp_starts {μ : zMem} {π : Nat → Nat → Option Nat} (h : zRef μ π) : π 67 32 = some 97 := (h.2 32 97 0 5 (by decide)).1
theorem rk_starts {μ : zMem} {π : Nat → Nat → Option Nat} (h : zRef μ π) : zK μ 97 = 0 := (h.2 32 97 0 5 (by decide)).2.1
theorem rl_starts {μ : zMem} {π : Nat → Nat → Option Nat} (h : zRef μ π) : zL μ 97 = 5 := (h.2 32 97 0 5 (by decide)).2.2
theorem rp_kind {μ : zMem} {π : Nat → Nat → Option Nat} (h : zRef μ π) : π 67 35 = some 98 := (h.2 35 98 0 40 (by decide)).1
theorem rk_kind {μ : zMem} {π : Nat → Nat → Option Nat} (h : zRef μ π) : zK μ 98 = 0 := (h.2 35 98 0 40 (by decide)).2.1
theorem rl_kind {μ : zMem} {π : Nat → Nat → Option Nat} (h : zRef μ π) : zL μ 98 = 40 := (h.2 35 98 0 40 (by decide)).2.2
theorem rp_first {μ : zMem} {π : Nat → Nat → Option Nat} (h : zRef μ π) : π 67 36 = some 99 := (h.2 36 99 0 40 (by decide)).1
theorem rk_first {μ : zMem} {π : Nat → Nat → Option Nat} (h : zRef μ π) : zK μ 99 = 0 := (h.2 36 99 0 40 (by decide)).2.1
theorem rl_first {μ : zMem} {π : Nat → Nat → Option Nat} (h : zRef μ π) : zL μ 99 = 40 := (h.2 36 99 0 40 (by decide)).2.2
theorem rp_second {μ : zMem} {π : Nat → Nat → Option Nat} (h : zRef μ π) : π 67 37 = some 100 := (h.2 37 100 0 40 (by decide)).1
theorem rk_second {μ : zMem} {π : Nat → Nat → Option Nat} (h : zRef μ π) : zK μ 100 = 0 := (h.2 37 100 0 40 (by decide)).2.1
theorem rl_second {μ : zMem} {π : Nat → Nat → Option Nat} (h : zRef μ π) : zL μ 100 = 40 := (h.2 37 100 0 40 (by decide)).2.2
theorem rp_third {μ : zMem} {π : Nat → Nat → Option Nat} (h : zRef μ π) : π 67 38 = some 101 := (h.2 38 101 0 40 (by decide)).1
theorem rk_third {μ : zMem} {π : Nat → Nat → Option Nat} (h : zRef μ π) : zK μ 101 = 0 := (h.2 38 101 0 40 (by decide)).2.1
theorem rl_third {μ : zMem} {π : Nat → Nat → Option Nat} (h : zRef μ π) : zL μ 101 = 40 := (h.2 38 101 0 40 (by decide)).2.2
theorem rp_at {μ : zMem} {π : Nat → Nat → Option Nat} (h : zRef μ π) : π 67 39 = some 102 := (h.2 39 102 0 40 (by decide)).1
theorem rk_at {μ : zMem} {π : Nat → Nat → Option Nat} (h : zRef μ π) : zK μ 102 = 0 := (h.2 39 102 0 40 (by decide)).2.1
theorem rl_at {μ : zMem} {π : Nat → Nat → Option Nat} (h : zRef μ π) : zL μ 102 = 40 := (h.2 39 102 0 40 (by decide)).2.2
theorem rp_stepCode {μ : zMem} {π : Nat → Nat → Option Nat} (h : zRef μ π) : π 67 40 = some 103 := (h.2 40 103 0 1200 (by decide)).1
theorem rk_stepCode {μ : zMem} {π : Nat → Nat → Option Nat} (h : zRef μ π) : zK μ 103 = 0 := (h.2 40 103 0 1200 (by decide)).2.1
theorem rl_stepCode {μ : zMem} {π : Nat → Nat → Option Nat} (h : zRef μ π) : zL μ 103 = 1200 := (h.2 40 103 0 1200 (by decide)).2.2
theorem rp_stepLength {μ : zMem} {π : Nat → Nat → Option Nat} (h : zRef μ π) : π 67 41 = some 104 := (h.2 41 104 0 40 (by decide)).1
theorem rk_stepLength {μ : zMem} {π : Nat → Nat → Option Nat} (h : zRef μ π) : zK μ 104 = 0 := (h.2 41 104 0 40 (by decide)).2.1
theorem rl_stepLength {μ : zMem} {π : Nat → Nat → Option Nat} (h : zRef μ π) : zL μ 104 = 40 := (h.2 41 104 0 40 (by decide)).2.2
theorem rp_stack {μ : zMem} {π : Nat → Nat → Option Nat} (h : zRef μ π) : π 67 43 = some 105 := (h.2 43 105 3 32 (by decide)).1
theorem rk_stack {μ : zMem} {π : Nat → Nat → Option Nat} (h : zRef μ π) : zK μ 105 = 3 := (h.2 43 105 3 32 (by decide)).2.1
theorem rl_stack {μ : zMem} {π : Nat → Nat → Option Nat} (h : zRef μ π) : zL μ 105 = 32 := (h.2 43 105 3 32 (by decide)).2.2


def figB (s : Int32) : Bool := decide (48 ≤ s) && decide (s ≤ 57)
def funB (s : Int32) : Bool := decide (s = 109) || decide (s = 110) || decide (s = 105)
def namB (s : Int32) : Bool := decide (s = 99) || decide (s = 114) || decide (s = 108)
def deedN (s : Int32) : Int32 := if s = 43 then 2 else if s = 45 then 3 else if s = 42 then 4 else if s = 60 then 5 else if s = 62 then 6 else if s = 61 then 7 else 0
def rankN (d : Int32) : Int32 := if d = 1 then 4 else if d = 4 then 3 else if d = 2 ∨ d = 3 then 2 else if d = 11 then 0 else 1

set_option maxRecDepth 100000 in
set_option maxHeartbeats 4000000 in
theorem c_X9_isIn {l : Launch} {Z : zZ} (hZ : zSt l Z) {a b : Int32} {μ : zMem} : zCt l Z mX9_isIn 0 0 0 [.int a, .int b] μ (fun r μ' => r = some (.int (zbi (decide (0 ≤ a) && decide (a < b)))) ∧ μ' = μ) := by
  refine zCt_of hZ mpX9_isIn (Nat.le_of_ble_eq_true rfl) (L := [some (.int a), some (.int b)]) rfl (fun τ hY => ?_)
  have hT := hY.1
  refine J_iload_n (i := 0) hT dX9_isIn_0 rfl rfl ?_
  refine J_if_lt (tgt := 13) hT dX9_isIn_1 (by decide) (fun q1 => ?_) (fun q1 => ?_)
  · refine J_iconst (v := 0) hT dX9_isIn_13 rfl ?_
    exact J_iret hT dX9_isIn_14 rfl rfl (⟨by congr 2; simp only [zbi, figB, Int32.lt_iff_toInt_lt, Int32.le_iff_toInt_le, ge_iff_le, gt_iff_lt, Bool.and_eq_true, Bool.or_eq_true, decide_eq_true_eq, Int32.reduceToInt] at *; split <;> first | rfl | omega, rfl⟩) (Nat.le_refl _) (Nat.le_refl _)
  · refine J_iload_n (i := 0) hT dX9_isIn_4 rfl rfl ?_
    refine J_iload_n (i := 1) hT dX9_isIn_5 rfl rfl ?_
    refine J_icmp_ge (tgt := 13) hT dX9_isIn_6 (by decide) (fun q6 => ?_) (fun q6 => ?_)
    · refine J_iconst (v := 0) hT dX9_isIn_13 rfl ?_
      exact J_iret hT dX9_isIn_14 rfl rfl (⟨by congr 2; simp only [zbi, figB, Int32.lt_iff_toInt_lt, Int32.le_iff_toInt_le, ge_iff_le, gt_iff_lt, Bool.and_eq_true, Bool.or_eq_true, decide_eq_true_eq, Int32.reduceToInt] at *; split <;> first | rfl | omega, rfl⟩) (Nat.le_refl _) (Nat.le_refl _)
    · refine J_iconst (v := 1) hT dX9_isIn_9 rfl ?_
      refine J_goto (tgt := 14) hT dX9_isIn_10 (by decide) ?_
      exact J_iret hT dX9_isIn_14 rfl rfl (⟨by congr 2; simp only [zbi, figB, Int32.lt_iff_toInt_lt, Int32.le_iff_toInt_le, ge_iff_le, gt_iff_lt, Bool.and_eq_true, Bool.or_eq_true, decide_eq_true_eq, Int32.reduceToInt] at *; split <;> first | rfl | omega, rfl⟩) (Nat.le_refl _) (Nat.le_refl _)

set_option maxRecDepth 100000 in
set_option maxHeartbeats 4000000 in
theorem c_X9_isWithin {l : Launch} {Z : zZ} (hZ : zSt l Z) {a b c : Int32} {μ : zMem} : zCt l Z mX9_isWithin 0 0 0 [.int a, .int b, .int c] μ (fun r μ' => r = some (.int (zbi (decide (b ≤ a) && decide (a ≤ c)))) ∧ μ' = μ) := by
  refine zCt_of hZ mpX9_isWithin (Nat.le_of_ble_eq_true rfl) (L := [some (.int a), some (.int b), some (.int c)]) rfl (fun τ hY => ?_)
  have hT := hY.1
  refine J_iload_n (i := 0) hT dX9_isWithin_0 rfl rfl ?_
  refine J_iload_n (i := 1) hT dX9_isWithin_1 rfl rfl ?_
  refine J_icmp_lt (tgt := 14) hT dX9_isWithin_2 (by decide) (fun q2 => ?_) (fun q2 => ?_)
  · refine J_iconst (v := 0) hT dX9_isWithin_14 rfl ?_
    exact J_iret hT dX9_isWithin_15 rfl rfl (⟨by congr 2; simp only [zbi, figB, Int32.lt_iff_toInt_lt, Int32.le_iff_toInt_le, ge_iff_le, gt_iff_lt, Bool.and_eq_true, Bool.or_eq_true, decide_eq_true_eq, Int32.reduceToInt] at *; split <;> first | rfl | omega, rfl⟩) (Nat.le_refl _) (Nat.le_refl _)
  · refine J_iload_n (i := 0) hT dX9_isWithin_5 rfl rfl ?_
    refine J_iload_n (i := 2) hT dX9_isWithin_6 rfl rfl ?_
    refine J_icmp_gt (tgt := 14) hT dX9_isWithin_7 (by decide) (fun q7 => ?_) (fun q7 => ?_)
    · refine J_iconst (v := 0) hT dX9_isWithin_14 rfl ?_
      exact J_iret hT dX9_isWithin_15 rfl rfl (⟨by congr 2; simp only [zbi, figB, Int32.lt_iff_toInt_lt, Int32.le_iff_toInt_le, ge_iff_le, gt_iff_lt, Bool.and_eq_true, Bool.or_eq_true, decide_eq_true_eq, Int32.reduceToInt] at *; split <;> first | rfl | omega, rfl⟩) (Nat.le_refl _) (Nat.le_refl _)
    · refine J_iconst (v := 1) hT dX9_isWithin_10 rfl ?_
      refine J_goto (tgt := 15) hT dX9_isWithin_11 (by decide) ?_
      exact J_iret hT dX9_isWithin_15 rfl rfl (⟨by congr 2; simp only [zbi, figB, Int32.lt_iff_toInt_lt, Int32.le_iff_toInt_le, ge_iff_le, gt_iff_lt, Bool.and_eq_true, Bool.or_eq_true, decide_eq_true_eq, Int32.reduceToInt] at *; split <;> first | rfl | omega, rfl⟩) (Nat.le_refl _) (Nat.le_refl _)

set_option maxRecDepth 100000 in
set_option maxHeartbeats 4000000 in
theorem c_X9_has {l : Launch} {Z : zZ} (hZ : zSt l Z) {m : Int32} {i : Nat} (hi : i < 32) {μ : zMem} : zCt l Z mX9_has 0 0 0 [.int m, .int (nI i)] μ (fun r μ' => r = some (.int (zbi (bt m i))) ∧ μ' = μ) := by
  refine zCt_of hZ mpX9_has (Nat.le_of_ble_eq_true rfl) (L := [some (.int m), some (.int (nI i))]) rfl (fun τ hY => ?_)
  have hT := hY.1
  refine J_iload_n (i := 0) hT dX9_has_0 rfl rfl ?_
  refine J_iload_n (i := 1) hT dX9_has_1 rfl rfl ?_
  refine J_ishr hT dX9_has_2 ?_
  refine J_iconst (v := 1) hT dX9_has_3 rfl ?_
  refine J_iand hT dX9_has_4 ?_
  refine J_iconst (v := 1) hT dX9_has_5 rfl ?_
  refine J_icmp_ne (tgt := 13) hT dX9_has_6 (by decide) (fun q6 => ?_) (fun q6 => ?_)
  · refine J_iconst (v := 0) hT dX9_has_13 rfl ?_
    exact J_iret hT dX9_has_14 rfl rfl (⟨by congr 2; simp only [ne_eq, b_has m i hi] at *; simp_all [zbi], rfl⟩) (Nat.le_refl _) (Nat.le_refl _)
  · refine J_iconst (v := 1) hT dX9_has_9 rfl ?_
    refine J_goto (tgt := 14) hT dX9_has_10 (by decide) ?_
    exact J_iret hT dX9_has_14 rfl rfl (⟨by congr 2; simp only [ne_eq, b_has m i hi] at *; simp_all [zbi], rfl⟩) (Nat.le_refl _) (Nat.le_refl _)

set_option maxRecDepth 100000 in
set_option maxHeartbeats 4000000 in
theorem c_X9_isFigure {l : Launch} {Z : zZ} (hZ : zSt l Z) {a : Int32} {μ : zMem} : zCt l Z mX9_isFigure 0 0 0 [.int a] μ (fun r μ' => r = some (.int (zbi (figB a))) ∧ μ' = μ) := by
  refine zCt_of hZ mpX9_isFigure (Nat.le_of_ble_eq_true rfl) (L := [some (.int a)]) rfl (fun τ hY => ?_)
  have hT := hY.1
  refine J_iload_n (i := 0) hT dX9_isFigure_0 rfl rfl ?_
  refine J_bipush (v := 48) hT dX9_isFigure_1 rfl ?_
  refine J_icmp_lt (tgt := 16) hT dX9_isFigure_3 (by decide) (fun q3 => ?_) (fun q3 => ?_)
  · refine J_iconst (v := 0) hT dX9_isFigure_16 rfl ?_
    exact J_iret hT dX9_isFigure_17 rfl rfl (⟨by congr 2; simp only [zbi, figB, Int32.lt_iff_toInt_lt, Int32.le_iff_toInt_le, ge_iff_le, gt_iff_lt, Bool.and_eq_true, Bool.or_eq_true, decide_eq_true_eq, Int32.reduceToInt] at *; split <;> first | rfl | omega, rfl⟩) (Nat.le_refl _) (Nat.le_refl _)
  · refine J_iload_n (i := 0) hT dX9_isFigure_6 rfl rfl ?_
    refine J_bipush (v := 57) hT dX9_isFigure_7 rfl ?_
    refine J_icmp_gt (tgt := 16) hT dX9_isFigure_9 (by decide) (fun q9 => ?_) (fun q9 => ?_)
    · refine J_iconst (v := 0) hT dX9_isFigure_16 rfl ?_
      exact J_iret hT dX9_isFigure_17 rfl rfl (⟨by congr 2; simp only [zbi, figB, Int32.lt_iff_toInt_lt, Int32.le_iff_toInt_le, ge_iff_le, gt_iff_lt, Bool.and_eq_true, Bool.or_eq_true, decide_eq_true_eq, Int32.reduceToInt] at *; split <;> first | rfl | omega, rfl⟩) (Nat.le_refl _) (Nat.le_refl _)
    · refine J_iconst (v := 1) hT dX9_isFigure_12 rfl ?_
      refine J_goto (tgt := 17) hT dX9_isFigure_13 (by decide) ?_
      exact J_iret hT dX9_isFigure_17 rfl rfl (⟨by congr 2; simp only [zbi, figB, Int32.lt_iff_toInt_lt, Int32.le_iff_toInt_le, ge_iff_le, gt_iff_lt, Bool.and_eq_true, Bool.or_eq_true, decide_eq_true_eq, Int32.reduceToInt] at *; split <;> first | rfl | omega, rfl⟩) (Nat.le_refl _) (Nat.le_refl _)

set_option maxRecDepth 100000 in
set_option maxHeartbeats 4000000 in
theorem c_X9_isFunction {l : Launch} {Z : zZ} (hZ : zSt l Z) {a : Int32} {μ : zMem} : zCt l Z mX9_isFunction 0 0 0 [.int a] μ (fun r μ' => r = some (.int (zbi (funB a))) ∧ μ' = μ) := by
  refine zCt_of hZ mpX9_isFunction (Nat.le_of_ble_eq_true rfl) (L := [some (.int a)]) rfl (fun τ hY => ?_)
  have hT := hY.1
  refine J_iload_n (i := 0) hT dX9_isFunction_0 rfl rfl ?_
  refine J_bipush (v := 109) hT dX9_isFunction_1 rfl ?_
  refine J_icmp_eq (tgt := 18) hT dX9_isFunction_3 (by decide) (fun q3 => ?_) (fun q3 => ?_)
  · refine J_iconst (v := 1) hT dX9_isFunction_18 rfl ?_
    refine J_goto (tgt := 23) hT dX9_isFunction_19 (by decide) ?_
    exact J_iret hT dX9_isFunction_23 rfl rfl (⟨by congr 2; simp_all [funB, zbi], rfl⟩) (Nat.le_refl _) (Nat.le_refl _)
  · refine J_iload_n (i := 0) hT dX9_isFunction_6 rfl rfl ?_
    refine J_bipush (v := 110) hT dX9_isFunction_7 rfl ?_
    refine J_icmp_eq (tgt := 18) hT dX9_isFunction_9 (by decide) (fun q9 => ?_) (fun q9 => ?_)
    · refine J_iconst (v := 1) hT dX9_isFunction_18 rfl ?_
      refine J_goto (tgt := 23) hT dX9_isFunction_19 (by decide) ?_
      exact J_iret hT dX9_isFunction_23 rfl rfl (⟨by congr 2; simp_all [funB, zbi], rfl⟩) (Nat.le_refl _) (Nat.le_refl _)
    · refine J_iload_n (i := 0) hT dX9_isFunction_12 rfl rfl ?_
      refine J_bipush (v := 105) hT dX9_isFunction_13 rfl ?_
      refine J_icmp_ne (tgt := 22) hT dX9_isFunction_15 (by decide) (fun q15 => ?_) (fun q15 => ?_)
      · refine J_iconst (v := 0) hT dX9_isFunction_22 rfl ?_
        exact J_iret hT dX9_isFunction_23 rfl rfl (⟨by congr 2; simp_all [funB, zbi], rfl⟩) (Nat.le_refl _) (Nat.le_refl _)
      · refine J_iconst (v := 1) hT dX9_isFunction_18 rfl ?_
        refine J_goto (tgt := 23) hT dX9_isFunction_19 (by decide) ?_
        exact J_iret hT dX9_isFunction_23 rfl rfl (⟨by congr 2; simp_all [funB, zbi], rfl⟩) (Nat.le_refl _) (Nat.le_refl _)

set_option maxRecDepth 100000 in
set_option maxHeartbeats 4000000 in
theorem c_X9_isName {l : Launch} {Z : zZ} (hZ : zSt l Z) {a : Int32} {μ : zMem} : zCt l Z mX9_isName 0 0 0 [.int a] μ (fun r μ' => r = some (.int (zbi (namB a))) ∧ μ' = μ) := by
  refine zCt_of hZ mpX9_isName (Nat.le_of_ble_eq_true rfl) (L := [some (.int a)]) rfl (fun τ hY => ?_)
  have hT := hY.1
  refine J_iload_n (i := 0) hT dX9_isName_0 rfl rfl ?_
  refine J_bipush (v := 99) hT dX9_isName_1 rfl ?_
  refine J_icmp_eq (tgt := 18) hT dX9_isName_3 (by decide) (fun q3 => ?_) (fun q3 => ?_)
  · refine J_iconst (v := 1) hT dX9_isName_18 rfl ?_
    refine J_goto (tgt := 23) hT dX9_isName_19 (by decide) ?_
    exact J_iret hT dX9_isName_23 rfl rfl (⟨by congr 2; simp_all [namB, zbi], rfl⟩) (Nat.le_refl _) (Nat.le_refl _)
  · refine J_iload_n (i := 0) hT dX9_isName_6 rfl rfl ?_
    refine J_bipush (v := 114) hT dX9_isName_7 rfl ?_
    refine J_icmp_eq (tgt := 18) hT dX9_isName_9 (by decide) (fun q9 => ?_) (fun q9 => ?_)
    · refine J_iconst (v := 1) hT dX9_isName_18 rfl ?_
      refine J_goto (tgt := 23) hT dX9_isName_19 (by decide) ?_
      exact J_iret hT dX9_isName_23 rfl rfl (⟨by congr 2; simp_all [namB, zbi], rfl⟩) (Nat.le_refl _) (Nat.le_refl _)
    · refine J_iload_n (i := 0) hT dX9_isName_12 rfl rfl ?_
      refine J_bipush (v := 108) hT dX9_isName_13 rfl ?_
      refine J_icmp_ne (tgt := 22) hT dX9_isName_15 (by decide) (fun q15 => ?_) (fun q15 => ?_)
      · refine J_iconst (v := 0) hT dX9_isName_22 rfl ?_
        exact J_iret hT dX9_isName_23 rfl rfl (⟨by congr 2; simp_all [namB, zbi], rfl⟩) (Nat.le_refl _) (Nat.le_refl _)
      · refine J_iconst (v := 1) hT dX9_isName_18 rfl ?_
        refine J_goto (tgt := 23) hT dX9_isName_19 (by decide) ?_
        exact J_iret hT dX9_isName_23 rfl rfl (⟨by congr 2; simp_all [namB, zbi], rfl⟩) (Nat.le_refl _) (Nat.le_refl _)

set_option maxRecDepth 100000 in
set_option maxHeartbeats 4000000 in
theorem c_X9_deedOf {l : Launch} {Z : zZ} (hZ : zSt l Z) {a : Int32} {μ : zMem} : zCt l Z mX9_deedOf 0 0 0 [.int a] μ (fun r μ' => r = some (.int (deedN a)) ∧ μ' = μ) := by
  refine zCt_of hZ mpX9_deedOf (Nat.le_of_ble_eq_true rfl) (L := [some (.int a)]) rfl (fun τ hY => ?_)
  have hT := hY.1
  refine J_iload_n (i := 0) hT dX9_deedOf_0 rfl rfl ?_
  refine J_bipush (v := 43) hT dX9_deedOf_1 rfl ?_
  refine J_icmp_ne (tgt := 10) hT dX9_deedOf_3 (by decide) (fun q3 => ?_) (fun q3 => ?_)
  · refine J_iload_n (i := 0) hT dX9_deedOf_10 rfl rfl ?_
    refine J_bipush (v := 45) hT dX9_deedOf_11 rfl ?_
    refine J_icmp_ne (tgt := 20) hT dX9_deedOf_13 (by decide) (fun q13 => ?_) (fun q13 => ?_)
    · refine J_iload_n (i := 0) hT dX9_deedOf_20 rfl rfl ?_
      refine J_bipush (v := 42) hT dX9_deedOf_21 rfl ?_
      refine J_icmp_ne (tgt := 30) hT dX9_deedOf_23 (by decide) (fun q23 => ?_) (fun q23 => ?_)
      · refine J_iload_n (i := 0) hT dX9_deedOf_30 rfl rfl ?_
        refine J_bipush (v := 60) hT dX9_deedOf_31 rfl ?_
        refine J_icmp_ne (tgt := 40) hT dX9_deedOf_33 (by decide) (fun q33 => ?_) (fun q33 => ?_)
        · refine J_iload_n (i := 0) hT dX9_deedOf_40 rfl rfl ?_
          refine J_bipush (v := 62) hT dX9_deedOf_41 rfl ?_
          refine J_icmp_ne (tgt := 51) hT dX9_deedOf_43 (by decide) (fun q43 => ?_) (fun q43 => ?_)
          · refine J_iload_n (i := 0) hT dX9_deedOf_51 rfl rfl ?_
            refine J_bipush (v := 61) hT dX9_deedOf_52 rfl ?_
            refine J_icmp_ne (tgt := 62) hT dX9_deedOf_54 (by decide) (fun q54 => ?_) (fun q54 => ?_)
            · refine J_iconst (v := 0) hT dX9_deedOf_62 rfl ?_
              exact J_iret hT dX9_deedOf_63 rfl rfl (⟨by simp_all [deedN], rfl⟩) (Nat.le_refl _) (Nat.le_refl _)
            · refine J_bipush (v := 7) hT dX9_deedOf_57 rfl ?_
              refine J_goto (tgt := 63) hT dX9_deedOf_59 (by decide) ?_
              exact J_iret hT dX9_deedOf_63 rfl rfl (⟨by simp_all [deedN], rfl⟩) (Nat.le_refl _) (Nat.le_refl _)
          · refine J_bipush (v := 6) hT dX9_deedOf_46 rfl ?_
            refine J_goto (tgt := 63) hT dX9_deedOf_48 (by decide) ?_
            exact J_iret hT dX9_deedOf_63 rfl rfl (⟨by simp_all [deedN], rfl⟩) (Nat.le_refl _) (Nat.le_refl _)
        · refine J_iconst (v := 5) hT dX9_deedOf_36 rfl ?_
          refine J_goto (tgt := 63) hT dX9_deedOf_37 (by decide) ?_
          exact J_iret hT dX9_deedOf_63 rfl rfl (⟨by simp_all [deedN], rfl⟩) (Nat.le_refl _) (Nat.le_refl _)
      · refine J_iconst (v := 4) hT dX9_deedOf_26 rfl ?_
        refine J_goto (tgt := 63) hT dX9_deedOf_27 (by decide) ?_
        exact J_iret hT dX9_deedOf_63 rfl rfl (⟨by simp_all [deedN], rfl⟩) (Nat.le_refl _) (Nat.le_refl _)
    · refine J_iconst (v := 3) hT dX9_deedOf_16 rfl ?_
      refine J_goto (tgt := 63) hT dX9_deedOf_17 (by decide) ?_
      exact J_iret hT dX9_deedOf_63 rfl rfl (⟨by simp_all [deedN], rfl⟩) (Nat.le_refl _) (Nat.le_refl _)
  · refine J_iconst (v := 2) hT dX9_deedOf_6 rfl ?_
    refine J_goto (tgt := 63) hT dX9_deedOf_7 (by decide) ?_
    exact J_iret hT dX9_deedOf_63 rfl rfl (⟨by simp_all [deedN], rfl⟩) (Nat.le_refl _) (Nat.le_refl _)

set_option maxRecDepth 100000 in
set_option maxHeartbeats 4000000 in
theorem c_X9_rank {l : Launch} {Z : zZ} (hZ : zSt l Z) {a : Int32} {μ : zMem} : zCt l Z mX9_rank 0 0 0 [.int a] μ (fun r μ' => r = some (.int (rankN a)) ∧ μ' = μ) := by
  refine zCt_of hZ mpX9_rank (Nat.le_of_ble_eq_true rfl) (L := [some (.int a)]) rfl (fun τ hY => ?_)
  have hT := hY.1
  refine J_iload_n (i := 0) hT dX9_rank_0 rfl rfl ?_
  refine J_iconst (v := 1) hT dX9_rank_1 rfl ?_
  refine J_icmp_ne (tgt := 9) hT dX9_rank_2 (by decide) (fun q2 => ?_) (fun q2 => ?_)
  · refine J_iload_n (i := 0) hT dX9_rank_9 rfl rfl ?_
    refine J_iconst (v := 4) hT dX9_rank_10 rfl ?_
    refine J_icmp_ne (tgt := 18) hT dX9_rank_11 (by decide) (fun q11 => ?_) (fun q11 => ?_)
    · refine J_iload_n (i := 0) hT dX9_rank_18 rfl rfl ?_
      refine J_iconst (v := 2) hT dX9_rank_19 rfl ?_
      refine J_icmp_eq (tgt := 28) hT dX9_rank_20 (by decide) (fun q20 => ?_) (fun q20 => ?_)
      · refine J_iconst (v := 2) hT dX9_rank_28 rfl ?_
        refine J_goto (tgt := 43) hT dX9_rank_29 (by decide) ?_
        exact J_iret hT dX9_rank_43 rfl rfl (⟨by simp_all [rankN], rfl⟩) (Nat.le_refl _) (Nat.le_refl _)
      · refine J_iload_n (i := 0) hT dX9_rank_23 rfl rfl ?_
        refine J_iconst (v := 3) hT dX9_rank_24 rfl ?_
        refine J_icmp_ne (tgt := 32) hT dX9_rank_25 (by decide) (fun q25 => ?_) (fun q25 => ?_)
        · refine J_iload_n (i := 0) hT dX9_rank_32 rfl rfl ?_
          refine J_bipush (v := 11) hT dX9_rank_33 rfl ?_
          refine J_icmp_ne (tgt := 42) hT dX9_rank_35 (by decide) (fun q35 => ?_) (fun q35 => ?_)
          · refine J_iconst (v := 1) hT dX9_rank_42 rfl ?_
            exact J_iret hT dX9_rank_43 rfl rfl (⟨by simp_all [rankN], rfl⟩) (Nat.le_refl _) (Nat.le_refl _)
          · refine J_iconst (v := 0) hT dX9_rank_38 rfl ?_
            refine J_goto (tgt := 43) hT dX9_rank_39 (by decide) ?_
            exact J_iret hT dX9_rank_43 rfl rfl (⟨by simp_all [rankN], rfl⟩) (Nat.le_refl _) (Nat.le_refl _)
        · refine J_iconst (v := 2) hT dX9_rank_28 rfl ?_
          refine J_goto (tgt := 43) hT dX9_rank_29 (by decide) ?_
          exact J_iret hT dX9_rank_43 rfl rfl (⟨by simp_all [rankN], rfl⟩) (Nat.le_refl _) (Nat.le_refl _)
    · refine J_iconst (v := 3) hT dX9_rank_14 rfl ?_
      refine J_goto (tgt := 43) hT dX9_rank_15 (by decide) ?_
      exact J_iret hT dX9_rank_43 rfl rfl (⟨by simp_all [rankN], rfl⟩) (Nat.le_refl _) (Nat.le_refl _)
  · refine J_iconst (v := 4) hT dX9_rank_5 rfl ?_
    refine J_goto (tgt := 43) hT dX9_rank_6 (by decide) ?_
    exact J_iret hT dX9_rank_43 rfl rfl (⟨by simp_all [rankN], rfl⟩) (Nat.le_refl _) (Nat.le_refl _)

set_option maxRecDepth 100000 in
set_option maxHeartbeats 4000000 in
theorem c_X9_thrown {l : Launch} {Z : zZ} (hZ : zSt l Z) {μ : zMem} {σ : Nat → Nat → Int32} {π : Nat → Nat → Option Nat} {g : Nat → Nat → Int64} (hS : zRef μ π) : zCt l Z mX9_thrown 0 0 0 [.ref 67] (zA4 μ σ π g) (fun r μ' => r = some (.int (σ 67 45)) ∧ μ' = zA4 μ σ π g) := by
  refine zCt_of hZ mpX9_thrown (Nat.le_of_ble_eq_true rfl) (L := [some (.ref 67)]) rfl (fun τ hY => ?_)
  have hT := hY.1
  refine J_aload_n (i := 0) hT dX9_thrown_0 rfl rfl ?_
  refine R_getI hT fX9_129 rfl dX9_thrown_1 (rk hS) ?_
  exact J_iret hT dX9_thrown_4 rfl rfl (⟨rfl, rfl⟩) (Nat.le_refl _) (Nat.le_refl _)

set_option maxRecDepth 100000 in
set_option maxHeartbeats 4000000 in
theorem c_X9_steps {l : Launch} {Z : zZ} (hZ : zSt l Z) {μ : zMem} {σ : Nat → Nat → Int32} {π : Nat → Nat → Option Nat} {g : Nat → Nat → Int64} (hS : zRef μ π) : zCt l Z mX9_steps 0 0 0 [.ref 67] (zA4 μ σ π g) (fun r μ' => r = some (.int (σ 67 42)) ∧ μ' = zA4 μ (zu σ 67 45 0) π g) := by
  refine zCt_of hZ mpX9_steps (Nat.le_of_ble_eq_true rfl) (L := [some (.ref 67)]) rfl (fun τ hY => ?_)
  have hT := hY.1
  refine J_aload_n (i := 0) hT dX9_steps_0 rfl rfl ?_
  refine J_iconst (v := 0) hT dX9_steps_1 rfl ?_
  refine R_putI hT fX9_129 rfl rfl dX9_steps_2 (rk hS) ?_
  refine J_aload_n (i := 0) hT dX9_steps_5 rfl rfl ?_
  refine R_getI hT fX9_277 rfl dX9_steps_6 (rk hS) ?_
  exact J_iret hT dX9_steps_9 rfl rfl (⟨by rfl, rfl⟩) (Nat.le_refl _) (Nat.le_refl _)

set_option maxRecDepth 100000 in
set_option maxHeartbeats 4000000 in
theorem c_X9_now {l : Launch} {Z : zZ} (hZ : zSt l Z) {μ : zMem} {σ : Nat → Nat → Int32} {π : Nat → Nat → Option Nat} {g : Nat → Nat → Int64} (hS : zRef μ π) : zCt l Z mX9_now 0 0 0 [.ref 67] (zA4 μ σ π g) (fun r μ' => r = some (.int (σ 67 34)) ∧ μ' = zA4 μ (zu σ 67 45 0) π g) := by
  refine zCt_of hZ mpX9_now (Nat.le_of_ble_eq_true rfl) (L := [some (.ref 67)]) rfl (fun τ hY => ?_)
  have hT := hY.1
  refine J_aload_n (i := 0) hT dX9_now_0 rfl rfl ?_
  refine J_iconst (v := 0) hT dX9_now_1 rfl ?_
  refine R_putI hT fX9_129 rfl rfl dX9_now_2 (rk hS) ?_
  refine J_aload_n (i := 0) hT dX9_now_5 rfl rfl ?_
  refine R_getI hT fX9_218 rfl dX9_now_6 (rk hS) ?_
  exact J_iret hT dX9_now_9 rfl rfl (⟨by rfl, rfl⟩) (Nat.le_refl _) (Nat.le_refl _)

set_option maxRecDepth 100000 in
set_option maxHeartbeats 4000000 in
theorem c_X9_work {l : Launch} {Z : zZ} (hZ : zSt l Z) {μ : zMem} {σ : Nat → Nat → Int32} {π : Nat → Nat → Option Nat} {g : Nat → Nat → Int64} (hS : zRef μ π) : zCt l Z mX9_work 0 0 0 [.ref 67] (zA4 μ σ π g) (fun r μ' => r = some (.int (σ 67 33)) ∧ μ' = zA4 μ (zu σ 67 45 0) π g) := by
  refine zCt_of hZ mpX9_work (Nat.le_of_ble_eq_true rfl) (L := [some (.ref 67)]) rfl (fun τ hY => ?_)
  have hT := hY.1
  refine J_aload_n (i := 0) hT dX9_work_0 rfl rfl ?_
  refine J_iconst (v := 0) hT dX9_work_1 rfl ?_
  refine R_putI hT fX9_129 rfl rfl dX9_work_2 (rk hS) ?_
  refine J_aload_n (i := 0) hT dX9_work_5 rfl rfl ?_
  refine R_getI hT fX9_208 rfl dX9_work_6 (rk hS) ?_
  exact J_iret hT dX9_work_9 rfl rfl (⟨by rfl, rfl⟩) (Nat.le_refl _) (Nat.le_refl _)

set_option maxRecDepth 100000 in
set_option maxHeartbeats 4000000 in
theorem c_X9_hasRoom {l : Launch} {Z : zZ} (hZ : zSt l Z) {μ : zMem} {σ : Nat → Nat → Int32} {π : Nat → Nat → Option Nat} {g : Nat → Nat → Int64} (hS : zRef μ π) : zCt l Z mX9_hasRoom 0 0 0 [.ref 67] (zA4 μ σ π g) (fun r μ' => r = some (.int (zbi (decide (σ 67 42 < 40)))) ∧ μ' = zA4 μ σ π g) := by
  refine zCt_of hZ mpX9_hasRoom (Nat.le_of_ble_eq_true rfl) (L := [some (.ref 67)]) rfl (fun τ hY => ?_)
  have hT := hY.1
  refine J_aload_n (i := 0) hT dX9_hasRoom_0 rfl rfl ?_
  refine R_getI hT fX9_277 rfl dX9_hasRoom_1 (rk hS) ?_
  refine J_bipush (v := 40) hT dX9_hasRoom_4 rfl ?_
  refine J_icmp_ge (tgt := 13) hT dX9_hasRoom_6 (by decide) (fun q6 => ?_) (fun q6 => ?_)
  · refine J_iconst (v := 0) hT dX9_hasRoom_13 rfl ?_
    exact J_iret hT dX9_hasRoom_14 rfl rfl (⟨by congr 2; simp only [zbi, figB, Int32.lt_iff_toInt_lt, Int32.le_iff_toInt_le, ge_iff_le, gt_iff_lt, Bool.and_eq_true, Bool.or_eq_true, decide_eq_true_eq, Int32.reduceToInt] at *; split <;> first | rfl | omega, rfl⟩) (Nat.le_refl _) (Nat.le_refl _)
  · refine J_iconst (v := 1) hT dX9_hasRoom_9 rfl ?_
    refine J_goto (tgt := 14) hT dX9_hasRoom_10 (by decide) ?_
    exact J_iret hT dX9_hasRoom_14 rfl rfl (⟨by congr 2; simp only [zbi, figB, Int32.lt_iff_toInt_lt, Int32.le_iff_toInt_le, ge_iff_le, gt_iff_lt, Bool.and_eq_true, Bool.or_eq_true, decide_eq_true_eq, Int32.reduceToInt] at *; split <;> first | rfl | omega, rfl⟩) (Nat.le_refl _) (Nat.le_refl _)

set_option maxRecDepth 100000 in
set_option maxHeartbeats 4000000 in
theorem c_X9_isCell {l : Launch} {Z : zZ} (hZ : zSt l Z) {a : Int32} {μ : zMem} : zCt l Z mX9_isCell 1 0 0 [.int a] μ (fun r μ' => r = some (.int (zbi (decide (0 ≤ a) && decide (a < 12)))) ∧ μ' = μ) := by
  refine zCt_of hZ mpX9_isCell (Nat.le_of_ble_eq_true rfl) (L := [some (.int a)]) rfl (fun τ hY => ?_)
  have hT := hY.1
  refine J_iload_n (i := 0) hT dX9_isCell_0 rfl rfl ?_
  refine J_bipush (v := 12) hT dX9_isCell_1 rfl ?_
  refine R_callS1 hY dX9_isCell_3 mfX9_isIn mtX9_isIn kX9_283 (c_X9_isIn hZ) rfl (by decide) rfl rfl (by decide) (Nat.le_refl _) (Nat.le_refl _) ?_
  exact J_iret hT dX9_isCell_6 rfl (zbi_nar _) (⟨rfl, rfl⟩) (Nat.le_refl _) (Nat.le_refl _)

set_option maxRecDepth 100000 in
set_option maxHeartbeats 4000000 in
theorem c_X9_isService {l : Launch} {Z : zZ} (hZ : zSt l Z) {a : Int32} {μ : zMem} : zCt l Z mX9_isService 1 0 0 [.int a] μ (fun r μ' => r = some (.int (zbi (decide (0 ≤ a) && decide (a < 5)))) ∧ μ' = μ) := by
  refine zCt_of hZ mpX9_isService (Nat.le_of_ble_eq_true rfl) (L := [some (.int a)]) rfl (fun τ hY => ?_)
  have hT := hY.1
  refine J_iload_n (i := 0) hT dX9_isService_0 rfl rfl ?_
  refine J_iconst (v := 5) hT dX9_isService_1 rfl ?_
  refine R_callS1 hY dX9_isService_2 mfX9_isIn mtX9_isIn kX9_283 (c_X9_isIn hZ) rfl (by decide) rfl rfl (by decide) (Nat.le_refl _) (Nat.le_refl _) ?_
  exact J_iret hT dX9_isService_5 rfl (zbi_nar _) (⟨rfl, rfl⟩) (Nat.le_refl _) (Nat.le_refl _)

def goesN (a b c : Int32) : Int32 := if a = 0 then 1 else if b = 0 then 2 else if c = 0 then 3 else 0

set_option maxRecDepth 100000 in
set_option maxHeartbeats 4000000 in
theorem c_X9_goes {l : Launch} {Z : zZ} (hZ : zSt l Z) {μ : zMem} {σ : Nat → Nat → Int32} {π : Nat → Nat → Option Nat} {g : Nat → Nat → Int64} (hS : zRef μ π) {a b c : Int32} : zCt l Z mX9_goes 0 0 0 [.ref 67, .int a, .int b, .int c] (zA4 μ σ π g) (fun r μ' => r = some (.int (zbi (decide (goesN a b c = 0)))) ∧ μ' = zA4 μ (zu σ 67 45 (goesN a b c)) π g) := by
  refine zCt_of hZ mpX9_goes (Nat.le_of_ble_eq_true rfl) (L := [some (.ref 67), some (.int a), some (.int b), some (.int c)]) rfl (fun τ hY => ?_)
  have hT := hY.1
  refine J_aload_n (i := 0) hT dX9_goes_0 rfl rfl ?_
  refine J_iload_n (i := 1) hT dX9_goes_1 rfl rfl ?_
  refine J_if_ne (tgt := 9) hT dX9_goes_2 (by decide) (fun q2 => ?_) (fun q2 => ?_)
  · refine J_iload_n (i := 2) hT dX9_goes_9 rfl rfl ?_
    refine J_if_ne (tgt := 17) hT dX9_goes_10 (by decide) (fun q10 => ?_) (fun q10 => ?_)
    · refine J_iload_n (i := 3) hT dX9_goes_17 rfl rfl ?_
      refine J_if_ne (tgt := 25) hT dX9_goes_18 (by decide) (fun q18 => ?_) (fun q18 => ?_)
      · refine J_iconst (v := 0) hT dX9_goes_25 rfl ?_
        refine R_putI hT fX9_129 rfl rfl dX9_goes_26 (rk hS) ?_
        refine J_aload_n (i := 0) hT dX9_goes_29 rfl rfl ?_
        refine R_getI hT fX9_129 rfl dX9_goes_30 (rk hS) ?_
        refine J_if_ne (tgt := 40) hT dX9_goes_33 (by decide) (fun q33 => ?_) (fun q33 => ?_)
        · refine J_iconst (v := 0) hT dX9_goes_40 rfl ?_
          exact J_iret hT dX9_goes_41 rfl rfl (⟨by congr 2; simp_all [goesN, zbi, zu], by simp_all [goesN]⟩) (Nat.le_refl _) (Nat.le_refl _)
        · refine J_iconst (v := 1) hT dX9_goes_36 rfl ?_
          refine J_goto (tgt := 41) hT dX9_goes_37 (by decide) ?_
          exact J_iret hT dX9_goes_41 rfl rfl (⟨by congr 2; simp_all [goesN, zbi, zu], by simp_all [goesN]⟩) (Nat.le_refl _) (Nat.le_refl _)
      · refine J_iconst (v := 3) hT dX9_goes_21 rfl ?_
        refine J_goto (tgt := 26) hT dX9_goes_22 (by decide) ?_
        refine R_putI hT fX9_129 rfl rfl dX9_goes_26 (rk hS) ?_
        refine J_aload_n (i := 0) hT dX9_goes_29 rfl rfl ?_
        refine R_getI hT fX9_129 rfl dX9_goes_30 (rk hS) ?_
        refine J_if_ne (tgt := 40) hT dX9_goes_33 (by decide) (fun q33 => ?_) (fun q33 => ?_)
        · refine J_iconst (v := 0) hT dX9_goes_40 rfl ?_
          exact J_iret hT dX9_goes_41 rfl rfl (⟨by congr 2; simp_all [goesN, zbi, zu], by simp_all [goesN]⟩) (Nat.le_refl _) (Nat.le_refl _)
        · refine J_iconst (v := 1) hT dX9_goes_36 rfl ?_
          refine J_goto (tgt := 41) hT dX9_goes_37 (by decide) ?_
          exact J_iret hT dX9_goes_41 rfl rfl (⟨by congr 2; simp_all [goesN, zbi, zu], by simp_all [goesN]⟩) (Nat.le_refl _) (Nat.le_refl _)
    · refine J_iconst (v := 2) hT dX9_goes_13 rfl ?_
      refine J_goto (tgt := 26) hT dX9_goes_14 (by decide) ?_
      refine R_putI hT fX9_129 rfl rfl dX9_goes_26 (rk hS) ?_
      refine J_aload_n (i := 0) hT dX9_goes_29 rfl rfl ?_
      refine R_getI hT fX9_129 rfl dX9_goes_30 (rk hS) ?_
      refine J_if_ne (tgt := 40) hT dX9_goes_33 (by decide) (fun q33 => ?_) (fun q33 => ?_)
      · refine J_iconst (v := 0) hT dX9_goes_40 rfl ?_
        exact J_iret hT dX9_goes_41 rfl rfl (⟨by congr 2; simp_all [goesN, zbi, zu], by simp_all [goesN]⟩) (Nat.le_refl _) (Nat.le_refl _)
      · refine J_iconst (v := 1) hT dX9_goes_36 rfl ?_
        refine J_goto (tgt := 41) hT dX9_goes_37 (by decide) ?_
        exact J_iret hT dX9_goes_41 rfl rfl (⟨by congr 2; simp_all [goesN, zbi, zu], by simp_all [goesN]⟩) (Nat.le_refl _) (Nat.le_refl _)
  · refine J_iconst (v := 1) hT dX9_goes_5 rfl ?_
    refine J_goto (tgt := 26) hT dX9_goes_6 (by decide) ?_
    refine R_putI hT fX9_129 rfl rfl dX9_goes_26 (rk hS) ?_
    refine J_aload_n (i := 0) hT dX9_goes_29 rfl rfl ?_
    refine R_getI hT fX9_129 rfl dX9_goes_30 (rk hS) ?_
    refine J_if_ne (tgt := 40) hT dX9_goes_33 (by decide) (fun q33 => ?_) (fun q33 => ?_)
    · refine J_iconst (v := 0) hT dX9_goes_40 rfl ?_
      exact J_iret hT dX9_goes_41 rfl rfl (⟨by congr 2; simp_all [goesN, zbi, zu], by simp_all [goesN]⟩) (Nat.le_refl _) (Nat.le_refl _)
    · refine J_iconst (v := 1) hT dX9_goes_36 rfl ?_
      refine J_goto (tgt := 41) hT dX9_goes_37 (by decide) ?_
      exact J_iret hT dX9_goes_41 rfl rfl (⟨by congr 2; simp_all [goesN, zbi, zu], by simp_all [goesN]⟩) (Nat.le_refl _) (Nat.le_refl _)

set_option maxRecDepth 100000 in
set_option maxHeartbeats 4000000 in
theorem c_X9_isOld {l : Launch} {Z : zZ} (hZ : zSt l Z) {μ : zMem} {σ : Nat → Nat → Int32} {π : Nat → Nat → Option Nat} {g : Nat → Nat → Int64} (hS : zRef μ π) {i : Nat} (hi : i < 5) : zCt l Z mX9_isOld 0 0 0 [.ref 67, .int (nI i)] (zA4 μ σ π g) (fun r μ' => r = some (.int (zbi (decide (σ 91 i < 0) || decide (10 < σ 67 34 - σ 91 i)))) ∧ μ' = zA4 μ σ π g) := by
  refine zCt_of hZ mpX9_isOld (Nat.le_of_ble_eq_true rfl) (L := [some (.ref 67), some (.int (nI i))]) rfl (fun τ hY => ?_)
  have hT := hY.1
  refine J_aload_n (i := 0) hT dX9_isOld_0 rfl rfl ?_
  refine R_getP hT fX9_80 rfl dX9_isOld_1 (rk hS) (rp_toldAt hS) ?_
  refine J_iload_n (i := 1) hT dX9_isOld_4 rfl rfl ?_
  refine R_iald hT dX9_isOld_5 (rk_toldAt hS) (rl_toldAt hS) (by first | exact ⟨rfl, by decide⟩ | exact zix_nI (by omega) (by decide) | assumption) ?_
  refine J_if_lt (tgt := 25) hT dX9_isOld_6 (by decide) (fun q6 => ?_) (fun q6 => ?_)
  · refine J_iconst (v := 1) hT dX9_isOld_25 rfl ?_
    refine J_goto (tgt := 30) hT dX9_isOld_26 (by decide) ?_
    exact J_iret hT dX9_isOld_30 rfl rfl (⟨by congr 2; simp only [zbi, figB, Int32.lt_iff_toInt_lt, Int32.le_iff_toInt_le, ge_iff_le, gt_iff_lt, Bool.and_eq_true, Bool.or_eq_true, decide_eq_true_eq, Int32.reduceToInt] at *; split <;> first | rfl | omega, rfl⟩) (Nat.le_refl _) (Nat.le_refl _)
  · refine J_aload_n (i := 0) hT dX9_isOld_9 rfl rfl ?_
    refine R_getI hT fX9_218 rfl dX9_isOld_10 (rk hS) ?_
    refine J_aload_n (i := 0) hT dX9_isOld_13 rfl rfl ?_
    refine R_getP hT fX9_80 rfl dX9_isOld_14 (rk hS) (rp_toldAt hS) ?_
    refine J_iload_n (i := 1) hT dX9_isOld_17 rfl rfl ?_
    refine R_iald hT dX9_isOld_18 (rk_toldAt hS) (rl_toldAt hS) (by first | exact ⟨rfl, by decide⟩ | exact zix_nI (by omega) (by decide) | assumption) ?_
    refine J_isub hT dX9_isOld_19 ?_
    refine J_bipush (v := 10) hT dX9_isOld_20 rfl ?_
    refine J_icmp_le (tgt := 29) hT dX9_isOld_22 (by decide) (fun q22 => ?_) (fun q22 => ?_)
    · refine J_iconst (v := 0) hT dX9_isOld_29 rfl ?_
      exact J_iret hT dX9_isOld_30 rfl rfl (⟨by congr 2; simp only [zbi, figB, Int32.lt_iff_toInt_lt, Int32.le_iff_toInt_le, ge_iff_le, gt_iff_lt, Bool.and_eq_true, Bool.or_eq_true, decide_eq_true_eq, Int32.reduceToInt] at *; split <;> first | rfl | omega, rfl⟩) (Nat.le_refl _) (Nat.le_refl _)
    · refine J_iconst (v := 1) hT dX9_isOld_25 rfl ?_
      refine J_goto (tgt := 30) hT dX9_isOld_26 (by decide) ?_
      exact J_iret hT dX9_isOld_30 rfl rfl (⟨by congr 2; simp only [zbi, figB, Int32.lt_iff_toInt_lt, Int32.le_iff_toInt_le, ge_iff_le, gt_iff_lt, Bool.and_eq_true, Bool.or_eq_true, decide_eq_true_eq, Int32.reduceToInt] at *; split <;> first | rfl | omega, rfl⟩) (Nat.le_refl _) (Nat.le_refl _)

set_option maxRecDepth 100000 in
set_option maxHeartbeats 4000000 in
theorem c_X9_runs {l : Launch} {Z : zZ} (hZ : zSt l Z) {μ : zMem} {σ : Nat → Nat → Int32} {π : Nat → Nat → Option Nat} {g : Nat → Nat → Int64} (hS : zRef μ π) {i : Nat} (hi : i < 5) : zCt l Z mX9_runs 0 0 0 [.ref 67, .int (nI i)] (zA4 μ σ π g) (fun r μ' => r = none ∧ μ' = zA4 μ (zu (zu σ 92 i 2) 97 i (σ 97 i + 1)) π g) := by
  refine zCt_of hZ mpX9_runs (Nat.le_of_ble_eq_true rfl) (L := [some (.ref 67), some (.int (nI i))]) rfl (fun τ hY => ?_)
  have hT := hY.1
  refine J_aload_n (i := 0) hT dX9_runs_0 rfl rfl ?_
  refine R_getP hT fX9_83 rfl dX9_runs_1 (rk hS) (rp_state hS) ?_
  refine J_iload_n (i := 1) hT dX9_runs_4 rfl rfl ?_
  refine J_iconst (v := 2) hT dX9_runs_5 rfl ?_
  refine R_iast hT dX9_runs_6 (rk_state hS) (rl_state hS) (by first | exact ⟨rfl, by decide⟩ | exact zix_nI (by omega) (by decide) | assumption) ?_
  refine J_aload_n (i := 0) hT dX9_runs_7 rfl rfl ?_
  refine R_getP hT fX9_98 rfl dX9_runs_8 (rk hS) (rp_starts hS) ?_
  refine J_iload_n (i := 1) hT dX9_runs_11 rfl rfl ?_
  refine J_dup2 hT dX9_runs_12 rfl rfl ?_
  refine R_iald hT dX9_runs_13 (rk_starts hS) (rl_starts hS) (by first | exact ⟨rfl, by decide⟩ | exact zix_nI (by omega) (by decide) | assumption) ?_
  refine J_iconst (v := 1) hT dX9_runs_14 rfl ?_
  refine J_iadd hT dX9_runs_15 ?_
  refine R_iast hT dX9_runs_16 (rk_starts hS) (rl_starts hS) (by first | exact ⟨rfl, by decide⟩ | exact zix_nI (by omega) (by decide) | assumption) ?_
  exact J_vret hT dX9_runs_17 rfl (⟨rfl, by simp [zu]⟩) (Nat.le_refl _) (Nat.le_refl _)
