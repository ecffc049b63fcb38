theorem oq_a49e6adf {a0 a1 : Int} (h0 : a0 ≠ 0) (h1 : 0 ≤ a0) : (a0 = 0 → a1 < a1) := by omega
theorem oq_886c3d04 {a0 a1 : Int} (h0 : (a0 = a1 ∨ a0 ≤ 202)) (h1 : a1 ≤ 203) : (a0 + 1) ≤ 400 := by omega
theorem oq_bc84bd0b {a0 a1 a2 a3 : Int} (h0 : a0 = (a1 + 1)) (h1 : a2 = 0) (h2 : (a1 = a3 ∨ a1 ≤ 202)) (h3 : (a2 = 0 → a3 ≤ 202)) : a0 ≤ 203 := by omega
theorem oq_82f073b0 {a0 a1 a2 : Int} {n3 : Nat} (h0 : a0 = a1) (h1 : (a2 + (((n3 + 1) : Nat) : Int)) = 7) (h2 : a1 = a2) : (a0 + (((n3 + 1) : Nat) : Int)) = 7 := by omega
theorem oq_4d33fe7c {a0 a1 a2 a3 a4 : Int} (h0 : a0 = a1) (h1 : a2 = 0) (h2 : a1 = a3) (h3 : (a3 = 7 → a2 ≠ 0)) : (a0 = 7 → a4 ≠ 0) := by omega
theorem oq_78548c36 (r : Nat) : (12 + (3 * (r + 1) + 2)) + 1 ≤ (12 + (24 + 3 * (r + 1))) := by omega
theorem oq_7957a5e4 (r : Nat) : 8 + (4 + 11) + (500 + 45 * (3 * (r + 1) + 2)) ≤ (500 + 45 * (24 + 3 * (r + 1))) := by omega
theorem oq_ed635da4 {a0 a1 a2 a3 : Int} (h0 : a0 ≤ a1) (h1 : a0 = (a2 + 1)) (h2 : a3 ≤ a2) : a3 ≤ a1 := by omega
theorem oq_300ee640 {a0 a1 a2 a3 a4 : Int} (h0 : (a0 = a1 ∨ a0 ≤ 202)) (h1 : a1 = (a2 + 1)) (h2 : a3 = 0) (h3 : (a2 = a4 ∨ a2 ≤ 202)) (h4 : (a3 = 0 → a4 ≤ 202)) : (a0 = a4 ∨ a0 ≤ 203) := by omega
theorem oq_70dd041d {a0 a1 a2 a3 a4 : Int} (h0 : 0 ≤ a0) (h1 : (a0 = 0 → a1 ≤ a2)) (h2 : a2 = a3) (h3 : a3 = a4) : (a0 = 0 → a1 ≤ a4) := by omega
theorem oq_bed11c68 {a0 a1 a2 a3 a4 : Int} (h0 : a0 ≤ a1) (h1 : a0 = (a2 + 1)) (h2 : a3 ≤ a2) : (a4 = 0 → a3 < a1) := by omega
theorem oq_36eaf53c (r : Nat) : 7 + 1 ≤ (12 + (24 + 3 * (r + 1))) := by omega
theorem oq_a27e1a18 (r : Nat) : 8 + (1 + 11) + 121 ≤ (500 + 45 * (24 + 3 * (r + 1))) := by omega
theorem oq_51b017a3 (r : Nat) : 6 + 1 ≤ (12 + (24 + 3 * (r + 1))) := by omega
theorem oq_e45c9306 (r : Nat) : 8 + (2 + 11) + 100 ≤ (500 + 45 * (24 + 3 * (r + 1))) := by omega
theorem oq_948351f9 {a0 a1 a2 a3 a4 a5 : Int} (h0 : a0 = 60) (h1 : a1 = a2) (h2 : ((a3 ≤ a2 ∧ a0 = (-1)) ∨ (a2 < a3 ∧ (0 ≤ a0 ∧ a0 ≤ 255)))) (h3 : a3 = a4) (h4 : a4 ≤ 200) : (a1 = a5 ∨ a1 ≤ 202) := by omega
theorem oq_26d29cd1 {a0 a1 a2 a3 a4 a5 a6 : Int} (h0 : a0 = 60) (h1 : a1 = a2) (h2 : ((a3 ≤ a2 ∧ a0 = (-1)) ∨ (a2 < a3 ∧ (0 ≤ a0 ∧ a0 ≤ 255)))) (h3 : a3 = a4) (h4 : a4 = a5) : (a6 = 0 → a1 ≤ a5) := by omega
theorem oq_48ee4ea2 {a0 : Int} (h0 : a0 = 60) : (-1) ≤ a0 := by omega
theorem oq_dd8e5557 {a0 : Int} (h0 : a0 = 60) : a0 ≤ 255 := by omega
theorem oq_754fcaa6 {a0 a1 a2 a3 a4 a5 : Int} (h0 : a0 = 62) (h1 : a1 = a2) (h2 : ((a3 ≤ a2 ∧ a0 = (-1)) ∨ (a2 < a3 ∧ (0 ≤ a0 ∧ a0 ≤ 255)))) (h3 : a3 = a4) (h4 : a4 ≤ 200) : (a1 = a5 ∨ a1 ≤ 202) := by omega
theorem oq_20e35830 {a0 a1 a2 a3 a4 a5 a6 : Int} (h0 : a0 = 62) (h1 : a1 = a2) (h2 : ((a3 ≤ a2 ∧ a0 = (-1)) ∨ (a2 < a3 ∧ (0 ≤ a0 ∧ a0 ≤ 255)))) (h3 : a3 = a4) (h4 : a4 = a5) : (a6 = 0 → a1 ≤ a5) := by omega
theorem oq_1aa2d2e5 {a0 : Int} (h0 : a0 = 62) : (-1) ≤ a0 := by omega
theorem oq_68b13569 {a0 : Int} (h0 : a0 = 62) : a0 ≤ 255 := by omega
theorem oq_7afbd850 {a0 a1 a2 a3 a4 a5 : Int} (h0 : a0 = 61) (h1 : a1 = a2) (h2 : ((a3 ≤ a2 ∧ a0 = (-1)) ∨ (a2 < a3 ∧ (0 ≤ a0 ∧ a0 ≤ 255)))) (h3 : a3 = a4) (h4 : a4 ≤ 200) : (a1 = a5 ∨ a1 ≤ 202) := by omega
theorem oq_1142ea38 {a0 a1 a2 a3 a4 a5 a6 : Int} (h0 : a0 = 61) (h1 : a1 = a2) (h2 : ((a3 ≤ a2 ∧ a0 = (-1)) ∨ (a2 < a3 ∧ (0 ≤ a0 ∧ a0 ≤ 255)))) (h3 : a3 = a4) (h4 : a4 = a5) : (a6 = 0 → a1 ≤ a5) := by omega
theorem oq_3f06b504 {a0 : Int} (h0 : a0 = 61) : (-1) ≤ a0 := by omega
theorem oq_83a663bc {a0 : Int} (h0 : a0 = 61) : a0 ≤ 255 := by omega
theorem oq_53e0fa7a (r : Nat) : 8 + (3 + 11) + 100 ≤ (500 + 45 * (24 + 3 * (r + 1))) := by omega
theorem oq_47a75eb0 {a0 a1 a2 : Int} (h0 : ((a0 ≤ a1 ∧ a2 = (-1)) ∨ (a1 < a0 ∧ (0 ≤ a2 ∧ a2 ≤ 255)))) : (-1) ≤ a2 := by omega
theorem oq_47d561e4 {a0 a1 a2 : Int} (h0 : ((a0 ≤ a1 ∧ a2 = (-1)) ∨ (a1 < a0 ∧ (0 ≤ a2 ∧ a2 ≤ 255)))) : a2 ≤ 255 := by omega
theorem oq_91dbadf4 (r : Nat) : 8 + 1 ≤ (12 + (24 + 3 * (r + 1))) := by omega
theorem oq_2d8c6e6c (r : Nat) : 8 + (3 + 11) + 141 ≤ (500 + 45 * (24 + 3 * (r + 1))) := by omega
theorem oq_22dfea8e (r : Nat) : 8 + (7 + 11) + 100 ≤ (500 + 45 * (24 + 3 * (r + 1))) := by omega
theorem oq_f296b76d {a0 a1 a2 a3 a4 : Int} (h0 : a0 = a1) (h1 : a1 = a2) (h2 : (a2 = a3 ∨ a2 ≤ a4)) (h3 : a4 ≤ 200) (h4 : a3 ≤ 203) : a0 ≤ 203 := by omega
theorem oq_f71ce2a5 {a0 a1 a2 a4 : Int} {n3 : Nat} (h0 : a0 = a1) (h1 : (a2 + (((n3 + 1) : Nat) : Int)) = 7) (h2 : a1 = a4) (h3 : a4 = a2) : (a0 + (((n3 + 1) : Nat) : Int)) = 7 := by omega
theorem oq_f1a73c9d {a0 a1 a2 a3 a4 a5 : Int} (h0 : a0 = a1) (h1 : a1 = a2) (h2 : a2 = a3) (h3 : a4 = 0) (h4 : (a3 = 7 → a4 ≠ 0)) : (a0 = 7 → a5 ≠ 0) := by omega
theorem oq_904c728b {a0 a1 a2 a3 a4 : Int} (h0 : a0 ≤ a1) (h1 : a0 = a2) (h2 : a3 ≤ a4) (h3 : a2 = a4) : a3 ≤ a1 := by omega
theorem oq_1659f388 {a0 a1 a2 a3 a4 a5 : Int} (h0 : (a0 = a1 ∨ a0 ≤ 202)) (h1 : a1 = a2) (h2 : a2 = a3) (h3 : (a3 = a4 ∨ a3 ≤ a5)) (h4 : a5 ≤ 200) (h5 : a4 ≤ 203) : (a0 = a4 ∨ a0 ≤ 202) := by omega
theorem oq_cfa0a9a6 {a0 a1 a2 a3 a4 a5 : Int} (h0 : 0 ≤ a0) (h1 : (a0 = 0 → a1 ≤ a2)) (h2 : a2 = a3) (h3 : a3 = a4) (h4 : a4 = a5) : (a0 = 0 → a1 ≤ a5) := by omega
theorem oq_06057f8f {a0 a1 a2 a3 a4 a5 : Int} (h0 : a0 = 91) (h1 : a1 = a2) (h2 : ((a3 ≤ a2 ∧ a0 = (-1)) ∨ (a2 < a3 ∧ (0 ≤ a0 ∧ a0 ≤ 255)))) (h3 : a3 = a4) (h4 : a4 = a5) (h5 : a5 ≤ 200) : a1 ≤ 380 := by omega
theorem oq_2520a5c5 (r : Nat) : 8 + (2 + 11) + 122 ≤ (500 + 45 * (24 + 3 * (r + 1))) := by omega
theorem oq_abf741e9 {a0 a1 a2 a3 a4 a5 a6 : Int} (h0 : a0 = (a1 + 1)) (h1 : a2 = 91) (h2 : a1 = a3) (h3 : ((a4 ≤ a3 ∧ a2 = (-1)) ∨ (a3 < a4 ∧ (0 ≤ a2 ∧ a2 ≤ 255)))) (h4 : a4 = a5) (h5 : a5 = a6) (h6 : a6 ≤ 200) : a0 ≤ 203 := by omega
theorem oq_f5a67a2f {a0 a1 a2 a3 a4 a5 a6 a7 : Int} (h0 : a0 = (a1 + 1)) (h1 : a2 = 91) (h2 : a1 = a3) (h3 : ((a4 ≤ a3 ∧ a2 = (-1)) ∨ (a3 < a4 ∧ (0 ≤ a2 ∧ a2 ≤ 255)))) (h4 : a4 = a5) (h5 : a5 = a6) (h6 : a6 ≤ 200) : (a7 = 0 → a0 ≤ 202) := by omega
theorem oq_853f7f04 (r : Nat) : (12 + (24 + 3 * (r) + 2)) + 1 ≤ (12 + (24 + 3 * (r + 1))) := by omega
theorem oq_4ce40754 (r : Nat) : 8 + (3 + 11) + (500 + 45 * (24 + 3 * (r) + 2)) ≤ (500 + 45 * (24 + 3 * (r + 1))) := by omega
theorem oq_b8da2b9d {a0 a1 a2 a3 a4 a5 a6 a7 : Int} (h0 : (a0 = a1 ∨ a0 ≤ 203)) (h1 : a1 = (a2 + 1)) (h2 : a3 = 91) (h3 : a2 = a4) (h4 : ((a5 ≤ a4 ∧ a3 = (-1)) ∨ (a4 < a5 ∧ (0 ≤ a3 ∧ a3 ≤ 255)))) (h5 : a5 = a6) (h6 : a6 = a7) (h7 : a7 ≤ 200) : a0 ≤ 380 := by omega
theorem oq_da5feea9 (r : Nat) : 8 + (2 + 11) + 141 ≤ (500 + 45 * (24 + 3 * (r + 1))) := by omega
theorem oq_534c96f9 {a0 a1 a2 a3 a4 a5 a6 : Int} (h0 : a0 = a1) (h1 : a1 = a2) (h2 : a2 = (a3 + 1)) (h3 : a3 = a4) (h4 : a4 = a5) (h5 : a5 = a6) (h6 : 0 ≤ a6) : 0 ≤ (a0 - 1) := by omega
theorem oq_9391e35d {a0 a1 a2 a3 a4 a5 a6 a7 : Int} (h0 : a0 = (a1 - 1)) (h1 : a1 = a2) (h2 : a2 = a3) (h3 : a3 = (a4 + 1)) (h4 : a4 = a5) (h5 : a5 = a6) (h6 : a6 = a7) : a0 = a7 := by omega
theorem oq_35525f1f {a0 a1 a2 a3 a4 a5 a6 a7 : Int} (h0 : a0 = a1) (h1 : a2 ≤ a1) (h2 : a3 ≤ a2) (h3 : a3 = (a4 + 1)) (h4 : a4 = a5) (h5 : a5 = a6) (h6 : a7 ≤ a6) : a7 ≤ a0 := by omega
theorem oq_c0a6dc61 {a0 a1 a2 a3 a4 a5 a6 a7 a8 a9 a10 a11 a12 a13 : Int} (h0 : a0 = a1) (h1 : (a1 = a2 ∨ a1 ≤ a3)) (h2 : a3 = a4) (h3 : (a2 = a5 ∨ a2 ≤ 203)) (h4 : a4 = a6) (h5 : a5 = (a7 + 1)) (h6 : a8 = 91) (h7 : a6 = a9) (h8 : a7 = a10) (h9 : ((a9 ≤ a10 ∧ a8 = (-1)) ∨ (a10 < a9 ∧ (0 ≤ a8 ∧ a8 ≤ 255)))) (h10 : a9 = a11) (h11 : a11 = a12) (h12 : a12 ≤ 200) : (a0 = a13 ∨ a0 ≤ 203) := by omega
theorem oq_9a0e9129 {a0 a1 a2 a3 a4 a5 a6 a7 a8 a9 a10 : Int} (h0 : a0 = a1) (h1 : a2 = a3) (h2 : 0 ≤ a1) (h3 : (a1 = 0 → (a4 < a3 ∧ a3 ≤ a5))) (h4 : (a3 = a4 ∨ a3 ≤ a5)) (h5 : a5 = a6) (h6 : a6 = a7) (h7 : a7 = a8) (h8 : a8 = a9) (h9 : a9 = a10) : (a0 = 0 → a2 ≤ a10) := by omega
theorem oq_196cd904 {a0 a1 a2 a3 a4 a5 a6 a7 a8 : Int} (h0 : a0 = a1) (h1 : a2 ≤ a1) (h2 : a3 ≤ a2) (h3 : a3 = (a4 + 1)) (h4 : a4 = a5) (h5 : a5 = a6) (h6 : a7 ≤ a6) : (a8 = 0 → a7 < a0) := by omega
theorem oq_69c1a7bc {a0 a1 a2 a3 a4 : Int} (h0 : a0 = a1) (h1 : a2 = a3) (h2 : 1 ≤ a1) (h3 : (a0 ≠ 0 → a3 < a4)) (h4 : a4 ≤ 200) : a2 ≤ 380 := by omega
theorem oq_fb308048 {a0 a1 a2 a3 a4 a5 : Int} (h0 : a0 = (a1 + 3)) (h1 : a2 = a3) (h2 : a1 = a4) (h3 : 1 ≤ a3) (h4 : (a2 ≠ 0 → a4 < a5)) (h5 : a5 ≤ 200) : a0 ≤ 203 := by omega
theorem oq_e6a9dcd2 {a0 a2 a3 a4 : Int} {n1 : Nat} (h0 : (a0 + (((n1 + 1) : Nat) : Int)) = 7) (h1 : a2 = (a3 + 1)) (h2 : a3 = a4) (h3 : a4 = a0) : (a2 + ((n1 : Nat) : Int)) = 7 := by omega
theorem oq_f26382f6 {a0 a1 a2 a3 a4 a5 a6 : Int} (h0 : a0 = (a1 + 3)) (h1 : a2 = a3) (h2 : a1 = a4) (h3 : 1 ≤ a3) (h4 : (a2 ≠ 0 → a4 < a5)) (h5 : a5 ≤ 200) : (a6 = 0 → a0 ≤ 202) := by omega
theorem oq_02269255 (r : Nat) : (12 + (24 + 3 * (r))) + 1 ≤ (12 + (24 + 3 * (r + 1))) := by omega
theorem oq_bcf847ad (r : Nat) : 8 + (4 + 11) + (500 + 45 * (24 + 3 * (r))) ≤ (500 + 45 * (24 + 3 * (r + 1))) := by omega
theorem oq_4cec3bfa {a0 a1 a2 a3 a4 : Int} (h0 : a0 = a1) (h1 : a1 = (a2 + 1)) (h2 : a2 = a3) (h3 : a3 = a4) (h4 : 0 ≤ a4) : 0 ≤ (a0 - 1) := by omega
theorem oq_78ade64d {a0 a1 : Int} (h0 : a0 ≤ 1) (h1 : 0 ≤ a0) (h2 : ((a1 ≠ 0 ∧ a0 = 0) ∨ (a1 = 0 ∧ a0 = 1))) : (a0 = 0 ∨ a0 = 1) := by omega
theorem oq_2ae1798d {a0 a1 a2 a3 a4 a5 : Int} (h0 : a0 = (a1 - 1)) (h1 : a2 = a3) (h2 : a4 = a2) (h3 : a5 = (a4 + 1)) (h4 : a1 = a5) : a0 = a3 := by omega
theorem oq_ebda117e {a0 a1 a2 a3 a4 a5 : Int} (h0 : a0 = a1) (h1 : a2 ≤ a3) (h2 : a4 = a3) (h3 : a5 = (a4 + 3)) (h4 : a5 ≤ a1) : a2 ≤ a0 := by omega
theorem oq_db6a6d1e {a0 a1 a2 a3 a4 a5 a6 a7 a8 : Int} (h0 : a0 = a1) (h1 : (a1 = a2 ∨ a1 ≤ 203)) (h2 : a2 = (a3 + 3)) (h3 : a4 = a5) (h4 : a3 = a6) (h5 : 1 ≤ a5) (h6 : (a4 ≠ 0 → a6 < a7)) (h7 : a7 ≤ 200) : (a0 = a8 ∨ a0 ≤ 203) := by omega
theorem oq_97db85d0 {a0 a1 a2 a3 a4 a5 a6 a7 : Int} (h0 : a0 = a1) (h1 : a2 = a3) (h2 : 0 ≤ a1) (h3 : (a1 = 0 → a3 ≤ a4)) (h4 : a4 = a5) (h5 : a5 = a6) (h6 : a6 = a7) : (a0 = 0 → a2 ≤ a7) := by omega
theorem oq_4fd60e17 {a0 a1 a2 a3 a4 a5 a6 : Int} (h0 : a0 = a1) (h1 : a2 ≤ a1) (h2 : a2 = (a3 + 3)) (h3 : a3 = a4) (h4 : a5 ≤ a4) : (a6 = 0 → a5 < a0) := by omega
theorem oq_179d6548 {a0 a1 : Int} (h0 : (a0 = a1 ∨ a0 ≤ 203)) (h1 : a1 ≤ 203) : a0 ≤ 390 := by omega
theorem oq_39e70b4f (r : Nat) : 8 + 1 ≤ (12 + (24 + 3 * (r) + 1)) := by omega
theorem oq_c22861ba (r : Nat) : 8 + (3 + 11) + 141 ≤ (500 + 45 * (24 + 3 * (r) + 1)) := by omega
theorem oq_daac07eb (r : Nat) : 6 + 1 ≤ (12 + (24 + 3 * (r) + 1)) := by omega
theorem oq_40ed5dd2 (r : Nat) : 8 + (7 + 11) + 100 ≤ (500 + 45 * (24 + 3 * (r) + 1)) := by omega
theorem oq_4d38c61b {a0 a1 a2 a3 a4 : Int} (h0 : a0 = a1) (h1 : (a1 = a2 ∨ a1 ≤ a3)) (h2 : a3 ≤ 200) (h3 : (a2 = a4 ∨ a2 ≤ 203)) (h4 : a4 ≤ 203) : (a0 = a4 ∨ a0 ≤ 203) := by omega
theorem oq_613e077a {a0 a1 a2 a3 a4 a5 a6 : Int} (h0 : a0 = a1) (h1 : (a1 = a2 ∨ a1 ≤ a3)) (h2 : a4 = 0) (h3 : a3 = a5) (h4 : (a4 = 0 → a2 ≤ a5)) : (a6 = 0 → a0 ≤ a5) := by omega
theorem oq_f8cf8f83 {a0 a1 a2 a3 a4 : Int} (h0 : a0 = a1) (h1 : a2 ≤ a1) (h2 : (a3 = 0 → a4 < a2)) (h3 : 0 ≤ a3) : (a3 = 0 → a4 < a0) := by omega
theorem oq_853b39fa {a0 a1 a2 a3 a4 : Int} (h0 : a0 = a1) (h1 : a2 = a3) (h2 : 1 ≤ a1) (h3 : (a0 ≠ 0 → a3 < a4)) (h4 : a4 ≤ 200) : a2 ≤ 390 := by omega
theorem oq_ede76fc4 (r : Nat) : 7 + 1 ≤ (12 + (24 + 3 * (r) + 1)) := by omega
theorem oq_71ab51d5 (r : Nat) : 8 + (1 + 11) + 121 ≤ (500 + 45 * (24 + 3 * (r) + 1)) := by omega
theorem oq_aed112bd {a0 a1 a2 a3 a4 a5 a6 a7 : Int} (h0 : (a0 = a1 ∨ a0 ≤ a2)) (h1 : a3 = a4) (h2 : a2 = a5) (h3 : a1 = a6) (h4 : 1 ≤ a4) (h5 : a5 = a7) (h6 : (a3 ≠ 0 → a6 < a7)) (h7 : a7 ≤ 200) : a0 ≤ 203 := by omega
theorem oq_7df43967 {a0 a1 a2 a3 a4 a5 a6 a7 a8 : Int} (h0 : (a0 = a1 ∨ a0 ≤ a2)) (h1 : a3 = a4) (h2 : a2 = a5) (h3 : a1 = a6) (h4 : 1 ≤ a4) (h5 : a5 = a7) (h6 : (a3 ≠ 0 → a6 < a7)) (h7 : a7 ≤ 200) : (a8 = 0 → a0 ≤ 202) := by omega
theorem oq_03e50da9 (r : Nat) : (12 + (24 + 3 * (r))) + 1 ≤ (12 + (24 + 3 * (r) + 1)) := by omega
theorem oq_cc4dfda7 (r : Nat) : 8 + (4 + 11) + (500 + 45 * (24 + 3 * (r))) ≤ (500 + 45 * (24 + 3 * (r) + 1)) := by omega
theorem oq_469c7eaf {a0 a1 a2 a3 a4 a5 : Int} (h0 : a0 = a1) (h1 : a1 = a2) (h2 : a2 = a3) (h3 : a3 = a4) (h4 : a4 = a5) : a0 = a5 := by omega
theorem oq_df567ab1 {a0 a1 a2 a3 a4 a5 : Int} (h0 : a0 ≤ a1) (h1 : a2 ≤ a0) (h2 : a2 = a3) (h3 : a4 ≤ a5) (h4 : a5 ≤ a3) : a4 ≤ a1 := by omega
theorem oq_fe8590e8 {a0 a1 a2 a3 a4 a5 a6 a7 a8 a9 : Int} (h0 : (a0 = a1 ∨ a0 ≤ 203)) (h1 : (a1 = a2 ∨ a1 ≤ a3)) (h2 : a4 = a5) (h3 : a3 = a6) (h4 : a2 = a7) (h5 : 1 ≤ a5) (h6 : a6 = a8) (h7 : (a4 ≠ 0 → a7 < a8)) (h8 : a8 ≤ 200) : (a0 = a9 ∨ a0 ≤ 203) := by omega
theorem oq_0a04dc49 {a0 a1 a2 a3 a4 a5 a6 : Int} (h0 : 0 ≤ a0) (h1 : (a0 = 0 → a1 ≤ a2)) (h2 : a2 = a3) (h3 : a3 = a4) (h4 : a4 = a5) (h5 : a5 = a6) : (a0 = 0 → a1 ≤ a6) := by omega
theorem oq_2a02c81e {a0 a1 a2 a3 a4 a5 a6 a7 a8 a9 a10 : Int} (h0 : (a0 = 0 → a1 < a2)) (h1 : a0 = a3) (h2 : a4 ≤ a1) (h3 : a3 = a5) (h4 : a4 = a6) (h5 : a5 = a7) (h6 : a8 ≤ a6) (h7 : a7 = 0) (h8 : a9 ≤ a8) : (a10 = 0 → a9 < a2) := by omega
theorem oq_3d279f51 {a0 a1 a2 a3 a4 a5 a6 a7 a8 a9 a10 a11 a12 a13 : Int} (h0 : a0 = a1) (h1 : (a2 = 0 → a3 < a4)) (h2 : a2 = a5) (h3 : a1 = a6) (h4 : a7 ≤ a3) (h5 : a5 = a8) (h6 : a6 = a9) (h7 : a7 = a10) (h8 : a8 = a11) (h9 : a9 = a12) (h10 : a13 ≤ a10) (h11 : a11 = 0) : (a0 - a4) < (a12 - a13) := by omega
theorem oq_32b967f2 {a0 a1 a2 a3 a4 : Int} (h0 : a0 = a1) (h1 : 1 ≤ a1) (h2 : (a0 ≠ 0 → a2 < a3)) (h3 : a4 ≤ a2) : 0 < (a3 - a4) := by omega
theorem oq_b9f2246e (r : Nat) : 8 + 1 ≤ (12 + (24 + 3 * (r) + 2)) := by omega
theorem oq_ae9e04d0 (r : Nat) : 8 + (3 + 11) + 141 ≤ (500 + 45 * (24 + 3 * (r) + 2)) := by omega
theorem oq_4491863e (r : Nat) : 6 + 1 ≤ (12 + (24 + 3 * (r) + 2)) := by omega
theorem oq_c822b081 (r : Nat) : 8 + (7 + 11) + 100 ≤ (500 + 45 * (24 + 3 * (r) + 2)) := by omega
theorem oq_9f278ef5 (r : Nat) : 7 + 1 ≤ (12 + (24 + 3 * (r) + 2)) := by omega
theorem oq_6c94e1da (r : Nat) : 8 + (1 + 11) + 121 ≤ (500 + 45 * (24 + 3 * (r) + 2)) := by omega
theorem oq_137d3732 (r : Nat) : (12 + (24 + 3 * (r) + 1)) + 1 ≤ (12 + (24 + 3 * (r) + 2)) := by omega
theorem oq_58b847aa (r : Nat) : 8 + (3 + 11) + (500 + 45 * (24 + 3 * (r) + 1)) ≤ (500 + 45 * (24 + 3 * (r) + 2)) := by omega
/-! Determined: tests -/
section M44
variable {l : Launch} {s0 : State} {D : va_G} {tys : List (ClassId × FieldType)} {a0 : Array Value} {A : Nat → Nat} {dT : Nat → ClassId} {s : PS}
set_option maxHeartbeats 16000000 in
theorem d_test0 (G : GX l s0 D tys a0 dT) (I : Bd s) (p0 : iI s 77 ≤ 203) (p1 : iI s 78 + ((0 : Nat) : Int) = 7) (p2 : iI s 78 = 7 → iI s 79 ≠ 0) (p3 : iI s 79 = 0 → iI s 77 ≤ 202) {T : TT} (hti : ∀ q ∈ ([77, 75, 78, 79, 81] : List Nat), T.1 q) (hta : ∀ a ∈ ([157, 158, 161] : List Nat), ∀ j, j < (bA a).2.2 → T.2 a j) : CD l s0 D A dT 210 (rkR (24 + 3 * (0))) [77, 79, 80, 78] [] T (T) [.ref (A 179)] s (fun o t => Bd t ∧ Fm [77, 79, 80, 78] [] s t ∧ ∃ e, o = .inl (some (.int (Int32.ofInt e))) ∧ rng e ∧ (iI t 78 = iI s 78 ∧ iI s 77 ≤ iI t 77 ∧ (iI t 77 = iI s 77 ∨ iI t 77 ≤ 203) ∧ (iI s 79 ≠ 0 → iI t 79 ≠ 0) ∧ (iI t 79 = 0 → iI t 77 ≤ iI s 75) ∧ (iI s 79 = 0 → iI s 77 < iI t 77) ∧ (e = 0 ∨ e = 1))) := by
  refine cd_of G (by decide) (Nat.le_of_ble_eq_true rfl) (fun Q hQ => ?_)
  have I0 := I
  show DS l s0 D A dT 210 (rkR (24 + 3 * (0))) [77, 79, 80, 78] [] (T) Q (T) 0 [(0, .ref (A 179))] [] s
  have F : Fm [77, 79, 80, 78] [] s s := fm_rf _ _ s
  have b1 := bi_77 I
  have b2 := bi_75 I
  have b3 := bi_79 I
  have b4 := bi_78 I
  refine d_lift (fun k ws X h => z_aload_n X (x := A 179) rfl (List.Mem.head _) h) (d_getI 179 rfl (by decide) rfl rfl (hti 79 (by decide)) ?_)
  have b5 := bi_79 I
  refine d_br (bo_eq _ _) bx_eq (fun k ws X h1 h2 => z_if_eq X (t := 9) rfl (by decide) (rng_to _) h1 h2) (fun g6 => ?_) (fun g6 => ?_)
  ·
    exfalso
    omega
  ·
    refine d_lift (fun k ws X h => z_const X rfl h) ?_
    exact d_iret rfl (nar_ret (by first | exact Or.inl (by decide) | omega)) (Or.inr rfl) rfl (fun _ h => h) (hQ _ _ ⟨I, F, 0, rfl, (by decide), by first | exact ⟨by decide, by decide, Or.inl (by decide), oq_4bed1c3e g6 b5.1, oq_6a3c9b31 g6 b5.1, oq_a49e6adf g6 b5.1, Or.inl (by decide)⟩ | omega⟩)
set_option maxHeartbeats 16000000 in
theorem d_testS (G : GX l s0 D tys a0 dT) {r : Nat} (hT : ∀ {s : PS} {T : TT}, Bd s → (iI s 77 ≤ 203) → (iI s 78 + ((r : Nat) : Int) = 7) → (iI s 78 = 7 → iI s 79 ≠ 0) → (iI s 79 = 0 → iI s 77 ≤ 202) → (∀ q ∈ ([77, 75, 78, 79, 81] : List Nat), T.1 q) → (∀ a ∈ ([157, 158, 161] : List Nat), ∀ j, j < (bA a).2.2 → T.2 a j) → CD l s0 D A dT 210 (rkR (24 + 3 * (r))) [77, 79, 80, 78] [] T T [.ref (A 179)] s (fun o t => Bd t ∧ Fm [77, 79, 80, 78] [] s t ∧ ∃ e, o = .inl (some (.int (Int32.ofInt e))) ∧ rng e ∧ (iI t 78 = iI s 78 ∧ iI s 77 ≤ iI t 77 ∧ (iI t 77 = iI s 77 ∨ iI t 77 ≤ 203) ∧ (iI s 79 ≠ 0 → iI t 79 ≠ 0) ∧ (iI t 79 = 0 → iI t 77 ≤ iI s 75) ∧ (iI s 79 = 0 → iI s 77 < iI t 77) ∧ (e = 0 ∨ e = 1)))) (hO : ∀ {s : PS} {T : TT}, Bd s → (iI s 77 ≤ 203) → (iI s 78 + ((r : Nat) : Int) = 7) → (iI s 78 = 7 → iI s 79 ≠ 0) → (iI s 79 = 0 → iI s 77 ≤ 202) → (∀ q ∈ ([77, 75, 78, 79, 81] : List Nat), T.1 q) → (∀ a ∈ ([157, 158, 161] : List Nat), ∀ j, j < (bA a).2.2 → T.2 a j) → CD l s0 D A dT 212 (rkR (24 + 3 * (r) + 2)) [77, 79, 80, 78] [] T T [.ref (A 179)] s (fun o t => Bd t ∧ Fm [77, 79, 80, 78] [] s t ∧ ∃ e, o = .inl (some (.int (Int32.ofInt e))) ∧ rng e ∧ (iI t 78 = iI s 78 ∧ iI s 77 ≤ iI t 77 ∧ (iI t 77 = iI s 77 ∨ iI t 77 ≤ 203) ∧ (iI s 79 ≠ 0 → iI t 79 ≠ 0) ∧ (iI t 79 = 0 → iI t 77 ≤ iI s 75) ∧ (iI s 79 = 0 → iI s 77 < iI t 77) ∧ (e = 0 ∨ e = 1)))) (I : Bd s) (p0 : iI s 77 ≤ 203) (p1 : iI s 78 + ((r + 1 : Nat) : Int) = 7) (p2 : iI s 78 = 7 → iI s 79 ≠ 0) (p3 : iI s 79 = 0 → iI s 77 ≤ 202) {T : TT} (hti : ∀ q ∈ ([77, 75, 78, 79, 81] : List Nat), T.1 q) (hta : ∀ a ∈ ([157, 158, 161] : List Nat), ∀ j, j < (bA a).2.2 → T.2 a j) : CD l s0 D A dT 210 (rkR (24 + 3 * (r + 1))) [77, 79, 80, 78] [] T (T) [.ref (A 179)] s (fun o t => Bd t ∧ Fm [77, 79, 80, 78] [] s t ∧ ∃ e, o = .inl (some (.int (Int32.ofInt e))) ∧ rng e ∧ (iI t 78 = iI s 78 ∧ iI s 77 ≤ iI t 77 ∧ (iI t 77 = iI s 77 ∨ iI t 77 ≤ 203) ∧ (iI s 79 ≠ 0 → iI t 79 ≠ 0) ∧ (iI t 79 = 0 → iI t 77 ≤ iI s 75) ∧ (iI s 79 = 0 → iI s 77 < iI t 77) ∧ (e = 0 ∨ e = 1))) := by
  refine cd_of G (by decide) (Nat.le_of_ble_eq_true rfl) (fun Q hQ => ?_)
  have I0 := I
  show DS l s0 D A dT 210 (rkR (24 + 3 * (r + 1))) [77, 79, 80, 78] [] (T) Q (T) 0 [(0, .ref (A 179))] [] s
  have F : Fm [77, 79, 80, 78] [] s s := fm_rf _ _ s
  have b1 := bi_77 I
  have b2 := bi_75 I
  have b3 := bi_79 I
  have b4 := bi_78 I
  have L159 : ∀ (t : PS) (a c b : Int), Bd t → Fm [77, 79, 80, 78] [] s t → (iI t 78 = iI s 78 ∧ iI s 77 ≤ iI t 77 ∧ (iI t 77 = iI s 77 ∨ iI t 77 ≤ 203) ∧ (iI s 79 ≠ 0 → iI t 79 ≠ 0) ∧ (iI t 79 = 0 → iI t 77 ≤ iI s 75) ∧ (iI s 79 = 0 → iI s 77 < iI t 77) ∧ rng a ∧ (-1 ≤ c ∧ c ≤ 255) ∧ rng b) → DS l s0 D A dT 210 (rkR (24 + 3 * (r + 1))) [77, 79, 80, 78] [] (T) Q (T) 159 [(0, .ref (A 179)), (1, .int (Int32.ofInt a)), (2, .int (Int32.ofInt c)), (3, .int (Int32.ofInt b))] [] t := by
    intro t a c b I F hi
    have b1001 := bi_77 I
    have b1002 := bi_75 I
    have b1003 := bi_79 I
    have b1004 := bi_78 I
    refine d_lift (fun k ws X h => z_load_n X (x := c) rfl (List.Mem.tail _ (List.Mem.tail _ (List.Mem.head _))) h) (d_lift (fun k ws X h => z_bipush X rfl h) ?_)
    have N1005 : ∀ e1006 : Int, (((c ≠ 60) ∧ (c ≠ 62) ∧ (a ≠ b) ∧ e1006 = 0) ∨ ((c ≠ 60) ∧ (c ≠ 62) ∧ (a = b) ∧ e1006 = 1) ∨ ((c ≠ 60) ∧ (c = 62) ∧ (a ≤ b) ∧ e1006 = 0) ∨ ((c ≠ 60) ∧ (c = 62) ∧ (b < a) ∧ e1006 = 1) ∨ ((c = 60) ∧ (b ≤ a) ∧ e1006 = 0) ∨ ((c = 60) ∧ (a < b) ∧ e1006 = 1)) → DS l s0 D A dT 210 (rkR (24 + 3 * (r + 1))) [77, 79, 80, 78] [] (T) Q (T) 207 [(0, .ref (A 179)), (1, .int (Int32.ofInt a)), (2, .int (Int32.ofInt c)), (3, .int (Int32.ofInt b))] [.int (Int32.ofInt e1006)] t := by
      intro e1006 he1006
      have re1006 : 0 ≤ e1006 ∧ e1006 ≤ 1 := by first | (clear he1006 p3 p2; omega) | (clear p3 p2; omega) | omega
      exact d_iret rfl (nar_ret (by first | exact oq_31e518ae re1006.2 re1006.1 | omega)) (Or.inr rfl) rfl (fun _ h => h) (hQ _ _ ⟨I, F, e1006, rfl, ⟨by first | exact oq_fa4e5087 re1006.1 | omega, by first | exact oq_22e1e6b0 re1006.2 | omega⟩, by first | exact ⟨hi.1, hi.2.1, hi.2.2.1, hi.2.2.2.1, hi.2.2.2.2.1, hi.2.2.2.2.2.1, oq_31e518ae re1006.2 re1006.1⟩ | omega⟩)
    refine d_br (bo_ne _ _) bx_ne (fun k ws X h1 h2 => z_icmp_ne X (t := 178) rfl (by decide) ⟨by first | exact oq_97ee2c2a hi.2.2.2.2.2.2.2.1.1 | omega, by first | exact oq_4567a937 hi.2.2.2.2.2.2.2.1.2 | omega⟩ (by decide) h1 h2) (fun g1007 => ?_) (fun g1007 => ?_)
    ·
      refine d_lift (fun k ws X h => z_load_n X (x := c) rfl (List.Mem.tail _ (List.Mem.tail _ (List.Mem.head _))) h) (d_lift (fun k ws X h => z_bipush X rfl h) (d_br (bo_ne _ _) bx_ne (fun k ws X h1 h2 => z_icmp_ne X (t := 197) rfl (by decide) ⟨by first | exact oq_97ee2c2a hi.2.2.2.2.2.2.2.1.1 | omega, by first | exact oq_4567a937 hi.2.2.2.2.2.2.2.1.2 | omega⟩ (by decide) h1 h2) (fun g1008 => ?_) (fun g1008 => ?_)))
      ·
        refine d_lift (fun k ws X h => z_load_n X (x := a) rfl (List.Mem.tail _ (List.Mem.head _)) h) (d_lift (fun k ws X h => z_load_n X (x := b) rfl (List.Mem.tail _ (List.Mem.tail _ (List.Mem.tail _ (List.Mem.head _)))) h) (d_br (bo_ne _ _) bx_ne (fun k ws X h1 h2 => z_icmp_ne X (t := 206) rfl (by decide) ⟨by first | exact hi.2.2.2.2.2.2.1.1 | omega, by first | exact hi.2.2.2.2.2.2.1.2 | omega⟩ ⟨by first | exact hi.2.2.2.2.2.2.2.2.1 | omega, by first | exact hi.2.2.2.2.2.2.2.2.2 | omega⟩ h1 h2) (fun g1009 => ?_) (fun g1009 => ?_)))
        ·
          exact d_lift (fun k ws X h => z_const X rfl h) (N1005 _ (Or.inl ⟨g1007, g1008, g1009, rfl⟩))
        ·
          exact d_lift (fun k ws X h => z_const X rfl h) (d_lift (fun k ws X h => z_goto X (t := 207) rfl (by decide) h) (N1005 _ (Or.inr (Or.inl ⟨g1007, g1008, g1009, rfl⟩))))
      ·
        refine d_lift (fun k ws X h => z_load_n X (x := a) rfl (List.Mem.tail _ (List.Mem.head _)) h) (d_lift (fun k ws X h => z_load_n X (x := b) rfl (List.Mem.tail _ (List.Mem.tail _ (List.Mem.tail _ (List.Mem.head _)))) h) (d_br (bo_le _ _) bx_le (fun k ws X h1 h2 => z_icmp_le X (t := 193) rfl (by decide) ⟨by first | exact hi.2.2.2.2.2.2.1.1 | omega, by first | exact hi.2.2.2.2.2.2.1.2 | omega⟩ ⟨by first | exact hi.2.2.2.2.2.2.2.2.1 | omega, by first | exact hi.2.2.2.2.2.2.2.2.2 | omega⟩ h1 h2) (fun g1010 => ?_) (fun g1010 => ?_)))
        ·
          exact d_lift (fun k ws X h => z_const X rfl h) (d_lift (fun k ws X h => z_goto X (t := 207) rfl (by decide) h) (N1005 _ (Or.inr (Or.inr (Or.inl ⟨g1007, g1008, g1010, rfl⟩)))))
        ·
          exact d_lift (fun k ws X h => z_const X rfl h) (d_lift (fun k ws X h => z_goto X (t := 207) rfl (by decide) h) (N1005 _ (Or.inr (Or.inr (Or.inr (Or.inl ⟨g1007, g1008, g1010, rfl⟩))))))
    ·
      refine d_lift (fun k ws X h => z_load_n X (x := a) rfl (List.Mem.tail _ (List.Mem.head _)) h) (d_lift (fun k ws X h => z_load_n X (x := b) rfl (List.Mem.tail _ (List.Mem.tail _ (List.Mem.tail _ (List.Mem.head _)))) h) (d_br (bo_ge _ _) bx_ge (fun k ws X h1 h2 => z_icmp_ge X (t := 174) rfl (by decide) ⟨by first | exact hi.2.2.2.2.2.2.1.1 | omega, by first | exact hi.2.2.2.2.2.2.1.2 | omega⟩ ⟨by first | exact hi.2.2.2.2.2.2.2.2.1 | omega, by first | exact hi.2.2.2.2.2.2.2.2.2 | omega⟩ h1 h2) (fun g1011 => ?_) (fun g1011 => ?_)))
      ·
        exact d_lift (fun k ws X h => z_const X rfl h) (d_lift (fun k ws X h => z_goto X (t := 207) rfl (by decide) h) (N1005 _ (Or.inr (Or.inr (Or.inr (Or.inr (Or.inl ⟨g1007, g1011, rfl⟩)))))))
      ·
        exact d_lift (fun k ws X h => z_const X rfl h) (d_lift (fun k ws X h => z_goto X (t := 207) rfl (by decide) h) (N1005 _ (Or.inr (Or.inr (Or.inr (Or.inr (Or.inr (⟨g1007, g1011, rfl⟩))))))))
  have L144 : ∀ (t : PS) (a c : Int), Bd t → Fm [77, 79, 80, 78] [] s t → (iI t 78 = iI s 78 ∧ iI s 77 ≤ iI t 77 ∧ (iI t 77 = iI s 77 ∨ iI t 77 ≤ 202) ∧ (iI s 79 ≠ 0 → iI t 79 ≠ 0) ∧ (iI t 79 = 0 → iI t 77 ≤ iI s 75) ∧ iI s 79 = 0 ∧ iI t 75 = iI s 75 ∧ rng a ∧ (-1 ≤ c ∧ c ≤ 255)) → DS l s0 D A dT 210 (rkR (24 + 3 * (r + 1))) [77, 79, 80, 78] [] (T) Q (T) 144 [(0, .ref (A 179)), (1, .int (Int32.ofInt a)), (2, .int (Int32.ofInt c))] [] t := by
    intro t a c I F hi
    have b2001 := bi_77 I
    have b2002 := bi_75 I
    have b2003 := bi_79 I
    have b2004 := bi_78 I
    refine d_lift (fun k ws X h => z_aload_n X (x := A 179) rfl (List.Mem.head _) h) (d_lift (fun k ws X h => w_dup X.1 (ax_d X (show cdA 210 145 = some (.dup, 1, 0, 0, 0) from rfl)) rfl h) (d_getI 179 rfl (by decide) rfl rfl (hti 77 (by decide)) ?_))
    have b2005 := bi_77 I
    refine d_lift (fun k ws X h => z_const X rfl h) (d_lift (fun k ws X h => z_add X rfl h) (d_putI 179 rfl (by decide) rfl rfl (by decide) rfl rfl rfl (show 77 ∈ _ by decide) (show (0 : Int) ≤ ((iI t 77) + 1) ∧ ((iI t 77) + 1) ≤ 400 by first | exact ⟨oq_54f49eb5 b2005.1, oq_886c3d04 hi.2.2.1 p0⟩ | omega) ⟨by first | exact oq_74de1e16 b2005.1 | omega, by first | exact oq_964ce197 b2005.2 | omega⟩ (d_mono (T' := T) (fun _ h => Or.inr h) (fun _ _ h => h) (ds_gen (fun s2006 hs2006 => ?_)))))
    have Is2006 : Bd s2006 := eqB hs2006 (bd_I I (show (0 : Int) ≤ ((iI t 77) + 1) ∧ ((iI t 77) + 1) ≤ 400 by first | exact ⟨oq_54f49eb5 b2005.1, oq_886c3d04 hi.2.2.1 p0⟩ | omega) ⟨by first | exact oq_74de1e16 b2005.1 | omega, by first | exact oq_964ce197 b2005.2 | omega⟩)
    have Fs2006 := eqF hs2006 (fm_I F (inl_ok (a := 77) rfl))
    have vs2006 : iI s2006 77 = ((iI t 77) + 1) := eqI hs2006 (iI_u ⟨by first | exact oq_74de1e16 b2005.1 | omega, by first | exact oq_964ce197 b2005.2 | omega⟩)
    have ws2006_75 : iI s2006 75 = iI t 75 := eqI hs2006 rfl
    have ws2006_79 : iI s2006 79 = iI t 79 := eqI hs2006 rfl
    have ws2006_78 : iI s2006 78 = iI t 78 := eqI hs2006 rfl
    refine d_lift (fun k ws X h => z_aload_n X (x := A 179) rfl (List.Mem.head _) h) (d_callV 179 (As := []) (st := []) rfl rfl (by decide) rfl ((d_sumr G (r + 1)).2.2 Is2006 (by first | exact oq_bc84bd0b vs2006 hi.2.2.2.2.2.1 hi.2.2.1 p3 | omega) (by first | exact oq_82f073b0 ws2006_78 p1 hi.1 | omega) (by first | exact oq_4d33fe7c ws2006_78 hi.2.2.2.2.2.1 hi.1 p2 | omega) (fun q h => hti q ((by decide : ∀ q ∈ ([77, 75, 78, 79, 81] : List Nat), q ∈ ([77, 75, 78, 79, 81] : List Nat)) q h)) (fun a h => hta a ((by decide : ∀ q ∈ ([157, 158, 161] : List Nat), q ∈ ([157, 158, 161] : List Nat)) a h))) ⟨rfl, rfl⟩ ⟨(show (12 + (3 * (r + 1) + 2)) + 1 ≤ (12 + (24 + 3 * (r + 1))) from oq_78548c36 r), (show 8 + (mNL (miB 209) + 11) + (500 + 45 * (3 * (r + 1) + 2)) ≤ (500 + 45 * (24 + 3 * (r + 1))) from oq_7957a5e4 r)⟩ (Nat.le_of_ble_eq_true rfl) (by decide) (by decide) (fun ee s2007 hq => ?_) (fun vv s2007 hq => ?_))
    · obtain ⟨Is2007, Fs2007, e2008, hv, hrs2007, hps2007⟩ := hq; cases hv
    obtain ⟨Is2007, Fs2007, e2008, hv, hrs2007, hps2007⟩ := hq
    cases hv
    have Gs2007 := fm_tq Fs2006 Fs2007 rfl rfl
    have b2009 := bi_77 Is2007
    have ws2007_75 : iI s2007 75 = iI s2006 75 := fm_iq Fs2007 rfl
    have b2010 := bi_79 Is2007
    have b2011 := bi_78 Is2007
    show DS l s0 D A dT 210 (rkR (24 + 3 * (r + 1))) [77, 79, 80, 78] [] (T) Q (T) 158 [(0, .ref (A 179)), (1, .int (Int32.ofInt a)), (2, .int (Int32.ofInt c))] [.int (Int32.ofInt e2008)] s2007
    refine d_lift (fun k ws X h => z_store_n X (lv' := [(3, .int (Int32.ofInt e2008)), (0, .ref (A 179)), (1, .int (Int32.ofInt a)), (2, .int (Int32.ofInt c))]) rfl (by decide) (fun _ h => h) h) (d_lvs (lv := [(0, .ref (A 179)), (1, .int (Int32.ofInt a)), (2, .int (Int32.ofInt c)), (3, .int (Int32.ofInt e2008))]) (List.forall_mem_cons.mpr ⟨(List.Mem.tail _ (List.Mem.head _)), (List.forall_mem_cons.mpr ⟨(List.Mem.tail _ (List.Mem.tail _ (List.Mem.head _))), (List.forall_mem_cons.mpr ⟨(List.Mem.tail _ (List.Mem.tail _ (List.Mem.tail _ (List.Mem.head _)))), (List.forall_mem_cons.mpr ⟨(List.Mem.head _), (fun q h => absurd h List.not_mem_nil)⟩)⟩)⟩)⟩) ?_)
    exact L159 _ a c e2008 Is2007 Gs2007 (by first | exact ⟨oq_878618b1 hps2007.1 ws2006_78 hi.1, oq_ed635da4 hps2007.2.1 vs2006 hi.2.1, oq_300ee640 hps2007.2.2.1 vs2006 hi.2.2.2.2.2.1 hi.2.2.1 p3, oq_e013ad0f hi.2.2.2.2.2.1, oq_70dd041d b2010.1 hps2007.2.2.2.2 ws2006_75 hi.2.2.2.2.2.2.1, oq_bed11c68 hps2007.2.1 vs2006 hi.2.1, And.intro (hi.2.2.2.2.2.2.2.1.1) (hi.2.2.2.2.2.2.2.1.2), And.intro (hi.2.2.2.2.2.2.2.2.1) (hi.2.2.2.2.2.2.2.2.2), hrs2007.1, hrs2007.2⟩ | omega)
  have L104 : ∀ (t : PS) (a : Int), Bd t → Fm [77, 79, 80, 78] [] s t → (iI t 78 = iI s 78 ∧ iI s 77 ≤ iI t 77 ∧ (iI t 77 = iI s 77 ∨ iI t 77 ≤ 202) ∧ (iI s 79 ≠ 0 → iI t 79 ≠ 0) ∧ (iI t 79 = 0 → iI t 77 ≤ iI s 75) ∧ iI s 79 = 0 ∧ iI t 75 = iI s 75 ∧ rng a) → DS l s0 D A dT 210 (rkR (24 + 3 * (r + 1))) [77, 79, 80, 78] [] (T) Q (T) 104 [(0, .ref (A 179)), (1, .int (Int32.ofInt a))] [] t := by
    intro t a I F hi
    have b3001 := bi_77 I
    have b3002 := bi_75 I
    have b3003 := bi_79 I
    have b3004 := bi_78 I
    refine d_lift (fun k ws X h => z_aload_n X (x := A 179) rfl (List.Mem.head _) h) (d_callV 179 (As := []) (st := []) rfl rfl (by decide) rfl (d_blanks G I (by first | exact oq_299765ef hi.2.2.1 p0 | omega) (fun q h => hti q ((by decide : ∀ q ∈ ([77, 75, 78, 79, 81] : List Nat), q ∈ ([77, 75, 78, 79, 81] : List Nat)) q h)) (fun a h => hta a ((by decide : ∀ q ∈ ([157, 158, 161] : List Nat), q ∈ ([157, 158, 161] : List Nat)) a h))) ⟨rfl, rfl⟩ ⟨(show 7 + 1 ≤ (12 + (24 + 3 * (r + 1))) from oq_36eaf53c r), (show 8 + (mNL (miB 193) + 11) + 121 ≤ (500 + 45 * (24 + 3 * (r + 1))) from oq_a27e1a18 r)⟩ (Nat.le_of_ble_eq_true rfl) (by decide) (by decide) (fun ee s3005 hq => ?_) (fun vv s3005 hq => ?_))
    · obtain ⟨Is3005, Fs3005, hv, hps3005⟩ := hq; cases hv
    obtain ⟨Is3005, Fs3005, hv, hps3005⟩ := hq
    have hps3005p := hps3005.1
    cases hv
    have Gs3005 := fm_tq F Fs3005 rfl rfl
    have b3007 := bi_77 Is3005
    have ws3005_75 : iI s3005 75 = iI t 75 := fm_iq Fs3005 rfl
    have ws3005_79 : iI s3005 79 = iI t 79 := fm_iq Fs3005 rfl
    have ws3005_78 : iI s3005 78 = iI t 78 := fm_iq Fs3005 rfl
    show DS l s0 D A dT 210 (rkR (24 + 3 * (r + 1))) [77, 79, 80, 78] [] (T) Q (T) 108 [(0, .ref (A 179)), (1, .int (Int32.ofInt a))] [] s3005
    refine d_lift (fun k ws X h => z_aload_n X (x := A 179) rfl (List.Mem.head _) h) (d_lift (fun k ws X h => z_aload_n X (x := A 179) rfl (List.Mem.head _) h) (d_getI 179 rfl (by decide) rfl rfl (hti 77 (by decide)) ?_))
    have b3008 := bi_77 Is3005
    refine d_callV 179 (As := [.int (Int32.ofInt (iI s3005 77))]) (st := []) rfl rfl (by decide) rfl (d_byteAt G Is3005 (by first | exact ⟨b3008.1, oq_5a8480eb b3008.2⟩ | omega) (fun q h => hti q ((by decide : ∀ q ∈ ([75, 81] : List Nat), q ∈ ([77, 75, 78, 79, 81] : List Nat)) q h)) (fun a h => hta a ((by decide : ∀ q ∈ ([157, 158] : List Nat), q ∈ ([157, 158, 161] : List Nat)) a h))) ⟨rfl, rfl⟩ ⟨(show 6 + 1 ≤ (12 + (24 + 3 * (r + 1))) from oq_51b017a3 r), (show 8 + (mNL (miB 192) + 11) + 100 ≤ (500 + 45 * (24 + 3 * (r + 1))) from oq_e45c9306 r)⟩ (Nat.le_of_ble_eq_true rfl) (by decide) (by decide) (fun ee s3009 hq => ?_) (fun vv s3009 hq => ?_)
    · obtain ⟨Is3009, Fs3009, e3010, hv, hrs3009, hps3009⟩ := hq; cases hv
    obtain ⟨Is3009, Fs3009, e3010, hv, hrs3009, hps3009⟩ := hq
    cases hv
    have Gs3009 := fm_tq Gs3005 Fs3009 rfl rfl
    have ws3009_77 : iI s3009 77 = iI s3005 77 := fm_iq Fs3009 rfl
    have ws3009_75 : iI s3009 75 = iI s3005 75 := fm_iq Fs3009 rfl
    have ws3009_79 : iI s3009 79 = iI s3005 79 := fm_iq Fs3009 rfl
    have ws3009_78 : iI s3009 78 = iI s3005 78 := fm_iq Fs3009 rfl
    show DS l s0 D A dT 210 (rkR (24 + 3 * (r + 1))) [77, 79, 80, 78] [] (T) Q (T) 116 [(0, .ref (A 179)), (1, .int (Int32.ofInt a))] [.int (Int32.ofInt e3010)] s3009
    refine d_lift (fun k ws X h => z_store_n X (lv' := [(2, .int (Int32.ofInt e3010)), (0, .ref (A 179)), (1, .int (Int32.ofInt a))]) rfl (by decide) (fun _ h => h) h) (d_lift (fun k ws X h => z_load_n X (x := e3010) rfl (List.Mem.head _) h) (d_lift (fun k ws X h => z_bipush X rfl h) (d_br (bo_eq _ _) bx_eq (fun k ws X h1 h2 => z_icmp_eq X (t := 144) rfl (by decide) hrs3009 (by decide) h1 h2) (fun g3011 => ?_) (fun g3011 => ?_))))
    ·
      refine d_lvs (lv := [(0, .ref (A 179)), (1, .int (Int32.ofInt a)), (2, .int (Int32.ofInt e3010))]) (List.forall_mem_cons.mpr ⟨(List.Mem.tail _ (List.Mem.head _)), (List.forall_mem_cons.mpr ⟨(List.Mem.tail _ (List.Mem.tail _ (List.Mem.head _))), (List.forall_mem_cons.mpr ⟨(List.Mem.head _), (fun q h => absurd h List.not_mem_nil)⟩)⟩)⟩) ?_
      exact L144 _ a e3010 Is3009 Gs3009 (by first | exact ⟨oq_878618b1 ws3009_78 ws3005_78 hi.1, oq_6f31d0da ws3009_77 hi.2.1 hps3005.1, oq_948351f9 g3011 ws3009_77 hps3009 ws3005_75 b3002.2, oq_e013ad0f hi.2.2.2.2.2.1, oq_26d29cd1 g3011 ws3009_77 hps3009 ws3005_75 hi.2.2.2.2.2.2.1, hi.2.2.2.2.2.1, oq_d0d2714e ws3009_75 hi.2.2.2.2.2.2.1 ws3005_75, And.intro (hi.2.2.2.2.2.2.2.1) (hi.2.2.2.2.2.2.2.2), oq_48ee4ea2 g3011, oq_dd8e5557 g3011⟩ | omega)
    ·
      refine d_lift (fun k ws X h => z_load_n X (x := e3010) rfl (List.Mem.head _) h) (d_lift (fun k ws X h => z_bipush X rfl h) (d_br (bo_eq _ _) bx_eq (fun k ws X h1 h2 => z_icmp_eq X (t := 144) rfl (by decide) hrs3009 (by decide) h1 h2) (fun g3012 => ?_) (fun g3012 => ?_)))
      ·
        refine d_lvs (lv := [(0, .ref (A 179)), (1, .int (Int32.ofInt a)), (2, .int (Int32.ofInt e3010))]) (List.forall_mem_cons.mpr ⟨(List.Mem.tail _ (List.Mem.head _)), (List.forall_mem_cons.mpr ⟨(List.Mem.tail _ (List.Mem.tail _ (List.Mem.head _))), (List.forall_mem_cons.mpr ⟨(List.Mem.head _), (fun q h => absurd h List.not_mem_nil)⟩)⟩)⟩) ?_
        exact L144 _ a e3010 Is3009 Gs3009 (by first | exact ⟨oq_878618b1 ws3009_78 ws3005_78 hi.1, oq_6f31d0da ws3009_77 hi.2.1 hps3005.1, oq_754fcaa6 g3012 ws3009_77 hps3009 ws3005_75 b3002.2, oq_e013ad0f hi.2.2.2.2.2.1, oq_20e35830 g3012 ws3009_77 hps3009 ws3005_75 hi.2.2.2.2.2.2.1, hi.2.2.2.2.2.1, oq_d0d2714e ws3009_75 hi.2.2.2.2.2.2.1 ws3005_75, And.intro (hi.2.2.2.2.2.2.2.1) (hi.2.2.2.2.2.2.2.2), oq_1aa2d2e5 g3012, oq_68b13569 g3012⟩ | omega)
      ·
        refine d_lift (fun k ws X h => z_load_n X (x := e3010) rfl (List.Mem.head _) h) (d_lift (fun k ws X h => z_bipush X rfl h) (d_br (bo_eq _ _) bx_eq (fun k ws X h1 h2 => z_icmp_eq X (t := 144) rfl (by decide) hrs3009 (by decide) h1 h2) (fun g3013 => ?_) (fun g3013 => ?_)))
        ·
          refine d_lvs (lv := [(0, .ref (A 179)), (1, .int (Int32.ofInt a)), (2, .int (Int32.ofInt e3010))]) (List.forall_mem_cons.mpr ⟨(List.Mem.tail _ (List.Mem.head _)), (List.forall_mem_cons.mpr ⟨(List.Mem.tail _ (List.Mem.tail _ (List.Mem.head _))), (List.forall_mem_cons.mpr ⟨(List.Mem.head _), (fun q h => absurd h List.not_mem_nil)⟩)⟩)⟩) ?_
          exact L144 _ a e3010 Is3009 Gs3009 (by first | exact ⟨oq_878618b1 ws3009_78 ws3005_78 hi.1, oq_6f31d0da ws3009_77 hi.2.1 hps3005.1, oq_7afbd850 g3013 ws3009_77 hps3009 ws3005_75 b3002.2, oq_e013ad0f hi.2.2.2.2.2.1, oq_1142ea38 g3013 ws3009_77 hps3009 ws3005_75 hi.2.2.2.2.2.2.1, hi.2.2.2.2.2.1, oq_d0d2714e ws3009_75 hi.2.2.2.2.2.2.1 ws3005_75, And.intro (hi.2.2.2.2.2.2.2.1) (hi.2.2.2.2.2.2.2.2), oq_3f06b504 g3013, oq_83a663bc g3013⟩ | omega)
        ·
          refine d_lift (fun k ws X h => z_aload_n X (x := A 179) rfl (List.Mem.tail _ (List.Mem.head _)) h) (d_lift (fun k ws X h => z_const X rfl h) (d_lift (fun k ws X h => z_aload_n X (x := A 179) rfl (List.Mem.tail _ (List.Mem.head _)) h) (d_getI 179 rfl (by decide) rfl rfl (hti 77 (by decide)) ?_)))
          have b3014 := bi_77 Is3009
          refine d_callV 179 (As := [.int (Int32.ofInt 1), .int (Int32.ofInt (iI s3009 77))]) (st := []) rfl rfl (by decide) rfl (d_wrong G Is3009 (by first | exact ⟨by decide, by decide⟩ | omega) (by first | exact ⟨oq_ca54ea22 b3014.1, b3014.2⟩ | omega) (fun q h => hti q ((by decide : ∀ q ∈ ([79] : List Nat), q ∈ ([77, 75, 78, 79, 81] : List Nat)) q h)) (fun a h => hta a ((by decide : ∀ q ∈ ([] : List Nat), q ∈ ([157, 158, 161] : List Nat)) a h))) ⟨rfl, rfl⟩ ⟨(show 6 + 1 ≤ (12 + (24 + 3 * (r + 1))) from oq_51b017a3 r), (show 8 + (mNL (miB 194) + 11) + 100 ≤ (500 + 45 * (24 + 3 * (r + 1))) from oq_53e0fa7a r)⟩ (Nat.le_of_ble_eq_true rfl) (by decide) (by decide) (fun ee s3015 hq => ?_) (fun vv s3015 hq => ?_)
          · obtain ⟨Is3015, Fs3015, hv, hps3015⟩ := hq; cases hv
          obtain ⟨Is3015, Fs3015, hv, hps3015⟩ := hq
          cases hv
          have Gs3015 := fm_tq Gs3009 Fs3015 rfl rfl
          have ws3015_77 : iI s3015 77 = iI s3009 77 := fm_iq Fs3015 rfl
          have ws3015_75 : iI s3015 75 = iI s3009 75 := fm_iq Fs3015 rfl
          have b3017 := bi_79 Is3015
          have ws3015_78 : iI s3015 78 = iI s3009 78 := fm_iq Fs3015 rfl
          show DS l s0 D A dT 210 (rkR (24 + 3 * (r + 1))) [77, 79, 80, 78] [] (T) Q (T) 144 [(2, .int (Int32.ofInt e3010)), (0, .ref (A 179)), (1, .int (Int32.ofInt a))] [] s3015
          refine d_lvs (lv := [(0, .ref (A 179)), (1, .int (Int32.ofInt a)), (2, .int (Int32.ofInt e3010))]) (List.forall_mem_cons.mpr ⟨(List.Mem.tail _ (List.Mem.head _)), (List.forall_mem_cons.mpr ⟨(List.Mem.tail _ (List.Mem.tail _ (List.Mem.head _))), (List.forall_mem_cons.mpr ⟨(List.Mem.head _), (fun q h => absurd h List.not_mem_nil)⟩)⟩)⟩) ?_
          exact L144 _ a e3010 Is3015 Gs3015 (by first | exact ⟨oq_ac0e91e1 ws3015_78 ws3009_78 ws3005_78 hi.1, oq_c430b533 ws3015_77 hi.2.1 hps3005.1 ws3009_77, oq_0b99daf3 ws3015_77 ws3009_77 hps3005.2 b3002.2 hi.2.2.1 p0, oq_5071f1ab b3017.1 hps3015, oq_efa70c27 b3017.1 hps3015, hi.2.2.2.2.2.1, oq_45b593e3 ws3015_75 hi.2.2.2.2.2.2.1 ws3009_75 ws3005_75, And.intro (hi.2.2.2.2.2.2.2.1) (hi.2.2.2.2.2.2.2.2), oq_47a75eb0 hps3009, oq_47d561e4 hps3009⟩ | omega)
  refine d_lift (fun k ws X h => z_aload_n X (x := A 179) rfl (List.Mem.head _) h) (d_getI 179 rfl (by decide) rfl rfl (hti 79 (by decide)) ?_)
  have b5 := bi_79 I
  refine d_br (bo_eq _ _) bx_eq (fun k ws X h1 h2 => z_if_eq X (t := 9) rfl (by decide) (rng_to _) h1 h2) (fun g6 => ?_) (fun g6 => ?_)
  ·
    refine d_lift (fun k ws X h => z_aload_n X (x := A 179) rfl (List.Mem.head _) h) (d_callV 179 (As := []) (st := []) rfl rfl (by decide) rfl (d_wordHere G I (by first | exact oq_2ebc9f52 p0 | omega) (fun q h => hti q ((by decide : ∀ q ∈ ([77, 75, 78, 79, 81] : List Nat), q ∈ ([77, 75, 78, 79, 81] : List Nat)) q h)) (fun a h => hta a ((by decide : ∀ q ∈ ([157, 158, 161] : List Nat), q ∈ ([157, 158, 161] : List Nat)) a h))) ⟨rfl, rfl⟩ ⟨(show 8 + 1 ≤ (12 + (24 + 3 * (r + 1))) from oq_91dbadf4 r), (show 8 + (mNL (miB 201) + 11) + 141 ≤ (500 + 45 * (24 + 3 * (r + 1))) from oq_2d8c6e6c r)⟩ (Nat.le_of_ble_eq_true rfl) (by decide) (by decide) (fun ee s7 hq => ?_) (fun vv s7 hq => ?_))
    · obtain ⟨Is7, Fs7, e8, hv, hrs7, hps7⟩ := hq; cases hv
    obtain ⟨Is7, Fs7, e8, hv, hrs7, hps7⟩ := hq
    have hps7p := hps7.1
    cases hv
    have Gs7 := fm_tq F Fs7 rfl rfl
    have b9 := bi_77 Is7
    have ws7_75 : iI s7 75 = iI s 75 := fm_iq Fs7 rfl
    have ws7_79 : iI s7 79 = iI s 79 := fm_iq Fs7 rfl
    have ws7_78 : iI s7 78 = iI s 78 := fm_iq Fs7 rfl
    show DS l s0 D A dT 210 (rkR (24 + 3 * (r + 1))) [77, 79, 80, 78] [] (T) Q (T) 13 [(0, .ref (A 179))] [.int (Int32.ofInt e8)] s7
    refine d_lift (fun k ws X h => z_bipush X rfl h) (d_lift (fun k ws X h => z_bipush X rfl h) (d_lift (fun k ws X h => z_bipush X rfl h) (d_lift (fun k ws X h => z_const X rfl h) (d_lift (fun k ws X h => z_const X rfl h) (d_lift (fun k ws X h => z_const X rfl h) (d_callT (As := [.int (Int32.ofInt 14), .int (Int32.ofInt 15), .int (Int32.ofInt 20), .int (Int32.ofInt 0), .int (Int32.ofInt 0), .int (Int32.ofInt 0)]) (st := [.int (Int32.ofInt e8)]) rfl rfl (d_word G Is7 (by first | exact ⟨by decide, by decide⟩ | omega) (by first | exact ⟨by decide, by decide⟩ | omega) (by first | exact ⟨by decide, by decide⟩ | omega) (by first | exact ⟨by decide, by decide⟩ | omega) (by first | exact ⟨by decide, by decide⟩ | omega) (by first | exact ⟨by decide, by decide⟩ | omega) (fun q h => hti q ((by decide : ∀ q ∈ ([] : List Nat), q ∈ ([77, 75, 78, 79, 81] : List Nat)) q h)) (fun a h => hta a ((by decide : ∀ q ∈ ([] : List Nat), q ∈ ([157, 158, 161] : List Nat)) a h))) ⟨rfl, rfl⟩ ⟨(show 6 + 1 ≤ (12 + (24 + 3 * (r + 1))) from oq_51b017a3 r), (show 8 + (mNL (miB 202) + 11) + 100 ≤ (500 + 45 * (24 + 3 * (r + 1))) from oq_22dfea8e r)⟩ (Nat.le_of_ble_eq_true rfl) (by decide) (by decide) (fun ee s10 hq => ?_) (fun vv s10 hq => ?_)))))))
    · obtain ⟨Is10, Fs10, e11, hv, hrs10, hps10⟩ := hq; cases hv
    obtain ⟨Is10, Fs10, e11, hv, hrs10, hps10⟩ := hq
    cases hv
    have Gs10 := fm_tq Gs7 Fs10 rfl rfl
    have ws10_77 : iI s10 77 = iI s7 77 := fm_iq Fs10 rfl
    have ws10_75 : iI s10 75 = iI s7 75 := fm_iq Fs10 rfl
    have ws10_79 : iI s10 79 = iI s7 79 := fm_iq Fs10 rfl
    have ws10_78 : iI s10 78 = iI s7 78 := fm_iq Fs10 rfl
    show DS l s0 D A dT 210 (rkR (24 + 3 * (r + 1))) [77, 79, 80, 78] [] (T) Q (T) 25 [(0, .ref (A 179))] [.int (Int32.ofInt e11), .int (Int32.ofInt e8)] s10
    refine d_br (bo_ne _ _) bx_ne (fun k ws X h1 h2 => z_icmp_ne X (t := 58) rfl (by decide) hrs7 hrs10 h1 h2) (fun g12 => ?_) (fun g12 => ?_)
    ·
      refine d_lift (fun k ws X h => z_aload_n X (x := A 179) rfl (List.Mem.head _) h) (d_lift (fun k ws X h => z_aload_n X (x := A 179) rfl (List.Mem.head _) h) (d_getI 179 rfl (by decide) rfl rfl (hti 77 (by decide)) ?_))
      have b13 := bi_77 Is10
      refine d_callV 179 (As := [.int (Int32.ofInt (iI s10 77))]) (st := []) rfl rfl (by decide) rfl (d_byteAt G Is10 (by first | exact ⟨b13.1, oq_5a8480eb b13.2⟩ | omega) (fun q h => hti q ((by decide : ∀ q ∈ ([75, 81] : List Nat), q ∈ ([77, 75, 78, 79, 81] : List Nat)) q h)) (fun a h => hta a ((by decide : ∀ q ∈ ([157, 158] : List Nat), q ∈ ([157, 158, 161] : List Nat)) a h))) ⟨rfl, rfl⟩ ⟨(show 6 + 1 ≤ (12 + (24 + 3 * (r + 1))) from oq_51b017a3 r), (show 8 + (mNL (miB 192) + 11) + 100 ≤ (500 + 45 * (24 + 3 * (r + 1))) from oq_e45c9306 r)⟩ (Nat.le_of_ble_eq_true rfl) (by decide) (by decide) (fun ee s14 hq => ?_) (fun vv s14 hq => ?_)
      · obtain ⟨Is14, Fs14, e15, hv, hrs14, hps14⟩ := hq; cases hv
      obtain ⟨Is14, Fs14, e15, hv, hrs14, hps14⟩ := hq
      cases hv
      have Gs14 := fm_tq Gs10 Fs14 rfl rfl
      have ws14_77 : iI s14 77 = iI s10 77 := fm_iq Fs14 rfl
      have ws14_75 : iI s14 75 = iI s10 75 := fm_iq Fs14 rfl
      have ws14_79 : iI s14 79 = iI s10 79 := fm_iq Fs14 rfl
      have ws14_78 : iI s14 78 = iI s10 78 := fm_iq Fs14 rfl
      show DS l s0 D A dT 210 (rkR (24 + 3 * (r + 1))) [77, 79, 80, 78] [] (T) Q (T) 66 [(0, .ref (A 179))] [.int (Int32.ofInt e15)] s14
      refine d_lift (fun k ws X h => z_bipush X rfl h) (d_br (bo_ne _ _) bx_ne (fun k ws X h1 h2 => z_icmp_ne X (t := 99) rfl (by decide) hrs14 (by decide) h1 h2) (fun g16 => ?_) (fun g16 => ?_))
      ·
        refine d_lift (fun k ws X h => z_aload_n X (x := A 179) rfl (List.Mem.head _) h) (d_callV 179 (As := []) (st := []) rfl rfl (by decide) rfl ((d_sumr G (r + 1)).2.2 Is14 (by first | exact oq_f296b76d ws14_77 ws10_77 hps7.2.1 b2.2 p0 | omega) (by first | exact oq_f71ce2a5 ws14_78 p1 ws10_78 ws7_78 | omega) (by first | exact oq_f1a73c9d ws14_78 ws10_78 ws7_78 g6 p2 | omega) (fun q h => hti q ((by decide : ∀ q ∈ ([77, 75, 78, 79, 81] : List Nat), q ∈ ([77, 75, 78, 79, 81] : List Nat)) q h)) (fun a h => hta a ((by decide : ∀ q ∈ ([157, 158, 161] : List Nat), q ∈ ([157, 158, 161] : List Nat)) a h))) ⟨rfl, rfl⟩ ⟨(show (12 + (3 * (r + 1) + 2)) + 1 ≤ (12 + (24 + 3 * (r + 1))) from oq_78548c36 r), (show 8 + (mNL (miB 209) + 11) + (500 + 45 * (3 * (r + 1) + 2)) ≤ (500 + 45 * (24 + 3 * (r + 1))) from oq_7957a5e4 r)⟩ (Nat.le_of_ble_eq_true rfl) (by decide) (by decide) (fun ee s17 hq => ?_) (fun vv s17 hq => ?_))
        · obtain ⟨Is17, Fs17, e18, hv, hrs17, hps17⟩ := hq; cases hv
        obtain ⟨Is17, Fs17, e18, hv, hrs17, hps17⟩ := hq
        cases hv
        have Gs17 := fm_tq Gs14 Fs17 rfl rfl
        have b19 := bi_77 Is17
        have ws17_75 : iI s17 75 = iI s14 75 := fm_iq Fs17 rfl
        have b20 := bi_79 Is17
        have b21 := bi_78 Is17
        show DS l s0 D A dT 210 (rkR (24 + 3 * (r + 1))) [77, 79, 80, 78] [] (T) Q (T) 103 [(0, .ref (A 179))] [.int (Int32.ofInt e18)] s17
        refine d_lift (fun k ws X h => z_store_n X (lv' := [(1, .int (Int32.ofInt e18)), (0, .ref (A 179))]) rfl (by decide) (fun _ h => h) h) (d_lvs (lv := [(0, .ref (A 179)), (1, .int (Int32.ofInt e18))]) (List.forall_mem_cons.mpr ⟨(List.Mem.tail _ (List.Mem.head _)), (List.forall_mem_cons.mpr ⟨(List.Mem.head _), (fun q h => absurd h List.not_mem_nil)⟩)⟩) ?_)
        exact L104 _ e18 Is17 Gs17 (by first | exact ⟨oq_ac0e91e1 hps17.1 ws14_78 ws10_78 ws7_78, oq_904c728b hps17.2.1 ws14_77 hps7.1 ws10_77, oq_1659f388 hps17.2.2.1 ws14_77 ws10_77 hps7.2.1 b2.2 p0, oq_e013ad0f g6, oq_cfa0a9a6 b20.1 hps17.2.2.2.2 ws14_75 ws10_75 ws7_75, g6, oq_45b593e3 ws17_75 ws7_75 ws14_75 ws10_75, hrs17.1, hrs17.2⟩ | omega)
      ·
        refine d_lift (fun k ws X h => z_aload_n X (x := A 179) rfl (List.Mem.head _) h) (d_lift (fun k ws X h => z_const X rfl h) (d_callV 179 (As := [.int (Int32.ofInt 1)]) (st := []) rfl rfl (by decide) rfl (d_opens G Is14 (by first | exact ⟨by decide, by decide⟩ | omega) (by first | exact oq_06057f8f g16 ws14_77 hps14 ws10_75 ws7_75 b2.2 | omega) (by first | (clear hps14 g12 hps7 p3 p2; omega) | (clear g12 hps7 p3 p2; omega) | omega) (fun q h => hti q ((by decide : ∀ q ∈ ([77, 75, 78, 79, 81] : List Nat), q ∈ ([77, 75, 78, 79, 81] : List Nat)) q h)) (fun a h => hta a ((by decide : ∀ q ∈ ([157, 158, 161] : List Nat), q ∈ ([157, 158, 161] : List Nat)) a h))) ⟨rfl, rfl⟩ ⟨(show 7 + 1 ≤ (12 + (24 + 3 * (r + 1))) from oq_36eaf53c r), (show 8 + (mNL (miB 205) + 11) + 122 ≤ (500 + 45 * (24 + 3 * (r + 1))) from oq_2520a5c5 r)⟩ (Nat.le_of_ble_eq_true rfl) (by decide) (by decide) (fun ee s22 hq => ?_) (fun vv s22 hq => ?_)))
        · obtain ⟨Is22, Fs22, hv, hps22⟩ := hq; cases hv
        obtain ⟨Is22, Fs22, hv, hps22⟩ := hq
        have hps22p := And.intro hps22.1 (hps22.2.1)
        cases hv
        have Gs22 := fm_tq Gs14 Fs22 rfl rfl
        have b24 := bi_77 Is22
        have ws22_75 : iI s22 75 = iI s14 75 := fm_iq Fs22 rfl
        have b25 := bi_79 Is22
        have b26 := bi_78 Is22
        show DS l s0 D A dT 210 (rkR (24 + 3 * (r + 1))) [77, 79, 80, 78] [] (T) Q (T) 76 [(0, .ref (A 179))] [] s22
        refine d_lift (fun k ws X h => z_aload_n X (x := A 179) rfl (List.Mem.head _) h) (d_callV 179 (As := []) (st := []) rfl rfl (by decide) rfl (hO Is22 (by first | exact oq_abf741e9 hps22.1 g16 ws14_77 hps14 ws10_75 ws7_75 b2.2 | omega) (by first | exact oq_eba1d630 p1 hps22.2.1 ws14_78 ws10_78 ws7_78 | omega) (by first | exact oq_6b35565f b25.1 hps22.2.2.2 hps22.2.1 | omega) (by first | exact oq_f5a67a2f hps22.1 g16 ws14_77 hps14 ws10_75 ws7_75 b2.2 | omega) (fun q h => hti q ((by decide : ∀ q ∈ ([77, 75, 78, 79, 81] : List Nat), q ∈ ([77, 75, 78, 79, 81] : List Nat)) q h)) (fun a h => hta a ((by decide : ∀ q ∈ ([157, 158, 161] : List Nat), q ∈ ([157, 158, 161] : List Nat)) a h))) ⟨rfl, rfl⟩ ⟨(show (12 + (24 + 3 * (r) + 2)) + 1 ≤ (12 + (24 + 3 * (r + 1))) from oq_853f7f04 r), (show 8 + (mNL (miB 212) + 11) + (500 + 45 * (24 + 3 * (r) + 2)) ≤ (500 + 45 * (24 + 3 * (r + 1))) from oq_4ce40754 r)⟩ (Nat.le_of_ble_eq_true rfl) (by decide) (by decide) (fun ee s27 hq => ?_) (fun vv s27 hq => ?_))
        · obtain ⟨Is27, Fs27, e28, hv, hrs27, hps27⟩ := hq; cases hv
        obtain ⟨Is27, Fs27, e28, hv, hrs27, hps27⟩ := hq
        have hps27p := And.intro hps27.1 (hps27.2.1)
        cases hv
        have Gs27 := fm_tq Gs22 Fs27 rfl rfl
        have b29 := bi_77 Is27
        have ws27_75 : iI s27 75 = iI s22 75 := fm_iq Fs27 rfl
        have b30 := bi_79 Is27
        have b31 := bi_78 Is27
        show DS l s0 D A dT 210 (rkR (24 + 3 * (r + 1))) [77, 79, 80, 78] [] (T) Q (T) 80 [(0, .ref (A 179))] [.int (Int32.ofInt e28)] s27
        refine d_lift (fun k ws X h => z_store_n X (lv' := [(1, .int (Int32.ofInt e28)), (0, .ref (A 179))]) rfl (by decide) (fun _ h => h) h) (d_lift (fun k ws X h => z_aload_n X (x := A 179) rfl (List.Mem.tail _ (List.Mem.head _)) h) (d_lift (fun k ws X h => z_bipush X rfl h) (d_callV 179 (As := [.int (Int32.ofInt 93)]) (st := []) rfl rfl (by decide) rfl (d_sign G Is27 (by first | exact ⟨by decide, by decide⟩ | omega) (by first | exact oq_b8da2b9d hps27.2.2.1 hps22.1 g16 ws14_77 hps14 ws10_75 ws7_75 b2.2 | omega) (fun q h => hti q ((by decide : ∀ q ∈ ([77, 75, 78, 79, 81] : List Nat), q ∈ ([77, 75, 78, 79, 81] : List Nat)) q h)) (fun a h => hta a ((by decide : ∀ q ∈ ([157, 158, 161] : List Nat), q ∈ ([157, 158, 161] : List Nat)) a h))) ⟨rfl, rfl⟩ ⟨(show 8 + 1 ≤ (12 + (24 + 3 * (r + 1))) from oq_91dbadf4 r), (show 8 + (mNL (miB 204) + 11) + 141 ≤ (500 + 45 * (24 + 3 * (r + 1))) from oq_da5feea9 r)⟩ (Nat.le_of_ble_eq_true rfl) (by decide) (by decide) (fun ee s32 hq => ?_) (fun vv s32 hq => ?_))))
        · obtain ⟨Is32, Fs32, hv, hps32⟩ := hq; cases hv
        obtain ⟨Is32, Fs32, hv, hps32⟩ := hq
        have hps32p := hps32.1
        cases hv
        have Gs32 := fm_tq Gs27 Fs32 rfl rfl
        have b34 := bi_77 Is32
        have ws32_75 : iI s32 75 = iI s27 75 := fm_iq Fs32 rfl
        have b35 := bi_79 Is32
        have ws32_78 : iI s32 78 = iI s27 78 := fm_iq Fs32 rfl
        show DS l s0 D A dT 210 (rkR (24 + 3 * (r + 1))) [77, 79, 80, 78] [] (T) Q (T) 87 [(1, .int (Int32.ofInt e28)), (0, .ref (A 179))] [] s32
        refine d_lift (fun k ws X h => z_aload_n X (x := A 179) rfl (List.Mem.tail _ (List.Mem.head _)) h) (d_lift (fun k ws X h => w_dup X.1 (ax_d X (show cdA 210 88 = some (.dup, 1, 0, 0, 0) from rfl)) rfl h) (d_getI 179 rfl (by decide) rfl rfl (hti 78 (by decide)) ?_))
        have b36 := bi_78 Is32
        refine d_lift (fun k ws X h => z_const X rfl h) (d_lift (fun k ws X h => z_sub X rfl h) (d_putI 179 rfl (by decide) rfl rfl (by decide) rfl rfl rfl (show 78 ∈ _ by decide) (show (0 : Int) ≤ ((iI s32 78) - 1) ∧ ((iI s32 78) - 1) ≤ 8 by first | exact ⟨oq_534c96f9 ws32_78 hps27.1 hps22.2.1 ws14_78 ws10_78 ws7_78 b4.1, oq_d7fe5c3c b36.2⟩ | omega) ⟨by first | exact oq_c1e961c7 b36.1 | omega, by first | exact oq_22bc6706 b36.2 | omega⟩ (d_mono (T' := T) (fun _ h => Or.inr h) (fun _ _ h => h) (ds_gen (fun s37 hs37 => ?_)))))
        have Is37 : Bd s37 := eqB hs37 (bd_I Is32 (show (0 : Int) ≤ ((iI s32 78) - 1) ∧ ((iI s32 78) - 1) ≤ 8 by first | exact ⟨oq_534c96f9 ws32_78 hps27.1 hps22.2.1 ws14_78 ws10_78 ws7_78 b4.1, oq_d7fe5c3c b36.2⟩ | omega) ⟨by first | exact oq_c1e961c7 b36.1 | omega, by first | exact oq_22bc6706 b36.2 | omega⟩)
        have Fs37 := eqF hs37 (fm_I Gs32 (inl_ok (a := 78) rfl))
        have vs37 : iI s37 78 = ((iI s32 78) - 1) := eqI hs37 (iI_u ⟨by first | exact oq_c1e961c7 b36.1 | omega, by first | exact oq_22bc6706 b36.2 | omega⟩)
        have ws37_77 : iI s37 77 = iI s32 77 := eqI hs37 rfl
        have ws37_75 : iI s37 75 = iI s32 75 := eqI hs37 rfl
        have ws37_79 : iI s37 79 = iI s32 79 := eqI hs37 rfl
        refine d_lift (fun k ws X h => z_load_n X (x := e28) rfl (List.Mem.head _) h) ?_
        exact d_iret rfl (nar_ret (by first | exact hps27.2.2.2.2.2.2 | omega)) (Or.inr rfl) rfl (fun _ h => h) (hQ _ _ ⟨Is37, Fs37, e28, rfl, hrs27, by first | exact ⟨oq_9391e35d vs37 ws32_78 hps27.1 hps22.2.1 ws14_78 ws10_78 ws7_78, oq_35525f1f ws37_77 hps32.1 hps27.2.1 hps22.1 ws14_77 ws10_77 hps7.1, oq_c0a6dc61 ws37_77 hps32.2.1 ws27_75 hps27.2.2.1 ws22_75 hps22.1 g16 ws14_75 ws14_77 hps14 ws10_75 ws7_75 b2.2, oq_e013ad0f g6, oq_9a0e9129 ws37_79 ws37_77 b35.1 hps32.2.2.2 hps32.2.1 ws27_75 ws22_75 ws14_75 ws10_75 ws7_75, oq_196cd904 ws37_77 hps32.1 hps27.2.1 hps22.1 ws14_77 ws10_77 hps7.1, hps27.2.2.2.2.2.2⟩ | omega⟩)
    ·
      refine d_lift (fun k ws X h => z_aload_n X (x := A 179) rfl (List.Mem.head _) h) (d_lift (fun k ws X h => z_const X rfl h) (d_callV 179 (As := [.int (Int32.ofInt 3)]) (st := []) rfl rfl (by decide) rfl (d_opens G Is10 (by first | exact ⟨by decide, by decide⟩ | omega) (by first | exact oq_69c1a7bc g12 ws10_77 hps10 hps7.2.2 b2.2 | omega) (by first | (clear hps7 p3 p2; omega) | (clear p3 p2; omega) | omega) (fun q h => hti q ((by decide : ∀ q ∈ ([77, 75, 78, 79, 81] : List Nat), q ∈ ([77, 75, 78, 79, 81] : List Nat)) q h)) (fun a h => hta a ((by decide : ∀ q ∈ ([157, 158, 161] : List Nat), q ∈ ([157, 158, 161] : List Nat)) a h))) ⟨rfl, rfl⟩ ⟨(show 7 + 1 ≤ (12 + (24 + 3 * (r + 1))) from oq_36eaf53c r), (show 8 + (mNL (miB 205) + 11) + 122 ≤ (500 + 45 * (24 + 3 * (r + 1))) from oq_2520a5c5 r)⟩ (Nat.le_of_ble_eq_true rfl) (by decide) (by decide) (fun ee s38 hq => ?_) (fun vv s38 hq => ?_)))
      · obtain ⟨Is38, Fs38, hv, hps38⟩ := hq; cases hv
      obtain ⟨Is38, Fs38, hv, hps38⟩ := hq
      have hps38p := And.intro hps38.1 (hps38.2.1)
      cases hv
      have Gs38 := fm_tq Gs10 Fs38 rfl rfl
      have b40 := bi_77 Is38
      have ws38_75 : iI s38 75 = iI s10 75 := fm_iq Fs38 rfl
      have b41 := bi_79 Is38
      have b42 := bi_78 Is38
      show DS l s0 D A dT 210 (rkR (24 + 3 * (r + 1))) [77, 79, 80, 78] [] (T) Q (T) 33 [(0, .ref (A 179))] [] s38
      refine d_lift (fun k ws X h => z_aload_n X (x := A 179) rfl (List.Mem.head _) h) (d_callV 179 (As := []) (st := []) rfl rfl (by decide) rfl (hT Is38 (by first | exact oq_fb308048 hps38.1 g12 ws10_77 hps10 hps7.2.2 b2.2 | omega) (by first | exact oq_e6a9dcd2 p1 hps38.2.1 ws10_78 ws7_78 | omega) (by first | exact oq_6b35565f b41.1 hps38.2.2.2 hps38.2.1 | omega) (by first | exact oq_f26382f6 hps38.1 g12 ws10_77 hps10 hps7.2.2 b2.2 | omega) (fun q h => hti q ((by decide : ∀ q ∈ ([77, 75, 78, 79, 81] : List Nat), q ∈ ([77, 75, 78, 79, 81] : List Nat)) q h)) (fun a h => hta a ((by decide : ∀ q ∈ ([157, 158, 161] : List Nat), q ∈ ([157, 158, 161] : List Nat)) a h))) ⟨rfl, rfl⟩ ⟨(show (12 + (24 + 3 * (r))) + 1 ≤ (12 + (24 + 3 * (r + 1))) from oq_02269255 r), (show 8 + (mNL (miB 210) + 11) + (500 + 45 * (24 + 3 * (r))) ≤ (500 + 45 * (24 + 3 * (r + 1))) from oq_bcf847ad r)⟩ (Nat.le_of_ble_eq_true rfl) (by decide) (by decide) (fun ee s43 hq => ?_) (fun vv s43 hq => ?_))
      · obtain ⟨Is43, Fs43, e44, hv, hrs43, hps43⟩ := hq; cases hv
      obtain ⟨Is43, Fs43, e44, hv, hrs43, hps43⟩ := hq
      have hps43p := And.intro hps43.1 (hps43.2.1)
      cases hv
      have Gs43 := fm_tq Gs38 Fs43 rfl rfl
      have b45 := bi_77 Is43
      have ws43_75 : iI s43 75 = iI s38 75 := fm_iq Fs43 rfl
      have b46 := bi_79 Is43
      have b47 := bi_78 Is43
      show DS l s0 D A dT 210 (rkR (24 + 3 * (r + 1))) [77, 79, 80, 78] [] (T) Q (T) 37 [(0, .ref (A 179))] [.int (Int32.ofInt e44)] s43
      have N48 : ∀ e49 : Int, (((e44 ≠ 0) ∧ e49 = 0) ∨ ((e44 = 0) ∧ e49 = 1)) → DS l s0 D A dT 210 (rkR (24 + 3 * (r + 1))) [77, 79, 80, 78] [] (T) Q (T) 45 [(0, .ref (A 179))] [.int (Int32.ofInt e49)] s43 := by
        intro e49 he49
        have re49 : 0 ≤ e49 ∧ e49 ≤ 1 := by first | (clear he49 hps43 hps38 hps7 p3 p2; omega) | (clear hps43 hps38 hps7 p3 p2; omega) | omega
        refine d_lift (fun k ws X h => z_store_n X (lv' := [(1, .int (Int32.ofInt e49)), (0, .ref (A 179))]) rfl (by decide) (fun _ h => h) h) (d_lift (fun k ws X h => z_aload_n X (x := A 179) rfl (List.Mem.tail _ (List.Mem.head _)) h) (d_lift (fun k ws X h => w_dup X.1 (ax_d X (show cdA 210 47 = some (.dup, 1, 0, 0, 0) from rfl)) rfl h) (d_getI 179 rfl (by decide) rfl rfl (hti 78 (by decide)) ?_)))
        have b50 := bi_78 Is43
        refine d_lift (fun k ws X h => z_const X rfl h) (d_lift (fun k ws X h => z_sub X rfl h) (d_putI 179 rfl (by decide) rfl rfl (by decide) rfl rfl rfl (show 78 ∈ _ by decide) (show (0 : Int) ≤ ((iI s43 78) - 1) ∧ ((iI s43 78) - 1) ≤ 8 by first | exact ⟨oq_4cec3bfa hps43.1 hps38.2.1 ws10_78 ws7_78 b4.1, oq_d7fe5c3c b50.2⟩ | omega) ⟨by first | exact oq_c1e961c7 b50.1 | omega, by first | exact oq_22bc6706 b50.2 | omega⟩ (d_mono (T' := T) (fun _ h => Or.inr h) (fun _ _ h => h) (ds_gen (fun s51 hs51 => ?_)))))
        have Is51 : Bd s51 := eqB hs51 (bd_I Is43 (show (0 : Int) ≤ ((iI s43 78) - 1) ∧ ((iI s43 78) - 1) ≤ 8 by first | exact ⟨oq_4cec3bfa hps43.1 hps38.2.1 ws10_78 ws7_78 b4.1, oq_d7fe5c3c b50.2⟩ | omega) ⟨by first | exact oq_c1e961c7 b50.1 | omega, by first | exact oq_22bc6706 b50.2 | omega⟩)
        have Fs51 := eqF hs51 (fm_I Gs43 (inl_ok (a := 78) rfl))
        have vs51 : iI s51 78 = ((iI s43 78) - 1) := eqI hs51 (iI_u ⟨by first | exact oq_c1e961c7 b50.1 | omega, by first | exact oq_22bc6706 b50.2 | omega⟩)
        have ws51_77 : iI s51 77 = iI s43 77 := eqI hs51 rfl
        have ws51_75 : iI s51 75 = iI s43 75 := eqI hs51 rfl
        have ws51_79 : iI s51 79 = iI s43 79 := eqI hs51 rfl
        refine d_lift (fun k ws X h => z_load_n X (x := e49) rfl (List.Mem.head _) h) ?_
        exact d_iret rfl (nar_ret (by first | exact oq_78ade64d re49.2 re49.1 he49 | omega)) (Or.inr rfl) rfl (fun _ h => h) (hQ _ _ ⟨Is51, Fs51, e49, rfl, ⟨by first | exact oq_fa4e5087 re49.1 | omega, by first | exact oq_22e1e6b0 re49.2 | omega⟩, by first | exact ⟨oq_2ae1798d vs51 ws7_78 ws10_78 hps38.2.1 hps43.1, oq_ebda117e ws51_77 hps7.1 ws10_77 hps38.1 hps43.2.1, oq_db6a6d1e ws51_77 hps43.2.2.1 hps38.1 g12 ws10_77 hps10 hps7.2.2 b2.2, oq_e013ad0f g6, oq_97db85d0 ws51_79 ws51_77 b46.1 hps43.2.2.2.2.1 ws38_75 ws10_75 ws7_75, oq_4fd60e17 ws51_77 hps43.2.1 hps38.1 ws10_77 hps7.1, oq_78ade64d re49.2 re49.1 he49⟩ | omega⟩)
      refine d_br (bo_ne _ _) bx_ne (fun k ws X h1 h2 => z_if_ne X (t := 44) rfl (by decide) hrs43 h1 h2) (fun g52 => ?_) (fun g52 => ?_)
      ·
        exact d_lift (fun k ws X h => z_const X rfl h) (N48 _ (Or.inl ⟨g52, rfl⟩))
      ·
        exact d_lift (fun k ws X h => z_const X rfl h) (d_lift (fun k ws X h => z_goto X (t := 45) rfl (by decide) h) (N48 _ (Or.inr (⟨g52, rfl⟩))))
  ·
    refine d_lift (fun k ws X h => z_const X rfl h) ?_
    exact d_iret rfl (nar_ret (by first | exact Or.inl (by decide) | omega)) (Or.inr rfl) rfl (fun _ h => h) (hQ _ _ ⟨I, F, 0, rfl, (by decide), by first | exact ⟨by decide, by decide, Or.inl (by decide), oq_4bed1c3e g6 b5.1, oq_6a3c9b31 g6 b5.1, oq_a49e6adf g6 b5.1, Or.inl (by decide)⟩ | omega⟩)
set_option maxHeartbeats 16000000 in
theorem d_andsS (G : GX l s0 D tys a0 dT) {r : Nat} (hT : ∀ {s : PS} {T : TT}, Bd s → (iI s 77 ≤ 203) → (iI s 78 + ((r : Nat) : Int) = 7) → (iI s 78 = 7 → iI s 79 ≠ 0) → (iI s 79 = 0 → iI s 77 ≤ 202) → (∀ q ∈ ([77, 75, 78, 79, 81] : List Nat), T.1 q) → (∀ a ∈ ([157, 158, 161] : List Nat), ∀ j, j < (bA a).2.2 → T.2 a j) → CD l s0 D A dT 210 (rkR (24 + 3 * (r))) [77, 79, 80, 78] [] T T [.ref (A 179)] s (fun o t => Bd t ∧ Fm [77, 79, 80, 78] [] s t ∧ ∃ e, o = .inl (some (.int (Int32.ofInt e))) ∧ rng e ∧ (iI t 78 = iI s 78 ∧ iI s 77 ≤ iI t 77 ∧ (iI t 77 = iI s 77 ∨ iI t 77 ≤ 203) ∧ (iI s 79 ≠ 0 → iI t 79 ≠ 0) ∧ (iI t 79 = 0 → iI t 77 ≤ iI s 75) ∧ (iI s 79 = 0 → iI s 77 < iI t 77) ∧ (e = 0 ∨ e = 1)))) (I : Bd s) (p0 : iI s 77 ≤ 203) (p1 : iI s 78 + ((r : Nat) : Int) = 7) (p2 : iI s 78 = 7 → iI s 79 ≠ 0) (p3 : iI s 79 = 0 → iI s 77 ≤ 202) {T : TT} (hti : ∀ q ∈ ([77, 75, 78, 79, 81] : List Nat), T.1 q) (hta : ∀ a ∈ ([157, 158, 161] : List Nat), ∀ j, j < (bA a).2.2 → T.2 a j) : CD l s0 D A dT 211 (rkR (24 + 3 * (r) + 1)) [77, 79, 80, 78] [] T (T) [.ref (A 179)] s (fun o t => Bd t ∧ Fm [77, 79, 80, 78] [] s t ∧ ∃ e, o = .inl (some (.int (Int32.ofInt e))) ∧ rng e ∧ (iI t 78 = iI s 78 ∧ iI s 77 ≤ iI t 77 ∧ (iI t 77 = iI s 77 ∨ iI t 77 ≤ 203) ∧ (iI s 79 ≠ 0 → iI t 79 ≠ 0) ∧ (iI t 79 = 0 → iI t 77 ≤ iI s 75) ∧ (iI s 79 = 0 → iI s 77 < iI t 77) ∧ (e = 0 ∨ e = 1))) := by
  refine cd_of G (by decide) (Nat.le_of_ble_eq_true rfl) (fun Q hQ => ?_)
  have I0 := I
  show DS l s0 D A dT 211 (rkR (24 + 3 * (r) + 1)) [77, 79, 80, 78] [] (T) Q (T) 0 [(0, .ref (A 179))] [] s
  have F : Fm [77, 79, 80, 78] [] s s := fm_rf _ _ s
  have b1 := bi_77 I
  have b2 := bi_75 I
  have b3 := bi_79 I
  have b4 := bi_78 I
  have L5 : ∀ (n : Nat) (t : PS) (v : Int), Bd t → Fm [77, 79, 80, 78] [] s t → (iI t 78 = iI s 78 ∧ iI s 77 ≤ iI t 77 ∧ (iI t 77 = iI s 77 ∨ iI t 77 ≤ 203) ∧ (iI s 79 ≠ 0 → iI t 79 ≠ 0) ∧ (iI t 79 = 0 → iI t 77 ≤ iI s 75) ∧ (iI s 79 = 0 → iI s 77 < iI t 77) ∧ iI t 75 = iI s 75 ∧ (v = 0 ∨ v = 1)) → (iI t 75 - iI t 77 : Int).toNat < n → (∀ (t' : PS) (v' : Int), Bd t' → Fm [77, 79, 80, 78] [] s t' → (iI t' 78 = iI s 78 ∧ iI s 77 ≤ iI t' 77 ∧ (iI t' 77 = iI s 77 ∨ iI t' 77 ≤ 203) ∧ (iI s 79 ≠ 0 → iI t' 79 ≠ 0) ∧ (iI t' 79 = 0 → iI t' 77 ≤ iI s 75) ∧ (iI s 79 = 0 → iI s 77 < iI t' 77) ∧ iI t' 75 = iI s 75 ∧ (v' = 0 ∨ v' = 1)) → DS l s0 D A dT 211 (rkR (24 + 3 * (r) + 1)) [77, 79, 80, 78] [] (T) Q (T) 55 [(0, .ref (A 179)), (1, .int (Int32.ofInt v'))] [] t') → DS l s0 D A dT 211 (rkR (24 + 3 * (r) + 1)) [77, 79, 80, 78] [] (T) Q (T) 5 [(0, .ref (A 179)), (1, .int (Int32.ofInt v))] [] t := by
    intro n
    induction n with
    | zero =>
      intro t v I F hi hm kx
      exact absurd hm (Nat.not_lt_zero _)
    | succ n ih =>
      intro t v I F hi hm kx
      have b1001 := bi_77 I
      have b1002 := bi_75 I
      have b1003 := bi_79 I
      have b1004 := bi_78 I
      refine d_lift (fun k ws X h => z_aload_n X (x := A 179) rfl (List.Mem.head _) h) (d_getI 179 rfl (by decide) rfl rfl (hti 79 (by decide)) ?_)
      have b1005 := bi_79 I
      refine d_br (bo_ne _ _) bx_ne (fun k ws X h1 h2 => z_if_ne X (t := 55) rfl (by decide) (rng_to _) h1 h2) (fun g1006 => ?_) (fun g1006 => ?_)
      ·
        refine d_lvs (lv := [(0, .ref (A 179)), (1, .int (Int32.ofInt v))]) (List.forall_mem_cons.mpr ⟨(List.Mem.head _), (List.forall_mem_cons.mpr ⟨(List.Mem.tail _ (List.Mem.head _)), (fun q h => absurd h List.not_mem_nil)⟩)⟩) ?_
        exact kx _ v I F (by first | exact ⟨hi.1, hi.2.1, hi.2.2.1, hi.2.2.2.1, hi.2.2.2.2.1, hi.2.2.2.2.2.1, hi.2.2.2.2.2.2.1, hi.2.2.2.2.2.2.2⟩ | omega)
      ·
        refine d_lift (fun k ws X h => z_aload_n X (x := A 179) rfl (List.Mem.head _) h) (d_callV 179 (As := []) (st := []) rfl rfl (by decide) rfl (d_wordHere G I (by first | exact oq_179d6548 hi.2.2.1 p0 | omega) (fun q h => hti q ((by decide : ∀ q ∈ ([77, 75, 78, 79, 81] : List Nat), q ∈ ([77, 75, 78, 79, 81] : List Nat)) q h)) (fun a h => hta a ((by decide : ∀ q ∈ ([157, 158, 161] : List Nat), q ∈ ([157, 158, 161] : List Nat)) a h))) ⟨rfl, rfl⟩ ⟨(show 8 + 1 ≤ (12 + (24 + 3 * (r) + 1)) from oq_39e70b4f r), (show 8 + (mNL (miB 201) + 11) + 141 ≤ (500 + 45 * (24 + 3 * (r) + 1)) from oq_c22861ba r)⟩ (Nat.le_of_ble_eq_true rfl) (by decide) (by decide) (fun ee s1007 hq => ?_) (fun vv s1007 hq => ?_))
        · obtain ⟨Is1007, Fs1007, e1008, hv, hrs1007, hps1007⟩ := hq; cases hv
        obtain ⟨Is1007, Fs1007, e1008, hv, hrs1007, hps1007⟩ := hq
        have hps1007p := hps1007.1
        cases hv
        have Gs1007 := fm_tq F Fs1007 rfl rfl
        have b1009 := bi_77 Is1007
        have ws1007_75 : iI s1007 75 = iI t 75 := fm_iq Fs1007 rfl
        have ws1007_79 : iI s1007 79 = iI t 79 := fm_iq Fs1007 rfl
        have ws1007_78 : iI s1007 78 = iI t 78 := fm_iq Fs1007 rfl
        show DS l s0 D A dT 211 (rkR (24 + 3 * (r) + 1)) [77, 79, 80, 78] [] (T) Q (T) 16 [(0, .ref (A 179)), (1, .int (Int32.ofInt v))] [.int (Int32.ofInt e1008)] s1007
        refine d_lift (fun k ws X h => z_const X rfl h) (d_lift (fun k ws X h => z_bipush X rfl h) (d_lift (fun k ws X h => z_const X rfl h) (d_lift (fun k ws X h => z_const X rfl h) (d_lift (fun k ws X h => z_const X rfl h) (d_lift (fun k ws X h => z_const X rfl h) (d_callT (As := [.int (Int32.ofInt 1), .int (Int32.ofInt 14), .int (Int32.ofInt 4), .int (Int32.ofInt 0), .int (Int32.ofInt 0), .int (Int32.ofInt 0)]) (st := [.int (Int32.ofInt e1008)]) rfl rfl (d_word G Is1007 (by first | exact ⟨by decide, by decide⟩ | omega) (by first | exact ⟨by decide, by decide⟩ | omega) (by first | exact ⟨by decide, by decide⟩ | omega) (by first | exact ⟨by decide, by decide⟩ | omega) (by first | exact ⟨by decide, by decide⟩ | omega) (by first | exact ⟨by decide, by decide⟩ | omega) (fun q h => hti q ((by decide : ∀ q ∈ ([] : List Nat), q ∈ ([77, 75, 78, 79, 81] : List Nat)) q h)) (fun a h => hta a ((by decide : ∀ q ∈ ([] : List Nat), q ∈ ([157, 158, 161] : List Nat)) a h))) ⟨rfl, rfl⟩ ⟨(show 6 + 1 ≤ (12 + (24 + 3 * (r) + 1)) from oq_daac07eb r), (show 8 + (mNL (miB 202) + 11) + 100 ≤ (500 + 45 * (24 + 3 * (r) + 1)) from oq_40ed5dd2 r)⟩ (Nat.le_of_ble_eq_true rfl) (by decide) (by decide) (fun ee s1010 hq => ?_) (fun vv s1010 hq => ?_)))))))
        · obtain ⟨Is1010, Fs1010, e1011, hv, hrs1010, hps1010⟩ := hq; cases hv
        obtain ⟨Is1010, Fs1010, e1011, hv, hrs1010, hps1010⟩ := hq
        cases hv
        have Gs1010 := fm_tq Gs1007 Fs1010 rfl rfl
        have ws1010_77 : iI s1010 77 = iI s1007 77 := fm_iq Fs1010 rfl
        have ws1010_75 : iI s1010 75 = iI s1007 75 := fm_iq Fs1010 rfl
        have ws1010_79 : iI s1010 79 = iI s1007 79 := fm_iq Fs1010 rfl
        have ws1010_78 : iI s1010 78 = iI s1007 78 := fm_iq Fs1010 rfl
        show DS l s0 D A dT 211 (rkR (24 + 3 * (r) + 1)) [77, 79, 80, 78] [] (T) Q (T) 26 [(0, .ref (A 179)), (1, .int (Int32.ofInt v))] [.int (Int32.ofInt e1011), .int (Int32.ofInt e1008)] s1010
        refine d_br (bo_ne _ _) bx_ne (fun k ws X h1 h2 => z_icmp_ne X (t := 55) rfl (by decide) hrs1007 hrs1010 h1 h2) (fun g1012 => ?_) (fun g1012 => ?_)
        ·
          refine d_lvs (lv := [(0, .ref (A 179)), (1, .int (Int32.ofInt v))]) (List.forall_mem_cons.mpr ⟨(List.Mem.head _), (List.forall_mem_cons.mpr ⟨(List.Mem.tail _ (List.Mem.head _)), (fun q h => absurd h List.not_mem_nil)⟩)⟩) ?_
          exact kx _ v Is1010 Gs1010 (by first | exact ⟨oq_878618b1 ws1010_78 ws1007_78 hi.1, oq_6f31d0da ws1010_77 hi.2.1 hps1007.1, oq_4d38c61b ws1010_77 hps1007.2.1 b1002.2 hi.2.2.1 p0, oq_67b737cd g1006 hi.2.2.2.1 b3.1, oq_613e077a ws1010_77 hps1007.2.1 g1006 hi.2.2.2.2.2.2.1 hi.2.2.2.2.1, oq_f8cf8f83 ws1010_77 hps1007.1 hi.2.2.2.2.2.1 b3.1, oq_d0d2714e ws1010_75 hi.2.2.2.2.2.2.1 ws1007_75, hi.2.2.2.2.2.2.2⟩ | omega)
        ·
          refine d_lift (fun k ws X h => z_aload_n X (x := A 179) rfl (List.Mem.head _) h) (d_callV 179 (As := []) (st := []) rfl rfl (by decide) rfl (d_skipWord G Is1010 (by first | exact oq_853b39fa g1012 ws1010_77 hps1010 hps1007.2.2 b1002.2 | omega) (fun q h => hti q ((by decide : ∀ q ∈ ([77, 75, 78, 79, 81] : List Nat), q ∈ ([77, 75, 78, 79, 81] : List Nat)) q h)) (fun a h => hta a ((by decide : ∀ q ∈ ([157, 158, 161] : List Nat), q ∈ ([157, 158, 161] : List Nat)) a h))) ⟨rfl, rfl⟩ ⟨(show 7 + 1 ≤ (12 + (24 + 3 * (r) + 1)) from oq_ede76fc4 r), (show 8 + (mNL (miB 203) + 11) + 121 ≤ (500 + 45 * (24 + 3 * (r) + 1)) from oq_71ab51d5 r)⟩ (Nat.le_of_ble_eq_true rfl) (by decide) (by decide) (fun ee s1013 hq => ?_) (fun vv s1013 hq => ?_))
          · obtain ⟨Is1013, Fs1013, hv, hps1013⟩ := hq; cases hv
          obtain ⟨Is1013, Fs1013, hv, hps1013⟩ := hq
          have hps1013p := hps1013.1
          cases hv
          have Gs1013 := fm_tq Gs1010 Fs1013 rfl rfl
          have b1015 := bi_77 Is1013
          have ws1013_75 : iI s1013 75 = iI s1010 75 := fm_iq Fs1013 rfl
          have ws1013_79 : iI s1013 79 = iI s1010 79 := fm_iq Fs1013 rfl
          have ws1013_78 : iI s1013 78 = iI s1010 78 := fm_iq Fs1013 rfl
          show DS l s0 D A dT 211 (rkR (24 + 3 * (r) + 1)) [77, 79, 80, 78] [] (T) Q (T) 33 [(0, .ref (A 179)), (1, .int (Int32.ofInt v))] [] s1013
          refine d_lift (fun k ws X h => z_aload_n X (x := A 179) rfl (List.Mem.head _) h) (d_callV 179 (As := []) (st := []) rfl rfl (by decide) rfl (hT Is1013 (by first | exact oq_aed112bd hps1013.2 g1012 ws1010_75 ws1010_77 hps1010 ws1007_75 hps1007.2.2 b1002.2 | omega) (by first | exact oq_c128dca8 ws1013_78 p1 ws1010_78 ws1007_78 hi.1 | omega) (by first | exact oq_022cbb1f ws1013_78 ws1010_78 ws1007_78 g1006 hi.2.2.2.1 hi.1 b3.1 p2 | omega) (by first | exact oq_7df43967 hps1013.2 g1012 ws1010_75 ws1010_77 hps1010 ws1007_75 hps1007.2.2 b1002.2 | omega) (fun q h => hti q ((by decide : ∀ q ∈ ([77, 75, 78, 79, 81] : List Nat), q ∈ ([77, 75, 78, 79, 81] : List Nat)) q h)) (fun a h => hta a ((by decide : ∀ q ∈ ([157, 158, 161] : List Nat), q ∈ ([157, 158, 161] : List Nat)) a h))) ⟨rfl, rfl⟩ ⟨(show (12 + (24 + 3 * (r))) + 1 ≤ (12 + (24 + 3 * (r) + 1)) from oq_03e50da9 r), (show 8 + (mNL (miB 210) + 11) + (500 + 45 * (24 + 3 * (r))) ≤ (500 + 45 * (24 + 3 * (r) + 1)) from oq_cc4dfda7 r)⟩ (Nat.le_of_ble_eq_true rfl) (by decide) (by decide) (fun ee s1016 hq => ?_) (fun vv s1016 hq => ?_))
          · obtain ⟨Is1016, Fs1016, e1017, hv, hrs1016, hps1016⟩ := hq; cases hv
          obtain ⟨Is1016, Fs1016, e1017, hv, hrs1016, hps1016⟩ := hq
          have hps1016p := And.intro hps1016.1 (hps1016.2.1)
          cases hv
          have Gs1016 := fm_tq Gs1013 Fs1016 rfl rfl
          have b1018 := bi_77 Is1016
          have ws1016_75 : iI s1016 75 = iI s1013 75 := fm_iq Fs1016 rfl
          have b1019 := bi_79 Is1016
          have b1020 := bi_78 Is1016
          show DS l s0 D A dT 211 (rkR (24 + 3 * (r) + 1)) [77, 79, 80, 78] [] (T) Q (T) 37 [(0, .ref (A 179)), (1, .int (Int32.ofInt v))] [.int (Int32.ofInt e1017)] s1016
          refine d_lift (fun k ws X h => z_store_n X (lv' := [(2, .int (Int32.ofInt e1017)), (0, .ref (A 179)), (1, .int (Int32.ofInt v))]) rfl (by decide) (fun _ h => h) h) (d_lift (fun k ws X h => z_load_n X (x := v) rfl (List.Mem.tail _ (List.Mem.tail _ (List.Mem.head _))) h) ?_)
          have N1021 : ∀ e1022 : Int, (((v = 0) ∧ e1022 = 0) ∨ ((v ≠ 0) ∧ (e1017 = 0) ∧ e1022 = 0) ∨ ((v ≠ 0) ∧ (e1017 ≠ 0) ∧ e1022 = 1)) → DS l s0 D A dT 211 (rkR (24 + 3 * (r) + 1)) [77, 79, 80, 78] [] (T) Q (T) 51 [(2, .int (Int32.ofInt e1017)), (0, .ref (A 179)), (1, .int (Int32.ofInt v))] [.int (Int32.ofInt e1022)] s1016 := by
            intro e1022 he1022
            have re1022 : 0 ≤ e1022 ∧ e1022 ≤ 1 := by first | (clear he1022 hps1016 hps1013 hps1007 p3 p2; omega) | (clear hps1016 hps1013 hps1007 p3 p2; omega) | omega
            refine d_lift (fun k ws X h => z_store_n X (lv' := [(1, .int (Int32.ofInt e1022)), (2, .int (Int32.ofInt e1017)), (0, .ref (A 179))]) rfl (by decide) (fun _ h => h) h) (d_lift (fun k ws X h => z_goto X (t := 5) rfl (by decide) h) (d_lvs (lv := [(0, .ref (A 179)), (1, .int (Int32.ofInt e1022))]) (List.forall_mem_cons.mpr ⟨(List.Mem.tail _ (List.Mem.tail _ (List.Mem.head _))), (List.forall_mem_cons.mpr ⟨(List.Mem.head _), (fun q h => absurd h List.not_mem_nil)⟩)⟩) ?_))
            exact ih _ e1022 Is1016 Gs1016 (by first | exact ⟨oq_469c7eaf hps1016.1 ws1013_78 ws1010_78 ws1007_78 hi.1, oq_df567ab1 hps1016.2.1 hps1013.1 ws1010_77 hi.2.1 hps1007.1, oq_fe8590e8 hps1016.2.2.1 hps1013.2 g1012 ws1010_75 ws1010_77 hps1010 ws1007_75 hps1007.2.2 b1002.2, oq_67b737cd g1006 hi.2.2.2.1 b3.1, oq_0a04dc49 b1019.1 hps1016.2.2.2.2.1 ws1013_75 ws1010_75 ws1007_75 hi.2.2.2.2.2.2.1, oq_2a02c81e hps1016.2.2.2.2.2.1 ws1013_79 hps1013.1 ws1010_79 ws1010_77 ws1007_79 hps1007.1 g1006 hi.2.1, oq_b4d295d9 ws1016_75 hi.2.2.2.2.2.2.1 ws1013_75 ws1010_75 ws1007_75, oq_31e518ae re1022.2 re1022.1⟩ | omega) (by first | exact qk_me hm (oq_3d279f51 ws1016_75 hps1016.2.2.2.2.2.1 ws1013_79 ws1013_75 hps1013.1 ws1010_79 ws1010_75 ws1010_77 ws1007_79 ws1007_75 hps1007.1 g1006) (oq_32b967f2 g1012 hps1010 hps1007.2.2 hps1007.1) | omega) kx
          refine d_br (bo_eq _ _) bx_eq (fun k ws X h1 h2 => z_if_eq X (t := 50) rfl (by decide) ⟨by first | exact oq_bde653e9 hi.2.2.2.2.2.2.2 | omega, by first | exact oq_4ad2cb8b hi.2.2.2.2.2.2.2 | omega⟩ h1 h2) (fun g1023 => ?_) (fun g1023 => ?_)
          ·
            exact d_lift (fun k ws X h => z_const X rfl h) (N1021 _ (Or.inl ⟨g1023, rfl⟩))
          ·
            refine d_lift (fun k ws X h => z_load_n X (x := e1017) rfl (List.Mem.head _) h) (d_br (bo_eq _ _) bx_eq (fun k ws X h1 h2 => z_if_eq X (t := 50) rfl (by decide) hrs1016 h1 h2) (fun g1024 => ?_) (fun g1024 => ?_))
            ·
              exact d_lift (fun k ws X h => z_const X rfl h) (N1021 _ (Or.inr (Or.inl ⟨g1023, g1024, rfl⟩)))
            ·
              exact d_lift (fun k ws X h => z_const X rfl h) (d_lift (fun k ws X h => z_goto X (t := 51) rfl (by decide) h) (N1021 _ (Or.inr (Or.inr (⟨g1023, g1024, rfl⟩)))))
  refine d_lift (fun k ws X h => z_aload_n X (x := A 179) rfl (List.Mem.head _) h) (d_callV 179 (As := []) (st := []) rfl rfl (by decide) rfl (hT I (by first | exact p0 | omega) (by first | exact p1 | omega) (by first | exact p2 | omega) (by first | exact p3 | omega) (fun q h => hti q ((by decide : ∀ q ∈ ([77, 75, 78, 79, 81] : List Nat), q ∈ ([77, 75, 78, 79, 81] : List Nat)) q h)) (fun a h => hta a ((by decide : ∀ q ∈ ([157, 158, 161] : List Nat), q ∈ ([157, 158, 161] : List Nat)) a h))) ⟨rfl, rfl⟩ ⟨(show (12 + (24 + 3 * (r))) + 1 ≤ (12 + (24 + 3 * (r) + 1)) from oq_03e50da9 r), (show 8 + (mNL (miB 210) + 11) + (500 + 45 * (24 + 3 * (r))) ≤ (500 + 45 * (24 + 3 * (r) + 1)) from oq_cc4dfda7 r)⟩ (Nat.le_of_ble_eq_true rfl) (by decide) (by decide) (fun ee s5 hq => ?_) (fun vv s5 hq => ?_))
  · obtain ⟨Is5, Fs5, e6, hv, hrs5, hps5⟩ := hq; cases hv
  obtain ⟨Is5, Fs5, e6, hv, hrs5, hps5⟩ := hq
  have hps5p := And.intro hps5.1 (hps5.2.1)
  cases hv
  have Gs5 := fm_tq F Fs5 rfl rfl
  have b7 := bi_77 Is5
  have ws5_75 : iI s5 75 = iI s 75 := fm_iq Fs5 rfl
  have b8 := bi_79 Is5
  have b9 := bi_78 Is5
  show DS l s0 D A dT 211 (rkR (24 + 3 * (r) + 1)) [77, 79, 80, 78] [] (T) Q (T) 4 [(0, .ref (A 179))] [.int (Int32.ofInt e6)] s5
  refine d_lift (fun k ws X h => z_store_n X (lv' := [(1, .int (Int32.ofInt e6)), (0, .ref (A 179))]) rfl (by decide) (fun _ h => h) h) (d_lvs (lv := [(0, .ref (A 179)), (1, .int (Int32.ofInt e6))]) (List.forall_mem_cons.mpr ⟨(List.Mem.tail _ (List.Mem.head _)), (List.forall_mem_cons.mpr ⟨(List.Mem.head _), (fun q h => absurd h List.not_mem_nil)⟩)⟩) (L5 ((iI s5 75 - iI s5 77 : Int).toNat + 1) s5 e6 Is5 Gs5 (by first | exact ⟨hps5.1, hps5.2.1, hps5.2.2.1, hps5.2.2.2.1, hps5.2.2.2.2.1, hps5.2.2.2.2.2.1, ws5_75, hps5.2.2.2.2.2.2⟩ | omega) (Nat.lt_succ_self _) ?_))
  intro s10 x11 Is10 Fs10 hs10
  have b12 := bi_77 Is10
  have b13 := bi_75 Is10
  have b14 := bi_79 Is10
  have b15 := bi_78 Is10
  refine d_lift (fun k ws X h => z_load_n X (x := x11) rfl (List.Mem.tail _ (List.Mem.head _)) h) ?_
  exact d_iret rfl (nar_ret (by first | exact hs10.2.2.2.2.2.2.2 | omega)) (Or.inr rfl) rfl (fun _ h => h) (hQ _ _ ⟨Is10, Fs10, x11, rfl, ⟨by first | exact oq_bde653e9 hs10.2.2.2.2.2.2.2 | omega, by first | exact oq_4ad2cb8b hs10.2.2.2.2.2.2.2 | omega⟩, by first | exact ⟨hs10.1, hs10.2.1, hs10.2.2.1, hs10.2.2.2.1, hs10.2.2.2.2.1, hs10.2.2.2.2.2.1, hs10.2.2.2.2.2.2.2⟩ | omega⟩)
set_option maxHeartbeats 16000000 in
theorem d_orsS (G : GX l s0 D tys a0 dT) {r : Nat} (hA : ∀ {s : PS} {T : TT}, Bd s → (iI s 77 ≤ 203) → (iI s 78 + ((r : Nat) : Int) = 7) → (iI s 78 = 7 → iI s 79 ≠ 0) → (iI s 79 = 0 → iI s 77 ≤ 202) → (∀ q ∈ ([77, 75, 78, 79, 81] : List Nat), T.1 q) → (∀ a ∈ ([157, 158, 161] : List Nat), ∀ j, j < (bA a).2.2 → T.2 a j) → CD l s0 D A dT 211 (rkR (24 + 3 * (r) + 1)) [77, 79, 80, 78] [] T T [.ref (A 179)] s (fun o t => Bd t ∧ Fm [77, 79, 80, 78] [] s t ∧ ∃ e, o = .inl (some (.int (Int32.ofInt e))) ∧ rng e ∧ (iI t 78 = iI s 78 ∧ iI s 77 ≤ iI t 77 ∧ (iI t 77 = iI s 77 ∨ iI t 77 ≤ 203) ∧ (iI s 79 ≠ 0 → iI t 79 ≠ 0) ∧ (iI t 79 = 0 → iI t 77 ≤ iI s 75) ∧ (iI s 79 = 0 → iI s 77 < iI t 77) ∧ (e = 0 ∨ e = 1)))) (I : Bd s) (p0 : iI s 77 ≤ 203) (p1 : iI s 78 + ((r : Nat) : Int) = 7) (p2 : iI s 78 = 7 → iI s 79 ≠ 0) (p3 : iI s 79 = 0 → iI s 77 ≤ 202) {T : TT} (hti : ∀ q ∈ ([77, 75, 78, 79, 81] : List Nat), T.1 q) (hta : ∀ a ∈ ([157, 158, 161] : List Nat), ∀ j, j < (bA a).2.2 → T.2 a j) : CD l s0 D A dT 212 (rkR (24 + 3 * (r) + 2)) [77, 79, 80, 78] [] T (T) [.ref (A 179)] s (fun o t => Bd t ∧ Fm [77, 79, 80, 78] [] s t ∧ ∃ e, o = .inl (some (.int (Int32.ofInt e))) ∧ rng e ∧ (iI t 78 = iI s 78 ∧ iI s 77 ≤ iI t 77 ∧ (iI t 77 = iI s 77 ∨ iI t 77 ≤ 203) ∧ (iI s 79 ≠ 0 → iI t 79 ≠ 0) ∧ (iI t 79 = 0 → iI t 77 ≤ iI s 75) ∧ (iI s 79 = 0 → iI s 77 < iI t 77) ∧ (e = 0 ∨ e = 1))) := by
  refine cd_of G (by decide) (Nat.le_of_ble_eq_true rfl) (fun Q hQ => ?_)
  have I0 := I
  show DS l s0 D A dT 212 (rkR (24 + 3 * (r) + 2)) [77, 79, 80, 78] [] (T) Q (T) 0 [(0, .ref (A 179))] [] s
  have F : Fm [77, 79, 80, 78] [] s s := fm_rf _ _ s
  have b1 := bi_77 I
  have b2 := bi_75 I
  have b3 := bi_79 I
  have b4 := bi_78 I
  have L5 : ∀ (n : Nat) (t : PS) (v : Int), Bd t → Fm [77, 79, 80, 78] [] s t → (iI t 78 = iI s 78 ∧ iI s 77 ≤ iI t 77 ∧ (iI t 77 = iI s 77 ∨ iI t 77 ≤ 203) ∧ (iI s 79 ≠ 0 → iI t 79 ≠ 0) ∧ (iI t 79 = 0 → iI t 77 ≤ iI s 75) ∧ (iI s 79 = 0 → iI s 77 < iI t 77) ∧ iI t 75 = iI s 75 ∧ (v = 0 ∨ v = 1)) → (iI t 75 - iI t 77 : Int).toNat < n → (∀ (t' : PS) (v' : Int), Bd t' → Fm [77, 79, 80, 78] [] s t' → (iI t' 78 = iI s 78 ∧ iI s 77 ≤ iI t' 77 ∧ (iI t' 77 = iI s 77 ∨ iI t' 77 ≤ 203) ∧ (iI s 79 ≠ 0 → iI t' 79 ≠ 0) ∧ (iI t' 79 = 0 → iI t' 77 ≤ iI s 75) ∧ (iI s 79 = 0 → iI s 77 < iI t' 77) ∧ iI t' 75 = iI s 75 ∧ (v' = 0 ∨ v' = 1)) → DS l s0 D A dT 212 (rkR (24 + 3 * (r) + 2)) [77, 79, 80, 78] [] (T) Q (T) 56 [(0, .ref (A 179)), (1, .int (Int32.ofInt v'))] [] t') → DS l s0 D A dT 212 (rkR (24 + 3 * (r) + 2)) [77, 79, 80, 78] [] (T) Q (T) 5 [(0, .ref (A 179)), (1, .int (Int32.ofInt v))] [] t := by
    intro n
    induction n with
    | zero =>
      intro t v I F hi hm kx
      exact absurd hm (Nat.not_lt_zero _)
    | succ n ih =>
      intro t v I F hi hm kx
      have b1001 := bi_77 I
      have b1002 := bi_75 I
      have b1003 := bi_79 I
      have b1004 := bi_78 I
      refine d_lift (fun k ws X h => z_aload_n X (x := A 179) rfl (List.Mem.head _) h) (d_getI 179 rfl (by decide) rfl rfl (hti 79 (by decide)) ?_)
      have b1005 := bi_79 I
      refine d_br (bo_ne _ _) bx_ne (fun k ws X h1 h2 => z_if_ne X (t := 56) rfl (by decide) (rng_to _) h1 h2) (fun g1006 => ?_) (fun g1006 => ?_)
      ·
        refine d_lvs (lv := [(0, .ref (A 179)), (1, .int (Int32.ofInt v))]) (List.forall_mem_cons.mpr ⟨(List.Mem.head _), (List.forall_mem_cons.mpr ⟨(List.Mem.tail _ (List.Mem.head _)), (fun q h => absurd h List.not_mem_nil)⟩)⟩) ?_
        exact kx _ v I F (by first | exact ⟨hi.1, hi.2.1, hi.2.2.1, hi.2.2.2.1, hi.2.2.2.2.1, hi.2.2.2.2.2.1, hi.2.2.2.2.2.2.1, hi.2.2.2.2.2.2.2⟩ | omega)
      ·
        refine d_lift (fun k ws X h => z_aload_n X (x := A 179) rfl (List.Mem.head _) h) (d_callV 179 (As := []) (st := []) rfl rfl (by decide) rfl (d_wordHere G I (by first | exact oq_179d6548 hi.2.2.1 p0 | omega) (fun q h => hti q ((by decide : ∀ q ∈ ([77, 75, 78, 79, 81] : List Nat), q ∈ ([77, 75, 78, 79, 81] : List Nat)) q h)) (fun a h => hta a ((by decide : ∀ q ∈ ([157, 158, 161] : List Nat), q ∈ ([157, 158, 161] : List Nat)) a h))) ⟨rfl, rfl⟩ ⟨(show 8 + 1 ≤ (12 + (24 + 3 * (r) + 2)) from oq_b9f2246e r), (show 8 + (mNL (miB 201) + 11) + 141 ≤ (500 + 45 * (24 + 3 * (r) + 2)) from oq_ae9e04d0 r)⟩ (Nat.le_of_ble_eq_true rfl) (by decide) (by decide) (fun ee s1007 hq => ?_) (fun vv s1007 hq => ?_))
        · obtain ⟨Is1007, Fs1007, e1008, hv, hrs1007, hps1007⟩ := hq; cases hv
        obtain ⟨Is1007, Fs1007, e1008, hv, hrs1007, hps1007⟩ := hq
        have hps1007p := hps1007.1
        cases hv
        have Gs1007 := fm_tq F Fs1007 rfl rfl
        have b1009 := bi_77 Is1007
        have ws1007_75 : iI s1007 75 = iI t 75 := fm_iq Fs1007 rfl
        have ws1007_79 : iI s1007 79 = iI t 79 := fm_iq Fs1007 rfl
        have ws1007_78 : iI s1007 78 = iI t 78 := fm_iq Fs1007 rfl
        show DS l s0 D A dT 212 (rkR (24 + 3 * (r) + 2)) [77, 79, 80, 78] [] (T) Q (T) 16 [(0, .ref (A 179)), (1, .int (Int32.ofInt v))] [.int (Int32.ofInt e1008)] s1007
        refine d_lift (fun k ws X h => z_bipush X rfl h) (d_lift (fun k ws X h => z_bipush X rfl h) (d_lift (fun k ws X h => z_const X rfl h) (d_lift (fun k ws X h => z_const X rfl h) (d_lift (fun k ws X h => z_const X rfl h) (d_lift (fun k ws X h => z_const X rfl h) (d_callT (As := [.int (Int32.ofInt 15), .int (Int32.ofInt 18), .int (Int32.ofInt 0), .int (Int32.ofInt 0), .int (Int32.ofInt 0), .int (Int32.ofInt 0)]) (st := [.int (Int32.ofInt e1008)]) rfl rfl (d_word G Is1007 (by first | exact ⟨by decide, by decide⟩ | omega) (by first | exact ⟨by decide, by decide⟩ | omega) (by first | exact ⟨by decide, by decide⟩ | omega) (by first | exact ⟨by decide, by decide⟩ | omega) (by first | exact ⟨by decide, by decide⟩ | omega) (by first | exact ⟨by decide, by decide⟩ | omega) (fun q h => hti q ((by decide : ∀ q ∈ ([] : List Nat), q ∈ ([77, 75, 78, 79, 81] : List Nat)) q h)) (fun a h => hta a ((by decide : ∀ q ∈ ([] : List Nat), q ∈ ([157, 158, 161] : List Nat)) a h))) ⟨rfl, rfl⟩ ⟨(show 6 + 1 ≤ (12 + (24 + 3 * (r) + 2)) from oq_4491863e r), (show 8 + (mNL (miB 202) + 11) + 100 ≤ (500 + 45 * (24 + 3 * (r) + 2)) from oq_c822b081 r)⟩ (Nat.le_of_ble_eq_true rfl) (by decide) (by decide) (fun ee s1010 hq => ?_) (fun vv s1010 hq => ?_)))))))
        · obtain ⟨Is1010, Fs1010, e1011, hv, hrs1010, hps1010⟩ := hq; cases hv
        obtain ⟨Is1010, Fs1010, e1011, hv, hrs1010, hps1010⟩ := hq
        cases hv
        have Gs1010 := fm_tq Gs1007 Fs1010 rfl rfl
        have ws1010_77 : iI s1010 77 = iI s1007 77 := fm_iq Fs1010 rfl
        have ws1010_75 : iI s1010 75 = iI s1007 75 := fm_iq Fs1010 rfl
        have ws1010_79 : iI s1010 79 = iI s1007 79 := fm_iq Fs1010 rfl
        have ws1010_78 : iI s1010 78 = iI s1007 78 := fm_iq Fs1010 rfl
        show DS l s0 D A dT 212 (rkR (24 + 3 * (r) + 2)) [77, 79, 80, 78] [] (T) Q (T) 27 [(0, .ref (A 179)), (1, .int (Int32.ofInt v))] [.int (Int32.ofInt e1011), .int (Int32.ofInt e1008)] s1010
        refine d_br (bo_ne _ _) bx_ne (fun k ws X h1 h2 => z_icmp_ne X (t := 56) rfl (by decide) hrs1007 hrs1010 h1 h2) (fun g1012 => ?_) (fun g1012 => ?_)
        ·
          refine d_lvs (lv := [(0, .ref (A 179)), (1, .int (Int32.ofInt v))]) (List.forall_mem_cons.mpr ⟨(List.Mem.head _), (List.forall_mem_cons.mpr ⟨(List.Mem.tail _ (List.Mem.head _)), (fun q h => absurd h List.not_mem_nil)⟩)⟩) ?_
          exact kx _ v Is1010 Gs1010 (by first | exact ⟨oq_878618b1 ws1010_78 ws1007_78 hi.1, oq_6f31d0da ws1010_77 hi.2.1 hps1007.1, oq_4d38c61b ws1010_77 hps1007.2.1 b1002.2 hi.2.2.1 p0, oq_67b737cd g1006 hi.2.2.2.1 b3.1, oq_613e077a ws1010_77 hps1007.2.1 g1006 hi.2.2.2.2.2.2.1 hi.2.2.2.2.1, oq_f8cf8f83 ws1010_77 hps1007.1 hi.2.2.2.2.2.1 b3.1, oq_d0d2714e ws1010_75 hi.2.2.2.2.2.2.1 ws1007_75, hi.2.2.2.2.2.2.2⟩ | omega)
        ·
          refine d_lift (fun k ws X h => z_aload_n X (x := A 179) rfl (List.Mem.head _) h) (d_callV 179 (As := []) (st := []) rfl rfl (by decide) rfl (d_skipWord G Is1010 (by first | exact oq_853b39fa g1012 ws1010_77 hps1010 hps1007.2.2 b1002.2 | omega) (fun q h => hti q ((by decide : ∀ q ∈ ([77, 75, 78, 79, 81] : List Nat), q ∈ ([77, 75, 78, 79, 81] : List Nat)) q h)) (fun a h => hta a ((by decide : ∀ q ∈ ([157, 158, 161] : List Nat), q ∈ ([157, 158, 161] : List Nat)) a h))) ⟨rfl, rfl⟩ ⟨(show 7 + 1 ≤ (12 + (24 + 3 * (r) + 2)) from oq_9f278ef5 r), (show 8 + (mNL (miB 203) + 11) + 121 ≤ (500 + 45 * (24 + 3 * (r) + 2)) from oq_6c94e1da r)⟩ (Nat.le_of_ble_eq_true rfl) (by decide) (by decide) (fun ee s1013 hq => ?_) (fun vv s1013 hq => ?_))
          · obtain ⟨Is1013, Fs1013, hv, hps1013⟩ := hq; cases hv
          obtain ⟨Is1013, Fs1013, hv, hps1013⟩ := hq
          have hps1013p := hps1013.1
          cases hv
          have Gs1013 := fm_tq Gs1010 Fs1013 rfl rfl
          have b1015 := bi_77 Is1013
          have ws1013_75 : iI s1013 75 = iI s1010 75 := fm_iq Fs1013 rfl
          have ws1013_79 : iI s1013 79 = iI s1010 79 := fm_iq Fs1013 rfl
          have ws1013_78 : iI s1013 78 = iI s1010 78 := fm_iq Fs1013 rfl
          show DS l s0 D A dT 212 (rkR (24 + 3 * (r) + 2)) [77, 79, 80, 78] [] (T) Q (T) 34 [(0, .ref (A 179)), (1, .int (Int32.ofInt v))] [] s1013
          refine d_lift (fun k ws X h => z_aload_n X (x := A 179) rfl (List.Mem.head _) h) (d_callV 179 (As := []) (st := []) rfl rfl (by decide) rfl (hA Is1013 (by first | exact oq_aed112bd hps1013.2 g1012 ws1010_75 ws1010_77 hps1010 ws1007_75 hps1007.2.2 b1002.2 | omega) (by first | exact oq_c128dca8 ws1013_78 p1 ws1010_78 ws1007_78 hi.1 | omega) (by first | exact oq_022cbb1f ws1013_78 ws1010_78 ws1007_78 g1006 hi.2.2.2.1 hi.1 b3.1 p2 | omega) (by first | exact oq_7df43967 hps1013.2 g1012 ws1010_75 ws1010_77 hps1010 ws1007_75 hps1007.2.2 b1002.2 | omega) (fun q h => hti q ((by decide : ∀ q ∈ ([77, 75, 78, 79, 81] : List Nat), q ∈ ([77, 75, 78, 79, 81] : List Nat)) q h)) (fun a h => hta a ((by decide : ∀ q ∈ ([157, 158, 161] : List Nat), q ∈ ([157, 158, 161] : List Nat)) a h))) ⟨rfl, rfl⟩ ⟨(show (12 + (24 + 3 * (r) + 1)) + 1 ≤ (12 + (24 + 3 * (r) + 2)) from oq_137d3732 r), (show 8 + (mNL (miB 211) + 11) + (500 + 45 * (24 + 3 * (r) + 1)) ≤ (500 + 45 * (24 + 3 * (r) + 2)) from oq_58b847aa r)⟩ (Nat.le_of_ble_eq_true rfl) (by decide) (by decide) (fun ee s1016 hq => ?_) (fun vv s1016 hq => ?_))
          · obtain ⟨Is1016, Fs1016, e1017, hv, hrs1016, hps1016⟩ := hq; cases hv
          obtain ⟨Is1016, Fs1016, e1017, hv, hrs1016, hps1016⟩ := hq
          have hps1016p := And.intro hps1016.1 (hps1016.2.1)
          cases hv
          have Gs1016 := fm_tq Gs1013 Fs1016 rfl rfl
          have b1018 := bi_77 Is1016
          have ws1016_75 : iI s1016 75 = iI s1013 75 := fm_iq Fs1016 rfl
          have b1019 := bi_79 Is1016
          have b1020 := bi_78 Is1016
          show DS l s0 D A dT 212 (rkR (24 + 3 * (r) + 2)) [77, 79, 80, 78] [] (T) Q (T) 38 [(0, .ref (A 179)), (1, .int (Int32.ofInt v))] [.int (Int32.ofInt e1017)] s1016
          refine d_lift (fun k ws X h => z_store_n X (lv' := [(2, .int (Int32.ofInt e1017)), (0, .ref (A 179)), (1, .int (Int32.ofInt v))]) rfl (by decide) (fun _ h => h) h) (d_lift (fun k ws X h => z_load_n X (x := v) rfl (List.Mem.tail _ (List.Mem.tail _ (List.Mem.head _))) h) ?_)
          have N1021 : ∀ e1022 : Int, (((v ≠ 0) ∧ e1022 = 1) ∨ ((v = 0) ∧ (e1017 = 0) ∧ e1022 = 0) ∨ ((v = 0) ∧ (e1017 ≠ 0) ∧ e1022 = 1)) → DS l s0 D A dT 212 (rkR (24 + 3 * (r) + 2)) [77, 79, 80, 78] [] (T) Q (T) 52 [(2, .int (Int32.ofInt e1017)), (0, .ref (A 179)), (1, .int (Int32.ofInt v))] [.int (Int32.ofInt e1022)] s1016 := by
            intro e1022 he1022
            have re1022 : 0 ≤ e1022 ∧ e1022 ≤ 1 := by first | (clear he1022 hps1016 hps1013 hps1007 p3 p2; omega) | (clear hps1016 hps1013 hps1007 p3 p2; omega) | omega
            refine d_lift (fun k ws X h => z_store_n X (lv' := [(1, .int (Int32.ofInt e1022)), (2, .int (Int32.ofInt e1017)), (0, .ref (A 179))]) rfl (by decide) (fun _ h => h) h) (d_lift (fun k ws X h => z_goto X (t := 5) rfl (by decide) h) (d_lvs (lv := [(0, .ref (A 179)), (1, .int (Int32.ofInt e1022))]) (List.forall_mem_cons.mpr ⟨(List.Mem.tail _ (List.Mem.tail _ (List.Mem.head _))), (List.forall_mem_cons.mpr ⟨(List.Mem.head _), (fun q h => absurd h List.not_mem_nil)⟩)⟩) ?_))
            exact ih _ e1022 Is1016 Gs1016 (by first | exact ⟨oq_469c7eaf hps1016.1 ws1013_78 ws1010_78 ws1007_78 hi.1, oq_df567ab1 hps1016.2.1 hps1013.1 ws1010_77 hi.2.1 hps1007.1, oq_fe8590e8 hps1016.2.2.1 hps1013.2 g1012 ws1010_75 ws1010_77 hps1010 ws1007_75 hps1007.2.2 b1002.2, oq_67b737cd g1006 hi.2.2.2.1 b3.1, oq_0a04dc49 b1019.1 hps1016.2.2.2.2.1 ws1013_75 ws1010_75 ws1007_75 hi.2.2.2.2.2.2.1, oq_2a02c81e hps1016.2.2.2.2.2.1 ws1013_79 hps1013.1 ws1010_79 ws1010_77 ws1007_79 hps1007.1 g1006 hi.2.1, oq_b4d295d9 ws1016_75 hi.2.2.2.2.2.2.1 ws1013_75 ws1010_75 ws1007_75, oq_31e518ae re1022.2 re1022.1⟩ | omega) (by first | exact qk_me hm (oq_3d279f51 ws1016_75 hps1016.2.2.2.2.2.1 ws1013_79 ws1013_75 hps1013.1 ws1010_79 ws1010_75 ws1010_77 ws1007_79 ws1007_75 hps1007.1 g1006) (oq_32b967f2 g1012 hps1010 hps1007.2.2 hps1007.1) | omega) kx
          refine d_br (bo_ne _ _) bx_ne (fun k ws X h1 h2 => z_if_ne X (t := 47) rfl (by decide) ⟨by first | exact oq_bde653e9 hi.2.2.2.2.2.2.2 | omega, by first | exact oq_4ad2cb8b hi.2.2.2.2.2.2.2 | omega⟩ h1 h2) (fun g1023 => ?_) (fun g1023 => ?_)
          ·
            exact d_lift (fun k ws X h => z_const X rfl h) (d_lift (fun k ws X h => z_goto X (t := 52) rfl (by decide) h) (N1021 _ (Or.inl ⟨g1023, rfl⟩)))
          ·
            refine d_lift (fun k ws X h => z_load_n X (x := e1017) rfl (List.Mem.head _) h) (d_br (bo_eq _ _) bx_eq (fun k ws X h1 h2 => z_if_eq X (t := 51) rfl (by decide) hrs1016 h1 h2) (fun g1024 => ?_) (fun g1024 => ?_))
            ·
              exact d_lift (fun k ws X h => z_const X rfl h) (N1021 _ (Or.inr (Or.inl ⟨g1023, g1024, rfl⟩)))
            ·
              exact d_lift (fun k ws X h => z_const X rfl h) (d_lift (fun k ws X h => z_goto X (t := 52) rfl (by decide) h) (N1021 _ (Or.inr (Or.inr (⟨g1023, g1024, rfl⟩)))))
  refine d_lift (fun k ws X h => z_aload_n X (x := A 179) rfl (List.Mem.head _) h) (d_callV 179 (As := []) (st := []) rfl rfl (by decide) rfl (hA I (by first | exact p0 | omega) (by first | exact p1 | omega) (by first | exact p2 | omega) (by first | exact p3 | omega) (fun q h => hti q ((by decide : ∀ q ∈ ([77, 75, 78, 79, 81] : List Nat), q ∈ ([77, 75, 78, 79, 81] : List Nat)) q h)) (fun a h => hta a ((by decide : ∀ q ∈ ([157, 158, 161] : List Nat), q ∈ ([157, 158, 161] : List Nat)) a h))) ⟨rfl, rfl⟩ ⟨(show (12 + (24 + 3 * (r) + 1)) + 1 ≤ (12 + (24 + 3 * (r) + 2)) from oq_137d3732 r), (show 8 + (mNL (miB 211) + 11) + (500 + 45 * (24 + 3 * (r) + 1)) ≤ (500 + 45 * (24 + 3 * (r) + 2)) from oq_58b847aa r)⟩ (Nat.le_of_ble_eq_true rfl) (by decide) (by decide) (fun ee s5 hq => ?_) (fun vv s5 hq => ?_))
  · obtain ⟨Is5, Fs5, e6, hv, hrs5, hps5⟩ := hq; cases hv
  obtain ⟨Is5, Fs5, e6, hv, hrs5, hps5⟩ := hq
  have hps5p := And.intro hps5.1 (hps5.2.1)
  cases hv
  have Gs5 := fm_tq F Fs5 rfl rfl
  have b7 := bi_77 Is5
  have ws5_75 : iI s5 75 = iI s 75 := fm_iq Fs5 rfl
  have b8 := bi_79 Is5
  have b9 := bi_78 Is5
  show DS l s0 D A dT 212 (rkR (24 + 3 * (r) + 2)) [77, 79, 80, 78] [] (T) Q (T) 4 [(0, .ref (A 179))] [.int (Int32.ofInt e6)] s5
  refine d_lift (fun k ws X h => z_store_n X (lv' := [(1, .int (Int32.ofInt e6)), (0, .ref (A 179))]) rfl (by decide) (fun _ h => h) h) (d_lvs (lv := [(0, .ref (A 179)), (1, .int (Int32.ofInt e6))]) (List.forall_mem_cons.mpr ⟨(List.Mem.tail _ (List.Mem.head _)), (List.forall_mem_cons.mpr ⟨(List.Mem.head _), (fun q h => absurd h List.not_mem_nil)⟩)⟩) (L5 ((iI s5 75 - iI s5 77 : Int).toNat + 1) s5 e6 Is5 Gs5 (by first | exact ⟨hps5.1, hps5.2.1, hps5.2.2.1, hps5.2.2.2.1, hps5.2.2.2.2.1, hps5.2.2.2.2.2.1, ws5_75, hps5.2.2.2.2.2.2⟩ | omega) (Nat.lt_succ_self _) ?_))
  intro s10 x11 Is10 Fs10 hs10
  have b12 := bi_77 Is10
  have b13 := bi_75 Is10
  have b14 := bi_79 Is10
  have b15 := bi_78 Is10
  refine d_lift (fun k ws X h => z_load_n X (x := x11) rfl (List.Mem.tail _ (List.Mem.head _)) h) ?_
  exact d_iret rfl (nar_ret (by first | exact hs10.2.2.2.2.2.2.2 | omega)) (Or.inr rfl) rfl (fun _ h => h) (hQ _ _ ⟨Is10, Fs10, x11, rfl, ⟨by first | exact oq_bde653e9 hs10.2.2.2.2.2.2.2 | omega, by first | exact oq_4ad2cb8b hs10.2.2.2.2.2.2.2 | omega⟩, by first | exact ⟨hs10.1, hs10.2.1, hs10.2.2.1, hs10.2.2.2.1, hs10.2.2.2.2.1, hs10.2.2.2.2.2.1, hs10.2.2.2.2.2.2.2⟩ | omega⟩)
theorem d_orsr (G : GX l s0 D tys a0 dT) (r : Nat) : (∀ {s : PS} {T : TT}, Bd s → (iI s 77 ≤ 203) → (iI s 78 + ((r : Nat) : Int) = 7) → (iI s 78 = 7 → iI s 79 ≠ 0) → (iI s 79 = 0 → iI s 77 ≤ 202) → (∀ q ∈ ([77, 75, 78, 79, 81] : List Nat), T.1 q) → (∀ a ∈ ([157, 158, 161] : List Nat), ∀ j, j < (bA a).2.2 → T.2 a j) → CD l s0 D A dT 210 (rkR (24 + 3 * (r))) [77, 79, 80, 78] [] T T [.ref (A 179)] s (fun o t => Bd t ∧ Fm [77, 79, 80, 78] [] s t ∧ ∃ e, o = .inl (some (.int (Int32.ofInt e))) ∧ rng e ∧ (iI t 78 = iI s 78 ∧ iI s 77 ≤ iI t 77 ∧ (iI t 77 = iI s 77 ∨ iI t 77 ≤ 203) ∧ (iI s 79 ≠ 0 → iI t 79 ≠ 0) ∧ (iI t 79 = 0 → iI t 77 ≤ iI s 75) ∧ (iI s 79 = 0 → iI s 77 < iI t 77) ∧ (e = 0 ∨ e = 1)))) ∧ (∀ {s : PS} {T : TT}, Bd s → (iI s 77 ≤ 203) → (iI s 78 + ((r : Nat) : Int) = 7) → (iI s 78 = 7 → iI s 79 ≠ 0) → (iI s 79 = 0 → iI s 77 ≤ 202) → (∀ q ∈ ([77, 75, 78, 79, 81] : List Nat), T.1 q) → (∀ a ∈ ([157, 158, 161] : List Nat), ∀ j, j < (bA a).2.2 → T.2 a j) → CD l s0 D A dT 211 (rkR (24 + 3 * (r) + 1)) [77, 79, 80, 78] [] T T [.ref (A 179)] s (fun o t => Bd t ∧ Fm [77, 79, 80, 78] [] s t ∧ ∃ e, o = .inl (some (.int (Int32.ofInt e))) ∧ rng e ∧ (iI t 78 = iI s 78 ∧ iI s 77 ≤ iI t 77 ∧ (iI t 77 = iI s 77 ∨ iI t 77 ≤ 203) ∧ (iI s 79 ≠ 0 → iI t 79 ≠ 0) ∧ (iI t 79 = 0 → iI t 77 ≤ iI s 75) ∧ (iI s 79 = 0 → iI s 77 < iI t 77) ∧ (e = 0 ∨ e = 1)))) ∧ (∀ {s : PS} {T : TT}, Bd s → (iI s 77 ≤ 203) → (iI s 78 + ((r : Nat) : Int) = 7) → (iI s 78 = 7 → iI s 79 ≠ 0) → (iI s 79 = 0 → iI s 77 ≤ 202) → (∀ q ∈ ([77, 75, 78, 79, 81] : List Nat), T.1 q) → (∀ a ∈ ([157, 158, 161] : List Nat), ∀ j, j < (bA a).2.2 → T.2 a j) → CD l s0 D A dT 212 (rkR (24 + 3 * (r) + 2)) [77, 79, 80, 78] [] T T [.ref (A 179)] s (fun o t => Bd t ∧ Fm [77, 79, 80, 78] [] s t ∧ ∃ e, o = .inl (some (.int (Int32.ofInt e))) ∧ rng e ∧ (iI t 78 = iI s 78 ∧ iI s 77 ≤ iI t 77 ∧ (iI t 77 = iI s 77 ∨ iI t 77 ≤ 203) ∧ (iI s 79 ≠ 0 → iI t 79 ≠ 0) ∧ (iI t 79 = 0 → iI t 77 ≤ iI s 75) ∧ (iI s 79 = 0 → iI s 77 < iI t 77) ∧ (e = 0 ∨ e = 1)))) := by
  induction r with
  | zero =>
    have hU : ∀ {s : PS} {T : TT}, Bd s → (iI s 77 ≤ 203) → (iI s 78 + ((0 : Nat) : Int) = 7) → (iI s 78 = 7 → iI s 79 ≠ 0) → (iI s 79 = 0 → iI s 77 ≤ 202) → (∀ q ∈ ([77, 75, 78, 79, 81] : List Nat), T.1 q) → (∀ a ∈ ([157, 158, 161] : List Nat), ∀ j, j < (bA a).2.2 → T.2 a j) → CD l s0 D A dT 210 (rkR (24 + 3 * (0))) [77, 79, 80, 78] [] T T [.ref (A 179)] s (fun o t => Bd t ∧ Fm [77, 79, 80, 78] [] s t ∧ ∃ e, o = .inl (some (.int (Int32.ofInt e))) ∧ rng e ∧ (iI t 78 = iI s 78 ∧ iI s 77 ≤ iI t 77 ∧ (iI t 77 = iI s 77 ∨ iI t 77 ≤ 203) ∧ (iI s 79 ≠ 0 → iI t 79 ≠ 0) ∧ (iI t 79 = 0 → iI t 77 ≤ iI s 75) ∧ (iI s 79 = 0 → iI s 77 < iI t 77) ∧ (e = 0 ∨ e = 1))) := fun {_ _} I p0 p1 p2 p3 hti hta => d_test0 G I p0 p1 p2 p3 hti hta
    have hP : ∀ {s : PS} {T : TT}, Bd s → (iI s 77 ≤ 203) → (iI s 78 + ((0 : Nat) : Int) = 7) → (iI s 78 = 7 → iI s 79 ≠ 0) → (iI s 79 = 0 → iI s 77 ≤ 202) → (∀ q ∈ ([77, 75, 78, 79, 81] : List Nat), T.1 q) → (∀ a ∈ ([157, 158, 161] : List Nat), ∀ j, j < (bA a).2.2 → T.2 a j) → CD l s0 D A dT 211 (rkR (24 + 3 * (0) + 1)) [77, 79, 80, 78] [] T T [.ref (A 179)] s (fun o t => Bd t ∧ Fm [77, 79, 80, 78] [] s t ∧ ∃ e, o = .inl (some (.int (Int32.ofInt e))) ∧ rng e ∧ (iI t 78 = iI s 78 ∧ iI s 77 ≤ iI t 77 ∧ (iI t 77 = iI s 77 ∨ iI t 77 ≤ 203) ∧ (iI s 79 ≠ 0 → iI t 79 ≠ 0) ∧ (iI t 79 = 0 → iI t 77 ≤ iI s 75) ∧ (iI s 79 = 0 → iI s 77 < iI t 77) ∧ (e = 0 ∨ e = 1))) := fun {_ _} I p0 p1 p2 p3 hti hta => d_andsS G hU I p0 p1 p2 p3 hti hta
    exact ⟨hU, hP, fun {_ _} I p0 p1 p2 p3 hti hta => d_orsS G hP I p0 p1 p2 p3 hti hta⟩
  | succ r ih =>
    have hU : ∀ {s : PS} {T : TT}, Bd s → (iI s 77 ≤ 203) → (iI s 78 + ((r + 1 : Nat) : Int) = 7) → (iI s 78 = 7 → iI s 79 ≠ 0) → (iI s 79 = 0 → iI s 77 ≤ 202) → (∀ q ∈ ([77, 75, 78, 79, 81] : List Nat), T.1 q) → (∀ a ∈ ([157, 158, 161] : List Nat), ∀ j, j < (bA a).2.2 → T.2 a j) → CD l s0 D A dT 210 (rkR (24 + 3 * (r + 1))) [77, 79, 80, 78] [] T T [.ref (A 179)] s (fun o t => Bd t ∧ Fm [77, 79, 80, 78] [] s t ∧ ∃ e, o = .inl (some (.int (Int32.ofInt e))) ∧ rng e ∧ (iI t 78 = iI s 78 ∧ iI s 77 ≤ iI t 77 ∧ (iI t 77 = iI s 77 ∨ iI t 77 ≤ 203) ∧ (iI s 79 ≠ 0 → iI t 79 ≠ 0) ∧ (iI t 79 = 0 → iI t 77 ≤ iI s 75) ∧ (iI s 79 = 0 → iI s 77 < iI t 77) ∧ (e = 0 ∨ e = 1))) := fun {_ _} I p0 p1 p2 p3 hti hta => d_testS G ih.1 ih.2.2 I p0 p1 p2 p3 hti hta
    have hP : ∀ {s : PS} {T : TT}, Bd s → (iI s 77 ≤ 203) → (iI s 78 + ((r + 1 : Nat) : Int) = 7) → (iI s 78 = 7 → iI s 79 ≠ 0) → (iI s 79 = 0 → iI s 77 ≤ 202) → (∀ q ∈ ([77, 75, 78, 79, 81] : List Nat), T.1 q) → (∀ a ∈ ([157, 158, 161] : List Nat), ∀ j, j < (bA a).2.2 → T.2 a j) → CD l s0 D A dT 211 (rkR (24 + 3 * (r + 1) + 1)) [77, 79, 80, 78] [] T T [.ref (A 179)] s (fun o t => Bd t ∧ Fm [77, 79, 80, 78] [] s t ∧ ∃ e, o = .inl (some (.int (Int32.ofInt e))) ∧ rng e ∧ (iI t 78 = iI s 78 ∧ iI s 77 ≤ iI t 77 ∧ (iI t 77 = iI s 77 ∨ iI t 77 ≤ 203) ∧ (iI s 79 ≠ 0 → iI t 79 ≠ 0) ∧ (iI t 79 = 0 → iI t 77 ≤ iI s 75) ∧ (iI s 79 = 0 → iI s 77 < iI t 77) ∧ (e = 0 ∨ e = 1))) := fun {_ _} I p0 p1 p2 p3 hti hta => d_andsS G hU I p0 p1 p2 p3 hti hta
    exact ⟨hU, hP, fun {_ _} I p0 p1 p2 p3 hti hta => d_orsS G hP I p0 p1 p2 p3 hti hta⟩
end M44
