section
theorem oq_a49e6adf {a0 a1 : Int} (h0 : a0 ≠ 0) (h1 : 0 ≤ a0) : (a0 = 0 → a1 < a1) := by omega
theorem oq_886c3d04 {a0 a1 : Int} (h0 : (a0 = a1 ∨ a0 ≤ 202)) (h1 : a1 ≤ 203) : (a0 + 1) ≤ 400 := by omega
theorem oq_bc84bd0b {a0 a1 a2 a3 : Int} (h0 : a0 = (a1 + 1)) (h1 : a2 = 0) (h2 : (a1 = a3 ∨ a1 ≤ 202)) (h3 : (a2 = 0 → a3 ≤ 202)) : a0 ≤ 203 := by omega
theorem oq_82f073b0 {a0 a1 a2 : Int} {n3 : Nat} (h0 : a0 = a1) (h1 : (a2 + (((n3 + 1) : Nat) : Int)) = 7) (h2 : a1 = a2) : (a0 + (((n3 + 1) : Nat) : Int)) = 7 := by omega
theorem oq_4d33fe7c {a0 a1 a2 a3 a4 : Int} (h0 : a0 = a1) (h1 : a2 = 0) (h2 : a1 = a3) (h3 : (a3 = 7 → a2 ≠ 0)) : (a0 = 7 → a4 ≠ 0) := by omega
theorem oq_78548c36 (r : Nat) : (12 + (3 * (r + 1) + 2)) + 1 ≤ (12 + (24 + 3 * (r + 1))) := by omega
theorem oq_7957a5e4 (r : Nat) : 8 + (4 + 11) + (500 + 45 * (3 * (r + 1) + 2)) ≤ (500 + 45 * (24 + 3 * (r + 1))) := by omega
theorem oq_ed635da4 {a0 a1 a2 a3 : Int} (h0 : a0 ≤ a1) (h1 : a0 = (a2 + 1)) (h2 : a3 ≤ a2) : a3 ≤ a1 := by omega
theorem oq_300ee640 {a0 a1 a2 a3 a4 : Int} (h0 : (a0 = a1 ∨ a0 ≤ 202)) (h1 : a1 = (a2 + 1)) (h2 : a3 = 0) (h3 : (a2 = a4 ∨ a2 ≤ 202)) (h4 : (a3 = 0 → a4 ≤ 202)) : (a0 = a4 ∨ a0 ≤ 203) := by omega
theorem oq_70dd041d {a0 a1 a2 a3 a4 : Int} (h0 : 0 ≤ a0) (h1 : (a0 = 0 → a1 ≤ a2)) (h2 : a2 = a3) (h3 : a3 = a4) : (a0 = 0 → a1 ≤ a4) := by omega
theorem oq_bed11c68 {a0 a1 a2 a3 a4 : Int} (h0 : a0 ≤ a1) (h1 : a0 = (a2 + 1)) (h2 : a3 ≤ a2) : (a4 = 0 → a3 < a1) := by omega
theorem oq_36eaf53c (r : Nat) : 7 + 1 ≤ (12 + (24 + 3 * (r + 1))) := by omega
theorem oq_a27e1a18 (r : Nat) : 8 + (1 + 11) + 121 ≤ (500 + 45 * (24 + 3 * (r + 1))) := by omega
theorem oq_51b017a3 (r : Nat) : 6 + 1 ≤ (12 + (24 + 3 * (r + 1))) := by omega
theorem oq_e45c9306 (r : Nat) : 8 + (2 + 11) + 100 ≤ (500 + 45 * (24 + 3 * (r + 1))) := by omega
theorem oq_948351f9 {a0 a1 a2 a3 a4 a5 : Int} (h0 : a0 = 60) (h1 : a1 = a2) (h2 : ((a3 ≤ a2 ∧ a0 = (-1)) ∨ (a2 < a3 ∧ (0 ≤ a0 ∧ a0 ≤ 255)))) (h3 : a3 = a4) (h4 : a4 ≤ 200) : (a1 = a5 ∨ a1 ≤ 202) := by omega
theorem oq_26d29cd1 {a0 a1 a2 a3 a4 a5 a6 : Int} (h0 : a0 = 60) (h1 : a1 = a2) (h2 : ((a3 ≤ a2 ∧ a0 = (-1)) ∨ (a2 < a3 ∧ (0 ≤ a0 ∧ a0 ≤ 255)))) (h3 : a3 = a4) (h4 : a4 = a5) : (a6 = 0 → a1 ≤ a5) := by omega
theorem oq_48ee4ea2 {a0 : Int} (h0 : a0 = 60) : (-1) ≤ a0 := by omega
theorem oq_dd8e5557 {a0 : Int} (h0 : a0 = 60) : a0 ≤ 255 := by omega
theorem oq_754fcaa6 {a0 a1 a2 a3 a4 a5 : Int} (h0 : a0 = 62) (h1 : a1 = a2) (h2 : ((a3 ≤ a2 ∧ a0 = (-1)) ∨ (a2 < a3 ∧ (0 ≤ a0 ∧ a0 ≤ 255)))) (h3 : a3 = a4) (h4 : a4 ≤ 200) : (a1 = a5 ∨ a1 ≤ 202) := by omega
theorem oq_20e35830 {a0 a1 a2 a3 a4 a5 a6 : Int} (h0 : a0 = 62) (h1 : a1 = a2) (h2 : ((a3 ≤ a2 ∧ a0 = (-1)) ∨ (a2 < a3 ∧ (0 ≤ a0 ∧ a0 ≤ 255)))) (h3 : a3 = a4) (h4 : a4 = a5) : (a6 = 0 → a1 ≤ a5) := by omega
theorem oq_1aa2d2e5 {a0 : Int} (h0 : a0 = 62) : (-1) ≤ a0 := by omega
theorem oq_68b13569 {a0 : Int} (h0 : a0 = 62) : a0 ≤ 255 := by omega
theorem oq_7afbd850 {a0 a1 a2 a3 a4 a5 : Int} (h0 : a0 = 61) (h1 : a1 = a2) (h2 : ((a3 ≤ a2 ∧ a0 = (-1)) ∨ (a2 < a3 ∧ (0 ≤ a0 ∧ a0 ≤ 255)))) (h3 : a3 = a4) (h4 : a4 ≤ 200) : (a1 = a5 ∨ a1 ≤ 202) := by omega
theorem oq_1142ea38 {a0 a1 a2 a3 a4 a5 a6 : Int} (h0 : a0 = 61) (h1 : a1 = a2) (h2 : ((a3 ≤ a2 ∧ a0 = (-1)) ∨ (a2 < a3 ∧ (0 ≤ a0 ∧ a0 ≤ 255)))) (h3 : a3 = a4) (h4 : a4 = a5) : (a6 = 0 → a1 ≤ a5) := by omega
theorem oq_3f06b504 {a0 : Int} (h0 : a0 = 61) : (-1) ≤ a0 := by omega
theorem oq_83a663bc {a0 : Int} (h0 : a0 = 61) : a0 ≤ 255 := by omega
theorem oq_53e0fa7a (r : Nat) : 8 + (3 + 11) + 100 ≤ (500 + 45 * (24 + 3 * (r + 1))) := by omega
theorem oq_47a75eb0 {a0 a1 a2 : Int} (h0 : ((a0 ≤ a1 ∧ a2 = (-1)) ∨ (a1 < a0 ∧ (0 ≤ a2 ∧ a2 ≤ 255)))) : (-1) ≤ a2 := by omega
theorem oq_47d561e4 {a0 a1 a2 : Int} (h0 : ((a0 ≤ a1 ∧ a2 = (-1)) ∨ (a1 < a0 ∧ (0 ≤ a2 ∧ a2 ≤ 255)))) : a2 ≤ 255 := by omega
theorem oq_91dbadf4 (r : Nat) : 8 + 1 ≤ (12 + (24 + 3 * (r + 1))) := by omega
theorem oq_2d8c6e6c (r : Nat) : 8 + (3 + 11) + 141 ≤ (500 + 45 * (24 + 3 * (r + 1))) := by omega
theorem oq_22dfea8e (r : Nat) : 8 + (7 + 11) + 100 ≤ (500 + 45 * (24 + 3 * (r + 1))) := by omega
theorem oq_f296b76d {a0 a1 a2 a3 a4 : Int} (h0 : a0 = a1) (h1 : a1 = a2) (h2 : (a2 = a3 ∨ a2 ≤ a4)) (h3 : a4 ≤ 200) (h4 : a3 ≤ 203) : a0 ≤ 203 := by omega
theorem oq_f71ce2a5 {a0 a1 a2 a4 : Int} {n3 : Nat} (h0 : a0 = a1) (h1 : (a2 + (((n3 + 1) : Nat) : Int)) = 7) (h2 : a1 = a4) (h3 : a4 = a2) : (a0 + (((n3 + 1) : Nat) : Int)) = 7 := by omega
theorem oq_f1a73c9d {a0 a1 a2 a3 a4 a5 : Int} (h0 : a0 = a1) (h1 : a1 = a2) (h2 : a2 = a3) (h3 : a4 = 0) (h4 : (a3 = 7 → a4 ≠ 0)) : (a0 = 7 → a5 ≠ 0) := by omega
theorem oq_904c728b {a0 a1 a2 a3 a4 : Int} (h0 : a0 ≤ a1) (h1 : a0 = a2) (h2 : a3 ≤ a4) (h3 : a2 = a4) : a3 ≤ a1 := by omega
theorem oq_1659f388 {a0 a1 a2 a3 a4 a5 : Int} (h0 : (a0 = a1 ∨ a0 ≤ 202)) (h1 : a1 = a2) (h2 : a2 = a3) (h3 : (a3 = a4 ∨ a3 ≤ a5)) (h4 : a5 ≤ 200) (h5 : a4 ≤ 203) : (a0 = a4 ∨ a0 ≤ 202) := by omega
theorem oq_cfa0a9a6 {a0 a1 a2 a3 a4 a5 : Int} (h0 : 0 ≤ a0) (h1 : (a0 = 0 → a1 ≤ a2)) (h2 : a2 = a3) (h3 : a3 = a4) (h4 : a4 = a5) : (a0 = 0 → a1 ≤ a5) := by omega
theorem oq_06057f8f {a0 a1 a2 a3 a4 a5 : Int} (h0 : a0 = 91) (h1 : a1 = a2) (h2 : ((a3 ≤ a2 ∧ a0 = (-1)) ∨ (a2 < a3 ∧ (0 ≤ a0 ∧ a0 ≤ 255)))) (h3 : a3 = a4) (h4 : a4 = a5) (h5 : a5 ≤ 200) : a1 ≤ 380 := by omega
theorem oq_2520a5c5 (r : Nat) : 8 + (2 + 11) + 122 ≤ (500 + 45 * (24 + 3 * (r + 1))) := by omega
theorem oq_abf741e9 {a0 a1 a2 a3 a4 a5 a6 : Int} (h0 : a0 = (a1 + 1)) (h1 : a2 = 91) (h2 : a1 = a3) (h3 : ((a4 ≤ a3 ∧ a2 = (-1)) ∨ (a3 < a4 ∧ (0 ≤ a2 ∧ a2 ≤ 255)))) (h4 : a4 = a5) (h5 : a5 = a6) (h6 : a6 ≤ 200) : a0 ≤ 203 := by omega
theorem oq_f5a67a2f {a0 a1 a2 a3 a4 a5 a6 a7 : Int} (h0 : a0 = (a1 + 1)) (h1 : a2 = 91) (h2 : a1 = a3) (h3 : ((a4 ≤ a3 ∧ a2 = (-1)) ∨ (a3 < a4 ∧ (0 ≤ a2 ∧ a2 ≤ 255)))) (h4 : a4 = a5) (h5 : a5 = a6) (h6 : a6 ≤ 200) : (a7 = 0 → a0 ≤ 202) := by omega
theorem oq_853f7f04 (r : Nat) : (12 + (24 + 3 * (r) + 2)) + 1 ≤ (12 + (24 + 3 * (r + 1))) := by omega
theorem oq_4ce40754 (r : Nat) : 8 + (3 + 11) + (500 + 45 * (24 + 3 * (r) + 2)) ≤ (500 + 45 * (24 + 3 * (r + 1))) := by omega
theorem oq_b8da2b9d {a0 a1 a2 a3 a4 a5 a6 a7 : Int} (h0 : (a0 = a1 ∨ a0 ≤ 203)) (h1 : a1 = (a2 + 1)) (h2 : a3 = 91) (h3 : a2 = a4) (h4 : ((a5 ≤ a4 ∧ a3 = (-1)) ∨ (a4 < a5 ∧ (0 ≤ a3 ∧ a3 ≤ 255)))) (h5 : a5 = a6) (h6 : a6 = a7) (h7 : a7 ≤ 200) : a0 ≤ 380 := by omega
theorem oq_da5feea9 (r : Nat) : 8 + (2 + 11) + 141 ≤ (500 + 45 * (24 + 3 * (r + 1))) := by omega
theorem oq_534c96f9 {a0 a1 a2 a3 a4 a5 a6 : Int} (h0 : a0 = a1) (h1 : a1 = a2) (h2 : a2 = (a3 + 1)) (h3 : a3 = a4) (h4 : a4 = a5) (h5 : a5 = a6) (h6 : 0 ≤ a6) : 0 ≤ (a0 - 1) := by omega
theorem oq_9391e35d {a0 a1 a2 a3 a4 a5 a6 a7 : Int} (h0 : a0 = (a1 - 1)) (h1 : a1 = a2) (h2 : a2 = a3) (h3 : a3 = (a4 + 1)) (h4 : a4 = a5) (h5 : a5 = a6) (h6 : a6 = a7) : a0 = a7 := by omega
theorem oq_35525f1f {a0 a1 a2 a3 a4 a5 a6 a7 : Int} (h0 : a0 = a1) (h1 : a2 ≤ a1) (h2 : a3 ≤ a2) (h3 : a3 = (a4 + 1)) (h4 : a4 = a5) (h5 : a5 = a6) (h6 : a7 ≤ a6) : a7 ≤ a0 := by omega
theorem oq_c0a6dc61 {a0 a1 a2 a3 a4 a5 a6 a7 a8 a9 a10 a11 a12 a13 : Int} (h0 : a0 = a1) (h1 : (a1 = a2 ∨ a1 ≤ a3)) (h2 : a3 = a4) (h3 : (a2 = a5 ∨ a2 ≤ 203)) (h4 : a4 = a6) (h5 : a5 = (a7 + 1)) (h6 : a8 = 91) (h7 : a6 = a9) (h8 : a7 = a10) (h9 : ((a9 ≤ a10 ∧ a8 = (-1)) ∨ (a10 < a9 ∧ (0 ≤ a8 ∧ a8 ≤ 255)))) (h10 : a9 = a11) (h11 : a11 = a12) (h12 : a12 ≤ 200) : (a0 = a13 ∨ a0 ≤ 203) := by omega
theorem oq_9a0e9129 {a0 a1 a2 a3 a4 a5 a6 a7 a8 a9 a10 : Int} (h0 : a0 = a1) (h1 : a2 = a3) (h2 : 0 ≤ a1) (h3 : (a1 = 0 → (a4 < a3 ∧ a3 ≤ a5))) (h4 : (a3 = a4 ∨ a3 ≤ a5)) (h5 : a5 = a6) (h6 : a6 = a7) (h7 : a7 = a8) (h8 : a8 = a9) (h9 : a9 = a10) : (a0 = 0 → a2 ≤ a10) := by omega
theorem oq_196cd904 {a0 a1 a2 a3 a4 a5 a6 a7 a8 : Int} (h0 : a0 = a1) (h1 : a2 ≤ a1) (h2 : a3 ≤ a2) (h3 : a3 = (a4 + 1)) (h4 : a4 = a5) (h5 : a5 = a6) (h6 : a7 ≤ a6) : (a8 = 0 → a7 < a0) := by omega
theorem oq_69c1a7bc {a0 a1 a2 a3 a4 : Int} (h0 : a0 = a1) (h1 : a2 = a3) (h2 : 1 ≤ a1) (h3 : (a0 ≠ 0 → a3 < a4)) (h4 : a4 ≤ 200) : a2 ≤ 380 := by omega
theorem oq_fb308048 {a0 a1 a2 a3 a4 a5 : Int} (h0 : a0 = (a1 + 3)) (h1 : a2 = a3) (h2 : a1 = a4) (h3 : 1 ≤ a3) (h4 : (a2 ≠ 0 → a4 < a5)) (h5 : a5 ≤ 200) : a0 ≤ 203 := by omega
theorem oq_e6a9dcd2 {a0 a2 a3 a4 : Int} {n1 : Nat} (h0 : (a0 + (((n1 + 1) : Nat) : Int)) = 7) (h1 : a2 = (a3 + 1)) (h2 : a3 = a4) (h3 : a4 = a0) : (a2 + ((n1 : Nat) : Int)) = 7 := by omega
theorem oq_f26382f6 {a0 a1 a2 a3 a4 a5 a6 : Int} (h0 : a0 = (a1 + 3)) (h1 : a2 = a3) (h2 : a1 = a4) (h3 : 1 ≤ a3) (h4 : (a2 ≠ 0 → a4 < a5)) (h5 : a5 ≤ 200) : (a6 = 0 → a0 ≤ 202) := by omega
theorem oq_02269255 (r : Nat) : (12 + (24 + 3 * (r))) + 1 ≤ (12 + (24 + 3 * (r + 1))) := by omega
theorem oq_bcf847ad (r : Nat) : 8 + (4 + 11) + (500 + 45 * (24 + 3 * (r))) ≤ (500 + 45 * (24 + 3 * (r + 1))) := by omega
theorem oq_4cec3bfa {a0 a1 a2 a3 a4 : Int} (h0 : a0 = a1) (h1 : a1 = (a2 + 1)) (h2 : a2 = a3) (h3 : a3 = a4) (h4 : 0 ≤ a4) : 0 ≤ (a0 - 1) := by omega
theorem oq_78ade64d {a0 a1 : Int} (h0 : a0 ≤ 1) (h1 : 0 ≤ a0) (h2 : ((a1 ≠ 0 ∧ a0 = 0) ∨ (a1 = 0 ∧ a0 = 1))) : (a0 = 0 ∨ a0 = 1) := by omega
theorem oq_2ae1798d {a0 a1 a2 a3 a4 a5 : Int} (h0 : a0 = (a1 - 1)) (h1 : a2 = a3) (h2 : a4 = a2) (h3 : a5 = (a4 + 1)) (h4 : a1 = a5) : a0 = a3 := by omega
theorem oq_ebda117e {a0 a1 a2 a3 a4 a5 : Int} (h0 : a0 = a1) (h1 : a2 ≤ a3) (h2 : a4 = a3) (h3 : a5 = (a4 + 3)) (h4 : a5 ≤ a1) : a2 ≤ a0 := by omega
theorem oq_db6a6d1e {a0 a1 a2 a3 a4 a5 a6 a7 a8 : Int} (h0 : a0 = a1) (h1 : (a1 = a2 ∨ a1 ≤ 203)) (h2 : a2 = (a3 + 3)) (h3 : a4 = a5) (h4 : a3 = a6) (h5 : 1 ≤ a5) (h6 : (a4 ≠ 0 → a6 < a7)) (h7 : a7 ≤ 200) : (a0 = a8 ∨ a0 ≤ 203) := by omega
theorem oq_97db85d0 {a0 a1 a2 a3 a4 a5 a6 a7 : Int} (h0 : a0 = a1) (h1 : a2 = a3) (h2 : 0 ≤ a1) (h3 : (a1 = 0 → a3 ≤ a4)) (h4 : a4 = a5) (h5 : a5 = a6) (h6 : a6 = a7) : (a0 = 0 → a2 ≤ a7) := by omega
theorem oq_4fd60e17 {a0 a1 a2 a3 a4 a5 a6 : Int} (h0 : a0 = a1) (h1 : a2 ≤ a1) (h2 : a2 = (a3 + 3)) (h3 : a3 = a4) (h4 : a5 ≤ a4) : (a6 = 0 → a5 < a0) := by omega
theorem oq_179d6548 {a0 a1 : Int} (h0 : (a0 = a1 ∨ a0 ≤ 203)) (h1 : a1 ≤ 203) : a0 ≤ 390 := by omega
theorem oq_39e70b4f (r : Nat) : 8 + 1 ≤ (12 + (24 + 3 * (r) + 1)) := by omega
theorem oq_c22861ba (r : Nat) : 8 + (3 + 11) + 141 ≤ (500 + 45 * (24 + 3 * (r) + 1)) := by omega
theorem oq_daac07eb (r : Nat) : 6 + 1 ≤ (12 + (24 + 3 * (r) + 1)) := by omega
theorem oq_40ed5dd2 (r : Nat) : 8 + (7 + 11) + 100 ≤ (500 + 45 * (24 + 3 * (r) + 1)) := by omega
theorem oq_4d38c61b {a0 a1 a2 a3 a4 : Int} (h0 : a0 = a1) (h1 : (a1 = a2 ∨ a1 ≤ a3)) (h2 : a3 ≤ 200) (h3 : (a2 = a4 ∨ a2 ≤ 203)) (h4 : a4 ≤ 203) : (a0 = a4 ∨ a0 ≤ 203) := by omega
theorem oq_613e077a {a0 a1 a2 a3 a4 a5 a6 : Int} (h0 : a0 = a1) (h1 : (a1 = a2 ∨ a1 ≤ a3)) (h2 : a4 = 0) (h3 : a3 = a5) (h4 : (a4 = 0 → a2 ≤ a5)) : (a6 = 0 → a0 ≤ a5) := by omega
theorem oq_f8cf8f83 {a0 a1 a2 a3 a4 : Int} (h0 : a0 = a1) (h1 : a2 ≤ a1) (h2 : (a3 = 0 → a4 < a2)) (h3 : 0 ≤ a3) : (a3 = 0 → a4 < a0) := by omega
theorem oq_853b39fa {a0 a1 a2 a3 a4 : Int} (h0 : a0 = a1) (h1 : a2 = a3) (h2 : 1 ≤ a1) (h3 : (a0 ≠ 0 → a3 < a4)) (h4 : a4 ≤ 200) : a2 ≤ 390 := by omega
theorem oq_ede76fc4 (r : Nat) : 7 + 1 ≤ (12 + (24 + 3 * (r) + 1)) := by omega
theorem oq_71ab51d5 (r : Nat) : 8 + (1 + 11) + 121 ≤ (500 + 45 * (24 + 3 * (r) + 1)) := by omega
theorem oq_aed112bd {a0 a1 a2 a3 a4 a5 a6 a7 : Int} (h0 : (a0 = a1 ∨ a0 ≤ a2)) (h1 : a3 = a4) (h2 : a2 = a5) (h3 : a1 = a6) (h4 : 1 ≤ a4) (h5 : a5 = a7) (h6 : (a3 ≠ 0 → a6 < a7)) (h7 : a7 ≤ 200) : a0 ≤ 203 := by omega
theorem oq_7df43967 {a0 a1 a2 a3 a4 a5 a6 a7 a8 : Int} (h0 : (a0 = a1 ∨ a0 ≤ a2)) (h1 : a3 = a4) (h2 : a2 = a5) (h3 : a1 = a6) (h4 : 1 ≤ a4) (h5 : a5 = a7) (h6 : (a3 ≠ 0 → a6 < a7)) (h7 : a7 ≤ 200) : (a8 = 0 → a0 ≤ 202) := by omega
theorem oq_03e50da9 (r : Nat) : (12 + (24 + 3 * (r))) + 1 ≤ (12 + (24 + 3 * (r) + 1)) := by omega
theorem oq_cc4dfda7 (r : Nat) : 8 + (4 + 11) + (500 + 45 * (24 + 3 * (r))) ≤ (500 + 45 * (24 + 3 * (r) + 1)) := by omega
theorem oq_469c7eaf {a0 a1 a2 a3 a4 a5 : Int} (h0 : a0 = a1) (h1 : a1 = a2) (h2 : a2 = a3) (h3 : a3 = a4) (h4 : a4 = a5) : a0 = a5 := by omega
theorem oq_df567ab1 {a0 a1 a2 a3 a4 a5 : Int} (h0 : a0 ≤ a1) (h1 : a2 ≤ a0) (h2 : a2 = a3) (h3 : a4 ≤ a5) (h4 : a5 ≤ a3) : a4 ≤ a1 := by omega
theorem oq_fe8590e8 {a0 a1 a2 a3 a4 a5 a6 a7 a8 a9 : Int} (h0 : (a0 = a1 ∨ a0 ≤ 203)) (h1 : (a1 = a2 ∨ a1 ≤ a3)) (h2 : a4 = a5) (h3 : a3 = a6) (h4 : a2 = a7) (h5 : 1 ≤ a5) (h6 : a6 = a8) (h7 : (a4 ≠ 0 → a7 < a8)) (h8 : a8 ≤ 200) : (a0 = a9 ∨ a0 ≤ 203) := by omega
theorem oq_0a04dc49 {a0 a1 a2 a3 a4 a5 a6 : Int} (h0 : 0 ≤ a0) (h1 : (a0 = 0 → a1 ≤ a2)) (h2 : a2 = a3) (h3 : a3 = a4) (h4 : a4 = a5) (h5 : a5 = a6) : (a0 = 0 → a1 ≤ a6) := by omega
theorem oq_2a02c81e {a0 a1 a2 a3 a4 a5 a6 a7 a8 a9 a10 : Int} (h0 : (a0 = 0 → a1 < a2)) (h1 : a0 = a3) (h2 : a4 ≤ a1) (h3 : a3 = a5) (h4 : a4 = a6) (h5 : a5 = a7) (h6 : a8 ≤ a6) (h7 : a7 = 0) (h8 : a9 ≤ a8) : (a10 = 0 → a9 < a2) := by omega
theorem oq_3d279f51 {a0 a1 a2 a3 a4 a5 a6 a7 a8 a9 a10 a11 a12 a13 : Int} (h0 : a0 = a1) (h1 : (a2 = 0 → a3 < a4)) (h2 : a2 = a5) (h3 : a1 = a6) (h4 : a7 ≤ a3) (h5 : a5 = a8) (h6 : a6 = a9) (h7 : a7 = a10) (h8 : a8 = a11) (h9 : a9 = a12) (h10 : a13 ≤ a10) (h11 : a11 = 0) : (a0 - a4) < (a12 - a13) := by omega
theorem oq_32b967f2 {a0 a1 a2 a3 a4 : Int} (h0 : a0 = a1) (h1 : 1 ≤ a1) (h2 : (a0 ≠ 0 → a2 < a3)) (h3 : a4 ≤ a2) : 0 < (a3 - a4) := by omega
theorem oq_b9f2246e (r : Nat) : 8 + 1 ≤ (12 + (24 + 3 * (r) + 2)) := by omega
theorem oq_ae9e04d0 (r : Nat) : 8 + (3 + 11) + 141 ≤ (500 + 45 * (24 + 3 * (r) + 2)) := by omega
theorem oq_4491863e (r : Nat) : 6 + 1 ≤ (12 + (24 + 3 * (r) + 2)) := by omega
theorem oq_c822b081 (r : Nat) : 8 + (7 + 11) + 100 ≤ (500 + 45 * (24 + 3 * (r) + 2)) := by omega
theorem oq_9f278ef5 (r : Nat) : 7 + 1 ≤ (12 + (24 + 3 * (r) + 2)) := by omega
theorem oq_6c94e1da (r : Nat) : 8 + (1 + 11) + 121 ≤ (500 + 45 * (24 + 3 * (r) + 2)) := by omega
theorem oq_137d3732 (r : Nat) : (12 + (24 + 3 * (r) + 1)) + 1 ≤ (12 + (24 + 3 * (r) + 2)) := by omega
theorem oq_58b847aa (r : Nat) : 8 + (3 + 11) + (500 + 45 * (24 + 3 * (r) + 1)) ≤ (500 + 45 * (24 + 3 * (r) + 2)) := by omega
/-! Determined: tests -/
section M44
variable {l : Launch} {s0 : State} {D : va_G} {tys : List (ClassId × FieldType)} {a0 : Array Value} {A : Nat → Nat} {dT : Nat → ClassId} {s : PS}
set_option maxHeartbeats 16000000 in
theorem d_test0 (G : GX l s0 D tys a0 dT) (I : Bd s) (p0 : iI s 77 ≤ 203) (p1 : iI s 78 + ((0 : Nat) : Int) = 7) (p2 : iI s 78 = 7 → iI s 79 ≠ 0) (p3 : iI s 79 = 0 → iI s 77 ≤ 202) {T : TT} (hti : ∀ q ∈ ([77, 75, 78, 79, 81] : List Nat), T.1 q) (hta : ∀ a ∈ ([157, 158, 161] : List Nat), ∀ j, j < (bA a).2.2 → T.2 a j) : CD l s0 D A dT 210 (rkR (24 + 3 * (0))) [77, 79, 80, 78] [] T (T) [.ref (A 179)] s (fun o t => Bd t ∧ Fm [77, 79, 80, 78] [] s t ∧ ∃ e, o = .inl (some (.int (Int32.ofInt e))) ∧ rng e ∧ (iI t 78 = iI s 78 ∧ iI s 77 ≤ iI t 77 ∧ (iI t 77 = iI s 77 ∨ iI t 77 ≤ 203) ∧ (iI s 79 ≠ 0 → iI t 79 ≠ 0) ∧ (iI t 79 = 0 → iI t 77 ≤ iI s 75) ∧ (iI s 79 = 0 → iI s 77 < iI t 77) ∧ (e = 0 ∨ e = 1))) := by
  refine cd_of G (by decide) (Nat.le_of_ble_eq_true rfl) (fun Q hQ => ?_)
  have I0 := I
  show DS l s0 D A dT 210 (rkR (24 + 3 * (0))) [77, 79, 80, 78] [] (T) Q (T) 0 [(0, .ref (A 179))] [] s
  have F : Fm [77, 79, 80, 78] [] s s := fm_rf _ _ s
  have b1 := bi_77 I
  have b2 := bi_75 I
  have b3 := bi_79 I
  have b4 := bi_78 I
  refine d_lift (fun k ws X h => z_aload_n X (x := A 179) rfl (List.Mem.head _) h) (d_getI 179 rfl (by decide) rfl rfl (hti 79 (by decide)) ?_)
  have b5 := bi_79 I
  refine d_br (bo_eq _ _) bx_eq (fun k ws X h1 h2 => z_if_eq X (t := 9) rfl (by decide) (rng_to _) h1 h2) (fun g6 => ?_) (fun g6 => ?_)
  ·
    exfalso
    omega
  ·
    refine d_lift (fun k ws X h => z_const X rfl h) ?_
    exact d_iret rfl (nar_ret (by first | exact Or.inl (by decide) | omega)) (Or.inr rfl) rfl (fun _ h => h) (hQ _ _ ⟨I, F, 0, rfl, (by decide), by first | exact ⟨by decide, by decide, Or.inl (by decide), oq_4bed1c3e g6 b5.1, oq_6a3c9b31 g6 b5.1, oq_a49e6adf g6 b5.1, Or.inl (by decide)⟩ | omega⟩)
set_option maxHeartbeats 16000000 in
theorem d_testS (G : GX l s0 D tys a0 dT) {r : Nat} (hT : ∀ {s : PS} {T : TT}, Bd s → (iI s 77 ≤ 203) → (iI s 78 + ((r : Nat) : Int) = 7) → (iI s 78 = 7 → iI s 79 ≠ 0) → (iI s 79 = 0 → iI s 77 ≤ 202) → (∀ q ∈ ([77, 75, 78, 79, 81] : List Nat), T.1 q) → (∀ a ∈ ([157, 158, 161] : List Nat), ∀ j, j < (bA a).2.2 → T.2 a j) → CD l s0 D A dT 210 (rkR (24 + 3 * (r))) [77, 79, 80, 78] [] T T [.ref (A 179)] s (fun o t => Bd t ∧ Fm [77, 79, 80, 78] [] s t ∧ ∃ e, o = .inl (some (.int (Int32.ofInt e))) ∧ rng e ∧ (iI t 78 = iI s 78 ∧ iI s 77 ≤ iI t 77 ∧ (iI t 77 = iI s 77 ∨ iI t 77 ≤ 203) ∧ (iI s 79 ≠ 0 → iI t 79 ≠ 0) ∧ (iI t 79 = 0 → iI t 77 ≤ iI s 75) ∧ (iI s 79 = 0 → iI s 77 < iI t 77) ∧ (e = 0 ∨ e = 1)))) (hO : ∀ {s : PS} {T : TT}, Bd s → (iI s 77 ≤ 203) → (iI s 78 + ((r : Nat) : Int) = 7) → (iI s 78 = 7 → iI s 79 ≠ 0) → (iI s 79 = 0 → iI s 77 ≤ 202) → (∀ q ∈ ([77, 75, 78, 79, 81] : List Nat), T.1 q) → (∀ a ∈ ([157, 158, 161] : List Nat), ∀ j, j < (bA a).2.2 → T.2 a j) → CD l s0 D A dT 212 (rkR (24 + 3 * (r) + 2)) [77, 79, 80, 78] [] T T [.ref (A 179)] s (fun o t => Bd t ∧ Fm [77, 79, 80, 78] [] s t ∧ ∃ e, o = .inl (some (.int (Int32.ofInt e))) ∧ rng e ∧ (iI t 78 = iI s 78 ∧ iI s 77 ≤ iI t 77 ∧ (iI t 77 = iI s 77 ∨ iI t 77 ≤ 203) ∧ (iI s 79 ≠ 0 → iI t 79 ≠ 0) ∧ (iI t 79 = 0 → iI t 77 ≤ iI s 75) ∧ (iI s 79 = 0 → iI s 77 < iI t 77) ∧ (e = 0 ∨ e = 1)))) (I : Bd s) (p0 : iI s 77 ≤ 203) (p1 : iI s 78 + ((r + 1 : Nat) : Int) = 7) (p2 : iI s 78 = 7 → iI s 79 ≠ 0) (p3 : iI s 79 = 0 → iI s 77 ≤ 202) {T : TT} (hti : ∀ q ∈ ([77, 75, 78, 79, 81] : List Nat), T.1 q) (hta : ∀ a ∈ ([157, 158, 161] : List Nat), ∀ j, j < (bA a).2.2 → T.2 a j) : CD l s0 D A dT 210 (rkR (24 + 3 * (r + 1))) [77, 79, 80, 78] [] T (T) [.ref (A 179)] s (fun o t => Bd t ∧ Fm [77, 79, 80, 78] [] s t ∧ ∃ e, o = .inl (some (.int (Int32.ofInt e))) ∧ rng e ∧ (iI t 78 = iI s 78 ∧ iI s 77 ≤ iI t 77 ∧ (iI t 77 = iI s 77 ∨ iI t 77 ≤ 203) ∧ (iI s 79 ≠ 0 → iI t 79 ≠ 0) ∧ (iI t 79 = 0 → iI t 77 ≤ iI s 75) ∧ (iI s 79 = 0 → iI s 77 < iI t 77) ∧ (e = 0 ∨ e = 1))) := by
  refine cd_of G (by decide) (Nat.le_of_ble_eq_true rfl) (fun Q hQ => ?_)
  have I0 := I
  show DS l s0 D A dT 210 (rkR (24 + 3 * (r + 1))) [77, 79, 80, 78] [] (T) Q (T) 0 [(0, .ref (A 179))] [] s
  have F : Fm [77, 79, 80, 78] [] s s := fm_rf _ _ s
  have b1 := bi_77 I
  have b2 := bi_75 I
  have b3 := bi_79 I
  have b4 := bi_78 I
  have L159 : ∀ (t : PS) (a c b : Int), Bd t → Fm [77, 79, 80, 78] [] s t → (iI t 78 = iI s 78 ∧ iI s 77 ≤ iI t 77 ∧ (iI t 77 = iI s 77 ∨ iI t 77 ≤ 203) ∧ (iI s 79 ≠ 0 → iI t 79 ≠ 0) ∧ (iI t 79 = 0 → iI t 77 ≤ iI s 75) ∧ (iI s 79 = 0 → iI s 77 < iI t 77) ∧ rng a ∧ (-1 ≤ c ∧ c ≤ 255) ∧ rng b) → DS l s0 D A dT 210 (rkR (24 + 3 * (r + 1))) [77, 79, 80, 78] [] (T) Q (T) 159 [(0, .ref (A 179)), (1, .int (Int32.ofInt a)), (2, .int (Int32.ofInt c)), (3, .int (Int32.ofInt b))] [] t := by
    intro t a c b I F hi
    have b1001 := bi_77 I
    have b1002 := bi_75 I
    have b1003 := bi_79 I
    have b1004 := bi_78 I
    refine d_lift (fun k ws X h => z_load_n X (x := c) rfl (List.Mem.tail _ (List.Mem.tail _ (List.Mem.head _))) h) (d_lift (fun k ws X h => z_bipush X rfl h) ?_)
    have N1005 : ∀ e1006 : Int, (((c ≠ 60) ∧ (c ≠ 62) ∧ (a ≠ b) ∧ e1006 = 0) ∨ ((c ≠ 60) ∧ (c ≠ 62) ∧ (a = b) ∧ e1006 = 1) ∨ ((c ≠ 60) ∧ (c = 62) ∧ (a ≤ b) ∧ e1006 = 0) ∨ ((c ≠ 60) ∧ (c = 62) ∧ (b < a) ∧ e1006 = 1) ∨ ((c = 60) ∧ (b ≤ a) ∧ e1006 = 0) ∨ ((c = 60) ∧ (a < b) ∧ e1006 = 1)) → DS l s0 D A dT 210 (rkR (24 + 3 * (r + 1))) [77, 79, 80, 78] [] (T) Q (T) 207 [(0, .ref (A 179)), (1, .int (Int32.ofInt a)), (2, .int (Int32.ofInt c)), (3, .int (Int32.ofInt b))] [.int (Int32.ofInt e1006)] t := by
      intro e1006 he1006
      have re1006 : 0 ≤ e1006 ∧ e1006 ≤ 1 := by first | (clear he1006 p3 p2; omega) | (clear p3 p2; omega) | omega
      exact d_iret rfl (nar_ret (by first | exact oq_31e518ae re1006.2 re1006.1 | omega)) (Or.inr rfl) rfl (fun _ h => h) (hQ _ _ ⟨I, F, e1006, rfl, ⟨by first | exact oq_fa4e5087 re1006.1 | omega, by first | exact oq_22e1e6b0 re1006.2 | omega⟩, by first | exact ⟨hi.1, hi.2.1, hi.2.2.1, hi.2.2.2.1, hi.2.2.2.2.1, hi.2.2.2.2.2.1, oq_31e518ae re1006.2 re1006.1⟩ | omega⟩)
    refine d_br (bo_ne _ _) bx_ne (fun k ws X h1 h2 => z_icmp_ne X (t := 178) rfl (by decide) ⟨by first | exact oq_97ee2c2a hi.2.2.2.2.2.2.2.1.1 | omega, by first | exact oq_4567a937 hi.2.2.2.2.2.2.2.1.2 | omega⟩ (by decide) h1 h2) (fun g1007 => ?_) (fun g1007 => ?_)
    ·
      refine d_lift (fun k ws X h => z_load_n X (x := c) rfl (List.Mem.tail _ (List.Mem.tail _ (List.Mem.head _))) h) (d_lift (fun k ws X h => z_bipush X rfl h) (d_br (bo_ne _ _) bx_ne (fun k ws X h1 h2 => z_icmp_ne X (t := 197) rfl (by decide) ⟨by first | exact oq_97ee2c2a hi.2.2.2.2.2.2.2.1.1 | omega, by first | exact oq_4567a937 hi.2.2.2.2.2.2.2.1.2 | omega⟩ (by decide) h1 h2) (fun g1008 => ?_) (fun g1008 => ?_)))
      ·
        refine d_lift (fun k ws X h => z_load_n X (x := a) rfl (List.Mem.tail _ (List.Mem.head _)) h) (d_lift (fun k ws X h => z_load_n X (x := b) rfl (List.Mem.tail _ (List.Mem.tail _ (List.Mem.tail _ (List.Mem.head _)))) h) (d_br (bo_ne _ _) bx_ne (fun k ws X h1 h2 => z_icmp_ne X (t := 206) rfl (by decide) ⟨by first | exact hi.2.2.2.2.2.2.1.1 | omega, by first | exact hi.2.2.2.2.2.2.1.2 | omega⟩ ⟨by first | exact hi.2.2.2.2.2.2.2.2.1 | omega, by first | exact hi.2.2.2.2.2.2.2.2.2 | omega⟩ h1 h2) (fun g1009 => ?_) (fun g1009 => ?_)))
        ·
          exact d_lift (fun k ws X h => z_const X rfl h) (N1005 _ (Or.inl ⟨g1007, g1008, g1009, rfl⟩))
        ·
          exact d_lift (fun k ws X h => z_const X rfl h) (d_lift (fun k ws X h => z_goto X (t := 207) rfl (by decide) h) (N1005 _ (Or.inr (Or.inl ⟨g1007, g1008, g1009, rfl⟩))))
      ·
        refine d_lift (fun k ws X h => z_load_n X (x := a) rfl (List.Mem.tail _ (List.Mem.head _)) h) (d_lift (fun k ws X h => z_load_n X (x := b) rfl (List.Mem.tail _ (List.Mem.tail _ (List.Mem.tail _ (List.Mem.head _)))) h) (d_br (bo_le _ _) bx_le (fun k ws X h1 h2 => z_icmp_le X (t := 193) rfl (by decide) ⟨by first | exact hi.2.2.2.2.2.2.1.1 | omega, by first | exact hi.2.2.2.2.2.2.1.2 | omega⟩ ⟨by first | exact hi.2.2.2.2.2.2.2.2.1 | omega, by first | exact hi.2.2.2.2.2.2.2.2.2 | omega⟩ h1 h2) (fun g1010 => ?_) (fun g1010 => ?_)))
        ·
          exact d_lift (fun k ws X h => z_const X rfl h) (d_lift (fun k ws X h => z_goto X (t := 207) rfl (by decide) h) (N1005 _ (Or.inr (Or.inr (Or.inl ⟨g1007, g1008, g1010, rfl⟩)))))
        ·
          exact d_lift (fun k ws X h => z_const X rfl h) (d_lift (fun k ws X h => z_goto X (t := 207) rfl (by decide) h) (N1005 _ (Or.inr (Or.inr (Or.inr (Or.inl ⟨g1007, g1008, g1010, rfl⟩))))))
    ·
      refine d_lift (fun k ws X h => z_load_n X (x := a) rfl (List.Mem.tail _ (List.Mem.head _)) h) (d_lift (fun k ws X h => z_load_n X (x := b) rfl (List.Mem.tail _ (List.Mem.tail _ (List.Mem.tail _ (List.Mem.head _)))) h) (d_br (bo_ge _ _) bx_ge (fun k ws X h1 h2 => z_icmp_ge X (t := 174) rfl (by decide) ⟨by first | exact hi.2.2.2.2.2.2.1.1 | omega, by first | exact hi.2.2.2.2.2.2.1.2 | omega⟩ ⟨by first | exact hi.2.2.2.2.2.2.2.2.1 | omega, by first | exact hi.2.2.2.2.2.2.2.2.2 | omega⟩ h1 h2) (fun g1011 => ?_) (fun g1011 => ?_)))
      ·
        exact d_lift (fun k ws X h => z_const X rfl h) (d_lift (fun k ws X h => z_goto X (t := 207) rfl (by decide) h) (N1005 _ (Or.inr (Or.inr (Or.inr (Or.inr (Or.inl ⟨g1007, g1011, rfl⟩)))))))
      ·
        exact d_lift (fun k ws X h => z_const X rfl h) (d_lift (fun k ws X h => z_goto X (t := 207) rfl (by decide) h) (N1005 _ (Or.inr (Or.inr (Or.inr (Or.inr (Or.inr (⟨g1007, g1011, rfl⟩))))))))
  have L144 : ∀ (t : PS) (a c : Int), Bd t → Fm [77, 79, 80, 78] [] s t → (iI t 78 = iI s 78 ∧ iI s 77 ≤ iI t 77 ∧ (iI t 77 = iI s 77 ∨ iI t 77 ≤ 202) ∧ (iI s 79 ≠ 0 → iI t 79 ≠ 0) ∧ (iI t 79 = 0 → iI t 77 ≤ iI s 75) ∧ iI s 79 = 0 ∧ iI t 75 = iI s 75 ∧ rng a ∧ (-1 ≤ c ∧ c ≤ 255)) → DS l s0 D A dT 210 (rkR (24 + 3 * (r + 1))) [77, 79, 80, 78] [] (T) Q (T) 144 [(0, .ref (A 179)), (1, .int (Int32.ofInt a)), (2, .int (Int32.ofInt c))] [] t := by
    intro t a c I F hi
    have b2001 := bi_77 I
    have b2002 := bi_75 I
    have b2003 := bi_79 I
    have b2004 := bi_78 I
    refine d_lift (fun k ws X h => z_aload_n X (x := A 179) rfl (List.Mem.head _) h) (d_lift (fun k ws X h => w_dup X.1 (ax_d X (show cdA 210 145 = some (.dup, 1, 0, 0, 0) from rfl)) rfl h) (d_getI 179 rfl (by decide) rfl rfl (hti 77 (by decide)) ?_))
    have b2005 := bi_77 I
    refine d_lift (fun k ws X h => z_const X rfl h) (d_lift (fun k ws X h => z_add X rfl h) (d_putI 179 rfl (by decide) rfl rfl (by decide) rfl rfl rfl (show 77 ∈ _ by decide) (show (0 : Int) ≤ ((iI t 77) + 1) ∧ ((iI t 77) + 1) ≤ 400 by first | exact ⟨oq_54f49eb5 b2005.1, oq_886c3d04 hi.2.2.1 p0⟩ | omega) ⟨by first | exact oq_74de1e16 b2005.1 | omega, by first | exact oq_964ce197 b2005.2 | omega⟩ (d_mono (T' := T) (fun _ h => Or.inr h) (fun _ _ h => h) (ds_gen (fun s2006 hs2006 => ?_)))))
    have Is2006 : Bd s2006 := eqB hs2006 (bd_I I (show (0 : Int) ≤ ((iI t 77) + 1) ∧ ((iI t 77) + 1) ≤ 400 by first | exact ⟨oq_54f49eb5 b2005.1, oq_886c3d04 hi.2.2.1 p0⟩ | omega) ⟨by first | exact oq_74de1e16 b2005.1 | omega, by first | exact oq_964ce197 b2005.2 | omega⟩)
    have Fs2006 := eqF hs2006 (fm_I F (inl_ok (a := 77) rfl))
    have vs2006 : iI s2006 77 = ((iI t 77) + 1) := eqI hs2006 (iI_u ⟨by first | exact oq_74de1e16 b2005.1 | omega, by first | exact oq_964ce197 b2005.2 | omega⟩)
    have ws2006_75 : iI s2006 75 = iI t 75 := eqI hs2006 rfl
    have ws2006_79 : iI s2006 79 = iI t 79 := eqI hs2006 rfl
    have ws2006_78 : iI s2006 78 = iI t 78 := eqI hs2006 rfl
    refine d_lift (fun k ws X h => z_aload_n X (x := A 179) rfl (List.Mem.head _) h) (d_callV 179 (As := []) (st := []) rfl rfl (by decide) rfl ((d_sumr G (r + 1)).2.2 Is2006 (by first | exact oq_bc84bd0b vs2006 hi.2.2.2.2.2.1 hi.2.2.1 p3 | omega) (by first | exact oq_82f073b0 ws2006_78 p1 hi.1 | omega) (by first | exact oq_4d33fe7c ws2006_78 hi.2.2.2.2.2.1 hi.1 p2 | omega) (fun q h => hti q ((by decide : ∀ q ∈ ([77, 75, 78, 79, 81] : List Nat), q ∈ ([77, 75, 78, 79, 81] : List Nat)) q h)) (fun a h => hta a ((by decide : ∀ q ∈ ([157, 158, 161] : List Nat), q ∈ ([157, 158, 161] : List Nat)) a h))) ⟨rfl, rfl⟩ ⟨(show (12 + (3 * (r + 1) + 2)) + 1 ≤ (12 + (24 + 3 * (r + 1))) from oq_78548c36 r), (show 8 + (mNL (miB 209) + 11) + (500 + 45 * (3 * (r + 1) + 2)) ≤ (500 + 45 * (24 + 3 * (r + 1))) from oq_7957a5e4 r)⟩ (Nat.le_of_ble_eq_true rfl) (by decide) (by decide) (fun ee s2007 hq => ?_) (fun vv s2007 hq => ?_))
    · obtain ⟨Is2007, Fs2007, e2008, hv, hrs2007, hps2007⟩ := hq; cases hv
    obtain ⟨Is2007, Fs2007, e2008, hv, hrs2007, hps2007⟩ := hq
    cases hv
    have Gs2007 := fm_tq Fs2006 Fs2007 rfl rfl
    have b2009 := bi_77 Is2007
    have ws2007_75 : iI s2007 75 = iI s2006 75 := fm_iq Fs2007 rfl
    have b2010 := bi_79 Is2007
    have b2011 := bi_78 Is2007
    show DS l s0 D A dT 210 (rkR (24 + 3 * (r + 1))) [77, 79, 80, 78] [] (T) Q (T) 158 [(0, .ref (A 179)), (1, .int (Int32.ofInt a)), (2, .int (Int32.ofInt c))] [.int (Int32.ofInt e2008)] s2007
    refine d_lift (fun k ws X h => z_store_n X (lv' := [(3, .int (Int32.ofInt e2008)), (0, .ref (A 179)), (1, .int (Int32.ofInt a)), (2, .int (Int32.ofInt c))]) rfl (by decide) (fun _ h => h) h) (d_lvs (lv := [(0, .ref (A 179)), (1, .int (Int32.ofInt a)), (2, .int (Int32.ofInt c)), (3, .int (Int32.ofInt e2008))]) (List.forall_mem_cons.mpr ⟨(List.Mem.tail _ (List.Mem.head _)), (List.forall_mem_cons.mpr ⟨(List.Mem.tail _ (List.Mem.tail _ (List.Mem.head _))), (List.forall_mem_cons.mpr ⟨(List.Mem.tail _ (List.Mem.tail _ (List.Mem.tail _ (List.Mem.head _)))), (List.forall_mem_cons.mpr ⟨(List.Mem.head _), (fun q h => absurd h List.not_mem_nil)⟩)⟩)⟩)⟩) ?_)
    exact L159 _ a c e2008 Is2007 Gs2007 (by first | exact ⟨oq_878618b1 hps2007.1 ws2006_78 hi.1, oq_ed635da4 hps2007.2.1 vs2006 hi.2.1, oq_300ee640 hps2007.2.2.1 vs2006 hi.2.2.2.2.2.1 hi.2.2.1 p3, oq_e013ad0f hi.2.2.2.2.2.1, oq_70dd041d b2010.1 hps2007.2.2.2.2 ws2006_75 hi.2.2.2.2.2.2.1, oq_bed11c68 hps2007.2.1 vs2006 hi.2.1, And.intro (hi.2.2.2.2.2.2.2.1.1) (hi.2.2.2.2.2.2.2.1.2), And.intro (hi.2.2.2.2.2.2.2.2.1) (hi.2.2.2.2.2.2.2.2.2), hrs2007.1, hrs2007.2⟩ | omega)
  have L104 : ∀ (t : PS) (a : Int), Bd t → Fm [77, 79, 80, 78] [] s t → (iI t 78 = iI s 78 ∧ iI s 77 ≤ iI t 77 ∧ (iI t 77 = iI s 77 ∨ iI t 77 ≤ 202) ∧ (iI s 79 ≠ 0 → iI t 79 ≠ 0) ∧ (iI t 79 = 0 → iI t 77 ≤ iI s 75) ∧ iI s 79 = 0 ∧ iI t 75 = iI s 75 ∧ rng a) → DS l s0 D A dT 210 (rkR (24 + 3 * (r + 1))) [77, 79, 80, 78] [] (T) Q (T) 104 [(0, .ref (A 179)), (1, .int (Int32.ofInt a))] [] t := by
    intro t a I F hi
    have b3001 := bi_77 I
    have b3002 := bi_75 I
    have b3003 := bi_79 I
    have b3004 := bi_78 I
    refine d_lift (fun k ws X h => z_aload_n X (x := A 179) rfl (List.Mem.head _) h) (d_callV 179 (As := []) (st := []) rfl rfl (by decide) rfl (d_blanks G I (by first | exact oq_299765ef hi.2.2.1 p0 | omega) (fun q h => hti q ((by decide : ∀ q ∈ ([77, 75, 78, 79, 81] : List Nat), q ∈ ([77, 75, 78, 79, 81] : List Nat)) q h)) (fun a h => hta a ((by decide : ∀ q ∈ ([157, 158, 161] : List Nat), q ∈ ([157, 158, 161] : List Nat)) a h))) ⟨rfl, rfl⟩ ⟨(show 7 + 1 ≤ (12 + (24 + 3 * (r + 1))) from oq_36eaf53c r), (show 8 + (mNL (miB 193) + 11) + 121 ≤ (500 + 45 * (24 + 3 * (r + 1))) from oq_a27e1a18 r)⟩ (Nat.le_of_ble_eq_true rfl) (by decide) (by decide) (fun ee s3005 hq => ?_) (fun vv s3005 hq => ?_))
    · obtain ⟨Is3005, Fs3005, hv, hps3005⟩ := hq; cases hv
    obtain ⟨Is3005, Fs3005, hv, hps3005⟩ := hq
    have hps3005p := hps3005.1
    cases hv
    have Gs3005 := fm_tq F Fs3005 rfl rfl
    have b3007 := bi_77 Is3005
    have ws3005_75 : iI s3005 75 = iI t 75 := fm_iq Fs3005 rfl
    have ws3005_79 : iI s3005 79 = iI t 79 := fm_iq Fs3005 rfl
    have ws3005_78 : iI s3005 78 = iI t 78 := fm_iq Fs3005 rfl
    show DS l s0 D A dT 210 (rkR (24 + 3 * (r + 1))) [77, 79, 80, 78] [] (T) Q (T) 108 [(0, .ref (A 179)), (1, .int (Int32.ofInt a))] [] s3005
    refine d_lift (fun k ws X h => z_aload_n X (x := A 179) rfl (List.Mem.head _) h) (d_lift (fun k ws X h => z_aload_n X (x := A 179) rfl (List.Mem.head _) h) (d_getI 179 rfl (by decide) rfl rfl (hti 77 (by decide)) ?_))
    have b3008 := bi_77 Is3005
    refine d_callV 179 (As := [.int (Int32.ofInt (iI s3005 77))]) (st := []) rfl rfl (by decide) rfl (d_byteAt G Is3005 (by first | exact ⟨b3008.1, oq_5a8480eb b3008.2⟩ | omega) (fun q h => hti q ((by decide : ∀ q ∈ ([75, 81] : List Nat), q ∈ ([77, 75, 78, 79, 81] : List Nat)) q h)) (fun a h => hta a ((by decide : ∀ q ∈ ([157, 158] : List Nat), q ∈ ([157, 158, 161] : List Nat)) a h))) ⟨rfl, rfl⟩ ⟨(show 6 + 1 ≤ (12 + (24 + 3 * (r + 1))) from oq_51b017a3 r), (show 8 + (mNL (miB 192) + 11) + 100 ≤ (500 + 45 * (24 + 3 * (r + 1))) from oq_e45c9306 r)⟩ (Nat.le_of_ble_eq_true rfl) (by decide) (by decide) (fun ee s3009 hq => ?_) (fun vv s3009 hq => ?_)
    · obtain ⟨Is3009, Fs3009, e3010, hv, hrs3009, hps3009⟩ := hq; cases hv
    obtain ⟨Is3009, Fs3009, e3010, hv, hrs3009, hps3009⟩ := hq
    cases hv
    have Gs3009 := fm_tq Gs3005 Fs3009 rfl rfl
    have ws3009_77 : iI s3009 77 = iI s3005 77 := fm_iq Fs3009 rfl
    have ws3009_75 : iI s3009 75 = iI s3005 75 := fm_iq Fs3009 rfl
    have ws3009_79 : iI s3009 79 = iI s3005 79 := fm_iq Fs3009 rfl
    have ws3009_78 : iI s3009 78 = iI s3005 78 := fm_iq Fs3009 rfl
    show DS l s0 D A dT 210 (rkR (24 + 3 * (r + 1))) [77, 79, 80, 78] [] (T) Q (T) 116 [(0, .ref (A 179)), (1, .int (Int32.ofInt a))] [.int (Int32.ofInt e3010)] s3009
    refine d_lift (fun k ws X h => z_store_n X (lv' := [(2, .int (Int32.ofInt e3010)), (0, .ref (A 179)), (1, .int (Int32.ofInt a))]) rfl (by decide) (fun _ h => h) h) (d_lift (fun k ws X h => z_load_n X (x := e3010) rfl (List.Mem.head _) h) (d_lift (fun k ws X h => z_bipush X rfl h) (d_br (bo_eq _ _) bx_eq (fun k ws X h1 h2 => z_icmp_eq X (t := 144) rfl (by decide) hrs3009 (by decide) h1 h2) (fun g3011 => ?_) (fun g3011 => ?_))))
    ·
      refine d_lvs (lv := [(0, .ref (A 179)), (1, .int (Int32.ofInt a)), (2, .int (Int32.ofInt e3010))]) (List.forall_mem_cons.mpr ⟨(List.Mem.tail _ (List.Mem.head _)), (List.forall_mem_cons.mpr ⟨(List.Mem.tail _ (List.Mem.tail _ (List.Mem.head _))), (List.forall_mem_cons.mpr ⟨(List.Mem.head _), (fun q h => absurd h List.not_mem_nil)⟩)⟩)⟩) ?_
      exact L144 _ a e3010 Is3009 Gs3009 (by first | exact ⟨oq_878618b1 ws3009_78 ws3005_78 hi.1, oq_6f31d0da ws3009_77 hi.2.1 hps3005.1, oq_948351f9 g3011 ws3009_77 hps3009 ws3005_75 b3002.2, oq_e013ad0f hi.2.2.2.2.2.1, oq_26d29cd1 g3011 ws3009_77 hps3009 ws3005_75 hi.2.2.2.2.2.2.1, hi.2.2.2.2.2.1, oq_d0d2714e ws3009_75 hi.2.2.2.2.2.2.1 ws3005_75, And.intro (hi.2.2.2.2.2.2.2.1) (hi.2.2.2.2.2.2.2.2), oq_48ee4ea2 g3011, oq_dd8e5557 g3011⟩ | omega)
    ·
      refine d_lift (fun k ws X h => z_load_n X (x := e3010) rfl (List.Mem.head _) h) (d_lift (fun k ws X h => z_bipush X rfl h) (d_br (bo_eq _ _) bx_eq (fun k ws X h1 h2 => z_icmp_eq X (t := 144) rfl (by decide) hrs3009 (by decide) h1 h2) (fun g3012 => ?_) (fun g3012 => ?_)))
      ·
        refine d_lvs (lv := [(0, .ref (A 179)), (1, .int (Int32.ofInt a)), (2, .int (Int32.ofInt e3010))]) (List.forall_mem_cons.mpr ⟨(List.Mem.tail _ (List.Mem.head _)), (List.forall_mem_cons.mpr ⟨(List.Mem.tail _ (List.Mem.tail _ (List.Mem.head _))), (List.forall_mem_cons.mpr ⟨(List.Mem.head _), (fun q h => absurd h List.not_mem_nil)⟩)⟩)⟩) ?_
        exact L144 _ a e3010 Is3009 Gs3009 (by first | exact ⟨oq_878618b1 ws3009_78 ws3005_78 hi.1, oq_6f31d0da ws3009_77 hi.2.1 hps3005.1, oq_754fcaa6 g3012 ws3009_77 hps3009 ws3005_75 b3002.2, oq_e013ad0f hi.2.2.2.2.2.1, oq_20e35830 g3012 ws3009_77 hps3009 ws3005_75 hi.2.2.2.2.2.2.1, hi.2.2.2.2.2.1, oq_d0d2714e ws3009_75 hi.2.2.2.2.2.2.1 ws3005_75, And.intro (hi.2.2.2.2.2.2.2.1) (hi.2.2.2.2.2.2.2.2), oq_1aa2d2e5 g3012, oq_68b13569 g3012⟩ | omega)
      ·
        refine d_lift (fun k ws X h => z_load_n X (x := e3010) rfl (List.Mem.head _) h) (d_lift (fun k ws X h => z_bipush X rfl h) (d_br (bo_eq _ _) bx_eq (fun k ws X h1 h2 => z_icmp_eq X (t := 144) rfl (by decide) hrs3009 (by decide) h1 h2) (fun g3013 => ?_) (fun g3013 => ?_)))
        ·
          refine d_lvs (lv := [(0, .ref (A 179)), (1, .int (Int32.ofInt a)), (2, .int (Int32.ofInt e3010))]) (List.forall_mem_cons.mpr ⟨(List.Mem.tail _ (List.Mem.head _)), (List.forall_mem_cons.mpr ⟨(List.Mem.tail _ (List.Mem.tail _ (List.Mem.head _))), (List.forall_mem_cons.mpr ⟨(List.Mem.head _), (fun q h => absurd h List.not_mem_nil)⟩)⟩)⟩) ?_
          exact L144 _ a e3010 Is3009 Gs3009 (by first | exact ⟨oq_878618b1 ws3009_78 ws3005_78 hi.1, oq_6f31d0da ws3009_77 hi.2.1 hps3005.1, oq_7afbd850 g3013 ws3009_77 hps3009 ws3005_75 b3002.2, oq_e013ad0f hi.2.2.2.2.2.1, oq_1142ea38 g3013 ws3009_77 hps3009 ws3005_75 hi.2.2.2.2.2.2.1, hi.2.2.2.2.2.1, oq_d0d2714e ws3009_75 hi.2.2.2.2.2.2.1 ws3005_75, And.intro (hi.2.2.2.2.2.2.2.1) (hi.2.2.2.2.2.2.2.2), oq_3f06b504 g3013, oq_83a663bc g3013⟩ | omega)
        ·
          refine d_lift (fun k ws X h => z_aload_n X (x := A 179) rfl (List.Mem.tail _ (List.Mem.head _)) h) (d_lift (fun k ws X h => z_const X rfl h) (d_lift (fun k ws X h => z_aload_n X (x := A 179) rfl (List.Mem.tail _ (List.Mem.head _)) h) (d_getI 179 rfl (by decide) rfl rfl (hti 77 (by decide)) ?_)))
          have b3014 := bi_77 Is3009
          refine d_callV 179 (As := [.int (Int32.ofInt 1), .int (Int32.ofInt (iI s3009 77))]) (st := []) rfl rfl (by decide) rfl (d_wrong G Is3009 (by first | exact ⟨by decide, by decide⟩ | omega) (by first | exact ⟨oq_ca54ea22 b3014.1, b3014.2⟩ | omega) (fun q h => hti q ((by decide : ∀ q ∈ ([79] : List Nat), q ∈ ([77, 75, 78, 79, 81] : List Nat)) q h)) (fun a h => hta a ((by decide : ∀ q ∈ ([] : List Nat), q ∈ ([157, 158, 161] : List Nat)) a h))) ⟨rfl, rfl⟩ ⟨(show 6 + 1 ≤ (12 + (24 + 3 * (r + 1))) from oq_51b017a3 r), (show 8 + (mNL (miB 194) + 11) + 100 ≤ (500 + 45 * (24 + 3 * (r + 1))) from oq_53e0fa7a r)⟩ (Nat.le_of_ble_eq_true rfl) (by decide) (by decide) (fun ee s3015 hq => ?_) (fun vv s3015 hq => ?_)
          · obtain ⟨Is3015, Fs3015, hv, hps3015⟩ := hq; cases hv
          obtain ⟨Is3015, Fs3015, hv, hps3015⟩ := hq
          cases hv
          have Gs3015 := fm_tq Gs3009 Fs3015 rfl rfl
          have ws3015_77 : iI s3015 77 = iI s3009 77 := fm_iq Fs3015 rfl
          have ws3015_75 : iI s3015 75 = iI s3009 75 := fm_iq Fs3015 rfl
          have b3017 := bi_79 Is3015
          have ws3015_78 : iI s3015 78 = iI s3009 78 := fm_iq Fs3015 rfl
          show DS l s0 D A dT 210 (rkR (24 + 3 * (r + 1))) [77, 79, 80, 78] [] (T) Q (T) 144 [(2, .int (Int32.ofInt e3010)), (0, .ref (A 179)), (1, .int (Int32.ofInt a))] [] s3015
          refine d_lvs (lv := [(0, .ref (A 179)), (1, .int (Int32.ofInt a)), (2, .int (Int32.ofInt e3010))]) (List.forall_mem_cons.mpr ⟨(List.Mem.tail _ (List.Mem.head _)), (List.forall_mem_cons.mpr ⟨(List.Mem.tail _ (List.Mem.tail _ (List.Mem.head _))), (List.forall_mem_cons.mpr ⟨(List.Mem.head _), (fun q h => absurd h List.not_mem_nil)⟩)⟩)⟩) ?_
          exact L144 _ a e3010 Is3015 Gs3015 (by first | exact ⟨oq_ac0e91e1 ws3015_78 ws3009_78 ws3005_78 hi.1, oq_c430b533 ws3015_77 hi.2.1 hps3005.1 ws3009_77, oq_0b99daf3 ws3015_77 ws3009_77 hps3005.2 b3002.2 hi.2.2.1 p0, oq_5071f1ab b3017.1 hps3015, oq_efa70c27 b3017.1 hps3015, hi.2.2.2.2.2.1, oq_45b593e3 ws3015_75 hi.2.2.2.2.2.2.1 ws3009_75 ws3005_75, And.intro (hi.2.2.2.2.2.2.2.1) (hi.2.2.2.2.2.2.2.2), oq_47a75eb0 hps3009, oq_47d561e4 hps3009⟩ | omega)
  refine d_lift (fun k ws X h => z_aload_n X (x := A 179) rfl (List.Mem.head _) h) (d_getI 179 rfl (by decide) rfl rfl (hti 79 (by decide)) ?_)
  have b5 := bi_79 I
  refine d_br (bo_eq _ _) bx_eq (fun k ws X h1 h2 => z_if_eq X (t := 9) rfl (by decide) (rng_to _) h1 h2) (fun g6 => ?_) (fun g6 => ?_)
  ·
    refine d_lift (fun k ws X h => z_aload_n X (x := A 179) rfl (List.Mem.head _) h) (d_callV 179 (As := []) (st := []) rfl rfl (by decide) rfl (d_wordHere G I (by first | exact oq_2ebc9f52 p0 | omega) (fun q h => hti q ((by decide : ∀ q ∈ ([77, 75, 78, 79, 81] : List Nat), q ∈ ([77, 75, 78, 79, 81] : List Nat)) q h)) (fun a h => hta a ((by decide : ∀ q ∈ ([157, 158, 161] : List Nat), q ∈ ([157, 158, 161] : List Nat)) a h))) ⟨rfl, rfl⟩ ⟨(show 8 + 1 ≤ (12 + (24 + 3 * (r + 1))) from oq_91dbadf4 r), (show 8 + (mNL (miB 201) + 11) + 141 ≤ (500 + 45 * (24 + 3 * (r + 1))) from oq_2d8c6e6c r)⟩ (Nat.le_of_ble_eq_true rfl) (by decide) (by decide) (fun ee s7 hq => ?_) (fun vv s7 hq => ?_))
    · obtain ⟨Is7, Fs7, e8, hv, hrs7, hps7⟩ := hq; cases hv
    obtain ⟨Is7, Fs7, e8, hv, hrs7, hps7⟩ := hq
    have hps7p := hps7.1
    cases hv
    have Gs7 := fm_tq F Fs7 rfl rfl
    have b9 := bi_77 Is7
    have ws7_75 : iI s7 75 = iI s 75 := fm_iq Fs7 rfl
    have ws7_79 : iI s7 79 = iI s 79 := fm_iq Fs7 rfl
    have ws7_78 : iI s7 78 = iI s 78 := fm_iq Fs7 rfl
    show DS l s0 D A dT 210 (rkR (24 + 3 * (r + 1))) [77, 79, 80, 78] [] (T) Q (T) 13 [(0, .ref (A 179))] [.int (Int32.ofInt e8)] s7
    refine d_lift (fun k ws X h => z_bipush X rfl h) (d_lift (fun k ws X h => z_bipush X rfl h) (d_lift (fun k ws X h => z_bipush X rfl h) (d_lift (fun k ws X h => z_const X rfl h) (d_lift (fun k ws X h => z_const X rfl h) (d_lift (fun k ws X h => z_const X rfl h) (d_callT (As := [.int (Int32.ofInt 14), .int (Int32.ofInt 15), .int (Int32.ofInt 20), .int (Int32.ofInt 0), .int (Int32.ofInt 0), .int (Int32.ofInt 0)]) (st := [.int (Int32.ofInt e8)]) rfl rfl (d_word G Is7 (by first | exact ⟨by decide, by decide⟩ | omega) (by first | exact ⟨by decide, by decide⟩ | omega) (by first | exact ⟨by decide, by decide⟩ | omega) (by first | exact ⟨by decide, by decide⟩ | omega) (by first | exact ⟨by decide, by decide⟩ | omega) (by first | exact ⟨by decide, by decide⟩ | omega) (fun q h => hti q ((by decide : ∀ q ∈ ([] : List Nat), q ∈ ([77, 75, 78, 79, 81] : List Nat)) q h)) (fun a h => hta a ((by decide : ∀ q ∈ ([] : List Nat), q ∈ ([157, 158, 161] : List Nat)) a h))) ⟨rfl, rfl⟩ ⟨(show 6 + 1 ≤ (12 + (24 + 3 * (r + 1))) from oq_51b017a3 r), (show 8 + (mNL (miB 202) + 11) + 100 ≤ (500 + 45 * (24 + 3 * (r + 1))) from oq_22dfea8e r)⟩ (Nat.le_of_ble_eq_true rfl) (by decide) (by decide) (fun ee s10 hq => ?_) (fun vv s10 hq => ?_)))))))
    · obtain ⟨Is10, Fs10, e11, hv, hrs10, hps10⟩ := hq; cases hv
    obtain ⟨Is10, Fs10, e11, hv, hrs10, hps10⟩ := hq
    cases hv
    have Gs10 := fm_tq Gs7 Fs10 rfl rfl
    have ws10_77 : iI s10 77 = iI s7 77 := fm_iq Fs10 rfl
    have ws10_75 : iI s10 75 = iI s7 75 := fm_iq Fs10 rfl
    have ws10_79 : iI s10 79 = iI s7 79 := fm_iq Fs10 rfl
    have ws10_78 : iI s10 78 = iI s7 78 := fm_iq Fs10 rfl
    show DS l s0 D A dT 210 (rkR (24 + 3 * (r + 1))) [77, 79, 80, 78] [] (T) Q (T) 25 [(0, .ref (A 179))] [.int (Int32.ofInt e11), .int (Int32.ofInt e8)] s10
    refine d_br (bo_ne _ _) bx_ne (fun k ws X h1 h2 => z_icmp_ne X (t := 58) rfl (by decide) hrs7 hrs10 h1 h2) (fun g12 => ?_) (fun g12 => ?_)
    ·
      refine d_lift (fun k ws X h => z_aload_n X (x := A 179) rfl (List.Mem.head _) h) (d_lift (fun k ws X h => z_aload_n X (x := A 179) rfl (List.Mem.head _) h) (d_getI 179 rfl (by decide) rfl rfl (hti 77 (by decide)) ?_))
      have b13 := bi_77 Is10
      refine d_callV 179 (As := [.int (Int32.ofInt (iI s10 77))]) (st := []) rfl rfl (by decide) rfl (d_byteAt G Is10 (by first | exact ⟨b13.1, oq_5a8480eb b13.2⟩ | omega) (fun q h => hti q ((by decide : ∀ q ∈ ([75, 81] : List Nat), q ∈ ([77, 75, 78, 79, 81] : List Nat)) q h)) (fun a h => hta a ((by decide : ∀ q ∈ ([157, 158] : List Nat), q ∈ ([157, 158, 161] : List Nat)) a h))) ⟨rfl, rfl⟩ ⟨(show 6 + 1 ≤ (12 + (24 + 3 * (r + 1))) from oq_51b017a3 r), (show 8 + (mNL (miB 192) + 11) + 100 ≤ (500 + 45 * (24 + 3 * (r + 1))) from oq_e45c9306 r)⟩ (Nat.le_of_ble_eq_true rfl) (by decide) (by decide) (fun ee s14 hq => ?_) (fun vv s14 hq => ?_)
      · obtain ⟨Is14, Fs14, e15, hv, hrs14, hps14⟩ := hq; cases hv
      obtain ⟨Is14, Fs14, e15, hv, hrs14, hps14⟩ := hq
      cases hv
      have Gs14 := fm_tq Gs10 Fs14 rfl rfl
      have ws14_77 : iI s14 77 = iI s10 77 := fm_iq Fs14 rfl
      have ws14_75 : iI s14 75 = iI s10 75 := fm_iq Fs14 rfl
      have ws14_79 : iI s14 79 = iI s10 79 := fm_iq Fs14 rfl
      have ws14_78 : iI s14 78 = iI s10 78 := fm_iq Fs14 rfl
      show DS l s0 D A dT 210 (rkR (24 + 3 * (r + 1))) [77, 79, 80, 78] [] (T) Q (T) 66 [(0, .ref (A 179))] [.int (Int32.ofInt e15)] s14
      refine d_lift (fun k ws X h => z_bipush X rfl h) (d_br (bo_ne _ _) bx_ne (fun k ws X h1 h2 => z_icmp_ne X (t := 99) rfl (by decide) hrs14 (by decide) h1 h2) (fun g16 => ?_) (fun g16 => ?_))
      ·
        refine d_lift (fun k ws X h => z_aload_n X (x := A 179) rfl (List.Mem.head _) h) (d_callV 179 (As := []) (st := []) rfl rfl (by decide) rfl ((d_sumr G (r + 1)).2.2 Is14 (by first | exact oq_f296b76d ws14_77 ws10_77 hps7.2.1 b2.2 p0 | omega) (by first | exact oq_f71ce2a5 ws14_78 p1 ws10_78 ws7_78 | omega) (by first | exact oq_f1a73c9d ws14_78 ws10_78 ws7_78 g6 p2 | omega) (fun q h => hti q ((by decide : ∀ q ∈ ([77, 75, 78, 79, 81] : List Nat), q ∈ ([77, 75, 78, 79, 81] : List Nat)) q h)) (fun a h => hta a ((by decide : ∀ q ∈ ([157, 158, 161] : List Nat), q ∈ ([157, 158, 161] : List Nat)) a h))) ⟨rfl, rfl⟩ ⟨(show (12 + (3 * (r + 1) + 2)) + 1 ≤ (12 + (24 + 3 * (r + 1))) from oq_78548c36 r), (show 8 + (mNL (miB 209) + 11) + (500 + 45 * (3 * (r + 1) + 2)) ≤ (500 + 45 * (24 + 3 * (r + 1))) from oq_7957a5e4 r)⟩ (Nat.le_of_ble_eq_true rfl) (by decide) (by decide) (fun ee s17 hq => ?_) (fun vv s17 hq => ?_))
        · obtain ⟨Is17, Fs17, e18, hv, hrs17, hps17⟩ := hq; cases hv
        obtain ⟨Is17, Fs17, e18, hv, hrs17, hps17⟩ := hq
        cases hv
        have Gs17 := fm_tq Gs14 Fs17 rfl rfl
        have b19 := bi_77 Is17
        have ws17_75 : iI s17 75 = iI s14 75 := fm_iq Fs17 rfl
        have b20 := bi_79 Is17
        have b21 := bi_78 Is17
        show DS l s0 D A dT 210 (rkR (24 + 3 * (r + 1))) [77, 79, 80, 78] [] (T) Q (T) 103 [(0, .ref (A 179))] [.int (Int32.ofInt e18)] s17
        refine d_lift (fun k ws X h => z_store_n X (lv' := [(1, .int (Int32.ofInt e18)), (0, .ref (A 179))]) rfl (by decide) (fun _ h => h) h) (d_lvs (lv := [(0, .ref (A 179)), (1, .int (Int32.ofInt e18))]) (List.forall_mem_cons.mpr ⟨(List.Mem.tail _ (List.Mem.head _)), (List.forall_mem_cons.mpr ⟨(List.Mem.head _), (fun q h => absurd h List.not_mem_nil)⟩)⟩) ?_)
        exact L104 _ e18 Is17 Gs17 (by first | exact ⟨oq_ac0e91e1 hps17.1 ws14_78 ws10_78 ws7_78, oq_904c728b hps17.2.1 ws14_77 hps7.1 ws10_77, oq_1659f388 hps17.2.2.1 ws14_77 ws10_77 hps7.2.1 b2.2 p0, oq_e013ad0f g6, oq_cfa0a9a6 b20.1 hps17.2.2.2.2 ws14_75 ws10_75 ws7_75, g6, oq_45b593e3 ws17_75 ws7_75 ws14_75 ws10_75, hrs17.1, hrs17.2⟩ | omega)
      ·
        refine d_lift (fun k ws X h => z_aload_n X (x := A 179) rfl (List.Mem.head _) h) (d_lift (fun k ws X h => z_const X rfl h) (d_callV 179 (As := [.int (Int32.ofInt 1)]) (st := []) rfl rfl (by decide) rfl (d_opens G Is14 (by first | exact ⟨by decide, by decide⟩ | omega) (by first | exact oq_06057f8f g16 ws14_77 hps14 ws10_75 ws7_75 b2.2 | omega) (by first | (clear hps14 g12 hps7 p3 p2; omega) | (clear g12 hps7 p3 p2; omega) | omega) (fun q h => hti q ((by decide : ∀ q ∈ ([77, 75, 78, 79, 81] : List Nat), q ∈ ([77, 75, 78, 79, 81] : List Nat)) q h)) (fun a h => hta a ((by decide : ∀ q ∈ ([157, 158, 161] : List Nat), q ∈ ([157, 158, 161] : List Nat)) a h))) ⟨rfl, rfl⟩ ⟨(show 7 + 1 ≤ (12 + (24 + 3 * (r + 1))) from oq_36eaf53c r), (show 8 + (mNL (miB 205) + 11) + 122 ≤ (500 + 45 * (24 + 3 * (r + 1))) from oq_2520a5c5 r)⟩ (Nat.le_of_ble_eq_true rfl) (by decide) (by decide) (fun ee s22 hq => ?_) (fun vv s22 hq => ?_)))
        · obtain ⟨Is22, Fs22, hv, hps22⟩ := hq; cases hv
        obtain ⟨Is22, Fs22, hv, hps22⟩ := hq
        have hps22p := And.intro hps22.1 (hps22.2.1)
        cases hv
        have Gs22 := fm_tq Gs14 Fs22 rfl rfl
        have b24 := bi_77 Is22
        have ws22_75 : iI s22 75 = iI s14 75 := fm_iq Fs22 rfl
        have b25 := bi_79 Is22
        have b26 := bi_78 Is22
        show DS l s0 D A dT 210 (rkR (24 + 3 * (r + 1))) [77, 79, 80, 78] [] (T) Q (T) 76 [(0, .ref (A 179))] [] s22
        refine d_lift (fun k ws X h => z_aload_n X (x := A 179) rfl (List.Mem.head _) h) (d_callV 179 (As := []) (st := []) rfl rfl (by decide) rfl (hO Is22 (by first | exact oq_abf741e9 hps22.1 g16 ws14_77 hps14 ws10_75 ws7_75 b2.2 | omega) (by first | exact oq_eba1d630 p1 hps22.2.1 ws14_78 ws10_78 ws7_78 | omega) (by first | exact oq_6b35565f b25.1 hps22.2.2.2 hps22.2.1 | omega) (by first | exact oq_f5a67a2f hps22.1 g16 ws14_77 hps14 ws10_75 ws7_75 b2.2 | omega) (fun q h => hti q ((by decide : ∀ q ∈ ([77, 75, 78, 79, 81] : List Nat), q ∈ ([77, 75, 78, 79, 81] : List Nat)) q h)) (fun a h => hta a ((by decide : ∀ q ∈ ([157, 158, 161] : List Nat), q ∈ ([157, 158, 161] : List Nat)) a h))) ⟨rfl, rfl⟩ ⟨(show (12 + (24 + 3 * (r) + 2)) + 1 ≤ (12 + (24 + 3 * (r + 1))) from oq_853f7f04 r), (show 8 + (mNL (miB 212) + 11) + (500 + 45 * (24 + 3 * (r) + 2)) ≤ (500 + 45 * (24 + 3 * (r + 1))) from oq_4ce40754 r)⟩ (Nat.le_of_ble_eq_true rfl) (by decide) (by decide) (fun ee s27 hq => ?_) (fun vv s27 hq => ?_))
        · obtain ⟨Is27, Fs27, e28, hv, hrs27, hps27⟩ := hq; cases hv
        obtain ⟨Is27, Fs27, e28, hv, hrs27, hps27⟩ := hq
        have hps27p := And.intro hps27.1 (hps27.2.1)
        cases hv
        have Gs27 := fm_tq Gs22 Fs27 rfl rfl
        have b29 := bi_77 Is27
        have ws27_75 : iI s27 75 = iI s22 75 := fm_iq Fs27 rfl
        have b30 := bi_79 Is27
        have b31 := bi_78 Is27
        show DS l s0 D A dT 210 (rkR (24 + 3 * (r + 1))) [77, 79, 80, 78] [] (T) Q (T) 80 [(0, .ref (A 179))] [.int (Int32.ofInt e28)] s27
        refine d_lift (fun k ws X h => z_store_n X (lv' := [(1, .int (Int32.ofInt e28)), (0, .ref (A 179))]) rfl (by decide) (fun _ h => h) h) (d_lift (fun k ws X h => z_aload_n X (x := A 179) rfl (List.Mem.tail _ (List.Mem.head _)) h) (d_lift (fun k ws X h => z_bipush X rfl h) (d_callV 179 (As := [.int (Int32.ofInt 93)]) (st := []) rfl rfl (by decide) rfl (d_sign G Is27 (by first | exact ⟨by decide, by decide⟩ | omega) (by first | exact oq_b8da2b9d hps27.2.2.1 hps22.1 g16 ws14_77 hps14 ws10_75 ws7_75 b2.2 | omega) (fun q h => hti q ((by decide : ∀ q ∈ ([77, 75, 78, 79, 81] : List Nat), q ∈ ([77, 75, 78, 79, 81] : List Nat)) q h)) (fun a h => hta a ((by decide : ∀ q ∈ ([157, 158, 161] : List Nat), q ∈ ([157, 158, 161] : List Nat)) a h))) ⟨rfl, rfl⟩ ⟨(show 8 + 1 ≤ (12 + (24 + 3 * (r + 1))) from oq_91dbadf4 r), (show 8 + (mNL (miB 204) + 11) + 141 ≤ (500 + 45 * (24 + 3 * (r + 1))) from oq_da5feea9 r)⟩ (Nat.le_of_ble_eq_true rfl) (by decide) (by decide) (fun ee s32 hq => ?_) (fun vv s32 hq => ?_))))
        · obtain ⟨Is32, Fs32, hv, hps32⟩ := hq; cases hv
        obtain ⟨Is32, Fs32, hv, hps32⟩ := hq
        have hps32p := hps32.1
        cases hv
        have Gs32 := fm_tq Gs27 Fs32 rfl rfl
        have b34 := bi_77 Is32
        have ws32_75 : iI s32 75 = iI s27 75 := fm_iq Fs32 rfl
        have b35 := bi_79 Is32
        have ws32_78 : iI s32 78 = iI s27 78 := fm_iq Fs32 rfl
        show DS l s0 D A dT 210 (rkR (24 + 3 * (r + 1))) [77, 79, 80, 78] [] (T) Q (T) 87 [(1, .int (Int32.ofInt e28)), (0, .ref (A 179))] [] s32
        refine d_lift (fun k ws X h => z_aload_n X (x := A 179) rfl (List.Mem.tail _ (List.Mem.head _)) h) (d_lift (fun k ws X h => w_dup X.1 (ax_d X (show cdA 210 88 = some (.dup, 1, 0, 0, 0) from rfl)) rfl h) (d_getI 179 rfl (by decide) rfl rfl (hti 78 (by decide)) ?_))
        have b36 := bi_78 Is32
        refine d_lift (fun k ws X h => z_const X rfl h) (d_lift (fun k ws X h => z_sub X rfl h) (d_putI 179 rfl (by decide) rfl rfl (by decide) rfl rfl rfl (show 78 ∈ _ by decide) (show (0 : Int) ≤ ((iI s32 78) - 1) ∧ ((iI s32 78) - 1) ≤ 8 by first | exact ⟨oq_534c96f9 ws32_78 hps27.1 hps22.2.1 ws14_78 ws10_78 ws7_78 b4.1, oq_d7fe5c3c b36.2⟩ | omega) ⟨by first | exact oq_c1e961c7 b36.1 | omega, by first | exact oq_22bc6706 b36.2 | omega⟩ (d_mono (T' := T) (fun _ h => Or.inr h) (fun _ _ h => h) (ds_gen (fun s37 hs37 => ?_)))))
        have Is37 : Bd s37 := eqB hs37 (bd_I Is32 (show (0 : Int) ≤ ((iI s32 78) - 1) ∧ ((iI s32 78) - 1) ≤ 8 by first | exact ⟨oq_534c96f9 ws32_78 hps27.1 hps22.2.1 ws14_78 ws10_78 ws7_78 b4.1, oq_d7fe5c3c b36.2⟩ | omega) ⟨by first | exact oq_c1e961c7 b36.1 | omega, by first | exact oq_22bc6706 b36.2 | omega⟩)
        have Fs37 := eqF hs37 (fm_I Gs32 (inl_ok (a := 78) rfl))
        have vs37 : iI s37 78 = ((iI s32 78) - 1) := eqI hs37 (iI_u ⟨by first | exact oq_c1e961c7 b36.1 | omega, by first | exact oq_22bc6706 b36.2 | omega⟩)
        have ws37_77 : iI s37 77 = iI s32 77 := eqI hs37 rfl
        have ws37_75 : iI s37 75 = iI s32 75 := eqI hs37 rfl
        have ws37_79 : iI s37 79 = iI s32 79 := eqI hs37 rfl
        refine d_lift (fun k ws X h => z_load_n X (x := e28) rfl (List.Mem.head _) h) ?_
        exact d_iret rfl (nar_ret (by first | exact hps27.2.2.2.2.2.2 | omega)) (Or.inr rfl) rfl (fun _ h => h) (hQ _ _ ⟨Is37, Fs37, e28, rfl, hrs27, by first | exact ⟨oq_9391e35d vs37 ws32_78 hps27.1 hps22.2.1 ws14_78 ws10_78 ws7_78, oq_35525f1f ws37_77 hps32.1 hps27.2.1 hps22.1 ws14_77 ws10_77 hps7.1, oq_c0a6dc61 ws37_77 hps32.2.1 ws27_75 hps27.2.2.1 ws22_75 hps22.1 g16 ws14_75 ws14_77 hps14 ws10_75 ws7_75 b2.2, oq_e013ad0f g6, oq_9a0e9129 ws37_79 ws37_77 b35.1 hps32.2.2.2 hps32.2.1 ws27_75 ws22_75 ws14_75 ws10_75 ws7_75, oq_196cd904 ws37_77 hps32.1 hps27.2.1 hps22.1 ws14_77 ws10_77 hps7.1, hps27.2.2.2.2.2.2⟩ | omega⟩)
    ·
      refine d_lift (fun k ws X h => z_aload_n X (x := A 179) rfl (List.Mem.head _) h) (d_lift (fun k ws X h => z_const X rfl h) (d_callV 179 (As := [.int (Int32.ofInt 3)]) (st := []) rfl rfl (by decide) rfl (d_opens G Is10 (by first | exact ⟨by decide, by decide⟩ | omega) (by first | exact oq_69c1a7bc g12 ws10_77 hps10 hps7.2.2 b2.2 | omega) (by first | (clear hps7 p3 p2; omega) | (clear p3 p2; omega) | omega) (fun q h => hti q ((by decide : ∀ q ∈ ([77, 75, 78, 79, 81] : List Nat), q ∈ ([77, 75, 78, 79, 81] : List Nat)) q h)) (fun a h => hta a ((by decide : ∀ q ∈ ([157, 158, 161] : List Nat), q ∈ ([157, 158, 161] : List Nat)) a h))) ⟨rfl, rfl⟩ ⟨(show 7 + 1 ≤ (12 + (24 + 3 * (r + 1))) from oq_36eaf53c r), (show 8 + (mNL (miB 205) + 11) + 122 ≤ (500 + 45 * (24 + 3 * (r + 1))) from oq_2520a5c5 r)⟩ (Nat.le_of_ble_eq_true rfl) (by decide) (by decide) (fun ee s38 hq => ?_) (fun vv s38 hq => ?_)))
      · obtain ⟨Is38, Fs38, hv, hps38⟩ := hq; cases hv
      obtain ⟨Is38, Fs38, hv, hps38⟩ := hq
      have hps38p := And.intro hps38.1 (hps38.2.1)
      cases hv
      have Gs38 := fm_tq Gs10 Fs38 rfl rfl
      have b40 := bi_77 Is38
      have ws38_75 : iI s38 75 = iI s10 75 := fm_iq Fs38 rfl
      have b41 := bi_79 Is38
      have b42 := bi_78 Is38
      show DS l s0 D A dT 210 (rkR (24 + 3 * (r + 1))) [77, 79, 80, 78] [] (T) Q (T) 33 [(0, .ref (A 179))] [] s38
      refine d_lift (fun k ws X h => z_aload_n X (x := A 179) rfl (List.Mem.head _) h) (d_callV 179 (As := []) (st := []) rfl rfl (by decide) rfl (hT Is38 (by first | exact oq_fb308048 hps38.1 g12 ws10_77 hps10 hps7.2.2 b2.2 | omega) (by first | exact oq_e6a9dcd2 p1 hps38.2.1 ws10_78 ws7_78 | omega) (by first | exact oq_6b35565f b41.1 hps38.2.2.2 hps38.2.1 | omega) (by first | exact oq_f26382f6 hps38.1 g12 ws10_77 hps10 hps7.2.2 b2.2 | omega) (fun q h => hti q ((by decide : ∀ q ∈ ([77, 75, 78, 79, 81] : List Nat), q ∈ ([77, 75, 78, 79, 81] : List Nat)) q h)) (fun a h => hta a ((by decide : ∀ q ∈ ([157, 158, 161] : List Nat), q ∈ ([157, 158, 161] : List Nat)) a h))) ⟨rfl, rfl⟩ ⟨(show (12 + (24 + 3 * (r))) + 1 ≤ (12 + (24 + 3 * (r + 1))) from oq_02269255 r), (show 8 + (mNL (miB 210) + 11) + (500 + 45 * (24 + 3 * (r))) ≤ (500 + 45 * (24 + 3 * (r + 1))) from oq_bcf847ad r)⟩ (Nat.le_of_ble_eq_true rfl) (by decide) (by decide) (fun ee s43 hq => ?_) (fun vv s43 hq => ?_))
      · obtain ⟨Is43, Fs43, e44, hv, hrs43, hps43⟩ := hq; cases hv
      obtain ⟨Is43, Fs43, e44, hv, hrs43, hps43⟩ := hq
      have hps43p := And.intro hps43.1 (hps43.2.1)
      cases hv
      have Gs43 := fm_tq Gs38 Fs43 rfl rfl
      have b45 := bi_77 Is43
      have ws43_75 : iI s43 75 = iI s38 75 := fm_iq Fs43 rfl
      have b46 := bi_79 Is43
      have b47 := bi_78 Is43
      show DS l s0 D A dT 210 (rkR (24 + 3 * (r + 1))) [77, 79, 80, 78] [] (T) Q (T) 37 [(0, .ref (A 179))] [.int (Int32.ofInt e44)] s43
      have N48 : ∀ e49 : Int, (((e44 ≠ 0) ∧ e49 = 0) ∨ ((e44 = 0) ∧ e49 = 1)) → DS l s0 D A dT 210 (rkR (24 + 3 * (r + 1))) [77, 79, 80, 78] [] (T) Q (T) 45 [(0, .ref (A 179))] [.int (Int32.ofInt e49)] s43 := by
        intro e49 he49
        have re49 : 0 ≤ e49 ∧ e49 ≤ 1 := by first | (clear he49 hps43 hps38 hps7 p3 p2; omega) | (clear hps43 hps38 hps7 p3 p2; omega) | omega
        refine d_lift (fun k ws X h => z_store_n X (lv' := [(1, .int (Int32.ofInt e49)), (0, .ref (A 179))]) rfl (by decide) (fun _ h => h) h) (d_lift (fun k ws X h => z_aload_n X (x := A 179) rfl (List.Mem.tail _ (List.Mem.head _)) h) (d_lift (fun k ws X h => w_dup X.1 (ax_d X (show cdA 210 47 = some (.dup, 1, 0, 0, 0) from rfl)) rfl h) (d_getI 179 rfl (by decide) rfl rfl (hti 78 (by decide)) ?_)))
        have b50 := bi_78 Is43
        refine d_lift (fun k ws X h => z_const X rfl h) (d_lift (fun k ws X h => z_sub X rfl h) (d_putI 179 rfl (by decide) rfl rfl (by decide) rfl rfl rfl (show 78 ∈ _ by decide) (show (0 : Int) ≤ ((iI s43 78) - 1) ∧ ((iI s43 78) - 1) ≤ 8 by first | exact ⟨oq_4cec3bfa hps43.1 hps38.2.1 ws10_78 ws7_78 b4.1, oq_d7fe5c3c b50.2⟩ | omega) ⟨by first | exact oq_c1e961c7 b50.1 | omega, by first | exact oq_22bc6706 b50.2 | omega⟩ (d_mono (T' := T) (fun _ h => Or.inr h) (fun _ _ h => h) (ds_gen (fun s51 hs51 => ?_)))))
        have Is51 : Bd s51 := eqB hs51 (bd_I Is43 (show (0 : Int) ≤ ((iI s43 78) - 1) ∧ ((iI s43 78) - 1) ≤ 8 by first | exact ⟨oq_4cec3bfa hps43.1 hps38.2.1 ws10_78 ws7_78 b4.1, oq_d7fe5c3c b50.2⟩ | omega) ⟨by first | exact oq_c1e961c7 b50.1 | omega, by first | exact oq_22bc6706 b50.2 | omega⟩)
        have Fs51 := eqF hs51 (fm_I Gs43 (inl_ok (a := 78) rfl))
        have vs51 : iI s51 78 = ((iI s43 78) - 1) := eqI hs51 (iI_u ⟨by first | exact oq_c1e961c7 b50.1 | omega, by first | exact oq_22bc6706 b50.2 | omega⟩)
        have ws51_77 : iI s51 77 = iI s43 77 := eqI hs51 rfl
        have ws51_75 : iI s51 75 = iI s43 75 := eqI hs51 rfl
        have ws51_79 : iI s51 79 = iI s43 79 := eqI hs51 rfl
        refine d_lift (fun k ws X h => z_load_n X (x := e49) rfl (List.Mem.head _) h) ?_
        exact d_iret rfl (nar_ret (by first | exact oq_78ade64d re49.2 re49.1 he49 | omega)) (Or.inr rfl) rfl (fun _ h => h) (hQ _ _ ⟨Is51, Fs51, e49, rfl, ⟨by first | exact oq_fa4e5087 re49.1 | omega, by first | exact oq_22e1e6b0 re49.2 | omega⟩, by first | exact ⟨oq_2ae1798d vs51 ws7_78 ws10_78 hps38.2.1 hps43.1, oq_ebda117e ws51_77 hps7.1 ws10_77 hps38.1 hps43.2.1, oq_db6a6d1e ws51_77 hps43.2.2.1 hps38.1 g12 ws10_77 hps10 hps7.2.2 b2.2, oq_e013ad0f g6, oq_97db85d0 ws51_79 ws51_77 b46.1 hps43.2.2.2.2.1 ws38_75 ws10_75 ws7_75, oq_4fd60e17 ws51_77 hps43.2.1 hps38.1 ws10_77 hps7.1, oq_78ade64d re49.2 re49.1 he49⟩ | omega⟩)
      refine d_br (bo_ne _ _) bx_ne (fun k ws X h1 h2 => z_if_ne X (t := 44) rfl (by decide) hrs43 h1 h2) (fun g52 => ?_) (fun g52 => ?_)
      ·
        exact d_lift (fun k ws X h => z_const X rfl h) (N48 _ (Or.inl ⟨g52, rfl⟩))
      ·
        exact d_lift (fun k ws X h => z_const X rfl h) (d_lift (fun k ws X h => z_goto X (t := 45) rfl (by decide) h) (N48 _ (Or.inr (⟨g52, rfl⟩))))
  ·
    refine d_lift (fun k ws X h => z_const X rfl h) ?_
    exact d_iret rfl (nar_ret (by first | exact Or.inl (by decide) | omega)) (Or.inr rfl) rfl (fun _ h => h) (hQ _ _ ⟨I, F, 0, rfl, (by decide), by first | exact ⟨by decide, by decide, Or.inl (by decide), oq_4bed1c3e g6 b5.1, oq_6a3c9b31 g6 b5.1, oq_a49e6adf g6 b5.1, Or.inl (by decide)⟩ | omega⟩)
set_option maxHeartbeats 16000000 in
theorem d_andsS (G : GX l s0 D tys a0 dT) {r : Nat} (hT : ∀ {s : PS} {T : TT}, Bd s → (iI s 77 ≤ 203) → (iI s 78 + ((r : Nat) : Int) = 7) → (iI s 78 = 7 → iI s 79 ≠ 0) → (iI s 79 = 0 → iI s 77 ≤ 202) → (∀ q ∈ ([77, 75, 78, 79, 81] : List Nat), T.1 q) → (∀ a ∈ ([157, 158, 161] : List Nat), ∀ j, j < (bA a).2.2 → T.2 a j) → CD l s0 D A dT 210 (rkR (24 + 3 * (r))) [77, 79, 80, 78] [] T T [.ref (A 179)] s (fun o t => Bd t ∧ Fm [77, 79, 80, 78] [] s t ∧ ∃ e, o = .inl (some (.int (Int32.ofInt e))) ∧ rng e ∧ (iI t 78 = iI s 78 ∧ iI s 77 ≤ iI t 77 ∧ (iI t 77 = iI s 77 ∨ iI t 77 ≤ 203) ∧ (iI s 79 ≠ 0 → iI t 79 ≠ 0) ∧ (iI t 79 = 0 → iI t 77 ≤ iI s 75) ∧ (iI s 79 = 0 → iI s 77 < iI t 77) ∧ (e = 0 ∨ e = 1)))) (I : Bd s) (p0 : iI s 77 ≤ 203) (p1 : iI s 78 + ((r : Nat) : Int) = 7) (p2 : iI s 78 = 7 → iI s 79 ≠ 0) (p3 : iI s 79 = 0 → iI s 77 ≤ 202) {T : TT} (hti : ∀ q ∈ ([77, 75, 78, 79, 81] : List Nat), T.1 q) (hta : ∀ a ∈ ([157, 158, 161] : List Nat), ∀ j, j < (bA a).2.2 → T.2 a j) : CD l s0 D A dT 211 (rkR (24 + 3 * (r) + 1)) [77, 79, 80, 78] [] T (T) [.ref (A 179)] s (fun o t => Bd t ∧ Fm [77, 79, 80, 78] [] s t ∧ ∃ e, o = .inl (some (.int (Int32.ofInt e))) ∧ rng e ∧ (iI t 78 = iI s 78 ∧ iI s 77 ≤ iI t 77 ∧ (iI t 77 = iI s 77 ∨ iI t 77 ≤ 203) ∧ (iI s 79 ≠ 0 → iI t 79 ≠ 0) ∧ (iI t 79 = 0 → iI t 77 ≤ iI s 75) ∧ (iI s 79 = 0 → iI s 77 < iI t 77) ∧ (e = 0 ∨ e = 1))) := by
  refine cd_of G (by decide) (Nat.le_of_ble_eq_true rfl) (fun Q hQ => ?_)
  have I0 := I
  show DS l s0 D A dT 211 (rkR (24 + 3 * (r) + 1)) [77, 79, 80, 78] [] (T) Q (T) 0 [(0, .ref (A 179))] [] s
  have F : Fm [77, 79, 80, 78] [] s s := fm_rf _ _ s
  have b1 := bi_77 I
  have b2 := bi_75 I
  have b3 := bi_79 I
  have b4 := bi_78 I
  have L5 : ∀ (n : Nat) (t : PS) (v : Int), Bd t → Fm [77, 79, 80, 78] [] s t → (iI t 78 = iI s 78 ∧ iI s 77 ≤ iI t 77 ∧ (iI t 77 = iI s 77 ∨ iI t 77 ≤ 203) ∧ (iI s 79 ≠ 0 → iI t 79 ≠ 0) ∧ (iI t 79 = 0 → iI t 77 ≤ iI s 75) ∧ (iI s 79 = 0 → iI s 77 < iI t 77) ∧ iI t 75 = iI s 75 ∧ (v = 0 ∨ v = 1)) → (iI t 75 - iI t 77 : Int).toNat < n → (∀ (t' : PS) (v' : Int), Bd t' → Fm [77, 79, 80, 78] [] s t' → (iI t' 78 = iI s 78 ∧ iI s 77 ≤ iI t' 77 ∧ (iI t' 77 = iI s 77 ∨ iI t' 77 ≤ 203) ∧ (iI s 79 ≠ 0 → iI t' 79 ≠ 0) ∧ (iI t' 79 = 0 → iI t' 77 ≤ iI s 75) ∧ (iI s 79 = 0 → iI s 77 < iI t' 77) ∧ iI t' 75 = iI s 75 ∧ (v' = 0 ∨ v' = 1)) → DS l s0 D A dT 211 (rkR (24 + 3 * (r) + 1)) [77, 79, 80, 78] [] (T) Q (T) 55 [(0, .ref (A 179)), (1, .int (Int32.ofInt v'))] [] t') → DS l s0 D A dT 211 (rkR (24 + 3 * (r) + 1)) [77, 79, 80, 78] [] (T) Q (T) 5 [(0, .ref (A 179)), (1, .int (Int32.ofInt v))] [] t := by
    intro n
    induction n with
    | zero =>
      intro t v I F hi hm kx
      exact absurd hm (Nat.not_lt_zero _)
    | succ n ih =>
      intro t v I F hi hm kx
      have b1001 := bi_77 I
      have b1002 := bi_75 I
      have b1003 := bi_79 I
      have b1004 := bi_78 I
      refine d_lift (fun k ws X h => z_aload_n X (x := A 179) rfl (List.Mem.head _) h) (d_getI 179 rfl (by decide) rfl rfl (hti 79 (by decide)) ?_)
      have b1005 := bi_79 I
      refine d_br (bo_ne _ _) bx_ne (fun k ws X h1 h2 => z_if_ne X (t := 55) rfl (by decide) (rng_to _) h1 h2) (fun g1006 => ?_) (fun g1006 => ?_)
      ·
        refine d_lvs (lv := [(0, .ref (A 179)), (1, .int (Int32.ofInt v))]) (List.forall_mem_cons.mpr ⟨(List.Mem.head _), (List.forall_mem_cons.mpr ⟨(List.Mem.tail _ (List.Mem.head _)), (fun q h => absurd h List.not_mem_nil)⟩)⟩) ?_
        exact kx _ v I F (by first | exact ⟨hi.1, hi.2.1, hi.2.2.1, hi.2.2.2.1, hi.2.2.2.2.1, hi.2.2.2.2.2.1, hi.2.2.2.2.2.2.1, hi.2.2.2.2.2.2.2⟩ | omega)
      ·
        refine d_lift (fun k ws X h => z_aload_n X (x := A 179) rfl (List.Mem.head _) h) (d_callV 179 (As := []) (st := []) rfl rfl (by decide) rfl (d_wordHere G I (by first | exact oq_179d6548 hi.2.2.1 p0 | omega) (fun q h => hti q ((by decide : ∀ q ∈ ([77, 75, 78, 79, 81] : List Nat), q ∈ ([77, 75, 78, 79, 81] : List Nat)) q h)) (fun a h => hta a ((by decide : ∀ q ∈ ([157, 158, 161] : List Nat), q ∈ ([157, 158, 161] : List Nat)) a h))) ⟨rfl, rfl⟩ ⟨(show 8 + 1 ≤ (12 + (24 + 3 * (r) + 1)) from oq_39e70b4f r), (show 8 + (mNL (miB 201) + 11) + 141 ≤ (500 + 45 * (24 + 3 * (r) + 1)) from oq_c22861ba r)⟩ (Nat.le_of_ble_eq_true rfl) (by decide) (by decide) (fun ee s1007 hq => ?_) (fun vv s1007 hq => ?_))
        · obtain ⟨Is1007, Fs1007, e1008, hv, hrs1007, hps1007⟩ := hq; cases hv
        obtain ⟨Is1007, Fs1007, e1008, hv, hrs1007, hps1007⟩ := hq
        have hps1007p := hps1007.1
        cases hv
        have Gs1007 := fm_tq F Fs1007 rfl rfl
        have b1009 := bi_77 Is1007
        have ws1007_75 : iI s1007 75 = iI t 75 := fm_iq Fs1007 rfl
        have ws1007_79 : iI s1007 79 = iI t 79 := fm_iq Fs1007 rfl
        have ws1007_78 : iI s1007 78 = iI t 78 := fm_iq Fs1007 rfl
        show DS l s0 D A dT 211 (rkR (24 + 3 * (r) + 1)) [77, 79, 80, 78] [] (T) Q (T) 16 [(0, .ref (A 179)), (1, .int (Int32.ofInt v))] [.int (Int32.ofInt e1008)] s1007
        refine d_lift (fun k ws X h => z_const X rfl h) (d_lift (fun k ws X h => z_bipush X rfl h) (d_lift (fun k ws X h => z_const X rfl h) (d_lift (fun k ws X h => z_const X rfl h) (d_lift (fun k ws X h => z_const X rfl h) (d_lift (fun k ws X h => z_const X rfl h) (d_callT (As := [.int (Int32.ofInt 1), .int (Int32.ofInt 14), .int (Int32.ofInt 4), .int (Int32.ofInt 0), .int (Int32.ofInt 0), .int (Int32.ofInt 0)]) (st := [.int (Int32.ofInt e1008)]) rfl rfl (d_word G Is1007 (by first | exact ⟨by decide, by decide⟩ | omega) (by first | exact ⟨by decide, by decide⟩ | omega) (by first | exact ⟨by decide, by decide⟩ | omega) (by first | exact ⟨by decide, by decide⟩ | omega) (by first | exact ⟨by decide, by decide⟩ | omega) (by first | exact ⟨by decide, by decide⟩ | omega) (fun q h => hti q ((by decide : ∀ q ∈ ([] : List Nat), q ∈ ([77, 75, 78, 79, 81] : List Nat)) q h)) (fun a h => hta a ((by decide : ∀ q ∈ ([] : List Nat), q ∈ ([157, 158, 161] : List Nat)) a h))) ⟨rfl, rfl⟩ ⟨(show 6 + 1 ≤ (12 + (24 + 3 * (r) + 1)) from oq_daac07eb r), (show 8 + (mNL (miB 202) + 11) + 100 ≤ (500 + 45 * (24 + 3 * (r) + 1)) from oq_40ed5dd2 r)⟩ (Nat.le_of_ble_eq_true rfl) (by decide) (by decide) (fun ee s1010 hq => ?_) (fun vv s1010 hq => ?_)))))))
        · obtain ⟨Is1010, Fs1010, e1011, hv, hrs1010, hps1010⟩ := hq; cases hv
        obtain ⟨Is1010, Fs1010, e1011, hv, hrs1010, hps1010⟩ := hq
        cases hv
        have Gs1010 := fm_tq Gs1007 Fs1010 rfl rfl
        have ws1010_77 : iI s1010 77 = iI s1007 77 := fm_iq Fs1010 rfl
        have ws1010_75 : iI s1010 75 = iI s1007 75 := fm_iq Fs1010 rfl
        have ws1010_79 : iI s1010 79 = iI s1007 79 := fm_iq Fs1010 rfl
        have ws1010_78 : iI s1010 78 = iI s1007 78 := fm_iq Fs1010 rfl
        show DS l s0 D A dT 211 (rkR (24 + 3 * (r) + 1)) [77, 79, 80, 78] [] (T) Q (T) 26 [(0, .ref (A 179)), (1, .int (Int32.ofInt v))] [.int (Int32.ofInt e1011), .int (Int32.ofInt e1008)] s1010
        refine d_br (bo_ne _ _) bx_ne (fun k ws X h1 h2 => z_icmp_ne X (t := 55) rfl (by decide) hrs1007 hrs1010 h1 h2) (fun g1012 => ?_) (fun g1012 => ?_)
        ·
          refine d_lvs (lv := [(0, .ref (A 179)), (1, .int (Int32.ofInt v))]) (List.forall_mem_cons.mpr ⟨(List.Mem.head _), (List.forall_mem_cons.mpr ⟨(List.Mem.tail _ (List.Mem.head _)), (fun q h => absurd h List.not_mem_nil)⟩)⟩) ?_
          exact kx _ v Is1010 Gs1010 (by first | exact ⟨oq_878618b1 ws1010_78 ws1007_78 hi.1, oq_6f31d0da ws1010_77 hi.2.1 hps1007.1, oq_4d38c61b ws1010_77 hps1007.2.1 b1002.2 hi.2.2.1 p0, oq_67b737cd g1006 hi.2.2.2.1 b3.1, oq_613e077a ws1010_77 hps1007.2.1 g1006 hi.2.2.2.2.2.2.1 hi.2.2.2.2.1, oq_f8cf8f83 ws1010_77 hps1007.1 hi.2.2.2.2.2.1 b3.1, oq_d0d2714e ws1010_75 hi.2.2.2.2.2.2.1 ws1007_75, hi.2.2.2.2.2.2.2⟩ | omega)
        ·
          refine d_lift (fun k ws X h => z_aload_n X (x := A 179) rfl (List.Mem.head _) h) (d_callV 179 (As := []) (st := []) rfl rfl (by decide) rfl (d_skipWord G Is1010 (by first | exact oq_853b39fa g1012 ws1010_77 hps1010 hps1007.2.2 b1002.2 | omega) (fun q h => hti q ((by decide : ∀ q ∈ ([77, 75, 78, 79, 81] : List Nat), q ∈ ([77, 75, 78, 79, 81] : List Nat)) q h)) (fun a h => hta a ((by decide : ∀ q ∈ ([157, 158, 161] : List Nat), q ∈ ([157, 158, 161] : List Nat)) a h))) ⟨rfl, rfl⟩ ⟨(show 7 + 1 ≤ (12 + (24 + 3 * (r) + 1)) from oq_ede76fc4 r), (show 8 + (mNL (miB 203) + 11) + 121 ≤ (500 + 45 * (24 + 3 * (r) + 1)) from oq_71ab51d5 r)⟩ (Nat.le_of_ble_eq_true rfl) (by decide) (by decide) (fun ee s1013 hq => ?_) (fun vv s1013 hq => ?_))
          · obtain ⟨Is1013, Fs1013, hv, hps1013⟩ := hq; cases hv
          obtain ⟨Is1013, Fs1013, hv, hps1013⟩ := hq
          have hps1013p := hps1013.1
          cases hv
          have Gs1013 := fm_tq Gs1010 Fs1013 rfl rfl
          have b1015 := bi_77 Is1013
          have ws1013_75 : iI s1013 75 = iI s1010 75 := fm_iq Fs1013 rfl
          have ws1013_79 : iI s1013 79 = iI s1010 79 := fm_iq Fs1013 rfl
          have ws1013_78 : iI s1013 78 = iI s1010 78 := fm_iq Fs1013 rfl
          show DS l s0 D A dT 211 (rkR (24 + 3 * (r) + 1)) [77, 79, 80, 78] [] (T) Q (T) 33 [(0, .ref (A 179)), (1, .int (Int32.ofInt v))] [] s1013
          refine d_lift (fun k ws X h => z_aload_n X (x := A 179) rfl (List.Mem.head _) h) (d_callV 179 (As := []) (st := []) rfl rfl (by decide) rfl (hT Is1013 (by first | exact oq_aed112bd hps1013.2 g1012 ws1010_75 ws1010_77 hps1010 ws1007_75 hps1007.2.2 b1002.2 | omega) (by first | exact oq_c128dca8 ws1013_78 p1 ws1010_78 ws1007_78 hi.1 | omega) (by first | exact oq_022cbb1f ws1013_78 ws1010_78 ws1007_78 g1006 hi.2.2.2.1 hi.1 b3.1 p2 | omega) (by first | exact oq_7df43967 hps1013.2 g1012 ws1010_75 ws1010_77 hps1010 ws1007_75 hps1007.2.2 b1002.2 | omega) (fun q h => hti q ((by decide : ∀ q ∈ ([77, 75, 78, 79, 81] : List Nat), q ∈ ([77, 75, 78, 79, 81] : List Nat)) q h)) (fun a h => hta a ((by decide : ∀ q ∈ ([157, 158, 161] : List Nat), q ∈ ([157, 158, 161] : List Nat)) a h))) ⟨rfl, rfl⟩ ⟨(show (12 + (24 + 3 * (r))) + 1 ≤ (12 + (24 + 3 * (r) + 1)) from oq_03e50da9 r), (show 8 + (mNL (miB 210) + 11) + (500 + 45 * (24 + 3 * (r))) ≤ (500 + 45 * (24 + 3 * (r) + 1)) from oq_cc4dfda7 r)⟩ (Nat.le_of_ble_eq_true rfl) (by decide) (by decide) (fun ee s1016 hq => ?_) (fun vv s1016 hq => ?_))
          · obtain ⟨Is1016, Fs1016, e1017, hv, hrs1016, hps1016⟩ := hq; cases hv
          obtain ⟨Is1016, Fs1016, e1017, hv, hrs1016, hps1016⟩ := hq
          have hps1016p := And.intro hps1016.1 (hps1016.2.1)
          cases hv
          have Gs1016 := fm_tq Gs1013 Fs1016 rfl rfl
          have b1018 := bi_77 Is1016
          have ws1016_75 : iI s1016 75 = iI s1013 75 := fm_iq Fs1016 rfl
          have b1019 := bi_79 Is1016
          have b1020 := bi_78 Is1016
          show DS l s0 D A dT 211 (rkR (24 + 3 * (r) + 1)) [77, 79, 80, 78] [] (T) Q (T) 37 [(0, .ref (A 179)), (1, .int (Int32.ofInt v))] [.int (Int32.ofInt e1017)] s1016
          refine d_lift (fun k ws X h => z_store_n X (lv' := [(2, .int (Int32.ofInt e1017)), (0, .ref (A 179)), (1, .int (Int32.ofInt v))]) rfl (by decide) (fun _ h => h) h) (d_lift (fun k ws X h => z_load_n X (x := v) rfl (List.Mem.tail _ (List.Mem.tail _ (List.Mem.head _))) h) ?_)
          have N1021 : ∀ e1022 : Int, (((v = 0) ∧ e1022 = 0) ∨ ((v ≠ 0) ∧ (e1017 = 0) ∧ e1022 = 0) ∨ ((v ≠ 0) ∧ (e1017 ≠ 0) ∧ e1022 = 1)) → DS l s0 D A dT 211 (rkR (24 + 3 * (r) + 1)) [77, 79, 80, 78] [] (T) Q (T) 51 [(2, .int (Int32.ofInt e1017)), (0, .ref (A 179)), (1, .int (Int32.ofInt v))] [.int (Int32.ofInt e1022)] s1016 := by
            intro e1022 he1022
            have re1022 : 0 ≤ e1022 ∧ e1022 ≤ 1 := by first | (clear he1022 hps1016 hps1013 hps1007 p3 p2; omega) | (clear hps1016 hps1013 hps1007 p3 p2; omega) | omega
            refine d_lift (fun k ws X h => z_store_n X (lv' := [(1, .int (Int32.ofInt e1022)), (2, .int (Int32.ofInt e1017)), (0, .ref (A 179))]) rfl (by decide) (fun _ h => h) h) (d_lift (fun k ws X h => z_goto X (t := 5) rfl (by decide) h) (d_lvs (lv := [(0, .ref (A 179)), (1, .int (Int32.ofInt e1022))]) (List.forall_mem_cons.mpr ⟨(List.Mem.tail _ (List.Mem.tail _ (List.Mem.head _))), (List.forall_mem_cons.mpr ⟨(List.Mem.head _), (fun q h => absurd h List.not_mem_nil)⟩)⟩) ?_))
            exact ih _ e1022 Is1016 Gs1016 (by first | exact ⟨oq_469c7eaf hps1016.1 ws1013_78 ws1010_78 ws1007_78 hi.1, oq_df567ab1 hps1016.2.1 hps1013.1 ws1010_77 hi.2.1 hps1007.1, oq_fe8590e8 hps1016.2.2.1 hps1013.2 g1012 ws1010_75 ws1010_77 hps1010 ws1007_75 hps1007.2.2 b1002.2, oq_67b737cd g1006 hi.2.2.2.1 b3.1, oq_0a04dc49 b1019.1 hps1016.2.2.2.2.1 ws1013_75 ws1010_75 ws1007_75 hi.2.2.2.2.2.2.1, oq_2a02c81e hps1016.2.2.2.2.2.1 ws1013_79 hps1013.1 ws1010_79 ws1010_77 ws1007_79 hps1007.1 g1006 hi.2.1, oq_b4d295d9 ws1016_75 hi.2.2.2.2.2.2.1 ws1013_75 ws1010_75 ws1007_75, oq_31e518ae re1022.2 re1022.1⟩ | omega) (by first | exact qk_me hm (oq_3d279f51 ws1016_75 hps1016.2.2.2.2.2.1 ws1013_79 ws1013_75 hps1013.1 ws1010_79 ws1010_75 ws1010_77 ws1007_79 ws1007_75 hps1007.1 g1006) (oq_32b967f2 g1012 hps1010 hps1007.2.2 hps1007.1) | omega) kx
          refine d_br (bo_eq _ _) bx_eq (fun k ws X h1 h2 => z_if_eq X (t := 50) rfl (by decide) ⟨by first | exact oq_bde653e9 hi.2.2.2.2.2.2.2 | omega, by first | exact oq_4ad2cb8b hi.2.2.2.2.2.2.2 | omega⟩ h1 h2) (fun g1023 => ?_) (fun g1023 => ?_)
          ·
            exact d_lift (fun k ws X h => z_const X rfl h) (N1021 _ (Or.inl ⟨g1023, rfl⟩))
          ·
            refine d_lift (fun k ws X h => z_load_n X (x := e1017) rfl (List.Mem.head _) h) (d_br (bo_eq _ _) bx_eq (fun k ws X h1 h2 => z_if_eq X (t := 50) rfl (by decide) hrs1016 h1 h2) (fun g1024 => ?_) (fun g1024 => ?_))
            ·
              exact d_lift (fun k ws X h => z_const X rfl h) (N1021 _ (Or.inr (Or.inl ⟨g1023, g1024, rfl⟩)))
            ·
              exact d_lift (fun k ws X h => z_const X rfl h) (d_lift (fun k ws X h => z_goto X (t := 51) rfl (by decide) h) (N1021 _ (Or.inr (Or.inr (⟨g1023, g1024, rfl⟩)))))
  refine d_lift (fun k ws X h => z_aload_n X (x := A 179) rfl (List.Mem.head _) h) (d_callV 179 (As := []) (st := []) rfl rfl (by decide) rfl (hT I (by first | exact p0 | omega) (by first | exact p1 | omega) (by first | exact p2 | omega) (by first | exact p3 | omega) (fun q h => hti q ((by decide : ∀ q ∈ ([77, 75, 78, 79, 81] : List Nat), q ∈ ([77, 75, 78, 79, 81] : List Nat)) q h)) (fun a h => hta a ((by decide : ∀ q ∈ ([157, 158, 161] : List Nat), q ∈ ([157, 158, 161] : List Nat)) a h))) ⟨rfl, rfl⟩ ⟨(show (12 + (24 + 3 * (r))) + 1 ≤ (12 + (24 + 3 * (r) + 1)) from oq_03e50da9 r), (show 8 + (mNL (miB 210) + 11) + (500 + 45 * (24 + 3 * (r))) ≤ (500 + 45 * (24 + 3 * (r) + 1)) from oq_cc4dfda7 r)⟩ (Nat.le_of_ble_eq_true rfl) (by decide) (by decide) (fun ee s5 hq => ?_) (fun vv s5 hq => ?_))
  · obtain ⟨Is5, Fs5, e6, hv, hrs5, hps5⟩ := hq; cases hv
  obtain ⟨Is5, Fs5, e6, hv, hrs5, hps5⟩ := hq
  have hps5p := And.intro hps5.1 (hps5.2.1)
  cases hv
  have Gs5 := fm_tq F Fs5 rfl rfl
  have b7 := bi_77 Is5
  have ws5_75 : iI s5 75 = iI s 75 := fm_iq Fs5 rfl
  have b8 := bi_79 Is5
  have b9 := bi_78 Is5
  show DS l s0 D A dT 211 (rkR (24 + 3 * (r) + 1)) [77, 79, 80, 78] [] (T) Q (T) 4 [(0, .ref (A 179))] [.int (Int32.ofInt e6)] s5
  refine d_lift (fun k ws X h => z_store_n X (lv' := [(1, .int (Int32.ofInt e6)), (0, .ref (A 179))]) rfl (by decide) (fun _ h => h) h) (d_lvs (lv := [(0, .ref (A 179)), (1, .int (Int32.ofInt e6))]) (List.forall_mem_cons.mpr ⟨(List.Mem.tail _ (List.Mem.head _)), (List.forall_mem_cons.mpr ⟨(List.Mem.head _), (fun q h => absurd h List.not_mem_nil)⟩)⟩) (L5 ((iI s5 75 - iI s5 77 : Int).toNat + 1) s5 e6 Is5 Gs5 (by first | exact ⟨hps5.1, hps5.2.1, hps5.2.2.1, hps5.2.2.2.1, hps5.2.2.2.2.1, hps5.2.2.2.2.2.1, ws5_75, hps5.2.2.2.2.2.2⟩ | omega) (Nat.lt_succ_self _) ?_))
  intro s10 x11 Is10 Fs10 hs10
  have b12 := bi_77 Is10
  have b13 := bi_75 Is10
  have b14 := bi_79 Is10
  have b15 := bi_78 Is10
  refine d_lift (fun k ws X h => z_load_n X (x := x11) rfl (List.Mem.tail _ (List.Mem.head _)) h) ?_
  exact d_iret rfl (nar_ret (by first | exact hs10.2.2.2.2.2.2.2 | omega)) (Or.inr rfl) rfl (fun _ h => h) (hQ _ _ ⟨Is10, Fs10, x11, rfl, ⟨by first | exact oq_bde653e9 hs10.2.2.2.2.2.2.2 | omega, by first | exact oq_4ad2cb8b hs10.2.2.2.2.2.2.2 | omega⟩, by first | exact ⟨hs10.1, hs10.2.1, hs10.2.2.1, hs10.2.2.2.1, hs10.2.2.2.2.1, hs10.2.2.2.2.2.1, hs10.2.2.2.2.2.2.2⟩ | omega⟩)
set_option maxHeartbeats 16000000 in
theorem d_orsS (G : GX l s0 D tys a0 dT) {r : Nat} (hA : ∀ {s : PS} {T : TT}, Bd s → (iI s 77 ≤ 203) → (iI s 78 + ((r : Nat) : Int) = 7) → (iI s 78 = 7 → iI s 79 ≠ 0) → (iI s 79 = 0 → iI s 77 ≤ 202) → (∀ q ∈ ([77, 75, 78, 79, 81] : List Nat), T.1 q) → (∀ a ∈ ([157, 158, 161] : List Nat), ∀ j, j < (bA a).2.2 → T.2 a j) → CD l s0 D A dT 211 (rkR (24 + 3 * (r) + 1)) [77, 79, 80, 78] [] T T [.ref (A 179)] s (fun o t => Bd t ∧ Fm [77, 79, 80, 78] [] s t ∧ ∃ e, o = .inl (some (.int (Int32.ofInt e))) ∧ rng e ∧ (iI t 78 = iI s 78 ∧ iI s 77 ≤ iI t 77 ∧ (iI t 77 = iI s 77 ∨ iI t 77 ≤ 203) ∧ (iI s 79 ≠ 0 → iI t 79 ≠ 0) ∧ (iI t 79 = 0 → iI t 77 ≤ iI s 75) ∧ (iI s 79 = 0 → iI s 77 < iI t 77) ∧ (e = 0 ∨ e = 1)))) (I : Bd s) (p0 : iI s 77 ≤ 203) (p1 : iI s 78 + ((r : Nat) : Int) = 7) (p2 : iI s 78 = 7 → iI s 79 ≠ 0) (p3 : iI s 79 = 0 → iI s 77 ≤ 202) {T : TT} (hti : ∀ q ∈ ([77, 75, 78, 79, 81] : List Nat), T.1 q) (hta : ∀ a ∈ ([157, 158, 161] : List Nat), ∀ j, j < (bA a).2.2 → T.2 a j) : CD l s0 D A dT 212 (rkR (24 + 3 * (r) + 2)) [77, 79, 80, 78] [] T (T) [.ref (A 179)] s (fun o t => Bd t ∧ Fm [77, 79, 80, 78] [] s t ∧ ∃ e, o = .inl (some (.int (Int32.ofInt e))) ∧ rng e ∧ (iI t 78 = iI s 78 ∧ iI s 77 ≤ iI t 77 ∧ (iI t 77 = iI s 77 ∨ iI t 77 ≤ 203) ∧ (iI s 79 ≠ 0 → iI t 79 ≠ 0) ∧ (iI t 79 = 0 → iI t 77 ≤ iI s 75) ∧ (iI s 79 = 0 → iI s 77 < iI t 77) ∧ (e = 0 ∨ e = 1))) := by
  refine cd_of G (by decide) (Nat.le_of_ble_eq_true rfl) (fun Q hQ => ?_)
  have I0 := I
  show DS l s0 D A dT 212 (rkR (24 + 3 * (r) + 2)) [77, 79, 80, 78] [] (T) Q (T) 0 [(0, .ref (A 179))] [] s
  have F : Fm [77, 79, 80, 78] [] s s := fm_rf _ _ s
  have b1 := bi_77 I
  have b2 := bi_75 I
  have b3 := bi_79 I
  have b4 := bi_78 I
  have L5 : ∀ (n : Nat) (t : PS) (v : Int), Bd t → Fm [77, 79, 80, 78] [] s t → (iI t 78 = iI s 78 ∧ iI s 77 ≤ iI t 77 ∧ (iI t 77 = iI s 77 ∨ iI t 77 ≤ 203) ∧ (iI s 79 ≠ 0 → iI t 79 ≠ 0) ∧ (iI t 79 = 0 → iI t 77 ≤ iI s 75) ∧ (iI s 79 = 0 → iI s 77 < iI t 77) ∧ iI t 75 = iI s 75 ∧ (v = 0 ∨ v = 1)) → (iI t 75 - iI t 77 : Int).toNat < n → (∀ (t' : PS) (v' : Int), Bd t' → Fm [77, 79, 80, 78] [] s t' → (iI t' 78 = iI s 78 ∧ iI s 77 ≤ iI t' 77 ∧ (iI t' 77 = iI s 77 ∨ iI t' 77 ≤ 203) ∧ (iI s 79 ≠ 0 → iI t' 79 ≠ 0) ∧ (iI t' 79 = 0 → iI t' 77 ≤ iI s 75) ∧ (iI s 79 = 0 → iI s 77 < iI t' 77) ∧ iI t' 75 = iI s 75 ∧ (v' = 0 ∨ v' = 1)) → DS l s0 D A dT 212 (rkR (24 + 3 * (r) + 2)) [77, 79, 80, 78] [] (T) Q (T) 56 [(0, .ref (A 179)), (1, .int (Int32.ofInt v'))] [] t') → DS l s0 D A dT 212 (rkR (24 + 3 * (r) + 2)) [77, 79, 80, 78] [] (T) Q (T) 5 [(0, .ref (A 179)), (1, .int (Int32.ofInt v))] [] t := by
    intro n
    induction n with
    | zero =>
      intro t v I F hi hm kx
      exact absurd hm (Nat.not_lt_zero _)
    | succ n ih =>
      intro t v I F hi hm kx
      have b1001 := bi_77 I
      have b1002 := bi_75 I
      have b1003 := bi_79 I
      have b1004 := bi_78 I
      refine d_lift (fun k ws X h => z_aload_n X (x := A 179) rfl (List.Mem.head _) h) (d_getI 179 rfl (by decide) rfl rfl (hti 79 (by decide)) ?_)
      have b1005 := bi_79 I
      refine d_br (bo_ne _ _) bx_ne (fun k ws X h1 h2 => z_if_ne X (t := 56) rfl (by decide) (rng_to _) h1 h2) (fun g1006 => ?_) (fun g1006 => ?_)
      ·
        refine d_lvs (lv := [(0, .ref (A 179)), (1, .int (Int32.ofInt v))]) (List.forall_mem_cons.mpr ⟨(List.Mem.head _), (List.forall_mem_cons.mpr ⟨(List.Mem.tail _ (List.Mem.head _)), (fun q h => absurd h List.not_mem_nil)⟩)⟩) ?_
        exact kx _ v I F (by first | exact ⟨hi.1, hi.2.1, hi.2.2.1, hi.2.2.2.1, hi.2.2.2.2.1, hi.2.2.2.2.2.1, hi.2.2.2.2.2.2.1, hi.2.2.2.2.2.2.2⟩ | omega)
      ·
        refine d_lift (fun k ws X h => z_aload_n X (x := A 179) rfl (List.Mem.head _) h) (d_callV 179 (As := []) (st := []) rfl rfl (by decide) rfl (d_wordHere G I (by first | exact oq_179d6548 hi.2.2.1 p0 | omega) (fun q h => hti q ((by decide : ∀ q ∈ ([77, 75, 78, 79, 81] : List Nat), q ∈ ([77, 75, 78, 79, 81] : List Nat)) q h)) (fun a h => hta a ((by decide : ∀ q ∈ ([157, 158, 161] : List Nat), q ∈ ([157, 158, 161] : List Nat)) a h))) ⟨rfl, rfl⟩ ⟨(show 8 + 1 ≤ (12 + (24 + 3 * (r) + 2)) from oq_b9f2246e r), (show 8 + (mNL (miB 201) + 11) + 141 ≤ (500 + 45 * (24 + 3 * (r) + 2)) from oq_ae9e04d0 r)⟩ (Nat.le_of_ble_eq_true rfl) (by decide) (by decide) (fun ee s1007 hq => ?_) (fun vv s1007 hq => ?_))
        · obtain ⟨Is1007, Fs1007, e1008, hv, hrs1007, hps1007⟩ := hq; cases hv
        obtain ⟨Is1007, Fs1007, e1008, hv, hrs1007, hps1007⟩ := hq
        have hps1007p := hps1007.1
        cases hv
        have Gs1007 := fm_tq F Fs1007 rfl rfl
        have b1009 := bi_77 Is1007
        have ws1007_75 : iI s1007 75 = iI t 75 := fm_iq Fs1007 rfl
        have ws1007_79 : iI s1007 79 = iI t 79 := fm_iq Fs1007 rfl
        have ws1007_78 : iI s1007 78 = iI t 78 := fm_iq Fs1007 rfl
        show DS l s0 D A dT 212 (rkR (24 + 3 * (r) + 2)) [77, 79, 80, 78] [] (T) Q (T) 16 [(0, .ref (A 179)), (1, .int (Int32.ofInt v))] [.int (Int32.ofInt e1008)] s1007
        refine d_lift (fun k ws X h => z_bipush X rfl h) (d_lift (fun k ws X h => z_bipush X rfl h) (d_lift (fun k ws X h => z_const X rfl h) (d_lift (fun k ws X h => z_const X rfl h) (d_lift (fun k ws X h => z_const X rfl h) (d_lift (fun k ws X h => z_const X rfl h) (d_callT (As := [.int (Int32.ofInt 15), .int (Int32.ofInt 18), .int (Int32.ofInt 0), .int (Int32.ofInt 0), .int (Int32.ofInt 0), .int (Int32.ofInt 0)]) (st := [.int (Int32.ofInt e1008)]) rfl rfl (d_word G Is1007 (by first | exact ⟨by decide, by decide⟩ | omega) (by first | exact ⟨by decide, by decide⟩ | omega) (by first | exact ⟨by decide, by decide⟩ | omega) (by first | exact ⟨by decide, by decide⟩ | omega) (by first | exact ⟨by decide, by decide⟩ | omega) (by first | exact ⟨by decide, by decide⟩ | omega) (fun q h => hti q ((by decide : ∀ q ∈ ([] : List Nat), q ∈ ([77, 75, 78, 79, 81] : List Nat)) q h)) (fun a h => hta a ((by decide : ∀ q ∈ ([] : List Nat), q ∈ ([157, 158, 161] : List Nat)) a h))) ⟨rfl, rfl⟩ ⟨(show 6 + 1 ≤ (12 + (24 + 3 * (r) + 2)) from oq_4491863e r), (show 8 + (mNL (miB 202) + 11) + 100 ≤ (500 + 45 * (24 + 3 * (r) + 2)) from oq_c822b081 r)⟩ (Nat.le_of_ble_eq_true rfl) (by decide) (by decide) (fun ee s1010 hq => ?_) (fun vv s1010 hq => ?_)))))))
        · obtain ⟨Is1010, Fs1010, e1011, hv, hrs1010, hps1010⟩ := hq; cases hv
        obtain ⟨Is1010, Fs1010, e1011, hv, hrs1010, hps1010⟩ := hq
        cases hv
        have Gs1010 := fm_tq Gs1007 Fs1010 rfl rfl
        have ws1010_77 : iI s1010 77 = iI s1007 77 := fm_iq Fs1010 rfl
        have ws1010_75 : iI s1010 75 = iI s1007 75 := fm_iq Fs1010 rfl
        have ws1010_79 : iI s1010 79 = iI s1007 79 := fm_iq Fs1010 rfl
        have ws1010_78 : iI s1010 78 = iI s1007 78 := fm_iq Fs1010 rfl
        show DS l s0 D A dT 212 (rkR (24 + 3 * (r) + 2)) [77, 79, 80, 78] [] (T) Q (T) 27 [(0, .ref (A 179)), (1, .int (Int32.ofInt v))] [.int (Int32.ofInt e1011), .int (Int32.ofInt e1008)] s1010
        refine d_br (bo_ne _ _) bx_ne (fun k ws X h1 h2 => z_icmp_ne X (t := 56) rfl (by decide) hrs1007 hrs1010 h1 h2) (fun g1012 => ?_) (fun g1012 => ?_)
        ·
          refine d_lvs (lv := [(0, .ref (A 179)), (1, .int (Int32.ofInt v))]) (List.forall_mem_cons.mpr ⟨(List.Mem.head _), (List.forall_mem_cons.mpr ⟨(List.Mem.tail _ (List.Mem.head _)), (fun q h => absurd h List.not_mem_nil)⟩)⟩) ?_
          exact kx _ v Is1010 Gs1010 (by first | exact ⟨oq_878618b1 ws1010_78 ws1007_78 hi.1, oq_6f31d0da ws1010_77 hi.2.1 hps1007.1, oq_4d38c61b ws1010_77 hps1007.2.1 b1002.2 hi.2.2.1 p0, oq_67b737cd g1006 hi.2.2.2.1 b3.1, oq_613e077a ws1010_77 hps1007.2.1 g1006 hi.2.2.2.2.2.2.1 hi.2.2.2.2.1, oq_f8cf8f83 ws1010_77 hps1007.1 hi.2.2.2.2.2.1 b3.1, oq_d0d2714e ws1010_75 hi.2.2.2.2.2.2.1 ws1007_75, hi.2.2.2.2.2.2.2⟩ | omega)
        ·
          refine d_lift (fun k ws X h => z_aload_n X (x := A 179) rfl (List.Mem.head _) h) (d_callV 179 (As := []) (st := []) rfl rfl (by decide) rfl (d_skipWord G Is1010 (by first | exact oq_853b39fa g1012 ws1010_77 hps1010 hps1007.2.2 b1002.2 | omega) (fun q h => hti q ((by decide : ∀ q ∈ ([77, 75, 78, 79, 81] : List Nat), q ∈ ([77, 75, 78, 79, 81] : List Nat)) q h)) (fun a h => hta a ((by decide : ∀ q ∈ ([157, 158, 161] : List Nat), q ∈ ([157, 158, 161] : List Nat)) a h))) ⟨rfl, rfl⟩ ⟨(show 7 + 1 ≤ (12 + (24 + 3 * (r) + 2)) from oq_9f278ef5 r), (show 8 + (mNL (miB 203) + 11) + 121 ≤ (500 + 45 * (24 + 3 * (r) + 2)) from oq_6c94e1da r)⟩ (Nat.le_of_ble_eq_true rfl) (by decide) (by decide) (fun ee s1013 hq => ?_) (fun vv s1013 hq => ?_))
          · obtain ⟨Is1013, Fs1013, hv, hps1013⟩ := hq; cases hv
          obtain ⟨Is1013, Fs1013, hv, hps1013⟩ := hq
          have hps1013p := hps1013.1
          cases hv
          have Gs1013 := fm_tq Gs1010 Fs1013 rfl rfl
          have b1015 := bi_77 Is1013
          have ws1013_75 : iI s1013 75 = iI s1010 75 := fm_iq Fs1013 rfl
          have ws1013_79 : iI s1013 79 = iI s1010 79 := fm_iq Fs1013 rfl
          have ws1013_78 : iI s1013 78 = iI s1010 78 := fm_iq Fs1013 rfl
          show DS l s0 D A dT 212 (rkR (24 + 3 * (r) + 2)) [77, 79, 80, 78] [] (T) Q (T) 34 [(0, .ref (A 179)), (1, .int (Int32.ofInt v))] [] s1013
          refine d_lift (fun k ws X h => z_aload_n X (x := A 179) rfl (List.Mem.head _) h) (d_callV 179 (As := []) (st := []) rfl rfl (by decide) rfl (hA Is1013 (by first | exact oq_aed112bd hps1013.2 g1012 ws1010_75 ws1010_77 hps1010 ws1007_75 hps1007.2.2 b1002.2 | omega) (by first | exact oq_c128dca8 ws1013_78 p1 ws1010_78 ws1007_78 hi.1 | omega) (by first | exact oq_022cbb1f ws1013_78 ws1010_78 ws1007_78 g1006 hi.2.2.2.1 hi.1 b3.1 p2 | omega) (by first | exact oq_7df43967 hps1013.2 g1012 ws1010_75 ws1010_77 hps1010 ws1007_75 hps1007.2.2 b1002.2 | omega) (fun q h => hti q ((by decide : ∀ q ∈ ([77, 75, 78, 79, 81] : List Nat), q ∈ ([77, 75, 78, 79, 81] : List Nat)) q h)) (fun a h => hta a ((by decide : ∀ q ∈ ([157, 158, 161] : List Nat), q ∈ ([157, 158, 161] : List Nat)) a h))) ⟨rfl, rfl⟩ ⟨(show (12 + (24 + 3 * (r) + 1)) + 1 ≤ (12 + (24 + 3 * (r) + 2)) from oq_137d3732 r), (show 8 + (mNL (miB 211) + 11) + (500 + 45 * (24 + 3 * (r) + 1)) ≤ (500 + 45 * (24 + 3 * (r) + 2)) from oq_58b847aa r)⟩ (Nat.le_of_ble_eq_true rfl) (by decide) (by decide) (fun ee s1016 hq => ?_) (fun vv s1016 hq => ?_))
          · obtain ⟨Is1016, Fs1016, e1017, hv, hrs1016, hps1016⟩ := hq; cases hv
          obtain ⟨Is1016, Fs1016, e1017, hv, hrs1016, hps1016⟩ := hq
          have hps1016p := And.intro hps1016.1 (hps1016.2.1)
          cases hv
          have Gs1016 := fm_tq Gs1013 Fs1016 rfl rfl
          have b1018 := bi_77 Is1016
          have ws1016_75 : iI s1016 75 = iI s1013 75 := fm_iq Fs1016 rfl
          have b1019 := bi_79 Is1016
          have b1020 := bi_78 Is1016
          show DS l s0 D A dT 212 (rkR (24 + 3 * (r) + 2)) [77, 79, 80, 78] [] (T) Q (T) 38 [(0, .ref (A 179)), (1, .int (Int32.ofInt v))] [.int (Int32.ofInt e1017)] s1016
          refine d_lift (fun k ws X h => z_store_n X (lv' := [(2, .int (Int32.ofInt e1017)), (0, .ref (A 179)), (1, .int (Int32.ofInt v))]) rfl (by decide) (fun _ h => h) h) (d_lift (fun k ws X h => z_load_n X (x := v) rfl (List.Mem.tail _ (List.Mem.tail _ (List.Mem.head _))) h) ?_)
          have N1021 : ∀ e1022 : Int, (((v ≠ 0) ∧ e1022 = 1) ∨ ((v = 0) ∧ (e1017 = 0) ∧ e1022 = 0) ∨ ((v = 0) ∧ (e1017 ≠ 0) ∧ e1022 = 1)) → DS l s0 D A dT 212 (rkR (24 + 3 * (r) + 2)) [77, 79, 80, 78] [] (T) Q (T) 52 [(2, .int (Int32.ofInt e1017)), (0, .ref (A 179)), (1, .int (Int32.ofInt v))] [.int (Int32.ofInt e1022)] s1016 := by
            intro e1022 he1022
            have re1022 : 0 ≤ e1022 ∧ e1022 ≤ 1 := by first | (clear he1022 hps1016 hps1013 hps1007 p3 p2; omega) | (clear hps1016 hps1013 hps1007 p3 p2; omega) | omega
            refine d_lift (fun k ws X h => z_store_n X (lv' := [(1, .int (Int32.ofInt e1022)), (2, .int (Int32.ofInt e1017)), (0, .ref (A 179))]) rfl (by decide) (fun _ h => h) h) (d_lift (fun k ws X h => z_goto X (t := 5) rfl (by decide) h) (d_lvs (lv := [(0, .ref (A 179)), (1, .int (Int32.ofInt e1022))]) (List.forall_mem_cons.mpr ⟨(List.Mem.tail _ (List.Mem.tail _ (List.Mem.head _))), (List.forall_mem_cons.mpr ⟨(List.Mem.head _), (fun q h => absurd h List.not_mem_nil)⟩)⟩) ?_))
            exact ih _ e1022 Is1016 Gs1016 (by first | exact ⟨oq_469c7eaf hps1016.1 ws1013_78 ws1010_78 ws1007_78 hi.1, oq_df567ab1 hps1016.2.1 hps1013.1 ws1010_77 hi.2.1 hps1007.1, oq_fe8590e8 hps1016.2.2.1 hps1013.2 g1012 ws1010_75 ws1010_77 hps1010 ws1007_75 hps1007.2.2 b1002.2, oq_67b737cd g1006 hi.2.2.2.1 b3.1, oq_0a04dc49 b1019.1 hps1016.2.2.2.2.1 ws1013_75 ws1010_75 ws1007_75 hi.2.2.2.2.2.2.1, oq_2a02c81e hps1016.2.2.2.2.2.1 ws1013_79 hps1013.1 ws1010_79 ws1010_77 ws1007_79 hps1007.1 g1006 hi.2.1, oq_b4d295d9 ws1016_75 hi.2.2.2.2.2.2.1 ws1013_75 ws1010_75 ws1007_75, oq_31e518ae re1022.2 re1022.1⟩ | omega) (by first | exact qk_me hm (oq_3d279f51 ws1016_75 hps1016.2.2.2.2.2.1 ws1013_79 ws1013_75 hps1013.1 ws1010_79 ws1010_75 ws1010_77 ws1007_79 ws1007_75 hps1007.1 g1006) (oq_32b967f2 g1012 hps1010 hps1007.2.2 hps1007.1) | omega) kx
          refine d_br (bo_ne _ _) bx_ne (fun k ws X h1 h2 => z_if_ne X (t := 47) rfl (by decide) ⟨by first | exact oq_bde653e9 hi.2.2.2.2.2.2.2 | omega, by first | exact oq_4ad2cb8b hi.2.2.2.2.2.2.2 | omega⟩ h1 h2) (fun g1023 => ?_) (fun g1023 => ?_)
          ·
            exact d_lift (fun k ws X h => z_const X rfl h) (d_lift (fun k ws X h => z_goto X (t := 52) rfl (by decide) h) (N1021 _ (Or.inl ⟨g1023, rfl⟩)))
          ·
            refine d_lift (fun k ws X h => z_load_n X (x := e1017) rfl (List.Mem.head _) h) (d_br (bo_eq _ _) bx_eq (fun k ws X h1 h2 => z_if_eq X (t := 51) rfl (by decide) hrs1016 h1 h2) (fun g1024 => ?_) (fun g1024 => ?_))
            ·
              exact d_lift (fun k ws X h => z_const X rfl h) (N1021 _ (Or.inr (Or.inl ⟨g1023, g1024, rfl⟩)))
            ·
              exact d_lift (fun k ws X h => z_const X rfl h) (d_lift (fun k ws X h => z_goto X (t := 52) rfl (by decide) h) (N1021 _ (Or.inr (Or.inr (⟨g1023, g1024, rfl⟩)))))
  refine d_lift (fun k ws X h => z_aload_n X (x := A 179) rfl (List.Mem.head _) h) (d_callV 179 (As := []) (st := []) rfl rfl (by decide) rfl (hA I (by first | exact p0 | omega) (by first | exact p1 | omega) (by first | exact p2 | omega) (by first | exact p3 | omega) (fun q h => hti q ((by decide : ∀ q ∈ ([77, 75, 78, 79, 81] : List Nat), q ∈ ([77, 75, 78, 79, 81] : List Nat)) q h)) (fun a h => hta a ((by decide : ∀ q ∈ ([157, 158, 161] : List Nat), q ∈ ([157, 158, 161] : List Nat)) a h))) ⟨rfl, rfl⟩ ⟨(show (12 + (24 + 3 * (r) + 1)) + 1 ≤ (12 + (24 + 3 * (r) + 2)) from oq_137d3732 r), (show 8 + (mNL (miB 211) + 11) + (500 + 45 * (24 + 3 * (r) + 1)) ≤ (500 + 45 * (24 + 3 * (r) + 2)) from oq_58b847aa r)⟩ (Nat.le_of_ble_eq_true rfl) (by decide) (by decide) (fun ee s5 hq => ?_) (fun vv s5 hq => ?_))
  · obtain ⟨Is5, Fs5, e6, hv, hrs5, hps5⟩ := hq; cases hv
  obtain ⟨Is5, Fs5, e6, hv, hrs5, hps5⟩ := hq
  have hps5p := And.intro hps5.1 (hps5.2.1)
  cases hv
  have Gs5 := fm_tq F Fs5 rfl rfl
  have b7 := bi_77 Is5
  have ws5_75 : iI s5 75 = iI s 75 := fm_iq Fs5 rfl
  have b8 := bi_79 Is5
  have b9 := bi_78 Is5
  show DS l s0 D A dT 212 (rkR (24 + 3 * (r) + 2)) [77, 79, 80, 78] [] (T) Q (T) 4 [(0, .ref (A 179))] [.int (Int32.ofInt e6)] s5
  refine d_lift (fun k ws X h => z_store_n X (lv' := [(1, .int (Int32.ofInt e6)), (0, .ref (A 179))]) rfl (by decide) (fun _ h => h) h) (d_lvs (lv := [(0, .ref (A 179)), (1, .int (Int32.ofInt e6))]) (List.forall_mem_cons.mpr ⟨(List.Mem.tail _ (List.Mem.head _)), (List.forall_mem_cons.mpr ⟨(List.Mem.head _), (fun q h => absurd h List.not_mem_nil)⟩)⟩) (L5 ((iI s5 75 - iI s5 77 : Int).toNat + 1) s5 e6 Is5 Gs5 (by first | exact ⟨hps5.1, hps5.2.1, hps5.2.2.1, hps5.2.2.2.1, hps5.2.2.2.2.1, hps5.2.2.2.2.2.1, ws5_75, hps5.2.2.2.2.2.2⟩ | omega) (Nat.lt_succ_self _) ?_))
  intro s10 x11 Is10 Fs10 hs10
  have b12 := bi_77 Is10
  have b13 := bi_75 Is10
  have b14 := bi_79 Is10
  have b15 := bi_78 Is10
  refine d_lift (fun k ws X h => z_load_n X (x := x11) rfl (List.Mem.tail _ (List.Mem.head _)) h) ?_
  exact d_iret rfl (nar_ret (by first | exact hs10.2.2.2.2.2.2.2 | omega)) (Or.inr rfl) rfl (fun _ h => h) (hQ _ _ ⟨Is10, Fs10, x11, rfl, ⟨by first | exact oq_bde653e9 hs10.2.2.2.2.2.2.2 | omega, by first | exact oq_4ad2cb8b hs10.2.2.2.2.2.2.2 | omega⟩, by first | exact ⟨hs10.1, hs10.2.1, hs10.2.2.1, hs10.2.2.2.1, hs10.2.2.2.2.1, hs10.2.2.2.2.2.1, hs10.2.2.2.2.2.2.2⟩ | omega⟩)
theorem d_orsr (G : GX l s0 D tys a0 dT) (r : Nat) : (∀ {s : PS} {T : TT}, Bd s → (iI s 77 ≤ 203) → (iI s 78 + ((r : Nat) : Int) = 7) → (iI s 78 = 7 → iI s 79 ≠ 0) → (iI s 79 = 0 → iI s 77 ≤ 202) → (∀ q ∈ ([77, 75, 78, 79, 81] : List Nat), T.1 q) → (∀ a ∈ ([157, 158, 161] : List Nat), ∀ j, j < (bA a).2.2 → T.2 a j) → CD l s0 D A dT 210 (rkR (24 + 3 * (r))) [77, 79, 80, 78] [] T T [.ref (A 179)] s (fun o t => Bd t ∧ Fm [77, 79, 80, 78] [] s t ∧ ∃ e, o = .inl (some (.int (Int32.ofInt e))) ∧ rng e ∧ (iI t 78 = iI s 78 ∧ iI s 77 ≤ iI t 77 ∧ (iI t 77 = iI s 77 ∨ iI t 77 ≤ 203) ∧ (iI s 79 ≠ 0 → iI t 79 ≠ 0) ∧ (iI t 79 = 0 → iI t 77 ≤ iI s 75) ∧ (iI s 79 = 0 → iI s 77 < iI t 77) ∧ (e = 0 ∨ e = 1)))) ∧ (∀ {s : PS} {T : TT}, Bd s → (iI s 77 ≤ 203) → (iI s 78 + ((r : Nat) : Int) = 7) → (iI s 78 = 7 → iI s 79 ≠ 0) → (iI s 79 = 0 → iI s 77 ≤ 202) → (∀ q ∈ ([77, 75, 78, 79, 81] : List Nat), T.1 q) → (∀ a ∈ ([157, 158, 161] : List Nat), ∀ j, j < (bA a).2.2 → T.2 a j) → CD l s0 D A dT 211 (rkR (24 + 3 * (r) + 1)) [77, 79, 80, 78] [] T T [.ref (A 179)] s (fun o t => Bd t ∧ Fm [77, 79, 80, 78] [] s t ∧ ∃ e, o = .inl (some (.int (Int32.ofInt e))) ∧ rng e ∧ (iI t 78 = iI s 78 ∧ iI s 77 ≤ iI t 77 ∧ (iI t 77 = iI s 77 ∨ iI t 77 ≤ 203) ∧ (iI s 79 ≠ 0 → iI t 79 ≠ 0) ∧ (iI t 79 = 0 → iI t 77 ≤ iI s 75) ∧ (iI s 79 = 0 → iI s 77 < iI t 77) ∧ (e = 0 ∨ e = 1)))) ∧ (∀ {s : PS} {T : TT}, Bd s → (iI s 77 ≤ 203) → (iI s 78 + ((r : Nat) : Int) = 7) → (iI s 78 = 7 → iI s 79 ≠ 0) → (iI s 79 = 0 → iI s 77 ≤ 202) → (∀ q ∈ ([77, 75, 78, 79, 81] : List Nat), T.1 q) → (∀ a ∈ ([157, 158, 161] : List Nat), ∀ j, j < (bA a).2.2 → T.2 a j) → CD l s0 D A dT 212 (rkR (24 + 3 * (r) + 2)) [77, 79, 80, 78] [] T T [.ref (A 179)] s (fun o t => Bd t ∧ Fm [77, 79, 80, 78] [] s t ∧ ∃ e, o = .inl (some (.int (Int32.ofInt e))) ∧ rng e ∧ (iI t 78 = iI s 78 ∧ iI s 77 ≤ iI t 77 ∧ (iI t 77 = iI s 77 ∨ iI t 77 ≤ 203) ∧ (iI s 79 ≠ 0 → iI t 79 ≠ 0) ∧ (iI t 79 = 0 → iI t 77 ≤ iI s 75) ∧ (iI s 79 = 0 → iI s 77 < iI t 77) ∧ (e = 0 ∨ e = 1)))) := by
  induction r with
  | zero =>
    have hU : ∀ {s : PS} {T : TT}, Bd s → (iI s 77 ≤ 203) → (iI s 78 + ((0 : Nat) : Int) = 7) → (iI s 78 = 7 → iI s 79 ≠ 0) → (iI s 79 = 0 → iI s 77 ≤ 202) → (∀ q ∈ ([77, 75, 78, 79, 81] : List Nat), T.1 q) → (∀ a ∈ ([157, 158, 161] : List Nat), ∀ j, j < (bA a).2.2 → T.2 a j) → CD l s0 D A dT 210 (rkR (24 + 3 * (0))) [77, 79, 80, 78] [] T T [.ref (A 179)] s (fun o t => Bd t ∧ Fm [77, 79, 80, 78] [] s t ∧ ∃ e, o = .inl (some (.int (Int32.ofInt e))) ∧ rng e ∧ (iI t 78 = iI s 78 ∧ iI s 77 ≤ iI t 77 ∧ (iI t 77 = iI s 77 ∨ iI t 77 ≤ 203) ∧ (iI s 79 ≠ 0 → iI t 79 ≠ 0) ∧ (iI t 79 = 0 → iI t 77 ≤ iI s 75) ∧ (iI s 79 = 0 → iI s 77 < iI t 77) ∧ (e = 0 ∨ e = 1))) := fun {_ _} I p0 p1 p2 p3 hti hta => d_test0 G I p0 p1 p2 p3 hti hta
    have hP : ∀ {s : PS} {T : TT}, Bd s → (iI s 77 ≤ 203) → (iI s 78 + ((0 : Nat) : Int) = 7) → (iI s 78 = 7 → iI s 79 ≠ 0) → (iI s 79 = 0 → iI s 77 ≤ 202) → (∀ q ∈ ([77, 75, 78, 79, 81] : List Nat), T.1 q) → (∀ a ∈ ([157, 158, 161] : List Nat), ∀ j, j < (bA a).2.2 → T.2 a j) → CD l s0 D A dT 211 (rkR (24 + 3 * (0) + 1)) [77, 79, 80, 78] [] T T [.ref (A 179)] s (fun o t => Bd t ∧ Fm [77, 79, 80, 78] [] s t ∧ ∃ e, o = .inl (some (.int (Int32.ofInt e))) ∧ rng e ∧ (iI t 78 = iI s 78 ∧ iI s 77 ≤ iI t 77 ∧ (iI t 77 = iI s 77 ∨ iI t 77 ≤ 203) ∧ (iI s 79 ≠ 0 → iI t 79 ≠ 0) ∧ (iI t 79 = 0 → iI t 77 ≤ iI s 75) ∧ (iI s 79 = 0 → iI s 77 < iI t 77) ∧ (e = 0 ∨ e = 1))) := fun {_ _} I p0 p1 p2 p3 hti hta => d_andsS G hU I p0 p1 p2 p3 hti hta
    exact ⟨hU, hP, fun {_ _} I p0 p1 p2 p3 hti hta => d_orsS G hP I p0 p1 p2 p3 hti hta⟩
  | succ r ih =>
    have hU : ∀ {s : PS} {T : TT}, Bd s → (iI s 77 ≤ 203) → (iI s 78 + ((r + 1 : Nat) : Int) = 7) → (iI s 78 = 7 → iI s 79 ≠ 0) → (iI s 79 = 0 → iI s 77 ≤ 202) → (∀ q ∈ ([77, 75, 78, 79, 81] : List Nat), T.1 q) → (∀ a ∈ ([157, 158, 161] : List Nat), ∀ j, j < (bA a).2.2 → T.2 a j) → CD l s0 D A dT 210 (rkR (24 + 3 * (r + 1))) [77, 79, 80, 78] [] T T [.ref (A 179)] s (fun o t => Bd t ∧ Fm [77, 79, 80, 78] [] s t ∧ ∃ e, o = .inl (some (.int (Int32.ofInt e))) ∧ rng e ∧ (iI t 78 = iI s 78 ∧ iI s 77 ≤ iI t 77 ∧ (iI t 77 = iI s 77 ∨ iI t 77 ≤ 203) ∧ (iI s 79 ≠ 0 → iI t 79 ≠ 0) ∧ (iI t 79 = 0 → iI t 77 ≤ iI s 75) ∧ (iI s 79 = 0 → iI s 77 < iI t 77) ∧ (e = 0 ∨ e = 1))) := fun {_ _} I p0 p1 p2 p3 hti hta => d_testS G ih.1 ih.2.2 I p0 p1 p2 p3 hti hta
    have hP : ∀ {s : PS} {T : TT}, Bd s → (iI s 77 ≤ 203) → (iI s 78 + ((r + 1 : Nat) : Int) = 7) → (iI s 78 = 7 → iI s 79 ≠ 0) → (iI s 79 = 0 → iI s 77 ≤ 202) → (∀ q ∈ ([77, 75, 78, 79, 81] : List Nat), T.1 q) → (∀ a ∈ ([157, 158, 161] : List Nat), ∀ j, j < (bA a).2.2 → T.2 a j) → CD l s0 D A dT 211 (rkR (24 + 3 * (r + 1) + 1)) [77, 79, 80, 78] [] T T [.ref (A 179)] s (fun o t => Bd t ∧ Fm [77, 79, 80, 78] [] s t ∧ ∃ e, o = .inl (some (.int (Int32.ofInt e))) ∧ rng e ∧ (iI t 78 = iI s 78 ∧ iI s 77 ≤ iI t 77 ∧ (iI t 77 = iI s 77 ∨ iI t 77 ≤ 203) ∧ (iI s 79 ≠ 0 → iI t 79 ≠ 0) ∧ (iI t 79 = 0 → iI t 77 ≤ iI s 75) ∧ (iI s 79 = 0 → iI s 77 < iI t 77) ∧ (e = 0 ∨ e = 1))) := fun {_ _} I p0 p1 p2 p3 hti hta => d_andsS G hU I p0 p1 p2 p3 hti hta
    exact ⟨hU, hP, fun {_ _} I p0 p1 p2 p3 hti hta => d_orsS G hP I p0 p1 p2 p3 hti hta⟩
end M44
end
section
theorem oq_acf76229 {a0 a1 a2 : Int} (h0 : a0 ≤ a1) (h1 : a0 = a2) : a2 ≤ a1 := by omega
theorem oq_bddf4d11 : 8 + (5 + 11) + 122 ≤ 146 := by omega
/-! Determined: what is heard -/
/-- T holds what is heard now -/
def OKN (T : TT) (s : PS) : Prop := ∀ j : Nat, j < 12 → (j : Int) < iI s 90 → T.2 202 j ∧ T.2 203 j ∧ (∀ c, c < 128 → T.2 (216 + j) c) ∧ ∀ k : Nat, (k : Int) < iC s 202 j → T.2 (204 + j) k
theorem OKN_fm {L M : List Nat} {T : TT} {s t : PS} (F : Fm L M s t) (h : 90 ∉ L ∧ 202 ∉ M) (r : OKN T s) : OKN T t := fun j hj hs => by
  rw [fm_i F h.1] at hs
  obtain ⟨a, b, c, d⟩ := r j hj hs
  exact ⟨a, b, c, fun k hk => d k (by rw [fm_c F h.2] at hk; exact hk)⟩
theorem OKN_mono {T T' : TT} {s : PS} (r : OKN T s) (h : ∀ a j, T.2 a j → T'.2 a j) : OKN T' s := fun j hj hs => by
  obtain ⟨a, b, c, d⟩ := r j hj hs
  exact ⟨h _ _ a, h _ _ b, fun i hi => h _ _ (c i hi), fun k hk => h _ _ (d k hk)⟩
theorem TU_0 {T : TT} {a : Nat} {k : Int} (h : k ≤ 0) : ∀ b j, (TU T a k).2 b j → T.2 b j := fun _ _ q => q.resolve_left (fun z => by have := z.2; omega)
theorem TU_s {T : TT} {a : Nat} {k : Int} (h : 0 ≤ k) : ∀ b j, (TU T a (k + 1)).2 b j → (TC (TU T a k) a k.toNat).2 b j := fun b j q => by
  rcases q with ⟨q1, q2⟩ | q
  · by_cases e : j = k.toNat
    · exact Or.inl ⟨q1, e⟩
    · exact Or.inr (Or.inl ⟨q1, by omega⟩)
  · exact Or.inr (Or.inr q)
theorem TU_le {T : TT} {a : Nat} {k m : Int} (h : m ≤ k) : ∀ b j, (TU T a m).2 b j → (TU T a k).2 b j := fun _ _ q => q.imp (fun z => ⟨z.1, by have := z.2; omega⟩) id
section M45
variable {l : Launch} {s0 : State} {D : va_G} {tys : List (ClassId × FieldType)} {a0 : Array Value} {A : Nat → Nat} {dT : Nat → ClassId} {s : PS}
set_option maxHeartbeats 16000000 in
theorem d_goes (G : GX l s0 D tys a0 dT) (I : Bd s) {x y : Int} (p0 : 0 ≤ x ∧ x ≤ 11) (p1 : 0 ≤ y ∧ y < iC s 202 (x : Int).toNat) (p2 : x < iI s 90) {T : TT} (hti : ∀ q ∈ ([] : List Nat), T.1 q) (hta : ∀ a ∈ ([] : List Nat), ∀ j, j < (bA a).2.2 → T.2 a j) (htn : OKN T s) : CD l s0 D A dT 226 (rmN 226) [] [] T (T) [.ref (A 179), .int (Int32.ofInt x), .int (Int32.ofInt y)] s (fun o t => Bd t ∧ Fm [] [] s t ∧ ∃ e, o = .inl (some (.int (Int32.ofInt e))) ∧ rng e ∧ (0 ≤ e ∧ e ≤ 6)) := by
  refine cd_of G (by decide) (Nat.le_of_ble_eq_true rfl) (fun Q hQ => ?_)
  have I0 := I
  show DS l s0 D A dT 226 (rmN 226) [] [] (T) Q (T) 0 [(0, .ref (A 179)), (1, .int (Int32.ofInt x)), (2, .int (Int32.ofInt y))] [] s
  have F : Fm [] [] s s := fm_rf _ _ s
  refine d_lift (fun k ws X h => z_aload_n X (x := A 179) rfl (List.Mem.head _) h) (d_liftS (fun k s X h => s_getR X 179 rfl (by decide) rfl rfl h) (d_lift (fun k ws X h => z_load_n X (x := x) rfl (List.Mem.tail _ (List.Mem.head _)) h) (d_ald 228 rfl (by decide) rfl (by first | exact p0.1 | omega) (show x < 12 by first | exact oq_0ddfcfee p0.2 | omega) (by decide) ((htn _ (show (x : Int).toNat < 12 by omega) (show (((x : Int).toNat : Nat) : Int) < iI s 90 by omega)).1) ?_)))
  have b1 := bc_202 I (show (x).toNat < 12 by first | exact oq_9c5fa447 p0.2 | omega)
  refine d_lift (fun k ws X h => z_const X rfl h) (d_br (bo_ne _ _) bx_ne (fun k ws X h1 h2 => z_icmp_ne X (t := 15) rfl (by decide) (rng_to _) (by decide) h1 h2) (fun g2 => ?_) (fun g2 => ?_))
  ·
    refine d_lift (fun k ws X h => z_load_n X (x := y) rfl (List.Mem.tail _ (List.Mem.tail _ (List.Mem.head _))) h) (d_lift (fun k ws X h => z_aload_n X (x := A 179) rfl (List.Mem.head _) h) (d_liftS (fun k s X h => s_getR X 179 rfl (by decide) rfl rfl h) (d_lift (fun k ws X h => z_load_n X (x := x) rfl (List.Mem.tail _ (List.Mem.head _)) h) (d_ald 228 rfl (by decide) rfl (by first | exact p0.1 | omega) (show x < 12 by first | exact oq_0ddfcfee p0.2 | omega) (by decide) ((htn _ (show (x : Int).toNat < 12 by first | (clear g2; omega) | omega) (show (((x : Int).toNat : Nat) : Int) < iI s 90 by first | (clear g2; omega) | omega)).1) ?_))))
    have b3 := bc_202 I (show (x).toNat < 12 by first | exact oq_9c5fa447 p0.2 | omega)
    refine d_lift (fun k ws X h => z_const X rfl h) (d_lift (fun k ws X h => z_sub X rfl h) (d_br (bo_ne _ _) bx_ne (fun k ws X h1 h2 => z_icmp_ne X (t := 51) rfl (by decide) ⟨by first | exact oq_fa4e5087 p1.1 | omega, by first | exact oq_cd47680f p1.2 b3.2 | omega⟩ ⟨by first | exact oq_c1e961c7 b3.1 | omega, by first | exact oq_0332e1ab b3.2 | omega⟩ h1 h2) (fun g4 => ?_) (fun g4 => ?_)))
    ·
      refine d_lift (fun k ws X h => z_aload_n X (x := A 179) rfl (List.Mem.head _) h) (d_liftS (fun k s X h => s_getR X 179 rfl (by decide) rfl rfl h) (d_lift (fun k ws X h => z_load_n X (x := x) rfl (List.Mem.tail _ (List.Mem.head _)) h) (d_liftS (fun k s X h => z_aald X rw_230 rfl (by first | exact p0.1 | omega) (show x < 12 by first | exact oq_0ddfcfee p0.2 | omega) (by decide) h) (d_lift (fun k ws X h => z_load_n X (x := y) rfl (List.Mem.tail _ (List.Mem.tail _ (List.Mem.head _))) h) (d_ald2 rw_230 rfl (show (x : Int).toNat < 12 by first | exact oq_9c5fa447 p0.2 | omega) (by first | exact p1.1 | omega) (show y < 24 by first | exact oq_8ff7beb9 p1.2 b3.2 | omega) (by decide) ((htn _ (show (x : Int).toNat < 12 by first | (clear g4 g2; omega) | (clear g2; omega) | omega) (show (((x : Int).toNat : Nat) : Int) < iI s 90 by first | (clear g4 g2; omega) | (clear g2; omega) | omega)).2.2.2 _ (show (((y : Int).toNat : Nat) : Int) < iC s 202 (x : Int).toNat by first | (clear g4 g2; omega) | (clear g2; omega) | omega)) ?_)))))
      have b5 : (0 : Int) ≤ (iC s (204 + (x : Int).toNat) (y : Int).toNat) ∧ (iC s (204 + (x : Int).toNat) (y : Int).toNat) ≤ 127 := rw_bd rw_230 I (show (x : Int).toNat < 12 by first | exact oq_9c5fa447 p0.2 | omega) (show (y : Int).toNat < 24 by first | exact oq_9e668fc9 p1.2 b3.2 | omega)
      refine d_lift (fun k ws X h => z_aload_n X (x := A 179) rfl (List.Mem.head _) h) (d_liftS (fun k s X h => s_getR X 179 rfl (by decide) rfl rfl h) (d_lift (fun k ws X h => z_load_n X (x := x) rfl (List.Mem.tail _ (List.Mem.head _)) h) (d_liftS (fun k s X h => z_aald X rw_230 rfl (by first | exact p0.1 | omega) (show x < 12 by first | exact oq_0ddfcfee p0.2 | omega) (by decide) h) (d_lift (fun k ws X h => z_load_n X (x := y) rfl (List.Mem.tail _ (List.Mem.tail _ (List.Mem.head _))) h) (d_lift (fun k ws X h => z_const X rfl h) (d_lift (fun k ws X h => z_add X rfl h) (d_ald2 rw_230 rfl (show (x : Int).toNat < 12 by first | exact oq_9c5fa447 p0.2 | omega) (by first | exact oq_54f49eb5 p1.1 | omega) (show (y + 1) < 24 by first | exact oq_0152e793 g4 b3.2 p1.2 | omega) (by decide) ((htn _ (show (x : Int).toNat < 12 by first | (clear g4 g2; omega) | (clear g2; omega) | omega) (show (((x : Int).toNat : Nat) : Int) < iI s 90 by first | (clear g4 g2; omega) | (clear g2; omega) | omega)).2.2.2 _ (show ((((y + 1) : Int).toNat : Nat) : Int) < iC s 202 (x : Int).toNat by first | (clear g4 g2; omega) | (clear g2; omega) | omega)) ?_)))))))
      have b6 : (0 : Int) ≤ (iC s (204 + (x : Int).toNat) ((y + 1) : Int).toNat) ∧ (iC s (204 + (x : Int).toNat) ((y + 1) : Int).toNat) ≤ 127 := rw_bd rw_230 I (show (x : Int).toNat < 12 by first | exact oq_9c5fa447 p0.2 | omega) (show ((y + 1) : Int).toNat < 24 by first | exact oq_fa8c9353 g4 b3.2 p1.2 | omega)
      refine d_callT (As := [.int (Int32.ofInt (iC s (204 + (x : Int).toNat) (y : Int).toNat)), .int (Int32.ofInt (iC s (204 + (x : Int).toNat) ((y + 1) : Int).toNat))]) (st := []) rfl rfl (d_stepOf G I (by first | exact ⟨b5.1, b5.2⟩ | omega) (by first | exact ⟨b6.1, b6.2⟩ | omega) (fun q h => hti q ((by decide : ∀ q ∈ ([] : List Nat), q ∈ ([] : List Nat)) q h)) (fun a h => hta a ((by decide : ∀ q ∈ ([] : List Nat), q ∈ ([] : List Nat)) a h))) ⟨rfl, rfl⟩ ⟨(show 6 + 1 ≤ 7 from oq_7ae2681c), (show 8 + (mNL (miB 225) + 11) + 100 ≤ 121 from oq_68e6451f)⟩ (Nat.le_of_ble_eq_true rfl) (by decide) (by decide) (fun ee s7 hq => ?_) (fun vv s7 hq => ?_)
      · obtain ⟨Is7, Fs7, e8, hv, hrs7, hps7⟩ := hq; cases hv
      obtain ⟨Is7, Fs7, e8, hv, hrs7, hps7⟩ := hq
      cases hv
      have Gs7 := fm_tq F Fs7 rfl rfl
      show DS l s0 D A dT 226 (rmN 226) [] [] (T) Q (T) 72 [(0, .ref (A 179)), (1, .int (Int32.ofInt x)), (2, .int (Int32.ofInt y))] [.int (Int32.ofInt e8)] s7
      exact d_iret rfl rfl (Or.inl rfl) rfl (fun _ h => h) (hQ _ _ ⟨Is7, Gs7, e8, rfl, hrs7, by first | exact ⟨hps7.1, oq_b982df86 hps7.2⟩ | omega⟩)
    ·
      refine d_lift (fun k ws X h => z_aload_n X (x := A 179) rfl (List.Mem.head _) h) (d_liftS (fun k s X h => s_getR X 179 rfl (by decide) rfl rfl h) (d_lift (fun k ws X h => z_load_n X (x := x) rfl (List.Mem.tail _ (List.Mem.head _)) h) (d_liftS (fun k s X h => z_aald X rw_230 rfl (by first | exact p0.1 | omega) (show x < 12 by first | exact oq_0ddfcfee p0.2 | omega) (by decide) h) (d_lift (fun k ws X h => z_load_n X (x := y) rfl (List.Mem.tail _ (List.Mem.tail _ (List.Mem.head _))) h) (d_lift (fun k ws X h => z_const X rfl h) (d_lift (fun k ws X h => z_sub X rfl h) (d_ald2 rw_230 rfl (show (x : Int).toNat < 12 by first | exact oq_9c5fa447 p0.2 | omega) (by first | exact oq_35f9a344 g4 g2 p1.1 | omega) (show (y - 1) < 24 by first | exact oq_514020d0 g4 b3.2 | omega) (by decide) ((htn _ (show (x : Int).toNat < 12 by first | (clear g2; omega) | omega) (show (((x : Int).toNat : Nat) : Int) < iI s 90 by first | (clear g2; omega) | omega)).2.2.2 _ (show ((((y - 1) : Int).toNat : Nat) : Int) < iC s 202 (x : Int).toNat by first | (clear g2; omega) | omega)) ?_)))))))
      have b9 : (0 : Int) ≤ (iC s (204 + (x : Int).toNat) ((y - 1) : Int).toNat) ∧ (iC s (204 + (x : Int).toNat) ((y - 1) : Int).toNat) ≤ 127 := rw_bd rw_230 I (show (x : Int).toNat < 12 by first | exact oq_9c5fa447 p0.2 | omega) (show ((y - 1) : Int).toNat < 24 by first | exact oq_4b444e5a g4 b3.2 | omega)
      refine d_lift (fun k ws X h => z_aload_n X (x := A 179) rfl (List.Mem.head _) h) (d_liftS (fun k s X h => s_getR X 179 rfl (by decide) rfl rfl h) (d_lift (fun k ws X h => z_load_n X (x := x) rfl (List.Mem.tail _ (List.Mem.head _)) h) (d_liftS (fun k s X h => z_aald X rw_230 rfl (by first | exact p0.1 | omega) (show x < 12 by first | exact oq_0ddfcfee p0.2 | omega) (by decide) h) (d_lift (fun k ws X h => z_load_n X (x := y) rfl (List.Mem.tail _ (List.Mem.tail _ (List.Mem.head _))) h) (d_ald2 rw_230 rfl (show (x : Int).toNat < 12 by first | exact oq_9c5fa447 p0.2 | omega) (by first | exact p1.1 | omega) (show y < 24 by first | exact oq_9cfd8ba8 g4 b3.2 | omega) (by decide) ((htn _ (show (x : Int).toNat < 12 by first | (clear g2; omega) | omega) (show (((x : Int).toNat : Nat) : Int) < iI s 90 by first | (clear g2; omega) | omega)).2.2.2 _ (show (((y : Int).toNat : Nat) : Int) < iC s 202 (x : Int).toNat by first | (clear g2; omega) | omega)) ?_)))))
      have b10 : (0 : Int) ≤ (iC s (204 + (x : Int).toNat) (y : Int).toNat) ∧ (iC s (204 + (x : Int).toNat) (y : Int).toNat) ≤ 127 := rw_bd rw_230 I (show (x : Int).toNat < 12 by first | exact oq_9c5fa447 p0.2 | omega) (show (y : Int).toNat < 24 by first | exact oq_bfe9ed15 g4 b3.2 | omega)
      refine d_callT (As := [.int (Int32.ofInt (iC s (204 + (x : Int).toNat) ((y - 1) : Int).toNat)), .int (Int32.ofInt (iC s (204 + (x : Int).toNat) (y : Int).toNat))]) (st := []) rfl rfl (d_stepOf G I (by first | exact ⟨b9.1, b9.2⟩ | omega) (by first | exact ⟨b10.1, b10.2⟩ | omega) (fun q h => hti q ((by decide : ∀ q ∈ ([] : List Nat), q ∈ ([] : List Nat)) q h)) (fun a h => hta a ((by decide : ∀ q ∈ ([] : List Nat), q ∈ ([] : List Nat)) a h))) ⟨rfl, rfl⟩ ⟨(show 6 + 1 ≤ 7 from oq_7ae2681c), (show 8 + (mNL (miB 225) + 11) + 100 ≤ 121 from oq_68e6451f)⟩ (Nat.le_of_ble_eq_true rfl) (by decide) (by decide) (fun ee s11 hq => ?_) (fun vv s11 hq => ?_)
      · obtain ⟨Is11, Fs11, e12, hv, hrs11, hps11⟩ := hq; cases hv
      obtain ⟨Is11, Fs11, e12, hv, hrs11, hps11⟩ := hq
      cases hv
      have Gs11 := fm_tq F Fs11 rfl rfl
      show DS l s0 D A dT 226 (rmN 226) [] [] (T) Q (T) 48 [(0, .ref (A 179)), (1, .int (Int32.ofInt x)), (2, .int (Int32.ofInt y))] [.int (Int32.ofInt e12)] s11
      refine d_lift (fun k ws X h => z_goto X (t := 72) rfl (by decide) h) ?_
      exact d_iret rfl rfl (Or.inl rfl) rfl (fun _ h => h) (hQ _ _ ⟨Is11, Gs11, e12, rfl, hrs11, by first | exact ⟨hps11.1, oq_b982df86 hps11.2⟩ | omega⟩)
  ·
    refine d_lift (fun k ws X h => z_bipush X rfl h) (d_lift (fun k ws X h => z_goto X (t := 72) rfl (by decide) h) ?_)
    exact d_iret rfl rfl (Or.inl rfl) rfl (fun _ h => h) (hQ _ _ ⟨I, F, 6, rfl, (by decide), by first | exact ⟨by decide, by decide⟩ | omega⟩)
set_option maxHeartbeats 16000000 in
theorem d_mostOf (G : GX l s0 D tys a0 dT) (I : Bd s) {x y : Int} (p0 : 0 ≤ x ∧ x ≤ 11) (p1 : 0 ≤ y ∧ y ≤ 23) {T : TT} (hti : ∀ q ∈ ([] : List Nat), T.1 q) (hta : ∀ a ∈ ([163, 164] : List Nat), ∀ j, j < (bA a).2.2 → T.2 a j) (hcn : ∀ j, j < 12 → ∀ k, k < 24 → T.2 (190 + j) k) : CD l s0 D A dT 220 (rmN 220) [] [] T (T) [.ref (A 179), .int (Int32.ofInt x), .int (Int32.ofInt y)] s (fun o t => Bd t ∧ Fm [] [] s t ∧ ∃ e, o = .inl (some (.int (Int32.ofInt e))) ∧ rng e ∧ (0 ≤ e ∧ e ≤ 50)) := by
  refine cd_of G (by decide) (Nat.le_of_ble_eq_true rfl) (fun Q hQ => ?_)
  have I0 := I
  show DS l s0 D A dT 220 (rmN 220) [] [] (T) Q (T) 0 [(0, .ref (A 179)), (1, .int (Int32.ofInt x)), (2, .int (Int32.ofInt y))] [] s
  have F : Fm [] [] s s := fm_rf _ _ s
  have L12 : ∀ (n : Nat) (t : PS) (xv yv nv c : Int), Bd t → Fm [] [] s t → ((0 ≤ xv ∧ xv ≤ 11) ∧ (0 ≤ yv ∧ yv ≤ 23) ∧ (0 ≤ nv ∧ nv ≤ 50) ∧ -2 ≤ c ∧ c ≤ 26) → (26 - c : Int).toNat < n → (∀ (t' : PS) (xv' yv' nv' c' : Int), Bd t' → Fm [] [] s t' → ((0 ≤ xv' ∧ xv' ≤ 11) ∧ (0 ≤ yv' ∧ yv' ≤ 23) ∧ (0 ≤ nv' ∧ nv' ≤ 50) ∧ -2 ≤ c' ∧ c' ≤ 26) → DS l s0 D A dT 220 (rmN 220) [] [] (T) Q (T) 65 [(0, .ref (A 179)), (1, .int (Int32.ofInt xv')), (2, .int (Int32.ofInt yv')), (3, .int (Int32.ofInt nv')), (4, .int (Int32.ofInt c'))] [] t') → DS l s0 D A dT 220 (rmN 220) [] [] (T) Q (T) 12 [(0, .ref (A 179)), (1, .int (Int32.ofInt xv)), (2, .int (Int32.ofInt yv)), (3, .int (Int32.ofInt nv)), (4, .int (Int32.ofInt c))] [] t := by
    intro n
    induction n with
    | zero =>
      intro t xv yv nv c I F hi hm kx
      exact absurd hm (Nat.not_lt_zero _)
    | succ n ih =>
      intro t xv yv nv c I F hi hm kx
      refine d_lift (fun k ws X h => z_load X (x := c) rfl (List.Mem.tail _ (List.Mem.tail _ (List.Mem.tail _ (List.Mem.tail _ (List.Mem.head _))))) h) (d_lift (fun k ws X h => z_load_n X (x := yv) rfl (List.Mem.tail _ (List.Mem.tail _ (List.Mem.head _))) h) (d_lift (fun k ws X h => z_aload_n X (x := A 179) rfl (List.Mem.head _) h) (d_liftS (fun k s X h => s_getR X 179 rfl (by decide) rfl rfl h) (d_lift (fun k ws X h => z_load_n X (x := xv) rfl (List.Mem.tail _ (List.Mem.head _)) h) (d_ald 186 rfl (by decide) rfl (by first | exact hi.1.1 | omega) (show xv < 12 by first | exact oq_0ddfcfee hi.1.2 | omega) (by decide) (hta 163 (by decide) _ (show (xv).toNat < 12 by first | exact oq_9c5fa447 hi.1.2 | omega)) ?_)))))
      have b1001 := bc_163 I (show (xv).toNat < 12 by first | exact oq_9c5fa447 hi.1.2 | omega)
      refine d_lift (fun k ws X h => z_add X rfl h) (d_br (bo_gt _ _) bx_gt (fun k ws X h1 h2 => z_icmp_gt X (t := 65) rfl (by decide) ⟨by first | exact oq_f81b6609 hi.2.2.2.1 | omega, by first | exact oq_9e7d853b hi.2.2.2.2 | omega⟩ ⟨by first | exact oq_34aac425 hi.2.1.1 b1001.1 | omega, by first | exact oq_b5a47671 hi.2.1.2 b1001.2 | omega⟩ h1 h2) (fun g1002 => ?_) (fun g1002 => ?_))
      ·
        refine d_lvs (lv := [(0, .ref (A 179)), (1, .int (Int32.ofInt xv)), (2, .int (Int32.ofInt yv)), (3, .int (Int32.ofInt nv)), (4, .int (Int32.ofInt c))]) (List.forall_mem_cons.mpr ⟨(List.Mem.head _), (List.forall_mem_cons.mpr ⟨(List.Mem.tail _ (List.Mem.head _)), (List.forall_mem_cons.mpr ⟨(List.Mem.tail _ (List.Mem.tail _ (List.Mem.head _))), (List.forall_mem_cons.mpr ⟨(List.Mem.tail _ (List.Mem.tail _ (List.Mem.tail _ (List.Mem.head _)))), (List.forall_mem_cons.mpr ⟨(List.Mem.tail _ (List.Mem.tail _ (List.Mem.tail _ (List.Mem.tail _ (List.Mem.head _))))), (fun q h => absurd h List.not_mem_nil)⟩)⟩)⟩)⟩)⟩) ?_
        exact kx _ xv yv nv c I F (by first | exact ⟨And.intro (hi.1.1) (hi.1.2), And.intro (hi.2.1.1) (hi.2.1.2), And.intro (hi.2.2.1.1) (hi.2.2.1.2), hi.2.2.2.1, hi.2.2.2.2⟩ | omega)
      ·
        refine d_lift (fun k ws X h => z_load X (x := c) rfl (List.Mem.tail _ (List.Mem.tail _ (List.Mem.tail _ (List.Mem.tail _ (List.Mem.head _))))) h) (d_lift (fun k ws X h => z_const X rfl h) (d_lift (fun k ws X h => z_bipush X rfl h) (d_callT (As := [.int (Int32.ofInt c), .int (Int32.ofInt 0), .int (Int32.ofInt 23)]) (st := []) rfl rfl (d_in G I (by first | exact ⟨oq_f81b6609 hi.2.2.2.1, oq_9e7d853b hi.2.2.2.2⟩ | omega) (by first | exact ⟨by decide, by decide⟩ | omega) (by first | exact ⟨by decide, by decide⟩ | omega) (fun q h => hti q ((by decide : ∀ q ∈ ([] : List Nat), q ∈ ([] : List Nat)) q h)) (fun a h => hta a ((by decide : ∀ q ∈ ([] : List Nat), q ∈ ([163, 164] : List Nat)) a h))) ⟨rfl, rfl⟩ ⟨(show 6 + 1 ≤ 7 from oq_7ae2681c), (show 8 + (mNL (miB 188) + 11) + 100 ≤ 122 from oq_91725b71)⟩ (Nat.le_of_ble_eq_true rfl) (by decide) (by decide) (fun ee s1003 hq => ?_) (fun vv s1003 hq => ?_))))
        · obtain ⟨Is1003, Fs1003, e1004, hv, hrs1003, hps1003⟩ := hq; cases hv
        obtain ⟨Is1003, Fs1003, e1004, hv, hrs1003, hps1003⟩ := hq
        cases hv
        have Gs1003 := fm_tq F Fs1003 rfl rfl
        show DS l s0 D A dT 220 (rmN 220) [] [] (T) Q (T) 33 [(0, .ref (A 179)), (1, .int (Int32.ofInt xv)), (2, .int (Int32.ofInt yv)), (3, .int (Int32.ofInt nv)), (4, .int (Int32.ofInt c))] [.int (Int32.ofInt e1004)] s1003
        refine d_br (bo_eq _ _) bx_eq (fun k ws X h1 h2 => z_if_eq X (t := 59) rfl (by decide) hrs1003 h1 h2) (fun g1005 => ?_) (fun g1005 => ?_)
        ·
          refine d_lift (fun k ws X h => z_inc X (x := c) (lv' := [(4, .int (Int32.ofInt (c + 1))), (0, .ref (A 179)), (1, .int (Int32.ofInt xv)), (2, .int (Int32.ofInt yv)), (3, .int (Int32.ofInt nv))]) rfl (by decide) (List.Mem.tail _ (List.Mem.tail _ (List.Mem.tail _ (List.Mem.tail _ (List.Mem.head _))))) (fun _ h => h) h) (d_lift (fun k ws X h => z_goto X (t := 12) rfl (by decide) h) (d_lvs (lv := [(0, .ref (A 179)), (1, .int (Int32.ofInt xv)), (2, .int (Int32.ofInt yv)), (3, .int (Int32.ofInt nv)), (4, .int (Int32.ofInt (c + 1)))]) (List.forall_mem_cons.mpr ⟨(List.Mem.tail _ (List.Mem.head _)), (List.forall_mem_cons.mpr ⟨(List.Mem.tail _ (List.Mem.tail _ (List.Mem.head _))), (List.forall_mem_cons.mpr ⟨(List.Mem.tail _ (List.Mem.tail _ (List.Mem.tail _ (List.Mem.head _)))), (List.forall_mem_cons.mpr ⟨(List.Mem.tail _ (List.Mem.tail _ (List.Mem.tail _ (List.Mem.tail _ (List.Mem.head _))))), (List.forall_mem_cons.mpr ⟨(List.Mem.head _), (fun q h => absurd h List.not_mem_nil)⟩)⟩)⟩)⟩)⟩) ?_))
          exact ih _ xv yv nv (c + 1) Is1003 Gs1003 (by first | exact ⟨And.intro (hi.1.1) (hi.1.2), And.intro (hi.2.1.1) (hi.2.1.2), And.intro (hi.2.2.1.1) (hi.2.2.1.2), oq_826c3458 hi.2.2.2.1, oq_78fc2d48 g1002 hi.2.1.2 b1001.2⟩ | omega) (by first | exact qk_me hm (by decide) (oq_5c7f6a1c g1002 hi.2.1.2 b1001.2) | omega) kx
        ·
          refine d_lift (fun k ws X h => z_aload_n X (x := A 179) rfl (List.Mem.head _) h) (d_liftS (fun k s X h => s_getR X 179 rfl (by decide) rfl rfl h) (d_lift (fun k ws X h => z_load_n X (x := xv) rfl (List.Mem.tail _ (List.Mem.head _)) h) (d_liftS (fun k s X h => z_aald X rw_215 rfl (by first | exact hi.1.1 | omega) (show xv < 12 by first | exact oq_0ddfcfee hi.1.2 | omega) (by decide) h) (d_lift (fun k ws X h => z_load X (x := c) rfl (List.Mem.tail _ (List.Mem.tail _ (List.Mem.tail _ (List.Mem.tail _ (List.Mem.head _))))) h) (d_ald2 rw_215 rfl (show (xv : Int).toNat < 12 by first | exact oq_9c5fa447 hi.1.2 | omega) (by first | exact oq_0159bb48 g1005 hps1003 | omega) (show c < 24 by first | exact oq_127752ee g1005 hps1003 | omega) (by decide) (hcn _ (show (xv : Int).toNat < 12 by first | (clear g1005 hps1003; omega) | (clear hps1003; omega) | omega) _ (show (c : Int).toNat < 24 by first | (clear g1005 hps1003; omega) | (clear hps1003; omega) | omega)) ?_)))))
          have b1006 : (0 : Int) ≤ (iC s1003 (190 + (xv : Int).toNat) (c : Int).toNat) ∧ (iC s1003 (190 + (xv : Int).toNat) (c : Int).toNat) ≤ 50 := rw_bd rw_215 Is1003 (show (xv : Int).toNat < 12 by first | exact oq_9c5fa447 hi.1.2 | omega) (show (c : Int).toNat < 24 by first | exact oq_200d9360 g1005 hps1003 | omega)
          refine d_lift (fun k ws X h => z_load_n X (x := nv) rfl (List.Mem.tail _ (List.Mem.tail _ (List.Mem.tail _ (List.Mem.head _)))) h) (d_br (bo_le _ _) bx_le (fun k ws X h1 h2 => z_icmp_le X (t := 59) rfl (by decide) (rng_to _) ⟨by first | exact oq_fa4e5087 hi.2.2.1.1 | omega, by first | exact oq_cbe526b3 hi.2.2.1.2 | omega⟩ h1 h2) (fun g1007 => ?_) (fun g1007 => ?_))
          ·
            refine d_lift (fun k ws X h => z_inc X (x := c) (lv' := [(4, .int (Int32.ofInt (c + 1))), (0, .ref (A 179)), (1, .int (Int32.ofInt xv)), (2, .int (Int32.ofInt yv)), (3, .int (Int32.ofInt nv))]) rfl (by decide) (List.Mem.tail _ (List.Mem.tail _ (List.Mem.tail _ (List.Mem.tail _ (List.Mem.head _))))) (fun _ h => h) h) (d_lift (fun k ws X h => z_goto X (t := 12) rfl (by decide) h) (d_lvs (lv := [(0, .ref (A 179)), (1, .int (Int32.ofInt xv)), (2, .int (Int32.ofInt yv)), (3, .int (Int32.ofInt nv)), (4, .int (Int32.ofInt (c + 1)))]) (List.forall_mem_cons.mpr ⟨(List.Mem.tail _ (List.Mem.head _)), (List.forall_mem_cons.mpr ⟨(List.Mem.tail _ (List.Mem.tail _ (List.Mem.head _))), (List.forall_mem_cons.mpr ⟨(List.Mem.tail _ (List.Mem.tail _ (List.Mem.tail _ (List.Mem.head _)))), (List.forall_mem_cons.mpr ⟨(List.Mem.tail _ (List.Mem.tail _ (List.Mem.tail _ (List.Mem.tail _ (List.Mem.head _))))), (List.forall_mem_cons.mpr ⟨(List.Mem.head _), (fun q h => absurd h List.not_mem_nil)⟩)⟩)⟩)⟩)⟩) ?_))
            exact ih _ xv yv nv (c + 1) Is1003 Gs1003 (by first | exact ⟨And.intro (hi.1.1) (hi.1.2), And.intro (hi.2.1.1) (hi.2.1.2), And.intro (hi.2.2.1.1) (hi.2.2.1.2), oq_826c3458 hi.2.2.2.1, oq_78fc2d48 g1002 hi.2.1.2 b1001.2⟩ | omega) (by first | exact qk_me hm (by decide) (oq_5c7f6a1c g1002 hi.2.1.2 b1001.2) | omega) kx
          ·
            refine d_lift (fun k ws X h => z_aload_n X (x := A 179) rfl (List.Mem.head _) h) (d_liftS (fun k s X h => s_getR X 179 rfl (by decide) rfl rfl h) (d_lift (fun k ws X h => z_load_n X (x := xv) rfl (List.Mem.tail _ (List.Mem.head _)) h) (d_liftS (fun k s X h => z_aald X rw_215 rfl (by first | exact hi.1.1 | omega) (show xv < 12 by first | exact oq_0ddfcfee hi.1.2 | omega) (by decide) h) (d_lift (fun k ws X h => z_load X (x := c) rfl (List.Mem.tail _ (List.Mem.tail _ (List.Mem.tail _ (List.Mem.tail _ (List.Mem.head _))))) h) (d_ald2 rw_215 rfl (show (xv : Int).toNat < 12 by first | exact oq_9c5fa447 hi.1.2 | omega) (by first | exact oq_0159bb48 g1005 hps1003 | omega) (show c < 24 by first | exact oq_127752ee g1005 hps1003 | omega) (by decide) (hcn _ (show (xv : Int).toNat < 12 by first | (clear g1005 hps1003; omega) | (clear hps1003; omega) | omega) _ (show (c : Int).toNat < 24 by first | (clear g1005 hps1003; omega) | (clear hps1003; omega) | omega)) ?_)))))
            have b1008 : (0 : Int) ≤ (iC s1003 (190 + (xv : Int).toNat) (c : Int).toNat) ∧ (iC s1003 (190 + (xv : Int).toNat) (c : Int).toNat) ≤ 50 := rw_bd rw_215 Is1003 (show (xv : Int).toNat < 12 by first | exact oq_9c5fa447 hi.1.2 | omega) (show (c : Int).toNat < 24 by first | exact oq_200d9360 g1005 hps1003 | omega)
            refine d_lift (fun k ws X h => z_store_n X (lv' := [(3, .int (Int32.ofInt (iC s1003 (190 + (xv : Int).toNat) (c : Int).toNat))), (0, .ref (A 179)), (1, .int (Int32.ofInt xv)), (2, .int (Int32.ofInt yv)), (4, .int (Int32.ofInt c))]) rfl (by decide) (fun _ h => h) h) (d_lift (fun k ws X h => z_inc X (x := c) (lv' := [(4, .int (Int32.ofInt (c + 1))), (3, .int (Int32.ofInt (iC s1003 (190 + (xv : Int).toNat) (c : Int).toNat))), (0, .ref (A 179)), (1, .int (Int32.ofInt xv)), (2, .int (Int32.ofInt yv))]) rfl (by decide) (List.Mem.tail _ (List.Mem.tail _ (List.Mem.tail _ (List.Mem.tail _ (List.Mem.head _))))) (fun _ h => h) h) (d_lift (fun k ws X h => z_goto X (t := 12) rfl (by decide) h) (d_lvs (lv := [(0, .ref (A 179)), (1, .int (Int32.ofInt xv)), (2, .int (Int32.ofInt yv)), (3, .int (Int32.ofInt (iC s1003 (190 + (xv : Int).toNat) (c : Int).toNat))), (4, .int (Int32.ofInt (c + 1)))]) (List.forall_mem_cons.mpr ⟨(List.Mem.tail _ (List.Mem.tail _ (List.Mem.head _))), (List.forall_mem_cons.mpr ⟨(List.Mem.tail _ (List.Mem.tail _ (List.Mem.tail _ (List.Mem.head _)))), (List.forall_mem_cons.mpr ⟨(List.Mem.tail _ (List.Mem.tail _ (List.Mem.tail _ (List.Mem.tail _ (List.Mem.head _))))), (List.forall_mem_cons.mpr ⟨(List.Mem.tail _ (List.Mem.head _)), (List.forall_mem_cons.mpr ⟨(List.Mem.head _), (fun q h => absurd h List.not_mem_nil)⟩)⟩)⟩)⟩)⟩) ?_)))
            exact ih _ xv yv (iC s1003 (190 + (xv : Int).toNat) (c : Int).toNat) (c + 1) Is1003 Gs1003 (by first | exact ⟨And.intro (hi.1.1) (hi.1.2), And.intro (hi.2.1.1) (hi.2.1.2), And.intro (b1008.1) (b1008.2), oq_826c3458 hi.2.2.2.1, oq_78fc2d48 g1002 hi.2.1.2 b1001.2⟩ | omega) (by first | exact qk_me hm (by decide) (oq_5c7f6a1c g1002 hi.2.1.2 b1001.2) | omega) kx
  refine d_lift (fun k ws X h => z_const X rfl h) (d_lift (fun k ws X h => z_store_n X (lv' := [(3, .int (Int32.ofInt 0)), (0, .ref (A 179)), (1, .int (Int32.ofInt x)), (2, .int (Int32.ofInt y))]) rfl (by decide) (fun _ h => h) h) (d_lift (fun k ws X h => z_load_n X (x := y) rfl (List.Mem.tail _ (List.Mem.tail _ (List.Mem.tail _ (List.Mem.head _)))) h) (d_lift (fun k ws X h => z_aload_n X (x := A 179) rfl (List.Mem.tail _ (List.Mem.head _)) h) (d_liftS (fun k s X h => s_getR X 179 rfl (by decide) rfl rfl h) (d_lift (fun k ws X h => z_load_n X (x := x) rfl (List.Mem.tail _ (List.Mem.tail _ (List.Mem.head _))) h) (d_ald 187 rfl (by decide) rfl (by first | exact p0.1 | omega) (show x < 12 by first | exact oq_0ddfcfee p0.2 | omega) (by decide) (hta 164 (by decide) _ (show (x).toNat < 12 by first | exact oq_9c5fa447 p0.2 | omega)) ?_))))))
  have b1 := bc_164 I (show (x).toNat < 12 by first | exact oq_9c5fa447 p0.2 | omega)
  refine d_lift (fun k ws X h => z_sub X rfl h) (d_lift (fun k ws X h => z_store X (lv' := [(4, .int (Int32.ofInt (y - (iC s 164 (x).toNat)))), (3, .int (Int32.ofInt 0)), (0, .ref (A 179)), (1, .int (Int32.ofInt x)), (2, .int (Int32.ofInt y))]) rfl (by decide) (fun _ h => h) h) (d_lvs (lv := [(0, .ref (A 179)), (1, .int (Int32.ofInt x)), (2, .int (Int32.ofInt y)), (3, .int (Int32.ofInt 0)), (4, .int (Int32.ofInt (y - (iC s 164 (x).toNat))))]) (List.forall_mem_cons.mpr ⟨(List.Mem.tail _ (List.Mem.tail _ (List.Mem.head _))), (List.forall_mem_cons.mpr ⟨(List.Mem.tail _ (List.Mem.tail _ (List.Mem.tail _ (List.Mem.head _)))), (List.forall_mem_cons.mpr ⟨(List.Mem.tail _ (List.Mem.tail _ (List.Mem.tail _ (List.Mem.tail _ (List.Mem.head _))))), (List.forall_mem_cons.mpr ⟨(List.Mem.tail _ (List.Mem.head _)), (List.forall_mem_cons.mpr ⟨(List.Mem.head _), (fun q h => absurd h List.not_mem_nil)⟩)⟩)⟩)⟩)⟩) (L12 ((26 - (y - (iC s 164 (x).toNat)) : Int).toNat + 1) s x y 0 (y - (iC s 164 (x).toNat)) I F (by first | exact ⟨And.intro (p0.1) (p0.2), And.intro (p1.1) (p1.2), And.intro (by decide) (by decide), oq_15fc5886 p1.1 b1.2, oq_0fb31b58 p1.2 b1.1⟩ | omega) (Nat.lt_succ_self _) ?_)))
  intro s2 x3 x4 x5 x6 Is2 Fs2 hs2
  refine d_lift (fun k ws X h => z_load_n X (x := x5) rfl (List.Mem.tail _ (List.Mem.tail _ (List.Mem.tail _ (List.Mem.head _)))) h) ?_
  exact d_iret rfl rfl (Or.inl rfl) rfl (fun _ h => h) (hQ _ _ ⟨Is2, Fs2, x5, rfl, ⟨by first | exact oq_fa4e5087 hs2.2.2.1.1 | omega, by first | exact oq_cbe526b3 hs2.2.2.1.2 | omega⟩, by first | exact ⟨hs2.2.2.1.1, hs2.2.2.1.2⟩ | omega⟩)
set_option maxHeartbeats 16000000 in
theorem d_numbersIn (G : GX l s0 D tys a0 dT) (I : Bd s) {x : Int} (p0 : 0 ≤ x ∧ x ≤ 23) {T : TT} (hti : ∀ q ∈ ([90] : List Nat), T.1 q) (hta : ∀ a ∈ ([163, 164] : List Nat), ∀ j, j < (bA a).2.2 → T.2 a j) (hcn : ∀ j, j < 12 → ∀ k, k < 24 → T.2 (190 + j) k) : CD l s0 D A dT 224 (rmN 224) [] [203] T (TU T 203 (iI s 90)) [.ref (A 179), .int (Int32.ofInt x)] s (fun o t => Bd t ∧ Fm [] [203] s t ∧ o = .inl none ∧ (True)) := by
  refine cd_of G (by decide) (Nat.le_of_ble_eq_true rfl) (fun Q hQ => ?_)
  have I0 := I
  show DS l s0 D A dT 224 (rmN 224) [] [203] (TU T 203 (iI s 90)) Q (T) 0 [(0, .ref (A 179)), (1, .int (Int32.ofInt x))] [] s
  have F : Fm [] [203] s s := fm_rf _ _ s
  have b1 := bi_90 I
  have L2 : ∀ (n : Nat) (t : PS) (xv c : Int), Bd t → Fm [] [203] s t → ((0 ≤ xv ∧ xv ≤ 23) ∧ 0 ≤ c ∧ c ≤ 12) → (12 - c : Int).toNat < n → (∀ (t' : PS) (xv' c' : Int), Bd t' → Fm [] [203] s t' → (iI s 90 ≤ c') → DS l s0 D A dT 224 (rmN 224) [] [203] (TU T 203 (iI s 90)) Q (TU T 203 c') 28 [(0, .ref (A 179)), (1, .int (Int32.ofInt xv')), (2, .int (Int32.ofInt c'))] [] t') → DS l s0 D A dT 224 (rmN 224) [] [203] (TU T 203 (iI s 90)) Q (TU T 203 c) 2 [(0, .ref (A 179)), (1, .int (Int32.ofInt xv)), (2, .int (Int32.ofInt c))] [] t := by
    intro n
    induction n with
    | zero =>
      intro t xv c I F hi hm kx
      exact absurd hm (Nat.not_lt_zero _)
    | succ n ih =>
      intro t xv c I F hi hm kx
      have b1001 := bi_90 I
      have hta1002 : ∀ a ∈ ([163, 164] : List Nat), ∀ j, j < (bA a).2.2 → (TU T 203 c).2 a j := fun a h j hj => Or.inr (hta a h j hj)
      refine d_lift (fun k ws X h => z_load_n X (x := c) rfl (List.Mem.tail _ (List.Mem.tail _ (List.Mem.head _))) h) (d_lift (fun k ws X h => z_aload_n X (x := A 179) rfl (List.Mem.head _) h) (d_getI 179 rfl (by decide) rfl rfl (hti 90 (by decide)) ?_))
      have b1003 := bi_90 I
      have q1004 : iI t 90 = iI s 90 := fm_iq F rfl
      refine d_br (bo_ge _ _) bx_ge (fun k ws X h1 h2 => z_icmp_ge X (t := 28) rfl (by decide) ⟨by first | exact oq_fa4e5087 hi.2.1 | omega, by first | exact oq_78843a64 hi.2.2 | omega⟩ (rng_to _) h1 h2) (fun g1005 => ?_) (fun g1005 => ?_)
      ·
        refine d_lvs (lv := [(0, .ref (A 179)), (1, .int (Int32.ofInt xv)), (2, .int (Int32.ofInt c))]) (List.forall_mem_cons.mpr ⟨(List.Mem.head _), (List.forall_mem_cons.mpr ⟨(List.Mem.tail _ (List.Mem.head _)), (List.forall_mem_cons.mpr ⟨(List.Mem.tail _ (List.Mem.tail _ (List.Mem.head _))), (fun q h => absurd h List.not_mem_nil)⟩)⟩)⟩) ?_
        exact kx _ xv c I F (by first | exact oq_acf76229 g1005 q1004 | omega)
      ·
        refine d_lift (fun k ws X h => z_aload_n X (x := A 179) rfl (List.Mem.head _) h) (d_liftS (fun k s X h => s_getR X 179 rfl (by decide) rfl rfl h) (d_lift (fun k ws X h => z_load_n X (x := c) rfl (List.Mem.tail _ (List.Mem.tail _ (List.Mem.head _))) h) (d_lift (fun k ws X h => z_aload_n X (x := A 179) rfl (List.Mem.head _) h) (d_lift (fun k ws X h => z_load_n X (x := c) rfl (List.Mem.tail _ (List.Mem.tail _ (List.Mem.head _))) h) (d_lift (fun k ws X h => z_load_n X (x := xv) rfl (List.Mem.tail _ (List.Mem.head _)) h) (d_callV 179 (As := [.int (Int32.ofInt c), .int (Int32.ofInt xv)]) (st := [.int (Int32.ofInt c), .ref (A 229)]) rfl rfl (by decide) rfl (d_mostOf (T := TU T 203 c) G I (by first | exact ⟨hi.2.1, oq_e4d7f3c5 g1005 b1003.2⟩ | omega) (by first | exact ⟨hi.1.1, hi.1.2⟩ | omega) (fun q h => hti q ((by decide : ∀ q ∈ ([] : List Nat), q ∈ ([90] : List Nat)) q h)) (fun a h => hta1002 a ((by decide : ∀ q ∈ ([163, 164] : List Nat), q ∈ ([163, 164] : List Nat)) a h)) (fun j hj k hk => (Or.inr (hcn j hj k hk)))) ⟨rfl, rfl⟩ ⟨(show 7 + 1 ≤ 8 from oq_519c1fd2), (show 8 + (mNL (miB 220) + 11) + 122 ≤ 146 from oq_bddf4d11)⟩ (Nat.le_of_ble_eq_true rfl) (by decide) (by decide) (fun ee s1006 hq => ?_) (fun vv s1006 hq => ?_)))))))
        · obtain ⟨Is1006, Fs1006, e1007, hv, hrs1006, hps1006⟩ := hq; cases hv
        obtain ⟨Is1006, Fs1006, e1007, hv, hrs1006, hps1006⟩ := hq
        cases hv
        have Gs1006 := fm_tq F Fs1006 rfl rfl
        have ws1006_90 : iI s1006 90 = iI t 90 := fm_iq Fs1006 rfl
        show DS l s0 D A dT 224 (rmN 224) [] [203] (TU T 203 (iI s 90)) Q (TU T 203 c) 21 [(0, .ref (A 179)), (1, .int (Int32.ofInt xv)), (2, .int (Int32.ofInt c))] [.int (Int32.ofInt e1007), .int (Int32.ofInt c), .ref (A 229)] s1006
        refine d_ast 229 rfl (by decide) rfl (by first | exact hi.2.1 | omega) (show c < 12 by first | exact oq_f36e82a8 g1005 b1003.2 | omega) (by decide) (show 203 ∈ _ by decide) (show (0 : Int) ≤ e1007 ∧ e1007 ≤ 50 by first | exact ⟨hps1006.1, hps1006.2⟩ | omega) hrs1006 (ds_gen (fun s1008 hs1008 => ?_))
        have Is1008 : Bd s1008 := eqB hs1008 (bd_C Is1006 (show (0 : Int) ≤ e1007 ∧ e1007 ≤ 50 by first | exact ⟨hps1006.1, hps1006.2⟩ | omega) hrs1006)
        have Fs1008 := eqF hs1008 (fm_C Gs1006 (inl_ok (a := 203) rfl))
        have ws1008_90 : iI s1008 90 = iI s1006 90 := eqI hs1008 rfl
        refine d_lift (fun k ws X h => z_inc X (x := c) (lv' := [(2, .int (Int32.ofInt (c + 1))), (0, .ref (A 179)), (1, .int (Int32.ofInt xv))]) rfl (by decide) (List.Mem.tail _ (List.Mem.tail _ (List.Mem.head _))) (fun _ h => h) h) (d_lift (fun k ws X h => z_goto X (t := 2) rfl (by decide) h) (d_lvs (lv := [(0, .ref (A 179)), (1, .int (Int32.ofInt xv)), (2, .int (Int32.ofInt (c + 1)))]) (List.forall_mem_cons.mpr ⟨(List.Mem.tail _ (List.Mem.head _)), (List.forall_mem_cons.mpr ⟨(List.Mem.tail _ (List.Mem.tail _ (List.Mem.head _))), (List.forall_mem_cons.mpr ⟨(List.Mem.head _), (fun q h => absurd h List.not_mem_nil)⟩)⟩)⟩) (d_mono (T' := TU T 203 (c + 1)) (fun _ h => h) (TU_s (by omega)) ?_)))
        exact ih _ xv (c + 1) Is1008 Fs1008 (by first | exact ⟨And.intro (hi.1.1) (hi.1.2), oq_54f49eb5 hi.2.1, oq_4dae995e g1005 b1003.2⟩ | omega) (by first | exact qk_me hm (by decide) (oq_b575e8c1 g1005 b1003.2) | omega) kx
  refine d_lift (fun k ws X h => z_const X rfl h) (d_lift (fun k ws X h => z_store_n X (lv' := [(2, .int (Int32.ofInt 0)), (0, .ref (A 179)), (1, .int (Int32.ofInt x))]) rfl (by decide) (fun _ h => h) h) (d_lvs (lv := [(0, .ref (A 179)), (1, .int (Int32.ofInt x)), (2, .int (Int32.ofInt 0))]) (List.forall_mem_cons.mpr ⟨(List.Mem.tail _ (List.Mem.head _)), (List.forall_mem_cons.mpr ⟨(List.Mem.tail _ (List.Mem.tail _ (List.Mem.head _))), (List.forall_mem_cons.mpr ⟨(List.Mem.head _), (fun q h => absurd h List.not_mem_nil)⟩)⟩)⟩) (d_mono (T' := TU T 203 0) (fun _ h => h) (TU_0 (by omega)) (L2 ((12 - 0 : Int).toNat + 1) s x 0 I F (by first | exact ⟨And.intro (p0.1) (p0.2), by decide, by decide⟩ | omega) (Nat.lt_succ_self _) ?_))))
  intro s2 x3 x4 Is2 Fs2 hs2
  have b5 := bi_90 Is2
  exact d_vret rfl rfl (fun _ h => AGr_mono h (fun _ h => h) (TU_le (by omega))) (hQ _ _ ⟨Is2, Fs2, rfl, trivial⟩)
set_option maxHeartbeats 16000000 in
theorem d_readsAt (G : GX l s0 D tys a0 dT) (I : Bd s) {x : Int} (p0 : 0 ≤ x ∧ x ≤ 380) {T : TT} (hti : ∀ q ∈ ([82] : List Nat), T.1 q) (hta : ∀ a ∈ ([] : List Nat), ∀ j, j < (bA a).2.2 → T.2 a j) : CD l s0 D A dT 216 (rmN 216) [81, 75, 77, 78, 79] [] T (TI (TI (TI (TI (TI T 81) 75) 77) 78) 79) [.ref (A 179), .int (Int32.ofInt x)] s (fun o t => Bd t ∧ Fm [81, 75, 77, 78, 79] [] s t ∧ o = .inl none ∧ (iI t 77 = x ∧ iI t 78 = 0 ∧ iI t 79 = 0)) := by
  refine cd_of G (by decide) (Nat.le_of_ble_eq_true rfl) (fun Q hQ => ?_)
  have I0 := I
  show DS l s0 D A dT 216 (rmN 216) [81, 75, 77, 78, 79] [] (TI (TI (TI (TI (TI T 81) 75) 77) 78) 79) Q (T) 0 [(0, .ref (A 179)), (1, .int (Int32.ofInt x))] [] s
  have F : Fm [81, 75, 77, 78, 79] [] s s := fm_rf _ _ s
  have b1 := bi_77 I
  have b2 := bi_78 I
  have b3 := bi_79 I
  refine d_lift (fun k ws X h => z_aload_n X (x := A 179) rfl (List.Mem.head _) h) (d_lift (fun k ws X h => z_const X rfl h) (d_putI 179 rfl (by decide) rfl rfl (by decide) rfl rfl rfl (show 81 ∈ _ by decide) (show (0 : Int) ≤ 1 ∧ 1 ≤ 1 by first | exact ⟨by decide, by decide⟩ | omega) (by decide) ?_))
  have hti4 : ∀ q ∈ [81, 82], (TI (T) 81).1 q := hti_g hti
  refine ds_gen (fun s5 hs5 => ?_)
  have Is5 : Bd s5 := eqB hs5 (bd_I I (show (0 : Int) ≤ 1 ∧ 1 ≤ 1 by first | exact ⟨by decide, by decide⟩ | omega) (by decide))
  have Fs5 := eqF hs5 (fm_I F (inl_ok (a := 81) rfl))
  have vs5 : iI s5 81 = 1 := eqI hs5 (iI_u (by decide))
  have ws5_77 : iI s5 77 = iI s 77 := eqI hs5 rfl
  have ws5_78 : iI s5 78 = iI s 78 := eqI hs5 rfl
  have ws5_79 : iI s5 79 = iI s 79 := eqI hs5 rfl
  refine d_lift (fun k ws X h => z_aload_n X (x := A 179) rfl (List.Mem.head _) h) (d_lift (fun k ws X h => z_aload_n X (x := A 179) rfl (List.Mem.head _) h) (d_getI 179 rfl (by decide) rfl rfl (hti4 82 (by decide)) ?_))
  have b6 := bi_82 Is5
  refine d_putI 179 rfl (by decide) rfl rfl (by decide) rfl rfl rfl (show 75 ∈ _ by decide) (show (0 : Int) ≤ (iI s5 82) ∧ (iI s5 82) ≤ 200 by first | exact ⟨b6.1, b6.2⟩ | omega) (rng_to _) ?_
  have hti7 : ∀ q ∈ [75, 81, 82], (TI (TI (T) 81) 75).1 q := hti_g hti4
  refine ds_gen (fun s8 hs8 => ?_)
  have Is8 : Bd s8 := eqB hs8 (bd_I Is5 (show (0 : Int) ≤ (iI s5 82) ∧ (iI s5 82) ≤ 200 by first | exact ⟨b6.1, b6.2⟩ | omega) (rng_to _))
  have Fs8 := eqF hs8 (fm_I Fs5 (inl_ok (a := 75) rfl))
  have vs8 : iI s8 75 = (iI s5 82) := eqI hs8 (iI_u (rng_to _))
  have ws8_77 : iI s8 77 = iI s5 77 := eqI hs8 rfl
  have ws8_78 : iI s8 78 = iI s5 78 := eqI hs8 rfl
  have ws8_79 : iI s8 79 = iI s5 79 := eqI hs8 rfl
  refine d_lift (fun k ws X h => z_aload_n X (x := A 179) rfl (List.Mem.head _) h) (d_lift (fun k ws X h => z_load_n X (x := x) rfl (List.Mem.tail _ (List.Mem.head _)) h) (d_putI 179 rfl (by decide) rfl rfl (by decide) rfl rfl rfl (show 77 ∈ _ by decide) (show (0 : Int) ≤ x ∧ x ≤ 400 by first | exact ⟨p0.1, oq_6c55e2f6 p0.2⟩ | omega) ⟨by first | exact oq_fa4e5087 p0.1 | omega, by first | exact oq_5d668942 p0.2 | omega⟩ ?_))
  have hti9 : ∀ q ∈ [77, 75, 81, 82], (TI (TI (TI (T) 81) 75) 77).1 q := hti_g hti7
  refine ds_gen (fun s10 hs10 => ?_)
  have Is10 : Bd s10 := eqB hs10 (bd_I Is8 (show (0 : Int) ≤ x ∧ x ≤ 400 by first | exact ⟨p0.1, oq_6c55e2f6 p0.2⟩ | omega) ⟨by first | exact oq_fa4e5087 p0.1 | omega, by first | exact oq_5d668942 p0.2 | omega⟩)
  have Fs10 := eqF hs10 (fm_I Fs8 (inl_ok (a := 77) rfl))
  have vs10 : iI s10 77 = x := eqI hs10 (iI_u ⟨by first | exact oq_fa4e5087 p0.1 | omega, by first | exact oq_5d668942 p0.2 | omega⟩)
  have ws10_78 : iI s10 78 = iI s8 78 := eqI hs10 rfl
  have ws10_79 : iI s10 79 = iI s8 79 := eqI hs10 rfl
  refine d_lift (fun k ws X h => z_aload_n X (x := A 179) rfl (List.Mem.head _) h) (d_lift (fun k ws X h => z_const X rfl h) (d_putI 179 rfl (by decide) rfl rfl (by decide) rfl rfl rfl (show 78 ∈ _ by decide) (show (0 : Int) ≤ 0 ∧ 0 ≤ 8 by first | exact ⟨by decide, by decide⟩ | omega) (by decide) ?_))
  have hti11 : ∀ q ∈ [78, 77, 75, 81, 82], (TI (TI (TI (TI (T) 81) 75) 77) 78).1 q := hti_g hti9
  refine ds_gen (fun s12 hs12 => ?_)
  have Is12 : Bd s12 := eqB hs12 (bd_I Is10 (show (0 : Int) ≤ 0 ∧ 0 ≤ 8 by first | exact ⟨by decide, by decide⟩ | omega) (by decide))
  have Fs12 := eqF hs12 (fm_I Fs10 (inl_ok (a := 78) rfl))
  have vs12 : iI s12 78 = 0 := eqI hs12 (iI_u (by decide))
  have ws12_77 : iI s12 77 = iI s10 77 := eqI hs12 rfl
  have ws12_79 : iI s12 79 = iI s10 79 := eqI hs12 rfl
  refine d_lift (fun k ws X h => z_aload_n X (x := A 179) rfl (List.Mem.head _) h) (d_lift (fun k ws X h => z_const X rfl h) (d_putI 179 rfl (by decide) rfl rfl (by decide) rfl rfl rfl (show 79 ∈ _ by decide) (show (0 : Int) ≤ 0 ∧ 0 ≤ 9 by first | exact ⟨by decide, by decide⟩ | omega) (by decide) ?_))
  have hti13 : ∀ q ∈ [79, 78, 77, 75, 81, 82], (TI (TI (TI (TI (TI (T) 81) 75) 77) 78) 79).1 q := hti_g hti11
  refine ds_gen (fun s14 hs14 => ?_)
  have Is14 : Bd s14 := eqB hs14 (bd_I Is12 (show (0 : Int) ≤ 0 ∧ 0 ≤ 9 by first | exact ⟨by decide, by decide⟩ | omega) (by decide))
  have Fs14 := eqF hs14 (fm_I Fs12 (inl_ok (a := 79) rfl))
  have vs14 : iI s14 79 = 0 := eqI hs14 (iI_u (by decide))
  have ws14_77 : iI s14 77 = iI s12 77 := eqI hs14 rfl
  have ws14_78 : iI s14 78 = iI s12 78 := eqI hs14 rfl
  exact d_vret rfl rfl (fun _ h => h) (hQ _ _ ⟨Is14, Fs14, rfl, by first | exact ⟨oq_d0d2714e ws14_77 vs10 ws12_77, oq_e5e5d3d6 ws14_78 vs12, vs14⟩ | omega⟩)
set_option maxHeartbeats 16000000 in
theorem d_hasCells (G : GX l s0 D tys a0 dT) (I : Bd s) {x : Int} (p0 : rng x) {T : TT} (hti : ∀ q ∈ ([] : List Nat), T.1 q) (hta : ∀ a ∈ ([228] : List Nat), ∀ j, j < (bA a).2.2 → T.2 a j) : CD l s0 D A dT 233 (rmN 233) [] [] T (T) [.ref (A 179), .int (Int32.ofInt x)] s (fun o t => Bd t ∧ Fm [] [] s t ∧ ∃ e, o = .inl (some (.int (Int32.ofInt e))) ∧ rng e ∧ (e = 0 ∨ e = 1)) := by
  refine cd_of G (by decide) (Nat.le_of_ble_eq_true rfl) (fun Q hQ => ?_)
  have I0 := I
  show DS l s0 D A dT 233 (rmN 233) [] [] (T) Q (T) 0 [(0, .ref (A 179)), (1, .int (Int32.ofInt x))] [] s
  have F : Fm [] [] s s := fm_rf _ _ s
  have L2 : ∀ (n : Nat) (t : PS) (x1 c : Int), Bd t → Fm [] [] s t → (rng x1 ∧ 0 ≤ c ∧ c ≤ 128) → (128 - c : Int).toNat < n → (∀ (t' : PS) (x1' c' : Int), Bd t' → Fm [] [] s t' → (rng x1' ∧ 0 ≤ c' ∧ c' ≤ 128) → DS l s0 D A dT 233 (rmN 233) [] [] (T) Q (T) 27 [(0, .ref (A 179)), (1, .int (Int32.ofInt x1')), (2, .int (Int32.ofInt c'))] [] t') → DS l s0 D A dT 233 (rmN 233) [] [] (T) Q (T) 2 [(0, .ref (A 179)), (1, .int (Int32.ofInt x1)), (2, .int (Int32.ofInt c))] [] t := by
    intro n
    induction n with
    | zero =>
      intro t x1 c I F hi hm kx
      exact absurd hm (Nat.not_lt_zero _)
    | succ n ih =>
      intro t x1 c I F hi hm kx
      refine d_lift (fun k ws X h => z_load_n X (x := c) rfl (List.Mem.tail _ (List.Mem.tail _ (List.Mem.head _))) h) (d_lift (fun k ws X h => z_sipush X rfl h) (d_br (bo_ge _ _) bx_ge (fun k ws X h1 h2 => z_icmp_ge X (t := 27) rfl (by decide) ⟨by first | exact oq_fa4e5087 hi.2.1 | omega, by first | exact oq_4ee82282 hi.2.2 | omega⟩ (by decide) h1 h2) (fun g1001 => ?_) (fun g1001 => ?_)))
      ·
        refine d_lvs (lv := [(0, .ref (A 179)), (1, .int (Int32.ofInt x1)), (2, .int (Int32.ofInt c))]) (List.forall_mem_cons.mpr ⟨(List.Mem.head _), (List.forall_mem_cons.mpr ⟨(List.Mem.tail _ (List.Mem.head _)), (List.forall_mem_cons.mpr ⟨(List.Mem.tail _ (List.Mem.tail _ (List.Mem.head _))), (fun q h => absurd h List.not_mem_nil)⟩)⟩)⟩) ?_
        exact kx _ x1 c I F (by first | exact ⟨And.intro (hi.1.1) (hi.1.2), hi.2.1, hi.2.2⟩ | omega)
      ·
        refine d_lift (fun k ws X h => z_aload_n X (x := A 179) rfl (List.Mem.head _) h) (d_liftS (fun k s X h => s_getR X 179 rfl (by decide) rfl rfl h) (d_lift (fun k ws X h => z_load_n X (x := c) rfl (List.Mem.tail _ (List.Mem.tail _ (List.Mem.head _))) h) (d_ald 256 rfl (by decide) rfl (by first | exact hi.2.1 | omega) (show c < 128 by first | exact g1001 | omega) (by decide) (hta 228 (by decide) _ (show (c).toNat < 128 by first | exact oq_afb89947 g1001 | omega)) ?_)))
        have b1002 := bc_228 I (show (c).toNat < 128 by first | exact oq_afb89947 g1001 | omega)
        refine d_lift (fun k ws X h => z_load_n X (x := x1) rfl (List.Mem.tail _ (List.Mem.head _)) h) (d_br (bo_ne _ _) bx_ne (fun k ws X h1 h2 => z_icmp_ne X (t := 21) rfl (by decide) (rng_to _) ⟨by first | exact hi.1.1 | omega, by first | exact hi.1.2 | omega⟩ h1 h2) (fun g1003 => ?_) (fun g1003 => ?_))
        ·
          refine d_lift (fun k ws X h => z_inc X (x := c) (lv' := [(2, .int (Int32.ofInt (c + 1))), (0, .ref (A 179)), (1, .int (Int32.ofInt x1))]) rfl (by decide) (List.Mem.tail _ (List.Mem.tail _ (List.Mem.head _))) (fun _ h => h) h) (d_lift (fun k ws X h => z_goto X (t := 2) rfl (by decide) h) (d_lvs (lv := [(0, .ref (A 179)), (1, .int (Int32.ofInt x1)), (2, .int (Int32.ofInt (c + 1)))]) (List.forall_mem_cons.mpr ⟨(List.Mem.tail _ (List.Mem.head _)), (List.forall_mem_cons.mpr ⟨(List.Mem.tail _ (List.Mem.tail _ (List.Mem.head _))), (List.forall_mem_cons.mpr ⟨(List.Mem.head _), (fun q h => absurd h List.not_mem_nil)⟩)⟩)⟩) ?_))
          exact ih _ x1 (c + 1) I F (by first | exact ⟨And.intro (hi.1.1) (hi.1.2), oq_54f49eb5 hi.2.1, oq_d2afb425 g1001⟩ | omega) (by first | exact qk_me hm (by decide) (oq_c268b7bd g1001) | omega) kx
        ·
          refine d_lift (fun k ws X h => z_const X rfl h) ?_
          exact d_iret rfl (nar_ret (by first | exact Or.inr (by decide) | omega)) (Or.inr rfl) rfl (fun _ h => h) (hQ _ _ ⟨I, F, 1, rfl, (by decide), by first | exact Or.inr (by decide) | omega⟩)
  refine d_lift (fun k ws X h => z_const X rfl h) (d_lift (fun k ws X h => z_store_n X (lv' := [(2, .int (Int32.ofInt 0)), (0, .ref (A 179)), (1, .int (Int32.ofInt x))]) rfl (by decide) (fun _ h => h) h) (d_lvs (lv := [(0, .ref (A 179)), (1, .int (Int32.ofInt x)), (2, .int (Int32.ofInt 0))]) (List.forall_mem_cons.mpr ⟨(List.Mem.tail _ (List.Mem.head _)), (List.forall_mem_cons.mpr ⟨(List.Mem.tail _ (List.Mem.tail _ (List.Mem.head _))), (List.forall_mem_cons.mpr ⟨(List.Mem.head _), (fun q h => absurd h List.not_mem_nil)⟩)⟩)⟩) (L2 ((128 - 0 : Int).toNat + 1) s x 0 I F (by first | exact ⟨And.intro (p0.1) (p0.2), by decide, by decide⟩ | omega) (Nat.lt_succ_self _) ?_)))
  intro s1 x2 x3 Is1 Fs1 hs1
  refine d_lift (fun k ws X h => z_const X rfl h) ?_
  exact d_iret rfl (nar_ret (by first | exact Or.inl (by decide) | omega)) (Or.inr rfl) rfl (fun _ h => h) (hQ _ _ ⟨Is1, Fs1, 0, rfl, (by decide), by first | exact Or.inl (by decide) | omega⟩)
set_option maxHeartbeats 16000000 in
theorem d_groupOf (G : GX l s0 D tys a0 dT) (I : Bd s) {x y : Int} (p0 : 0 ≤ x ∧ x ≤ 5) (p1 : 0 ≤ y ∧ y ≤ 7) {T : TT} (hti : ∀ q ∈ ([] : List Nat), T.1 q) (hta : ∀ a ∈ ([237] : List Nat), ∀ j, j < (bA a).2.2 → T.2 a j) : CD l s0 D A dT 265 (rmN 265) [] [] T (T) [.ref (A 179), .int (Int32.ofInt x), .int (Int32.ofInt y)] s (fun o t => Bd t ∧ Fm [] [] s t ∧ ∃ e, o = .inl (some (.int (Int32.ofInt e))) ∧ rng e ∧ (0 ≤ e ∧ e ≤ 7)) := by
  refine cd_of G (by decide) (Nat.le_of_ble_eq_true rfl) (fun Q hQ => ?_)
  have I0 := I
  show DS l s0 D A dT 265 (rmN 265) [] [] (T) Q (T) 0 [(0, .ref (A 179)), (1, .int (Int32.ofInt x)), (2, .int (Int32.ofInt y))] [] s
  have F : Fm [] [] s s := fm_rf _ _ s
  refine d_lift (fun k ws X h => z_aload_n X (x := A 179) rfl (List.Mem.head _) h) (d_liftS (fun k s X h => s_getR X 179 rfl (by decide) rfl rfl h) (d_lift (fun k ws X h => z_load_n X (x := x) rfl (List.Mem.tail _ (List.Mem.head _)) h) (d_ald 265 rfl (by decide) rfl (by first | exact p0.1 | omega) (show x < 6 by first | exact oq_9207f8f8 p0.2 | omega) (by decide) (hta 237 (by decide) _ (show (x).toNat < 6 by first | exact oq_78f9cd89 p0.2 | omega)) ?_)))
  have b1 := bc_237 I (show (x).toNat < 6 by first | exact oq_78f9cd89 p0.2 | omega)
  refine d_lift (fun k ws X h => z_const X rfl h) (d_lift (fun k ws X h => z_load_n X (x := y) rfl (List.Mem.tail _ (List.Mem.tail _ (List.Mem.head _))) h) (d_lift (fun k ws X h => z_mul X rfl h) (d_lift (fun k ws X h => z_bshr X rfl h) (d_any (fun y2 hy2 => ?_)))))
  refine d_lift (fun k ws X h => z_bipush X rfl h) (d_andm rfl (by decide) (by decide) (fun y3 hy3 gy3 => ?_))
  exact d_iret rfl rfl (Or.inl rfl) rfl (fun _ h => h) (hQ _ _ ⟨I, F, y3, rfl, ⟨by first | exact oq_fa4e5087 hy3 | omega, by first | exact oq_0e78ca7d gy3 | omega⟩, by first | exact ⟨hy3, gy3⟩ | omega⟩)
set_option maxHeartbeats 16000000 in
theorem d_setOf (G : GX l s0 D tys a0 dT) (I : Bd s) {x : Int} (p0 : rng x) {T : TT} (hti : ∀ q ∈ ([] : List Nat), T.1 q) (hta : ∀ a ∈ ([228] : List Nat), ∀ j, j < (bA a).2.2 → T.2 a j) : CD l s0 D A dT 230 (rmN 230) [] [230] T (TU T 230 128) [.ref (A 179), .int (Int32.ofInt x)] s (fun o t => Bd t ∧ Fm [] [230] s t ∧ o = .inl none ∧ (True)) := by
  refine cd_of G (by decide) (Nat.le_of_ble_eq_true rfl) (fun Q hQ => ?_)
  have I0 := I
  show DS l s0 D A dT 230 (rmN 230) [] [230] (TU T 230 128) Q (T) 0 [(0, .ref (A 179)), (1, .int (Int32.ofInt x))] [] s
  have F : Fm [] [230] s s := fm_rf _ _ s
  have L2 : ∀ (n : Nat) (t : PS) (x1 c : Int), Bd t → Fm [] [230] s t → (rng x1 ∧ 0 ≤ c ∧ c ≤ 128) → (128 - c : Int).toNat < n → (∀ (t' : PS) (x1' c' : Int), Bd t' → Fm [] [230] s t' → (128 ≤ c') → DS l s0 D A dT 230 (rmN 230) [] [230] (TU T 230 128) Q (TU T 230 c') 36 [(0, .ref (A 179)), (1, .int (Int32.ofInt x1')), (2, .int (Int32.ofInt c'))] [] t') → DS l s0 D A dT 230 (rmN 230) [] [230] (TU T 230 128) Q (TU T 230 c) 2 [(0, .ref (A 179)), (1, .int (Int32.ofInt x1)), (2, .int (Int32.ofInt c))] [] t := by
    intro n
    induction n with
    | zero =>
      intro t x1 c I F hi hm kx
      exact absurd hm (Nat.not_lt_zero _)
    | succ n ih =>
      intro t x1 c I F hi hm kx
      have hta1001 : ∀ a ∈ ([228] : List Nat), ∀ j, j < (bA a).2.2 → (TU T 230 c).2 a j := fun a h j hj => Or.inr (hta a h j hj)
      refine d_lift (fun k ws X h => z_load_n X (x := c) rfl (List.Mem.tail _ (List.Mem.tail _ (List.Mem.head _))) h) (d_lift (fun k ws X h => z_sipush X rfl h) (d_br (bo_ge _ _) bx_ge (fun k ws X h1 h2 => z_icmp_ge X (t := 36) rfl (by decide) ⟨by first | exact oq_fa4e5087 hi.2.1 | omega, by first | exact oq_4ee82282 hi.2.2 | omega⟩ (by decide) h1 h2) (fun g1002 => ?_) (fun g1002 => ?_)))
      ·
        refine d_lvs (lv := [(0, .ref (A 179)), (1, .int (Int32.ofInt x1)), (2, .int (Int32.ofInt c))]) (List.forall_mem_cons.mpr ⟨(List.Mem.head _), (List.forall_mem_cons.mpr ⟨(List.Mem.tail _ (List.Mem.head _)), (List.forall_mem_cons.mpr ⟨(List.Mem.tail _ (List.Mem.tail _ (List.Mem.head _))), (fun q h => absurd h List.not_mem_nil)⟩)⟩)⟩) ?_
        exact kx _ x1 c I F (by first | exact g1002 | omega)
      ·
        refine d_lift (fun k ws X h => z_aload_n X (x := A 179) rfl (List.Mem.head _) h) (d_liftS (fun k s X h => s_getR X 179 rfl (by decide) rfl rfl h) (d_lift (fun k ws X h => z_load_n X (x := c) rfl (List.Mem.tail _ (List.Mem.tail _ (List.Mem.head _))) h) (d_lift (fun k ws X h => z_aload_n X (x := A 179) rfl (List.Mem.head _) h) (d_liftS (fun k s X h => s_getR X 179 rfl (by decide) rfl rfl h) (d_lift (fun k ws X h => z_load_n X (x := c) rfl (List.Mem.tail _ (List.Mem.tail _ (List.Mem.head _))) h) (d_ald 256 rfl (by decide) rfl (by first | exact hi.2.1 | omega) (show c < 128 by first | exact g1002 | omega) (by decide) (hta1001 228 (by decide) _ (show (c).toNat < 128 by first | exact oq_afb89947 g1002 | omega)) ?_))))))
        have b1003 := bc_228 I (show (c).toNat < 128 by first | exact oq_afb89947 g1002 | omega)
        refine d_lift (fun k ws X h => z_load_n X (x := x1) rfl (List.Mem.tail _ (List.Mem.head _)) h) ?_
        have N1004 : ∀ e1005 : Int, ((((iC t 228 (c).toNat) ≠ x1) ∧ e1005 = 0) ∨ (((iC t 228 (c).toNat) = x1) ∧ e1005 = 1)) → DS l s0 D A dT 230 (rmN 230) [] [230] (TU T 230 128) Q (TU T 230 c) 29 [(0, .ref (A 179)), (1, .int (Int32.ofInt x1)), (2, .int (Int32.ofInt c))] [.int (Int32.ofInt e1005), .int (Int32.ofInt c), .ref (A 258)] t := by
          intro e1005 he1005
          have re1005 : 0 ≤ e1005 ∧ e1005 ≤ 1 := by first | (clear he1005; omega) | omega
          refine d_zast 258 rfl (by decide) rfl (by first | exact hi.2.1 | omega) (show c < 128 by first | exact g1002 | omega) (by decide) (by first | exact oq_4cdb41ba re1005.2 re1005.1 he1005 | omega) (show 230 ∈ _ by decide) (show (0 : Int) ≤ e1005 ∧ e1005 ≤ 1 by first | exact ⟨re1005.1, re1005.2⟩ | omega) ⟨by first | exact oq_fa4e5087 re1005.1 | omega, by first | exact oq_22e1e6b0 re1005.2 | omega⟩ (ds_gen (fun s1006 hs1006 => ?_))
          have Is1006 : Bd s1006 := eqB hs1006 (bd_C I (show (0 : Int) ≤ e1005 ∧ e1005 ≤ 1 by first | exact ⟨re1005.1, re1005.2⟩ | omega) ⟨by first | exact oq_fa4e5087 re1005.1 | omega, by first | exact oq_22e1e6b0 re1005.2 | omega⟩)
          have Fs1006 := eqF hs1006 (fm_C F (inl_ok (a := 230) rfl))
          refine d_lift (fun k ws X h => z_inc X (x := c) (lv' := [(2, .int (Int32.ofInt (c + 1))), (0, .ref (A 179)), (1, .int (Int32.ofInt x1))]) rfl (by decide) (List.Mem.tail _ (List.Mem.tail _ (List.Mem.head _))) (fun _ h => h) h) (d_lift (fun k ws X h => z_goto X (t := 2) rfl (by decide) h) (d_lvs (lv := [(0, .ref (A 179)), (1, .int (Int32.ofInt x1)), (2, .int (Int32.ofInt (c + 1)))]) (List.forall_mem_cons.mpr ⟨(List.Mem.tail _ (List.Mem.head _)), (List.forall_mem_cons.mpr ⟨(List.Mem.tail _ (List.Mem.tail _ (List.Mem.head _))), (List.forall_mem_cons.mpr ⟨(List.Mem.head _), (fun q h => absurd h List.not_mem_nil)⟩)⟩)⟩) (d_mono (T' := TU T 230 (c + 1)) (fun _ h => h) (TU_s (by first | (clear he1005; omega) | omega)) ?_)))
          exact ih _ x1 (c + 1) Is1006 Fs1006 (by first | exact ⟨And.intro (hi.1.1) (hi.1.2), oq_54f49eb5 hi.2.1, oq_d2afb425 g1002⟩ | omega) (by first | exact qk_me hm (by decide) (oq_c268b7bd g1002) | omega) kx
        refine d_br (bo_ne _ _) bx_ne (fun k ws X h1 h2 => z_icmp_ne X (t := 28) rfl (by decide) (rng_to _) ⟨by first | exact hi.1.1 | omega, by first | exact hi.1.2 | omega⟩ h1 h2) (fun g1007 => ?_) (fun g1007 => ?_)
        ·
          exact d_lift (fun k ws X h => z_const X rfl h) (N1004 _ (Or.inl ⟨g1007, rfl⟩))
        ·
          exact d_lift (fun k ws X h => z_const X rfl h) (d_lift (fun k ws X h => z_goto X (t := 29) rfl (by decide) h) (N1004 _ (Or.inr (⟨g1007, rfl⟩))))
  refine d_lift (fun k ws X h => z_const X rfl h) (d_lift (fun k ws X h => z_store_n X (lv' := [(2, .int (Int32.ofInt 0)), (0, .ref (A 179)), (1, .int (Int32.ofInt x))]) rfl (by decide) (fun _ h => h) h) (d_lvs (lv := [(0, .ref (A 179)), (1, .int (Int32.ofInt x)), (2, .int (Int32.ofInt 0))]) (List.forall_mem_cons.mpr ⟨(List.Mem.tail _ (List.Mem.head _)), (List.forall_mem_cons.mpr ⟨(List.Mem.tail _ (List.Mem.tail _ (List.Mem.head _))), (List.forall_mem_cons.mpr ⟨(List.Mem.head _), (fun q h => absurd h List.not_mem_nil)⟩)⟩)⟩) (d_mono (T' := TU T 230 0) (fun _ h => h) (TU_0 (by omega)) (L2 ((128 - 0 : Int).toNat + 1) s x 0 I F (by first | exact ⟨And.intro (p0.1) (p0.2), by decide, by decide⟩ | omega) (Nat.lt_succ_self _) ?_))))
  intro s1 x2 x3 Is1 Fs1 hs1
  exact d_vret rfl rfl (fun _ h => AGr_mono h (fun _ h => h) (TU_le (by omega))) (hQ _ _ ⟨Is1, Fs1, rfl, trivial⟩)
end M45
end
section

theorem oq_b624e90c {a0 : Int} {n1 : Nat} (h0 : a0 < 7) (h1 : ((7 - a0) : Int).toNat < (n1 + 1)) : ((7 - (a0 + 1)) : Int).toNat < n1 := by omega
theorem oq_4d5f09c4 {a0 a1 a2 : Int} (h0 : a0 < a1) (h1 : a1 = a2) (h2 : 1 ≤ a0) : (((a0 : Int).toNat : Nat) : Int) < a2 := by omega
theorem oq_3a772610 {a0 a1 : Int} (h0 : a0 < a1) (h1 : 1 ≤ a0) : (((a0 : Int).toNat : Nat) : Int) < a1 := by omega
theorem oq_d41732c5 {a0 a1 : Int} {n2 : Nat} (h0 : a0 < a1) (h1 : a1 ≤ 12) (h2 : ((12 - a0) : Int).toNat < (n2 + 1)) : ((12 - (a0 + 1)) : Int).toNat < n2 := by omega
theorem oq_084ea114 {a0 a1 : Int} (h0 : a0 < a1) (h1 : 0 ≤ a0) : (((a0 : Int).toNat : Nat) : Int) < a1 := by omega
theorem oq_9f32984d {a0 a1 a2 : Int} (h0 : a0 = a1) (h1 : a2 < a0) (h2 : 1 ≤ a2) : (((a2 : Int).toNat : Nat) : Int) < a1 := by omega
theorem oq_3cfff405 {a0 a1 a2 a3 : Int} (h0 : ((a0 ≠ 0 ∧ a1 = 1) ∨ ((a0 = 0 ∧ ((0 ≤ a2 ∧ a2 ≤ 1) ∧ (a2 = a3 ∧ (a2 = 0 ∧ a1 = 0)))) ∨ (a0 = 0 ∧ ((0 ≤ a2 ∧ a2 ≤ 1) ∧ (a2 = a3 ∧ (a2 ≠ 0 ∧ a1 = 1))))))) : 0 ≤ a1 := by omega
theorem oq_ba8fc39b {a0 a1 a2 a3 : Int} (h0 : ((a0 ≠ 0 ∧ a1 = 1) ∨ ((a0 = 0 ∧ ((0 ≤ a2 ∧ a2 ≤ 1) ∧ (a2 = a3 ∧ (a2 = 0 ∧ a1 = 0)))) ∨ (a0 = 0 ∧ ((0 ≤ a2 ∧ a2 ≤ 1) ∧ (a2 = a3 ∧ (a2 ≠ 0 ∧ a1 = 1))))))) : a1 ≤ 1 := by omega
theorem oq_8b2d6553 {a0 : Int} {n1 : Nat} (h0 : a0 ≤ 0) (h1 : ((24 - a0) : Int).toNat < (n1 + 1)) : ((24 - (a0 + 1)) : Int).toNat < n1 := by omega
theorem oq_2439605e {a0 : Int} {n1 : Nat} (h0 : a0 ≤ 23) (h1 : ((24 - a0) : Int).toNat < (n1 + 1)) : ((24 - (a0 + 1)) : Int).toNat < n1 := by omega
theorem oq_c5d6b6e3 {a0 a1 a2 a3 a4 a5 : Int} (h0 : a0 ≠ 0) (h1 : a0 = a1) (h2 : 0 ≤ a0) (h3 : a2 ≠ 0) (h4 : a2 ≠ a3) (h5 : a3 = a1) (h6 : a3 ≤ 1) (h7 : a2 ≤ 1) (h8 : 0 ≤ a2) : ((((a4 - 1) : Int).toNat : Nat) : Int) < a5 := by omega
theorem oq_69695eb5 {a0 : Int} {n1 : Nat} (h0 : a0 ≤ 11) (h1 : ((12 - a0) : Int).toNat < (n1 + 1)) : ((12 - (a0 + 1)) : Int).toNat < n1 := by omega
theorem oq_abe3ff5f {a0 a1 : Int} (h0 : ((64 ≤ a0 ∧ a1 = 0) ∨ (a0 < 64 ∧ a1 = 1))) : 0 ≤ a1 := by omega
theorem oq_d1eb689d {a0 a1 : Int} (h0 : ((64 ≤ a0 ∧ a1 = 0) ∨ (a0 < 64 ∧ a1 = 1))) : a1 ≤ 1 := by omega
theorem oq_ca57f8b8 {a0 : Int} {n1 : Nat} (h0 : a0 < 128) (h1 : ((128 - a0) : Int).toNat < (n1 + 1)) : ((128 - (a0 + 1)) : Int).toNat < n1 := by omega
theorem oq_0fe6b7e2  : (0 : Int) ≤ 0 := by omega

theorem oq_c22ff062 {a0 : Int} (h0 : a0 < 7) : (a0 + 1) ≤ 7 := by omega
theorem oq_4b3bf825 {a0 : Int} (h0 : a0 < 7) : 0 < (7 - a0) := by omega
theorem oq_8c139b48 {a0 a1 a2 : Int} (h0 : a0 < a1) (h1 : a2 = a1) : a0 < a2 := by omega
theorem oq_f7679ab2 : 8 + (3 + 11) + 121 ≤ 143 := by omega
theorem oq_443c7530 {a0 a1 a2 a3 : Int} (h0 : a0 = a1) (h1 : a2 < a3) (h2 : a3 = a1) : a2 < a0 := by omega
theorem oq_a32b659c  : (1 : Int).toNat < 7 := by omega
theorem oq_095218f7 {a0 a1 a2 : Int} (h0 : a0 = a1) (h1 : a2 < a0) : a2 < a1 := by omega
theorem oq_e6af0b8d {a0 : Int} (h0 : a0 ≤ 0) : a0 ≤ 23 := by omega
theorem oq_b15b052d {a0 : Int} (h0 : 0 ≤ a0) : 1 ≤ (a0 + 1) := by omega
theorem oq_3d4d89a6 {a0 : Int} (h0 : a0 ≤ 23) : (a0 + 1) ≤ 24 := by omega
theorem oq_fa9b5cb9 {a0 : Int} (h0 : a0 ≤ 23) : 0 < (24 - a0) := by omega
theorem oq_a4f22177 {a0 : Int} (h0 : 0 < a0) : 0 ≤ (a0 - 1) := by omega
theorem oq_10212474 {a0 a1 : Int} (h0 : a0 < a1) (h1 : a1 ≤ 24) : a0 ≤ 23 := by omega
theorem oq_2033c30a {a0 a1 a2 : Int} (h0 : a0 = 0) (h1 : a1 ≠ 0) (h2 : a1 = a0) (h3 : 0 ≤ a1) : (a2 = 0 ∨ a2 = 1) := by omega
theorem oq_e99eeac0 : 8 + (2 + 11) + 100 ≤ 143 := by omega
theorem oq_bea6b7ec  : (3 : Int).toNat < 7 := by omega
theorem oq_62527c24  : (2 : Int).toNat < 7 := by omega
theorem oq_f288f23a {a0 a1 a2 a3 a4 : Int} (h0 : a0 ≠ 0) (h1 : a0 = a1) (h2 : 0 ≤ a0) (h3 : a2 ≠ 0) (h4 : a2 ≠ a3) (h5 : a3 = a1) (h6 : a3 ≤ 1) (h7 : a2 ≤ 1) (h8 : 0 ≤ a2) : (a4 = 0 ∨ a4 = 1) := by omega
theorem oq_e8ec3fa8  : (0 : Int).toNat < 7 := by omega
theorem oq_5d2a5fd4  : (4 : Int).toNat < 7 := by omega
theorem oq_2191f643  : (5 : Int).toNat < 7 := by omega
theorem oq_fe95e6e4 {a0 : Int} (h0 : a0 < 128) : a0 ≤ 2147483647 := by omega
/-! Determined: listen -/
section M46
variable {l : Launch} {s0 : State} {D : va_G} {tys : List (ClassId × FieldType)} {a0 : Array Value} {A : Nat → Nat} {dT : Nat → ClassId} {s : PS}
set_option maxHeartbeats 16000000 in
theorem d_listen (G : GX l s0 D tys a0 dT) (I : Bd s) (jNW : NW s)  {T : TT} (hti : ∀ q ∈ ([90, 89] : List Nat), T.1 q) (hta : ∀ a ∈ ([230] : List Nat), ∀ j, j < (bA a).2.2 → T.2 a j) (htn : OKN T s) : CD l s0 D A dT 227 (rmN 227) [] [161] T (TU T 161 7) [.ref (A 179)] s (fun o t => Bd t ∧ Fm [] [161] s t ∧ NW t ∧ o = .inl none ∧ (True)) := by
  refine cd_of G (by decide) (Nat.le_of_ble_eq_true rfl) (fun Q hQ => ?_)
  have I0 := I
  show DS l s0 D A dT 227 (rmN 227) [] [161] (TU T 161 7) Q (T) 0 [(0, .ref (A 179))] [] s
  have F : Fm [] [161] s s := fm_rf _ _ s
  have L2 : ∀ (n : Nat) (t : PS) (ka : Int), Bd t → Fm [] [161] s t → NW t → (0 ≤ ka ∧ ka ≤ 7) → (7 - ka : Int).toNat < n → (∀ (t' : PS) (ka' : Int), Bd t' → Fm [] [161] s t' → NW t' → (7 ≤ ka') → DS l s0 D A dT 227 (rmN 227) [] [161] (TU T 161 7) Q (TU T 161 ka') 21 [(0, .ref (A 179)), (1, .int (Int32.ofInt ka'))] [] t') → DS l s0 D A dT 227 (rmN 227) [] [161] (TU T 161 7) Q (TU T 161 ka) 2 [(0, .ref (A 179)), (1, .int (Int32.ofInt ka))] [] t := by
    intro n
    induction n with
    | zero =>
      intro t ka I F jjNW hi hm kx
      exact absurd hm (Nat.not_lt_zero _)
    | succ n ih =>
      intro t ka I F jjNW hi hm kx
      refine d_lift (fun k ws X h => z_load_n X (x := ka) rfl (List.Mem.tail _ (List.Mem.head _)) h) (d_lift (fun k ws X h => z_bipush X rfl h) (d_br (bo_ge _ _) bx_ge (fun k ws X h1 h2 => z_icmp_ge X (t := 21) rfl (by decide) ⟨by first | exact oq_fa4e5087 hi.1 | omega, by first | exact oq_0e78ca7d hi.2 | omega⟩ (by decide) h1 h2) (fun g1001 => ?_) (fun g1001 => ?_)))
      ·
        refine d_lvs (lv := [(0, .ref (A 179)), (1, .int (Int32.ofInt ka))]) (List.forall_mem_cons.mpr ⟨(List.Mem.head _), (List.forall_mem_cons.mpr ⟨(List.Mem.tail _ (List.Mem.head _)), (fun q h => absurd h List.not_mem_nil)⟩)⟩) ?_
        exact kx _ ka I F jjNW (by first | exact g1001 | omega)
      ·
        refine d_lift (fun k ws X h => z_aload_n X (x := A 179) rfl (List.Mem.head _) h) (d_liftS (fun k s X h => s_getR X 179 rfl (by decide) rfl rfl h) (d_lift (fun k ws X h => z_load_n X (x := ka) rfl (List.Mem.tail _ (List.Mem.head _)) h) (d_lift (fun k ws X h => z_const X rfl h) (d_ast 184 rfl (by decide) rfl (by first | exact hi.1 | omega) (show ka < 7 by first | exact g1001 | omega) (by decide) (show 161 ∈ _ by decide) (show ((-2147483648) : Int) ≤ 0 ∧ 0 ≤ 2147483647 by first | exact ⟨by decide, by decide⟩ | omega) (by decide) (ds_gen (fun s1002 hs1002 => ?_))))))
        have Is1002 : Bd s1002 := eqB hs1002 (bd_C I (show ((-2147483648) : Int) ≤ 0 ∧ 0 ≤ 2147483647 by first | exact ⟨by decide, by decide⟩ | omega) (by decide))
        have Fs1002 := eqF hs1002 (fm_C F (inl_ok (a := 161) rfl))
        have fs1002 : Fm [] [161] t s1002 := by rw [hs1002]; exact fm_C (fm_rf _ _ _) (show 161 ∈ _ by decide)
        have JNW_s1002 : NW s1002 := NW_fm fs1002 (by decide) jjNW
        refine d_lift (fun k ws X h => z_inc X (x := ka) (lv' := [(1, .int (Int32.ofInt (ka + 1))), (0, .ref (A 179))]) rfl (by decide) (List.Mem.tail _ (List.Mem.head _)) (fun _ h => h) h) (d_lift (fun k ws X h => z_goto X (t := 2) rfl (by decide) h) (d_lvs (lv := [(0, .ref (A 179)), (1, .int (Int32.ofInt (ka + 1)))]) (List.forall_mem_cons.mpr ⟨(List.Mem.tail _ (List.Mem.head _)), (List.forall_mem_cons.mpr ⟨(List.Mem.head _), (fun q h => absurd h List.not_mem_nil)⟩)⟩) (d_mono (T' := TU T 161 (ka + 1)) (fun _ h => h) (TU_s (by first | exact hi.1 | omega)) ?_)))
        exact ih _ (ka + 1) Is1002 Fs1002 JNW_s1002 (by first | exact ⟨oq_54f49eb5 hi.1, oq_c22ff062 g1001⟩ | omega) (by first | exact qk_me hm (by decide) (oq_4b3bf825 g1001) | exact oq_b624e90c g1001 hm | omega) kx
  have L177 : ∀ (n : Nat) (t : PS) (a iz ka c b : Int), Bd t → Fm [] [161] s t → NW t → (0 ≤ a ∧ a < iI s 90 ∧ a ≤ 11 ∧ (iz = 0 ∨ iz = 1) ∧ 0 ≤ ka ∧ ka < iC s 202 (a : Int).toNat ∧ ka ≤ 23 ∧ 0 ≤ c ∧ c ≤ 127 ∧ 1 ≤ b ∧ b ≤ 12) → (12 - b : Int).toNat < n → (∀ (t' : PS) (b' : Int), Bd t' → Fm [] [161] s t' → NW t' → (0 ≤ a ∧ a < iI s 90 ∧ a ≤ 11 ∧ (iz = 0 ∨ iz = 1) ∧ 0 ≤ ka ∧ ka < iC s 202 (a : Int).toNat ∧ ka ≤ 23 ∧ 0 ≤ c ∧ c ≤ 127 ∧ 1 ≤ b' ∧ b' ≤ 12) → DS l s0 D A dT 227 (rmN 227) [] [161] (TU T 161 7) Q (TU T 161 7) 278 [(0, .ref (A 179)), (1, .int (Int32.ofInt a)), (2, .int (Int32.ofInt iz)), (3, .int (Int32.ofInt ka)), (4, .int (Int32.ofInt c)), (5, .int (Int32.ofInt b'))] [] t') → DS l s0 D A dT 227 (rmN 227) [] [161] (TU T 161 7) Q (TU T 161 7) 177 [(0, .ref (A 179)), (1, .int (Int32.ofInt a)), (2, .int (Int32.ofInt iz)), (3, .int (Int32.ofInt ka)), (4, .int (Int32.ofInt c)), (5, .int (Int32.ofInt b))] [] t := by
    as_aux_lemma =>
     intro n
     induction n with
     | zero =>
       intro t a iz ka c b I F jjNW hi hm kx
       exact absurd hm (Nat.not_lt_zero _)
     | succ n ih =>
       intro t a iz ka c b I F jjNW hi hm kx
       have hta2001 : ∀ a ∈ ([161, 230] : List Nat), ∀ j, j < (bA a).2.2 → (TU T 161 7).2 a j := hta_g hta (by decide)
       refine d_lift (fun k ws X h => z_load X (x := b) rfl (List.Mem.tail _ (List.Mem.tail _ (List.Mem.tail _ (List.Mem.tail _ (List.Mem.tail _ (List.Mem.head _)))))) h) (d_lift (fun k ws X h => z_aload_n X (x := A 179) rfl (List.Mem.head _) h) (d_getI 179 rfl (by decide) rfl rfl (hti 90 (by decide)) ?_))
       have b2002 := bi_90 I
       have q2003 : iI t 90 = iI s 90 := fm_iq F rfl
       refine d_br (bo_ge _ _) bx_ge (fun k ws X h1 h2 => z_icmp_ge X (t := 278) rfl (by decide) ⟨by first | exact oq_9462313e hi.2.2.2.2.2.2.2.2.2.1 | omega, by first | exact oq_78843a64 hi.2.2.2.2.2.2.2.2.2.2 | omega⟩ (rng_to _) h1 h2) (fun g2004 => ?_) (fun g2004 => ?_)
       ·
         refine d_lvs (lv := [(0, .ref (A 179)), (1, .int (Int32.ofInt a)), (2, .int (Int32.ofInt iz)), (3, .int (Int32.ofInt ka)), (4, .int (Int32.ofInt c)), (5, .int (Int32.ofInt b))]) (List.forall_mem_cons.mpr ⟨(List.Mem.head _), (List.forall_mem_cons.mpr ⟨(List.Mem.tail _ (List.Mem.head _)), (List.forall_mem_cons.mpr ⟨(List.Mem.tail _ (List.Mem.tail _ (List.Mem.head _))), (List.forall_mem_cons.mpr ⟨(List.Mem.tail _ (List.Mem.tail _ (List.Mem.tail _ (List.Mem.head _)))), (List.forall_mem_cons.mpr ⟨(List.Mem.tail _ (List.Mem.tail _ (List.Mem.tail _ (List.Mem.tail _ (List.Mem.head _))))), (List.forall_mem_cons.mpr ⟨(List.Mem.tail _ (List.Mem.tail _ (List.Mem.tail _ (List.Mem.tail _ (List.Mem.tail _ (List.Mem.head _)))))), (fun q h => absurd h List.not_mem_nil)⟩)⟩)⟩)⟩)⟩)⟩) ?_
         exact kx _ b I F jjNW (by first | exact ⟨hi.1, hi.2.1, hi.2.2.1, hi.2.2.2.1, hi.2.2.2.2.1, hi.2.2.2.2.2.1, hi.2.2.2.2.2.2.1, hi.2.2.2.2.2.2.2.1, hi.2.2.2.2.2.2.2.2.1, hi.2.2.2.2.2.2.2.2.2.1, hi.2.2.2.2.2.2.2.2.2.2⟩ | omega)
       ·
         refine d_lift (fun k ws X h => z_aload_n X (x := A 179) rfl (List.Mem.head _) h) (d_liftS (fun k s X h => s_getR X 179 rfl (by decide) rfl rfl h) (d_lift (fun k ws X h => z_load X (x := c) rfl (List.Mem.tail _ (List.Mem.tail _ (List.Mem.tail _ (List.Mem.tail _ (List.Mem.head _))))) h) (d_zald 258 rfl (by decide) rfl (by first | exact hi.2.2.2.2.2.2.2.1 | omega) (show c < 128 by first | exact oq_31b2bf10 hi.2.2.2.2.2.2.2.2.1 | omega) (by decide) (hta2001 230 (by decide) _ (show (c).toNat < 128 by first | exact oq_c7f4e9c1 hi.2.2.2.2.2.2.2.2.1 | omega)) ?_)))
         have b2005 := bc_230 I (show (c).toNat < 128 by first | exact oq_c7f4e9c1 hi.2.2.2.2.2.2.2.2.1 | omega)
         have q2006 : iC t 230 (c).toNat = iC s 230 (c).toNat := fm_c F (by decide)
         refine d_br (bo_eq _ _) bx_eq (fun k ws X h1 h2 => z_if_eq X (t := 278) rfl (by decide) (rng_to _) h1 h2) (fun g2007 => ?_) (fun g2007 => ?_)
         ·
           refine d_lvs (lv := [(0, .ref (A 179)), (1, .int (Int32.ofInt a)), (2, .int (Int32.ofInt iz)), (3, .int (Int32.ofInt ka)), (4, .int (Int32.ofInt c)), (5, .int (Int32.ofInt b))]) (List.forall_mem_cons.mpr ⟨(List.Mem.head _), (List.forall_mem_cons.mpr ⟨(List.Mem.tail _ (List.Mem.head _)), (List.forall_mem_cons.mpr ⟨(List.Mem.tail _ (List.Mem.tail _ (List.Mem.head _))), (List.forall_mem_cons.mpr ⟨(List.Mem.tail _ (List.Mem.tail _ (List.Mem.tail _ (List.Mem.head _)))), (List.forall_mem_cons.mpr ⟨(List.Mem.tail _ (List.Mem.tail _ (List.Mem.tail _ (List.Mem.tail _ (List.Mem.head _))))), (List.forall_mem_cons.mpr ⟨(List.Mem.tail _ (List.Mem.tail _ (List.Mem.tail _ (List.Mem.tail _ (List.Mem.tail _ (List.Mem.head _)))))), (fun q h => absurd h List.not_mem_nil)⟩)⟩)⟩)⟩)⟩)⟩) ?_
           exact kx _ b I F jjNW (by first | exact ⟨hi.1, hi.2.1, hi.2.2.1, hi.2.2.2.1, hi.2.2.2.2.1, hi.2.2.2.2.2.1, hi.2.2.2.2.2.2.1, hi.2.2.2.2.2.2.2.1, hi.2.2.2.2.2.2.2.2.1, hi.2.2.2.2.2.2.2.2.2.1, hi.2.2.2.2.2.2.2.2.2.2⟩ | omega)
         ·
           as_aux_lemma =>
            refine d_lift (fun k ws X h => z_aload_n X (x := A 179) rfl (List.Mem.head _) h) (d_liftS (fun k s X h => s_getR X 179 rfl (by decide) rfl rfl h) (d_lift (fun k ws X h => z_load X (x := b) rfl (List.Mem.tail _ (List.Mem.tail _ (List.Mem.tail _ (List.Mem.tail _ (List.Mem.tail _ (List.Mem.head _)))))) h) (d_liftS (fun k s X h => z_aald X rw_243 rfl (by first | exact oq_2a6e3b50 hi.2.2.2.2.2.2.2.2.2.1 | omega) (show b < 12 by first | exact oq_f36e82a8 g2004 b2002.2 | omega) (by decide) h) (d_lift (fun k ws X h => z_load X (x := c) rfl (List.Mem.tail _ (List.Mem.tail _ (List.Mem.tail _ (List.Mem.tail _ (List.Mem.head _))))) h) (d_ald2 rw_243 rfl (show (b : Int).toNat < 12 by first | exact oq_2dac6850 g2004 b2002.2 | omega) (by first | exact hi.2.2.2.2.2.2.2.1 | omega) (show c < 128 by first | exact oq_31b2bf10 hi.2.2.2.2.2.2.2.2.1 | omega) (by decide) (Or.inr ((htn _ (show (b : Int).toNat < 12 by first | exact oq_2dac6850 g2004 b2002.2 | (clear g2007; omega) | omega) (show (((b : Int).toNat : Nat) : Int) < iI s 90 by first | exact oq_4d5f09c4 g2004 q2003 hi.2.2.2.2.2.2.2.2.2.1 | (clear g2007; omega) | omega)).2.2.1 _ (show (c : Int).toNat < 128 by first | exact oq_c7f4e9c1 hi.2.2.2.2.2.2.2.2.1 | (clear g2007; omega) | omega))) ?_)))))
            have b2008 : ((-1) : Int) ≤ (iC t (216 + (b : Int).toNat) (c : Int).toNat) ∧ (iC t (216 + (b : Int).toNat) (c : Int).toNat) ≤ 23 := rw_bd rw_243 I (show (b : Int).toNat < 12 by first | exact oq_2dac6850 g2004 b2002.2 | omega) (show (c : Int).toNat < 128 by first | exact oq_c7f4e9c1 hi.2.2.2.2.2.2.2.2.1 | omega)
            refine d_lift (fun k ws X h => z_store X (lv' := [(6, .int (Int32.ofInt (iC t (216 + (b : Int).toNat) (c : Int).toNat))), (0, .ref (A 179)), (1, .int (Int32.ofInt a)), (2, .int (Int32.ofInt iz)), (3, .int (Int32.ofInt ka)), (4, .int (Int32.ofInt c)), (5, .int (Int32.ofInt b))]) rfl (by decide) (fun _ h => h) h) ?_
            have q2009 : iC t 202 (b : Int).toNat = iC s 202 (b : Int).toNat := fm_c F (by decide)
            have hw2010 := (jjNW (b : Int).toNat (by first | exact oq_2dac6850 g2004 b2002.2 | (clear g2007; omega) | omega) (by first | exact oq_3a772610 g2004 hi.2.2.2.2.2.2.2.2.2.1 | (clear g2007; omega) | omega)).2 (c : Int).toNat (by first | exact oq_c7f4e9c1 hi.2.2.2.2.2.2.2.2.1 | (clear g2007; omega) | omega)
            have q2011 : iI t 90 = iI s 90 := fm_iq F rfl
            refine d_lift (fun k ws X h => z_load X (x := (iC t (216 + (b : Int).toNat) (c : Int).toNat)) rfl (List.Mem.head _) h) (d_lift (fun k ws X h => z_const X rfl h) (d_br (bo_eq _ _) bx_eq (fun k ws X h1 h2 => z_icmp_eq X (t := 272) rfl (by decide) (rng_to _) (by decide) h1 h2) (fun g2012 => ?_) (fun g2012 => ?_)))
            ·
              refine d_lift (fun k ws X h => z_inc X (x := b) (lv' := [(5, .int (Int32.ofInt (b + 1))), (6, .int (Int32.ofInt (iC t (216 + (b : Int).toNat) (c : Int).toNat))), (0, .ref (A 179)), (1, .int (Int32.ofInt a)), (2, .int (Int32.ofInt iz)), (3, .int (Int32.ofInt ka)), (4, .int (Int32.ofInt c))]) rfl (by decide) (List.Mem.tail _ (List.Mem.tail _ (List.Mem.tail _ (List.Mem.tail _ (List.Mem.tail _ (List.Mem.tail _ (List.Mem.head _))))))) (fun _ h => h) h) (d_lift (fun k ws X h => z_goto X (t := 177) rfl (by decide) h) (d_lvs (lv := [(0, .ref (A 179)), (1, .int (Int32.ofInt a)), (2, .int (Int32.ofInt iz)), (3, .int (Int32.ofInt ka)), (4, .int (Int32.ofInt c)), (5, .int (Int32.ofInt (b + 1)))]) (List.forall_mem_cons.mpr ⟨(List.Mem.tail _ (List.Mem.tail _ (List.Mem.head _))), (List.forall_mem_cons.mpr ⟨(List.Mem.tail _ (List.Mem.tail _ (List.Mem.tail _ (List.Mem.head _)))), (List.forall_mem_cons.mpr ⟨(List.Mem.tail _ (List.Mem.tail _ (List.Mem.tail _ (List.Mem.tail _ (List.Mem.head _))))), (List.forall_mem_cons.mpr ⟨(List.Mem.tail _ (List.Mem.tail _ (List.Mem.tail _ (List.Mem.tail _ (List.Mem.tail _ (List.Mem.head _)))))), (List.forall_mem_cons.mpr ⟨(List.Mem.tail _ (List.Mem.tail _ (List.Mem.tail _ (List.Mem.tail _ (List.Mem.tail _ (List.Mem.tail _ (List.Mem.head _))))))), (List.forall_mem_cons.mpr ⟨(List.Mem.head _), (fun q h => absurd h List.not_mem_nil)⟩)⟩)⟩)⟩)⟩)⟩) ?_))
              exact ih _ a iz ka c (b + 1) I F jjNW (by first | exact ⟨hi.1, hi.2.1, hi.2.2.1, hi.2.2.2.1, hi.2.2.2.2.1, hi.2.2.2.2.2.1, hi.2.2.2.2.2.2.1, hi.2.2.2.2.2.2.2.1, hi.2.2.2.2.2.2.2.2.1, oq_1e1a2df6 hi.2.2.2.2.2.2.2.2.2.1, oq_4dae995e g2004 b2002.2⟩ | omega) (by first | exact qk_me hm (by decide) (oq_b575e8c1 g2004 b2002.2) | exact oq_d41732c5 g2004 b2002.2 hm | omega) kx
            ·
              as_aux_lemma =>
               refine d_lift (fun k ws X h => z_aload_n X (x := A 179) rfl (List.Mem.tail _ (List.Mem.head _)) h) (d_lift (fun k ws X h => z_load_n X (x := a) rfl (List.Mem.tail _ (List.Mem.tail _ (List.Mem.head _))) h) (d_lift (fun k ws X h => z_load_n X (x := ka) rfl (List.Mem.tail _ (List.Mem.tail _ (List.Mem.tail _ (List.Mem.tail _ (List.Mem.head _))))) h) ?_))
               have q2013 : iC t 202 (a : Int).toNat = iC s 202 (a : Int).toNat := fm_c F (by decide)
               have q2014 : iI t 90 = iI s 90 := fm_iq F rfl
               refine d_callV 179 (As := [.int (Int32.ofInt a), .int (Int32.ofInt ka)]) (st := []) rfl rfl (by decide) rfl (d_goes (T := TU T 161 7) G I (by first | exact ⟨hi.1, hi.2.2.1⟩ | omega) (by first | exact ⟨hi.2.2.2.2.1, oq_71f4b7b9 q2013 hi.2.2.2.2.2.1⟩ | omega) (by first | exact oq_8c139b48 hi.2.1 q2014 | omega) (fun q h => hti q ((by decide : ∀ q ∈ ([] : List Nat), q ∈ ([90, 89] : List Nat)) q h)) (fun a h => hta2001 a ((by decide : ∀ q ∈ ([] : List Nat), q ∈ ([161, 230] : List Nat)) a h)) (OKN_fm F (by decide) (OKN_mono htn (fun _ _ h => (Or.inr (h)))))) ⟨rfl, rfl⟩ ⟨(show 7 + 1 ≤ 8 from oq_519c1fd2), (show 8 + (mNL (miB 226) + 11) + 121 ≤ 143 from oq_f7679ab2)⟩ (Nat.le_of_ble_eq_true rfl) (by decide) (by decide) (fun ee s2015 hq => ?_) (fun vv s2015 hq => ?_)
               · obtain ⟨Is2015, Fs2015, e2016, hv, hrs2015, hps2015⟩ := hq; cases hv
               obtain ⟨Is2015, Fs2015, e2016, hv, hrs2015, hps2015⟩ := hq
               cases hv
               have Gs2015 := fm_tq F Fs2015 rfl rfl
               have JNW_s2015 : NW s2015 := NW_fm Fs2015 (by decide) jjNW
               show DS l s0 D A dT 227 (rmN 227) [] [161] (TU T 161 7) Q (TU T 161 7) 220 [(6, .int (Int32.ofInt (iC t (216 + (b : Int).toNat) (c : Int).toNat))), (0, .ref (A 179)), (1, .int (Int32.ofInt a)), (2, .int (Int32.ofInt iz)), (3, .int (Int32.ofInt ka)), (4, .int (Int32.ofInt c)), (5, .int (Int32.ofInt b))] [.int (Int32.ofInt e2016)] s2015
               refine d_lift (fun k ws X h => z_aload_n X (x := A 179) rfl (List.Mem.tail _ (List.Mem.head _)) h) (d_lift (fun k ws X h => z_load X (x := b) rfl (List.Mem.tail _ (List.Mem.tail _ (List.Mem.tail _ (List.Mem.tail _ (List.Mem.tail _ (List.Mem.tail _ (List.Mem.head _))))))) h) (d_lift (fun k ws X h => z_load X (x := (iC t (216 + (b : Int).toNat) (c : Int).toNat)) rfl (List.Mem.head _) h) ?_))
               have q2017 : iC s2015 202 (b : Int).toNat = iC s 202 (b : Int).toNat := fm_c Gs2015 (by decide)
               have q2018 : iI s2015 90 = iI s 90 := fm_iq Gs2015 rfl
               refine d_callV 179 (As := [.int (Int32.ofInt b), .int (Int32.ofInt (iC t (216 + (b : Int).toNat) (c : Int).toNat))]) (st := [.int (Int32.ofInt e2016)]) rfl rfl (by decide) rfl (d_goes (T := TU T 161 7) G Is2015 (by first | exact ⟨oq_2a6e3b50 hi.2.2.2.2.2.2.2.2.2.1, oq_e4d7f3c5 g2004 b2002.2⟩ | omega) (by first | exact ⟨oq_7a1025bf g2012 b2008.1, by first | exact oq_443c7530 q2017 hw2010 q2009 | (clear g2012 g2007; omega) | (clear g2007; omega) | omega⟩ | omega) (by first | exact oq_443c7530 q2018 g2004 q2014 | omega) (fun q h => hti q ((by decide : ∀ q ∈ ([] : List Nat), q ∈ ([90, 89] : List Nat)) q h)) (fun a h => hta2001 a ((by decide : ∀ q ∈ ([] : List Nat), q ∈ ([161, 230] : List Nat)) a h)) (OKN_fm Gs2015 (by decide) (OKN_mono htn (fun _ _ h => (Or.inr (h)))))) ⟨rfl, rfl⟩ ⟨(show 7 + 1 ≤ 8 from oq_519c1fd2), (show 8 + (mNL (miB 226) + 11) + 121 ≤ 143 from oq_f7679ab2)⟩ (Nat.le_of_ble_eq_true rfl) (by decide) (by decide) (fun ee s2019 hq => ?_) (fun vv s2019 hq => ?_)
               · obtain ⟨Is2019, Fs2019, e2020, hv, hrs2019, hps2019⟩ := hq; cases hv
               obtain ⟨Is2019, Fs2019, e2020, hv, hrs2019, hps2019⟩ := hq
               cases hv
               have Gs2019 := fm_tq Gs2015 Fs2019 rfl rfl
               have JNW_s2019 : NW s2019 := NW_fm Fs2019 (by decide) JNW_s2015
               show DS l s0 D A dT 227 (rmN 227) [] [161] (TU T 161 7) Q (TU T 161 7) 228 [(6, .int (Int32.ofInt (iC t (216 + (b : Int).toNat) (c : Int).toNat))), (0, .ref (A 179)), (1, .int (Int32.ofInt a)), (2, .int (Int32.ofInt iz)), (3, .int (Int32.ofInt ka)), (4, .int (Int32.ofInt c)), (5, .int (Int32.ofInt b))] [.int (Int32.ofInt e2020), .int (Int32.ofInt e2016)] s2019
               refine d_br (bo_eq _ _) bx_eq (fun k ws X h1 h2 => z_icmp_eq X (t := 272) rfl (by decide) hrs2015 hrs2019 h1 h2) (fun g2021 => ?_) (fun g2021 => ?_)
               ·
                 refine d_lift (fun k ws X h => z_inc X (x := b) (lv' := [(5, .int (Int32.ofInt (b + 1))), (6, .int (Int32.ofInt (iC t (216 + (b : Int).toNat) (c : Int).toNat))), (0, .ref (A 179)), (1, .int (Int32.ofInt a)), (2, .int (Int32.ofInt iz)), (3, .int (Int32.ofInt ka)), (4, .int (Int32.ofInt c))]) rfl (by decide) (List.Mem.tail _ (List.Mem.tail _ (List.Mem.tail _ (List.Mem.tail _ (List.Mem.tail _ (List.Mem.tail _ (List.Mem.head _))))))) (fun _ h => h) h) (d_lift (fun k ws X h => z_goto X (t := 177) rfl (by decide) h) (d_lvs (lv := [(0, .ref (A 179)), (1, .int (Int32.ofInt a)), (2, .int (Int32.ofInt iz)), (3, .int (Int32.ofInt ka)), (4, .int (Int32.ofInt c)), (5, .int (Int32.ofInt (b + 1)))]) (List.forall_mem_cons.mpr ⟨(List.Mem.tail _ (List.Mem.tail _ (List.Mem.head _))), (List.forall_mem_cons.mpr ⟨(List.Mem.tail _ (List.Mem.tail _ (List.Mem.tail _ (List.Mem.head _)))), (List.forall_mem_cons.mpr ⟨(List.Mem.tail _ (List.Mem.tail _ (List.Mem.tail _ (List.Mem.tail _ (List.Mem.head _))))), (List.forall_mem_cons.mpr ⟨(List.Mem.tail _ (List.Mem.tail _ (List.Mem.tail _ (List.Mem.tail _ (List.Mem.tail _ (List.Mem.head _)))))), (List.forall_mem_cons.mpr ⟨(List.Mem.tail _ (List.Mem.tail _ (List.Mem.tail _ (List.Mem.tail _ (List.Mem.tail _ (List.Mem.tail _ (List.Mem.head _))))))), (List.forall_mem_cons.mpr ⟨(List.Mem.head _), (fun q h => absurd h List.not_mem_nil)⟩)⟩)⟩)⟩)⟩)⟩) ?_))
                 exact ih _ a iz ka c (b + 1) Is2019 Gs2019 JNW_s2019 (by first | exact ⟨hi.1, hi.2.1, hi.2.2.1, hi.2.2.2.1, hi.2.2.2.2.1, hi.2.2.2.2.2.1, hi.2.2.2.2.2.2.1, hi.2.2.2.2.2.2.2.1, hi.2.2.2.2.2.2.2.2.1, oq_1e1a2df6 hi.2.2.2.2.2.2.2.2.2.1, oq_4dae995e g2004 b2002.2⟩ | omega) (by first | exact qk_me hm (by decide) (oq_b575e8c1 g2004 b2002.2) | exact oq_d41732c5 g2004 b2002.2 hm | omega) kx
               ·
                 as_aux_lemma =>
                  refine d_lift (fun k ws X h => z_aload_n X (x := A 179) rfl (List.Mem.tail _ (List.Mem.head _)) h) (d_liftS (fun k s X h => s_getR X 179 rfl (by decide) rfl rfl h) (d_lift (fun k ws X h => z_const X rfl h) (d_lift (fun k ws X h => w_dup2_11 X.1 (ax_d X (show cdA 227 236 = some (.dup2, 1, 0, 0, 0) from rfl)) rfl rfl h) (d_ald 184 rfl (by decide) rfl (by decide) (show 1 < 7 by decide) (by decide) (hta2001 161 (by decide) _ (show (1 : Int).toNat < 7 by first | exact oq_a32b659c | omega)) ?_))))
                  have b2022 := bc_161 Is2019 (show (1 : Int).toNat < 7 by first | exact oq_a32b659c | omega)
                  refine d_lift (fun k ws X h => z_aload_n X (x := A 179) rfl (List.Mem.tail _ (List.Mem.head _)) h) (d_liftS (fun k s X h => s_getR X 179 rfl (by decide) rfl rfl h) (d_lift (fun k ws X h => z_load_n X (x := a) rfl (List.Mem.tail _ (List.Mem.tail _ (List.Mem.head _))) h) (d_ald 229 rfl (by decide) rfl (by first | exact hi.1 | omega) (show a < 12 by first | exact oq_0ddfcfee hi.2.2.1 | omega) (by decide) (Or.inr ((htn _ (show (a : Int).toNat < 12 by first | exact oq_9c5fa447 hi.2.2.1 | (clear g2021 g2012 g2007; omega) | (clear g2012 g2007; omega) | omega) (show (((a : Int).toNat : Nat) : Int) < iI s 90 by first | exact oq_084ea114 hi.2.1 hi.1 | (clear g2021 g2012 g2007; omega) | (clear g2012 g2007; omega) | omega)).2.1)) ?_)))
                  have b2023 := bc_203 Is2019 (show (a).toNat < 12 by first | exact oq_9c5fa447 hi.2.2.1 | omega)
                  have q2024 : iC s2019 203 (a).toNat = iC s 203 (a).toNat := fm_c Gs2019 (by decide)
                  refine d_lift (fun k ws X h => z_aload_n X (x := A 179) rfl (List.Mem.tail _ (List.Mem.head _)) h) (d_liftS (fun k s X h => s_getR X 179 rfl (by decide) rfl rfl h) (d_lift (fun k ws X h => z_load X (x := b) rfl (List.Mem.tail _ (List.Mem.tail _ (List.Mem.tail _ (List.Mem.tail _ (List.Mem.tail _ (List.Mem.tail _ (List.Mem.head _))))))) h) (d_ald 229 rfl (by decide) rfl (by first | exact oq_2a6e3b50 hi.2.2.2.2.2.2.2.2.2.1 | omega) (show b < 12 by first | exact oq_f36e82a8 g2004 b2002.2 | omega) (by decide) (Or.inr ((htn _ (show (b : Int).toNat < 12 by first | exact oq_2dac6850 g2004 b2002.2 | (clear g2021 g2012 g2007; omega) | (clear g2012 g2007; omega) | omega) (show (((b : Int).toNat : Nat) : Int) < iI s 90 by first | exact oq_9f32984d q2014 g2004 hi.2.2.2.2.2.2.2.2.2.1 | (clear g2021 g2012 g2007; omega) | (clear g2012 g2007; omega) | omega)).2.1)) ?_)))
                  have b2025 := bc_203 Is2019 (show (b).toNat < 12 by first | exact oq_2dac6850 g2004 b2002.2 | omega)
                  have q2026 : iC s2019 203 (b).toNat = iC s 203 (b).toNat := fm_c Gs2019 (by decide)
                  have N2027 : ∀ e2028 : Int, ((((iC s2019 203 (b).toNat) ≤ (iC s2019 203 (a).toNat)) ∧ ((0 : Int) ≤ iC s2019 203 (b).toNat ∧ iC s2019 203 (b).toNat ≤ 50) ∧ (iC s2019 203 (b).toNat = iC s 203 (b).toNat) ∧ e2028 = (iC s2019 203 (b).toNat)) ∨ (((iC s2019 203 (a).toNat) < (iC s2019 203 (b).toNat)) ∧ ((0 : Int) ≤ iC s2019 203 (a).toNat ∧ iC s2019 203 (a).toNat ≤ 50) ∧ (iC s2019 203 (a).toNat = iC s 203 (a).toNat) ∧ e2028 = (iC s2019 203 (a).toNat))) → DS l s0 D A dT 227 (rmN 227) [] [161] (TU T 161 7) Q (TU T 161 7) 270 [(6, .int (Int32.ofInt (iC t (216 + (b : Int).toNat) (c : Int).toNat))), (0, .ref (A 179)), (1, .int (Int32.ofInt a)), (2, .int (Int32.ofInt iz)), (3, .int (Int32.ofInt ka)), (4, .int (Int32.ofInt c)), (5, .int (Int32.ofInt b))] [.int (Int32.ofInt e2028), .int (Int32.ofInt (iC s2019 161 (1 : Int).toNat)), .int (Int32.ofInt 1), .ref (A 184)] s2019 := by
                    intro e2028 he2028
                    refine d_lift (fun k ws X h => z_add X rfl h) (d_any (fun y2029 hy2029 => ?_))
                    refine d_ast 184 rfl (by decide) rfl (by decide) (show 1 < 7 by decide) (by decide) (show 161 ∈ _ by decide) (show ((-2147483648) : Int) ≤ y2029 ∧ y2029 ≤ 2147483647 by first | exact ⟨hy2029.1, hy2029.2⟩ | omega) hy2029 (d_mono (T' := TU T 161 7) (fun _ h => h) (fun _ _ h => Or.inr h) (ds_gen (fun s2030 hs2030 => ?_)))
                    have Is2030 : Bd s2030 := eqB hs2030 (bd_C Is2019 (show ((-2147483648) : Int) ≤ y2029 ∧ y2029 ≤ 2147483647 by first | exact ⟨hy2029.1, hy2029.2⟩ | omega) hy2029)
                    have Fs2030 := eqF hs2030 (fm_C Gs2019 (inl_ok (a := 161) rfl))
                    have fs2030 : Fm [] [161] s2019 s2030 := by rw [hs2030]; exact fm_C (fm_rf _ _ _) (show 161 ∈ _ by decide)
                    have JNW_s2030 : NW s2030 := NW_fm fs2030 (by decide) JNW_s2019
                    refine d_lift (fun k ws X h => z_inc X (x := b) (lv' := [(5, .int (Int32.ofInt (b + 1))), (6, .int (Int32.ofInt (iC t (216 + (b : Int).toNat) (c : Int).toNat))), (0, .ref (A 179)), (1, .int (Int32.ofInt a)), (2, .int (Int32.ofInt iz)), (3, .int (Int32.ofInt ka)), (4, .int (Int32.ofInt c))]) rfl (by decide) (List.Mem.tail _ (List.Mem.tail _ (List.Mem.tail _ (List.Mem.tail _ (List.Mem.tail _ (List.Mem.tail _ (List.Mem.head _))))))) (fun _ h => h) h) (d_lift (fun k ws X h => z_goto X (t := 177) rfl (by decide) h) (d_lvs (lv := [(0, .ref (A 179)), (1, .int (Int32.ofInt a)), (2, .int (Int32.ofInt iz)), (3, .int (Int32.ofInt ka)), (4, .int (Int32.ofInt c)), (5, .int (Int32.ofInt (b + 1)))]) (List.forall_mem_cons.mpr ⟨(List.Mem.tail _ (List.Mem.tail _ (List.Mem.head _))), (List.forall_mem_cons.mpr ⟨(List.Mem.tail _ (List.Mem.tail _ (List.Mem.tail _ (List.Mem.head _)))), (List.forall_mem_cons.mpr ⟨(List.Mem.tail _ (List.Mem.tail _ (List.Mem.tail _ (List.Mem.tail _ (List.Mem.head _))))), (List.forall_mem_cons.mpr ⟨(List.Mem.tail _ (List.Mem.tail _ (List.Mem.tail _ (List.Mem.tail _ (List.Mem.tail _ (List.Mem.head _)))))), (List.forall_mem_cons.mpr ⟨(List.Mem.tail _ (List.Mem.tail _ (List.Mem.tail _ (List.Mem.tail _ (List.Mem.tail _ (List.Mem.tail _ (List.Mem.head _))))))), (List.forall_mem_cons.mpr ⟨(List.Mem.head _), (fun q h => absurd h List.not_mem_nil)⟩)⟩)⟩)⟩)⟩)⟩) ?_))
                    exact ih _ a iz ka c (b + 1) Is2030 Fs2030 JNW_s2030 (by first | exact ⟨hi.1, hi.2.1, hi.2.2.1, hi.2.2.2.1, hi.2.2.2.2.1, hi.2.2.2.2.2.1, hi.2.2.2.2.2.2.1, hi.2.2.2.2.2.2.2.1, hi.2.2.2.2.2.2.2.2.1, oq_1e1a2df6 hi.2.2.2.2.2.2.2.2.2.1, oq_4dae995e g2004 b2002.2⟩ | omega) (by first | exact qk_me hm (by decide) (oq_b575e8c1 g2004 b2002.2) | exact oq_d41732c5 g2004 b2002.2 hm | omega) kx
                  refine d_br (bo_ge _ _) bx_ge (fun k ws X h1 h2 => z_icmp_ge X (t := 263) rfl (by decide) (rng_to _) (rng_to _) h1 h2) (fun g2031 => ?_) (fun g2031 => ?_)
                  ·
                    refine d_lift (fun k ws X h => z_aload_n X (x := A 179) rfl (List.Mem.tail _ (List.Mem.head _)) h) (d_liftS (fun k s X h => s_getR X 179 rfl (by decide) rfl rfl h) (d_lift (fun k ws X h => z_load X (x := b) rfl (List.Mem.tail _ (List.Mem.tail _ (List.Mem.tail _ (List.Mem.tail _ (List.Mem.tail _ (List.Mem.tail _ (List.Mem.head _))))))) h) (d_ald 229 rfl (by decide) rfl (by first | exact oq_2a6e3b50 hi.2.2.2.2.2.2.2.2.2.1 | omega) (show b < 12 by first | exact oq_f36e82a8 g2004 b2002.2 | omega) (by decide) (Or.inr ((htn _ (show (b : Int).toNat < 12 by first | exact oq_2dac6850 g2004 b2002.2 | (clear g2021 g2012 g2007; omega) | (clear g2012 g2007; omega) | omega) (show (((b : Int).toNat : Nat) : Int) < iI s 90 by first | exact oq_9f32984d q2014 g2004 hi.2.2.2.2.2.2.2.2.2.1 | (clear g2021 g2012 g2007; omega) | (clear g2012 g2007; omega) | omega)).2.1)) ?_)))
                    have b2032 := bc_203 Is2019 (show (b).toNat < 12 by first | exact oq_2dac6850 g2004 b2002.2 | omega)
                    have q2033 : iC s2019 203 (b).toNat = iC s 203 (b).toNat := fm_c Gs2019 (by decide)
                    exact N2027 _ (Or.inl ⟨g2031, b2032, q2033, rfl⟩)
                  ·
                    refine d_lift (fun k ws X h => z_aload_n X (x := A 179) rfl (List.Mem.tail _ (List.Mem.head _)) h) (d_liftS (fun k s X h => s_getR X 179 rfl (by decide) rfl rfl h) (d_lift (fun k ws X h => z_load_n X (x := a) rfl (List.Mem.tail _ (List.Mem.tail _ (List.Mem.head _))) h) (d_ald 229 rfl (by decide) rfl (by first | exact hi.1 | omega) (show a < 12 by first | exact oq_0ddfcfee hi.2.2.1 | omega) (by decide) (Or.inr ((htn _ (show (a : Int).toNat < 12 by first | exact oq_9c5fa447 hi.2.2.1 | (clear g2021 g2012 g2007; omega) | (clear g2012 g2007; omega) | omega) (show (((a : Int).toNat : Nat) : Int) < iI s 90 by first | exact oq_084ea114 hi.2.1 hi.1 | (clear g2021 g2012 g2007; omega) | (clear g2012 g2007; omega) | omega)).2.1)) ?_)))
                    have b2034 := bc_203 Is2019 (show (a).toNat < 12 by first | exact oq_9c5fa447 hi.2.2.1 | omega)
                    have q2035 : iC s2019 203 (a).toNat = iC s 203 (a).toNat := fm_c Gs2019 (by decide)
                    exact d_lift (fun k ws X h => z_goto X (t := 270) rfl (by decide) h) (N2027 _ (Or.inr (⟨g2031, b2034, q2035, rfl⟩)))
  have L35 : ∀ (n : Nat) (t : PS) (a iz ka : Int), Bd t → Fm [] [161] s t → NW t → (0 ≤ a ∧ a < iI s 90 ∧ a ≤ 11 ∧ (iz = 0 ∨ iz = 1) ∧ 0 ≤ ka ∧ ka ≤ 24) → (24 - ka : Int).toNat < n → (∀ (t' : PS) (iz' ka' : Int), Bd t' → Fm [] [161] s t' → NW t' → (0 ≤ a ∧ a < iI s 90 ∧ a ≤ 11 ∧ (iz' = 0 ∨ iz' = 1) ∧ 0 ≤ ka' ∧ ka' ≤ 24) → DS l s0 D A dT 227 (rmN 227) [] [161] (TU T 161 7) Q (TU T 161 7) 284 [(0, .ref (A 179)), (1, .int (Int32.ofInt a)), (2, .int (Int32.ofInt iz')), (3, .int (Int32.ofInt ka'))] [] t') → DS l s0 D A dT 227 (rmN 227) [] [161] (TU T 161 7) Q (TU T 161 7) 35 [(0, .ref (A 179)), (1, .int (Int32.ofInt a)), (2, .int (Int32.ofInt iz)), (3, .int (Int32.ofInt ka))] [] t := by
    as_aux_lemma =>
     intro n
     induction n with
     | zero =>
       intro t a iz ka I F jjNW hi hm kx
       exact absurd hm (Nat.not_lt_zero _)
     | succ n ih =>
       intro t a iz ka I F jjNW hi hm kx
       have hta3001 : ∀ a ∈ ([161, 230] : List Nat), ∀ j, j < (bA a).2.2 → (TU T 161 7).2 a j := hta_g hta (by decide)
       refine d_lift (fun k ws X h => z_load_n X (x := ka) rfl (List.Mem.tail _ (List.Mem.tail _ (List.Mem.tail _ (List.Mem.head _)))) h) (d_lift (fun k ws X h => z_aload_n X (x := A 179) rfl (List.Mem.head _) h) (d_liftS (fun k s X h => s_getR X 179 rfl (by decide) rfl rfl h) (d_lift (fun k ws X h => z_load_n X (x := a) rfl (List.Mem.tail _ (List.Mem.head _)) h) (d_ald 228 rfl (by decide) rfl (by first | exact hi.1 | omega) (show a < 12 by first | exact oq_0ddfcfee hi.2.2.1 | omega) (by decide) (Or.inr ((htn _ (show (a : Int).toNat < 12 by first | exact oq_9c5fa447 hi.2.2.1 | omega) (show (((a : Int).toNat : Nat) : Int) < iI s 90 by first | exact oq_084ea114 hi.2.1 hi.1 | omega)).1)) ?_))))
       have b3002 := bc_202 I (show (a).toNat < 12 by first | exact oq_9c5fa447 hi.2.2.1 | omega)
       have q3003 : iC t 202 (a).toNat = iC s 202 (a).toNat := fm_c F (by decide)
       have q3004 : iC t 202 (a : Int).toNat = iC s 202 (a : Int).toNat := fm_c F (by decide)
       have q3005 : iI t 90 = iI s 90 := fm_iq F rfl
       refine d_br (bo_ge _ _) bx_ge (fun k ws X h1 h2 => z_icmp_ge X (t := 284) rfl (by decide) ⟨by first | exact oq_fa4e5087 hi.2.2.2.2.1 | omega, by first | exact oq_5bcd337f hi.2.2.2.2.2 | omega⟩ (rng_to _) h1 h2) (fun g3006 => ?_) (fun g3006 => ?_)
       ·
         refine d_lvs (lv := [(0, .ref (A 179)), (1, .int (Int32.ofInt a)), (2, .int (Int32.ofInt iz)), (3, .int (Int32.ofInt ka))]) (List.forall_mem_cons.mpr ⟨(List.Mem.head _), (List.forall_mem_cons.mpr ⟨(List.Mem.tail _ (List.Mem.head _)), (List.forall_mem_cons.mpr ⟨(List.Mem.tail _ (List.Mem.tail _ (List.Mem.head _))), (List.forall_mem_cons.mpr ⟨(List.Mem.tail _ (List.Mem.tail _ (List.Mem.tail _ (List.Mem.head _)))), (fun q h => absurd h List.not_mem_nil)⟩)⟩)⟩)⟩) ?_
         exact kx _ iz ka I F jjNW (by first | exact ⟨hi.1, hi.2.1, hi.2.2.1, hi.2.2.2.1, hi.2.2.2.2.1, hi.2.2.2.2.2⟩ | omega)
       ·
         refine d_lift (fun k ws X h => z_aload_n X (x := A 179) rfl (List.Mem.head _) h) (d_liftS (fun k s X h => s_getR X 179 rfl (by decide) rfl rfl h) (d_lift (fun k ws X h => z_load_n X (x := a) rfl (List.Mem.tail _ (List.Mem.head _)) h) (d_liftS (fun k s X h => z_aald X rw_230 rfl (by first | exact hi.1 | omega) (show a < 12 by first | exact oq_0ddfcfee hi.2.2.1 | omega) (by decide) h) (d_lift (fun k ws X h => z_load_n X (x := ka) rfl (List.Mem.tail _ (List.Mem.tail _ (List.Mem.tail _ (List.Mem.head _)))) h) (d_ald2 rw_230 rfl (show (a : Int).toNat < 12 by first | exact oq_9c5fa447 hi.2.2.1 | omega) (by first | exact hi.2.2.2.2.1 | omega) (show ka < 24 by first | exact oq_8ff7beb9 g3006 b3002.2 | omega) (by decide) (Or.inr ((htn _ (show (a : Int).toNat < 12 by first | exact oq_9c5fa447 hi.2.2.1 | omega) (show (((a : Int).toNat : Nat) : Int) < iI s 90 by first | exact oq_084ea114 hi.2.1 hi.1 | omega)).2.2.2 _ (show (((ka : Int).toNat : Nat) : Int) < iC s 202 (a : Int).toNat by omega))) ?_)))))
         have b3007 : (0 : Int) ≤ (iC t (204 + (a : Int).toNat) (ka : Int).toNat) ∧ (iC t (204 + (a : Int).toNat) (ka : Int).toNat) ≤ 127 := rw_bd rw_230 I (show (a : Int).toNat < 12 by first | exact oq_9c5fa447 hi.2.2.1 | omega) (show (ka : Int).toNat < 24 by first | exact oq_9e668fc9 g3006 b3002.2 | omega)
         refine d_lift (fun k ws X h => z_store X (lv' := [(4, .int (Int32.ofInt (iC t (204 + (a : Int).toNat) (ka : Int).toNat))), (0, .ref (A 179)), (1, .int (Int32.ofInt a)), (2, .int (Int32.ofInt iz)), (3, .int (Int32.ofInt ka))]) rfl (by decide) (fun _ h => h) h) (d_lift (fun k ws X h => z_load_n X (x := iz) rfl (List.Mem.tail _ (List.Mem.tail _ (List.Mem.tail _ (List.Mem.head _)))) h) ?_)
         have N3008 : ∀ e3009 : Int, (((iz ≠ 0) ∧ e3009 = 1) ∨ ((iz = 0) ∧ ((0 : Int) ≤ iC t 230 ((iC t (204 + (a : Int).toNat) (ka : Int).toNat)).toNat ∧ iC t 230 ((iC t (204 + (a : Int).toNat) (ka : Int).toNat)).toNat ≤ 1) ∧ (iC t 230 ((iC t (204 + (a : Int).toNat) (ka : Int).toNat)).toNat = iC s 230 ((iC t (204 + (a : Int).toNat) (ka : Int).toNat)).toNat) ∧ ((iC t 230 ((iC t (204 + (a : Int).toNat) (ka : Int).toNat)).toNat) = 0) ∧ e3009 = 0) ∨ ((iz = 0) ∧ ((0 : Int) ≤ iC t 230 ((iC t (204 + (a : Int).toNat) (ka : Int).toNat)).toNat ∧ iC t 230 ((iC t (204 + (a : Int).toNat) (ka : Int).toNat)).toNat ≤ 1) ∧ (iC t 230 ((iC t (204 + (a : Int).toNat) (ka : Int).toNat)).toNat = iC s 230 ((iC t (204 + (a : Int).toNat) (ka : Int).toNat)).toNat) ∧ ((iC t 230 ((iC t (204 + (a : Int).toNat) (ka : Int).toNat)).toNat) ≠ 0) ∧ e3009 = 1)) → DS l s0 D A dT 227 (rmN 227) [] [161] (TU T 161 7) Q (TU T 161 7) 74 [(4, .int (Int32.ofInt (iC t (204 + (a : Int).toNat) (ka : Int).toNat))), (0, .ref (A 179)), (1, .int (Int32.ofInt a)), (2, .int (Int32.ofInt iz)), (3, .int (Int32.ofInt ka))] [.int (Int32.ofInt e3009)] t := by
           as_aux_lemma =>
            intro e3009 he3009
            have re3009 : 0 ≤ e3009 ∧ e3009 ≤ 1 := by first | exact And.intro (oq_3cfff405 he3009) (oq_ba8fc39b he3009) | (clear he3009; omega) | omega
            refine d_lift (fun k ws X h => z_store_n X (lv' := [(2, .int (Int32.ofInt e3009)), (4, .int (Int32.ofInt (iC t (204 + (a : Int).toNat) (ka : Int).toNat))), (0, .ref (A 179)), (1, .int (Int32.ofInt a)), (3, .int (Int32.ofInt ka))]) rfl (by decide) (fun _ h => h) h) (d_lift (fun k ws X h => z_load_n X (x := ka) rfl (List.Mem.tail _ (List.Mem.tail _ (List.Mem.tail _ (List.Mem.tail _ (List.Mem.head _))))) h) (d_br (bo_le _ _) bx_le (fun k ws X h1 h2 => z_if_le X (t := 172) rfl (by decide) ⟨by first | exact oq_fa4e5087 hi.2.2.2.2.1 | omega, by first | exact oq_5bcd337f hi.2.2.2.2.2 | omega⟩ h1 h2) (fun g3010 => ?_) (fun g3010 => ?_)))
            ·
              refine d_lift (fun k ws X h => z_load_n X (x := a) rfl (List.Mem.tail _ (List.Mem.tail _ (List.Mem.tail _ (List.Mem.head _)))) h) (d_lift (fun k ws X h => z_const X rfl h) (d_lift (fun k ws X h => z_add X rfl h) (d_lift (fun k ws X h => z_store X (lv' := [(5, .int (Int32.ofInt (a + 1))), (2, .int (Int32.ofInt e3009)), (4, .int (Int32.ofInt (iC t (204 + (a : Int).toNat) (ka : Int).toNat))), (0, .ref (A 179)), (1, .int (Int32.ofInt a)), (3, .int (Int32.ofInt ka))]) rfl (by decide) (fun _ h => h) h) (d_lvs (lv := [(0, .ref (A 179)), (1, .int (Int32.ofInt a)), (2, .int (Int32.ofInt e3009)), (3, .int (Int32.ofInt ka)), (4, .int (Int32.ofInt (iC t (204 + (a : Int).toNat) (ka : Int).toNat))), (5, .int (Int32.ofInt (a + 1)))]) (List.forall_mem_cons.mpr ⟨(List.Mem.tail _ (List.Mem.tail _ (List.Mem.tail _ (List.Mem.head _)))), (List.forall_mem_cons.mpr ⟨(List.Mem.tail _ (List.Mem.tail _ (List.Mem.tail _ (List.Mem.tail _ (List.Mem.head _))))), (List.forall_mem_cons.mpr ⟨(List.Mem.tail _ (List.Mem.head _)), (List.forall_mem_cons.mpr ⟨(List.Mem.tail _ (List.Mem.tail _ (List.Mem.tail _ (List.Mem.tail _ (List.Mem.tail _ (List.Mem.head _)))))), (List.forall_mem_cons.mpr ⟨(List.Mem.tail _ (List.Mem.tail _ (List.Mem.head _))), (List.forall_mem_cons.mpr ⟨(List.Mem.head _), (fun q h => absurd h List.not_mem_nil)⟩)⟩)⟩)⟩)⟩)⟩) (L177 ((12 - (a + 1) : Int).toNat + 1) t a e3009 ka (iC t (204 + (a : Int).toNat) (ka : Int).toNat) (a + 1) I F jjNW (by first | exact ⟨hi.1, hi.2.1, hi.2.2.1, oq_31e518ae re3009.2 re3009.1, hi.2.2.2.2.1, oq_095218f7 q3004 g3006, oq_e6af0b8d g3010, b3007.1, b3007.2, oq_b15b052d hi.1, oq_51d1204d hi.2.2.1⟩ | omega) (Nat.lt_succ_self _) ?_)))))
              intro s3011 x3012 Is3011 Fs3011 JNW_s3011 hs3011
              have hta3013 : ∀ a ∈ ([161, 230] : List Nat), ∀ j, j < (bA a).2.2 → (TU T 161 7).2 a j := hta_g hta (by decide)
              refine d_lift (fun k ws X h => z_inc X (x := ka) (lv' := [(3, .int (Int32.ofInt (ka + 1))), (0, .ref (A 179)), (1, .int (Int32.ofInt a)), (2, .int (Int32.ofInt e3009)), (4, .int (Int32.ofInt (iC t (204 + (a : Int).toNat) (ka : Int).toNat))), (5, .int (Int32.ofInt x3012))]) rfl (by decide) (List.Mem.tail _ (List.Mem.tail _ (List.Mem.tail _ (List.Mem.head _)))) (fun _ h => h) h) (d_lift (fun k ws X h => z_goto X (t := 35) rfl (by decide) h) (d_lvs (lv := [(0, .ref (A 179)), (1, .int (Int32.ofInt a)), (2, .int (Int32.ofInt e3009)), (3, .int (Int32.ofInt (ka + 1)))]) (List.forall_mem_cons.mpr ⟨(List.Mem.tail _ (List.Mem.head _)), (List.forall_mem_cons.mpr ⟨(List.Mem.tail _ (List.Mem.tail _ (List.Mem.head _))), (List.forall_mem_cons.mpr ⟨(List.Mem.tail _ (List.Mem.tail _ (List.Mem.tail _ (List.Mem.head _)))), (List.forall_mem_cons.mpr ⟨(List.Mem.head _), (fun q h => absurd h List.not_mem_nil)⟩)⟩)⟩)⟩) ?_))
              exact ih _ a e3009 (ka + 1) Is3011 Fs3011 JNW_s3011 (by first | exact ⟨hs3011.1, hs3011.2.1, hs3011.2.2.1, hs3011.2.2.2.1, oq_54f49eb5 hs3011.2.2.2.2.1, oq_3d4d89a6 hs3011.2.2.2.2.2.2.1⟩ | omega) (by first | exact qk_me hm (by decide) (oq_fa9b5cb9 hs3011.2.2.2.2.2.2.1) | exact oq_8b2d6553 g3010 hm | omega) kx
            ·
              as_aux_lemma =>
               refine d_lift (fun k ws X h => z_aload_n X (x := A 179) rfl (List.Mem.tail _ (List.Mem.tail _ (List.Mem.head _))) h) (d_liftS (fun k s X h => s_getR X 179 rfl (by decide) rfl rfl h) (d_lift (fun k ws X h => z_aload_n X (x := A 179) rfl (List.Mem.tail _ (List.Mem.tail _ (List.Mem.head _))) h) (d_liftS (fun k s X h => s_getR X 179 rfl (by decide) rfl rfl h) (d_lift (fun k ws X h => z_load_n X (x := a) rfl (List.Mem.tail _ (List.Mem.tail _ (List.Mem.tail _ (List.Mem.head _)))) h) (d_liftS (fun k s X h => z_aald X rw_230 rfl (by first | exact hi.1 | omega) (show a < 12 by first | exact oq_0ddfcfee hi.2.2.1 | omega) (by decide) h) (d_lift (fun k ws X h => z_load_n X (x := ka) rfl (List.Mem.tail _ (List.Mem.tail _ (List.Mem.tail _ (List.Mem.tail _ (List.Mem.head _))))) h) (d_lift (fun k ws X h => z_const X rfl h) (d_lift (fun k ws X h => z_sub X rfl h) (d_ald2 rw_230 rfl (show (a : Int).toNat < 12 by first | exact oq_9c5fa447 hi.2.2.1 | omega) (by first | exact oq_a4f22177 g3010 | omega) (show (ka - 1) < 24 by first | exact oq_19cb6f5b hi.2.2.2.2.2 | omega) (by decide) (Or.inr ((htn _ (show (a : Int).toNat < 12 by first | exact oq_9c5fa447 hi.2.2.1 | (clear he3009; omega) | omega) (show (((a : Int).toNat : Nat) : Int) < iI s 90 by first | exact oq_084ea114 hi.2.1 hi.1 | (clear he3009; omega) | omega)).2.2.2 _ (show ((((ka - 1) : Int).toNat : Nat) : Int) < iC s 202 (a : Int).toNat by first | (clear he3009; omega) | omega))) ?_)))))))))
               have b3014 : (0 : Int) ≤ (iC t (204 + (a : Int).toNat) ((ka - 1) : Int).toNat) ∧ (iC t (204 + (a : Int).toNat) ((ka - 1) : Int).toNat) ≤ 127 := rw_bd rw_230 I (show (a : Int).toNat < 12 by first | exact oq_9c5fa447 hi.2.2.1 | omega) (show ((ka - 1) : Int).toNat < 24 by first | exact oq_f976b25c hi.2.2.2.2.2 | omega)
               refine d_zald 258 rfl (by decide) rfl (by first | exact b3014.1 | omega) (show (iC t (204 + (a : Int).toNat) ((ka - 1) : Int).toNat) < 128 by first | exact oq_31b2bf10 b3014.2 | omega) (by decide) (hta3001 230 (by decide) _ (show ((iC t (204 + (a : Int).toNat) ((ka - 1) : Int).toNat)).toNat < 128 by first | exact oq_c7f4e9c1 b3014.2 | omega)) ?_
               have b3015 := bc_230 I (show ((iC t (204 + (a : Int).toNat) ((ka - 1) : Int).toNat)).toNat < 128 by first | exact oq_c7f4e9c1 b3014.2 | omega)
               have q3016 : iC t 230 ((iC t (204 + (a : Int).toNat) ((ka - 1) : Int).toNat)).toNat = iC s 230 ((iC t (204 + (a : Int).toNat) ((ka - 1) : Int).toNat)).toNat := fm_c F (by decide)
               refine d_lift (fun k ws X h => z_store X (lv' := [(5, .int (Int32.ofInt (iC t 230 ((iC t (204 + (a : Int).toNat) ((ka - 1) : Int).toNat)).toNat))), (2, .int (Int32.ofInt e3009)), (4, .int (Int32.ofInt (iC t (204 + (a : Int).toNat) (ka : Int).toNat))), (0, .ref (A 179)), (1, .int (Int32.ofInt a)), (3, .int (Int32.ofInt ka))]) rfl (by decide) (fun _ h => h) h) (d_lift (fun k ws X h => z_load X (x := (iC t 230 ((iC t (204 + (a : Int).toNat) ((ka - 1) : Int).toNat)).toNat)) rfl (List.Mem.head _) h) (d_lift (fun k ws X h => z_aload_n X (x := A 179) rfl (List.Mem.tail _ (List.Mem.tail _ (List.Mem.tail _ (List.Mem.head _)))) h) (d_liftS (fun k s X h => s_getR X 179 rfl (by decide) rfl rfl h) (d_lift (fun k ws X h => z_load X (x := (iC t (204 + (a : Int).toNat) (ka : Int).toNat)) rfl (List.Mem.tail _ (List.Mem.tail _ (List.Mem.head _))) h) (d_zald 258 rfl (by decide) rfl (by first | exact b3007.1 | omega) (show (iC t (204 + (a : Int).toNat) (ka : Int).toNat) < 128 by first | exact oq_31b2bf10 b3007.2 | omega) (by decide) (hta3001 230 (by decide) _ (show ((iC t (204 + (a : Int).toNat) (ka : Int).toNat)).toNat < 128 by first | exact oq_c7f4e9c1 b3007.2 | omega)) ?_)))))
               have b3017 := bc_230 I (show ((iC t (204 + (a : Int).toNat) (ka : Int).toNat)).toNat < 128 by first | exact oq_c7f4e9c1 b3007.2 | omega)
               have q3018 : iC t 230 ((iC t (204 + (a : Int).toNat) (ka : Int).toNat)).toNat = iC s 230 ((iC t (204 + (a : Int).toNat) (ka : Int).toNat)).toNat := fm_c F (by decide)
               refine d_br (bo_eq _ _) bx_eq (fun k ws X h1 h2 => z_icmp_eq X (t := 123) rfl (by decide) (rng_to _) (rng_to _) h1 h2) (fun g3019 => ?_) (fun g3019 => ?_)
               ·
                 as_aux_lemma =>
                  refine d_lift (fun k ws X h => z_load X (x := (iC t 230 ((iC t (204 + (a : Int).toNat) ((ka - 1) : Int).toNat)).toNat)) rfl (List.Mem.head _) h) (d_br (bo_eq _ _) bx_eq (fun k ws X h1 h2 => z_if_eq X (t := 172) rfl (by decide) (rng_to _) h1 h2) (fun g3020 => ?_) (fun g3020 => ?_))
                  ·
                    refine d_lift (fun k ws X h => z_load_n X (x := a) rfl (List.Mem.tail _ (List.Mem.tail _ (List.Mem.tail _ (List.Mem.tail _ (List.Mem.head _))))) h) (d_lift (fun k ws X h => z_const X rfl h) (d_lift (fun k ws X h => z_add X rfl h) (d_lift (fun k ws X h => z_store X (lv' := [(5, .int (Int32.ofInt (a + 1))), (2, .int (Int32.ofInt e3009)), (4, .int (Int32.ofInt (iC t (204 + (a : Int).toNat) (ka : Int).toNat))), (0, .ref (A 179)), (1, .int (Int32.ofInt a)), (3, .int (Int32.ofInt ka))]) rfl (by decide) (fun _ h => h) h) (d_lvs (lv := [(0, .ref (A 179)), (1, .int (Int32.ofInt a)), (2, .int (Int32.ofInt e3009)), (3, .int (Int32.ofInt ka)), (4, .int (Int32.ofInt (iC t (204 + (a : Int).toNat) (ka : Int).toNat))), (5, .int (Int32.ofInt (a + 1)))]) (List.forall_mem_cons.mpr ⟨(List.Mem.tail _ (List.Mem.tail _ (List.Mem.tail _ (List.Mem.head _)))), (List.forall_mem_cons.mpr ⟨(List.Mem.tail _ (List.Mem.tail _ (List.Mem.tail _ (List.Mem.tail _ (List.Mem.head _))))), (List.forall_mem_cons.mpr ⟨(List.Mem.tail _ (List.Mem.head _)), (List.forall_mem_cons.mpr ⟨(List.Mem.tail _ (List.Mem.tail _ (List.Mem.tail _ (List.Mem.tail _ (List.Mem.tail _ (List.Mem.head _)))))), (List.forall_mem_cons.mpr ⟨(List.Mem.tail _ (List.Mem.tail _ (List.Mem.head _))), (List.forall_mem_cons.mpr ⟨(List.Mem.head _), (fun q h => absurd h List.not_mem_nil)⟩)⟩)⟩)⟩)⟩)⟩) (L177 ((12 - (a + 1) : Int).toNat + 1) t a e3009 ka (iC t (204 + (a : Int).toNat) (ka : Int).toNat) (a + 1) I F jjNW (by first | exact ⟨hi.1, hi.2.1, hi.2.2.1, oq_31e518ae re3009.2 re3009.1, hi.2.2.2.2.1, oq_095218f7 q3004 g3006, oq_10212474 g3006 b3002.2, b3007.1, b3007.2, oq_b15b052d hi.1, oq_51d1204d hi.2.2.1⟩ | omega) (Nat.lt_succ_self _) ?_)))))
                    intro s3021 x3022 Is3021 Fs3021 JNW_s3021 hs3021
                    have hta3023 : ∀ a ∈ ([161, 230] : List Nat), ∀ j, j < (bA a).2.2 → (TU T 161 7).2 a j := hta_g hta (by decide)
                    refine d_lift (fun k ws X h => z_inc X (x := ka) (lv' := [(3, .int (Int32.ofInt (ka + 1))), (0, .ref (A 179)), (1, .int (Int32.ofInt a)), (2, .int (Int32.ofInt e3009)), (4, .int (Int32.ofInt (iC t (204 + (a : Int).toNat) (ka : Int).toNat))), (5, .int (Int32.ofInt x3022))]) rfl (by decide) (List.Mem.tail _ (List.Mem.tail _ (List.Mem.tail _ (List.Mem.head _)))) (fun _ h => h) h) (d_lift (fun k ws X h => z_goto X (t := 35) rfl (by decide) h) (d_lvs (lv := [(0, .ref (A 179)), (1, .int (Int32.ofInt a)), (2, .int (Int32.ofInt e3009)), (3, .int (Int32.ofInt (ka + 1)))]) (List.forall_mem_cons.mpr ⟨(List.Mem.tail _ (List.Mem.head _)), (List.forall_mem_cons.mpr ⟨(List.Mem.tail _ (List.Mem.tail _ (List.Mem.head _))), (List.forall_mem_cons.mpr ⟨(List.Mem.tail _ (List.Mem.tail _ (List.Mem.tail _ (List.Mem.head _)))), (List.forall_mem_cons.mpr ⟨(List.Mem.head _), (fun q h => absurd h List.not_mem_nil)⟩)⟩)⟩)⟩) ?_))
                    exact ih _ a e3009 (ka + 1) Is3021 Fs3021 JNW_s3021 (by first | exact ⟨hs3021.1, hs3021.2.1, hs3021.2.2.1, hs3021.2.2.2.1, oq_54f49eb5 hs3021.2.2.2.2.1, oq_3d4d89a6 hs3021.2.2.2.2.2.2.1⟩ | omega) (by first | exact qk_me hm (by decide) (oq_fa9b5cb9 hs3021.2.2.2.2.2.2.1) | exact oq_2439605e hs3021.2.2.2.2.2.2.1 hm | omega) kx
                  ·
                    as_aux_lemma =>
                     refine d_lift (fun k ws X h => z_aload_n X (x := A 179) rfl (List.Mem.tail _ (List.Mem.tail _ (List.Mem.tail _ (List.Mem.head _)))) h) (d_liftS (fun k s X h => s_getR X 179 rfl (by decide) rfl rfl h) (d_lift (fun k ws X h => z_load X (x := (iC t (204 + (a : Int).toNat) (ka : Int).toNat)) rfl (List.Mem.tail _ (List.Mem.tail _ (List.Mem.head _))) h) (d_zald 258 rfl (by decide) rfl (by first | exact b3007.1 | omega) (show (iC t (204 + (a : Int).toNat) (ka : Int).toNat) < 128 by first | exact oq_31b2bf10 b3007.2 | omega) (by decide) (hta3001 230 (by decide) _ (show ((iC t (204 + (a : Int).toNat) (ka : Int).toNat)).toNat < 128 by first | exact oq_c7f4e9c1 b3007.2 | omega)) ?_)))
                     have b3024 := bc_230 I (show ((iC t (204 + (a : Int).toNat) (ka : Int).toNat)).toNat < 128 by first | exact oq_c7f4e9c1 b3007.2 | omega)
                     have q3025 : iC t 230 ((iC t (204 + (a : Int).toNat) (ka : Int).toNat)).toNat = iC s 230 ((iC t (204 + (a : Int).toNat) (ka : Int).toNat)).toNat := fm_c F (by decide)
                     refine d_br (bo_eq _ _) bx_eq (fun k ws X h1 h2 => z_if_eq X (t := 172) rfl (by decide) (rng_to _) h1 h2) (fun g3026 => ?_) (fun g3026 => ?_)
                     ·
                       refine d_lift (fun k ws X h => z_load_n X (x := a) rfl (List.Mem.tail _ (List.Mem.tail _ (List.Mem.tail _ (List.Mem.tail _ (List.Mem.head _))))) h) (d_lift (fun k ws X h => z_const X rfl h) (d_lift (fun k ws X h => z_add X rfl h) (d_lift (fun k ws X h => z_store X (lv' := [(5, .int (Int32.ofInt (a + 1))), (2, .int (Int32.ofInt e3009)), (4, .int (Int32.ofInt (iC t (204 + (a : Int).toNat) (ka : Int).toNat))), (0, .ref (A 179)), (1, .int (Int32.ofInt a)), (3, .int (Int32.ofInt ka))]) rfl (by decide) (fun _ h => h) h) (d_lvs (lv := [(0, .ref (A 179)), (1, .int (Int32.ofInt a)), (2, .int (Int32.ofInt e3009)), (3, .int (Int32.ofInt ka)), (4, .int (Int32.ofInt (iC t (204 + (a : Int).toNat) (ka : Int).toNat))), (5, .int (Int32.ofInt (a + 1)))]) (List.forall_mem_cons.mpr ⟨(List.Mem.tail _ (List.Mem.tail _ (List.Mem.tail _ (List.Mem.head _)))), (List.forall_mem_cons.mpr ⟨(List.Mem.tail _ (List.Mem.tail _ (List.Mem.tail _ (List.Mem.tail _ (List.Mem.head _))))), (List.forall_mem_cons.mpr ⟨(List.Mem.tail _ (List.Mem.head _)), (List.forall_mem_cons.mpr ⟨(List.Mem.tail _ (List.Mem.tail _ (List.Mem.tail _ (List.Mem.tail _ (List.Mem.tail _ (List.Mem.head _)))))), (List.forall_mem_cons.mpr ⟨(List.Mem.tail _ (List.Mem.tail _ (List.Mem.head _))), (List.forall_mem_cons.mpr ⟨(List.Mem.head _), (fun q h => absurd h List.not_mem_nil)⟩)⟩)⟩)⟩)⟩)⟩) (L177 ((12 - (a + 1) : Int).toNat + 1) t a e3009 ka (iC t (204 + (a : Int).toNat) (ka : Int).toNat) (a + 1) I F jjNW (by first | exact ⟨hi.1, hi.2.1, hi.2.2.1, oq_2033c30a g3026 g3020 g3019 b3015.1, hi.2.2.2.2.1, oq_095218f7 q3004 g3006, oq_10212474 g3006 b3002.2, b3007.1, b3007.2, oq_b15b052d hi.1, oq_51d1204d hi.2.2.1⟩ | omega) (Nat.lt_succ_self _) ?_)))))
                       intro s3027 x3028 Is3027 Fs3027 JNW_s3027 hs3027
                       have hta3029 : ∀ a ∈ ([161, 230] : List Nat), ∀ j, j < (bA a).2.2 → (TU T 161 7).2 a j := hta_g hta (by decide)
                       refine d_lift (fun k ws X h => z_inc X (x := ka) (lv' := [(3, .int (Int32.ofInt (ka + 1))), (0, .ref (A 179)), (1, .int (Int32.ofInt a)), (2, .int (Int32.ofInt e3009)), (4, .int (Int32.ofInt (iC t (204 + (a : Int).toNat) (ka : Int).toNat))), (5, .int (Int32.ofInt x3028))]) rfl (by decide) (List.Mem.tail _ (List.Mem.tail _ (List.Mem.tail _ (List.Mem.head _)))) (fun _ h => h) h) (d_lift (fun k ws X h => z_goto X (t := 35) rfl (by decide) h) (d_lvs (lv := [(0, .ref (A 179)), (1, .int (Int32.ofInt a)), (2, .int (Int32.ofInt e3009)), (3, .int (Int32.ofInt (ka + 1)))]) (List.forall_mem_cons.mpr ⟨(List.Mem.tail _ (List.Mem.head _)), (List.forall_mem_cons.mpr ⟨(List.Mem.tail _ (List.Mem.tail _ (List.Mem.head _))), (List.forall_mem_cons.mpr ⟨(List.Mem.tail _ (List.Mem.tail _ (List.Mem.tail _ (List.Mem.head _)))), (List.forall_mem_cons.mpr ⟨(List.Mem.head _), (fun q h => absurd h List.not_mem_nil)⟩)⟩)⟩)⟩) ?_))
                       exact ih _ a e3009 (ka + 1) Is3027 Fs3027 JNW_s3027 (by first | exact ⟨hs3027.1, hs3027.2.1, hs3027.2.2.1, hs3027.2.2.2.1, oq_54f49eb5 hs3027.2.2.2.2.1, oq_3d4d89a6 hs3027.2.2.2.2.2.2.1⟩ | omega) (by first | exact qk_me hm (by decide) (oq_fa9b5cb9 hs3027.2.2.2.2.2.2.1) | exact oq_2439605e hs3027.2.2.2.2.2.2.1 hm | omega) kx
                     ·
                       as_aux_lemma =>
                        refine d_lift (fun k ws X h => z_aload_n X (x := A 179) rfl (List.Mem.tail _ (List.Mem.tail _ (List.Mem.tail _ (List.Mem.head _)))) h) (d_liftS (fun k s X h => s_getR X 179 rfl (by decide) rfl rfl h) (d_lift (fun k ws X h => z_load_n X (x := a) rfl (List.Mem.tail _ (List.Mem.tail _ (List.Mem.tail _ (List.Mem.tail _ (List.Mem.head _))))) h) (d_liftS (fun k s X h => z_aald X rw_230 rfl (by first | exact hi.1 | omega) (show a < 12 by first | exact oq_0ddfcfee hi.2.2.1 | omega) (by decide) h) (d_lift (fun k ws X h => z_load_n X (x := ka) rfl (List.Mem.tail _ (List.Mem.tail _ (List.Mem.tail _ (List.Mem.tail _ (List.Mem.tail _ (List.Mem.head _)))))) h) (d_lift (fun k ws X h => z_const X rfl h) (d_lift (fun k ws X h => z_sub X rfl h) (d_ald2 rw_230 rfl (show (a : Int).toNat < 12 by first | exact oq_9c5fa447 hi.2.2.1 | omega) (by first | exact oq_a4f22177 g3010 | omega) (show (ka - 1) < 24 by first | exact oq_19cb6f5b hi.2.2.2.2.2 | omega) (by decide) (Or.inr ((htn _ (show (a : Int).toNat < 12 by first | exact oq_9c5fa447 hi.2.2.1 | (clear g3026 g3020 he3009; omega) | (clear g3020 he3009; omega) | omega) (show (((a : Int).toNat : Nat) : Int) < iI s 90 by first | exact oq_084ea114 hi.2.1 hi.1 | (clear g3026 g3020 he3009; omega) | (clear g3020 he3009; omega) | omega)).2.2.2 _ (show ((((ka - 1) : Int).toNat : Nat) : Int) < iC s 202 (a : Int).toNat by first | (clear g3026 g3020 he3009; omega) | (clear g3020 he3009; omega) | omega))) ?_)))))))
                        have b3030 : (0 : Int) ≤ (iC t (204 + (a : Int).toNat) ((ka - 1) : Int).toNat) ∧ (iC t (204 + (a : Int).toNat) ((ka - 1) : Int).toNat) ≤ 127 := rw_bd rw_230 I (show (a : Int).toNat < 12 by first | exact oq_9c5fa447 hi.2.2.1 | omega) (show ((ka - 1) : Int).toNat < 24 by first | exact oq_f976b25c hi.2.2.2.2.2 | omega)
                        refine d_lift (fun k ws X h => z_load X (x := (iC t (204 + (a : Int).toNat) (ka : Int).toNat)) rfl (List.Mem.tail _ (List.Mem.tail _ (List.Mem.head _))) h) (d_callT (As := [.int (Int32.ofInt (iC t (204 + (a : Int).toNat) ((ka - 1) : Int).toNat)), .int (Int32.ofInt (iC t (204 + (a : Int).toNat) (ka : Int).toNat))]) (st := []) rfl rfl (d_stepOf (T := TU T 161 7) G I (by first | exact ⟨b3030.1, b3030.2⟩ | omega) (by first | exact ⟨b3007.1, b3007.2⟩ | omega) (fun q h => hti q ((by decide : ∀ q ∈ ([] : List Nat), q ∈ ([90, 89] : List Nat)) q h)) (fun a h => hta3001 a ((by decide : ∀ q ∈ ([] : List Nat), q ∈ ([161, 230] : List Nat)) a h))) ⟨rfl, rfl⟩ ⟨(show 6 + 1 ≤ 8 from oq_42eed11c), (show 8 + (mNL (miB 225) + 11) + 100 ≤ 143 from oq_e99eeac0)⟩ (Nat.le_of_ble_eq_true rfl) (by decide) (by decide) (fun ee s3031 hq => ?_) (fun vv s3031 hq => ?_))
                        · obtain ⟨Is3031, Fs3031, e3032, hv, hrs3031, hps3031⟩ := hq; cases hv
                        obtain ⟨Is3031, Fs3031, e3032, hv, hrs3031, hps3031⟩ := hq
                        cases hv
                        have Gs3031 := fm_tq F Fs3031 rfl rfl
                        have JNW_s3031 : NW s3031 := NW_fm Fs3031 (by decide) jjNW
                        show DS l s0 D A dT 227 (rmN 227) [] [161] (TU T 161 7) Q (TU T 161 7) 153 [(5, .int (Int32.ofInt (iC t 230 ((iC t (204 + (a : Int).toNat) ((ka - 1) : Int).toNat)).toNat))), (2, .int (Int32.ofInt e3009)), (4, .int (Int32.ofInt (iC t (204 + (a : Int).toNat) (ka : Int).toNat))), (0, .ref (A 179)), (1, .int (Int32.ofInt a)), (3, .int (Int32.ofInt ka))] [.int (Int32.ofInt e3032)] s3031
                        refine d_lift (fun k ws X h => z_const X rfl h) (d_br (bo_le _ _) bx_le (fun k ws X h1 h2 => z_icmp_le X (t := 172) rfl (by decide) hrs3031 (by decide) h1 h2) (fun g3033 => ?_) (fun g3033 => ?_))
                        ·
                          as_aux_lemma =>
                           refine d_lift (fun k ws X h => z_load_n X (x := a) rfl (List.Mem.tail _ (List.Mem.tail _ (List.Mem.tail _ (List.Mem.tail _ (List.Mem.head _))))) h) (d_lift (fun k ws X h => z_const X rfl h) (d_lift (fun k ws X h => z_add X rfl h) (d_lift (fun k ws X h => z_store X (lv' := [(5, .int (Int32.ofInt (a + 1))), (2, .int (Int32.ofInt e3009)), (4, .int (Int32.ofInt (iC t (204 + (a : Int).toNat) (ka : Int).toNat))), (0, .ref (A 179)), (1, .int (Int32.ofInt a)), (3, .int (Int32.ofInt ka))]) rfl (by decide) (fun _ h => h) h) (d_lvs (lv := [(0, .ref (A 179)), (1, .int (Int32.ofInt a)), (2, .int (Int32.ofInt e3009)), (3, .int (Int32.ofInt ka)), (4, .int (Int32.ofInt (iC t (204 + (a : Int).toNat) (ka : Int).toNat))), (5, .int (Int32.ofInt (a + 1)))]) (List.forall_mem_cons.mpr ⟨(List.Mem.tail _ (List.Mem.tail _ (List.Mem.tail _ (List.Mem.head _)))), (List.forall_mem_cons.mpr ⟨(List.Mem.tail _ (List.Mem.tail _ (List.Mem.tail _ (List.Mem.tail _ (List.Mem.head _))))), (List.forall_mem_cons.mpr ⟨(List.Mem.tail _ (List.Mem.head _)), (List.forall_mem_cons.mpr ⟨(List.Mem.tail _ (List.Mem.tail _ (List.Mem.tail _ (List.Mem.tail _ (List.Mem.tail _ (List.Mem.head _)))))), (List.forall_mem_cons.mpr ⟨(List.Mem.tail _ (List.Mem.tail _ (List.Mem.head _))), (List.forall_mem_cons.mpr ⟨(List.Mem.head _), (fun q h => absurd h List.not_mem_nil)⟩)⟩)⟩)⟩)⟩)⟩) (L177 ((12 - (a + 1) : Int).toNat + 1) s3031 a e3009 ka (iC t (204 + (a : Int).toNat) (ka : Int).toNat) (a + 1) Is3031 Gs3031 JNW_s3031 (by first | exact ⟨hi.1, hi.2.1, hi.2.2.1, oq_31e518ae re3009.2 re3009.1, hi.2.2.2.2.1, oq_095218f7 q3004 g3006, oq_10212474 g3006 b3002.2, b3007.1, b3007.2, oq_b15b052d hi.1, oq_51d1204d hi.2.2.1⟩ | omega) (Nat.lt_succ_self _) ?_)))))
                           intro s3034 x3035 Is3034 Fs3034 JNW_s3034 hs3034
                           have hta3036 : ∀ a ∈ ([161, 230] : List Nat), ∀ j, j < (bA a).2.2 → (TU T 161 7).2 a j := hta_g hta (by decide)
                           refine d_lift (fun k ws X h => z_inc X (x := ka) (lv' := [(3, .int (Int32.ofInt (ka + 1))), (0, .ref (A 179)), (1, .int (Int32.ofInt a)), (2, .int (Int32.ofInt e3009)), (4, .int (Int32.ofInt (iC t (204 + (a : Int).toNat) (ka : Int).toNat))), (5, .int (Int32.ofInt x3035))]) rfl (by decide) (List.Mem.tail _ (List.Mem.tail _ (List.Mem.tail _ (List.Mem.head _)))) (fun _ h => h) h) (d_lift (fun k ws X h => z_goto X (t := 35) rfl (by decide) h) (d_lvs (lv := [(0, .ref (A 179)), (1, .int (Int32.ofInt a)), (2, .int (Int32.ofInt e3009)), (3, .int (Int32.ofInt (ka + 1)))]) (List.forall_mem_cons.mpr ⟨(List.Mem.tail _ (List.Mem.head _)), (List.forall_mem_cons.mpr ⟨(List.Mem.tail _ (List.Mem.tail _ (List.Mem.head _))), (List.forall_mem_cons.mpr ⟨(List.Mem.tail _ (List.Mem.tail _ (List.Mem.tail _ (List.Mem.head _)))), (List.forall_mem_cons.mpr ⟨(List.Mem.head _), (fun q h => absurd h List.not_mem_nil)⟩)⟩)⟩)⟩) ?_))
                           exact ih _ a e3009 (ka + 1) Is3034 Fs3034 JNW_s3034 (by first | exact ⟨hs3034.1, hs3034.2.1, hs3034.2.2.1, hs3034.2.2.2.1, oq_54f49eb5 hs3034.2.2.2.2.1, oq_3d4d89a6 hs3034.2.2.2.2.2.2.1⟩ | omega) (by first | exact qk_me hm (by decide) (oq_fa9b5cb9 hs3034.2.2.2.2.2.2.1) | exact oq_2439605e hs3034.2.2.2.2.2.2.1 hm | omega) kx
                        ·
                          as_aux_lemma =>
                           refine d_lift (fun k ws X h => z_aload_n X (x := A 179) rfl (List.Mem.tail _ (List.Mem.tail _ (List.Mem.tail _ (List.Mem.head _)))) h) (d_liftS (fun k s X h => s_getR X 179 rfl (by decide) rfl rfl h) (d_lift (fun k ws X h => z_const X rfl h) (d_lift (fun k ws X h => w_dup2_11 X.1 (ax_d X (show cdA 227 162 = some (.dup2, 1, 0, 0, 0) from rfl)) rfl rfl h) (d_ald 184 rfl (by decide) rfl (by decide) (show 3 < 7 by decide) (by decide) (hta3001 161 (by decide) _ (show (3 : Int).toNat < 7 by first | exact oq_bea6b7ec | omega)) ?_))))
                           have b3037 := bc_161 Is3031 (show (3 : Int).toNat < 7 by first | exact oq_bea6b7ec | omega)
                           refine d_lift (fun k ws X h => z_aload_n X (x := A 179) rfl (List.Mem.tail _ (List.Mem.tail _ (List.Mem.tail _ (List.Mem.head _)))) h) (d_liftS (fun k s X h => s_getR X 179 rfl (by decide) rfl rfl h) (d_lift (fun k ws X h => z_load_n X (x := a) rfl (List.Mem.tail _ (List.Mem.tail _ (List.Mem.tail _ (List.Mem.tail _ (List.Mem.head _))))) h) (d_ald 229 rfl (by decide) rfl (by first | exact hi.1 | omega) (show a < 12 by first | exact oq_0ddfcfee hi.2.2.1 | omega) (by decide) (Or.inr ((htn _ (show (a : Int).toNat < 12 by first | exact oq_9c5fa447 hi.2.2.1 | (clear g3026 g3020 he3009; omega) | (clear g3020 he3009; omega) | omega) (show (((a : Int).toNat : Nat) : Int) < iI s 90 by first | exact oq_084ea114 hi.2.1 hi.1 | (clear g3026 g3020 he3009; omega) | (clear g3020 he3009; omega) | omega)).2.1)) ?_)))
                           have b3038 := bc_203 Is3031 (show (a).toNat < 12 by first | exact oq_9c5fa447 hi.2.2.1 | omega)
                           have q3039 : iC s3031 203 (a).toNat = iC s 203 (a).toNat := fm_c Gs3031 (by decide)
                           refine d_lift (fun k ws X h => z_add X rfl h) (d_any (fun y3040 hy3040 => ?_))
                           refine d_ast 184 rfl (by decide) rfl (by decide) (show 3 < 7 by decide) (by decide) (show 161 ∈ _ by decide) (show ((-2147483648) : Int) ≤ y3040 ∧ y3040 ≤ 2147483647 by first | exact ⟨hy3040.1, hy3040.2⟩ | omega) hy3040 (d_mono (T' := TU T 161 7) (fun _ h => h) (fun _ _ h => Or.inr h) (ds_gen (fun s3041 hs3041 => ?_)))
                           have Is3041 : Bd s3041 := eqB hs3041 (bd_C Is3031 (show ((-2147483648) : Int) ≤ y3040 ∧ y3040 ≤ 2147483647 by first | exact ⟨hy3040.1, hy3040.2⟩ | omega) hy3040)
                           have Fs3041 := eqF hs3041 (fm_C Gs3031 (inl_ok (a := 161) rfl))
                           have fs3041 : Fm [] [161] s3031 s3041 := by rw [hs3041]; exact fm_C (fm_rf _ _ _) (show 161 ∈ _ by decide)
                           have JNW_s3041 : NW s3041 := NW_fm fs3041 (by decide) JNW_s3031
                           refine d_lift (fun k ws X h => z_load_n X (x := a) rfl (List.Mem.tail _ (List.Mem.tail _ (List.Mem.tail _ (List.Mem.tail _ (List.Mem.head _))))) h) (d_lift (fun k ws X h => z_const X rfl h) (d_lift (fun k ws X h => z_add X rfl h) (d_lift (fun k ws X h => z_store X (lv' := [(5, .int (Int32.ofInt (a + 1))), (2, .int (Int32.ofInt e3009)), (4, .int (Int32.ofInt (iC t (204 + (a : Int).toNat) (ka : Int).toNat))), (0, .ref (A 179)), (1, .int (Int32.ofInt a)), (3, .int (Int32.ofInt ka))]) rfl (by decide) (fun _ h => h) h) (d_lvs (lv := [(0, .ref (A 179)), (1, .int (Int32.ofInt a)), (2, .int (Int32.ofInt e3009)), (3, .int (Int32.ofInt ka)), (4, .int (Int32.ofInt (iC t (204 + (a : Int).toNat) (ka : Int).toNat))), (5, .int (Int32.ofInt (a + 1)))]) (List.forall_mem_cons.mpr ⟨(List.Mem.tail _ (List.Mem.tail _ (List.Mem.tail _ (List.Mem.head _)))), (List.forall_mem_cons.mpr ⟨(List.Mem.tail _ (List.Mem.tail _ (List.Mem.tail _ (List.Mem.tail _ (List.Mem.head _))))), (List.forall_mem_cons.mpr ⟨(List.Mem.tail _ (List.Mem.head _)), (List.forall_mem_cons.mpr ⟨(List.Mem.tail _ (List.Mem.tail _ (List.Mem.tail _ (List.Mem.tail _ (List.Mem.tail _ (List.Mem.head _)))))), (List.forall_mem_cons.mpr ⟨(List.Mem.tail _ (List.Mem.tail _ (List.Mem.head _))), (List.forall_mem_cons.mpr ⟨(List.Mem.head _), (fun q h => absurd h List.not_mem_nil)⟩)⟩)⟩)⟩)⟩)⟩) (L177 ((12 - (a + 1) : Int).toNat + 1) s3041 a e3009 ka (iC t (204 + (a : Int).toNat) (ka : Int).toNat) (a + 1) Is3041 Fs3041 JNW_s3041 (by first | exact ⟨hi.1, hi.2.1, hi.2.2.1, oq_31e518ae re3009.2 re3009.1, hi.2.2.2.2.1, oq_095218f7 q3004 g3006, oq_10212474 g3006 b3002.2, b3007.1, b3007.2, oq_b15b052d hi.1, oq_51d1204d hi.2.2.1⟩ | omega) (Nat.lt_succ_self _) ?_)))))
                           intro s3042 x3043 Is3042 Fs3042 JNW_s3042 hs3042
                           have hta3044 : ∀ a ∈ ([161, 230] : List Nat), ∀ j, j < (bA a).2.2 → (TU T 161 7).2 a j := hta_g hta (by decide)
                           refine d_lift (fun k ws X h => z_inc X (x := ka) (lv' := [(3, .int (Int32.ofInt (ka + 1))), (0, .ref (A 179)), (1, .int (Int32.ofInt a)), (2, .int (Int32.ofInt e3009)), (4, .int (Int32.ofInt (iC t (204 + (a : Int).toNat) (ka : Int).toNat))), (5, .int (Int32.ofInt x3043))]) rfl (by decide) (List.Mem.tail _ (List.Mem.tail _ (List.Mem.tail _ (List.Mem.head _)))) (fun _ h => h) h) (d_lift (fun k ws X h => z_goto X (t := 35) rfl (by decide) h) (d_lvs (lv := [(0, .ref (A 179)), (1, .int (Int32.ofInt a)), (2, .int (Int32.ofInt e3009)), (3, .int (Int32.ofInt (ka + 1)))]) (List.forall_mem_cons.mpr ⟨(List.Mem.tail _ (List.Mem.head _)), (List.forall_mem_cons.mpr ⟨(List.Mem.tail _ (List.Mem.tail _ (List.Mem.head _))), (List.forall_mem_cons.mpr ⟨(List.Mem.tail _ (List.Mem.tail _ (List.Mem.tail _ (List.Mem.head _)))), (List.forall_mem_cons.mpr ⟨(List.Mem.head _), (fun q h => absurd h List.not_mem_nil)⟩)⟩)⟩)⟩) ?_))
                           exact ih _ a e3009 (ka + 1) Is3042 Fs3042 JNW_s3042 (by first | exact ⟨hs3042.1, hs3042.2.1, hs3042.2.2.1, hs3042.2.2.2.1, oq_54f49eb5 hs3042.2.2.2.2.1, oq_3d4d89a6 hs3042.2.2.2.2.2.2.1⟩ | omega) (by first | exact qk_me hm (by decide) (oq_fa9b5cb9 hs3042.2.2.2.2.2.2.1) | exact oq_2439605e hs3042.2.2.2.2.2.2.1 hm | omega) kx
               ·
                 as_aux_lemma =>
                  refine d_lift (fun k ws X h => z_aload_n X (x := A 179) rfl (List.Mem.tail _ (List.Mem.tail _ (List.Mem.tail _ (List.Mem.head _)))) h) (d_liftS (fun k s X h => s_getR X 179 rfl (by decide) rfl rfl h) (d_lift (fun k ws X h => z_const X rfl h) (d_lift (fun k ws X h => w_dup2_11 X.1 (ax_d X (show cdA 227 113 = some (.dup2, 1, 0, 0, 0) from rfl)) rfl rfl h) (d_ald 184 rfl (by decide) rfl (by decide) (show 2 < 7 by decide) (by decide) (hta3001 161 (by decide) _ (show (2 : Int).toNat < 7 by first | exact oq_62527c24 | omega)) ?_))))
                  have b3045 := bc_161 I (show (2 : Int).toNat < 7 by first | exact oq_62527c24 | omega)
                  refine d_lift (fun k ws X h => z_aload_n X (x := A 179) rfl (List.Mem.tail _ (List.Mem.tail _ (List.Mem.tail _ (List.Mem.head _)))) h) (d_liftS (fun k s X h => s_getR X 179 rfl (by decide) rfl rfl h) (d_lift (fun k ws X h => z_load_n X (x := a) rfl (List.Mem.tail _ (List.Mem.tail _ (List.Mem.tail _ (List.Mem.tail _ (List.Mem.head _))))) h) (d_ald 229 rfl (by decide) rfl (by first | exact hi.1 | omega) (show a < 12 by first | exact oq_0ddfcfee hi.2.2.1 | omega) (by decide) (Or.inr ((htn _ (show (a : Int).toNat < 12 by first | exact oq_9c5fa447 hi.2.2.1 | (clear g3019 he3009; omega) | (clear he3009; omega) | omega) (show (((a : Int).toNat : Nat) : Int) < iI s 90 by first | exact oq_084ea114 hi.2.1 hi.1 | (clear g3019 he3009; omega) | (clear he3009; omega) | omega)).2.1)) ?_)))
                  have b3046 := bc_203 I (show (a).toNat < 12 by first | exact oq_9c5fa447 hi.2.2.1 | omega)
                  have q3047 : iC t 203 (a).toNat = iC s 203 (a).toNat := fm_c F (by decide)
                  refine d_lift (fun k ws X h => z_add X rfl h) (d_any (fun y3048 hy3048 => ?_))
                  refine d_ast 184 rfl (by decide) rfl (by decide) (show 2 < 7 by decide) (by decide) (show 161 ∈ _ by decide) (show ((-2147483648) : Int) ≤ y3048 ∧ y3048 ≤ 2147483647 by first | exact ⟨hy3048.1, hy3048.2⟩ | omega) hy3048 (d_mono (T' := TU T 161 7) (fun _ h => h) (fun _ _ h => Or.inr h) (ds_gen (fun s3049 hs3049 => ?_)))
                  have Is3049 : Bd s3049 := eqB hs3049 (bd_C I (show ((-2147483648) : Int) ≤ y3048 ∧ y3048 ≤ 2147483647 by first | exact ⟨hy3048.1, hy3048.2⟩ | omega) hy3048)
                  have Fs3049 := eqF hs3049 (fm_C F (inl_ok (a := 161) rfl))
                  have fs3049 : Fm [] [161] t s3049 := by rw [hs3049]; exact fm_C (fm_rf _ _ _) (show 161 ∈ _ by decide)
                  have JNW_s3049 : NW s3049 := NW_fm fs3049 (by decide) jjNW
                  refine d_lift (fun k ws X h => z_load X (x := (iC t 230 ((iC t (204 + (a : Int).toNat) ((ka - 1) : Int).toNat)).toNat)) rfl (List.Mem.head _) h) (d_br (bo_eq _ _) bx_eq (fun k ws X h1 h2 => z_if_eq X (t := 172) rfl (by decide) (rng_to _) h1 h2) (fun g3050 => ?_) (fun g3050 => ?_))
                  ·
                    refine d_lift (fun k ws X h => z_load_n X (x := a) rfl (List.Mem.tail _ (List.Mem.tail _ (List.Mem.tail _ (List.Mem.tail _ (List.Mem.head _))))) h) (d_lift (fun k ws X h => z_const X rfl h) (d_lift (fun k ws X h => z_add X rfl h) (d_lift (fun k ws X h => z_store X (lv' := [(5, .int (Int32.ofInt (a + 1))), (2, .int (Int32.ofInt e3009)), (4, .int (Int32.ofInt (iC t (204 + (a : Int).toNat) (ka : Int).toNat))), (0, .ref (A 179)), (1, .int (Int32.ofInt a)), (3, .int (Int32.ofInt ka))]) rfl (by decide) (fun _ h => h) h) (d_lvs (lv := [(0, .ref (A 179)), (1, .int (Int32.ofInt a)), (2, .int (Int32.ofInt e3009)), (3, .int (Int32.ofInt ka)), (4, .int (Int32.ofInt (iC t (204 + (a : Int).toNat) (ka : Int).toNat))), (5, .int (Int32.ofInt (a + 1)))]) (List.forall_mem_cons.mpr ⟨(List.Mem.tail _ (List.Mem.tail _ (List.Mem.tail _ (List.Mem.head _)))), (List.forall_mem_cons.mpr ⟨(List.Mem.tail _ (List.Mem.tail _ (List.Mem.tail _ (List.Mem.tail _ (List.Mem.head _))))), (List.forall_mem_cons.mpr ⟨(List.Mem.tail _ (List.Mem.head _)), (List.forall_mem_cons.mpr ⟨(List.Mem.tail _ (List.Mem.tail _ (List.Mem.tail _ (List.Mem.tail _ (List.Mem.tail _ (List.Mem.head _)))))), (List.forall_mem_cons.mpr ⟨(List.Mem.tail _ (List.Mem.tail _ (List.Mem.head _))), (List.forall_mem_cons.mpr ⟨(List.Mem.head _), (fun q h => absurd h List.not_mem_nil)⟩)⟩)⟩)⟩)⟩)⟩) (L177 ((12 - (a + 1) : Int).toNat + 1) s3049 a e3009 ka (iC t (204 + (a : Int).toNat) (ka : Int).toNat) (a + 1) Is3049 Fs3049 JNW_s3049 (by first | exact ⟨hi.1, hi.2.1, hi.2.2.1, oq_31e518ae re3009.2 re3009.1, hi.2.2.2.2.1, oq_095218f7 q3004 g3006, oq_10212474 g3006 b3002.2, b3007.1, b3007.2, oq_b15b052d hi.1, oq_51d1204d hi.2.2.1⟩ | omega) (Nat.lt_succ_self _) ?_)))))
                    intro s3051 x3052 Is3051 Fs3051 JNW_s3051 hs3051
                    have hta3053 : ∀ a ∈ ([161, 230] : List Nat), ∀ j, j < (bA a).2.2 → (TU T 161 7).2 a j := hta_g hta (by decide)
                    refine d_lift (fun k ws X h => z_inc X (x := ka) (lv' := [(3, .int (Int32.ofInt (ka + 1))), (0, .ref (A 179)), (1, .int (Int32.ofInt a)), (2, .int (Int32.ofInt e3009)), (4, .int (Int32.ofInt (iC t (204 + (a : Int).toNat) (ka : Int).toNat))), (5, .int (Int32.ofInt x3052))]) rfl (by decide) (List.Mem.tail _ (List.Mem.tail _ (List.Mem.tail _ (List.Mem.head _)))) (fun _ h => h) h) (d_lift (fun k ws X h => z_goto X (t := 35) rfl (by decide) h) (d_lvs (lv := [(0, .ref (A 179)), (1, .int (Int32.ofInt a)), (2, .int (Int32.ofInt e3009)), (3, .int (Int32.ofInt (ka + 1)))]) (List.forall_mem_cons.mpr ⟨(List.Mem.tail _ (List.Mem.head _)), (List.forall_mem_cons.mpr ⟨(List.Mem.tail _ (List.Mem.tail _ (List.Mem.head _))), (List.forall_mem_cons.mpr ⟨(List.Mem.tail _ (List.Mem.tail _ (List.Mem.tail _ (List.Mem.head _)))), (List.forall_mem_cons.mpr ⟨(List.Mem.head _), (fun q h => absurd h List.not_mem_nil)⟩)⟩)⟩)⟩) ?_))
                    exact ih _ a e3009 (ka + 1) Is3051 Fs3051 JNW_s3051 (by first | exact ⟨hs3051.1, hs3051.2.1, hs3051.2.2.1, hs3051.2.2.2.1, oq_54f49eb5 hs3051.2.2.2.2.1, oq_3d4d89a6 hs3051.2.2.2.2.2.2.1⟩ | omega) (by first | exact qk_me hm (by decide) (oq_fa9b5cb9 hs3051.2.2.2.2.2.2.1) | exact oq_2439605e hs3051.2.2.2.2.2.2.1 hm | omega) kx
                  ·
                    as_aux_lemma =>
                     refine d_lift (fun k ws X h => z_aload_n X (x := A 179) rfl (List.Mem.tail _ (List.Mem.tail _ (List.Mem.tail _ (List.Mem.head _)))) h) (d_liftS (fun k s X h => s_getR X 179 rfl (by decide) rfl rfl h) (d_lift (fun k ws X h => z_load X (x := (iC t (204 + (a : Int).toNat) (ka : Int).toNat)) rfl (List.Mem.tail _ (List.Mem.tail _ (List.Mem.head _))) h) (d_zald 258 rfl (by decide) rfl (by first | exact b3007.1 | omega) (show (iC t (204 + (a : Int).toNat) (ka : Int).toNat) < 128 by first | exact oq_31b2bf10 b3007.2 | omega) (by decide) (hta3001 230 (by decide) _ (show ((iC t (204 + (a : Int).toNat) (ka : Int).toNat)).toNat < 128 by first | exact oq_c7f4e9c1 b3007.2 | omega)) ?_)))
                     have b3054 := bc_230 Is3049 (show ((iC t (204 + (a : Int).toNat) (ka : Int).toNat)).toNat < 128 by first | exact oq_c7f4e9c1 b3007.2 | omega)
                     have q3055 : iC s3049 230 ((iC t (204 + (a : Int).toNat) (ka : Int).toNat)).toNat = iC s 230 ((iC t (204 + (a : Int).toNat) (ka : Int).toNat)).toNat := fm_c Fs3049 (by decide)
                     refine d_br (bo_eq _ _) bx_eq (fun k ws X h1 h2 => z_if_eq X (t := 172) rfl (by decide) (rng_to _) h1 h2) (fun g3056 => ?_) (fun g3056 => ?_)
                     ·
                       refine d_lift (fun k ws X h => z_load_n X (x := a) rfl (List.Mem.tail _ (List.Mem.tail _ (List.Mem.tail _ (List.Mem.tail _ (List.Mem.head _))))) h) (d_lift (fun k ws X h => z_const X rfl h) (d_lift (fun k ws X h => z_add X rfl h) (d_lift (fun k ws X h => z_store X (lv' := [(5, .int (Int32.ofInt (a + 1))), (2, .int (Int32.ofInt e3009)), (4, .int (Int32.ofInt (iC t (204 + (a : Int).toNat) (ka : Int).toNat))), (0, .ref (A 179)), (1, .int (Int32.ofInt a)), (3, .int (Int32.ofInt ka))]) rfl (by decide) (fun _ h => h) h) (d_lvs (lv := [(0, .ref (A 179)), (1, .int (Int32.ofInt a)), (2, .int (Int32.ofInt e3009)), (3, .int (Int32.ofInt ka)), (4, .int (Int32.ofInt (iC t (204 + (a : Int).toNat) (ka : Int).toNat))), (5, .int (Int32.ofInt (a + 1)))]) (List.forall_mem_cons.mpr ⟨(List.Mem.tail _ (List.Mem.tail _ (List.Mem.tail _ (List.Mem.head _)))), (List.forall_mem_cons.mpr ⟨(List.Mem.tail _ (List.Mem.tail _ (List.Mem.tail _ (List.Mem.tail _ (List.Mem.head _))))), (List.forall_mem_cons.mpr ⟨(List.Mem.tail _ (List.Mem.head _)), (List.forall_mem_cons.mpr ⟨(List.Mem.tail _ (List.Mem.tail _ (List.Mem.tail _ (List.Mem.tail _ (List.Mem.tail _ (List.Mem.head _)))))), (List.forall_mem_cons.mpr ⟨(List.Mem.tail _ (List.Mem.tail _ (List.Mem.head _))), (List.forall_mem_cons.mpr ⟨(List.Mem.head _), (fun q h => absurd h List.not_mem_nil)⟩)⟩)⟩)⟩)⟩)⟩) (L177 ((12 - (a + 1) : Int).toNat + 1) s3049 a e3009 ka (iC t (204 + (a : Int).toNat) (ka : Int).toNat) (a + 1) Is3049 Fs3049 JNW_s3049 (by first | exact ⟨hi.1, hi.2.1, hi.2.2.1, oq_31e518ae re3009.2 re3009.1, hi.2.2.2.2.1, oq_095218f7 q3004 g3006, oq_10212474 g3006 b3002.2, b3007.1, b3007.2, oq_b15b052d hi.1, oq_51d1204d hi.2.2.1⟩ | omega) (Nat.lt_succ_self _) ?_)))))
                       intro s3057 x3058 Is3057 Fs3057 JNW_s3057 hs3057
                       have hta3059 : ∀ a ∈ ([161, 230] : List Nat), ∀ j, j < (bA a).2.2 → (TU T 161 7).2 a j := hta_g hta (by decide)
                       refine d_lift (fun k ws X h => z_inc X (x := ka) (lv' := [(3, .int (Int32.ofInt (ka + 1))), (0, .ref (A 179)), (1, .int (Int32.ofInt a)), (2, .int (Int32.ofInt e3009)), (4, .int (Int32.ofInt (iC t (204 + (a : Int).toNat) (ka : Int).toNat))), (5, .int (Int32.ofInt x3058))]) rfl (by decide) (List.Mem.tail _ (List.Mem.tail _ (List.Mem.tail _ (List.Mem.head _)))) (fun _ h => h) h) (d_lift (fun k ws X h => z_goto X (t := 35) rfl (by decide) h) (d_lvs (lv := [(0, .ref (A 179)), (1, .int (Int32.ofInt a)), (2, .int (Int32.ofInt e3009)), (3, .int (Int32.ofInt (ka + 1)))]) (List.forall_mem_cons.mpr ⟨(List.Mem.tail _ (List.Mem.head _)), (List.forall_mem_cons.mpr ⟨(List.Mem.tail _ (List.Mem.tail _ (List.Mem.head _))), (List.forall_mem_cons.mpr ⟨(List.Mem.tail _ (List.Mem.tail _ (List.Mem.tail _ (List.Mem.head _)))), (List.forall_mem_cons.mpr ⟨(List.Mem.head _), (fun q h => absurd h List.not_mem_nil)⟩)⟩)⟩)⟩) ?_))
                       exact ih _ a e3009 (ka + 1) Is3057 Fs3057 JNW_s3057 (by first | exact ⟨hs3057.1, hs3057.2.1, hs3057.2.2.1, hs3057.2.2.2.1, oq_54f49eb5 hs3057.2.2.2.2.1, oq_3d4d89a6 hs3057.2.2.2.2.2.2.1⟩ | omega) (by first | exact qk_me hm (by decide) (oq_fa9b5cb9 hs3057.2.2.2.2.2.2.1) | exact oq_2439605e hs3057.2.2.2.2.2.2.1 hm | omega) kx
                     ·
                       as_aux_lemma =>
                        refine d_lift (fun k ws X h => z_aload_n X (x := A 179) rfl (List.Mem.tail _ (List.Mem.tail _ (List.Mem.tail _ (List.Mem.head _)))) h) (d_liftS (fun k s X h => s_getR X 179 rfl (by decide) rfl rfl h) (d_lift (fun k ws X h => z_load_n X (x := a) rfl (List.Mem.tail _ (List.Mem.tail _ (List.Mem.tail _ (List.Mem.tail _ (List.Mem.head _))))) h) (d_liftS (fun k s X h => z_aald X rw_230 rfl (by first | exact hi.1 | omega) (show a < 12 by first | exact oq_0ddfcfee hi.2.2.1 | omega) (by decide) h) (d_lift (fun k ws X h => z_load_n X (x := ka) rfl (List.Mem.tail _ (List.Mem.tail _ (List.Mem.tail _ (List.Mem.tail _ (List.Mem.tail _ (List.Mem.head _)))))) h) (d_lift (fun k ws X h => z_const X rfl h) (d_lift (fun k ws X h => z_sub X rfl h) (d_ald2 rw_230 rfl (show (a : Int).toNat < 12 by first | exact oq_9c5fa447 hi.2.2.1 | omega) (by first | exact oq_a4f22177 g3010 | omega) (show (ka - 1) < 24 by first | exact oq_19cb6f5b hi.2.2.2.2.2 | omega) (by decide) (Or.inr ((htn _ (show (a : Int).toNat < 12 by first | exact oq_9c5fa447 hi.2.2.1 | (clear g3056 g3050 g3019 he3009; omega) | (clear g3050 g3019 he3009; omega) | omega) (show (((a : Int).toNat : Nat) : Int) < iI s 90 by first | exact oq_084ea114 hi.2.1 hi.1 | (clear g3056 g3050 g3019 he3009; omega) | (clear g3050 g3019 he3009; omega) | omega)).2.2.2 _ (show ((((ka - 1) : Int).toNat : Nat) : Int) < iC s 202 (a : Int).toNat by first | exact oq_c5d6b6e3 g3056 q3055 b3054.1 g3050 g3019 q3018 b3017.2 b3015.2 b3015.1 | (clear g3056 g3050 g3019 he3009; omega) | (clear g3050 g3019 he3009; omega) | omega))) ?_)))))))
                        have b3060 : (0 : Int) ≤ (iC s3049 (204 + (a : Int).toNat) ((ka - 1) : Int).toNat) ∧ (iC s3049 (204 + (a : Int).toNat) ((ka - 1) : Int).toNat) ≤ 127 := rw_bd rw_230 Is3049 (show (a : Int).toNat < 12 by first | exact oq_9c5fa447 hi.2.2.1 | omega) (show ((ka - 1) : Int).toNat < 24 by first | exact oq_f976b25c hi.2.2.2.2.2 | omega)
                        refine d_lift (fun k ws X h => z_load X (x := (iC t (204 + (a : Int).toNat) (ka : Int).toNat)) rfl (List.Mem.tail _ (List.Mem.tail _ (List.Mem.head _))) h) (d_callT (As := [.int (Int32.ofInt (iC s3049 (204 + (a : Int).toNat) ((ka - 1) : Int).toNat)), .int (Int32.ofInt (iC t (204 + (a : Int).toNat) (ka : Int).toNat))]) (st := []) rfl rfl (d_stepOf (T := TU T 161 7) G Is3049 (by first | exact ⟨b3060.1, b3060.2⟩ | omega) (by first | exact ⟨b3007.1, b3007.2⟩ | omega) (fun q h => hti q ((by decide : ∀ q ∈ ([] : List Nat), q ∈ ([90, 89] : List Nat)) q h)) (fun a h => hta3001 a ((by decide : ∀ q ∈ ([] : List Nat), q ∈ ([161, 230] : List Nat)) a h))) ⟨rfl, rfl⟩ ⟨(show 6 + 1 ≤ 8 from oq_42eed11c), (show 8 + (mNL (miB 225) + 11) + 100 ≤ 143 from oq_e99eeac0)⟩ (Nat.le_of_ble_eq_true rfl) (by decide) (by decide) (fun ee s3061 hq => ?_) (fun vv s3061 hq => ?_))
                        · obtain ⟨Is3061, Fs3061, e3062, hv, hrs3061, hps3061⟩ := hq; cases hv
                        obtain ⟨Is3061, Fs3061, e3062, hv, hrs3061, hps3061⟩ := hq
                        cases hv
                        have Gs3061 := fm_tq Fs3049 Fs3061 rfl rfl
                        have JNW_s3061 : NW s3061 := NW_fm Fs3061 (by decide) JNW_s3049
                        show DS l s0 D A dT 227 (rmN 227) [] [161] (TU T 161 7) Q (TU T 161 7) 153 [(5, .int (Int32.ofInt (iC t 230 ((iC t (204 + (a : Int).toNat) ((ka - 1) : Int).toNat)).toNat))), (2, .int (Int32.ofInt e3009)), (4, .int (Int32.ofInt (iC t (204 + (a : Int).toNat) (ka : Int).toNat))), (0, .ref (A 179)), (1, .int (Int32.ofInt a)), (3, .int (Int32.ofInt ka))] [.int (Int32.ofInt e3062)] s3061
                        refine d_lift (fun k ws X h => z_const X rfl h) (d_br (bo_le _ _) bx_le (fun k ws X h1 h2 => z_icmp_le X (t := 172) rfl (by decide) hrs3061 (by decide) h1 h2) (fun g3063 => ?_) (fun g3063 => ?_))
                        ·
                          as_aux_lemma =>
                           refine d_lift (fun k ws X h => z_load_n X (x := a) rfl (List.Mem.tail _ (List.Mem.tail _ (List.Mem.tail _ (List.Mem.tail _ (List.Mem.head _))))) h) (d_lift (fun k ws X h => z_const X rfl h) (d_lift (fun k ws X h => z_add X rfl h) (d_lift (fun k ws X h => z_store X (lv' := [(5, .int (Int32.ofInt (a + 1))), (2, .int (Int32.ofInt e3009)), (4, .int (Int32.ofInt (iC t (204 + (a : Int).toNat) (ka : Int).toNat))), (0, .ref (A 179)), (1, .int (Int32.ofInt a)), (3, .int (Int32.ofInt ka))]) rfl (by decide) (fun _ h => h) h) (d_lvs (lv := [(0, .ref (A 179)), (1, .int (Int32.ofInt a)), (2, .int (Int32.ofInt e3009)), (3, .int (Int32.ofInt ka)), (4, .int (Int32.ofInt (iC t (204 + (a : Int).toNat) (ka : Int).toNat))), (5, .int (Int32.ofInt (a + 1)))]) (List.forall_mem_cons.mpr ⟨(List.Mem.tail _ (List.Mem.tail _ (List.Mem.tail _ (List.Mem.head _)))), (List.forall_mem_cons.mpr ⟨(List.Mem.tail _ (List.Mem.tail _ (List.Mem.tail _ (List.Mem.tail _ (List.Mem.head _))))), (List.forall_mem_cons.mpr ⟨(List.Mem.tail _ (List.Mem.head _)), (List.forall_mem_cons.mpr ⟨(List.Mem.tail _ (List.Mem.tail _ (List.Mem.tail _ (List.Mem.tail _ (List.Mem.tail _ (List.Mem.head _)))))), (List.forall_mem_cons.mpr ⟨(List.Mem.tail _ (List.Mem.tail _ (List.Mem.head _))), (List.forall_mem_cons.mpr ⟨(List.Mem.head _), (fun q h => absurd h List.not_mem_nil)⟩)⟩)⟩)⟩)⟩)⟩) (L177 ((12 - (a + 1) : Int).toNat + 1) s3061 a e3009 ka (iC t (204 + (a : Int).toNat) (ka : Int).toNat) (a + 1) Is3061 Gs3061 JNW_s3061 (by first | exact ⟨hi.1, hi.2.1, hi.2.2.1, oq_f288f23a g3056 q3055 b3054.1 g3050 g3019 q3018 b3017.2 b3015.2 b3015.1, hi.2.2.2.2.1, oq_095218f7 q3004 g3006, oq_10212474 g3006 b3002.2, b3007.1, b3007.2, oq_b15b052d hi.1, oq_51d1204d hi.2.2.1⟩ | omega) (Nat.lt_succ_self _) ?_)))))
                           intro s3064 x3065 Is3064 Fs3064 JNW_s3064 hs3064
                           have hta3066 : ∀ a ∈ ([161, 230] : List Nat), ∀ j, j < (bA a).2.2 → (TU T 161 7).2 a j := hta_g hta (by decide)
                           refine d_lift (fun k ws X h => z_inc X (x := ka) (lv' := [(3, .int (Int32.ofInt (ka + 1))), (0, .ref (A 179)), (1, .int (Int32.ofInt a)), (2, .int (Int32.ofInt e3009)), (4, .int (Int32.ofInt (iC t (204 + (a : Int).toNat) (ka : Int).toNat))), (5, .int (Int32.ofInt x3065))]) rfl (by decide) (List.Mem.tail _ (List.Mem.tail _ (List.Mem.tail _ (List.Mem.head _)))) (fun _ h => h) h) (d_lift (fun k ws X h => z_goto X (t := 35) rfl (by decide) h) (d_lvs (lv := [(0, .ref (A 179)), (1, .int (Int32.ofInt a)), (2, .int (Int32.ofInt e3009)), (3, .int (Int32.ofInt (ka + 1)))]) (List.forall_mem_cons.mpr ⟨(List.Mem.tail _ (List.Mem.head _)), (List.forall_mem_cons.mpr ⟨(List.Mem.tail _ (List.Mem.tail _ (List.Mem.head _))), (List.forall_mem_cons.mpr ⟨(List.Mem.tail _ (List.Mem.tail _ (List.Mem.tail _ (List.Mem.head _)))), (List.forall_mem_cons.mpr ⟨(List.Mem.head _), (fun q h => absurd h List.not_mem_nil)⟩)⟩)⟩)⟩) ?_))
                           exact ih _ a e3009 (ka + 1) Is3064 Fs3064 JNW_s3064 (by first | exact ⟨hs3064.1, hs3064.2.1, hs3064.2.2.1, hs3064.2.2.2.1, oq_54f49eb5 hs3064.2.2.2.2.1, oq_3d4d89a6 hs3064.2.2.2.2.2.2.1⟩ | omega) (by first | exact qk_me hm (by decide) (oq_fa9b5cb9 hs3064.2.2.2.2.2.2.1) | exact oq_2439605e hs3064.2.2.2.2.2.2.1 hm | omega) kx
                        ·
                          as_aux_lemma =>
                           refine d_lift (fun k ws X h => z_aload_n X (x := A 179) rfl (List.Mem.tail _ (List.Mem.tail _ (List.Mem.tail _ (List.Mem.head _)))) h) (d_liftS (fun k s X h => s_getR X 179 rfl (by decide) rfl rfl h) (d_lift (fun k ws X h => z_const X rfl h) (d_lift (fun k ws X h => w_dup2_11 X.1 (ax_d X (show cdA 227 162 = some (.dup2, 1, 0, 0, 0) from rfl)) rfl rfl h) (d_ald 184 rfl (by decide) rfl (by decide) (show 3 < 7 by decide) (by decide) (hta3001 161 (by decide) _ (show (3 : Int).toNat < 7 by first | exact oq_bea6b7ec | omega)) ?_))))
                           have b3067 := bc_161 Is3061 (show (3 : Int).toNat < 7 by first | exact oq_bea6b7ec | omega)
                           refine d_lift (fun k ws X h => z_aload_n X (x := A 179) rfl (List.Mem.tail _ (List.Mem.tail _ (List.Mem.tail _ (List.Mem.head _)))) h) (d_liftS (fun k s X h => s_getR X 179 rfl (by decide) rfl rfl h) (d_lift (fun k ws X h => z_load_n X (x := a) rfl (List.Mem.tail _ (List.Mem.tail _ (List.Mem.tail _ (List.Mem.tail _ (List.Mem.head _))))) h) (d_ald 229 rfl (by decide) rfl (by first | exact hi.1 | omega) (show a < 12 by first | exact oq_0ddfcfee hi.2.2.1 | omega) (by decide) (Or.inr ((htn _ (show (a : Int).toNat < 12 by first | exact oq_9c5fa447 hi.2.2.1 | (clear g3056 g3050 g3019 he3009; omega) | (clear g3050 g3019 he3009; omega) | omega) (show (((a : Int).toNat : Nat) : Int) < iI s 90 by first | exact oq_084ea114 hi.2.1 hi.1 | (clear g3056 g3050 g3019 he3009; omega) | (clear g3050 g3019 he3009; omega) | omega)).2.1)) ?_)))
                           have b3068 := bc_203 Is3061 (show (a).toNat < 12 by first | exact oq_9c5fa447 hi.2.2.1 | omega)
                           have q3069 : iC s3061 203 (a).toNat = iC s 203 (a).toNat := fm_c Gs3061 (by decide)
                           refine d_lift (fun k ws X h => z_add X rfl h) (d_any (fun y3070 hy3070 => ?_))
                           refine d_ast 184 rfl (by decide) rfl (by decide) (show 3 < 7 by decide) (by decide) (show 161 ∈ _ by decide) (show ((-2147483648) : Int) ≤ y3070 ∧ y3070 ≤ 2147483647 by first | exact ⟨hy3070.1, hy3070.2⟩ | omega) hy3070 (d_mono (T' := TU T 161 7) (fun _ h => h) (fun _ _ h => Or.inr h) (ds_gen (fun s3071 hs3071 => ?_)))
                           have Is3071 : Bd s3071 := eqB hs3071 (bd_C Is3061 (show ((-2147483648) : Int) ≤ y3070 ∧ y3070 ≤ 2147483647 by first | exact ⟨hy3070.1, hy3070.2⟩ | omega) hy3070)
                           have Fs3071 := eqF hs3071 (fm_C Gs3061 (inl_ok (a := 161) rfl))
                           have fs3071 : Fm [] [161] s3061 s3071 := by rw [hs3071]; exact fm_C (fm_rf _ _ _) (show 161 ∈ _ by decide)
                           have JNW_s3071 : NW s3071 := NW_fm fs3071 (by decide) JNW_s3061
                           refine d_lift (fun k ws X h => z_load_n X (x := a) rfl (List.Mem.tail _ (List.Mem.tail _ (List.Mem.tail _ (List.Mem.tail _ (List.Mem.head _))))) h) (d_lift (fun k ws X h => z_const X rfl h) (d_lift (fun k ws X h => z_add X rfl h) (d_lift (fun k ws X h => z_store X (lv' := [(5, .int (Int32.ofInt (a + 1))), (2, .int (Int32.ofInt e3009)), (4, .int (Int32.ofInt (iC t (204 + (a : Int).toNat) (ka : Int).toNat))), (0, .ref (A 179)), (1, .int (Int32.ofInt a)), (3, .int (Int32.ofInt ka))]) rfl (by decide) (fun _ h => h) h) (d_lvs (lv := [(0, .ref (A 179)), (1, .int (Int32.ofInt a)), (2, .int (Int32.ofInt e3009)), (3, .int (Int32.ofInt ka)), (4, .int (Int32.ofInt (iC t (204 + (a : Int).toNat) (ka : Int).toNat))), (5, .int (Int32.ofInt (a + 1)))]) (List.forall_mem_cons.mpr ⟨(List.Mem.tail _ (List.Mem.tail _ (List.Mem.tail _ (List.Mem.head _)))), (List.forall_mem_cons.mpr ⟨(List.Mem.tail _ (List.Mem.tail _ (List.Mem.tail _ (List.Mem.tail _ (List.Mem.head _))))), (List.forall_mem_cons.mpr ⟨(List.Mem.tail _ (List.Mem.head _)), (List.forall_mem_cons.mpr ⟨(List.Mem.tail _ (List.Mem.tail _ (List.Mem.tail _ (List.Mem.tail _ (List.Mem.tail _ (List.Mem.head _)))))), (List.forall_mem_cons.mpr ⟨(List.Mem.tail _ (List.Mem.tail _ (List.Mem.head _))), (List.forall_mem_cons.mpr ⟨(List.Mem.head _), (fun q h => absurd h List.not_mem_nil)⟩)⟩)⟩)⟩)⟩)⟩) (L177 ((12 - (a + 1) : Int).toNat + 1) s3071 a e3009 ka (iC t (204 + (a : Int).toNat) (ka : Int).toNat) (a + 1) Is3071 Fs3071 JNW_s3071 (by first | exact ⟨hi.1, hi.2.1, hi.2.2.1, oq_f288f23a g3056 q3055 b3054.1 g3050 g3019 q3018 b3017.2 b3015.2 b3015.1, hi.2.2.2.2.1, oq_095218f7 q3004 g3006, oq_10212474 g3006 b3002.2, b3007.1, b3007.2, oq_b15b052d hi.1, oq_51d1204d hi.2.2.1⟩ | omega) (Nat.lt_succ_self _) ?_)))))
                           intro s3072 x3073 Is3072 Fs3072 JNW_s3072 hs3072
                           have hta3074 : ∀ a ∈ ([161, 230] : List Nat), ∀ j, j < (bA a).2.2 → (TU T 161 7).2 a j := hta_g hta (by decide)
                           refine d_lift (fun k ws X h => z_inc X (x := ka) (lv' := [(3, .int (Int32.ofInt (ka + 1))), (0, .ref (A 179)), (1, .int (Int32.ofInt a)), (2, .int (Int32.ofInt e3009)), (4, .int (Int32.ofInt (iC t (204 + (a : Int).toNat) (ka : Int).toNat))), (5, .int (Int32.ofInt x3073))]) rfl (by decide) (List.Mem.tail _ (List.Mem.tail _ (List.Mem.tail _ (List.Mem.head _)))) (fun _ h => h) h) (d_lift (fun k ws X h => z_goto X (t := 35) rfl (by decide) h) (d_lvs (lv := [(0, .ref (A 179)), (1, .int (Int32.ofInt a)), (2, .int (Int32.ofInt e3009)), (3, .int (Int32.ofInt (ka + 1)))]) (List.forall_mem_cons.mpr ⟨(List.Mem.tail _ (List.Mem.head _)), (List.forall_mem_cons.mpr ⟨(List.Mem.tail _ (List.Mem.tail _ (List.Mem.head _))), (List.forall_mem_cons.mpr ⟨(List.Mem.tail _ (List.Mem.tail _ (List.Mem.tail _ (List.Mem.head _)))), (List.forall_mem_cons.mpr ⟨(List.Mem.head _), (fun q h => absurd h List.not_mem_nil)⟩)⟩)⟩)⟩) ?_))
                           exact ih _ a e3009 (ka + 1) Is3072 Fs3072 JNW_s3072 (by first | exact ⟨hs3072.1, hs3072.2.1, hs3072.2.2.1, hs3072.2.2.2.1, oq_54f49eb5 hs3072.2.2.2.2.1, oq_3d4d89a6 hs3072.2.2.2.2.2.2.1⟩ | omega) (by first | exact qk_me hm (by decide) (oq_fa9b5cb9 hs3072.2.2.2.2.2.2.1) | exact oq_2439605e hs3072.2.2.2.2.2.2.1 hm | omega) kx
         refine d_br (bo_ne _ _) bx_ne (fun k ws X h1 h2 => z_if_ne X (t := 69) rfl (by decide) ⟨by first | exact oq_bde653e9 hi.2.2.2.1 | omega, by first | exact oq_4ad2cb8b hi.2.2.2.1 | omega⟩ h1 h2) (fun g3075 => ?_) (fun g3075 => ?_)
         ·
           exact d_lift (fun k ws X h => z_const X rfl h) (d_lift (fun k ws X h => z_goto X (t := 74) rfl (by decide) h) (N3008 _ (Or.inl ⟨g3075, rfl⟩)))
         ·
           refine d_lift (fun k ws X h => z_aload_n X (x := A 179) rfl (List.Mem.tail _ (List.Mem.head _)) h) (d_liftS (fun k s X h => s_getR X 179 rfl (by decide) rfl rfl h) (d_lift (fun k ws X h => z_load X (x := (iC t (204 + (a : Int).toNat) (ka : Int).toNat)) rfl (List.Mem.head _) h) (d_zald 258 rfl (by decide) rfl (by first | exact b3007.1 | omega) (show (iC t (204 + (a : Int).toNat) (ka : Int).toNat) < 128 by first | exact oq_31b2bf10 b3007.2 | omega) (by decide) (hta3001 230 (by decide) _ (show ((iC t (204 + (a : Int).toNat) (ka : Int).toNat)).toNat < 128 by first | exact oq_c7f4e9c1 b3007.2 | omega)) ?_)))
           have b3076 := bc_230 I (show ((iC t (204 + (a : Int).toNat) (ka : Int).toNat)).toNat < 128 by first | exact oq_c7f4e9c1 b3007.2 | omega)
           have q3077 : iC t 230 ((iC t (204 + (a : Int).toNat) (ka : Int).toNat)).toNat = iC s 230 ((iC t (204 + (a : Int).toNat) (ka : Int).toNat)).toNat := fm_c F (by decide)
           refine d_br (bo_eq _ _) bx_eq (fun k ws X h1 h2 => z_if_eq X (t := 73) rfl (by decide) (rng_to _) h1 h2) (fun g3078 => ?_) (fun g3078 => ?_)
           ·
             exact d_lift (fun k ws X h => z_const X rfl h) (N3008 _ (Or.inr (Or.inl ⟨g3075, b3076, q3077, g3078, rfl⟩)))
           ·
             exact d_lift (fun k ws X h => z_const X rfl h) (d_lift (fun k ws X h => z_goto X (t := 74) rfl (by decide) h) (N3008 _ (Or.inr (Or.inr (⟨g3075, b3076, q3077, g3078, rfl⟩)))))
  have L23 : ∀ (n : Nat) (t : PS) (a : Int), Bd t → Fm [] [161] s t → NW t → (0 ≤ a ∧ a ≤ 12) → (12 - a : Int).toNat < n → (∀ (t' : PS) (a' : Int), Bd t' → Fm [] [161] s t' → NW t' → (0 ≤ a' ∧ a' ≤ 12) → DS l s0 D A dT 227 (rmN 227) [] [161] (TU T 161 7) Q (TU T 161 7) 313 [(0, .ref (A 179)), (1, .int (Int32.ofInt a'))] [] t') → DS l s0 D A dT 227 (rmN 227) [] [161] (TU T 161 7) Q (TU T 161 7) 23 [(0, .ref (A 179)), (1, .int (Int32.ofInt a))] [] t := by
    as_aux_lemma =>
     intro n
     induction n with
     | zero =>
       intro t a I F jjNW hi hm kx
       exact absurd hm (Nat.not_lt_zero _)
     | succ n ih =>
       intro t a I F jjNW hi hm kx
       have hta4001 : ∀ a ∈ ([161, 230] : List Nat), ∀ j, j < (bA a).2.2 → (TU T 161 7).2 a j := hta_g hta (by decide)
       refine d_lift (fun k ws X h => z_load_n X (x := a) rfl (List.Mem.tail _ (List.Mem.head _)) h) (d_lift (fun k ws X h => z_aload_n X (x := A 179) rfl (List.Mem.head _) h) (d_getI 179 rfl (by decide) rfl rfl (hti 90 (by decide)) ?_))
       have b4002 := bi_90 I
       have q4003 : iI t 90 = iI s 90 := fm_iq F rfl
       refine d_br (bo_ge _ _) bx_ge (fun k ws X h1 h2 => z_icmp_ge X (t := 313) rfl (by decide) ⟨by first | exact oq_fa4e5087 hi.1 | omega, by first | exact oq_78843a64 hi.2 | omega⟩ (rng_to _) h1 h2) (fun g4004 => ?_) (fun g4004 => ?_)
       ·
         refine d_lvs (lv := [(0, .ref (A 179)), (1, .int (Int32.ofInt a))]) (List.forall_mem_cons.mpr ⟨(List.Mem.head _), (List.forall_mem_cons.mpr ⟨(List.Mem.tail _ (List.Mem.head _)), (fun q h => absurd h List.not_mem_nil)⟩)⟩) ?_
         exact kx _ a I F jjNW (by first | exact ⟨hi.1, hi.2⟩ | omega)
       ·
         refine d_lift (fun k ws X h => z_const X rfl h) (d_lift (fun k ws X h => z_store_n X (lv' := [(2, .int (Int32.ofInt 0)), (0, .ref (A 179)), (1, .int (Int32.ofInt a))]) rfl (by decide) (fun _ h => h) h) (d_lift (fun k ws X h => z_const X rfl h) (d_lift (fun k ws X h => z_store_n X (lv' := [(3, .int (Int32.ofInt 0)), (2, .int (Int32.ofInt 0)), (0, .ref (A 179)), (1, .int (Int32.ofInt a))]) rfl (by decide) (fun _ h => h) h) (d_lvs (lv := [(0, .ref (A 179)), (1, .int (Int32.ofInt a)), (2, .int (Int32.ofInt 0)), (3, .int (Int32.ofInt 0))]) (List.forall_mem_cons.mpr ⟨(List.Mem.tail _ (List.Mem.tail _ (List.Mem.head _))), (List.forall_mem_cons.mpr ⟨(List.Mem.tail _ (List.Mem.tail _ (List.Mem.tail _ (List.Mem.head _)))), (List.forall_mem_cons.mpr ⟨(List.Mem.tail _ (List.Mem.head _)), (List.forall_mem_cons.mpr ⟨(List.Mem.head _), (fun q h => absurd h List.not_mem_nil)⟩)⟩)⟩)⟩) (L35 ((24 - 0 : Int).toNat + 1) t a 0 0 I F jjNW (by first | exact ⟨hi.1, oq_095218f7 q4003 g4004, oq_e4d7f3c5 g4004 b4002.2, Or.inl (by decide), by decide, by decide⟩ | omega) (Nat.lt_succ_self _) ?_)))))
         intro s4005 x4006 x4007 Is4005 Fs4005 JNW_s4005 hs4005
         have hta4008 : ∀ a ∈ ([161, 230] : List Nat), ∀ j, j < (bA a).2.2 → (TU T 161 7).2 a j := hta_g hta (by decide)
         refine d_lift (fun k ws X h => z_aload_n X (x := A 179) rfl (List.Mem.head _) h) (d_liftS (fun k s X h => s_getR X 179 rfl (by decide) rfl rfl h) (d_lift (fun k ws X h => z_const X rfl h) (d_lift (fun k ws X h => w_dup2_11 X.1 (ax_d X (show cdA 227 289 = some (.dup2, 1, 0, 0, 0) from rfl)) rfl rfl h) (d_ald 184 rfl (by decide) rfl (by decide) (show 0 < 7 by decide) (by decide) (hta4008 161 (by decide) _ (show (0 : Int).toNat < 7 by first | exact oq_e8ec3fa8 | omega)) ?_))))
         have b4009 := bc_161 Is4005 (show (0 : Int).toNat < 7 by first | exact oq_e8ec3fa8 | omega)
         refine d_lift (fun k ws X h => z_load_n X (x := x4006) rfl (List.Mem.tail _ (List.Mem.tail _ (List.Mem.head _))) h) ?_
         have N4010 : ∀ e4011 : Int, (((x4006 = 0) ∧ e4011 = 0) ∨ ((x4006 ≠ 0) ∧ ((0 : Int) ≤ iC s4005 203 (a).toNat ∧ iC s4005 203 (a).toNat ≤ 50) ∧ (iC s4005 203 (a).toNat = iC s 203 (a).toNat) ∧ e4011 = (iC s4005 203 (a).toNat))) → DS l s0 D A dT 227 (rmN 227) [] [161] (TU T 161 7) Q (TU T 161 7) 305 [(0, .ref (A 179)), (1, .int (Int32.ofInt a)), (2, .int (Int32.ofInt x4006)), (3, .int (Int32.ofInt x4007))] [.int (Int32.ofInt e4011), .int (Int32.ofInt (iC s4005 161 (0 : Int).toNat)), .int (Int32.ofInt 0), .ref (A 184)] s4005 := by
           intro e4011 he4011
           refine d_lift (fun k ws X h => z_add X rfl h) (d_any (fun y4012 hy4012 => ?_))
           refine d_ast 184 rfl (by decide) rfl (by decide) (show 0 < 7 by decide) (by decide) (show 161 ∈ _ by decide) (show ((-2147483648) : Int) ≤ y4012 ∧ y4012 ≤ 2147483647 by first | exact ⟨hy4012.1, hy4012.2⟩ | omega) hy4012 (d_mono (T' := TU T 161 7) (fun _ h => h) (fun _ _ h => Or.inr h) (ds_gen (fun s4013 hs4013 => ?_)))
           have Is4013 : Bd s4013 := eqB hs4013 (bd_C Is4005 (show ((-2147483648) : Int) ≤ y4012 ∧ y4012 ≤ 2147483647 by first | exact ⟨hy4012.1, hy4012.2⟩ | omega) hy4012)
           have Fs4013 := eqF hs4013 (fm_C Fs4005 (inl_ok (a := 161) rfl))
           have fs4013 : Fm [] [161] s4005 s4013 := by rw [hs4013]; exact fm_C (fm_rf _ _ _) (show 161 ∈ _ by decide)
           have JNW_s4013 : NW s4013 := NW_fm fs4013 (by decide) JNW_s4005
           refine d_lift (fun k ws X h => z_inc X (x := a) (lv' := [(1, .int (Int32.ofInt (a + 1))), (0, .ref (A 179)), (2, .int (Int32.ofInt x4006)), (3, .int (Int32.ofInt x4007))]) rfl (by decide) (List.Mem.tail _ (List.Mem.head _)) (fun _ h => h) h) (d_lift (fun k ws X h => z_goto X (t := 23) rfl (by decide) h) (d_lvs (lv := [(0, .ref (A 179)), (1, .int (Int32.ofInt (a + 1)))]) (List.forall_mem_cons.mpr ⟨(List.Mem.tail _ (List.Mem.head _)), (List.forall_mem_cons.mpr ⟨(List.Mem.head _), (fun q h => absurd h List.not_mem_nil)⟩)⟩) ?_))
           exact ih _ (a + 1) Is4013 Fs4013 JNW_s4013 (by first | exact ⟨oq_54f49eb5 hs4005.1, oq_51d1204d hs4005.2.2.1⟩ | omega) (by first | exact qk_me hm (by decide) (oq_8b937940 hs4005.2.2.1) | exact oq_69695eb5 hs4005.2.2.1 hm | omega) kx
         refine d_br (bo_eq _ _) bx_eq (fun k ws X h1 h2 => z_if_eq X (t := 304) rfl (by decide) ⟨by first | exact oq_bde653e9 hs4005.2.2.2.1 | omega, by first | exact oq_4ad2cb8b hs4005.2.2.2.1 | omega⟩ h1 h2) (fun g4014 => ?_) (fun g4014 => ?_)
         ·
           exact d_lift (fun k ws X h => z_const X rfl h) (N4010 _ (Or.inl ⟨g4014, rfl⟩))
         ·
           refine d_lift (fun k ws X h => z_aload_n X (x := A 179) rfl (List.Mem.head _) h) (d_liftS (fun k s X h => s_getR X 179 rfl (by decide) rfl rfl h) (d_lift (fun k ws X h => z_load_n X (x := a) rfl (List.Mem.tail _ (List.Mem.head _)) h) (d_ald 229 rfl (by decide) rfl (by first | exact hs4005.1 | omega) (show a < 12 by first | exact oq_0ddfcfee hs4005.2.2.1 | omega) (by decide) (Or.inr ((htn _ (show (a : Int).toNat < 12 by first | exact oq_9c5fa447 hs4005.2.2.1 | (clear g4014; omega) | omega) (show (((a : Int).toNat : Nat) : Int) < iI s 90 by first | exact oq_084ea114 hs4005.2.1 hs4005.1 | (clear g4014; omega) | omega)).2.1)) ?_)))
           have b4015 := bc_203 Is4005 (show (a).toNat < 12 by first | exact oq_9c5fa447 hs4005.2.2.1 | omega)
           have q4016 : iC s4005 203 (a).toNat = iC s 203 (a).toNat := fm_c Fs4005 (by decide)
           exact d_lift (fun k ws X h => z_goto X (t := 305) rfl (by decide) h) (N4010 _ (Or.inr (⟨g4014, b4015, q4016, rfl⟩)))
  have L315 : ∀ (n : Nat) (t : PS) (a : Int), Bd t → Fm [] [161] s t → NW t → (0 ≤ a ∧ a ≤ 128) → (128 - a : Int).toNat < n → (∀ (t' : PS) (a' : Int), Bd t' → Fm [] [161] s t' → NW t' → (0 ≤ a' ∧ a' ≤ 128) → DS l s0 D A dT 227 (rmN 227) [] [161] (TU T 161 7) Q (TU T 161 7) 370 [(0, .ref (A 179)), (1, .int (Int32.ofInt a'))] [] t') → DS l s0 D A dT 227 (rmN 227) [] [161] (TU T 161 7) Q (TU T 161 7) 315 [(0, .ref (A 179)), (1, .int (Int32.ofInt a))] [] t := by
    as_aux_lemma =>
     intro n
     induction n with
     | zero =>
       intro t a I F jjNW hi hm kx
       exact absurd hm (Nat.not_lt_zero _)
     | succ n ih =>
       intro t a I F jjNW hi hm kx
       have hta5001 : ∀ a ∈ ([161, 230] : List Nat), ∀ j, j < (bA a).2.2 → (TU T 161 7).2 a j := hta_g hta (by decide)
       refine d_lift (fun k ws X h => z_load_n X (x := a) rfl (List.Mem.tail _ (List.Mem.head _)) h) (d_lift (fun k ws X h => z_sipush X rfl h) (d_br (bo_ge _ _) bx_ge (fun k ws X h1 h2 => z_icmp_ge X (t := 370) rfl (by decide) ⟨by first | exact oq_fa4e5087 hi.1 | omega, by first | exact oq_4ee82282 hi.2 | omega⟩ (by decide) h1 h2) (fun g5002 => ?_) (fun g5002 => ?_)))
       ·
         refine d_lvs (lv := [(0, .ref (A 179)), (1, .int (Int32.ofInt a))]) (List.forall_mem_cons.mpr ⟨(List.Mem.head _), (List.forall_mem_cons.mpr ⟨(List.Mem.tail _ (List.Mem.head _)), (fun q h => absurd h List.not_mem_nil)⟩)⟩) ?_
         exact kx _ a I F jjNW (by first | exact ⟨hi.1, hi.2⟩ | omega)
       ·
         refine d_lift (fun k ws X h => z_aload_n X (x := A 179) rfl (List.Mem.head _) h) (d_liftS (fun k s X h => s_getR X 179 rfl (by decide) rfl rfl h) (d_lift (fun k ws X h => z_load_n X (x := a) rfl (List.Mem.tail _ (List.Mem.head _)) h) (d_zald 258 rfl (by decide) rfl (by first | exact hi.1 | omega) (show a < 128 by first | exact g5002 | omega) (by decide) (hta5001 230 (by decide) _ (show (a).toNat < 128 by first | exact oq_afb89947 g5002 | omega)) ?_)))
         have b5003 := bc_230 I (show (a).toNat < 128 by first | exact oq_afb89947 g5002 | omega)
         have q5004 : iC t 230 (a).toNat = iC s 230 (a).toNat := fm_c F (by decide)
         refine d_br (bo_ne _ _) bx_ne (fun k ws X h1 h2 => z_if_ne X (t := 334) rfl (by decide) (rng_to _) h1 h2) (fun g5005 => ?_) (fun g5005 => ?_)
         ·
           refine d_lift (fun k ws X h => z_aload_n X (x := A 179) rfl (List.Mem.head _) h) (d_liftS (fun k s X h => s_getR X 179 rfl (by decide) rfl rfl h) (d_lift (fun k ws X h => z_const X rfl h) (d_lift (fun k ws X h => w_dup2_11 X.1 (ax_d X (show cdA 227 339 = some (.dup2, 1, 0, 0, 0) from rfl)) rfl rfl h) (d_ald 184 rfl (by decide) rfl (by decide) (show 4 < 7 by decide) (by decide) (hta5001 161 (by decide) _ (show (4 : Int).toNat < 7 by first | exact oq_5d2a5fd4 | omega)) ?_))))
           have b5006 := bc_161 I (show (4 : Int).toNat < 7 by first | exact oq_5d2a5fd4 | omega)
           refine d_lift (fun k ws X h => z_const X rfl h) (d_lift (fun k ws X h => z_add X rfl h) (d_any (fun y5007 hy5007 => ?_)))
           refine d_ast 184 rfl (by decide) rfl (by decide) (show 4 < 7 by decide) (by decide) (show 161 ∈ _ by decide) (show ((-2147483648) : Int) ≤ y5007 ∧ y5007 ≤ 2147483647 by first | exact ⟨hy5007.1, hy5007.2⟩ | omega) hy5007 (d_mono (T' := TU T 161 7) (fun _ h => h) (fun _ _ h => Or.inr h) (ds_gen (fun s5008 hs5008 => ?_)))
           have Is5008 : Bd s5008 := eqB hs5008 (bd_C I (show ((-2147483648) : Int) ≤ y5007 ∧ y5007 ≤ 2147483647 by first | exact ⟨hy5007.1, hy5007.2⟩ | omega) hy5007)
           have Fs5008 := eqF hs5008 (fm_C F (inl_ok (a := 161) rfl))
           have fs5008 : Fm [] [161] t s5008 := by rw [hs5008]; exact fm_C (fm_rf _ _ _) (show 161 ∈ _ by decide)
           have JNW_s5008 : NW s5008 := NW_fm fs5008 (by decide) jjNW
           refine d_lift (fun k ws X h => z_aload_n X (x := A 179) rfl (List.Mem.head _) h) (d_liftS (fun k s X h => s_getR X 179 rfl (by decide) rfl rfl h) (d_lift (fun k ws X h => z_const X rfl h) (d_lift (fun k ws X h => w_dup2_11 X.1 (ax_d X (show cdA 227 349 = some (.dup2, 1, 0, 0, 0) from rfl)) rfl rfl h) (d_ald 184 rfl (by decide) rfl (by decide) (show 5 < 7 by decide) (by decide) (hta5001 161 (by decide) _ (show (5 : Int).toNat < 7 by first | exact oq_2191f643 | omega)) ?_))))
           have b5009 := bc_161 Is5008 (show (5 : Int).toNat < 7 by first | exact oq_2191f643 | omega)
           refine d_lift (fun k ws X h => z_load_n X (x := a) rfl (List.Mem.tail _ (List.Mem.head _)) h) (d_lift (fun k ws X h => z_bipush X rfl h) ?_)
           have N5010 : ∀ e5011 : Int, (((64 ≤ a) ∧ e5011 = 0) ∨ ((a < 64) ∧ e5011 = 1)) → DS l s0 D A dT 227 (rmN 227) [] [161] (TU T 161 7) Q (TU T 161 7) 362 [(0, .ref (A 179)), (1, .int (Int32.ofInt a))] [.int (Int32.ofInt e5011), .int (Int32.ofInt (iC s5008 161 (5 : Int).toNat)), .int (Int32.ofInt 5), .ref (A 184)] s5008 := by
             intro e5011 he5011
             have re5011 : 0 ≤ e5011 ∧ e5011 ≤ 1 := by first | exact And.intro (oq_abe3ff5f he5011) (oq_d1eb689d he5011) | (clear he5011 g5005; omega) | (clear g5005; omega) | omega
             refine d_lift (fun k ws X h => z_add X rfl h) (d_any (fun y5012 hy5012 => ?_))
             refine d_ast 184 rfl (by decide) rfl (by decide) (show 5 < 7 by decide) (by decide) (show 161 ∈ _ by decide) (show ((-2147483648) : Int) ≤ y5012 ∧ y5012 ≤ 2147483647 by first | exact ⟨hy5012.1, hy5012.2⟩ | omega) hy5012 (d_mono (T' := TU T 161 7) (fun _ h => h) (fun _ _ h => Or.inr h) (ds_gen (fun s5013 hs5013 => ?_)))
             have Is5013 : Bd s5013 := eqB hs5013 (bd_C Is5008 (show ((-2147483648) : Int) ≤ y5012 ∧ y5012 ≤ 2147483647 by first | exact ⟨hy5012.1, hy5012.2⟩ | omega) hy5012)
             have Fs5013 := eqF hs5013 (fm_C Fs5008 (inl_ok (a := 161) rfl))
             have fs5013 : Fm [] [161] s5008 s5013 := by rw [hs5013]; exact fm_C (fm_rf _ _ _) (show 161 ∈ _ by decide)
             have JNW_s5013 : NW s5013 := NW_fm fs5013 (by decide) JNW_s5008
             refine d_lift (fun k ws X h => z_inc X (x := a) (lv' := [(1, .int (Int32.ofInt (a + 1))), (0, .ref (A 179))]) rfl (by decide) (List.Mem.tail _ (List.Mem.head _)) (fun _ h => h) h) (d_lift (fun k ws X h => z_goto X (t := 315) rfl (by decide) h) (d_lvs (lv := [(0, .ref (A 179)), (1, .int (Int32.ofInt (a + 1)))]) (List.forall_mem_cons.mpr ⟨(List.Mem.tail _ (List.Mem.head _)), (List.forall_mem_cons.mpr ⟨(List.Mem.head _), (fun q h => absurd h List.not_mem_nil)⟩)⟩) ?_))
             exact ih _ (a + 1) Is5013 Fs5013 JNW_s5013 (by first | exact ⟨oq_54f49eb5 hi.1, oq_d2afb425 g5002⟩ | omega) (by first | exact qk_me hm (by decide) (oq_c268b7bd g5002) | exact oq_ca57f8b8 g5002 hm | omega) kx
           refine d_br (bo_ge _ _) bx_ge (fun k ws X h1 h2 => z_icmp_ge X (t := 361) rfl (by decide) ⟨by first | exact oq_fa4e5087 hi.1 | omega, by first | exact oq_fe95e6e4 g5002 | omega⟩ (by decide) h1 h2) (fun g5014 => ?_) (fun g5014 => ?_)
           ·
             exact d_lift (fun k ws X h => z_const X rfl h) (N5010 _ (Or.inl ⟨g5014, rfl⟩))
           ·
             exact d_lift (fun k ws X h => z_const X rfl h) (d_lift (fun k ws X h => z_goto X (t := 362) rfl (by decide) h) (N5010 _ (Or.inr (⟨g5014, rfl⟩))))
         ·
           refine d_lift (fun k ws X h => z_goto X (t := 364) rfl (by decide) h) (d_lift (fun k ws X h => z_inc X (x := a) (lv' := [(1, .int (Int32.ofInt (a + 1))), (0, .ref (A 179))]) rfl (by decide) (List.Mem.tail _ (List.Mem.head _)) (fun _ h => h) h) (d_lift (fun k ws X h => z_goto X (t := 315) rfl (by decide) h) (d_lvs (lv := [(0, .ref (A 179)), (1, .int (Int32.ofInt (a + 1)))]) (List.forall_mem_cons.mpr ⟨(List.Mem.tail _ (List.Mem.head _)), (List.forall_mem_cons.mpr ⟨(List.Mem.head _), (fun q h => absurd h List.not_mem_nil)⟩)⟩) ?_)))
           exact ih _ (a + 1) I F jjNW (by first | exact ⟨oq_54f49eb5 hi.1, oq_d2afb425 g5002⟩ | omega) (by first | exact qk_me hm (by decide) (oq_c268b7bd g5002) | exact oq_ca57f8b8 g5002 hm | omega) kx
  refine d_lift (fun k ws X h => z_const X rfl h) (d_lift (fun k ws X h => z_store_n X (lv' := [(1, .int (Int32.ofInt 0)), (0, .ref (A 179))]) rfl (by decide) (fun _ h => h) h) (d_lvs (lv := [(0, .ref (A 179)), (1, .int (Int32.ofInt 0))]) (List.forall_mem_cons.mpr ⟨(List.Mem.tail _ (List.Mem.head _)), (List.forall_mem_cons.mpr ⟨(List.Mem.head _), (fun q h => absurd h List.not_mem_nil)⟩)⟩) (d_mono (T' := TU T 161 0) (fun _ h => h) (TU_0 (by first | exact oq_0fe6b7e2 | omega)) (L2 ((7 - 0 : Int).toNat + 1) s 0 I F jNW (by first | exact ⟨by decide, by decide⟩ | omega) (Nat.lt_succ_self _) ?_))))
  intro s1 x2 Is1 Fs1 JNW_s1 hs1
  refine d_mono (T' := TU T 161 7) (fun _ h => h) (TU_le (by first | exact hs1 | omega)) ?_
  have hta3 : ∀ a ∈ ([161, 230] : List Nat), ∀ j, j < (bA a).2.2 → (TU T 161 7).2 a j := hta_g hta (by decide)
  refine d_lift (fun k ws X h => z_const X rfl h) (d_lift (fun k ws X h => z_store_n X (lv' := [(1, .int (Int32.ofInt 0)), (0, .ref (A 179))]) rfl (by decide) (fun _ h => h) h) (d_lvs (lv := [(0, .ref (A 179)), (1, .int (Int32.ofInt 0))]) (List.forall_mem_cons.mpr ⟨(List.Mem.tail _ (List.Mem.head _)), (List.forall_mem_cons.mpr ⟨(List.Mem.head _), (fun q h => absurd h List.not_mem_nil)⟩)⟩) (L23 ((12 - 0 : Int).toNat + 1) s1 0 Is1 Fs1 JNW_s1 (by first | exact ⟨by decide, by decide⟩ | omega) (Nat.lt_succ_self _) ?_)))
  intro s4 x5 Is4 Fs4 JNW_s4 hs4
  have hta6 : ∀ a ∈ ([161, 230] : List Nat), ∀ j, j < (bA a).2.2 → (TU T 161 7).2 a j := hta_g hta (by decide)
  refine d_lift (fun k ws X h => z_const X rfl h) (d_lift (fun k ws X h => z_store_n X (lv' := [(1, .int (Int32.ofInt 0)), (0, .ref (A 179))]) rfl (by decide) (fun _ h => h) h) (d_lvs (lv := [(0, .ref (A 179)), (1, .int (Int32.ofInt 0))]) (List.forall_mem_cons.mpr ⟨(List.Mem.tail _ (List.Mem.head _)), (List.forall_mem_cons.mpr ⟨(List.Mem.head _), (fun q h => absurd h List.not_mem_nil)⟩)⟩) (L315 ((128 - 0 : Int).toNat + 1) s4 0 Is4 Fs4 JNW_s4 (by first | exact ⟨by decide, by decide⟩ | omega) (Nat.lt_succ_self _) ?_)))
  intro s7 x8 Is7 Fs7 JNW_s7 hs7
  have hta9 : ∀ a ∈ ([161, 230] : List Nat), ∀ j, j < (bA a).2.2 → (TU T 161 7).2 a j := hta_g hta (by decide)
  refine d_lift (fun k ws X h => z_aload_n X (x := A 179) rfl (List.Mem.head _) h) (d_liftS (fun k s X h => s_getR X 179 rfl (by decide) rfl rfl h) (d_lift (fun k ws X h => z_bipush X rfl h) (d_lift (fun k ws X h => z_aload_n X (x := A 179) rfl (List.Mem.head _) h) (d_getI 179 rfl (by decide) rfl rfl (hti 89 (by decide)) ?_))))
  have b10 := bi_89 Is7
  have q11 : iI s7 89 = iI s 89 := fm_iq Fs7 rfl
  refine d_ast 184 rfl (by decide) rfl (by decide) (show 6 < 7 by decide) (by decide) (show 161 ∈ _ by decide) (show ((-2147483648) : Int) ≤ (iI s7 89) ∧ (iI s7 89) ≤ 2147483647 by first | exact ⟨oq_9462313e b10.1, oq_d3f5d874 b10.2⟩ | omega) (rng_to _) (d_mono (T' := TU T 161 7) (fun _ h => h) (fun _ _ h => Or.inr h) (ds_gen (fun s12 hs12 => ?_)))
  have Is12 : Bd s12 := eqB hs12 (bd_C Is7 (show ((-2147483648) : Int) ≤ (iI s7 89) ∧ (iI s7 89) ≤ 2147483647 by first | exact ⟨oq_9462313e b10.1, oq_d3f5d874 b10.2⟩ | omega) (rng_to _))
  have Fs12 := eqF hs12 (fm_C Fs7 (inl_ok (a := 161) rfl))
  have fs12 : Fm [] [161] s7 s12 := by rw [hs12]; exact fm_C (fm_rf _ _ _) (show 161 ∈ _ by decide)
  have JNW_s12 : NW s12 := NW_fm fs12 (by decide) JNW_s7
  exact d_vret rfl rfl (fun _ h => h) (hQ _ _ ⟨Is12, Fs12, JNW_s12, rfl, trivial⟩)
end M46
end
section
theorem oq_6dc9c1ba : 8 + 1 ≤ 36 := by omega
theorem oq_2fb84e7f : 8 + (7 + 11) + 143 ≤ 1558 := by omega
theorem oq_5234833b {a0 : Int} (h0 : (-1) ≤ a0) (h1 : a0 ≠ (-1)) : 0 ≤ a0 := by omega
theorem oq_8dae6a5a {a0 : Int} (h0 : a0 ≤ 200) : a0 ≤ 380 := by omega
theorem oq_779dfe24 : 6 + 1 ≤ 36 := by omega
theorem oq_f75bfad7 : 8 + (2 + 11) + 100 ≤ 1558 := by omega
theorem oq_cc309cab {a0 a1 : Int} (h0 : a0 = a1) (h1 : a1 ≤ 200) : a0 ≤ 203 := by omega
theorem oq_02fd7e00 {a0 : Int} (h0 : a0 = 0) (h1 : 0 ≤ a0) : (a0 + ((7 : Nat) : Int)) = 7 := by omega
theorem oq_0cce41ba {a0 a1 : Int} (h0 : a0 = 0) : (a0 = 7 → a1 ≠ 0) := by omega
theorem oq_1a74e779 : 35 + 1 ≤ 36 := by omega
theorem oq_4ce5ee6d : 8 + (4 + 11) + 1535 ≤ 1558 := by omega
theorem oq_a91cd906 : 6 + 1 ≤ 60 := by omega
theorem oq_0f53f063 : 8 + (2 + 11) + 100 ≤ 2637 := by omega
theorem oq_58fdd3cd {a0 a1 a2 : Int} (h0 : a0 = a1) (h1 : a1 ≤ 200) : (a2 = 0 → a0 ≤ 202) := by omega
theorem oq_ecbe5542 : 59 + 1 ≤ 60 := by omega
theorem oq_4dfcca1b : 8 + (3 + 11) + 2615 ≤ 2637 := by omega
/-! Determined: load, joins -/
section M47
variable {l : Launch} {s0 : State} {D : va_G} {tys : List (ClassId × FieldType)} {a0 : Array Value} {A : Nat → Nat} {dT : Nat → ClassId} {s : PS}
set_option maxHeartbeats 16000000 in
theorem d_load (G : GX l s0 D tys a0 dT) (I : Bd s) (jNW : NW s)  {T : TT} (hti : ∀ q ∈ ([90, 89, 85, 82] : List Nat), T.1 q) (hta : ∀ a ∈ ([230, 157, 158] : List Nat), ∀ j, j < (bA a).2.2 → T.2 a j) (htn : OKN T s) : CD l s0 D A dT 228 (rmN 228) [77, 75, 78, 79, 80, 81] [161] T (TU T 161 7) [.ref (A 179)] s (fun o t => Bd t ∧ Fm [77, 75, 78, 79, 80, 81] [161] s t ∧ NW t ∧ ∃ e, o = .inl (some (.int (Int32.ofInt e))) ∧ rng e ∧ (True)) := by
  refine cd_of G (by decide) (Nat.le_of_ble_eq_true rfl) (fun Q hQ => ?_)
  have I0 := I
  show DS l s0 D A dT 228 (rmN 228) [77, 75, 78, 79, 80, 81] [161] (TU T 161 7) Q (T) 0 [(0, .ref (A 179))] [] s
  have F : Fm [77, 75, 78, 79, 80, 81] [161] s s := fm_rf _ _ s
  have b1 := bi_77 I
  have b2 := bi_78 I
  have b3 := bi_79 I
  refine d_lift (fun k ws X h => z_aload_n X (x := A 179) rfl (List.Mem.head _) h) (d_callV 179 (As := []) (st := []) rfl rfl (by decide) rfl (d_listen G I jNW  (fun q h => hti q ((by decide : ∀ q ∈ ([90, 89] : List Nat), q ∈ ([90, 89, 85, 82] : List Nat)) q h)) (fun a h => hta a ((by decide : ∀ q ∈ ([230] : List Nat), q ∈ ([230, 157, 158] : List Nat)) a h)) (OKN_fm F (by decide) (OKN_mono htn (fun _ _ h => (h))))) ⟨rfl, rfl⟩ ⟨(show 8 + 1 ≤ 36 from oq_6dc9c1ba), (show 8 + (mNL (miB 227) + 11) + 143 ≤ 1558 from oq_2fb84e7f)⟩ (Nat.le_of_ble_eq_true rfl) (by decide) (by decide) (fun ee s4 hq => ?_) (fun vv s4 hq => ?_))
  · obtain ⟨Is4, Fs4, JNW_s4, hv, hps4⟩ := hq; cases hv
  obtain ⟨Is4, Fs4, JNW_s4, hv, hps4⟩ := hq
  cases hv
  have hta6 : ∀ a ∈ ([161, 230, 157, 158] : List Nat), ∀ j, j < (bA a).2.2 → (TU (T) 161 7).2 a j := hta_g hta (by decide)
  have Gs4 := fm_tq F Fs4 rfl rfl
  have JNW_s4 : NW s4 := NW_fm Fs4 (by decide) jNW
  have ws4_77 : iI s4 77 = iI s 77 := fm_iq Fs4 rfl
  have ws4_78 : iI s4 78 = iI s 78 := fm_iq Fs4 rfl
  have ws4_79 : iI s4 79 = iI s 79 := fm_iq Fs4 rfl
  show DS l s0 D A dT 228 (rmN 228) [77, 75, 78, 79, 80, 81] [161] (TU T 161 7) Q (TU (T) 161 7) 4 [(0, .ref (A 179))] [] s4
  refine d_lift (fun k ws X h => z_aload_n X (x := A 179) rfl (List.Mem.head _) h) (d_getI 179 rfl (by decide) rfl rfl (hti 85 (by decide)) ?_)
  have b7 := bi_85 Is4
  have q8 : iI s4 85 = iI s 85 := fm_iq Gs4 rfl
  refine d_lift (fun k ws X h => z_const X rfl h) (d_br (bo_ne _ _) bx_ne (fun k ws X h1 h2 => z_icmp_ne X (t := 35) rfl (by decide) (rng_to _) (by decide) h1 h2) (fun g9 => ?_) (fun g9 => ?_))
  ·
    refine d_lift (fun k ws X h => z_aload_n X (x := A 179) rfl (List.Mem.head _) h) (d_lift (fun k ws X h => z_aload_n X (x := A 179) rfl (List.Mem.head _) h) (d_getI 179 rfl (by decide) rfl rfl (hti 85 (by decide)) ?_))
    have b10 := bi_85 Is4
    have q11 : iI s4 85 = iI s 85 := fm_iq Gs4 rfl
    refine d_callV 179 (As := [.int (Int32.ofInt (iI s4 85))]) (st := []) rfl rfl (by decide) rfl (d_readsAt (T := TU (T) 161 7) G Is4 (by first | exact ⟨oq_5234833b b10.1 g9, oq_8dae6a5a b10.2⟩ | omega) (fun q h => hti q ((by decide : ∀ q ∈ ([82] : List Nat), q ∈ ([90, 89, 85, 82] : List Nat)) q h)) (fun a h => hta6 a ((by decide : ∀ q ∈ ([] : List Nat), q ∈ ([161, 230, 157, 158] : List Nat)) a h))) ⟨rfl, rfl⟩ ⟨(show 6 + 1 ≤ 36 from oq_779dfe24), (show 8 + (mNL (miB 216) + 11) + 100 ≤ 1558 from oq_f75bfad7)⟩ (Nat.le_of_ble_eq_true rfl) (by decide) (by decide) (fun ee s12 hq => ?_) (fun vv s12 hq => ?_)
    · obtain ⟨Is12, Fs12, hv, hps12⟩ := hq; cases hv
    obtain ⟨Is12, Fs12, hv, hps12⟩ := hq
    cases hv
    have hti14 : ∀ q ∈ [81, 90, 89, 85, 82], (TI (TU (T) 161 7) 81).1 q := hti_g hti
    have hti15 : ∀ q ∈ [75, 81, 90, 89, 85, 82], (TI (TI (TU (T) 161 7) 81) 75).1 q := hti_g hti14
    have hti16 : ∀ q ∈ [77, 75, 81, 90, 89, 85, 82], (TI (TI (TI (TU (T) 161 7) 81) 75) 77).1 q := hti_g hti15
    have hti17 : ∀ q ∈ [78, 77, 75, 81, 90, 89, 85, 82], (TI (TI (TI (TI (TU (T) 161 7) 81) 75) 77) 78).1 q := hti_g hti16
    have hti18 : ∀ q ∈ [79, 78, 77, 75, 81, 90, 89, 85, 82], (TI (TI (TI (TI (TI (TU (T) 161 7) 81) 75) 77) 78) 79).1 q := hti_g hti17
    have Gs12 := fm_tq Gs4 Fs12 rfl rfl
    have JNW_s12 : NW s12 := NW_fm Fs12 (by decide) JNW_s4
    have b19 := bi_77 Is12
    have b20 := bi_78 Is12
    have b21 := bi_79 Is12
    show DS l s0 D A dT 228 (rmN 228) [77, 75, 78, 79, 80, 81] [161] (TU T 161 7) Q (TI (TI (TI (TI (TI (TU (T) 161 7) 81) 75) 77) 78) 79) 43 [(0, .ref (A 179))] [] s12
    refine d_lift (fun k ws X h => z_aload_n X (x := A 179) rfl (List.Mem.head _) h) (d_callV 179 (As := []) (st := []) rfl rfl (by decide) rfl ((d_sumr G 7).2.2 (T := TI (TI (TI (TI (TI (TU (T) 161 7) 81) 75) 77) 78) 79) Is12 (by first | exact oq_cc309cab hps12.1 b10.2 | omega) (by first | exact oq_02fd7e00 hps12.2.1 b20.1 | omega) (by first | exact oq_0cce41ba hps12.2.1 | omega) (fun q h => hti18 q ((by decide : ∀ q ∈ ([77, 75, 78, 79, 81] : List Nat), q ∈ ([79, 78, 77, 75, 81, 90, 89, 85, 82] : List Nat)) q h)) (fun a h => hta6 a ((by decide : ∀ q ∈ ([157, 158, 161] : List Nat), q ∈ ([161, 230, 157, 158] : List Nat)) a h))) ⟨rfl, rfl⟩ ⟨(show 35 + 1 ≤ 36 from oq_1a74e779), (show 8 + (mNL (miB 209) + 11) + 1535 ≤ 1558 from oq_4ce5ee6d)⟩ (Nat.le_of_ble_eq_true rfl) (by decide) (by decide) (fun ee s22 hq => ?_) (fun vv s22 hq => ?_))
    · obtain ⟨Is22, Fs22, e23, hv, hrs22, hps22⟩ := hq; cases hv
    obtain ⟨Is22, Fs22, e23, hv, hrs22, hps22⟩ := hq
    cases hv
    have Gs22 := fm_tq Gs12 Fs22 rfl rfl
    have JNW_s22 : NW s22 := NW_fm Fs22 (by decide) JNW_s12
    have b24 := bi_77 Is22
    have b25 := bi_78 Is22
    have b26 := bi_79 Is22
    show DS l s0 D A dT 228 (rmN 228) [77, 75, 78, 79, 80, 81] [161] (TU T 161 7) Q (TI (TI (TI (TI (TI (TU (T) 161 7) 81) 75) 77) 78) 79) 47 [(0, .ref (A 179))] [.int (Int32.ofInt e23)] s22
    exact d_iret rfl rfl (Or.inl rfl) rfl (fun _ h => AGr_mono h (fun _ h => Or.inr (Or.inr (Or.inr (Or.inr (Or.inr (h)))))) (fun _ _ h => h)) (hQ _ _ ⟨Is22, Gs22, JNW_s22, e23, rfl, hrs22, trivial⟩)
  ·
    refine d_lift (fun k ws X h => z_aload_n X (x := A 179) rfl (List.Mem.head _) h) (d_liftS (fun k s X h => s_getR X 179 rfl (by decide) rfl rfl h) (d_lift (fun k ws X h => z_const X rfl h) (d_ald 184 rfl (by decide) rfl (by decide) (show 0 < 7 by decide) (by decide) (hta6 161 (by decide) _ (show (0 : Int).toNat < 7 by first | exact oq_e8ec3fa8 | omega)) ?_)))
    have b27 := bc_161 Is4 (show (0 : Int).toNat < 7 by first | exact oq_e8ec3fa8 | omega)
    refine d_lift (fun k ws X h => z_const X rfl h) (d_lift (fun k ws X h => z_aload_n X (x := A 179) rfl (List.Mem.head _) h) (d_liftS (fun k s X h => s_getR X 179 rfl (by decide) rfl rfl h) (d_lift (fun k ws X h => z_const X rfl h) (d_ald 184 rfl (by decide) rfl (by decide) (show 1 < 7 by decide) (by decide) (hta6 161 (by decide) _ (show (1 : Int).toNat < 7 by first | exact oq_a32b659c | omega)) ?_))))
    have b28 := bc_161 Is4 (show (1 : Int).toNat < 7 by first | exact oq_a32b659c | omega)
    refine d_lift (fun k ws X h => z_mul X rfl h) (d_any (fun y29 hy29 => ?_))
    refine d_lift (fun k ws X h => z_add X rfl h) (d_any (fun y30 hy30 => ?_))
    refine d_lift (fun k ws X h => z_aload_n X (x := A 179) rfl (List.Mem.head _) h) (d_liftS (fun k s X h => s_getR X 179 rfl (by decide) rfl rfl h) (d_lift (fun k ws X h => z_const X rfl h) (d_ald 184 rfl (by decide) rfl (by decide) (show 2 < 7 by decide) (by decide) (hta6 161 (by decide) _ (show (2 : Int).toNat < 7 by first | exact oq_62527c24 | omega)) ?_)))
    have b31 := bc_161 Is4 (show (2 : Int).toNat < 7 by first | exact oq_62527c24 | omega)
    refine d_lift (fun k ws X h => z_add X rfl h) (d_any (fun y32 hy32 => ?_))
    exact d_iret rfl rfl (Or.inl rfl) rfl (fun _ h => AGr_mono h (fun _ h => h) (fun _ _ h => h)) (hQ _ _ ⟨Is4, Gs4, JNW_s4, y32, rfl, hy32, trivial⟩)
set_option maxHeartbeats 16000000 in
theorem d_joinsHold (G : GX l s0 D tys a0 dT) (I : Bd s)  {T : TT} (hti : ∀ q ∈ ([84, 82] : List Nat), T.1 q) (hta : ∀ a ∈ ([159, 157, 158, 161] : List Nat), ∀ j, j < (bA a).2.2 → T.2 a j) : CD l s0 D A dT 229 (rmN 229) [77, 75, 78, 79, 80, 81] [] T (T) [.ref (A 179)] s (fun o t => Bd t ∧ Fm [77, 75, 78, 79, 80, 81] [] s t ∧ ∃ e, o = .inl (some (.int (Int32.ofInt e))) ∧ rng e ∧ (e = 0 ∨ e = 1)) := by
  refine cd_of G (by decide) (Nat.le_of_ble_eq_true rfl) (fun Q hQ => ?_)
  have I0 := I
  show DS l s0 D A dT 229 (rmN 229) [77, 75, 78, 79, 80, 81] [] (T) Q (T) 0 [(0, .ref (A 179))] [] s
  have F : Fm [77, 75, 78, 79, 80, 81] [] s s := fm_rf _ _ s
  have b1 := bi_77 I
  have b2 := bi_78 I
  have b3 := bi_79 I
  have L4 : ∀ (n : Nat) (t : PS) (iz ka : Int), Bd t → Fm [77, 75, 78, 79, 80, 81] [] s t → ((iz = 0 ∨ iz = 1) ∧ 0 ≤ ka ∧ ka ≤ 8) → (8 - ka : Int).toNat < n → (∀ (t' : PS) (iz' ka' : Int), Bd t' → Fm [77, 75, 78, 79, 80, 81] [] s t' → ((iz' = 0 ∨ iz' = 1) ∧ 0 ≤ ka' ∧ ka' ≤ 8) → DS l s0 D A dT 229 (rmN 229) [77, 75, 78, 79, 80, 81] [] (T) Q (T) 45 [(0, .ref (A 179)), (1, .int (Int32.ofInt iz')), (2, .int (Int32.ofInt ka'))] [] t') → DS l s0 D A dT 229 (rmN 229) [77, 75, 78, 79, 80, 81] [] (T) Q (T) 4 [(0, .ref (A 179)), (1, .int (Int32.ofInt iz)), (2, .int (Int32.ofInt ka))] [] t := by
    intro n
    induction n with
    | zero =>
      intro t iz ka I F hi hm kx
      exact absurd hm (Nat.not_lt_zero _)
    | succ n ih =>
      intro t iz ka I F hi hm kx
      have b1001 := bi_77 I
      have b1002 := bi_78 I
      have b1003 := bi_79 I
      refine d_lift (fun k ws X h => z_load_n X (x := ka) rfl (List.Mem.tail _ (List.Mem.tail _ (List.Mem.head _))) h) (d_lift (fun k ws X h => z_aload_n X (x := A 179) rfl (List.Mem.head _) h) (d_getI 179 rfl (by decide) rfl rfl (hti 84 (by decide)) ?_))
      have b1004 := bi_84 I
      have q1005 : iI t 84 = iI s 84 := fm_iq F rfl
      refine d_br (bo_ge _ _) bx_ge (fun k ws X h1 h2 => z_icmp_ge X (t := 45) rfl (by decide) ⟨by first | exact oq_fa4e5087 hi.2.1 | omega, by first | exact oq_d3f5d874 hi.2.2 | omega⟩ (rng_to _) h1 h2) (fun g1006 => ?_) (fun g1006 => ?_)
      ·
        refine d_lvs (lv := [(0, .ref (A 179)), (1, .int (Int32.ofInt iz)), (2, .int (Int32.ofInt ka))]) (List.forall_mem_cons.mpr ⟨(List.Mem.head _), (List.forall_mem_cons.mpr ⟨(List.Mem.tail _ (List.Mem.head _)), (List.forall_mem_cons.mpr ⟨(List.Mem.tail _ (List.Mem.tail _ (List.Mem.head _))), (fun q h => absurd h List.not_mem_nil)⟩)⟩)⟩) ?_
        exact kx _ iz ka I F (by first | exact ⟨hi.1, hi.2.1, hi.2.2⟩ | omega)
      ·
        refine d_lift (fun k ws X h => z_aload_n X (x := A 179) rfl (List.Mem.head _) h) (d_lift (fun k ws X h => z_aload_n X (x := A 179) rfl (List.Mem.head _) h) (d_liftS (fun k s X h => s_getR X 179 rfl (by decide) rfl rfl h) (d_lift (fun k ws X h => z_load_n X (x := ka) rfl (List.Mem.tail _ (List.Mem.tail _ (List.Mem.head _))) h) (d_ald 182 rfl (by decide) rfl (by first | exact hi.2.1 | omega) (show ka < 8 by first | exact oq_7f5b2e79 g1006 b1004.2 | omega) (by decide) (hta 159 (by decide) _ (show (ka).toNat < 8 by first | exact oq_67be0351 g1006 b1004.2 | omega)) ?_))))
        have b1007 := bc_159 I (show (ka).toNat < 8 by first | exact oq_67be0351 g1006 b1004.2 | omega)
        have q1008 : iC t 159 (ka).toNat = iC s 159 (ka).toNat := fm_c F (by decide)
        refine d_callV 179 (As := [.int (Int32.ofInt (iC t 159 (ka).toNat))]) (st := []) rfl rfl (by decide) rfl (d_readsAt G I (by first | exact ⟨b1007.1, oq_8dae6a5a b1007.2⟩ | omega) (fun q h => hti q ((by decide : ∀ q ∈ ([82] : List Nat), q ∈ ([84, 82] : List Nat)) q h)) (fun a h => hta a ((by decide : ∀ q ∈ ([] : List Nat), q ∈ ([159, 157, 158, 161] : List Nat)) a h))) ⟨rfl, rfl⟩ ⟨(show 6 + 1 ≤ 60 from oq_a91cd906), (show 8 + (mNL (miB 216) + 11) + 100 ≤ 2637 from oq_0f53f063)⟩ (Nat.le_of_ble_eq_true rfl) (by decide) (by decide) (fun ee s1009 hq => ?_) (fun vv s1009 hq => ?_)
        · obtain ⟨Is1009, Fs1009, hv, hps1009⟩ := hq; cases hv
        obtain ⟨Is1009, Fs1009, hv, hps1009⟩ := hq
        cases hv
        have hti1011 : ∀ q ∈ [81, 84, 82], (TI (T) 81).1 q := hti_g hti
        have hti1012 : ∀ q ∈ [75, 81, 84, 82], (TI (TI (T) 81) 75).1 q := hti_g hti1011
        have hti1013 : ∀ q ∈ [77, 75, 81, 84, 82], (TI (TI (TI (T) 81) 75) 77).1 q := hti_g hti1012
        have hti1014 : ∀ q ∈ [78, 77, 75, 81, 84, 82], (TI (TI (TI (TI (T) 81) 75) 77) 78).1 q := hti_g hti1013
        have hti1015 : ∀ q ∈ [79, 78, 77, 75, 81, 84, 82], (TI (TI (TI (TI (TI (T) 81) 75) 77) 78) 79).1 q := hti_g hti1014
        have Gs1009 := fm_tq F Fs1009 rfl rfl
        have b1016 := bi_77 Is1009
        have b1017 := bi_78 Is1009
        have b1018 := bi_79 Is1009
        show DS l s0 D A dT 229 (rmN 229) [77, 75, 78, 79, 80, 81] [] (T) Q (TI (TI (TI (TI (TI (T) 81) 75) 77) 78) 79) 22 [(0, .ref (A 179)), (1, .int (Int32.ofInt iz)), (2, .int (Int32.ofInt ka))] [] s1009
        refine d_lift (fun k ws X h => z_aload_n X (x := A 179) rfl (List.Mem.head _) h) (d_callV 179 (As := []) (st := []) rfl rfl (by decide) rfl ((d_orsr G 7).2.2 (T := TI (TI (TI (TI (TI (T) 81) 75) 77) 78) 79) Is1009 (by first | exact oq_cc309cab hps1009.1 b1007.2 | omega) (by first | exact oq_02fd7e00 hps1009.2.1 b1017.1 | omega) (by first | exact oq_0cce41ba hps1009.2.1 | omega) (by first | exact oq_58fdd3cd hps1009.1 b1007.2 | omega) (fun q h => hti1015 q ((by decide : ∀ q ∈ ([77, 75, 78, 79, 81] : List Nat), q ∈ ([79, 78, 77, 75, 81, 84, 82] : List Nat)) q h)) (fun a h => hta a ((by decide : ∀ q ∈ ([157, 158, 161] : List Nat), q ∈ ([159, 157, 158, 161] : List Nat)) a h))) ⟨rfl, rfl⟩ ⟨(show 59 + 1 ≤ 60 from oq_ecbe5542), (show 8 + (mNL (miB 212) + 11) + 2615 ≤ 2637 from oq_4dfcca1b)⟩ (Nat.le_of_ble_eq_true rfl) (by decide) (by decide) (fun ee s1019 hq => ?_) (fun vv s1019 hq => ?_))
        · obtain ⟨Is1019, Fs1019, e1020, hv, hrs1019, hps1019⟩ := hq; cases hv
        obtain ⟨Is1019, Fs1019, e1020, hv, hrs1019, hps1019⟩ := hq
        cases hv
        have Gs1019 := fm_tq Gs1009 Fs1019 rfl rfl
        have b1021 := bi_77 Is1019
        have b1022 := bi_78 Is1019
        have b1023 := bi_79 Is1019
        show DS l s0 D A dT 229 (rmN 229) [77, 75, 78, 79, 80, 81] [] (T) Q (TI (TI (TI (TI (TI (T) 81) 75) 77) 78) 79) 26 [(0, .ref (A 179)), (1, .int (Int32.ofInt iz)), (2, .int (Int32.ofInt ka))] [.int (Int32.ofInt e1020)] s1019
        have N1024 : ∀ e1025 : Int, (((e1020 = 0) ∧ e1025 = 0) ∨ ((e1020 ≠ 0) ∧ (iz = 0) ∧ e1025 = 0) ∨ ((e1020 ≠ 0) ∧ (iz ≠ 0) ∧ e1025 = 1)) → DS l s0 D A dT 229 (rmN 229) [77, 75, 78, 79, 80, 81] [] (T) Q (TI (TI (TI (TI (TI (T) 81) 75) 77) 78) 79) 38 [(0, .ref (A 179)), (1, .int (Int32.ofInt iz)), (2, .int (Int32.ofInt ka))] [.int (Int32.ofInt e1025)] s1019 := by
          intro e1025 he1025
          have re1025 : 0 ≤ e1025 ∧ e1025 ≤ 1 := by first | (clear he1025 hps1019; omega) | (clear hps1019; omega) | omega
          refine d_lift (fun k ws X h => z_store_n X (lv' := [(1, .int (Int32.ofInt e1025)), (0, .ref (A 179)), (2, .int (Int32.ofInt ka))]) rfl (by decide) (fun _ h => h) h) (d_lift (fun k ws X h => z_inc X (x := ka) (lv' := [(2, .int (Int32.ofInt (ka + 1))), (1, .int (Int32.ofInt e1025)), (0, .ref (A 179))]) rfl (by decide) (List.Mem.tail _ (List.Mem.tail _ (List.Mem.head _))) (fun _ h => h) h) (d_lift (fun k ws X h => z_goto X (t := 4) rfl (by decide) h) (d_lvs (lv := [(0, .ref (A 179)), (1, .int (Int32.ofInt e1025)), (2, .int (Int32.ofInt (ka + 1)))]) (List.forall_mem_cons.mpr ⟨(List.Mem.tail _ (List.Mem.tail _ (List.Mem.head _))), (List.forall_mem_cons.mpr ⟨(List.Mem.tail _ (List.Mem.head _)), (List.forall_mem_cons.mpr ⟨(List.Mem.head _), (fun q h => absurd h List.not_mem_nil)⟩)⟩)⟩) (d_mono (T' := T) (fun _ h => Or.inr (Or.inr (Or.inr (Or.inr (Or.inr (h)))))) (fun _ _ h => h) ?_))))
          exact ih _ e1025 (ka + 1) Is1019 Gs1019 (by first | exact ⟨oq_31e518ae re1025.2 re1025.1, oq_54f49eb5 hi.2.1, oq_f6204d84 g1006 b1004.2⟩ | omega) (by first | exact qk_me hm (by decide) (oq_ccc5e5e0 g1006 b1004.2) | omega) kx
        refine d_br (bo_eq _ _) bx_eq (fun k ws X h1 h2 => z_if_eq X (t := 37) rfl (by decide) hrs1019 h1 h2) (fun g1026 => ?_) (fun g1026 => ?_)
        ·
          exact d_lift (fun k ws X h => z_const X rfl h) (N1024 _ (Or.inl ⟨g1026, rfl⟩))
        ·
          refine d_lift (fun k ws X h => z_load_n X (x := iz) rfl (List.Mem.tail _ (List.Mem.head _)) h) (d_br (bo_eq _ _) bx_eq (fun k ws X h1 h2 => z_if_eq X (t := 37) rfl (by decide) ⟨by first | exact oq_bde653e9 hi.1 | omega, by first | exact oq_4ad2cb8b hi.1 | omega⟩ h1 h2) (fun g1027 => ?_) (fun g1027 => ?_))
          ·
            exact d_lift (fun k ws X h => z_const X rfl h) (N1024 _ (Or.inr (Or.inl ⟨g1026, g1027, rfl⟩)))
          ·
            exact d_lift (fun k ws X h => z_const X rfl h) (d_lift (fun k ws X h => z_goto X (t := 38) rfl (by decide) h) (N1024 _ (Or.inr (Or.inr (⟨g1026, g1027, rfl⟩)))))
  refine d_lift (fun k ws X h => z_const X rfl h) (d_lift (fun k ws X h => z_store_n X (lv' := [(1, .int (Int32.ofInt 1)), (0, .ref (A 179))]) rfl (by decide) (fun _ h => h) h) (d_lift (fun k ws X h => z_const X rfl h) (d_lift (fun k ws X h => z_store_n X (lv' := [(2, .int (Int32.ofInt 0)), (1, .int (Int32.ofInt 1)), (0, .ref (A 179))]) rfl (by decide) (fun _ h => h) h) (d_lvs (lv := [(0, .ref (A 179)), (1, .int (Int32.ofInt 1)), (2, .int (Int32.ofInt 0))]) (List.forall_mem_cons.mpr ⟨(List.Mem.tail _ (List.Mem.tail _ (List.Mem.head _))), (List.forall_mem_cons.mpr ⟨(List.Mem.tail _ (List.Mem.head _)), (List.forall_mem_cons.mpr ⟨(List.Mem.head _), (fun q h => absurd h List.not_mem_nil)⟩)⟩)⟩) (L4 ((8 - 0 : Int).toNat + 1) s 1 0 I F (by first | exact ⟨Or.inr (by decide), by decide, by decide⟩ | omega) (Nat.lt_succ_self _) ?_)))))
  intro s4 x5 x6 Is4 Fs4 hs4
  have b7 := bi_77 Is4
  have b8 := bi_78 Is4
  have b9 := bi_79 Is4
  refine d_lift (fun k ws X h => z_load_n X (x := x5) rfl (List.Mem.tail _ (List.Mem.head _)) h) ?_
  exact d_iret rfl (nar_ret (by first | exact hs4.1 | omega)) (Or.inr rfl) rfl (fun _ h => h) (hQ _ _ ⟨Is4, Fs4, x5, rfl, ⟨by first | exact oq_bde653e9 hs4.1 | omega, by first | exact oq_4ad2cb8b hs4.1 | omega⟩, by first | exact hs4.1 | omega⟩)
end M47
end
section
theorem oq_1d59014a : 8 + (3 + 11) + 100 ≤ 168 := by omega
theorem oq_63dd6a8c : 8 + (3 + 11) + 146 ≤ 168 := by omega
/-! Determined: the ways as they are told -/
/-- the ways of now, as told -/
def ovN (s : PS) : PS := (s.1, s.2.1, (fun a => if a = 202 then s.2.2.1 162 else if 204 ≤ a ∧ a < 204 + 12 then s.2.2.1 (166 + (a - 204)) else if 216 ≤ a ∧ a < 216 + 12 then s.2.2.1 (178 + (a - 216)) else s.2.2.1 a), s.2.2.2)
theorem ov_m (s : PS) : (ovN s).2.2.1 202 = s.2.2.1 162 := rfl
theorem ov_w (s : PS) {j : Nat} (hj : j < 12) : (ovN s).2.2.1 (204 + j) = s.2.2.1 (166 + j) := by
  show (if 204 + j = 202 then _ else if 204 ≤ 204 + j ∧ 204 + j < 204 + 12 then s.2.2.1 (166 + (204 + j - 204)) else _) = _
  rw [if_neg (by omega), if_pos (by omega), Nat.add_sub_cancel_left]
theorem ov_l (s : PS) {j : Nat} (hj : j < 12) : (ovN s).2.2.1 (216 + j) = s.2.2.1 (178 + j) := by
  show (if 216 + j = 202 then _ else if 204 ≤ 216 + j ∧ 216 + j < 204 + 12 then _ else if 216 ≤ 216 + j ∧ 216 + j < 216 + 12 then s.2.2.1 (178 + (216 + j - 216)) else _) = _
  rw [if_neg (by omega), if_neg (by omega), if_pos (by omega), Nat.add_sub_cancel_left]
theorem mw_out {a : Nat} (h : a ∉ ([202, 204, 205, 206, 207, 208, 209, 210, 211, 212, 213, 214, 215, 216, 217, 218, 219, 220, 221, 222, 223, 224, 225, 226, 227] : List Nat)) : a ≠ 202 ∧ ¬ (204 ≤ a ∧ a < 204 + 12) ∧ ¬ (216 ≤ a ∧ a < 216 + 12) := by
  refine ⟨fun e => h (by rw [e]; decide), fun e => h ?_, fun e => h ?_⟩
  · have := (by decide : ∀ j, j < 12 → 204 + j ∈ ([202, 204, 205, 206, 207, 208, 209, 210, 211, 212, 213, 214, 215, 216, 217, 218, 219, 220, 221, 222, 223, 224, 225, 226, 227] : List Nat)) (a - 204) (by omega)
    rwa [show 204 + (a - 204) = a by omega] at this
  · have := (by decide : ∀ j, j < 12 → 216 + j ∈ ([202, 204, 205, 206, 207, 208, 209, 210, 211, 212, 213, 214, 215, 216, 217, 218, 219, 220, 221, 222, 223, 224, 225, 226, 227] : List Nat)) (a - 216) (by omega)
    rwa [show 216 + (a - 216) = a by omega] at this
theorem ov_o (s : PS) {a : Nat} (h : a ∉ ([202, 204, 205, 206, 207, 208, 209, 210, 211, 212, 213, 214, 215, 216, 217, 218, 219, 220, 221, 222, 223, 224, 225, 226, 227] : List Nat)) : (ovN s).2.2.1 a = s.2.2.1 a := by
  obtain ⟨h1, h2, h3⟩ := mw_out h
  show (if a = 202 then _ else if 204 ≤ a ∧ a < 204 + 12 then _ else if 216 ≤ a ∧ a < 216 + 12 then _ else s.2.2.1 a) = _
  rw [if_neg h1, if_neg h2, if_neg h3]
theorem ov_fm (s : PS) : Fm [] [202, 204, 205, 206, 207, 208, 209, 210, 211, 212, 213, 214, 215, 216, 217, 218, 219, 220, 221, 222, 223, 224, 225, 226, 227] s (ovN s) := ⟨fun _ _ => rfl, fun a ha => ov_o s ha, rfl, fun _ _ => rfl, fun _ _ => rfl⟩
theorem ov_i {s : PS} {a b j : Nat} (h : (ovN s).2.2.1 a = s.2.2.1 b) : iC (ovN s) a j = iC s b j := congrArg Int32.toInt (congrFun h j)
theorem ov_bd {s : PS} (I : Bd s) : Bd (ovN s) := by
  refine ⟨fun k => I.1 k, fun a j hj => ?_⟩
  have go : ∀ b, (ovN s).2.2.1 a = s.2.2.1 b → bA a = bA b → (bA a).1 ≤ iC (ovN s) a j ∧ iC (ovN s) a j ≤ (bA a).2.1 := fun b e1 e2 => by
    rw [ov_i e1, e2]
    exact I.2 b j (by rw [← e2]; exact hj)
  by_cases h1 : a = 202
  · subst h1; exact go _ (ov_m s) (by decide)
  by_cases h2 : 204 ≤ a ∧ a < 204 + 12
  · obtain ⟨i, hi, e⟩ : ∃ i, i < 12 ∧ a = 204 + i := ⟨a - 204, by omega, by omega⟩
    subst e
    exact go (166 + i) (ov_w s hi) ((by decide +kernel : ∀ i, i < 12 → bA (204 + i) = bA (166 + i)) i hi)
  by_cases h3 : 216 ≤ a ∧ a < 216 + 12
  · obtain ⟨i, hi, e⟩ : ∃ i, i < 12 ∧ a = 216 + i := ⟨a - 216, by omega, by omega⟩
    subst e
    exact go (178 + i) (ov_l s hi) ((by decide +kernel : ∀ i, i < 12 → bA (216 + i) = bA (178 + i)) i hi)
  refine go a ?_ rfl
  show (if a = 202 then _ else if 204 ≤ a ∧ a < 204 + 12 then _ else if 216 ≤ a ∧ a < 216 + 12 then _ else s.2.2.1 a) = _
  rw [if_neg h1, if_neg h2, if_neg h3]
theorem ov_nq (s : PS) : NQ (ovN s) := fun j hj _ => by
  have e1 : iC (ovN s) 162 j = iC s 162 j := ov_i (ov_o s (by decide))
  refine ⟨?_, fun k hk _ => ?_, fun c hc => ?_⟩
  · rw [ov_i (ov_m s), e1]
  · rw [ov_i (ov_w s hj), ov_i (ov_o s ((by decide : ∀ i, i < 12 → 166 + i ∉ ([202, 204, 205, 206, 207, 208, 209, 210, 211, 212, 213, 214, 215, 216, 217, 218, 219, 220, 221, 222, 223, 224, 225, 226, 227] : List Nat)) j hj))]
  · rw [ov_i (ov_l s hj), ov_i (ov_o s ((by decide : ∀ i, i < 12 → 178 + i ∉ ([202, 204, 205, 206, 207, 208, 209, 210, 211, 212, 213, 214, 215, 216, 217, 218, 219, 220, 221, 222, 223, 224, 225, 226, 227] : List Nat)) j hj))]
/-- T and the ways of now -/
def TN (T : TT) (s : PS) : TT := (T.1, fun a j => ((a = 202 ∧ (j : Int) < iI s 90) ∨ ∃ i : Nat, i < 12 ∧ (i : Int) < iI s 90 ∧ ((a = 216 + i ∧ j < 128) ∨ (a = 204 + i ∧ j < 24 ∧ (j : Int) < iC s 162 i))) ∨ T.2 a j)
theorem OKN_as {T : TT} {s t : PS} {L M : List Nat} (F : Fm L M s t) (h : 90 ∉ L ∧ 162 ∉ M) (I : Bd s) (nt : NQ t) : OKN (TU (TN T s) 203 (iI s 90)) t := fun j hj hs => by
  have e1 : iI t 90 = iI s 90 := fm_i F h.1
  have e2 : iC t 162 j = iC s 162 j := fm_c F h.2
  obtain ⟨n1, -, -⟩ := nt j hj hs
  rw [e1] at hs
  have b0 : (0 : Int) ≤ iC s 162 j ∧ iC s 162 j ≤ 24 := I.2 162 j (show j < 12 from hj)
  exact ⟨Or.inr (Or.inl (Or.inl ⟨rfl, hs⟩)), Or.inl ⟨rfl, hs⟩, fun c hc => Or.inr (Or.inl (Or.inr ⟨j, hj, hs, Or.inl ⟨rfl, hc⟩⟩)), fun k hk => Or.inr (Or.inl (Or.inr ⟨j, hj, hs, Or.inr ⟨rfl, by rw [n1, e2] at hk; omega, by rw [n1, e2] at hk; exact hk⟩⟩))⟩
theorem RLx_ag {T : TT} {s u : PS} (r : AGr T s u) (hi : T.1 90) (hm : ∀ j, j < 12 → T.2 162 j) (hl : ∀ j, j < 12 → ∀ c, c < 128 → T.2 (178 + j) c) (h : RLx s) : RLx u := fun j hj hs => by
  rw [show iI u 90 = iI s 90 from congrArg Int32.toInt (r.1 _ hi)] at hs
  obtain ⟨a, b⟩ := h j hj hs
  have e : iC u 162 j = iC s 162 j := congrArg Int32.toInt (r.2 _ _ (hm j hj))
  exact ⟨by rw [e]; exact a, fun c hc => by rw [e, show iC u (178 + j) c = iC s (178 + j) c from congrArg Int32.toInt (r.2 _ _ (hl j hj c hc))]; exact b c hc⟩
theorem i32_inj {x y : Int32} (h : x.toInt = y.toInt) : x = y := Int32.toInt_inj.mp h
section M48
variable {l : Launch} {s0 : State} {D : va_G} {tys : List (ClassId × FieldType)} {a0 : Array Value} {A : Nat → Nat} {dT : Nat → ClassId} {s : PS}
/-- what T holds of the ways as told; of the ways of now nothing -/
def OKW (T : TT) : Prop := (∀ j, j < 12 → ∀ k, k < 24 → T.2 (166 + j) k) ∧ (∀ j, j < 12 → ∀ c, c < 128 → T.2 (178 + j) c) ∧ (∀ a j, T.2 a j → a ∉ ([202, 204, 205, 206, 207, 208, 209, 210, 211, 212, 213, 214, 215, 216, 217, 218, 219, 220, 221, 222, 223, 224, 225, 226, 227] : List Nat)) ∧ ∀ j, j < 12 → ∀ k, k < 24 → T.2 (190 + j) k
theorem d_waysAsTold (G : GX l s0 D tys a0 dT) (I : Bd s) (jRLx : RLx s) {T : TT} (hti : ∀ q ∈ ([90] : List Nat), T.1 q) (hta : ∀ a ∈ ([162] : List Nat), ∀ j, j < (bA a).2.2 → T.2 a j) (how : OKW T) : CD l s0 D A dT 223 (rmN 223) [] [202, 204, 205, 206, 207, 208, 209, 210, 211, 212, 213, 214, 215, 216, 217, 218, 219, 220, 221, 222, 223, 224, 225, 226, 227] T (TN T s) [.ref (A 179)] s (fun o t => Bd t ∧ Fm [] [202, 204, 205, 206, 207, 208, 209, 210, 211, 212, 213, 214, 215, 216, 217, 218, 219, 220, 221, 222, 223, 224, 225, 226, 227] s t ∧ RLx t ∧ NQ t ∧ o = .inl none ∧ (True)) := by
  have hm : ∀ j, j < 12 → T.2 162 j := fun j hj => hta 162 (by decide) j hj
  refine ⟨.inl none, ovN s, ⟨ov_bd I, ov_fm s, RLx_fm (ov_fm s) (by decide) jRLx, ov_nq s, rfl, trivial⟩, fun u r b => ?_⟩
  refine MB_mono (k_waysAsTold G b (RLx_ag r (hti 90 (by decide)) hm how.2.1 jRLx)) (fun o ws hk => ?_)
  obtain ⟨t, e, It, Ft, rt, nt, eo, -⟩ := hk
  refine ⟨t, e, eo, It, Ft, ?_, ?_⟩
  · intro q hq
    rw [Ft.1 q (fun z => absurd z List.not_mem_nil)]
    exact r.1 q hq
  · intro a j hq
    have es : iI t 90 = iI s 90 := by rw [fm_i Ft (fun z => absurd z List.not_mem_nil)]; exact congrArg Int32.toInt (r.1 _ (hti 90 (by decide)))
    have em : ∀ i, i < 12 → iC t 162 i = iC s 162 i := fun i hi => by rw [fm_c Ft (by decide)]; exact congrArg Int32.toInt (r.2 _ _ (hm i hi))
    rcases hq with (⟨q1, q2⟩ | ⟨i, hi, hs, ⟨q1, q2⟩ | ⟨q1, q2, q3⟩⟩) | hq
    · subst q1
      have b0 : iI s 90 ≤ 12 := (I.1 90).2
      have hj : j < 12 := by omega
      apply i32_inj
      have n1 := (nt j hj (by rw [es]; exact q2)).1
      show iC t 202 j = iC (ovN s) 202 j
      rw [n1, em j hj, ov_i (ov_m s)]
    · subst q1
      apply i32_inj
      have n3 := (nt i hi (by rw [es]; exact hs)).2.2 j q2
      show iC t (216 + i) j = iC (ovN s) (216 + i) j
      rw [n3, ov_i (ov_l s hi), fm_c Ft ((by decide : ∀ i, i < 12 → 178 + i ∉ ([202, 204, 205, 206, 207, 208, 209, 210, 211, 212, 213, 214, 215, 216, 217, 218, 219, 220, 221, 222, 223, 224, 225, 226, 227] : List Nat)) i hi)]
      exact congrArg Int32.toInt (r.2 _ _ (how.2.1 i hi j q2))
    · subst q1
      apply i32_inj
      have n2 := (nt i hi (by rw [es]; exact hs)).2.1 j q2 (by rw [em i hi]; exact q3)
      show iC t (204 + i) j = iC (ovN s) (204 + i) j
      rw [n2, ov_i (ov_w s hi), fm_c Ft ((by decide : ∀ i, i < 12 → 166 + i ∉ ([202, 204, 205, 206, 207, 208, 209, 210, 211, 212, 213, 214, 215, 216, 217, 218, 219, 220, 221, 222, 223, 224, 225, 226, 227] : List Nat)) i hi)]
      exact congrArg Int32.toInt (r.2 _ _ (how.1 i hi j q2))
    · have ha := how.2.2.1 a j hq
      rw [show gC (ovN s) a j = gC s a j from congrFun (ov_o s ha) j, show gC t a j = gC u a j from congrFun (Ft.2.1 a ha) j]
      exact r.2 a j hq
end M48
section M48b
variable {l : Launch} {s0 : State} {D : va_G} {tys : List (ClassId × FieldType)} {a0 : Array Value} {A : Nat → Nat} {dT : Nat → ClassId} {s : PS}
set_option maxHeartbeats 16000000 in
theorem d_asTold (G : GX l s0 D tys a0 dT) (I : Bd s) (jRLx : RLx s) {x : Int} (p0 : 0 ≤ x ∧ x ≤ 23) {T : TT} (hti : ∀ q ∈ ([90] : List Nat), T.1 q) (hta : ∀ a ∈ ([162, 163, 164] : List Nat), ∀ j, j < (bA a).2.2 → T.2 a j) (how : OKW T) : CD l s0 D A dT 222 (rmN 222) [] [202, 204, 205, 206, 207, 208, 209, 210, 211, 212, 213, 214, 215, 216, 217, 218, 219, 220, 221, 222, 223, 224, 225, 226, 227, 203] T (TU (TN T s) 203 (iI s 90)) [.ref (A 179), .int (Int32.ofInt x)] s (fun o t => Bd t ∧ Fm [] [202, 204, 205, 206, 207, 208, 209, 210, 211, 212, 213, 214, 215, 216, 217, 218, 219, 220, 221, 222, 223, 224, 225, 226, 227, 203] s t ∧ RLx t ∧ NQ t ∧ o = .inl none ∧ (True)) := by
  refine cd_of G (by decide) (Nat.le_of_ble_eq_true rfl) (fun Q hQ => ?_)
  have I0 := I
  show DS l s0 D A dT 222 (rmN 222) [] [202, 204, 205, 206, 207, 208, 209, 210, 211, 212, 213, 214, 215, 216, 217, 218, 219, 220, 221, 222, 223, 224, 225, 226, 227, 203] (TU (TN T s) 203 (iI s 90)) Q (T) 0 [(0, .ref (A 179)), (1, .int (Int32.ofInt x))] [] s
  have F : Fm [] [202, 204, 205, 206, 207, 208, 209, 210, 211, 212, 213, 214, 215, 216, 217, 218, 219, 220, 221, 222, 223, 224, 225, 226, 227, 203] s s := fm_rf _ _ s
  refine d_lift (fun k ws X h => z_aload_n X (x := A 179) rfl (List.Mem.head _) h) (d_callV 179 (As := []) (st := []) rfl rfl (by decide) rfl (d_waysAsTold G I jRLx  (fun q h => hti q ((by decide : ∀ q ∈ ([90] : List Nat), q ∈ ([90] : List Nat)) q h)) (fun a h => hta a ((by decide : ∀ q ∈ ([162] : List Nat), q ∈ ([162, 163, 164] : List Nat)) a h)) how) ⟨rfl, rfl⟩ ⟨(show 6 + 1 ≤ 9 from oq_4a198724), (show 8 + (mNL (miB 223) + 11) + 100 ≤ 168 from oq_1d59014a)⟩ (Nat.le_of_ble_eq_true rfl) (by decide) (by decide) (fun ee s1 hq => ?_) (fun vv s1 hq => ?_))
  · obtain ⟨Is1, Fs1, JRLx_s1, JNQ_s1, hv, hps1⟩ := hq; cases hv
  obtain ⟨Is1, Fs1, JRLx_s1, JNQ_s1, hv, hps1⟩ := hq
  cases hv
  have hta3 : ∀ a ∈ ([162, 163, 164] : List Nat), ∀ j, j < (bA a).2.2 → (TN T s).2 a j := fun a h j hj => Or.inr (hta a h j hj)
  have hcn : ∀ j, j < 12 → ∀ k, k < 24 → T.2 (190 + j) k := how.2.2.2
  have Gs1 := fm_tq F Fs1 rfl rfl
  have JRLx_s1 : RLx s1 := RLx_fm Fs1 (by decide) jRLx
  show DS l s0 D A dT 222 (rmN 222) [] [202, 204, 205, 206, 207, 208, 209, 210, 211, 212, 213, 214, 215, 216, 217, 218, 219, 220, 221, 222, 223, 224, 225, 226, 227, 203] (TU (TN T s) 203 (iI s 90)) Q (TN T s) 4 [(0, .ref (A 179)), (1, .int (Int32.ofInt x))] [] s1
  refine d_lift (fun k ws X h => z_aload_n X (x := A 179) rfl (List.Mem.head _) h) (d_lift (fun k ws X h => z_load_n X (x := x) rfl (List.Mem.tail _ (List.Mem.head _)) h) (d_callV 179 (As := [.int (Int32.ofInt x)]) (st := []) rfl rfl (by decide) rfl (d_numbersIn (T := TN T s) G Is1 (by first | exact ⟨p0.1, p0.2⟩ | omega) (fun q h => hti q ((by decide : ∀ q ∈ ([90] : List Nat), q ∈ ([90] : List Nat)) q h)) (fun a h => hta3 a ((by decide : ∀ q ∈ ([163, 164] : List Nat), q ∈ ([162, 163, 164] : List Nat)) a h)) (fun j hj k hk => (Or.inr (hcn j hj k hk)))) ⟨rfl, rfl⟩ ⟨(show 8 + 1 ≤ 9 from oq_67c02c84), (show 8 + (mNL (miB 224) + 11) + 146 ≤ 168 from oq_63dd6a8c)⟩ (Nat.le_of_ble_eq_true rfl) (by decide) (by decide) (fun ee s4 hq => ?_) (fun vv s4 hq => ?_)))
  · obtain ⟨Is4, Fs4, hv, hps4⟩ := hq; cases hv
  obtain ⟨Is4, Fs4, hv, hps4⟩ := hq
  cases hv
  rw [show iI s1 90 = iI s 90 from fm_i Gs1 (by decide)]
  have hta6 : ∀ a ∈ ([162, 163, 164] : List Nat), ∀ j, j < (bA a).2.2 → (TU (TN T s) 203 (iI s 90)).2 a j := fun a h j hj => Or.inr (Or.inr (hta a h j hj))
  have Gs4 := fm_tq Gs1 Fs4 rfl rfl
  have JRLx_s4 : RLx s4 := RLx_fm Fs4 (by decide) JRLx_s1
  have JNQ_s4 : NQ s4 := NQ_fm Fs4 (by decide) JNQ_s1
  show DS l s0 D A dT 222 (rmN 222) [] [202, 204, 205, 206, 207, 208, 209, 210, 211, 212, 213, 214, 215, 216, 217, 218, 219, 220, 221, 222, 223, 224, 225, 226, 227, 203] (TU (TN T s) 203 (iI s 90)) Q (TU (TN T s) 203 (iI s 90)) 9 [(0, .ref (A 179)), (1, .int (Int32.ofInt x))] [] s4
  exact d_vret rfl rfl (fun _ h => h) (hQ _ _ ⟨Is4, Gs4, JRLx_s4, JNQ_s4, rfl, trivial⟩)
end M48b
end
