
theorem oq_f1a90b10 {a0 a1 : Int} (h0 : a0 = a1) (h1 : a1 ≤ 24) : a0 ≤ 2147483647 := by sorry
theorem oq_eb560c61 {a0 a1 a2 : Int} (h0 : a0 = a1) (h1 : 0 ≤ a2) (h2 : 0 ≤ a1) : 0 ≤ (a0 + a2) := by sorry
theorem oq_09e9453c {a0 a1 a2 a3 a4 : Int} (h0 : a0 = a1) (h1 : a2 < a3) (h2 : a3 = a4) (h3 : (a1 + a4) ≤ 288) : (a0 + a2) < 288 := by sorry
theorem oq_05fa5e56 {a0 a1 a2 a3 a4 : Int} (h0 : a0 = a1) (h1 : a2 < a3) (h2 : a3 = a4) (h3 : (a1 + a4) ≤ 288) : ((a0 + a2) : Int).toNat < 288 := by sorry
theorem oq_6e790857 {a0 a1 a2 : Int} (h0 : 0 ≤ a0) (h1 : 0 ≤ a1) (h2 : a2 = a1) : 0 ≤ ((a2 * 2) + (a0 / 64)) := by sorry
theorem oq_9e99edc9 {a0 a1 a2 : Int} (h0 : a0 ≤ 127) (h1 : a1 ≤ 11) (h2 : a2 = a1) : ((a2 * 2) + (a0 / 64)) < 24 := by sorry
theorem oq_d161f920 {a0 a1 a2 a3 : Int} (h0 : 0 ≤ a0) (h1 : 0 ≤ a1) (h2 : 0 ≤ a2) (h3 : a3 = a2) : 0 ≤ ((((a3 * 7) + a1) * 2) + (a0 / 64)) := by sorry
theorem oq_5e800b0f {a0 a1 a2 a3 : Int} (h0 : a0 ≤ 127) (h1 : a1 ≤ 6) (h2 : a2 ≤ 11) (h3 : a3 = a2) : ((((a3 * 7) + a1) * 2) + (a0 / 64)) < 168 := by sorry
theorem oq_2c5393a1 {a0 a1 a2 : Int} (h0 : a0 < a1) (h1 : a1 = a2) (h2 : a2 ≤ 24) : (a0 + 1) ≤ 24 := by sorry
theorem oq_e6203394 {a0 a1 a2 : Int} (h0 : a0 < a1) (h1 : a1 = a2) (h2 : a2 ≤ 24) : 0 < (24 - a0) := by sorry
theorem oq_f2d6cc15 {a0 a1 a2 : Int} (h0 : a0 = a1) (h1 : 0 ≤ a2) (h2 : 0 ≤ a1) : 0 ≤ ((a0 + a2) + 1) := by sorry
theorem oq_cd948ef7 {a0 a1 a2 a3 a4 : Int} (h0 : a0 = a1) (h1 : (a1 + a2) ≤ 288) (h2 : (a3 + 1) < a4) (h3 : a4 = a2) : ((a0 + a3) + 1) < 288 := by sorry
theorem oq_4c308d7f {a0 a1 a2 a3 a4 : Int} (h0 : a0 = a1) (h1 : (a1 + a2) ≤ 288) (h2 : (a3 + 1) < a4) (h3 : a4 = a2) : (((a0 + a3) + 1) : Int).toNat < 288 := by sorry
theorem oq_38e17b37 {a0 a1 : Int} (h0 : a0 = a1) (h1 : a1 ≤ 11) : a0 ≤ 11 := by sorry
theorem oq_35c8eba5 {a0 a1 a2 a3 : Int} (h0 : 0 ≤ a0) (h1 : 0 ≤ a1) (h2 : 0 ≤ a2) (h3 : a3 = a2) : 0 ≤ ((((a3 * 7) + a0) * 2) + (a1 / 64)) := by sorry
theorem oq_d9ee5368 {a0 a1 a2 a3 : Int} (h0 : a0 ≤ 5) (h1 : a1 ≤ 127) (h2 : a2 ≤ 11) (h3 : a3 = a2) : ((((a3 * 7) + a0) * 2) + (a1 / 64)) < 168 := by sorry
theorem oq_5c168ac4 {a0 a1 a2 : Int} (h0 : (a0 + 1) < a1) (h1 : a1 = a2) (h2 : a2 ≤ 24) : (a0 + 1) ≤ 24 := by sorry
theorem oq_9de10623 {a0 a1 a2 : Int} (h0 : (a0 + 1) < a1) (h1 : a1 = a2) (h2 : a2 ≤ 24) : 0 < (24 - a0) := by sorry
theorem oq_78c956af {a0 a1 a2 a3 a4 : Int} (h0 : a0 = a1) (h1 : a2 < a3) (h2 : a3 = a4) (h3 : (a1 + a4) ≤ 24) : (a0 + a2) < 24 := by sorry
theorem oq_a1e4607c {a0 a1 a2 a3 a4 : Int} (h0 : a0 = a1) (h1 : a2 < a3) (h2 : a3 = a4) (h3 : (a1 + a4) ≤ 24) : ((a0 + a2) : Int).toNat < 24 := by sorry
theorem oq_c04285d6 {a0 a1 a2 a3 a4 : Int} (h0 : a0 = a1) (h1 : (a1 + a2) ≤ 24) (h2 : (a3 + 1) < a4) (h3 : a4 = a2) : ((a0 + a3) + 1) < 24 := by sorry
theorem oq_96891ef5 {a0 a1 a2 a3 a4 : Int} (h0 : a0 = a1) (h1 : (a1 + a2) ≤ 24) (h2 : (a3 + 1) < a4) (h3 : a4 = a2) : (((a0 + a3) + 1) : Int).toNat < 24 := by sorry
/-! The air as it is mended -/
def SDMM (s t : PS) : Prop := ∀ j : Nat, gD t 59 j = gD s 59 j
theorem sdmm_rf {s : PS} : SDMM s s := by sorry
theorem sdmm_ts {s t u : PS} (h : SDMM s t) (g : SDMM t u) : SDMM s u := by sorry
theorem sdmm_D {s t : PS} {b j : Nat} {x : Int64} (hb : 59 ≠ b) (h : SDMM s t) : SDMM s (uD t b j x) := by sorry
theorem sdmm_fm {L M : List Nat} {s t : PS} (F : Fm L M s t) (h : 59 + 1000 ∉ M) : SDMM s t := by sorry
def WRQM (f : Nat → Int) (x w c : Int) (s t : PS) : Prop :=
  BQT 59 (x * 2).toNat 2 (fun j i => ∃ k : Nat, (k : Int) < c ∧ f k / 64 = (j : Int) ∧ f k % 64 = (i : Int)) s t ∧ BQT 60 (x * 14).toNat 14 (fun j i => gmP f w c j i) s t ∧ BQT 61 (x * 5).toNat 5 (fun j i => stP f w c j i) s t
def WZQM (x : Int) (s t : PS) : Prop := BZT 59 (x * 2).toNat 2 s t ∧ BZT 60 (x * 14).toNat 14 s t ∧ BZT 61 (x * 5).toNat 5 s t
theorem wrqm_0 {f : Nat → Int} {x w : Int} {r s t : PS} (h : WZQM x s t) (h1 : SDa 59 r s) (h2 : SDa 60 r s) (h3 : SDa 61 r s) : WRQM f x w 0 r t := by sorry
theorem wrqm_last {f : Nat → Int} {x w c g e i1 i2 : Int} {s t u v : PS} (h : WRQM f x w c s t) (hu : u = uD t 59 i1.toNat (gD t 59 i1.toNat ||| jshl 1 (e % 64))) (hv : v = uD u 60 i2.toNat (gD u 60 i2.toNat ||| jshl 1 (e % 64))) (he : e = f c.toNat) (e0 : 0 ≤ e ∧ e ≤ 127) (x0 : 0 ≤ x) (c0 : 0 ≤ c) (hg : g = goK f w c.toNat) (g0 : 0 ≤ g ∧ g ≤ 6) (h1 : i1 = x * 2 + e / 64) (h2 : i2 = (x * 7 + g) * 2 + e / 64) (hl : w ≤ c + 1) : WRQM f x w (c + 1) s v := by sorry
theorem wrqm_more {f : Nat → Int} {x w c g e i1 i2 i3 y : Int} {s t r u v : PS} (h : WRQM f x w c s t) (hr : r = uD t 61 i3.toNat (gD t 61 i3.toNat ||| jshl 1 (y % 64))) (hu : u = uD r 59 i1.toNat (gD r 59 i1.toNat ||| jshl 1 (e % 64))) (hv : v = uD u 60 i2.toNat (gD u 60 i2.toNat ||| jshl 1 (e % 64))) (he : e = f c.toNat) (e0 : 0 ≤ e ∧ e ≤ 127) (x0 : 0 ≤ x) (c0 : 0 ≤ c) (hg : g = goB (f c.toNat) (f (c + 1).toNat)) (h1 : i1 = x * 2 + e / 64) (h2 : i2 = (x * 7 + g) * 2 + e / 64) (hy : y = lsK f c.toNat) (y0 : 0 ≤ y ∧ y ≤ 127) (h3 : i3 = x * 5 + kdZ y g) (k0 : 0 ≤ kdZ y g ∧ kdZ y g ≤ 4) (hl : c + 1 < w) : WRQM f x w (c + 1) s v := by sorry
theorem wrqm_bas {f : Nat → Int} {x w c : Int} {r s t : PS} (h : WRQM f x w c s t) (h1 : SDa 59 r s) (h2 : SDa 60 r s) (h3 : SDa 61 r s) : WRQM f x w c r t := by sorry
theorem wrqm_sam {f : Nat → Int} {x w c : Int} {s t u : PS} (h : WRQM f x w c s t) (h1 : SDa 59 t u) (h2 : SDa 60 t u) (h3 : SDa 61 t u) : WRQM f x w c s u := by sorry
def SDGM (s t : PS) : Prop := SDa 60 s t
theorem sdgm_rf {s : PS} : SDGM s s := by sorry
theorem sdgm_ts {s t u : PS} (h : SDGM s t) (g : SDGM t u) : SDGM s u := by sorry
theorem sdgm_D {s t : PS} {b j : Nat} {x : Int64} (hb : 60 ≠ b) (h : SDGM s t) : SDGM s (uD t b j x) := by sorry
theorem sdgm_fm {L M : List Nat} {s t : PS} (F : Fm L M s t) (h : 60 + 1000 ∉ M) : SDGM s t := by sorry
def SDPM (s t : PS) : Prop := SDa 61 s t
theorem sdpm_rf {s : PS} : SDPM s s := by sorry
theorem sdpm_ts {s t u : PS} (h : SDPM s t) (g : SDPM t u) : SDPM s u := by sorry
theorem sdpm_D {s t : PS} {b j : Nat} {x : Int64} (hb : 61 ≠ b) (h : SDPM s t) : SDPM s (uD t b j x) := by sorry
theorem sdpm_fm {L M : List Nat} {s t : PS} (F : Fm L M s t) (h : 61 + 1000 ∉ M) : SDPM s t := by sorry
def WZ1M (x c : Int) (s t : PS) : Prop := BZT 59 (x * 2).toNat 2 s t ∧ BZT 60 (x * 14).toNat c.toNat s t ∧ SDa 61 s t
def WZ2M (x c : Int) (s t : PS) : Prop := BZT 59 (x * 2).toNat 2 s t ∧ BZT 60 (x * 14).toNat 14 s t ∧ BZT 61 (x * 5).toNat c.toNat s t
theorem wz1m_0 {x i j : Int} {s t u : PS} (h1 : t = uD s 59 i.toNat 0) (h2 : u = uD t 59 j.toNat 0) (hi : i = x * 2) (hj : j = x * 2 + 1) (x0 : 0 ≤ x) : WZ1M x 0 s u := by sorry
theorem wz1m_up {x c i : Int} {s t u : PS} (h : WZ1M x c s t) (hu : u = uD t 60 i.toNat 0) (hi : i = x * 14 + c) (x0 : 0 ≤ x) (c0 : 0 ≤ c) : WZ1M x (c + 1) s u := by sorry
theorem wz2m_0 {x : Int} {s t : PS} (h : WZ1M x 14 s t) : WZ2M x 0 s t := by sorry
theorem wz2m_up {x c i : Int} {s t u : PS} (h : WZ2M x c s t) (hu : u = uD t 61 i.toNat 0) (hi : i = x * 5 + c) (x0 : 0 ≤ x) (c0 : 0 ≤ c) : WZ2M x (c + 1) s u := by sorry
def AIRM (s : PS) : Prop := iI s 43 ≤ 12 ∧ ∀ x : Nat, (x : Int) < iI s 43 → WOK (fun k => iC s 57 (24 * x + k)) (iC s 58 x) ∧
  (∀ d : Nat, d < 128 → (bJ (gD s 59 (2 * x + d / 64)) (d % 64) ↔ ∃ k : Nat, (k : Int) < iC s 58 x ∧ iC s 57 (24 * x + k) = (d : Int))) ∧
  (∀ g d : Nat, g < 7 → d < 128 → (bJ (gD s 60 (14 * x + 2 * g + d / 64)) (d % 64) ↔ ∃ k : Nat, (k : Int) < iC s 58 x ∧ iC s 57 (24 * x + k) = (d : Int) ∧ goK (fun k => iC s 57 (24 * x + k)) (iC s 58 x) k = (g : Int))) ∧
  ∀ κ j : Nat, κ < 5 → j < 64 → (bJ (gD s 61 (5 * x + κ)) j ↔ stP (fun k => iC s 57 (24 * x + k)) (iC s 58 x) (iC s 58 x) κ j)
theorem AIRM_fm {L M : List Nat} {s t : PS} (F : Fm L M s t) (h : 43 ∉ L ∧ 57 ∉ M ∧ 58 ∉ M ∧ 59 + 1000 ∉ M ∧ 60 + 1000 ∉ M ∧ 61 + 1000 ∉ M) (r : AIRM s) : AIRM t := by sorry
def mtFM (s : PS) (x y z : Int) : Nat → Int64
  | 0 => gD s 59 (x * 2 + z).toNat &&& gD s 59 (y * 2 + z).toNat
  | g + 1 => mtFM s x y z g &&& ((gD s 60 ((x * 7 + (g : Int)) * 2 + z).toNat &&& gD s 60 ((y * 7 + (g : Int)) * 2 + z).toNat) ^^^ lN 18446744073709551615)
theorem mtm_up {s t : PS} {x y z c : Int} {u : Int64} (hq : u = mtFM s x y z c.toNat) (h : ∀ j, gD t 60 j = gD s 60 j) (c0 : 0 ≤ c) : u &&& ((gD t 60 ((x * 7 + c) * 2 + z).toNat &&& gD t 60 ((y * 7 + c) * 2 + z).toNat) ^^^ lN 18446744073709551615) = mtFM s x y z (c + 1).toNat := by sorry
theorem mtm_z {s : PS} {x y z : Int} {g : Nat} (h : mtFM s x y z g = 0) : ∀ n : Nat, mtFM s x y z (g + n) = 0 := by sorry
theorem mtm_out {s : PS} {x y z c : Int} {u : Int64} (hq : u = mtFM s x y z c.toNat) (hu : u = 0) (h0 : 0 ≤ c) (h1 : c ≤ 7) : u = mtFM s x y z 7 := by sorry
theorem mtm_c {s t : PS} {x y z : Int} (h1 : ∀ j, gD t 59 j = gD s 59 j) (h2 : ∀ j, gD t 60 j = gD s 60 j) : ∀ g : Nat, mtFM t x y z g = mtFM s x y z g := by sorry
theorem mtm_b {s : PS} {x y z : Int} {j : Nat} (hj : j < 64) : ∀ g : Nat, bJ (mtFM s x y z g) j ↔ (bJ (gD s 59 (x * 2 + z).toNat) j ∧ bJ (gD s 59 (y * 2 + z).toNat) j) ∧ ∀ h : Nat, h < g → ¬ (bJ (gD s 60 ((x * 7 + (h : Int)) * 2 + z).toNat) j ∧ bJ (gD s 60 ((y * 7 + (h : Int)) * 2 + z).toNat) j) := by sorry
abbrev fwCM (s : PS) (x : Nat) : Nat → Int := fun k => iC s 57 (24 * x + k)
abbrev WYCM (s : PS) : WyS := (fwCM s, fun x => iC s 58 x)
theorem mtm_air {s : PS} (h : AIRM s) {a b : Nat} (ha : (a : Int) < iI s 43) (hb : (b : Int) < iI s 43) {z j : Nat} (hz : z < 2) (hj : j < 64) : bJ (mtFM s a b z 7) j ↔ ∃ k : Nat, (k : Int) < iC s 58 a ∧ fwCM s a k = ((64 * z + j : Nat) : Int) ∧ mtP (fwCM s a) (fwCM s b) (iC s 58 a) (iC s 58 b) k := by sorry
theorem mtm_cnt {s : PS} (h : AIRM s) {a b : Nat} (ha : (a : Int) < iI s 43) (hb : (b : Int) < iI s 43) {lo hi : Int64} : bnN (mtFM s a b 0 7 &&& lo) + bnN (mtFM s a b 1 7 &&& hi) = mtW (inL lo hi) (fwCM s a) (fwCM s b) (iC s 58 a) (iC s 58 b) := by sorry
def CPHM (s : PS) (H : CpH) (a : Nat) : Nat → Int := fun b => if a < b then H a b (mtFM s a b 0 7) (mtFM s a b 1 7) else 0
def CPSM (t : PS) (H : CpH) (n : Nat) : Int := sm (fun c => H (iC t 62 c / 12).toNat (iC t 62 c % 12).toNat (gD t 63 (2 * c)) (gD t 63 (2 * c + 1))) n
def CPOM (n a : Int) (s t : PS) : Prop := (0 ≤ iI t 44 ∧ iI t 44 ≤ pr12 a.toNat) ∧ ∀ H : CpH, (∀ a b, H a b 0 0 = 0) → CPSM t H (iI t 44).toNat = sm (fun a' => sm (CPHM s H a') n.toNat) a.toNat
def CPPM (n a b : Int) (s t : PS) : Prop := (0 ≤ iI t 44 ∧ iI t 44 ≤ pr12 a.toNat + (b - a - 1)) ∧ ∀ H : CpH, (∀ a b, H a b 0 0 = 0) → CPSM t H (iI t 44).toNat = sm (fun a' => sm (CPHM s H a') n.toNat) a.toNat + sm (CPHM s H a.toNat) b.toNat
theorem cpom_0 {n : Int} {s t : PS} (h : iI t 44 = 0) : CPOM n 0 s t := by sorry
theorem cppm_0 {n a : Int} {s t : PS} (h : CPOM n a s t) (a0 : 0 ≤ a) : CPPM n a (a + 1) s t := by sorry
theorem cppm_o {n a b : Int} {s t : PS} (h : CPPM n a b s t) (a0 : 0 ≤ a) (hb : b = n) (hn : n ≤ 12) : CPOM n (a + 1) s t := by sorry
theorem cphm_at {s : PS} {H : CpH} {a b : Int} (a0 : 0 ≤ a) (ab : a < b) : CPHM s H a.toNat b.toNat = H a.toNat b.toNat (mtFM s a b 0 7) (mtFM s a b 1 7) := by sorry
theorem cppm_n {n a b : Int} {s t : PS} {lo hi : Int64} (h : CPPM n a b s t) (a0 : 0 ≤ a) (ab : a < b) (e0 : lo = mtFM s a b 0 7) (e1 : hi = mtFM s a b 1 7) (hz : lo ||| hi = 0) : CPPM n a (b + 1) s t := by sorry
theorem cppm_y {n a b : Int} {s t t1 t2 t3 t4 : PS} {lo hi : Int64} (h : CPPM n a b s t) (a0 : 0 ≤ a) (ab : a < b) (b1 : b ≤ 11) (e0 : lo = mtFM s a b 0 7) (e1 : hi = mtFM s a b 1 7) (h1 : t1 = uC t 62 (iI t 44).toNat (Int32.ofInt (a * 12 + b))) (h2 : t2 = uD t1 63 (iI t1 44 * 2).toNat lo) (h3 : t3 = uD t2 63 (iI t2 44 * 2 + 1).toNat hi) (h4 : t4 = uI t3 44 (Int32.ofInt (iI t3 44 + 1))) : CPPM n a (b + 1) s t4 := by sorry
def CPLM (s : PS) : Prop := (0 ≤ iI s 44 ∧ iI s 44 ≤ 66) ∧ ∀ H : CpH, (∀ a b, H a b 0 0 = 0) → CPSM s H (iI s 44).toNat = sm (fun a => sm (CPHM s H a) (iI s 43).toNat) (iI s 43).toNat
theorem CPLM_fm {L M : List Nat} {s t : PS} (F : Fm L M s t) (h : (43 ∉ L ∧ 44 ∉ L) ∧ 62 ∉ M ∧ 63 + 1000 ∉ M ∧ 59 + 1000 ∉ M ∧ 60 + 1000 ∉ M) (r : CPLM s) : CPLM t := by sorry
theorem cplm_of {n : Int} {s t : PS} (h : CPOM n n s t) (hn : n = iI t 43) (h0 : 0 ≤ n ∧ n ≤ 12) (h1 : ∀ j, gD t 59 j = gD s 59 j) (h2 : ∀ j, gD t 60 j = gD s 60 j) : CPLM t := by sorry
abbrev fsTM (s : PS) (x : Int) (κ : Nat) : Int64 := gD s 61 (x * 5 + (κ : Int)).toNat
noncomputable def fsOM (s : PS) (x : Int) (lo hi : Int64) (n : Nat) : Int := sm (fun κ => bnN (fsTM s x κ &&& (hrK κ lo hi ^^^ thK κ lo hi))) n
noncomputable def fsIM (s : PS) (x : Int) (lo hi : Int64) (n : Nat) : Int := sm (fun κ => bnN (fsTM s x κ &&& hrK κ lo hi &&& thK κ lo hi)) n
noncomputable def fsCM (s : PS) (x : Int) (lo hi : Int64) : Int := bnN (fsTM s x 4 &&& hrK 4 lo hi &&& thK 4 lo hi)
theorem fsom_r {s : PS} {x : Int} {lo hi : Int64} {n : Nat} : 0 ≤ fsOM s x lo hi n ∧ fsOM s x lo hi n ≤ (n : Int) * 64 := by sorry
theorem fsim_r {s : PS} {x : Int} {lo hi : Int64} {n : Nat} : 0 ≤ fsIM s x lo hi n ∧ fsIM s x lo hi n ≤ (n : Int) * 64 := by sorry
theorem fscm_r {s : PS} {x : Int} {lo hi : Int64} : 0 ≤ fsCM s x lo hi ∧ fsCM s x lo hi ≤ 64 := by sorry
theorem fsm_c {s t : PS} {x : Int} {lo hi : Int64} (h : ∀ j, gD t 61 j = gD s 61 j) (n : Nat) : fsOM t x lo hi n = fsOM s x lo hi n ∧ fsIM t x lo hi n = fsIM s x lo hi n ∧ fsCM t x lo hi = fsCM s x lo hi := by sorry
def FSQM (s : PS) (x : Int) (lo hi : Int64) (c ov wi cl : Int) : Prop := ov = fsOM s x lo hi c.toNat ∧ wi = fsIM s x lo hi c.toNat ∧ cl = if c ≤ 4 then 0 else fsCM s x lo hi
theorem fsqm_0 {s : PS} {x : Int} {lo hi : Int64} : FSQM s x lo hi 0 0 0 0 := by sorry
theorem fsqm_y {s t : PS} {x c ov wi cl e1 e2 cl' : Int} {lo hi here there : Int64} (h : FSQM s x lo hi c ov wi cl) (hs : ∀ j, gD t 61 j = gD s 61 j) (c0 : 0 ≤ c) (c4 : c ≤ 4) (hh : here = hrK c.toNat lo hi) (ht : there = thK c.toNat lo hi) (b1 : e1 = bnN (gD t 61 (x * 5 + c).toNat &&& here &&& there)) (b2 : e2 = bnN (gD t 61 (x * 5 + c).toNat &&& (here ^^^ there))) (hc : (c = 4 ∧ cl' = e1) ∨ (c ≠ 4 ∧ cl' = 0)) : FSQM s x lo hi (c + 1) (ov + e2) (wi + e1) cl' := by sorry
theorem fsqm_z {s t : PS} {x c ov wi cl : Int} {lo hi : Int64} (h : FSQM s x lo hi c ov wi cl) (hs : ∀ j, gD t 61 j = gD s 61 j) (c0 : 0 ≤ c) (c4 : c ≤ 4) (hz : gD t 61 (x * 5 + c).toNat = 0) : FSQM s x lo hi (c + 1) ov wi cl := by sorry
def FSRM (OV IN CL VI : Nat) (x : Int) (lo hi : Int64) (s t : PS) : Prop := (∀ j, iC t OV j = if j = (iI s VI).toNat then fsOM s x lo hi 5 else iC s OV j) ∧ (∀ j, iC t IN j = if j = (iI s VI).toNat then fsIM s x lo hi 5 else iC s IN j) ∧ ∀ j, iC t CL j = if j = (iI s VI).toNat then fsCM s x lo hi else iC s CL j
theorem fsrm_of {OV IN CL VI : Nat} {x ov wi cl c : Int} {lo hi : Int64} {s t t1 t2 t3 : PS} (h : FSQM s x lo hi c ov wi cl) (hc : c = 5) (g1 : SAM OV s t) (g2 : SAM IN s t) (g3 : SAM CL s t) (hv : iI t VI = iI s VI) (d1 : OV ≠ IN) (d2 : OV ≠ CL) (d3 : IN ≠ CL) (h1 : t1 = uC t OV (iI t VI).toNat (Int32.ofInt ov)) (h2 : t2 = uC t1 IN (iI t1 VI).toNat (Int32.ofInt wi)) (h3 : t3 = uC t2 CL (iI t2 VI).toNat (Int32.ofInt cl)) : FSRM OV IN CL VI x lo hi s t3 := by sorry
noncomputable def VSGM (s : PS) (G : VsG) (lo hi : Int64) : Nat → Int := fun x => if (gD s 59 ((x : Int) * 2).toNat &&& lo) ||| (gD s 59 ((x : Int) * 2 + 1).toNat &&& hi) = 0 then 0 else G x (fsOM s x lo hi 5) (fsIM s x lo hi 5) (fsCM s x lo hi)
def VSQM (VG OV IN CL VI : Nat) (lo hi : Int64) (c : Int) (s t : PS) : Prop := (0 ≤ iI t VI ∧ iI t VI ≤ c) ∧ (∀ i : Nat, (i : Int) < iI t VI → (0 ≤ iC t OV i ∧ iC t OV i ≤ 320) ∧ (0 ≤ iC t IN i ∧ iC t IN i ≤ 320) ∧ 0 ≤ iC t CL i ∧ iC t CL i ≤ 64) ∧ ∀ G : VsG, VSS VG OV IN CL t G (iI t VI).toNat = sm (VSGM s G lo hi) c.toNat
theorem vsqm_0 {VG OV IN CL VI : Nat} {lo hi : Int64} {s t : PS} (h : iI t VI = 0) : VSQM VG OV IN CL VI lo hi 0 s t := by sorry
theorem vsqm_n {VG OV IN CL VI : Nat} {lo hi : Int64} {c : Int} {s t : PS} (h : VSQM VG OV IN CL VI lo hi c s t) (c0 : 0 ≤ c) (hm : ∀ j, gD t 59 j = gD s 59 j) (hz : (gD t 59 (c * 2).toNat &&& lo) ||| (gD t 59 (c * 2 + 1).toNat &&& hi) = 0) : VSQM VG OV IN CL VI lo hi (c + 1) s t := by sorry
theorem vsqm_y {VG OV IN CL VI : Nat} {lo hi : Int64} {c : Int} {s t t1 t2 t3 : PS} (h : VSQM VG OV IN CL VI lo hi c s t) (c0 : 0 ≤ c) (c1 : c ≤ 11) (hm : ∀ j, gD t 59 j = gD s 59 j) (hn : (gD t 59 (c * 2).toNat &&& lo) ||| (gD t 59 (c * 2 + 1).toNat &&& hi) ≠ 0) (hs : ∀ j, gD t1 61 j = gD s 61 j) (d1 : VG ≠ OV) (d2 : VG ≠ IN) (d3 : VG ≠ CL) (h1 : t1 = uC t VG (iI t VI).toNat (Int32.ofInt c)) (f2 : FSRM OV IN CL VI c lo hi t1 t2) (g2 : SAM VG t1 t2) (v2 : iI t2 VI = iI t1 VI) (h3 : t3 = uI t2 VI (Int32.ofInt (iI t2 VI + 1))) : VSQM VG OV IN CL VI lo hi (c + 1) s t3 := by sorry
noncomputable def MTGM (s : PS) (G : MtG) (lo hi : Int64) : Nat → Int := fun k => G (iC s 62 k / 12).toNat (iC s 62 k % 12).toNat (bnN (gD s 63 ((k : Int) * 2).toNat &&& lo) + bnN (gD s 63 ((k : Int) * 2 + 1).toNat &&& hi))
def MTQM (FI SE OF ME : Nat) (lo hi : Int64) (c : Int) (s t : PS) : Prop := (0 ≤ iI t ME ∧ iI t ME ≤ c) ∧ (∀ i : Nat, (i : Int) < iI t ME → 0 ≤ iC t OF i ∧ iC t OF i ≤ 128) ∧ ∀ G : MtG, (∀ a b, G a b 0 = 0) → MTS FI SE OF t G (iI t ME).toNat = sm (MTGM s G lo hi) c.toNat
theorem mtqm_0 {FI SE OF ME : Nat} {lo hi : Int64} {s t : PS} (h : iI t ME = 0) : MTQM FI SE OF ME lo hi 0 s t := by sorry
theorem mtqm_n {FI SE OF ME : Nat} {lo hi : Int64} {c e1 e2 : Int} {s t : PS} (h : MTQM FI SE OF ME lo hi c s t) (c0 : 0 ≤ c) (hm : ∀ j, gD t 63 j = gD s 63 j) (b1 : e1 = bnN (gD t 63 (c * 2).toNat &&& lo)) (b2 : e2 = bnN (gD t 63 (c * 2 + 1).toNat &&& hi)) (hz : e1 + e2 ≤ 0) : MTQM FI SE OF ME lo hi (c + 1) s t := by sorry
theorem mtqm_y {FI SE OF ME : Nat} {lo hi : Int64} {c e1 e2 v1 v2 v3 : Int} {s t t1 t2 t3 t4 : PS} (h : MTQM FI SE OF ME lo hi c s t) (c0 : 0 ≤ c) (c1 : c ≤ 65) (hm : ∀ j, gD t 63 j = gD s 63 j) (hc : ∀ j, iC t 62 j = iC s 62 j) (cr : 0 ≤ iC t 62 c.toNat ∧ iC t 62 c.toNat ≤ 143) (b1 : e1 = bnN (gD t 63 (c * 2).toNat &&& lo)) (b2 : e2 = bnN (gD t 63 (c * 2 + 1).toNat &&& hi)) (d1 : FI ≠ SE) (d2 : FI ≠ OF) (d3 : SE ≠ OF) (hv1 : v1 = iC t 62 c.toNat / 12) (hv2 : v2 = iC t 62 c.toNat % 12) (hv3 : v3 = e1 + e2) (h1 : t1 = uC t FI (iI t ME).toNat (Int32.ofInt v1)) (h2 : t2 = uC t1 SE (iI t1 ME).toNat (Int32.ofInt v2)) (h3 : t3 = uC t2 OF (iI t2 ME).toNat (Int32.ofInt v3)) (h4 : t4 = uI t3 ME (Int32.ofInt (iI t3 ME + 1))) : MTQM FI SE OF ME lo hi (c + 1) s t4 := by sorry
theorem vsqm_c {VG OV IN CL VI : Nat} {lo hi : Int64} {c c' : Int} {s t u v : PS} (h : VSQM VG OV IN CL VI lo hi c s t) (ec : c' = c) (e1 : ∀ j, gD u 59 j = gD s 59 j) (e2 : ∀ j, gD u 61 j = gD s 61 j) (f0 : iI v VI = iI t VI) (f1 : ∀ j, iC v VG j = iC t VG j) (f2 : ∀ j, iC v OV j = iC t OV j) (f3 : ∀ j, iC v IN j = iC t IN j) (f4 : ∀ j, iC v CL j = iC t CL j) : VSQM VG OV IN CL VI lo hi c' u v := by sorry
theorem mtqm_c {FI SE OF ME : Nat} {lo hi : Int64} {c c' : Int} {s t u v : PS} (h : MTQM FI SE OF ME lo hi c s t) (ec : c' = c) (e1 : ∀ j, gD u 63 j = gD s 63 j) (e2 : ∀ j, iC u 62 j = iC s 62 j) (f0 : iI v ME = iI t ME) (f1 : ∀ j, iC v FI j = iC t FI j) (f2 : ∀ j, iC v SE j = iC t SE j) (f3 : ∀ j, iC v OF j = iC t OF j) : MTQM FI SE OF ME lo hi c' u v := by sorry
theorem vism_air {s : PS} (h : AIRM s) {x : Nat} (hx : (x : Int) < iI s 43) {lo hi : Int64} : (gD s 59 ((x : Int) * 2).toNat &&& lo) ||| (gD s 59 ((x : Int) * 2 + 1).toNat &&& hi) ≠ 0 ↔ viH (inL lo hi) (fwCM s x) (iC s 58 x) := by sorry
theorem fsm_air {s : PS} (h : AIRM s) {x : Nat} (hx : (x : Int) < iI s 43) {lo hi : Int64} : fsOM s x lo hi 5 = ovH (inL lo hi) (fwCM s x) (iC s 58 x - 1).toNat ∧ fsIM s x lo hi 5 = inH (inL lo hi) (fwCM s x) (iC s 58 x - 1).toNat ∧ fsCM s x lo hi = clH (inL lo hi) (fwCM s x) (iC s 58 x - 1).toNat := by sorry
theorem vsgm_air {s : PS} (h : AIRM s) {x : Nat} (hx : (x : Int) < iI s 43) {lo hi : Int64} {G : VsG} : VSGM s G lo hi x = @ite Int (viH (inL lo hi) (fwCM s x) (iC s 58 x)) (Classical.propDecidable _) (G x (ovH (inL lo hi) (fwCM s x) (iC s 58 x - 1).toNat) (inH (inL lo hi) (fwCM s x) (iC s 58 x - 1).toNat) (clH (inL lo hi) (fwCM s x) (iC s 58 x - 1).toNat)) 0 := by sorry
def moXM (s : PS) (q w : Int) (x : Nat) : Int := if (x : Int) = w then 0 else iC s 67 (q * 12 + (x : Int)).toNat
theorem moxm_0 {s : PS} {q w v : Int} (h0 : 0 ≤ v) (h : v = w) : (0 : Int) = moXM s q w v.toNat := by sorry
theorem moxm_1 {s : PS} {q w v r i : Int} (h0 : 0 ≤ v) (h : v ≠ w) (hr : r = q * 12) (hi : i = r + v) : iC s 67 i.toNat = moXM s q w v.toNat := by sorry
theorem moxm_nn {s : PS} {q w : Int} {x : Nat} (h : ∀ j, j < 288 → 0 ≤ iC s 67 j) (hq : 0 ≤ q ∧ q ≤ 23) (hx : x < 12) : 0 ≤ moXM s q w x := by sorry
theorem cppm_c {L M : List Nat} {n a b : Int} {s t u : PS} (h : CPPM n a b s t) (F : Fm L M t u) (hx : 44 ∉ L ∧ 62 ∉ M ∧ 63 + 1000 ∉ M) : CPPM n a b s u := by sorry
theorem bdm_mos {s : PS} (I : Bd s) {j : Nat} (hj : j < 288) : 0 ≤ iC s 67 j ∧ iC s 67 j ≤ 50 := by sorry
def AIN (n : Int) (s : PS) : Prop := ∀ x : Nat, (x : Int) < n → WOK (fun k => iC s 57 (24 * x + k)) (iC s 58 x) ∧
  (∀ d : Nat, d < 128 → (bJ (gD s 59 (2 * x + d / 64)) (d % 64) ↔ ∃ k : Nat, (k : Int) < iC s 58 x ∧ iC s 57 (24 * x + k) = (d : Int))) ∧
  (∀ g d : Nat, g < 7 → d < 128 → (bJ (gD s 60 (14 * x + 2 * g + d / 64)) (d % 64) ↔ ∃ k : Nat, (k : Int) < iC s 58 x ∧ iC s 57 (24 * x + k) = (d : Int) ∧ goK (fun k => iC s 57 (24 * x + k)) (iC s 58 x) k = (g : Int))) ∧
  ∀ κ j : Nat, κ < 5 → j < 64 → (bJ (gD s 61 (5 * x + κ)) j ↔ stP (fun k => iC s 57 (24 * x + k)) (iC s 58 x) (iC s 58 x) κ j)
def CWG (f : Nat → Int) (x w : Int) (s t : PS) : Prop := (∀ j : Nat, j < 288 → iC t 57 j = if (x * 24).toNat ≤ j ∧ j < (x * 24).toNat + w.toNat then f (j - (x * 24).toNat) else iC s 57 j) ∧ UPD 58 x w s t
theorem cwg_of {a : Nat} {x w z : Int} {s u t : PS} (c : CPY a 57 288 z (x * 24) w s u) (h : SAM 57 u t) (h0 : SAM 58 s u) (g : UPD 58 x w u t) : CWG (fun k => iC s a (z.toNat + k)) x w s t := by sorry
theorem cwg_sam {f : Nat → Int} {x w : Int} {s t u : PS} (c : CWG f x w s t) (h1 : SAM 57 t u) (h2 : SAM 58 t u) : CWG f x w s u := by sorry
theorem cwg_c {f : Nat → Int} {x w : Int} {s t : PS} (h : CWG f x w s t) (x0 : 0 ≤ x ∧ x ≤ 11) (w0 : w ≤ 24) : ∀ k : Nat, (k : Int) < w → iC t 57 (24 * x.toNat + k) = f k := by sorry
theorem cwg_c2 {f : Nat → Int} {x w : Int} {s t : PS} (h : CWG f x w s t) (x0 : 0 ≤ x ∧ x ≤ 11) : ∀ j : Nat, j < 24 * x.toNat → iC t 57 j = iC s 57 j := by sorry
theorem ain_up {f : Nat → Int} {n w : Int} {s t : PS} (h : AIN n s) (h0 : 0 ≤ n ∧ n ≤ 11) (hw : WRQM f n w w s t) (ho : WOK f w) (hg : CWG f n w s t) : AIN (n + 1) t := by sorry
theorem ain_le {n m : Int} {s : PS} (h : AIN n s) (hm : m ≤ n) : AIN m s := by sorry
theorem ain_air {s : PS} (h : AIN (iI s 43) s) (h0 : iI s 43 ≤ 12) : AIRM s := by sorry
section M87kt
variable {l : Launch} {s0 : State} {D : va_G} {tys : List (ClassId × FieldType)} {a0 : Array Value} {A : Nat → Nat} {dT : Nat → ClassId} {s : PS}
set_option maxRecDepth 4000 in
theorem c9_setStep3m (G : GX l s0 D tys a0 dT) (I : Bd s) {x y z : Int} (p0 : 0 ≤ x ∧ x ≤ 11) (p1 : 0 ≤ y ∧ y ≤ 127) (p2 : 0 ≤ z ∧ z ≤ 5) : CT l s0 D A dT 109 (rmN 109) [.ref (A 68), .int (Int32.ofInt x), .int (Int32.ofInt y), .int (Int32.ofInt z)] s (fun o t => Bd t ∧ Fm [] [1061] s t ∧ o = .inl none ∧ (t = uD s 61 (x * 5 + kdZ y z).toNat (gD s 61 (x * 5 + kdZ y z).toNat ||| jshl 1 (y % 64)))) := by sorry
set_option maxRecDepth 4000 in
theorem c9_wipe3m (G : GX l s0 D tys a0 dT) (I : Bd s) {x : Int} (p0 : 0 ≤ x ∧ x ≤ 11) : CT l s0 D A dT 108 (rmN 108) [.ref (A 68), .int (Int32.ofInt x)] s (fun o t => Bd t ∧ Fm [] [1059, 1060, 1061] s t ∧ o = .inl none ∧ (WZQM x s t)) := by sorry
set_option maxRecDepth 4000 in
theorem c9_setWayMa (G : GX l s0 D tys a0 dT) (I : Bd s) {x z w : Int} (p0 : 0 ≤ x ∧ x ≤ 11) (p1 : 0 ≤ w ∧ w ≤ 24) (p2 : 0 ≤ z ∧ z + w ≤ 288) : CT l s0 D A dT 107 (rmN 107) [.ref (A 68), .int (Int32.ofInt x), .ref (A 4), .int (Int32.ofInt z), .int (Int32.ofInt w)] s (fun o t => Bd t ∧ Fm [] [57, 58, 1059, 1060, 1061] s t ∧ o = .inl none ∧ (CWG (fun k => iC s 1 ((z : Int).toNat + k)) x w s t ∧ WRQM (fun k => iC s 1 ((z : Int).toNat + k)) x w w s t)) := by sorry
set_option maxRecDepth 4000 in
theorem c9_setWayMp (G : GX l s0 D tys a0 dT) (I : Bd s) {x z w : Int} (p0 : 0 ≤ x ∧ x ≤ 11) (p1 : 0 ≤ w ∧ w ≤ 24) (p2 : 0 ≤ z ∧ z + w ≤ 24) : CT l s0 D A dT 107 (rmN 107) [.ref (A 68), .int (Int32.ofInt x), .ref (A 92), .int (Int32.ofInt z), .int (Int32.ofInt w)] s (fun o t => Bd t ∧ Fm [] [57, 58, 1059, 1060, 1061] s t ∧ o = .inl none ∧ (CWG (fun k => iC s 79 ((z : Int).toNat + k)) x w s t ∧ WRQM (fun k => iC s 79 ((z : Int).toNat + k)) x w w s t)) := by sorry
set_option maxRecDepth 4000 in
theorem c9_meetsOf3m (G : GX l s0 D tys a0 dT) (I : Bd s) {x y z : Int} (p0 : 0 ≤ x ∧ x ≤ 11) (p1 : 0 ≤ y ∧ y ≤ 11) (p2 : 0 ≤ z ∧ z ≤ 1) : CT l s0 D A dT 111 (rmN 111) [.ref (A 68), .int (Int32.ofInt x), .int (Int32.ofInt y), .int (Int32.ofInt z)] s (fun o t => Bd t ∧ Fm [] [] s t ∧ ∃ e : Int64, o = .inl (some (.long e)) ∧ (e = mtFM s x y z 7)) := by sorry
set_option maxRecDepth 4000 in
theorem c9_pairUp3m (G : GX l s0 D tys a0 dT) (I : Bd s)  : CT l s0 D A dT 110 (rmN 110) [.ref (A 68)] s (fun o t => Bd t ∧ Fm [44] [62, 1063] s t ∧ o = .inl none ∧ (CPLM t)) := by sorry
end M87kt
