theorem oq_f1a90b10 {a0 a1 : Int} (h0 : a0 = a1) (h1 : a1 ≤ 24) : a0 ≤ 2147483647 := by omega
theorem oq_eb560c61 {a0 a1 a2 : Int} (h0 : a0 = a1) (h1 : 0 ≤ a2) (h2 : 0 ≤ a1) : 0 ≤ (a0 + a2) := by omega
theorem oq_09e9453c {a0 a1 a2 a3 a4 : Int} (h0 : a0 = a1) (h1 : a2 < a3) (h2 : a3 = a4) (h3 : (a1 + a4) ≤ 288) : (a0 + a2) < 288 := by omega
theorem oq_05fa5e56 {a0 a1 a2 a3 a4 : Int} (h0 : a0 = a1) (h1 : a2 < a3) (h2 : a3 = a4) (h3 : (a1 + a4) ≤ 288) : ((a0 + a2) : Int).toNat < 288 := by omega
theorem oq_6e790857 {a0 a1 a2 : Int} (h0 : 0 ≤ a0) (h1 : 0 ≤ a1) (h2 : a2 = a1) : 0 ≤ ((a2 * 2) + (a0 / 64)) := by omega
theorem oq_9e99edc9 {a0 a1 a2 : Int} (h0 : a0 ≤ 127) (h1 : a1 ≤ 11) (h2 : a2 = a1) : ((a2 * 2) + (a0 / 64)) < 24 := by omega
theorem oq_d161f920 {a0 a1 a2 a3 : Int} (h0 : 0 ≤ a0) (h1 : 0 ≤ a1) (h2 : 0 ≤ a2) (h3 : a3 = a2) : 0 ≤ ((((a3 * 7) + a1) * 2) + (a0 / 64)) := by omega
theorem oq_5e800b0f {a0 a1 a2 a3 : Int} (h0 : a0 ≤ 127) (h1 : a1 ≤ 6) (h2 : a2 ≤ 11) (h3 : a3 = a2) : ((((a3 * 7) + a1) * 2) + (a0 / 64)) < 168 := by omega
theorem oq_2c5393a1 {a0 a1 a2 : Int} (h0 : a0 < a1) (h1 : a1 = a2) (h2 : a2 ≤ 24) : (a0 + 1) ≤ 24 := by omega
theorem oq_e6203394 {a0 a1 a2 : Int} (h0 : a0 < a1) (h1 : a1 = a2) (h2 : a2 ≤ 24) : 0 < (24 - a0) := by omega
theorem oq_f2d6cc15 {a0 a1 a2 : Int} (h0 : a0 = a1) (h1 : 0 ≤ a2) (h2 : 0 ≤ a1) : 0 ≤ ((a0 + a2) + 1) := by omega
theorem oq_cd948ef7 {a0 a1 a2 a3 a4 : Int} (h0 : a0 = a1) (h1 : (a1 + a2) ≤ 288) (h2 : (a3 + 1) < a4) (h3 : a4 = a2) : ((a0 + a3) + 1) < 288 := by omega
theorem oq_4c308d7f {a0 a1 a2 a3 a4 : Int} (h0 : a0 = a1) (h1 : (a1 + a2) ≤ 288) (h2 : (a3 + 1) < a4) (h3 : a4 = a2) : (((a0 + a3) + 1) : Int).toNat < 288 := by omega
theorem oq_38e17b37 {a0 a1 : Int} (h0 : a0 = a1) (h1 : a1 ≤ 11) : a0 ≤ 11 := by omega
theorem oq_35c8eba5 {a0 a1 a2 a3 : Int} (h0 : 0 ≤ a0) (h1 : 0 ≤ a1) (h2 : 0 ≤ a2) (h3 : a3 = a2) : 0 ≤ ((((a3 * 7) + a0) * 2) + (a1 / 64)) := by omega
theorem oq_d9ee5368 {a0 a1 a2 a3 : Int} (h0 : a0 ≤ 5) (h1 : a1 ≤ 127) (h2 : a2 ≤ 11) (h3 : a3 = a2) : ((((a3 * 7) + a0) * 2) + (a1 / 64)) < 168 := by omega
theorem oq_5c168ac4 {a0 a1 a2 : Int} (h0 : (a0 + 1) < a1) (h1 : a1 = a2) (h2 : a2 ≤ 24) : (a0 + 1) ≤ 24 := by omega
theorem oq_9de10623 {a0 a1 a2 : Int} (h0 : (a0 + 1) < a1) (h1 : a1 = a2) (h2 : a2 ≤ 24) : 0 < (24 - a0) := by omega
theorem oq_78c956af {a0 a1 a2 a3 a4 : Int} (h0 : a0 = a1) (h1 : a2 < a3) (h2 : a3 = a4) (h3 : (a1 + a4) ≤ 24) : (a0 + a2) < 24 := by omega
theorem oq_a1e4607c {a0 a1 a2 a3 a4 : Int} (h0 : a0 = a1) (h1 : a2 < a3) (h2 : a3 = a4) (h3 : (a1 + a4) ≤ 24) : ((a0 + a2) : Int).toNat < 24 := by omega
theorem oq_c04285d6 {a0 a1 a2 a3 a4 : Int} (h0 : a0 = a1) (h1 : (a1 + a2) ≤ 24) (h2 : (a3 + 1) < a4) (h3 : a4 = a2) : ((a0 + a3) + 1) < 24 := by omega
theorem oq_96891ef5 {a0 a1 a2 a3 a4 : Int} (h0 : a0 = a1) (h1 : (a1 + a2) ≤ 24) (h2 : (a3 + 1) < a4) (h3 : a4 = a2) : (((a0 + a3) + 1) : Int).toNat < 24 := by omega
/-! The air as it is mended -/
def SDMM (s t : PS) : Prop := ∀ j : Nat, gD t 59 j = gD s 59 j
theorem sdmm_rf {s : PS} : SDMM s s := fun _ => rfl
theorem sdmm_ts {s t u : PS} (h : SDMM s t) (g : SDMM t u) : SDMM s u := fun j => (g j).trans (h j)
theorem sdmm_fm {L M : List Nat} {s t : PS} (F : Fm L M s t) (h : 59 + 1000 ∉ M) : SDMM s t := fun _ => fm_dd F h
def WRQM (f : Nat → Int) (x w c : Int) (s t : PS) : Prop :=
  BQT 59 (x * 2).toNat 2 (fun j i => ∃ k : Nat, (k : Int) < c ∧ f k / 64 = (j : Int) ∧ f k % 64 = (i : Int)) s t ∧ BQT 60 (x * 14).toNat 14 (fun j i => gmP f w c j i) s t ∧ BQT 61 (x * 5).toNat 5 (fun j i => stP f w c j i) s t
def WZQM (x : Int) (s t : PS) : Prop := BZT 59 (x * 2).toNat 2 s t ∧ BZT 60 (x * 14).toNat 14 s t ∧ BZT 61 (x * 5).toNat 5 s t
theorem wrqm_0 {f : Nat → Int} {x w : Int} {r s t : PS} (h : WZQM x s t) (h1 : SDa 59 r s) (h2 : SDa 60 r s) (h3 : SDa 61 r s) : WRQM f x w 0 r t := by
  refine ⟨bq_ext (bq_bas (bz_bq h.1) h1) (fun j i _ _ => ⟨False.elim, fun ⟨k, hk, _⟩ => by omega⟩), bq_ext (bq_bas (bz_bq h.2.1) h2) (fun j i _ _ => ⟨False.elim, fun ⟨k, hk, _⟩ => by omega⟩), bq_ext (bq_bas (bz_bq h.2.2) h3) (fun j i _ _ => ⟨False.elim, fun ⟨k, hk, _⟩ => by omega⟩)⟩
theorem wrqm_last {f : Nat → Int} {x w c g e i1 i2 : Int} {s t u v : PS} (h : WRQM f x w c s t) (hu : u = uD t 59 i1.toNat (gD t 59 i1.toNat ||| jshl 1 (e % 64))) (hv : v = uD u 60 i2.toNat (gD u 60 i2.toNat ||| jshl 1 (e % 64))) (he : e = f c.toNat) (e0 : 0 ≤ e ∧ e ≤ 127) (x0 : 0 ≤ x) (c0 : 0 ≤ c) (hg : g = goK f w c.toNat) (g0 : 0 ≤ g ∧ g ≤ 6) (h1 : i1 = x * 2 + e / 64) (h2 : i2 = (x * 7 + g) * 2 + e / 64) (hl : w ≤ c + 1) : WRQM f x w (c + 1) s v := by
  obtain ⟨m, gm, st⟩ := h
  refine ⟨?_, ?_, ?_⟩
  · refine bq_sam (bq_up (i0 := i1) (c := e % 64) m hu (by omega) (by omega) (fun j i hj hi => ?_)) (fun j => by rw [hv]; exact sda_D (by decide) sda_rf j)
    constructor
    · rintro ⟨k, k1, k2, k3⟩
      by_cases z : k = c.toNat
      · rw [z, ← he] at k2 k3
        exact Or.inr ⟨by omega, by omega⟩
      · exact Or.inl ⟨k, by omega, k2, k3⟩
    · rintro (⟨k, k1, k2, k3⟩ | ⟨q1, q2⟩)
      · exact ⟨k, by omega, k2, k3⟩
      · exact ⟨c.toNat, by omega, by rw [← he]; omega, by rw [← he]; omega⟩
  · have gm2 := bq_sam gm (fun j => show gD u 60 j = gD t 60 j by rw [hu]; exact sda_D (by decide) sda_rf j)
    refine bq_up (i0 := i2) (c := e % 64) gm2 hv (by omega) (by omega) (fun j i hj hi => ?_)
    rw [gm_up c0, ← hg, ← he]
    constructor
    · rintro (q | q)
      · exact Or.inl q
      · exact Or.inr ⟨by omega, by omega⟩
    · rintro (q | q)
      · exact Or.inl q
      · exact Or.inr ⟨by omega, by omega⟩
  · refine bq_sam (bq_ext st (fun j i _ _ => (st_no hl).symm)) (fun j => by rw [hv, hu]; exact sda_D (by decide) (sda_D (by decide) sda_rf) j)
theorem wrqm_more {f : Nat → Int} {x w c g e i1 i2 i3 y : Int} {s t r u v : PS} (h : WRQM f x w c s t) (hr : r = uD t 61 i3.toNat (gD t 61 i3.toNat ||| jshl 1 (y % 64))) (hu : u = uD r 59 i1.toNat (gD r 59 i1.toNat ||| jshl 1 (e % 64))) (hv : v = uD u 60 i2.toNat (gD u 60 i2.toNat ||| jshl 1 (e % 64))) (he : e = f c.toNat) (e0 : 0 ≤ e ∧ e ≤ 127) (x0 : 0 ≤ x) (c0 : 0 ≤ c) (hg : g = goB (f c.toNat) (f (c + 1).toNat)) (h1 : i1 = x * 2 + e / 64) (h2 : i2 = (x * 7 + g) * 2 + e / 64) (hy : y = lsK f c.toNat) (y0 : 0 ≤ y ∧ y ≤ 127) (h3 : i3 = x * 5 + kdZ y g) (k0 : 0 ≤ kdZ y g ∧ kdZ y g ≤ 4) (hl : c + 1 < w) : WRQM f x w (c + 1) s v := by
  obtain ⟨m, gm, st⟩ := h
  have g0 : 0 ≤ g ∧ g ≤ 5 := by rw [hg]; exact goB_r
  have ek : kdZ y g = kdK f c.toNat := by rw [hy, hg, show (c + 1).toNat = c.toNat + 1 by omega]; exact kdZ_K
  refine ⟨?_, ?_, ?_⟩
  · have m2 := bq_sam m (fun j => show gD r 59 j = gD t 59 j by rw [hr]; exact sda_D (by decide) sda_rf j)
    refine bq_sam (bq_up (i0 := i1) (c := e % 64) m2 hu (by omega) (by omega) (fun j i hj hi => ?_)) (fun j => by rw [hv]; exact sda_D (by decide) sda_rf j)
    constructor
    · rintro ⟨k, k1, k2, k3⟩
      by_cases z : k = c.toNat
      · rw [z, ← he] at k2 k3
        exact Or.inr ⟨by omega, by omega⟩
      · exact Or.inl ⟨k, by omega, k2, k3⟩
    · rintro (⟨k, k1, k2, k3⟩ | ⟨q1, q2⟩)
      · exact ⟨k, by omega, k2, k3⟩
      · exact ⟨c.toNat, by omega, by rw [← he]; omega, by rw [← he]; omega⟩
  · have gm2 := bq_sam gm (fun j => show gD u 60 j = gD t 60 j by rw [hu, hr]; exact sda_D (by decide) (sda_D (by decide) sda_rf) j)
    have hgk := gok_n (f := f) c0 hl hg
    refine bq_up (i0 := i2) (c := e % 64) gm2 hv (by omega) (by omega) (fun j i hj hi => ?_)
    rw [gm_up c0, ← hgk, ← he]
    constructor
    · rintro (q | q)
      · exact Or.inl q
      · exact Or.inr ⟨by omega, by omega⟩
    · rintro (q | q)
      · exact Or.inl q
      · exact Or.inr ⟨by omega, by omega⟩
  · refine bq_sam (bq_up (i0 := i3) (c := y % 64) st hr (by omega) (by omega) (fun j i hj hi => ?_)) (fun j => by rw [hv, hu]; exact sda_D (by decide) (sda_D (by decide) sda_rf) j)
    rw [st_up c0 hl, ← ek, ← hy]
    constructor
    · rintro (q | q)
      · exact Or.inl q
      · exact Or.inr ⟨by omega, by omega⟩
    · rintro (q | q)
      · exact Or.inl q
      · exact Or.inr ⟨by omega, by omega⟩
def SDGM (s t : PS) : Prop := SDa 60 s t
theorem sdgm_rf {s : PS} : SDGM s s := sda_rf
theorem sdgm_ts {s t u : PS} (h : SDGM s t) (g : SDGM t u) : SDGM s u := sda_ts h g
theorem sdgm_fm {L M : List Nat} {s t : PS} (F : Fm L M s t) (h : 60 + 1000 ∉ M) : SDGM s t := sda_fm F h
def SDPM (s t : PS) : Prop := SDa 61 s t
theorem sdpm_rf {s : PS} : SDPM s s := sda_rf
theorem sdpm_ts {s t u : PS} (h : SDPM s t) (g : SDPM t u) : SDPM s u := sda_ts h g
theorem sdpm_fm {L M : List Nat} {s t : PS} (F : Fm L M s t) (h : 61 + 1000 ∉ M) : SDPM s t := sda_fm F h
def WZ1M (x c : Int) (s t : PS) : Prop := BZT 59 (x * 2).toNat 2 s t ∧ BZT 60 (x * 14).toNat c.toNat s t ∧ SDa 61 s t
def WZ2M (x c : Int) (s t : PS) : Prop := BZT 59 (x * 2).toNat 2 s t ∧ BZT 60 (x * 14).toNat 14 s t ∧ BZT 61 (x * 5).toNat c.toNat s t
theorem wz1m_0 {x i j : Int} {s t u : PS} (h1 : t = uD s 59 i.toNat 0) (h2 : u = uD t 59 j.toNat 0) (hi : i = x * 2) (hj : j = x * 2 + 1) (x0 : 0 ≤ x) : WZ1M x 0 s u := by
  refine ⟨bz_up (bz_up bz_0 h1 (by omega)) h2 (by omega), bz_sam bz_0 (fun k => ?_), fun k => ?_⟩
  · rw [h2, h1]; exact sda_D (by decide) (sda_D (by decide) sda_rf) k
  · rw [h2, h1]; exact sda_D (by decide) (sda_D (by decide) sda_rf) k
theorem wz1m_up {x c i : Int} {s t u : PS} (h : WZ1M x c s t) (hu : u = uD t 60 i.toNat 0) (hi : i = x * 14 + c) (x0 : 0 ≤ x) (c0 : 0 ≤ c) : WZ1M x (c + 1) s u := by
  refine ⟨bz_sam h.1 (fun k => by rw [hu]; exact sda_D (by decide) sda_rf k), ?_, sda_ts h.2.2 (by rw [hu]; exact sda_D (by decide) sda_rf)⟩
  rw [show (c + 1).toNat = c.toNat + 1 by omega]
  exact bz_up h.2.1 hu (by omega)
theorem wz2m_0 {x : Int} {s t : PS} (h : WZ1M x 14 s t) : WZ2M x 0 s t := ⟨h.1, h.2.1, bz_sam bz_0 h.2.2⟩
theorem wz2m_up {x c i : Int} {s t u : PS} (h : WZ2M x c s t) (hu : u = uD t 61 i.toNat 0) (hi : i = x * 5 + c) (x0 : 0 ≤ x) (c0 : 0 ≤ c) : WZ2M x (c + 1) s u := by
  refine ⟨bz_sam h.1 (fun k => by rw [hu]; exact sda_D (by decide) sda_rf k), bz_sam h.2.1 (fun k => by rw [hu]; exact sda_D (by decide) sda_rf k), ?_⟩
  rw [show (c + 1).toNat = c.toNat + 1 by omega]
  exact bz_up h.2.2 hu (by omega)
def AIRM (s : PS) : Prop := iI s 43 ≤ 12 ∧ ∀ x : Nat, (x : Int) < iI s 43 → WOK (fun k => iC s 57 (24 * x + k)) (iC s 58 x) ∧
  (∀ d : Nat, d < 128 → (bJ (gD s 59 (2 * x + d / 64)) (d % 64) ↔ ∃ k : Nat, (k : Int) < iC s 58 x ∧ iC s 57 (24 * x + k) = (d : Int))) ∧
  (∀ g d : Nat, g < 7 → d < 128 → (bJ (gD s 60 (14 * x + 2 * g + d / 64)) (d % 64) ↔ ∃ k : Nat, (k : Int) < iC s 58 x ∧ iC s 57 (24 * x + k) = (d : Int) ∧ goK (fun k => iC s 57 (24 * x + k)) (iC s 58 x) k = (g : Int))) ∧
  ∀ κ j : Nat, κ < 5 → j < 64 → (bJ (gD s 61 (5 * x + κ)) j ↔ stP (fun k => iC s 57 (24 * x + k)) (iC s 58 x) (iC s 58 x) κ j)
theorem AIRM_fm {L M : List Nat} {s t : PS} (F : Fm L M s t) (h : 43 ∉ L ∧ 57 ∉ M ∧ 58 ∉ M ∧ 59 + 1000 ∉ M ∧ 60 + 1000 ∉ M ∧ 61 + 1000 ∉ M) (r : AIRM s) : AIRM t := by
  have e1 : iI t 43 = iI s 43 := fm_i F h.1
  have e2 : ∀ j, iC t 57 j = iC s 57 j := fun j => fm_c F h.2.1
  have e3 : ∀ j, iC t 58 j = iC s 58 j := fun j => fm_c F h.2.2.1
  have e4 : ∀ j, gD t 59 j = gD s 59 j := fun j => fm_dd F h.2.2.2.1
  have e5 : ∀ j, gD t 60 j = gD s 60 j := fun j => fm_dd F h.2.2.2.2.1
  have e6 : ∀ j, gD t 61 j = gD s 61 j := fun j => fm_dd F h.2.2.2.2.2
  refine ⟨by rw [e1]; exact r.1, fun x hx => ?_⟩
  rw [e1] at hx
  have z := r.2 x hx
  simp only [e2, e3, e4, e5, e6]
  exact z
def mtFM (s : PS) (x y z : Int) : Nat → Int64
  | 0 => gD s 59 (x * 2 + z).toNat &&& gD s 59 (y * 2 + z).toNat
  | g + 1 => mtFM s x y z g &&& ((gD s 60 ((x * 7 + (g : Int)) * 2 + z).toNat &&& gD s 60 ((y * 7 + (g : Int)) * 2 + z).toNat) ^^^ lN 18446744073709551615)
theorem mtm_up {s t : PS} {x y z c : Int} {u : Int64} (hq : u = mtFM s x y z c.toNat) (h : ∀ j, gD t 60 j = gD s 60 j) (c0 : 0 ≤ c) : u &&& ((gD t 60 ((x * 7 + c) * 2 + z).toNat &&& gD t 60 ((y * 7 + c) * 2 + z).toNat) ^^^ lN 18446744073709551615) = mtFM s x y z (c + 1).toNat := by
  rw [show (c + 1).toNat = c.toNat + 1 by omega]
  show _ = mtFM s x y z c.toNat &&& ((gD s 60 ((x * 7 + ((c.toNat : Nat) : Int)) * 2 + z).toNat &&& gD s 60 ((y * 7 + ((c.toNat : Nat) : Int)) * 2 + z).toNat) ^^^ lN 18446744073709551615)
  rw [← hq, h, h, show ((c.toNat : Nat) : Int) = c by omega]
theorem mtm_z {s : PS} {x y z : Int} {g : Nat} (h : mtFM s x y z g = 0) : ∀ n : Nat, mtFM s x y z (g + n) = 0
  | 0 => h
  | n + 1 => by
    show mtFM s x y z (g + n) &&& _ = 0
    rw [mtm_z h n]; exact jz_and
theorem mtm_out {s : PS} {x y z c : Int} {u : Int64} (hq : u = mtFM s x y z c.toNat) (hu : u = 0) (h0 : 0 ≤ c) (h1 : c ≤ 7) : u = mtFM s x y z 7 := by
  have h := mtm_z (hq.symm.trans hu) (7 - c.toNat)
  rw [show c.toNat + (7 - c.toNat) = 7 by omega] at h
  rw [hu, h]
theorem mtm_c {s t : PS} {x y z : Int} (h1 : ∀ j, gD t 59 j = gD s 59 j) (h2 : ∀ j, gD t 60 j = gD s 60 j) : ∀ g : Nat, mtFM t x y z g = mtFM s x y z g
  | 0 => by show gD t 59 _ &&& gD t 59 _ = gD s 59 _ &&& gD s 59 _; rw [h1, h1]
  | g + 1 => by
    show mtFM t x y z g &&& ((gD t 60 _ &&& gD t 60 _) ^^^ _) = mtFM s x y z g &&& ((gD s 60 _ &&& gD s 60 _) ^^^ _)
    rw [mtm_c h1 h2 g, h2, h2]
theorem mtm_b {s : PS} {x y z : Int} {j : Nat} (hj : j < 64) : ∀ g : Nat, bJ (mtFM s x y z g) j ↔ (bJ (gD s 59 (x * 2 + z).toNat) j ∧ bJ (gD s 59 (y * 2 + z).toNat) j) ∧ ∀ h : Nat, h < g → ¬ (bJ (gD s 60 ((x * 7 + (h : Int)) * 2 + z).toNat) j ∧ bJ (gD s 60 ((y * 7 + (h : Int)) * 2 + z).toNat) j)
  | 0 => by
    show bJ (gD s 59 (x * 2 + z).toNat &&& gD s 59 (y * 2 + z).toNat) j ↔ _
    rw [jb_a]
    exact ⟨fun q => ⟨q, fun h hh => absurd hh (by omega)⟩, fun q => q.1⟩
  | g + 1 => by
    show bJ (mtFM s x y z g &&& ((gD s 60 ((x * 7 + (g : Int)) * 2 + z).toNat &&& gD s 60 ((y * 7 + (g : Int)) * 2 + z).toNat) ^^^ lN 18446744073709551615)) j ↔ _
    rw [jb_a, mtm_b hj g, jb_not hj, jb_a]
    constructor
    · rintro ⟨⟨a, b⟩, c⟩
      refine ⟨a, fun h hh => ?_⟩
      by_cases e : h = g
      · rw [e]; exact c
      · exact b h (by omega)
    · rintro ⟨a, b⟩
      exact ⟨⟨a, fun h hh => b h (by omega)⟩, b g (by omega)⟩
abbrev fwCM (s : PS) (x : Nat) : Nat → Int := fun k => iC s 57 (24 * x + k)
abbrev WYCM (s : PS) : WyS := (fwCM s, fun x => iC s 58 x)
theorem mtm_air {s : PS} (h : AIRM s) {a b : Nat} (ha : (a : Int) < iI s 43) (hb : (b : Int) < iI s 43) {z j : Nat} (hz : z < 2) (hj : j < 64) : bJ (mtFM s a b z 7) j ↔ ∃ k : Nat, (k : Int) < iC s 58 a ∧ fwCM s a k = ((64 * z + j : Nat) : Int) ∧ mtP (fwCM s a) (fwCM s b) (iC s 58 a) (iC s 58 b) k := by
  have ra := h.2 a ha
  have rb := h.2 b hb
  obtain ⟨wa, ma, ga, -⟩ := ra
  obtain ⟨wb, mb, gb, -⟩ := rb
  have ma' := ma (64 * z + j) (by omega)
  have mb' := mb (64 * z + j) (by omega)
  rw [show (64 * z + j) / 64 = z by omega, show (64 * z + j) % 64 = j by omega] at ma' mb'
  rw [mtm_b hj 7, show ((a : Int) * 2 + (z : Int)).toNat = 2 * a + z by omega, show ((b : Int) * 2 + (z : Int)).toNat = 2 * b + z by omega, ma', mb']
  have gg : ∀ g : Nat, g < 7 → (bJ (gD s 60 (((a : Int) * 7 + (g : Int)) * 2 + (z : Int)).toNat) j ↔ ∃ k : Nat, (k : Int) < iC s 58 a ∧ fwCM s a k = ((64 * z + j : Nat) : Int) ∧ goK (fwCM s a) (iC s 58 a) k = (g : Int)) := by
    intro g hg
    have := ga g (64 * z + j) hg (by omega)
    rw [show (64 * z + j) / 64 = z by omega, show (64 * z + j) % 64 = j by omega, show 14 * a + 2 * g + z = (((a : Int) * 7 + (g : Int)) * 2 + (z : Int)).toNat by omega] at this
    exact this
  have gh : ∀ g : Nat, g < 7 → (bJ (gD s 60 (((b : Int) * 7 + (g : Int)) * 2 + (z : Int)).toNat) j ↔ ∃ k : Nat, (k : Int) < iC s 58 b ∧ fwCM s b k = ((64 * z + j : Nat) : Int) ∧ goK (fwCM s b) (iC s 58 b) k = (g : Int)) := by
    intro g hg
    have := gb g (64 * z + j) hg (by omega)
    rw [show (64 * z + j) / 64 = z by omega, show (64 * z + j) % 64 = j by omega, show 14 * b + 2 * g + z = (((b : Int) * 7 + (g : Int)) * 2 + (z : Int)).toNat by omega] at this
    exact this
  constructor
  · rintro ⟨⟨⟨k, k1, k2⟩, ⟨l, l1, l2⟩⟩, no⟩
    refine ⟨k, k1, k2, l, l1, ?_, fun q => ?_⟩
    · show fwCM s b l = fwCM s a k
      exact l2.trans k2.symm
    · have r := @gok_r (fwCM s a) (iC s 58 a) k
      refine no (goK (fwCM s a) (iC s 58 a) k).toNat (by omega) ⟨(gg _ (by omega)).mpr ⟨k, k1, k2, by omega⟩, (gh _ (by omega)).mpr ⟨l, l1, l2, by omega⟩⟩
  · rintro ⟨k, k1, k2, l, l1, l2, l3⟩
    have l4 : fwCM s b l = ((64 * z + j : Nat) : Int) := l2.trans k2
    refine ⟨⟨⟨k, k1, k2⟩, ⟨l, l1, l4⟩⟩, fun g hg q => ?_⟩
    obtain ⟨q1, q2⟩ := q
    obtain ⟨k', e1, e2, e3⟩ := (gg g hg).mp q1
    obtain ⟨l', f1, f2, f3⟩ := (gh g hg).mp q2
    have ek := wa.2.2.2 k' k e1 k1 (e2.trans k2.symm)
    have el := wb.2.2.2 l' l f1 l1 (f2.trans l4.symm)
    subst ek el
    exact l3 (e3.trans f3.symm)
theorem mtm_cnt {s : PS} (h : AIRM s) {a b : Nat} (ha : (a : Int) < iI s 43) (hb : (b : Int) < iI s 43) {lo hi : Int64} : bnN (mtFM s a b 0 7 &&& lo) + bnN (mtFM s a b 1 7 &&& hi) = mtW (inL lo hi) (fwCM s a) (fwCM s b) (iC s 58 a) (iC s 58 b) := by
  have wa := (h.2 a ha).1
  have c := cnt_inj (g := fun k => (fwCM s a k).toNat) (M := 128) (X := fun i => inL lo hi (i : Int) ∧ ∃ k : Nat, (k : Int) < iC s 58 a ∧ fwCM s a k = (i : Int) ∧ mtP (fwCM s a) (fwCM s b) (iC s 58 a) (iC s 58 b) k) (n := (iC s 58 a).toNat) (fun k hk => by
    have r := wa.2.1 k (by omega)
    replace r : 0 ≤ iC s 57 (24 * a + k) ∧ iC s 57 (24 * a + k) ≤ 127 := r
    show (iC s 57 (24 * a + k)).toNat < 128
    omega) (fun k l hk hl e => by
    have r1 := wa.2.1 k (by omega)
    have r2 := wa.2.1 l (by omega)
    replace r1 : 0 ≤ iC s 57 (24 * a + k) ∧ iC s 57 (24 * a + k) ≤ 127 := r1
    replace r2 : 0 ≤ iC s 57 (24 * a + l) ∧ iC s 57 (24 * a + l) ≤ 127 := r2
    replace e : (iC s 57 (24 * a + k)).toNat = (iC s 57 (24 * a + l)).toNat := e
    exact wa.2.2.2 k l (by omega) (by omega) (by show iC s 57 (24 * a + k) = iC s 57 (24 * a + l); omega))
  have e2 : sm (fun k => i01 (inL lo hi (((fwCM s a k).toNat : Nat) : Int) ∧ ∃ k' : Nat, (k' : Int) < iC s 58 a ∧ fwCM s a k' = (((fwCM s a k).toNat : Nat) : Int) ∧ mtP (fwCM s a) (fwCM s b) (iC s 58 a) (iC s 58 b) k')) (iC s 58 a).toNat = mtW (inL lo hi) (fwCM s a) (fwCM s b) (iC s 58 a) (iC s 58 b) := by
    refine sm_eq (fun k hk => i01_c ?_)
    have r1 := wa.2.1 k (by omega)
    replace r1 : 0 ≤ iC s 57 (24 * a + k) ∧ iC s 57 (24 * a + k) ≤ 127 := r1
    have e : (((fwCM s a k).toNat : Nat) : Int) = fwCM s a k := by show ((iC s 57 (24 * a + k)).toNat : Int) = iC s 57 (24 * a + k); omega
    rw [e]
    constructor
    · rintro ⟨q1, k', q2, q3, q4⟩
      have ek := wa.2.2.2 k' k q2 (by omega) q3
      rw [ek] at q4
      exact ⟨q1, q4⟩
    · rintro ⟨q1, q2⟩
      exact ⟨q1, k, by omega, rfl, q2⟩
  rw [← e2]
  refine Eq.trans ?_ c
  rw [show (128 : Nat) = 64 + 64 from rfl, sm_cat]
  have p0 : bnN (mtFM s a b 0 7 &&& lo) = sm (fun i => i01 ((∃ k, k < (iC s 58 a).toNat ∧ (fwCM s a k).toNat = i) ∧ inL lo hi (i : Int) ∧ ∃ k : Nat, (k : Int) < iC s 58 a ∧ fwCM s a k = (i : Int) ∧ mtP (fwCM s a) (fwCM s b) (iC s 58 a) (iC s 58 b) k)) 64 := by
    refine sm_eq (fun j hj => i01_c ?_)
    have m := mtm_air h ha hb (z := 0) (j := j) (by omega) hj
    rw [show 64 * 0 + j = j by omega] at m
    rw [jb_a]
    constructor
    · rintro ⟨q1, q2⟩
      obtain ⟨k, k1, k2, k3⟩ := m.mp q1
      exact ⟨⟨k, by omega, by omega⟩, Or.inl ⟨by omega, by omega, by rw [show ((j : Int)).toNat = j by omega]; exact q2⟩, k, k1, k2, k3⟩
    · rintro ⟨-, q2, q3⟩
      refine ⟨m.mpr q3, ?_⟩
      rcases q2 with ⟨-, -, q⟩ | ⟨q, -, -⟩
      · rw [show ((j : Int)).toNat = j by omega] at q; exact q
      · omega
  have p1 : bnN (mtFM s a b 1 7 &&& hi) = sm (fun j => (fun i : Nat => i01 ((∃ k, k < (iC s 58 a).toNat ∧ (fwCM s a k).toNat = i) ∧ inL lo hi (i : Int) ∧ ∃ k : Nat, (k : Int) < iC s 58 a ∧ fwCM s a k = (i : Int) ∧ mtP (fwCM s a) (fwCM s b) (iC s 58 a) (iC s 58 b) k)) (64 + j)) 64 := by
    refine sm_eq (fun j hj => i01_c ?_)
    have m := mtm_air h ha hb (z := 1) (j := j) (by omega) hj
    rw [show 64 * 1 + j = 64 + j by omega] at m
    rw [jb_a]
    constructor
    · rintro ⟨q1, q2⟩
      obtain ⟨k, k1, k2, k3⟩ := m.mp q1
      exact ⟨⟨k, by omega, by omega⟩, Or.inr ⟨by omega, by omega, by rw [show (((64 + j : Nat) : Int) - 64).toNat = j by omega]; exact q2⟩, k, k1, k2, k3⟩
    · rintro ⟨-, q2, q3⟩
      refine ⟨m.mpr q3, ?_⟩
      rcases q2 with ⟨-, q, -⟩ | ⟨-, -, q⟩
      · omega
      · rw [show (((64 + j : Nat) : Int) - 64).toNat = j by omega] at q; exact q
  rw [p0, p1]
def CPHM (s : PS) (H : CpH) (a : Nat) : Nat → Int := fun b => if a < b then H a b (mtFM s a b 0 7) (mtFM s a b 1 7) else 0
def CPSM (t : PS) (H : CpH) (n : Nat) : Int := sm (fun c => H (iC t 62 c / 12).toNat (iC t 62 c % 12).toNat (gD t 63 (2 * c)) (gD t 63 (2 * c + 1))) n
def CPOM (n a : Int) (s t : PS) : Prop := (0 ≤ iI t 44 ∧ iI t 44 ≤ pr12 a.toNat) ∧ ∀ H : CpH, (∀ a b, H a b 0 0 = 0) → CPSM t H (iI t 44).toNat = sm (fun a' => sm (CPHM s H a') n.toNat) a.toNat
def CPPM (n a b : Int) (s t : PS) : Prop := (0 ≤ iI t 44 ∧ iI t 44 ≤ pr12 a.toNat + (b - a - 1)) ∧ ∀ H : CpH, (∀ a b, H a b 0 0 = 0) → CPSM t H (iI t 44).toNat = sm (fun a' => sm (CPHM s H a') n.toNat) a.toNat + sm (CPHM s H a.toNat) b.toNat
theorem cpom_0 {n : Int} {s t : PS} (h : iI t 44 = 0) : CPOM n 0 s t := by
  refine ⟨by rw [h]; decide, fun H _ => ?_⟩
  rw [h]; rfl
theorem cppm_0 {n a : Int} {s t : PS} (h : CPOM n a s t) (a0 : 0 ≤ a) : CPPM n a (a + 1) s t := by
  refine ⟨⟨h.1.1, by have := h.1.2; omega⟩, fun H hH => ?_⟩
  rw [h.2 H hH, sm_0 (f := CPHM s H a.toNat) (fun j hj => if_neg (by omega)), Int.add_zero]
theorem cppm_o {n a b : Int} {s t : PS} (h : CPPM n a b s t) (a0 : 0 ≤ a) (hb : b = n) (hn : n ≤ 12) : CPOM n (a + 1) s t := by
  subst hb
  refine ⟨⟨h.1.1, by have := h.1.2; rw [pr_up a0]; omega⟩, fun H hH => ?_⟩
  rw [h.2 H hH, show (a + 1).toNat = a.toNat + 1 by omega]
  rfl
theorem cphm_at {s : PS} {H : CpH} {a b : Int} (a0 : 0 ≤ a) (ab : a < b) : CPHM s H a.toNat b.toNat = H a.toNat b.toNat (mtFM s a b 0 7) (mtFM s a b 1 7) := by
  show (if a.toNat < b.toNat then H a.toNat b.toNat (mtFM s ((a.toNat : Nat) : Int) ((b.toNat : Nat) : Int) 0 7) (mtFM s ((a.toNat : Nat) : Int) ((b.toNat : Nat) : Int) 1 7) else 0) = _
  rw [if_pos (by omega), show ((a.toNat : Nat) : Int) = a by omega, show ((b.toNat : Nat) : Int) = b by omega]
theorem cppm_n {n a b : Int} {s t : PS} {lo hi : Int64} (h : CPPM n a b s t) (a0 : 0 ≤ a) (ab : a < b) (e0 : lo = mtFM s a b 0 7) (e1 : hi = mtFM s a b 1 7) (hz : lo ||| hi = 0) : CPPM n a (b + 1) s t := by
  refine ⟨⟨h.1.1, by have := h.1.2; omega⟩, fun H hH => ?_⟩
  have z := jz_or hz
  rw [h.2 H hH, show (b + 1).toNat = b.toNat + 1 by omega]
  show _ = _ + (sm (CPHM s H a.toNat) b.toNat + CPHM s H a.toNat b.toNat)
  rw [cphm_at a0 ab, ← e0, ← e1, z.1, z.2, hH, Int.add_zero]
theorem cppm_y {n a b : Int} {s t t1 t2 t3 t4 : PS} {lo hi : Int64} (h : CPPM n a b s t) (a0 : 0 ≤ a) (ab : a < b) (b1 : b ≤ 11) (e0 : lo = mtFM s a b 0 7) (e1 : hi = mtFM s a b 1 7) (h1 : t1 = uC t 62 (iI t 44).toNat (Int32.ofInt (a * 12 + b))) (h2 : t2 = uD t1 63 (iI t1 44 * 2).toNat lo) (h3 : t3 = uD t2 63 (iI t2 44 * 2 + 1).toNat hi) (h4 : t4 = uI t3 44 (Int32.ofInt (iI t3 44 + 1))) : CPPM n a (b + 1) s t4 := by
  have hN := h.1
  have pb := pr_bd a.toNat (by omega)
  have q1 : iI t1 44 = iI t 44 := by subst h1; rfl
  have q2 : iI t2 44 = iI t 44 := by subst h1 h2; rfl
  have q3 : iI t3 44 = iI t 44 := by subst h1 h2 h3; rfl
  have q4 : iI t4 44 = iI t 44 + 1 := by
    rw [h4, q3]
    exact iI_u ⟨by omega, by omega⟩
  obtain ⟨N, hNN⟩ : ∃ N : Nat, N = (iI t 44).toNat := ⟨_, rfl⟩
  have h1' : t1 = uC t 62 N (Int32.ofInt (a * 12 + b)) := by rw [hNN]; exact h1
  have h2' : t2 = uD t1 63 (2 * N) lo := by rw [h2, show (iI t1 44 * 2).toNat = 2 * N by omega]
  have h3' : t3 = uD t2 63 (2 * N + 1) hi := by rw [h3, show (iI t2 44 * 2 + 1).toNat = 2 * N + 1 by omega]
  have ct : ∀ c, iC t4 62 c = iC t1 62 c := by intro c; subst h4 h3' h2'; rfl
  have c1 : ∀ c, c ≠ N → iC t4 62 c = iC t 62 c := by
    intro c hc
    rw [ct, h1']; exact iC_n hc
  have c2 : iC t4 62 N = a * 12 + b := by
    rw [ct, h1']; exact iC_u ⟨by omega, by omega⟩
  have dt : ∀ j, gD t4 63 j = gD t3 63 j := by intro j; subst h4; rfl
  have dr : ∀ j, gD t1 63 j = gD t 63 j := by intro j; subst h1'; rfl
  have d1 : gD t4 63 (2 * N + 1) = hi := by rw [dt, h3']; exact gD_u
  have d2 : gD t4 63 (2 * N) = lo := by rw [dt, h3', gD_n (by omega), h2']; exact gD_u
  have d3 : ∀ j, j < 2 * N → gD t4 63 j = gD t 63 j := by
    intro j hj
    rw [dt, h3', gD_n (by omega), h2', gD_n (by omega), dr]
  refine ⟨by rw [q4]; omega, fun H hH => ?_⟩
  have old := h.2 H hH
  rw [← hNN] at old
  rw [q4, show (iI t 44 + 1).toNat = N + 1 by omega]
  have f1 : CPSM t4 H N = CPSM t H N := sm_eq (fun c hc => by
    rw [c1 c (by omega), d3 _ (by omega), d3 _ (by omega)])
  show CPSM t4 H N + H (iC t4 62 N / 12).toNat (iC t4 62 N % 12).toNat (gD t4 63 (2 * N)) (gD t4 63 (2 * N + 1)) = _
  rw [f1, c2, d1, d2, old, show ((a * 12 + b) / 12).toNat = a.toNat by omega, show ((a * 12 + b) % 12).toNat = b.toNat by omega, show (b + 1).toNat = b.toNat + 1 by omega]
  show _ = _ + (sm (CPHM s H a.toNat) b.toNat + CPHM s H a.toNat b.toNat)
  rw [cphm_at a0 ab, ← e0, ← e1, Int.add_assoc]
def CPLM (s : PS) : Prop := (0 ≤ iI s 44 ∧ iI s 44 ≤ 66) ∧ ∀ H : CpH, (∀ a b, H a b 0 0 = 0) → CPSM s H (iI s 44).toNat = sm (fun a => sm (CPHM s H a) (iI s 43).toNat) (iI s 43).toNat
theorem CPLM_fm {L M : List Nat} {s t : PS} (F : Fm L M s t) (h : (43 ∉ L ∧ 44 ∉ L) ∧ 62 ∉ M ∧ 63 + 1000 ∉ M ∧ 59 + 1000 ∉ M ∧ 60 + 1000 ∉ M) (r : CPLM s) : CPLM t := by
  have e1 : iI t 43 = iI s 43 := fm_i F h.1.1
  have e2 : iI t 44 = iI s 44 := fm_i F h.1.2
  have e3 : ∀ j, iC t 62 j = iC s 62 j := fun j => fm_c F h.2.1
  have e4 : ∀ j, gD t 63 j = gD s 63 j := fun j => fm_dd F h.2.2.1
  have e5 : ∀ x y z : Int, mtFM t x y z 7 = mtFM s x y z 7 := fun x y z => mtm_c (fun j => fm_dd F h.2.2.2.1) (fun j => fm_dd F h.2.2.2.2) 7
  refine ⟨by rw [e2]; exact r.1, fun H hH => ?_⟩
  have z := r.2 H hH
  unfold CPSM CPHM at z ⊢
  simp only [e1, e2, e3, e4, e5]
  exact z
theorem cplm_of {n : Int} {s t : PS} (h : CPOM n n s t) (hn : n = iI t 43) (h0 : 0 ≤ n ∧ n ≤ 12) (h1 : ∀ j, gD t 59 j = gD s 59 j) (h2 : ∀ j, gD t 60 j = gD s 60 j) : CPLM t := by
  have e5 : ∀ x y z : Int, mtFM t x y z 7 = mtFM s x y z 7 := fun x y z => mtm_c h1 h2 7
  have pb : pr12 n.toNat ≤ 66 := by
    by_cases c : n = 12
    · rw [c]; decide +kernel
    · have := pr_bd n.toNat (by omega); omega
  refine ⟨⟨h.1.1, by have := h.1.2; omega⟩, fun H hH => ?_⟩
  rw [h.2 H hH, ← hn]
  unfold CPHM
  simp only [e5]
abbrev fsTM (s : PS) (x : Int) (κ : Nat) : Int64 := gD s 61 (x * 5 + (κ : Int)).toNat
noncomputable def fsOM (s : PS) (x : Int) (lo hi : Int64) (n : Nat) : Int := sm (fun κ => bnN (fsTM s x κ &&& (hrK κ lo hi ^^^ thK κ lo hi))) n
noncomputable def fsIM (s : PS) (x : Int) (lo hi : Int64) (n : Nat) : Int := sm (fun κ => bnN (fsTM s x κ &&& hrK κ lo hi &&& thK κ lo hi)) n
noncomputable def fsCM (s : PS) (x : Int) (lo hi : Int64) : Int := bnN (fsTM s x 4 &&& hrK 4 lo hi &&& thK 4 lo hi)
theorem fsom_r {s : PS} {x : Int} {lo hi : Int64} {n : Nat} : 0 ≤ fsOM s x lo hi n ∧ fsOM s x lo hi n ≤ (n : Int) * 64 := ⟨sm_nn (fun _ _ => (bnN_r _).1), sm_bd (fun _ _ => (bnN_r _).2)⟩
theorem fsim_r {s : PS} {x : Int} {lo hi : Int64} {n : Nat} : 0 ≤ fsIM s x lo hi n ∧ fsIM s x lo hi n ≤ (n : Int) * 64 := ⟨sm_nn (fun _ _ => (bnN_r _).1), sm_bd (fun _ _ => (bnN_r _).2)⟩
theorem fscm_r {s : PS} {x : Int} {lo hi : Int64} : 0 ≤ fsCM s x lo hi ∧ fsCM s x lo hi ≤ 64 := bnN_r _
theorem fsm_c {s t : PS} {x : Int} {lo hi : Int64} (h : ∀ j, gD t 61 j = gD s 61 j) (n : Nat) : fsOM t x lo hi n = fsOM s x lo hi n ∧ fsIM t x lo hi n = fsIM s x lo hi n ∧ fsCM t x lo hi = fsCM s x lo hi := by
  refine ⟨sm_eq (fun κ _ => by simp only [fsTM, h]), sm_eq (fun κ _ => by simp only [fsTM, h]), by unfold fsCM; simp only [fsTM, h]⟩
def FSQM (s : PS) (x : Int) (lo hi : Int64) (c ov wi cl : Int) : Prop := ov = fsOM s x lo hi c.toNat ∧ wi = fsIM s x lo hi c.toNat ∧ cl = if c ≤ 4 then 0 else fsCM s x lo hi
theorem fsqm_0 {s : PS} {x : Int} {lo hi : Int64} : FSQM s x lo hi 0 0 0 0 := ⟨rfl, rfl, rfl⟩
theorem fsqm_y {s t : PS} {x c ov wi cl e1 e2 cl' : Int} {lo hi here there : Int64} (h : FSQM s x lo hi c ov wi cl) (hs : ∀ j, gD t 61 j = gD s 61 j) (c0 : 0 ≤ c) (c4 : c ≤ 4) (hh : here = hrK c.toNat lo hi) (ht : there = thK c.toNat lo hi) (b1 : e1 = bnN (gD t 61 (x * 5 + c).toNat &&& here &&& there)) (b2 : e2 = bnN (gD t 61 (x * 5 + c).toNat &&& (here ^^^ there))) (hc : (c = 4 ∧ cl' = e1) ∨ (c ≠ 4 ∧ cl' = 0)) : FSQM s x lo hi (c + 1) (ov + e2) (wi + e1) cl' := by
  obtain ⟨h1, h2, h3⟩ := h
  rw [hs] at b1 b2
  have ec : (((c.toNat : Nat) : Int)) = c := by omega
  subst hh ht
  unfold FSQM
  rw [show (c + 1).toNat = c.toNat + 1 by omega]
  refine ⟨?_, ?_, ?_⟩
  · show _ = fsOM s x lo hi c.toNat + bnN (gD s 61 (x * 5 + ((c.toNat : Nat) : Int)).toNat &&& (hrK c.toNat lo hi ^^^ thK c.toNat lo hi))
    rw [ec, ← b2, h1]
  · show _ = fsIM s x lo hi c.toNat + bnN (gD s 61 (x * 5 + ((c.toNat : Nat) : Int)).toNat &&& hrK c.toNat lo hi &&& thK c.toNat lo hi)
    rw [ec, ← b1, h2]
  · rcases hc with ⟨q1, q2⟩ | ⟨q1, q2⟩
    · subst q1
      rw [if_neg (by decide), q2, b1]
      rfl
    · rw [if_pos (by omega)]; exact q2
theorem fsqm_z {s t : PS} {x c ov wi cl : Int} {lo hi : Int64} (h : FSQM s x lo hi c ov wi cl) (hs : ∀ j, gD t 61 j = gD s 61 j) (c0 : 0 ≤ c) (c4 : c ≤ 4) (hz : gD t 61 (x * 5 + c).toNat = 0) : FSQM s x lo hi (c + 1) ov wi cl := by
  have e3 := h.2.2
  rw [if_pos c4] at e3
  have r := fsqm_y (e1 := 0) (e2 := 0) (cl' := 0) h hs c0 c4 rfl rfl (by rw [hz, jz_and, show (0 : Int64) &&& thK c.toNat lo hi = 0 from jz_and]; exact bc_z.symm) (by rw [hz, jz_and]; exact bc_z.symm) (by omega)
  rw [Int.add_zero, Int.add_zero] at r
  rw [e3]; exact r
def FSRM (OV IN CL VI : Nat) (x : Int) (lo hi : Int64) (s t : PS) : Prop := (∀ j, iC t OV j = if j = (iI s VI).toNat then fsOM s x lo hi 5 else iC s OV j) ∧ (∀ j, iC t IN j = if j = (iI s VI).toNat then fsIM s x lo hi 5 else iC s IN j) ∧ ∀ j, iC t CL j = if j = (iI s VI).toNat then fsCM s x lo hi else iC s CL j
theorem fsrm_of {OV IN CL VI : Nat} {x ov wi cl c : Int} {lo hi : Int64} {s t t1 t2 t3 : PS} (h : FSQM s x lo hi c ov wi cl) (hc : c = 5) (g1 : SAM OV s t) (g2 : SAM IN s t) (g3 : SAM CL s t) (hv : iI t VI = iI s VI) (d1 : OV ≠ IN) (d2 : OV ≠ CL) (d3 : IN ≠ CL) (h1 : t1 = uC t OV (iI t VI).toNat (Int32.ofInt ov)) (h2 : t2 = uC t1 IN (iI t1 VI).toNat (Int32.ofInt wi)) (h3 : t3 = uC t2 CL (iI t2 VI).toNat (Int32.ofInt cl)) : FSRM OV IN CL VI x lo hi s t3 := by
  subst hc
  obtain ⟨e1, e2, e3⟩ := h
  rw [if_neg (by decide)] at e3
  have r1 := @fsom_r s x lo hi 5
  have r2 := @fsim_r s x lo hi 5
  have r3 := @fscm_r s x lo hi
  have v1 : iI t1 VI = iI s VI := by rw [← hv]; subst h1; rfl
  have v2 : iI t2 VI = iI s VI := by rw [← v1]; subst h2; rfl
  rw [hv] at h1
  rw [v1] at h2
  rw [v2] at h3
  unfold FSRM
  generalize (iI s VI).toNat = n at h1 h2 h3 ⊢
  replace e1 : ov = fsOM s x lo hi 5 := e1
  replace e2 : wi = fsIM s x lo hi 5 := e2
  refine ⟨fun j => ?_, fun j => ?_, fun j => ?_⟩
  · rw [h3, iC_a d2, h2, iC_a d1, h1]
    by_cases z : j = n
    · rw [if_pos z, z, iC_u ⟨by omega, by omega⟩, e1]
    · rw [if_neg z, iC_n z]; exact g1 j
  · rw [h3, iC_a d3, h2]
    by_cases z : j = n
    · rw [if_pos z, z, iC_u ⟨by omega, by omega⟩, e2]
    · rw [if_neg z, iC_n z, h1, iC_a (fun q => d1 q.symm)]; exact g2 j
  · rw [h3]
    by_cases z : j = n
    · rw [if_pos z, z, iC_u ⟨by omega, by omega⟩, e3]
    · rw [if_neg z, iC_n z, h2, iC_a (fun q => d3 q.symm), h1, iC_a (fun q => d2 q.symm)]; exact g3 j
noncomputable def VSGM (s : PS) (G : VsG) (lo hi : Int64) : Nat → Int := fun x => if (gD s 59 ((x : Int) * 2).toNat &&& lo) ||| (gD s 59 ((x : Int) * 2 + 1).toNat &&& hi) = 0 then 0 else G x (fsOM s x lo hi 5) (fsIM s x lo hi 5) (fsCM s x lo hi)
def VSQM (VG OV IN CL VI : Nat) (lo hi : Int64) (c : Int) (s t : PS) : Prop := (0 ≤ iI t VI ∧ iI t VI ≤ c) ∧ (∀ i : Nat, (i : Int) < iI t VI → (0 ≤ iC t OV i ∧ iC t OV i ≤ 320) ∧ (0 ≤ iC t IN i ∧ iC t IN i ≤ 320) ∧ 0 ≤ iC t CL i ∧ iC t CL i ≤ 64) ∧ ∀ G : VsG, VSS VG OV IN CL t G (iI t VI).toNat = sm (VSGM s G lo hi) c.toNat
theorem vsqm_0 {VG OV IN CL VI : Nat} {lo hi : Int64} {s t : PS} (h : iI t VI = 0) : VSQM VG OV IN CL VI lo hi 0 s t := by
  refine ⟨by omega, fun i hi => by omega, fun G => ?_⟩
  rw [h]; rfl
theorem vsqm_n {VG OV IN CL VI : Nat} {lo hi : Int64} {c : Int} {s t : PS} (h : VSQM VG OV IN CL VI lo hi c s t) (c0 : 0 ≤ c) (hm : ∀ j, gD t 59 j = gD s 59 j) (hz : (gD t 59 (c * 2).toNat &&& lo) ||| (gD t 59 (c * 2 + 1).toNat &&& hi) = 0) : VSQM VG OV IN CL VI lo hi (c + 1) s t := by
  refine ⟨by have := h.1; omega, h.2.1, fun G => ?_⟩
  rw [h.2.2 G, show (c + 1).toNat = c.toNat + 1 by omega]
  show _ = sm (VSGM s G lo hi) c.toNat + VSGM s G lo hi c.toNat
  have e : VSGM s G lo hi c.toNat = 0 := by
    refine if_pos ?_
    rw [show ((c.toNat : Nat) : Int) = c by omega, ← hm, ← hm]; exact hz
  rw [e, Int.add_zero]
theorem vsqm_y {VG OV IN CL VI : Nat} {lo hi : Int64} {c : Int} {s t t1 t2 t3 : PS} (h : VSQM VG OV IN CL VI lo hi c s t) (c0 : 0 ≤ c) (c1 : c ≤ 11) (hm : ∀ j, gD t 59 j = gD s 59 j) (hn : (gD t 59 (c * 2).toNat &&& lo) ||| (gD t 59 (c * 2 + 1).toNat &&& hi) ≠ 0) (hs : ∀ j, gD t1 61 j = gD s 61 j) (d1 : VG ≠ OV) (d2 : VG ≠ IN) (d3 : VG ≠ CL) (h1 : t1 = uC t VG (iI t VI).toNat (Int32.ofInt c)) (f2 : FSRM OV IN CL VI c lo hi t1 t2) (g2 : SAM VG t1 t2) (v2 : iI t2 VI = iI t1 VI) (h3 : t3 = uI t2 VI (Int32.ofInt (iI t2 VI + 1))) : VSQM VG OV IN CL VI lo hi (c + 1) s t3 := by
  have v1 : iI t1 VI = iI t VI := by subst h1; rfl
  have q0 := h.1
  have v3 : iI t3 VI = iI t VI + 1 := by
    rw [h3, v2, v1]
    exact iI_u ⟨by omega, by omega⟩
  obtain ⟨f1, f3, f4⟩ := f2
  rw [v1] at f1 f3 f4
  have ff := fsm_c (x := c) (lo := lo) (hi := hi) hs 5
  rw [ff.1] at f1
  rw [ff.2.1] at f3
  rw [ff.2.2] at f4
  have t3c : ∀ a j, iC t3 a j = iC t2 a j := by intro a j; subst h3; rfl
  have a1 : ∀ j, iC t1 OV j = iC t OV j := by intro j; rw [h1]; exact iC_a (fun q => d1 q.symm)
  have a2 : ∀ j, iC t1 IN j = iC t IN j := by intro j; rw [h1]; exact iC_a (fun q => d2 q.symm)
  have a3 : ∀ j, iC t1 CL j = iC t CL j := by intro j; rw [h1]; exact iC_a (fun q => d3 q.symm)
  obtain ⟨N, hN⟩ : ∃ N : Nat, N = (iI t VI).toNat := ⟨_, rfl⟩
  rw [← hN] at f1 f3 f4 h1
  have b1 : ∀ j, iC t3 VG j = if j = N then c else iC t VG j := by
    intro j
    rw [t3c, g2 j, h1]
    by_cases z : j = N
    · rw [if_pos z, z]; exact iC_u ⟨by omega, by omega⟩
    · rw [if_neg z]; exact iC_n z
  have r1 := @fsom_r s c lo hi 5
  have r2 := @fsim_r s c lo hi 5
  have r3 := @fscm_r s c lo hi
  refine ⟨by omega, fun i hi' => ?_, fun G => ?_⟩
  · rw [t3c, t3c, t3c, f1, f3, f4]
    by_cases z : i = N
    · rw [if_pos z, if_pos z, if_pos z]; omega
    · rw [if_neg z, if_neg z, if_neg z, a1, a2, a3]; exact h.2.1 i (by omega)
  · rw [v3, show (iI t VI + 1).toNat = N + 1 by omega, show (c + 1).toNat = c.toNat + 1 by omega]
    show VSS VG OV IN CL t3 G N + G (iC t3 VG N).toNat (iC t3 OV N) (iC t3 IN N) (iC t3 CL N) = sm (VSGM s G lo hi) c.toNat + VSGM s G lo hi c.toNat
    have e1 : VSS VG OV IN CL t3 G N = VSS VG OV IN CL t G N := sm_eq (fun i hi' => by
      rw [b1, t3c, t3c, t3c, f1, f3, f4, if_neg (by omega), if_neg (by omega), if_neg (by omega), if_neg (by omega), a1, a2, a3])
    have e2 : VSGM s G lo hi c.toNat = G c.toNat (fsOM s c lo hi 5) (fsIM s c lo hi 5) (fsCM s c lo hi) := by
      show (if (gD s 59 (((c.toNat : Nat) : Int) * 2).toNat &&& lo) ||| (gD s 59 (((c.toNat : Nat) : Int) * 2 + 1).toNat &&& hi) = 0 then 0 else G c.toNat (fsOM s ((c.toNat : Nat) : Int) lo hi 5) (fsIM s ((c.toNat : Nat) : Int) lo hi 5) (fsCM s ((c.toNat : Nat) : Int) lo hi)) = _
      rw [show ((c.toNat : Nat) : Int) = c by omega, if_neg (by rw [← hm, ← hm]; exact hn)]
    rw [e1, e2, b1, if_pos rfl, t3c, t3c, t3c, f1, f3, f4, if_pos rfl, if_pos rfl, if_pos rfl, hN, h.2.2 G]
noncomputable def MTGM (s : PS) (G : MtG) (lo hi : Int64) : Nat → Int := fun k => G (iC s 62 k / 12).toNat (iC s 62 k % 12).toNat (bnN (gD s 63 ((k : Int) * 2).toNat &&& lo) + bnN (gD s 63 ((k : Int) * 2 + 1).toNat &&& hi))
def MTQM (FI SE OF ME : Nat) (lo hi : Int64) (c : Int) (s t : PS) : Prop := (0 ≤ iI t ME ∧ iI t ME ≤ c) ∧ (∀ i : Nat, (i : Int) < iI t ME → 0 ≤ iC t OF i ∧ iC t OF i ≤ 128) ∧ ∀ G : MtG, (∀ a b, G a b 0 = 0) → MTS FI SE OF t G (iI t ME).toNat = sm (MTGM s G lo hi) c.toNat
theorem mtqm_0 {FI SE OF ME : Nat} {lo hi : Int64} {s t : PS} (h : iI t ME = 0) : MTQM FI SE OF ME lo hi 0 s t := by
  refine ⟨by omega, fun i hi => by omega, fun G _ => ?_⟩
  rw [h]; rfl
theorem mtqm_n {FI SE OF ME : Nat} {lo hi : Int64} {c e1 e2 : Int} {s t : PS} (h : MTQM FI SE OF ME lo hi c s t) (c0 : 0 ≤ c) (hm : ∀ j, gD t 63 j = gD s 63 j) (b1 : e1 = bnN (gD t 63 (c * 2).toNat &&& lo)) (b2 : e2 = bnN (gD t 63 (c * 2 + 1).toNat &&& hi)) (hz : e1 + e2 ≤ 0) : MTQM FI SE OF ME lo hi (c + 1) s t := by
  rw [hm] at b1 b2
  have r1 := bnN_r (gD s 63 (c * 2).toNat &&& lo)
  have r2 := bnN_r (gD s 63 (c * 2 + 1).toNat &&& hi)
  refine ⟨by have := h.1; omega, h.2.1, fun G hG => ?_⟩
  rw [h.2.2 G hG, show (c + 1).toNat = c.toNat + 1 by omega]
  show _ = sm (MTGM s G lo hi) c.toNat + MTGM s G lo hi c.toNat
  have e : MTGM s G lo hi c.toNat = 0 := by
    show G _ _ (bnN (gD s 63 (((c.toNat : Nat) : Int) * 2).toNat &&& lo) + bnN (gD s 63 (((c.toNat : Nat) : Int) * 2 + 1).toNat &&& hi)) = 0
    rw [show ((c.toNat : Nat) : Int) = c by omega, ← b1, ← b2, show e1 + e2 = 0 by omega]
    exact hG _ _
  rw [e, Int.add_zero]
theorem mtqm_y {FI SE OF ME : Nat} {lo hi : Int64} {c e1 e2 v1 v2 v3 : Int} {s t t1 t2 t3 t4 : PS} (h : MTQM FI SE OF ME lo hi c s t) (c0 : 0 ≤ c) (c1 : c ≤ 65) (hm : ∀ j, gD t 63 j = gD s 63 j) (hc : ∀ j, iC t 62 j = iC s 62 j) (cr : 0 ≤ iC t 62 c.toNat ∧ iC t 62 c.toNat ≤ 143) (b1 : e1 = bnN (gD t 63 (c * 2).toNat &&& lo)) (b2 : e2 = bnN (gD t 63 (c * 2 + 1).toNat &&& hi)) (d1 : FI ≠ SE) (d2 : FI ≠ OF) (d3 : SE ≠ OF) (hv1 : v1 = iC t 62 c.toNat / 12) (hv2 : v2 = iC t 62 c.toNat % 12) (hv3 : v3 = e1 + e2) (h1 : t1 = uC t FI (iI t ME).toNat (Int32.ofInt v1)) (h2 : t2 = uC t1 SE (iI t1 ME).toNat (Int32.ofInt v2)) (h3 : t3 = uC t2 OF (iI t2 ME).toNat (Int32.ofInt v3)) (h4 : t4 = uI t3 ME (Int32.ofInt (iI t3 ME + 1))) : MTQM FI SE OF ME lo hi (c + 1) s t4 := by
  rw [hm] at b1 b2
  rw [hc] at cr hv1 hv2
  have r1 := bnN_r (gD s 63 (c * 2).toNat &&& lo)
  have r2 := bnN_r (gD s 63 (c * 2 + 1).toNat &&& hi)
  have q0 := h.1
  have w1 : iI t1 ME = iI t ME := by subst h1; rfl
  have w2 : iI t2 ME = iI t ME := by rw [← w1]; subst h2; rfl
  have w3 : iI t3 ME = iI t ME := by rw [← w2]; subst h3; rfl
  have w4 : iI t4 ME = iI t ME + 1 := by
    rw [h4, w3]; exact iI_u ⟨by omega, by omega⟩
  rw [w1] at h2
  rw [w2] at h3
  obtain ⟨N, hN⟩ : ∃ N : Nat, N = (iI t ME).toNat := ⟨_, rfl⟩
  rw [← hN] at h1 h2 h3
  have t4c : ∀ a j, iC t4 a j = iC t3 a j := by intro a j; subst h4; rfl
  have f1 : ∀ j, iC t4 FI j = if j = N then v1 else iC t FI j := by
    intro j
    rw [t4c, h3, iC_a d2, h2, iC_a d1, h1]
    by_cases z : j = N
    · rw [if_pos z, z]; exact iC_u ⟨by omega, by omega⟩
    · rw [if_neg z]; exact iC_n z
  have f2 : ∀ j, iC t4 SE j = if j = N then v2 else iC t SE j := by
    intro j
    rw [t4c, h3, iC_a d3, h2]
    by_cases z : j = N
    · rw [if_pos z, z]; exact iC_u ⟨by omega, by omega⟩
    · rw [if_neg z, iC_n z, h1]; exact iC_a (fun q => d1 q.symm)
  have f3 : ∀ j, iC t4 OF j = if j = N then v3 else iC t OF j := by
    intro j
    rw [t4c, h3]
    by_cases z : j = N
    · rw [if_pos z, z]; exact iC_u ⟨by omega, by omega⟩
    · rw [if_neg z, iC_n z, h2, iC_a (fun q => d3 q.symm), h1]; exact iC_a (fun q => d2 q.symm)
  refine ⟨by omega, fun i hi' => ?_, fun G hG => ?_⟩
  · rw [f3]
    by_cases z : i = N
    · rw [if_pos z]; omega
    · rw [if_neg z]; exact h.2.1 i (by omega)
  · rw [w4, show (iI t ME + 1).toNat = N + 1 by omega, show (c + 1).toNat = c.toNat + 1 by omega]
    show MTS FI SE OF t4 G N + G (iC t4 FI N).toNat (iC t4 SE N).toNat (iC t4 OF N) = sm (MTGM s G lo hi) c.toNat + MTGM s G lo hi c.toNat
    have e1' : MTS FI SE OF t4 G N = MTS FI SE OF t G N := sm_eq (fun i hi' => by
      rw [f1, f2, f3, if_neg (by omega), if_neg (by omega), if_neg (by omega)])
    have e2' : MTGM s G lo hi c.toNat = G v1.toNat v2.toNat v3 := by
      show G (iC s 62 c.toNat / 12).toNat (iC s 62 c.toNat % 12).toNat (bnN (gD s 63 (((c.toNat : Nat) : Int) * 2).toNat &&& lo) + bnN (gD s 63 (((c.toNat : Nat) : Int) * 2 + 1).toNat &&& hi)) = _
      rw [show ((c.toNat : Nat) : Int) = c by omega, ← b1, ← b2, ← hv1, ← hv2, ← hv3]
    rw [e1', e2', f1, f2, f3, if_pos rfl, if_pos rfl, if_pos rfl, hN, h.2.2 G hG]
theorem vsqm_c {VG OV IN CL VI : Nat} {lo hi : Int64} {c c' : Int} {s t u v : PS} (h : VSQM VG OV IN CL VI lo hi c s t) (ec : c' = c) (e1 : ∀ j, gD u 59 j = gD s 59 j) (e2 : ∀ j, gD u 61 j = gD s 61 j) (f0 : iI v VI = iI t VI) (f1 : ∀ j, iC v VG j = iC t VG j) (f2 : ∀ j, iC v OV j = iC t OV j) (f3 : ∀ j, iC v IN j = iC t IN j) (f4 : ∀ j, iC v CL j = iC t CL j) : VSQM VG OV IN CL VI lo hi c' u v := by
  subst ec
  have g : ∀ (x : Int) n, fsOM u x lo hi n = fsOM s x lo hi n ∧ fsIM u x lo hi n = fsIM s x lo hi n ∧ fsCM u x lo hi = fsCM s x lo hi := fun x n => fsm_c e2 n
  unfold VSQM VSS VSGM at h ⊢
  simp only [f0, f1, f2, f3, f4, e1, (g _ _).1, (g _ _).2.1, (g _ 0).2.2]
  exact h
theorem mtqm_c {FI SE OF ME : Nat} {lo hi : Int64} {c c' : Int} {s t u v : PS} (h : MTQM FI SE OF ME lo hi c s t) (ec : c' = c) (e1 : ∀ j, gD u 63 j = gD s 63 j) (e2 : ∀ j, iC u 62 j = iC s 62 j) (f0 : iI v ME = iI t ME) (f1 : ∀ j, iC v FI j = iC t FI j) (f2 : ∀ j, iC v SE j = iC t SE j) (f3 : ∀ j, iC v OF j = iC t OF j) : MTQM FI SE OF ME lo hi c' u v := by
  subst ec
  unfold MTQM MTS MTGM at h ⊢
  simp only [f0, f1, f2, f3, e1, e2]
  exact h
theorem vism_air {s : PS} (h : AIRM s) {x : Nat} (hx : (x : Int) < iI s 43) {lo hi : Int64} : (gD s 59 ((x : Int) * 2).toNat &&& lo) ||| (gD s 59 ((x : Int) * 2 + 1).toNat &&& hi) ≠ 0 ↔ viH (inL lo hi) (fwCM s x) (iC s 58 x) := by
  have m := (h.2 x hx).2.1
  have w := (h.2 x hx).1
  rw [show ((x : Int) * 2).toNat = 2 * x by omega, show ((x : Int) * 2 + 1).toNat = 2 * x + 1 by omega, jb_ne]
  constructor
  · rintro ⟨i, hi', b⟩
    rcases jb_or.mp b with q | q
    · obtain ⟨q1, q2⟩ := jb_a.mp q
      have z := m i (by omega)
      rw [show i / 64 = 0 by omega, show i % 64 = i by omega, Nat.add_zero] at z
      obtain ⟨k, k1, k2⟩ := z.mp q1
      refine ⟨k, k1, Or.inl ?_⟩
      show 0 ≤ iC s 57 (24 * x + k) ∧ iC s 57 (24 * x + k) < 64 ∧ bJ lo (iC s 57 (24 * x + k)).toNat
      rw [k2]
      exact ⟨by omega, by omega, by rw [show ((i : Int)).toNat = i by omega]; exact q2⟩
    · obtain ⟨q1, q2⟩ := jb_a.mp q
      have z := m (64 + i) (by omega)
      rw [show (64 + i) / 64 = 1 by omega, show (64 + i) % 64 = i by omega] at z
      obtain ⟨k, k1, k2⟩ := z.mp q1
      refine ⟨k, k1, Or.inr ?_⟩
      show 64 ≤ iC s 57 (24 * x + k) ∧ iC s 57 (24 * x + k) < 128 ∧ bJ hi (iC s 57 (24 * x + k) - 64).toNat
      rw [k2]
      exact ⟨by omega, by omega, by rw [show (((64 + i : Nat) : Int) - 64).toNat = i by omega]; exact q2⟩
  · rintro ⟨k, k1, k2⟩
    have r := w.2.1 k k1
    obtain ⟨d, hd⟩ : ∃ d : Nat, iC s 57 (24 * x + k) = (d : Int) := ⟨(iC s 57 (24 * x + k)).toNat, by have r' : 0 ≤ iC s 57 (24 * x + k) := r.1; omega⟩
    replace r : iC s 57 (24 * x + k) ≤ 127 := r.2
    have z := (m d (by omega)).mpr ⟨k, k1, hd⟩
    replace k2 : inL lo hi (iC s 57 (24 * x + k)) := k2
    rw [hd] at k2
    rcases k2 with ⟨q1, q2, q3⟩ | ⟨q1, q2, q3⟩
    · rw [show d / 64 = 0 by omega, show d % 64 = d by omega, Nat.add_zero] at z
      rw [show ((d : Int)).toNat = d by omega] at q3
      exact ⟨d, by omega, jb_or.mpr (Or.inl (jb_a.mpr ⟨z, q3⟩))⟩
    · rw [show d / 64 = 1 by omega, show d % 64 = d - 64 by omega] at z
      rw [show ((d : Int) - 64).toNat = d - 64 by omega] at q3
      exact ⟨d - 64, by omega, jb_or.mpr (Or.inr (jb_a.mpr ⟨z, q3⟩))⟩
theorem fsm_air {s : PS} (h : AIRM s) {x : Nat} (hx : (x : Int) < iI s 43) {lo hi : Int64} : fsOM s x lo hi 5 = ovH (inL lo hi) (fwCM s x) (iC s 58 x - 1).toNat ∧ fsIM s x lo hi 5 = inH (inL lo hi) (fwCM s x) (iC s 58 x - 1).toNat ∧ fsCM s x lo hi = clH (inL lo hi) (fwCM s x) (iC s 58 x - 1).toNat := by
  obtain ⟨w, -, -, st⟩ := h.2 x hx
  have hT : ∀ κ j : Nat, κ < 5 → j < 64 → (bJ (fsTM s x κ) j ↔ stP (fwCM s x) (iC s 58 x) (iC s 58 x) κ j) := by
    intro κ j hκ hj
    show bJ (gD s 61 ((x : Int) * 5 + (κ : Int)).toNat) j ↔ _
    rw [show ((x : Int) * 5 + (κ : Int)).toNat = 5 * x + κ by omega]
    exact st κ j hκ hj
  exact ⟨ov_bits w hT, in_bits w hT, cl_bits w hT⟩
theorem vsgm_air {s : PS} (h : AIRM s) {x : Nat} (hx : (x : Int) < iI s 43) {lo hi : Int64} {G : VsG} : VSGM s G lo hi x = @ite Int (viH (inL lo hi) (fwCM s x) (iC s 58 x)) (Classical.propDecidable _) (G x (ovH (inL lo hi) (fwCM s x) (iC s 58 x - 1).toNat) (inH (inL lo hi) (fwCM s x) (iC s 58 x - 1).toNat) (clH (inL lo hi) (fwCM s x) (iC s 58 x - 1).toNat)) 0 := by
  have v := vism_air h hx (lo := lo) (hi := hi)
  have f := fsm_air h hx (lo := lo) (hi := hi)
  by_cases c : viH (inL lo hi) (fwCM s x) (iC s 58 x)
  · rw [if_pos c]
    refine (if_neg (v.mpr c)).trans ?_
    rw [f.1, f.2.1, f.2.2]
  · rw [if_neg c]
    exact if_pos (Classical.byContradiction (fun q => c (v.mp q)))
def moXM (s : PS) (q w : Int) (x : Nat) : Int := if (x : Int) = w then 0 else iC s 67 (q * 12 + (x : Int)).toNat
theorem moxm_0 {s : PS} {q w v : Int} (h0 : 0 ≤ v) (h : v = w) : (0 : Int) = moXM s q w v.toNat := (if_pos (by omega)).symm
theorem moxm_1 {s : PS} {q w v r i : Int} (h0 : 0 ≤ v) (h : v ≠ w) (hr : r = q * 12) (hi : i = r + v) : iC s 67 i.toNat = moXM s q w v.toNat := by
  refine Eq.trans ?_ (if_neg (by omega)).symm
  rw [show (q * 12 + ((v.toNat : Nat) : Int)).toNat = i.toNat by omega]
theorem moxm_nn {s : PS} {q w : Int} {x : Nat} (h : ∀ j, j < 288 → 0 ≤ iC s 67 j) (hq : 0 ≤ q ∧ q ≤ 23) (hx : x < 12) : 0 ≤ moXM s q w x := by
  unfold moXM
  by_cases c : (x : Int) = w
  · rw [if_pos c]; decide
  · rw [if_neg c]; exact h _ (by omega)
theorem cppm_c {L M : List Nat} {n a b : Int} {s t u : PS} (h : CPPM n a b s t) (F : Fm L M t u) (hx : 44 ∉ L ∧ 62 ∉ M ∧ 63 + 1000 ∉ M) : CPPM n a b s u := by
  have e2 : iI u 44 = iI t 44 := fm_i F hx.1
  have e3 : ∀ j, iC u 62 j = iC t 62 j := fun j => fm_c F hx.2.1
  have e4 : ∀ j, gD u 63 j = gD t 63 j := fun j => fm_dd F hx.2.2
  unfold CPPM CPSM at h ⊢
  simp only [e2, e3, e4]
  exact h
theorem bdm_mos {s : PS} (I : Bd s) {j : Nat} (hj : j < 288) : 0 ≤ iC s 67 j ∧ iC s 67 j ≤ 50 := I.2 67 j hj
def AIN (n : Int) (s : PS) : Prop := ∀ x : Nat, (x : Int) < n → WOK (fun k => iC s 57 (24 * x + k)) (iC s 58 x) ∧
  (∀ d : Nat, d < 128 → (bJ (gD s 59 (2 * x + d / 64)) (d % 64) ↔ ∃ k : Nat, (k : Int) < iC s 58 x ∧ iC s 57 (24 * x + k) = (d : Int))) ∧
  (∀ g d : Nat, g < 7 → d < 128 → (bJ (gD s 60 (14 * x + 2 * g + d / 64)) (d % 64) ↔ ∃ k : Nat, (k : Int) < iC s 58 x ∧ iC s 57 (24 * x + k) = (d : Int) ∧ goK (fun k => iC s 57 (24 * x + k)) (iC s 58 x) k = (g : Int))) ∧
  ∀ κ j : Nat, κ < 5 → j < 64 → (bJ (gD s 61 (5 * x + κ)) j ↔ stP (fun k => iC s 57 (24 * x + k)) (iC s 58 x) (iC s 58 x) κ j)
def CWG (f : Nat → Int) (x w : Int) (s t : PS) : Prop := (∀ j : Nat, j < 288 → iC t 57 j = if (x * 24).toNat ≤ j ∧ j < (x * 24).toNat + w.toNat then f (j - (x * 24).toNat) else iC s 57 j) ∧ UPD 58 x w s t
theorem cwg_of {a : Nat} {x w z : Int} {s u t : PS} (c : CPY a 57 288 z (x * 24) w s u) (h : SAM 57 u t) (h0 : SAM 58 s u) (g : UPD 58 x w u t) : CWG (fun k => iC s a (z.toNat + k)) x w s t := by
  refine ⟨fun j hj => ?_, g.1, fun j hj => (g.2 j hj).trans (h0 j)⟩
  rw [h, c j hj]
theorem cwg_sam {f : Nat → Int} {x w : Int} {s t u : PS} (c : CWG f x w s t) (h1 : SAM 57 t u) (h2 : SAM 58 t u) : CWG f x w s u := ⟨fun j hj => by rw [h1]; exact c.1 j hj, upd_ts c.2 h2⟩
theorem cwg_c {f : Nat → Int} {x w : Int} {s t : PS} (h : CWG f x w s t) (x0 : 0 ≤ x ∧ x ≤ 11) (w0 : w ≤ 24) : ∀ k : Nat, (k : Int) < w → iC t 57 (24 * x.toNat + k) = f k := fun k hk => by
  rw [h.1 _ (by omega), if_pos (by omega), show 24 * x.toNat + k - (x * 24).toNat = k by omega]
theorem cwg_c2 {f : Nat → Int} {x w : Int} {s t : PS} (h : CWG f x w s t) (x0 : 0 ≤ x ∧ x ≤ 11) : ∀ j : Nat, j < 24 * x.toNat → iC t 57 j = iC s 57 j := fun j hj => by
  rw [h.1 _ (by omega), if_neg (by omega)]
theorem ain_up {f : Nat → Int} {n w : Int} {s t : PS} (h : AIN n s) (h0 : 0 ≤ n ∧ n ≤ 11) (hw : WRQM f n w w s t) (ho : WOK f w) (hg : CWG f n w s t) : AIN (n + 1) t := by
  have hs : iC t 58 n.toNat = w := hg.2.1
  have hc := cwg_c hg h0 ho.1.2
  have hs2 : ∀ j : Nat, j < n.toNat → iC t 58 j = iC s 58 j := fun j hj => hg.2.2 j (by omega)
  have hc2 := cwg_c2 hg h0
  obtain ⟨m, gm, st⟩ := hw
  intro x hx
  by_cases z : (x : Int) = n
  · have ex : x = n.toNat := by omega
    have wf : WOK (fun k => iC t 57 (24 * x + k)) w := wok_c ho (fun k hk => by rw [ex]; exact hc k hk)
    have gk : ∀ k : Nat, (k : Int) < w → goK (fun k => iC t 57 (24 * x + k)) w k = goK (fun k => f k) w k := by
      intro k hk
      unfold goK
      by_cases q1 : w = 1
      · rw [if_pos q1, if_pos q1]
      · rw [if_neg q1, if_neg q1]
        by_cases q2 : (k : Int) + 1 < w
        · rw [if_pos q2, if_pos q2]
          show goB (iC t 57 (24 * x + k)) (iC t 57 (24 * x + (k + 1))) = _
          rw [ex, hc k hk, hc (k + 1) (by omega)]
        · rw [if_neg q2, if_neg q2]
          show goB (iC t 57 (24 * x + (k - 1))) (iC t 57 (24 * x + k)) = _
          rw [ex, hc k hk, hc (k - 1) (by omega)]
    rw [← ex] at hs
    rw [hs]
    refine ⟨wf, fun d hd => ?_, fun g d hg hd => ?_, fun κ j hκ hj => ?_⟩
    · rw [show 2 * x + d / 64 = (n * 2).toNat + d / 64 by omega, m.1 (d / 64) (d % 64) (by omega) (by omega)]
      constructor
      · rintro ⟨k, k1, k2, k3⟩
        replace k2 : f k / 64 = ((d / 64 : Nat) : Int) := k2
        replace k3 : f k % 64 = ((d % 64 : Nat) : Int) := k3
        exact ⟨k, k1, by rw [ex, hc k k1]; omega⟩
      · rintro ⟨k, k1, k2⟩
        rw [ex, hc k k1] at k2
        exact ⟨k, k1, by show f k / 64 = _; rw [k2]; omega, by show f k % 64 = _; rw [k2]; omega⟩
    · rw [show 14 * x + 2 * g + d / 64 = (n * 14).toNat + (2 * g + d / 64) by omega, gm.1 (2 * g + d / 64) (d % 64) (by omega) (by omega)]
      constructor
      · rintro ⟨k, k1, k2, k3⟩
        have r := ho.2.1 k k1
        replace r : 0 ≤ f k ∧ f k ≤ 127 := r
        have gr := @gok_r (fun k => f k) w k
        replace k2 : goK (fun k => f k) w k * 2 + f k / 64 = ((2 * g + d / 64 : Nat) : Int) := k2
        replace k3 : f k % 64 = ((d % 64 : Nat) : Int) := k3
        refine ⟨k, k1, by rw [ex, hc k k1]; omega, by rw [gk k k1]; omega⟩
      · rintro ⟨k, k1, k2, k3⟩
        rw [gk k k1] at k3
        rw [ex, hc k k1] at k2
        exact ⟨k, k1, by show goK (fun k => f k) w k * 2 + f k / 64 = _; rw [k3]; omega, by show f k % 64 = _; rw [k2]; omega⟩
    · rw [show 5 * x + κ = (n * 5).toNat + κ by omega, st.1 κ j hκ hj]
      have kl : ∀ k : Nat, (k : Int) + 1 < w → kdK (fun k => iC t 57 (24 * x + k)) k = kdK (fun k => f k) k ∧ lsK (fun k => iC t 57 (24 * x + k)) k = lsK (fun k => f k) k := by
        intro k hk
        unfold kdK lsK
        have a1 : iC t 57 (24 * x + k) = f k := by rw [ex]; exact hc k (by omega)
        have a2 : iC t 57 (24 * x + (k + 1)) = f (k + 1) := by rw [ex]; exact hc (k + 1) (by omega)
        simp only [a1, a2]
        exact ⟨trivial, trivial⟩
      constructor
      · rintro ⟨k, k1, k2, k3, k4⟩
        exact ⟨k, k1, k2, by rw [(kl k k2).1]; exact k3, by rw [(kl k k2).2]; exact k4⟩
      · rintro ⟨k, k1, k2, k3, k4⟩
        exact ⟨k, k1, k2, by rw [← (kl k k2).1]; exact k3, by rw [← (kl k k2).2]; exact k4⟩
  · have hx2 : (x : Int) < n := by omega
    have r := h x hx2
    have e3 := hs2 x (by omega)
    have zz := r.1.1
    have e2 : ∀ k : Nat, (k : Int) < 24 → iC t 57 (24 * x + k) = iC s 57 (24 * x + k) := fun k hk => hc2 _ (by omega)
    have gk : ∀ k : Nat, (k : Int) < iC s 58 x → goK (fun k => iC t 57 (24 * x + k)) (iC s 58 x) k = goK (fun k => iC s 57 (24 * x + k)) (iC s 58 x) k := by
      intro k hk
      unfold goK
      by_cases q1 : iC s 58 x = 1
      · rw [if_pos q1, if_pos q1]
      · rw [if_neg q1, if_neg q1]
        by_cases q2 : (k : Int) + 1 < iC s 58 x
        · rw [if_pos q2, if_pos q2]
          show goB (iC t 57 (24 * x + k)) (iC t 57 (24 * x + (k + 1))) = _
          rw [e2 k (by omega), e2 (k + 1) (by omega)]
        · rw [if_neg q2, if_neg q2]
          show goB (iC t 57 (24 * x + (k - 1))) (iC t 57 (24 * x + k)) = _
          rw [e2 k (by omega), e2 (k - 1) (by omega)]
    rw [e3]
    refine ⟨wok_c r.1 (fun k hk => e2 k (by omega)), fun d hd => ?_, fun g d hg hd => ?_, fun κ j hκ hj => ?_⟩
    · rw [m.2 _ (by omega), r.2.1 d hd]
      exact ⟨fun ⟨k, k1, k2⟩ => ⟨k, k1, by rw [e2 k (by omega)]; exact k2⟩, fun ⟨k, k1, k2⟩ => ⟨k, k1, by rw [← e2 k (by omega)]; exact k2⟩⟩
    · rw [gm.2 _ (by omega), r.2.2.1 g d hg hd]
      exact ⟨fun ⟨k, k1, k2, k3⟩ => ⟨k, k1, by rw [e2 k (by omega)]; exact k2, by rw [gk k k1]; exact k3⟩, fun ⟨k, k1, k2, k3⟩ => ⟨k, k1, by rw [← e2 k (by omega)]; exact k2, by rw [← gk k k1]; exact k3⟩⟩
    · rw [st.2 _ (by omega), r.2.2.2 κ j hκ hj]
      have kl : ∀ k : Nat, (k : Int) + 1 < iC s 58 x → kdK (fun k => iC t 57 (24 * x + k)) k = kdK (fun k => iC s 57 (24 * x + k)) k ∧ lsK (fun k => iC t 57 (24 * x + k)) k = lsK (fun k => iC s 57 (24 * x + k)) k := by
        intro k hk
        unfold kdK lsK
        have a1 := e2 k (by omega)
        have a2 := e2 (k + 1) (by omega)
        simp only [a1, a2]
        exact ⟨trivial, trivial⟩
      exact ⟨fun ⟨k, k1, k2, k3, k4⟩ => ⟨k, k1, k2, by rw [(kl k k2).1]; exact k3, by rw [(kl k k2).2]; exact k4⟩, fun ⟨k, k1, k2, k3, k4⟩ => ⟨k, k1, k2, by rw [← (kl k k2).1]; exact k3, by rw [← (kl k k2).2]; exact k4⟩⟩
theorem ain_le {n m : Int} {s : PS} (h : AIN n s) (hm : m ≤ n) : AIN m s := fun x hx => h x (by omega)
theorem ain_air {s : PS} (h : AIN (iI s 43) s) (h0 : iI s 43 ≤ 12) : AIRM s := ⟨h0, h⟩
section M87kt
variable {l : Launch} {s0 : State} {D : va_G} {tys : List (ClassId × FieldType)} {a0 : Array Value} {A : Nat → Nat} {dT : Nat → ClassId} {s : PS}
set_option maxRecDepth 4000 in
theorem c9_setStep3m (G : GX l s0 D tys a0 dT) (I : Bd s) {x y z : Int} (p0 : 0 ≤ x ∧ x ≤ 11) (p1 : 0 ≤ y ∧ y ≤ 127) (p2 : 0 ≤ z ∧ z ≤ 5) : CT l s0 D A dT 109 (rmN 109) [.ref (A 68), .int (Int32.ofInt x), .int (Int32.ofInt y), .int (Int32.ofInt z)] s (fun o t => Bd t ∧ Fm [] [1061] s t ∧ o = .inl none ∧ (t = uD s 61 (x * 5 + kdZ y z).toNat (gD s 61 (x * 5 + kdZ y z).toNat ||| jshl 1 (y % 64)))) := by
  refine ct_ofX G (by decide) (Nat.le_of_ble_eq_true rfl) (fun k X E ET hRt hXt q => ?_)
  show WS k 0 [(0, .ref (A 68)), (1, .int (Int32.ofInt x)), (2, .int (Int32.ofInt y)), (3, .int (Int32.ofInt z))] [] _ 0 0
  have F : Fm [] [1061] s s := fm_rf _ _ s
  refine z_load_n X (x := z) rfl (List.Mem.tail _ (List.Mem.tail _ (List.Mem.tail _ (List.Mem.head _)))) (z_const X rfl (z_icmp_lt X (t := 9) rfl rfl ⟨by first | exact oq_fa4e5087 p2.1 | omega, by first | exact oq_a3dd55e5 p2.2 | omega⟩ (by decide) (fun g1 => ?_) (fun g1 => ?_)))
  ·
    refine z_load_n X (x := z) rfl (List.Mem.tail _ (List.Mem.tail _ (List.Mem.tail _ (List.Mem.head _)))) (z_const X rfl (z_quot X rfl (by first | exact p2.1 | omega) ⟨by first | exact oq_fa4e5087 p2.1 | omega, by first | exact oq_f46e1d28 g1 | omega⟩ (by decide) (by decide) (z_const X rfl (z_mul X rfl (z_load_n X (x := y) rfl (List.Mem.tail _ (List.Mem.tail _ (List.Mem.head _))) (z_bipush X rfl (z_quot X rfl (by first | exact p1.1 | omega) ⟨by first | exact oq_fa4e5087 p1.1 | omega, by first | exact oq_07d346ce p1.2 | omega⟩ (by decide) (by decide) (z_add X rfl (z_store X (lv' := [(4, .int (Int32.ofInt (((z / 2) * 2) + (y / 64)))), (0, .ref (A 68)), (1, .int (Int32.ofInt x)), (2, .int (Int32.ofInt y)), (3, .int (Int32.ofInt z))]) rfl (by decide) (fun _ h => h) (z_aload_n X (x := A 68) rfl (List.Mem.tail _ (List.Mem.head _)) (s_getR X 68 rfl (c518_ok rfl) rfl rfl ?_)))))))))))
    refine z_load_n X (x := x) rfl (List.Mem.tail _ (List.Mem.tail _ (List.Mem.head _))) (z_const X rfl (z_mul X rfl (z_load X (x := (((z / 2) * 2) + (y / 64))) rfl (List.Mem.head _) (z_add X rfl (w_dup2_11 X.1 (ax_d X (show cdA 109 31 = some (.dup2, 1, 0, 0, 0) from rfl)) rfl rfl (z_lalE X 73 rfl (by decide) rfl (by omega) (show ((x * 5) + (((z / 2) * 2) + (y / 64))) < 60 by first | exact oq_87ebc822 g1 p1.2 p0.2 | omega) (by decide) (w_lconst X.1 (ax_d X (show cdA 109 33 = some (.lconst 1, 1, 0, 0, 0) from rfl)) (z := (1 : Int64)) (by decide) (z_load_n X (x := y) rfl (List.Mem.tail _ (List.Mem.tail _ (List.Mem.tail _ (List.Mem.head _)))) (z_bipush X rfl (z_and63 X rfl (by omega) (z_jshl X rfl ?_)))))))))))
    refine w_lor X.1 (ax_d X (show cdA 109 39 = some (.lor, 1, 0, 0, 0) from rfl)) (z_last X 73 rfl (c518_ok rfl) rfl (by omega) (show ((x * 5) + (((z / 2) * 2) + (y / 64))) < 60 by first | exact oq_87ebc822 g1 p1.2 p0.2 | omega) (cbig_ok rfl) (wd_gen (fun s2 hs2 => ?_)))
    have Is2 : Bd s2 := eqB hs2 (bd_D I)
    have Fs2 : Fm [] [1061] s s2 := by rw [hs2]; exact fm_D F (show 61 + 1000 ∈ _ by decide)
    exact w_vret X.1 q hRt (ax_d X (show cdA 109 41 = some (.return_, 1, 0, 0, 0) from rfl)) (Nat.zero_le _) (Nat.zero_le _) ⟨_, rfl, Is2, Fs2, rfl, by rw [hs2, show kdZ y z = (((z / 2) * 2) + (y / 64)) by unfold kdZ; first | (rw [if_pos (by omega)]) | (rw [if_neg (by omega)])]⟩
  ·
    refine z_const X rfl (z_goto X (t := 19) rfl rfl (z_store X (lv' := [(4, .int (Int32.ofInt 4)), (0, .ref (A 68)), (1, .int (Int32.ofInt x)), (2, .int (Int32.ofInt y)), (3, .int (Int32.ofInt z))]) rfl (by decide) (fun _ h => h) (z_aload_n X (x := A 68) rfl (List.Mem.tail _ (List.Mem.head _)) (s_getR X 68 rfl (c518_ok rfl) rfl rfl (z_load_n X (x := x) rfl (List.Mem.tail _ (List.Mem.tail _ (List.Mem.head _))) (z_const X rfl (z_mul X rfl (z_load X (x := 4) rfl (List.Mem.head _) (z_add X rfl (w_dup2_11 X.1 (ax_d X (show cdA 109 31 = some (.dup2, 1, 0, 0, 0) from rfl)) rfl rfl (z_lalE X 73 rfl (by decide) rfl (by first | exact oq_733cd31a p0.1 | omega) (show ((x * 5) + 4) < 60 by first | exact oq_23e13238 p0.2 | omega) (by decide) ?_)))))))))))
    refine w_lconst X.1 (ax_d X (show cdA 109 33 = some (.lconst 1, 1, 0, 0, 0) from rfl)) (z := (1 : Int64)) (by decide) (z_load_n X (x := y) rfl (List.Mem.tail _ (List.Mem.tail _ (List.Mem.tail _ (List.Mem.head _)))) (z_bipush X rfl (z_and63 X rfl (by omega) (z_jshl X rfl (w_lor X.1 (ax_d X (show cdA 109 39 = some (.lor, 1, 0, 0, 0) from rfl)) (z_last X 73 rfl (c518_ok rfl) rfl (by first | exact oq_733cd31a p0.1 | omega) (show ((x * 5) + 4) < 60 by first | exact oq_23e13238 p0.2 | omega) (cbig_ok rfl) (wd_gen (fun s3 hs3 => ?_))))))))
    have Is3 : Bd s3 := eqB hs3 (bd_D I)
    have Fs3 : Fm [] [1061] s s3 := by rw [hs3]; exact fm_D F (show 61 + 1000 ∈ _ by decide)
    exact w_vret X.1 q hRt (ax_d X (show cdA 109 41 = some (.return_, 1, 0, 0, 0) from rfl)) (Nat.zero_le _) (Nat.zero_le _) ⟨_, rfl, Is3, Fs3, rfl, by rw [hs3, show kdZ y z = 4 by unfold kdZ; first | (rw [if_pos (by omega)]) | (rw [if_neg (by omega)])]⟩
set_option maxRecDepth 4000 in
theorem c9_wipe3m (G : GX l s0 D tys a0 dT) (I : Bd s) {x : Int} (p0 : 0 ≤ x ∧ x ≤ 11) : CT l s0 D A dT 108 (rmN 108) [.ref (A 68), .int (Int32.ofInt x)] s (fun o t => Bd t ∧ Fm [] [1059, 1060, 1061] s t ∧ o = .inl none ∧ (WZQM x s t)) := by
  refine ct_ofX G (by decide) (Nat.le_of_ble_eq_true rfl) (fun k X E ET hRt hXt q => ?_)
  show WS k 0 [(0, .ref (A 68)), (1, .int (Int32.ofInt x))] [] _ 0 0
  have F : Fm [] [1059, 1060, 1061] s s := fm_rf _ _ s
  have L22 : ∀ (n : Nat) (t : PS) (xv c : Int), Bd t → Fm [] [1059, 1060, 1061] s t → (WZ1M xv c s t) → ((0 ≤ xv ∧ xv ≤ 11) ∧ 0 ≤ c ∧ c ≤ 14) → (14 - c : Int).toNat < n → (∀ (t' : PS) (c' : Int), Bd t' → Fm [] [1059, 1060, 1061] s t' → (WZ1M xv 14 s t') → ((0 ≤ xv ∧ xv ≤ 11) ∧ 0 ≤ c' ∧ c' ≤ 14) → WS k 48 [(0, .ref (A 68)), (1, .int (Int32.ofInt xv)), (2, .int (Int32.ofInt c'))] [] (Wd A dT t') 0 0) → WS k 22 [(0, .ref (A 68)), (1, .int (Int32.ofInt xv)), (2, .int (Int32.ofInt c))] [] (Wd A dT t) 0 0 := by
    intro n
    induction n with
    | zero =>
      intro t xv c I F hq hi hm kx
      exact absurd hm (Nat.not_lt_zero _)
    | succ n ih =>
      intro t xv c I F hq hi hm kx
      refine z_load_n X (x := c) rfl (List.Mem.tail _ (List.Mem.tail _ (List.Mem.head _))) (z_bipush X rfl (z_icmp_ge X (t := 48) rfl rfl ⟨by first | exact oq_fa4e5087 hi.2.1 | omega, by first | exact oq_b2d5d781 hi.2.2 | omega⟩ (by decide) (fun g1001 => ?_) (fun g1001 => ?_)))
      ·
        refine WS_pq [0, 1, 2] (lv' := [(0, .ref (A 68)), (1, .int (Int32.ofInt xv)), (2, .int (Int32.ofInt c))]) rfl ?_
        exact kx _ c I F (by rw [show (14 : Int) = c by omega]; exact hq) (by first | exact ⟨And.intro (hi.1.1) (hi.1.2), hi.2.1, hi.2.2⟩ | omega)
      ·
        refine z_aload_n X (x := A 68) rfl (List.Mem.head _) (s_getR X 68 rfl (c518_ok rfl) rfl rfl (z_load_n X (x := xv) rfl (List.Mem.tail _ (List.Mem.head _)) (z_bipush X rfl (z_mul X rfl (z_const X rfl (z_mul X rfl (z_load_n X (x := c) rfl (List.Mem.tail _ (List.Mem.tail _ (List.Mem.head _))) (z_add X rfl (w_lconst X.1 (ax_d X (show cdA 108 40 = some (.lconst 0, 1, 0, 0, 0) from rfl)) (z := (0 : Int64)) (by decide) (z_last X 72 rfl (c518_ok rfl) rfl (by first | exact oq_5903f419 hi.1.1 hi.2.1 | omega) (show (((xv * 7) * 2) + c) < 168 by first | exact oq_7e6b1f23 hi.1.2 g1001 | omega) (cbig_ok rfl) (wd_gen (fun s1002 hs1002 => ?_))))))))))))
        have Is1002 : Bd s1002 := eqB hs1002 (bd_D I)
        have Fs1002 : Fm [] [1059, 1060, 1061] s s1002 := by rw [hs1002]; exact fm_D F (show 60 + 1000 ∈ _ by decide)
        refine z_inc X (x := c) (lv' := [(2, .int (Int32.ofInt (c + 1))), (0, .ref (A 68)), (1, .int (Int32.ofInt xv))]) rfl (by decide) (List.Mem.tail _ (List.Mem.tail _ (List.Mem.head _))) (fun _ h => h) (z_goto X (t := 22) rfl rfl (WS_pq [1, 2, 0] (lv' := [(0, .ref (A 68)), (1, .int (Int32.ofInt xv)), (2, .int (Int32.ofInt (c + 1)))]) rfl ?_))
        exact ih _ xv (c + 1) Is1002 Fs1002 (wz1m_up hq hs1002 (by omega) (by omega) (by omega)) (by first | exact ⟨And.intro (hi.1.1) (hi.1.2), oq_54f49eb5 hi.2.1, oq_99721bc4 g1001⟩ | omega) (by first | exact qk_me hm (by decide) (oq_bddbca7a g1001) | omega) kx
  have L50 : ∀ (n : Nat) (t : PS) (xv c : Int), Bd t → Fm [] [1059, 1060, 1061] s t → (WZ2M xv c s t) → ((0 ≤ xv ∧ xv ≤ 11) ∧ 0 ≤ c ∧ c ≤ 5) → (5 - c : Int).toNat < n → (∀ (t' : PS) (c' : Int), Bd t' → Fm [] [1059, 1060, 1061] s t' → (WZ2M xv 5 s t') → ((0 ≤ xv ∧ xv ≤ 11) ∧ 0 ≤ c' ∧ c' ≤ 5) → WS k 72 [(0, .ref (A 68)), (1, .int (Int32.ofInt xv)), (2, .int (Int32.ofInt c'))] [] (Wd A dT t') 0 0) → WS k 50 [(0, .ref (A 68)), (1, .int (Int32.ofInt xv)), (2, .int (Int32.ofInt c))] [] (Wd A dT t) 0 0 := by
    intro n
    induction n with
    | zero =>
      intro t xv c I F hq hi hm kx
      exact absurd hm (Nat.not_lt_zero _)
    | succ n ih =>
      intro t xv c I F hq hi hm kx
      refine z_load_n X (x := c) rfl (List.Mem.tail _ (List.Mem.tail _ (List.Mem.head _))) (z_const X rfl (z_icmp_ge X (t := 72) rfl rfl ⟨by first | exact oq_fa4e5087 hi.2.1 | omega, by first | exact oq_a3dd55e5 hi.2.2 | omega⟩ (by decide) (fun g2001 => ?_) (fun g2001 => ?_)))
      ·
        refine WS_pq [0, 1, 2] (lv' := [(0, .ref (A 68)), (1, .int (Int32.ofInt xv)), (2, .int (Int32.ofInt c))]) rfl ?_
        exact kx _ c I F (by rw [show (5 : Int) = c by omega]; exact hq) (by first | exact ⟨And.intro (hi.1.1) (hi.1.2), hi.2.1, hi.2.2⟩ | omega)
      ·
        refine z_aload_n X (x := A 68) rfl (List.Mem.head _) (s_getR X 68 rfl (c518_ok rfl) rfl rfl (z_load_n X (x := xv) rfl (List.Mem.tail _ (List.Mem.head _)) (z_const X rfl (z_mul X rfl (z_load_n X (x := c) rfl (List.Mem.tail _ (List.Mem.tail _ (List.Mem.head _))) (z_add X rfl (w_lconst X.1 (ax_d X (show cdA 108 64 = some (.lconst 0, 1, 0, 0, 0) from rfl)) (z := (0 : Int64)) (by decide) (z_last X 73 rfl (c518_ok rfl) rfl (by first | exact oq_59a253bd hi.1.1 hi.2.1 | omega) (show ((xv * 5) + c) < 60 by first | exact oq_7279bf48 hi.1.2 g2001 | omega) (cbig_ok rfl) (wd_gen (fun s2002 hs2002 => ?_))))))))))
        have Is2002 : Bd s2002 := eqB hs2002 (bd_D I)
        have Fs2002 : Fm [] [1059, 1060, 1061] s s2002 := by rw [hs2002]; exact fm_D F (show 61 + 1000 ∈ _ by decide)
        refine z_inc X (x := c) (lv' := [(2, .int (Int32.ofInt (c + 1))), (0, .ref (A 68)), (1, .int (Int32.ofInt xv))]) rfl (by decide) (List.Mem.tail _ (List.Mem.tail _ (List.Mem.head _))) (fun _ h => h) (z_goto X (t := 50) rfl rfl (WS_pq [1, 2, 0] (lv' := [(0, .ref (A 68)), (1, .int (Int32.ofInt xv)), (2, .int (Int32.ofInt (c + 1)))]) rfl ?_))
        exact ih _ xv (c + 1) Is2002 Fs2002 (wz2m_up hq hs2002 (by omega) (by omega) (by omega)) (by first | exact ⟨And.intro (hi.1.1) (hi.1.2), oq_54f49eb5 hi.2.1, oq_c2445583 g2001⟩ | omega) (by first | exact qk_me hm (by decide) (oq_33241a94 g2001) | omega) kx
  refine z_aload_n X (x := A 68) rfl (List.Mem.head _) (s_getR X 68 rfl (c518_ok rfl) rfl rfl (z_load_n X (x := x) rfl (List.Mem.tail _ (List.Mem.head _)) (z_const X rfl (z_mul X rfl (w_lconst X.1 (ax_d X (show cdA 108 7 = some (.lconst 0, 1, 0, 0, 0) from rfl)) (z := (0 : Int64)) (by decide) (z_last X 71 rfl (c518_ok rfl) rfl (by first | exact oq_cfc6ac54 p0.1 | omega) (show (x * 2) < 24 by first | exact oq_36c3846a p0.2 | omega) (cbig_ok rfl) (wd_gen (fun s1 hs1 => ?_))))))))
  have Is1 : Bd s1 := eqB hs1 (bd_D I)
  have Fs1 : Fm [] [1059, 1060, 1061] s s1 := by rw [hs1]; exact fm_D F (show 59 + 1000 ∈ _ by decide)
  refine z_aload_n X (x := A 68) rfl (List.Mem.head _) (s_getR X 68 rfl (c518_ok rfl) rfl rfl (z_load_n X (x := x) rfl (List.Mem.tail _ (List.Mem.head _)) (z_const X rfl (z_mul X rfl (z_const X rfl (z_add X rfl (w_lconst X.1 (ax_d X (show cdA 108 18 = some (.lconst 0, 1, 0, 0, 0) from rfl)) (z := (0 : Int64)) (by decide) (z_last X 71 rfl (c518_ok rfl) rfl (by first | exact oq_8a3e0277 p0.1 | omega) (show ((x * 2) + 1) < 24 by first | exact oq_ad30b59c p0.2 | omega) (cbig_ok rfl) (wd_gen (fun s2 hs2 => ?_))))))))))
  have Is2 : Bd s2 := eqB hs2 (bd_D Is1)
  have Fs2 : Fm [] [1059, 1060, 1061] s s2 := by rw [hs2]; exact fm_D Fs1 (show 59 + 1000 ∈ _ by decide)
  have hWZ : WZ1M x 0 s s2 := wz1m_0 hs1 hs2 rfl rfl (by omega)
  refine z_const X rfl (z_store_n X (lv' := [(2, .int (Int32.ofInt 0)), (0, .ref (A 68)), (1, .int (Int32.ofInt x))]) rfl (by decide) (fun _ h => h) (WS_pq [1, 2, 0] (lv' := [(0, .ref (A 68)), (1, .int (Int32.ofInt x)), (2, .int (Int32.ofInt 0))]) rfl (L22 ((14 - 0 : Int).toNat + 1) s2 x 0 Is2 Fs2 hWZ (by first | exact ⟨And.intro (p0.1) (p0.2), by decide, by decide⟩ | omega) (Nat.lt_succ_self _) ?_)))
  intro s3 x4 Is3 Fs3 Qs3 hs3
  refine z_const X rfl (z_store_n X (lv' := [(2, .int (Int32.ofInt 0)), (0, .ref (A 68)), (1, .int (Int32.ofInt x))]) rfl (by decide) (fun _ h => h) (WS_pq [1, 2, 0] (lv' := [(0, .ref (A 68)), (1, .int (Int32.ofInt x)), (2, .int (Int32.ofInt 0))]) rfl (L50 ((5 - 0 : Int).toNat + 1) s3 x 0 Is3 Fs3 (wz2m_0 Qs3) (by first | exact ⟨And.intro (hs3.1.1) (hs3.1.2), by decide, by decide⟩ | omega) (Nat.lt_succ_self _) ?_)))
  intro s5 x6 Is5 Fs5 Qs5 hs5
  exact w_vret X.1 q hRt (ax_d X (show cdA 108 72 = some (.return_, 1, 0, 0, 0) from rfl)) (Nat.zero_le _) (Nat.zero_le _) ⟨_, rfl, Is5, Fs5, rfl, Qs5⟩
set_option maxRecDepth 4000 in
theorem c9_setWayMa (G : GX l s0 D tys a0 dT) (I : Bd s) {x z w : Int} (p0 : 0 ≤ x ∧ x ≤ 11) (p1 : 0 ≤ w ∧ w ≤ 24) (p2 : 0 ≤ z ∧ z + w ≤ 288) : CT l s0 D A dT 107 (rmN 107) [.ref (A 68), .int (Int32.ofInt x), .ref (A 4), .int (Int32.ofInt z), .int (Int32.ofInt w)] s (fun o t => Bd t ∧ Fm [] [57, 58, 1059, 1060, 1061] s t ∧ o = .inl none ∧ (CWG (fun k => iC s 1 ((z : Int).toNat + k)) x w s t ∧ WRQM (fun k => iC s 1 ((z : Int).toNat + k)) x w w s t)) := by
  refine ct_ofX G (by decide) (Nat.le_of_ble_eq_true rfl) (fun k X E ET hRt hXt q => ?_)
  show WS k 0 [(0, .ref (A 68)), (1, .int (Int32.ofInt x)), (2, .ref (A 4)), (3, .int (Int32.ofInt z)), (4, .int (Int32.ofInt w))] [] _ 0 0
  have F : Fm [] [57, 58, 1059, 1060, 1061] s s := fm_rf _ _ s
  have aw0_SDMM : SDMM s s := sdmm_rf
  have aw0_SDGM : SDGM s s := sdgm_rf
  have aw0_SDPM : SDPM s s := sdpm_rf
  have L35 : ∀ (n : Nat) (t : PS) (xv zv wv go c : Int), Bd t → Fm [] [57, 58, 1059, 1060, 1061] s t → (CWG (fun k => iC s 1 ((z : Int).toNat + k)) x w s t ∧ WRQM (fun k => iC s 1 ((z : Int).toNat + k)) xv wv c s t ∧ GOQ (fun k => iC s 1 ((z : Int).toNat + k)) wv c go) → ((xv = x ∧ zv = z ∧ wv = w ∧ c ≤ w) ∧ (0 ≤ x ∧ x ≤ 11) ∧ (0 ≤ w ∧ w ≤ 24) ∧ (0 ≤ z ∧ z + w ≤ 288) ∧ (0 ≤ go ∧ go ≤ 6) ∧ 0 ≤ c ∧ c ≤ 24) → (24 - c : Int).toNat < n → (∀ (t' : PS) (go' c' : Int), Bd t' → Fm [] [57, 58, 1059, 1060, 1061] s t' → (CWG (fun k => iC s 1 ((z : Int).toNat + k)) x w s t' ∧ WRQM (fun k => iC s 1 ((z : Int).toNat + k)) x w w s t') → (c' = w) → WS k 153 [(0, .ref (A 68)), (2, .ref (A 4)), (1, .int (Int32.ofInt xv)), (3, .int (Int32.ofInt zv)), (4, .int (Int32.ofInt wv)), (5, .int (Int32.ofInt go')), (6, .int (Int32.ofInt c'))] [] (Wd A dT t') 0 0) → WS k 35 [(0, .ref (A 68)), (2, .ref (A 4)), (1, .int (Int32.ofInt xv)), (3, .int (Int32.ofInt zv)), (4, .int (Int32.ofInt wv)), (5, .int (Int32.ofInt go)), (6, .int (Int32.ofInt c))] [] (Wd A dT t) 0 0 := by
    intro n
    induction n with
    | zero =>
      intro t xv zv wv go c I F hq hi hm kx
      exact absurd hm (Nat.not_lt_zero _)
    | succ n ih =>
      intro t xv zv wv go c I F hq hi hm kx
      refine z_load X (x := c) rfl (List.Mem.tail _ (List.Mem.tail _ (List.Mem.tail _ (List.Mem.tail _ (List.Mem.tail _ (List.Mem.tail _ (List.Mem.head _))))))) (z_load X (x := wv) rfl (List.Mem.tail _ (List.Mem.tail _ (List.Mem.tail _ (List.Mem.tail _ (List.Mem.head _))))) (z_icmp_ge X (t := 153) rfl rfl ⟨by first | exact oq_fa4e5087 hi.2.2.2.2.2.1 | omega, by first | exact oq_5bcd337f hi.2.2.2.2.2.2 | omega⟩ ⟨by first | exact oq_b3df2c6f hi.1.2.2.1 hi.2.2.1.1 | omega, by first | exact oq_f1a90b10 hi.1.2.2.1 hi.2.2.1.2 | omega⟩ (fun g1001 => ?_) (fun g1001 => ?_)))
      ·
        refine WS_pq [0, 1, 2, 3, 4, 5, 6] (lv' := [(0, .ref (A 68)), (2, .ref (A 4)), (1, .int (Int32.ofInt xv)), (3, .int (Int32.ofInt zv)), (4, .int (Int32.ofInt wv)), (5, .int (Int32.ofInt go)), (6, .int (Int32.ofInt c))]) rfl ?_
        exact kx _ go c I F ⟨hq.1, by have h := hq.2.1; rw [show c = w by omega, show xv = x by omega, show wv = w by omega] at h; exact h⟩ (by first | exact oq_537ca82a hi.1.2.2.2 g1001 hi.1.2.2.1 | omega)
      ·
        refine z_aload_n X (x := A 4) rfl (List.Mem.tail _ (List.Mem.head _)) (z_load_n X (x := zv) rfl (List.Mem.tail _ (List.Mem.tail _ (List.Mem.tail _ (List.Mem.head _)))) (z_load X (x := c) rfl (List.Mem.tail _ (List.Mem.tail _ (List.Mem.tail _ (List.Mem.tail _ (List.Mem.tail _ (List.Mem.tail _ (List.Mem.head _))))))) (z_add X rfl (z_ald X 4 rfl (c518_ok rfl) rfl (by first | exact oq_eb560c61 hi.1.2.1 hi.2.2.2.2.2.1 hi.2.2.2.1.1 | omega) (show (zv + c) < 288 by first | exact oq_09e9453c hi.1.2.1 g1001 hi.1.2.2.1 hi.2.2.2.1.2 | omega) (cbig_ok rfl) ?_))))
        have b1002 := bc_1 I (show ((zv + c)).toNat < 288 by first | exact oq_05fa5e56 hi.1.2.1 g1001 hi.1.2.2.1 hi.2.2.2.1.2 | omega)
        have hce : (iC t 1 ((zv + c)).toNat) = (fun k => iC s 1 ((z : Int).toNat + k)) ((c : Int)).toNat := by show (iC t 1 ((zv + c)).toNat) = iC s 1 ((z : Int).toNat + ((c : Int)).toNat); rw [show (z : Int).toNat + ((c : Int)).toNat = ((zv + c)).toNat by omega]; exact (sam_fm F (by decide) : SAM 1 s t) _
        refine z_store X (lv' := [(7, .int (Int32.ofInt (iC t 1 ((zv + c)).toNat))), (0, .ref (A 68)), (2, .ref (A 4)), (1, .int (Int32.ofInt xv)), (3, .int (Int32.ofInt zv)), (4, .int (Int32.ofInt wv)), (5, .int (Int32.ofInt go)), (6, .int (Int32.ofInt c))]) rfl (by decide) (fun _ h => h) (z_load X (x := c) rfl (List.Mem.tail _ (List.Mem.tail _ (List.Mem.tail _ (List.Mem.tail _ (List.Mem.tail _ (List.Mem.tail _ (List.Mem.tail _ (List.Mem.head _)))))))) (z_const X rfl (z_add X rfl (z_load X (x := wv) rfl (List.Mem.tail _ (List.Mem.tail _ (List.Mem.tail _ (List.Mem.tail _ (List.Mem.tail _ (List.Mem.head _)))))) (z_icmp_ge X (t := 94) rfl rfl ⟨by first | exact oq_74de1e16 hi.2.2.2.2.2.1 | omega, by first | exact oq_3a454424 hi.2.2.2.2.2.2 | omega⟩ ⟨by first | exact oq_9d8ce83d g1001 hi.2.2.2.2.2.1 | omega, by first | exact oq_f1a90b10 hi.1.2.2.1 hi.2.2.1.2 | omega⟩ (fun g1003 => ?_) (fun g1003 => ?_))))))
        ·
          refine w_lconst X.1 (ax_d X (show cdA 107 94 = some (.lconst 1, 1, 0, 0, 0) from rfl)) (z := (1 : Int64)) (by decide) (z_load X (x := (iC t 1 ((zv + c)).toNat)) rfl (List.Mem.head _) (z_bipush X rfl (z_and63 X rfl (by omega) (z_jshl X rfl (w_lstore X.1 (lv' := [(8, .long (jshl (1 : Int64) ((iC t 1 ((zv + c)).toNat) % 64))), (7, .int (Int32.ofInt (iC t 1 ((zv + c)).toNat))), (0, .ref (A 68)), (2, .ref (A 4)), (1, .int (Int32.ofInt xv)), (3, .int (Int32.ofInt zv)), (4, .int (Int32.ofInt wv)), (5, .int (Int32.ofInt go)), (6, .int (Int32.ofInt c))]) (ax_d X (show cdA 107 101 = some (.lstore 8, 2, 0, 0, 0) from rfl)) (by rw [X.2.1.2.2]; decide) (fun _ h => h) (z_aload_n X (x := A 68) rfl (List.Mem.tail _ (List.Mem.tail _ (List.Mem.head _))) (s_getR X 68 rfl (c518_ok rfl) rfl rfl (z_load_n X (x := xv) rfl (List.Mem.tail _ (List.Mem.tail _ (List.Mem.tail _ (List.Mem.tail _ (List.Mem.head _))))) (z_const X rfl (z_mul X rfl (z_load X (x := (iC t 1 ((zv + c)).toNat)) rfl (List.Mem.tail _ (List.Mem.head _)) ?_)))))))))))
          refine z_bipush X rfl (z_quot X rfl (by first | exact b1002.1 | omega) (rng_to _) (by decide) (by decide) (z_add X rfl (w_dup2_11 X.1 (ax_d X (show cdA 107 116 = some (.dup2, 1, 0, 0, 0) from rfl)) rfl rfl (z_lalE X 71 rfl (by decide) rfl (by first | exact oq_6e790857 b1002.1 hi.2.1.1 hi.1.1 | omega) (show ((xv * 2) + ((iC t 1 ((zv + c)).toNat) / 64)) < 24 by first | exact oq_9e99edc9 b1002.2 hi.2.1.2 hi.1.1 | omega) (by decide) (w_lload X.1 (ax_d X (show cdA 107 118 = some (.lload 8, 2, 0, 0, 0) from rfl)) (x := (jshl (1 : Int64) ((iC t 1 ((zv + c)).toNat) % 64))) (List.Mem.head _) (w_lor X.1 (ax_d X (show cdA 107 120 = some (.lor, 1, 0, 0, 0) from rfl)) (z_last X 71 rfl (c518_ok rfl) rfl (by first | exact oq_6e790857 b1002.1 hi.2.1.1 hi.1.1 | omega) (show ((xv * 2) + ((iC t 1 ((zv + c)).toNat) / 64)) < 24 by first | exact oq_9e99edc9 b1002.2 hi.2.1.2 hi.1.1 | omega) (cbig_ok rfl) (wd_gen (fun s1004 hs1004 => ?_)))))))))
          have Is1004 : Bd s1004 := eqB hs1004 (bd_D I)
          have Fs1004 : Fm [] [57, 58, 1059, 1060, 1061] s s1004 := by rw [hs1004]; exact fm_D F (show 59 + 1000 ∈ _ by decide)
          have aws1004_57 : SAM 57 t s1004 := by rw [hs1004]; exact (sam_rf (a := 57) (s := t))
          have aws1004_58 : SAM 58 t s1004 := by rw [hs1004]; exact (sam_rf (a := 58) (s := t))
          refine z_aload_n X (x := A 68) rfl (List.Mem.tail _ (List.Mem.tail _ (List.Mem.head _))) (s_getR X 68 rfl (c518_ok rfl) rfl rfl (z_load_n X (x := xv) rfl (List.Mem.tail _ (List.Mem.tail _ (List.Mem.tail _ (List.Mem.tail _ (List.Mem.head _))))) (z_bipush X rfl (z_mul X rfl (z_load X (x := go) rfl (List.Mem.tail _ (List.Mem.tail _ (List.Mem.tail _ (List.Mem.tail _ (List.Mem.tail _ (List.Mem.tail _ (List.Mem.tail _ (List.Mem.head _)))))))) (z_add X rfl (z_const X rfl (z_mul X rfl (z_load X (x := (iC t 1 ((zv + c)).toNat)) rfl (List.Mem.tail _ (List.Mem.head _)) (z_bipush X rfl (z_quot X rfl (by first | exact b1002.1 | omega) (rng_to _) (by decide) (by decide) ?_)))))))))))
          refine z_add X rfl (w_dup2_11 X.1 (ax_d X (show cdA 107 141 = some (.dup2, 1, 0, 0, 0) from rfl)) rfl rfl (z_lalE X 72 rfl (by decide) rfl (by first | exact oq_d161f920 b1002.1 hi.2.2.2.2.1.1 hi.2.1.1 hi.1.1 | omega) (show ((((xv * 7) + go) * 2) + ((iC t 1 ((zv + c)).toNat) / 64)) < 168 by first | exact oq_5e800b0f b1002.2 hi.2.2.2.2.1.2 hi.2.1.2 hi.1.1 | omega) (by decide) (w_lload X.1 (ax_d X (show cdA 107 143 = some (.lload 8, 2, 0, 0, 0) from rfl)) (x := (jshl (1 : Int64) ((iC t 1 ((zv + c)).toNat) % 64))) (List.Mem.head _) (w_lor X.1 (ax_d X (show cdA 107 145 = some (.lor, 1, 0, 0, 0) from rfl)) (z_last X 72 rfl (c518_ok rfl) rfl (by first | exact oq_d161f920 b1002.1 hi.2.2.2.2.1.1 hi.2.1.1 hi.1.1 | omega) (show ((((xv * 7) + go) * 2) + ((iC t 1 ((zv + c)).toNat) / 64)) < 168 by first | exact oq_5e800b0f b1002.2 hi.2.2.2.2.1.2 hi.2.1.2 hi.1.1 | omega) (cbig_ok rfl) (wd_gen (fun s1005 hs1005 => ?_)))))))
          have Is1005 : Bd s1005 := eqB hs1005 (bd_D Is1004)
          have Fs1005 : Fm [] [57, 58, 1059, 1060, 1061] s s1005 := by rw [hs1005]; exact fm_D Fs1004 (show 60 + 1000 ∈ _ by decide)
          have aws1005_57 : SAM 57 t s1005 := by rw [hs1005]; exact aws1004_57
          have aws1005_58 : SAM 58 t s1005 := by rw [hs1005]; exact aws1004_58
          refine z_inc X (x := c) (lv' := [(6, .int (Int32.ofInt (c + 1))), (8, .long (jshl (1 : Int64) ((iC t 1 ((zv + c)).toNat) % 64))), (7, .int (Int32.ofInt (iC t 1 ((zv + c)).toNat))), (0, .ref (A 68)), (2, .ref (A 4)), (1, .int (Int32.ofInt xv)), (3, .int (Int32.ofInt zv)), (4, .int (Int32.ofInt wv)), (5, .int (Int32.ofInt go))]) rfl (by decide) (List.Mem.tail _ (List.Mem.tail _ (List.Mem.tail _ (List.Mem.tail _ (List.Mem.tail _ (List.Mem.tail _ (List.Mem.tail _ (List.Mem.tail _ (List.Mem.head _))))))))) (fun _ h => h) (z_goto X (t := 35) rfl rfl (WS_pq [3, 4, 5, 6, 7, 8, 0] (lv' := [(0, .ref (A 68)), (2, .ref (A 4)), (1, .int (Int32.ofInt xv)), (3, .int (Int32.ofInt zv)), (4, .int (Int32.ofInt wv)), (5, .int (Int32.ofInt go)), (6, .int (Int32.ofInt (c + 1)))]) rfl ?_))
          exact ih _ xv zv wv go (c + 1) Is1005 Fs1005 ⟨cwg_sam hq.1 aws1005_57 aws1005_58, wrqm_last hq.2.1 hs1004 hs1005 hce (by omega) (by omega) (by omega) (goq_k hq.2.2 (by omega) (by omega) (by omega)) (by omega) (by omega) (by omega) (by omega), Or.inr ⟨by omega, fun h => absurd h (by omega)⟩⟩ (by first | exact ⟨And.intro (hi.1.1) (And.intro (hi.1.2.1) (And.intro (hi.1.2.2.1) (oq_8a89b3ae g1001 hi.1.2.2.1))), And.intro (hi.2.1.1) (hi.2.1.2), And.intro (hi.2.2.1.1) (hi.2.2.1.2), And.intro (hi.2.2.2.1.1) (hi.2.2.2.1.2), And.intro (hi.2.2.2.2.1.1) (hi.2.2.2.2.1.2), oq_54f49eb5 hi.2.2.2.2.2.1, oq_2c5393a1 g1001 hi.1.2.2.1 hi.2.2.1.2⟩ | omega) (by first | exact qk_me hm (by decide) (oq_e6203394 g1001 hi.1.2.2.1 hi.2.2.1.2) | omega) kx
        ·
          refine z_load X (x := (iC t 1 ((zv + c)).toNat)) rfl (List.Mem.head _) (z_aload_n X (x := A 4) rfl (List.Mem.tail _ (List.Mem.tail _ (List.Mem.head _))) (z_load_n X (x := zv) rfl (List.Mem.tail _ (List.Mem.tail _ (List.Mem.tail _ (List.Mem.tail _ (List.Mem.head _))))) (z_load X (x := c) rfl (List.Mem.tail _ (List.Mem.tail _ (List.Mem.tail _ (List.Mem.tail _ (List.Mem.tail _ (List.Mem.tail _ (List.Mem.tail _ (List.Mem.head _)))))))) (z_add X rfl (z_const X rfl (z_add X rfl (z_ald X 4 rfl (c518_ok rfl) rfl (by first | exact oq_f2d6cc15 hi.1.2.1 hi.2.2.2.2.2.1 hi.2.2.2.1.1 | omega) (show ((zv + c) + 1) < 288 by first | exact oq_cd948ef7 hi.1.2.1 hi.2.2.2.1.2 g1003 hi.1.2.2.1 | omega) (cbig_ok rfl) ?_)))))))
          have b1006 := bc_1 I (show (((zv + c) + 1)).toNat < 288 by first | exact oq_4c308d7f hi.1.2.1 hi.2.2.2.1.2 g1003 hi.1.2.2.1 | omega)
          have hne : (iC t 1 (((zv + c) + 1)).toNat) = (fun k => iC s 1 ((z : Int).toNat + k)) ((c + 1)).toNat := by show (iC t 1 (((zv + c) + 1)).toNat) = iC s 1 ((z : Int).toNat + ((c + 1)).toNat); rw [show (z : Int).toNat + ((c + 1)).toNat = (((zv + c) + 1)).toNat by omega]; exact (sam_fm F (by decide) : SAM 1 s t) _
          refine z_callS X (rm := rmN 102) (As := [.int (Int32.ofInt (iC t 1 ((zv + c)).toNat)), .int (Int32.ofInt (iC t 1 (((zv + c) + 1)).toNat))]) (st := []) rfl rfl (by rw [E.1, E.2.1, E.2.2.1]; exact c9_goBetween3 G I (by first | exact ⟨b1002.1, b1002.2⟩ | omega) (by first | exact ⟨b1006.1, b1006.2⟩ | omega)) ⟨by rw [E.2.2.2]; exact (show (rmN 102).frames + 1 ≤ (rmN 107).frames by decide), by rw [E.2.2.2]; exact (show 8 + (mNL (miB 102) + 11) + (rmN 102).locals ≤ (rmN 107).locals by decide), by rw [E.2.2.2]; exact (show 0 + (rmN 102).cells ≤ (rmN 107).cells by decide), by rw [E.2.2.2]; exact (show 0 + (rmN 102).slots ≤ (rmN 107).slots by decide)⟩ (Nat.le_of_ble_eq_true rfl) (fun vv s1007 hq => ?_) (fun ee s1007 hq => ?_)
          rotate_left
          · obtain ⟨rfl, e1008, hv, hrs1007, hps1007⟩ := hq; cases hv
          obtain ⟨rfl, e1008, hv, hrs1007, hps1007⟩ := hq
          cases hv
          show WS k 72 [(7, .int (Int32.ofInt (iC t 1 ((zv + c)).toNat))), (0, .ref (A 68)), (2, .ref (A 4)), (1, .int (Int32.ofInt xv)), (3, .int (Int32.ofInt zv)), (4, .int (Int32.ofInt wv)), (5, .int (Int32.ofInt go)), (6, .int (Int32.ofInt c))] [.int (Int32.ofInt e1008)] (Wd A dT t) 0 0
          have hgB : e1008 = goB ((fun k => iC s 1 ((z : Int).toNat + k)) (c : Int).toNat) ((fun k => iC s 1 ((z : Int).toNat + k)) (c + 1).toNat) := by rw [← hce, ← hne]; exact hps1007.1
          refine z_store X (lv' := [(5, .int (Int32.ofInt e1008)), (7, .int (Int32.ofInt (iC t 1 ((zv + c)).toNat))), (0, .ref (A 68)), (2, .ref (A 4)), (1, .int (Int32.ofInt xv)), (3, .int (Int32.ofInt zv)), (4, .int (Int32.ofInt wv)), (6, .int (Int32.ofInt c))]) rfl (by decide) (fun _ h => h) (z_aload_n X (x := A 68) rfl (List.Mem.tail _ (List.Mem.tail _ (List.Mem.head _))) (z_load_n X (x := xv) rfl (List.Mem.tail _ (List.Mem.tail _ (List.Mem.tail _ (List.Mem.tail _ (List.Mem.head _))))) (z_load X (x := (iC t 1 ((zv + c)).toNat)) rfl (List.Mem.tail _ (List.Mem.head _)) (z_aload_n X (x := A 4) rfl (List.Mem.tail _ (List.Mem.tail _ (List.Mem.tail _ (List.Mem.head _)))) (z_load_n X (x := zv) rfl (List.Mem.tail _ (List.Mem.tail _ (List.Mem.tail _ (List.Mem.tail _ (List.Mem.tail _ (List.Mem.head _)))))) (z_load X (x := c) rfl (List.Mem.tail _ (List.Mem.tail _ (List.Mem.tail _ (List.Mem.tail _ (List.Mem.tail _ (List.Mem.tail _ (List.Mem.tail _ (List.Mem.head _)))))))) (z_add X rfl (z_const X rfl (z_add X rfl (z_ald X 4 rfl (c518_ok rfl) rfl (by first | exact oq_f2d6cc15 hi.1.2.1 hi.2.2.2.2.2.1 hi.2.2.2.1.1 | omega) (show ((zv + c) + 1) < 288 by first | exact oq_cd948ef7 hi.1.2.1 hi.2.2.2.1.2 g1003 hi.1.2.2.1 | omega) (cbig_ok rfl) ?_))))))))))
          have b1009 := bc_1 I (show (((zv + c) + 1)).toNat < 288 by first | exact oq_4c308d7f hi.1.2.1 hi.2.2.2.1.2 g1003 hi.1.2.2.1 | omega)
          refine z_min X rfl (rng_to _) (rng_to _) (by rw [E.2.2.2]; decide) (by rw [E.2.2.2]; exact Nat.le_of_ble_eq_true rfl) (Nat.zero_le _) (Nat.zero_le _) (fun e1010 he1010 => ?_)
          refine z_load X (x := e1008) rfl (List.Mem.head _) (zcV_v0 X E 68 (As := [.int (Int32.ofInt xv), .int (Int32.ofInt e1010), .int (Int32.ofInt e1008)]) (st := []) rfl rfl rfl rfl (c9_setStep3m G I (by first | exact ⟨oq_e4757433 hi.1.1 hi.2.1.1, oq_38e17b37 hi.1.1 hi.2.1.2⟩ | omega) (by first | exact ⟨oq_03ccc143 he1010 b1009.1 b1002.1, oq_9c77db17 he1010 b1002.2⟩ | omega) (by first | exact ⟨hps1007.2.1, hps1007.2.2⟩ | omega)) rfl (Nat.le_of_ble_eq_true rfl) (fun s1011 Is1011 Fs1011 hps1011 => ?_))
          have Gs1011 := fm_tq F Fs1011 rfl rfl
          have aws1011_57 : SAM 57 t s1011 := sam_ts (sam_rf (a := 57) (s := t)) (sam_fm Fs1011 (by decide))
          have aws1011_58 : SAM 58 t s1011 := sam_ts (sam_rf (a := 58) (s := t)) (sam_fm Fs1011 (by decide))
          refine w_lconst X.1 (ax_d X (show cdA 107 94 = some (.lconst 1, 1, 0, 0, 0) from rfl)) (z := (1 : Int64)) (by decide) (z_load X (x := (iC t 1 ((zv + c)).toNat)) rfl (List.Mem.tail _ (List.Mem.head _)) (z_bipush X rfl (z_and63 X rfl (by omega) (z_jshl X rfl (w_lstore X.1 (lv' := [(8, .long (jshl (1 : Int64) ((iC t 1 ((zv + c)).toNat) % 64))), (5, .int (Int32.ofInt e1008)), (7, .int (Int32.ofInt (iC t 1 ((zv + c)).toNat))), (0, .ref (A 68)), (2, .ref (A 4)), (1, .int (Int32.ofInt xv)), (3, .int (Int32.ofInt zv)), (4, .int (Int32.ofInt wv)), (6, .int (Int32.ofInt c))]) (ax_d X (show cdA 107 101 = some (.lstore 8, 2, 0, 0, 0) from rfl)) (by rw [X.2.1.2.2]; decide) (fun _ h => h) (z_aload_n X (x := A 68) rfl (List.Mem.tail _ (List.Mem.tail _ (List.Mem.tail _ (List.Mem.head _)))) (s_getR X 68 rfl (c518_ok rfl) rfl rfl (z_load_n X (x := xv) rfl (List.Mem.tail _ (List.Mem.tail _ (List.Mem.tail _ (List.Mem.tail _ (List.Mem.tail _ (List.Mem.head _)))))) (z_const X rfl (z_mul X rfl (z_load X (x := (iC t 1 ((zv + c)).toNat)) rfl (List.Mem.tail _ (List.Mem.tail _ (List.Mem.head _))) ?_)))))))))))
          refine z_bipush X rfl (z_quot X rfl (by first | exact b1002.1 | omega) (rng_to _) (by decide) (by decide) (z_add X rfl (w_dup2_11 X.1 (ax_d X (show cdA 107 116 = some (.dup2, 1, 0, 0, 0) from rfl)) rfl rfl (z_lalE X 71 rfl (by decide) rfl (by first | exact oq_6e790857 b1002.1 hi.2.1.1 hi.1.1 | omega) (show ((xv * 2) + ((iC t 1 ((zv + c)).toNat) / 64)) < 24 by first | exact oq_9e99edc9 b1002.2 hi.2.1.2 hi.1.1 | omega) (by decide) (w_lload X.1 (ax_d X (show cdA 107 118 = some (.lload 8, 2, 0, 0, 0) from rfl)) (x := (jshl (1 : Int64) ((iC t 1 ((zv + c)).toNat) % 64))) (List.Mem.head _) (w_lor X.1 (ax_d X (show cdA 107 120 = some (.lor, 1, 0, 0, 0) from rfl)) (z_last X 71 rfl (c518_ok rfl) rfl (by first | exact oq_6e790857 b1002.1 hi.2.1.1 hi.1.1 | omega) (show ((xv * 2) + ((iC t 1 ((zv + c)).toNat) / 64)) < 24 by first | exact oq_9e99edc9 b1002.2 hi.2.1.2 hi.1.1 | omega) (cbig_ok rfl) (wd_gen (fun s1013 hs1013 => ?_)))))))))
          have Is1013 : Bd s1013 := eqB hs1013 (bd_D Is1011)
          have Fs1013 : Fm [] [57, 58, 1059, 1060, 1061] s s1013 := by rw [hs1013]; exact fm_D Gs1011 (show 59 + 1000 ∈ _ by decide)
          have aws1013_57 : SAM 57 t s1013 := by rw [hs1013]; exact aws1011_57
          have aws1013_58 : SAM 58 t s1013 := by rw [hs1013]; exact aws1011_58
          refine z_aload_n X (x := A 68) rfl (List.Mem.tail _ (List.Mem.tail _ (List.Mem.tail _ (List.Mem.head _)))) (s_getR X 68 rfl (c518_ok rfl) rfl rfl (z_load_n X (x := xv) rfl (List.Mem.tail _ (List.Mem.tail _ (List.Mem.tail _ (List.Mem.tail _ (List.Mem.tail _ (List.Mem.head _)))))) (z_bipush X rfl (z_mul X rfl (z_load X (x := e1008) rfl (List.Mem.tail _ (List.Mem.head _)) (z_add X rfl (z_const X rfl (z_mul X rfl (z_load X (x := (iC t 1 ((zv + c)).toNat)) rfl (List.Mem.tail _ (List.Mem.tail _ (List.Mem.head _))) (z_bipush X rfl (z_quot X rfl (by first | exact b1002.1 | omega) (rng_to _) (by decide) (by decide) ?_)))))))))))
          refine z_add X rfl (w_dup2_11 X.1 (ax_d X (show cdA 107 141 = some (.dup2, 1, 0, 0, 0) from rfl)) rfl rfl (z_lalE X 72 rfl (by decide) rfl (by first | exact oq_35c8eba5 hps1007.2.1 b1002.1 hi.2.1.1 hi.1.1 | omega) (show ((((xv * 7) + e1008) * 2) + ((iC t 1 ((zv + c)).toNat) / 64)) < 168 by first | exact oq_d9ee5368 hps1007.2.2 b1002.2 hi.2.1.2 hi.1.1 | omega) (by decide) (w_lload X.1 (ax_d X (show cdA 107 143 = some (.lload 8, 2, 0, 0, 0) from rfl)) (x := (jshl (1 : Int64) ((iC t 1 ((zv + c)).toNat) % 64))) (List.Mem.head _) (w_lor X.1 (ax_d X (show cdA 107 145 = some (.lor, 1, 0, 0, 0) from rfl)) (z_last X 72 rfl (c518_ok rfl) rfl (by first | exact oq_35c8eba5 hps1007.2.1 b1002.1 hi.2.1.1 hi.1.1 | omega) (show ((((xv * 7) + e1008) * 2) + ((iC t 1 ((zv + c)).toNat) / 64)) < 168 by first | exact oq_d9ee5368 hps1007.2.2 b1002.2 hi.2.1.2 hi.1.1 | omega) (cbig_ok rfl) (wd_gen (fun s1014 hs1014 => ?_)))))))
          have Is1014 : Bd s1014 := eqB hs1014 (bd_D Is1013)
          have Fs1014 : Fm [] [57, 58, 1059, 1060, 1061] s s1014 := by rw [hs1014]; exact fm_D Fs1013 (show 60 + 1000 ∈ _ by decide)
          have aws1014_57 : SAM 57 t s1014 := by rw [hs1014]; exact aws1013_57
          have aws1014_58 : SAM 58 t s1014 := by rw [hs1014]; exact aws1013_58
          refine z_inc X (x := c) (lv' := [(6, .int (Int32.ofInt (c + 1))), (8, .long (jshl (1 : Int64) ((iC t 1 ((zv + c)).toNat) % 64))), (5, .int (Int32.ofInt e1008)), (7, .int (Int32.ofInt (iC t 1 ((zv + c)).toNat))), (0, .ref (A 68)), (2, .ref (A 4)), (1, .int (Int32.ofInt xv)), (3, .int (Int32.ofInt zv)), (4, .int (Int32.ofInt wv))]) rfl (by decide) (List.Mem.tail _ (List.Mem.tail _ (List.Mem.tail _ (List.Mem.tail _ (List.Mem.tail _ (List.Mem.tail _ (List.Mem.tail _ (List.Mem.tail _ (List.Mem.head _))))))))) (fun _ h => h) (z_goto X (t := 35) rfl rfl (WS_pq [4, 5, 6, 7, 8, 2, 0] (lv' := [(0, .ref (A 68)), (2, .ref (A 4)), (1, .int (Int32.ofInt xv)), (3, .int (Int32.ofInt zv)), (4, .int (Int32.ofInt wv)), (5, .int (Int32.ofInt e1008)), (6, .int (Int32.ofInt (c + 1)))]) rfl ?_))
          exact ih _ xv zv wv e1008 (c + 1) Is1014 Fs1014 ⟨cwg_sam hq.1 aws1014_57 aws1014_58, wrqm_more hq.2.1 hps1011 hs1013 hs1014 hce (by omega) (by omega) (by omega) hgB (by omega) (by omega) (show e1010 = lsK (fun k => iC s 1 ((z : Int).toNat + k)) (c : Int).toNat by unfold lsK; rw [← hce, show (c : Int).toNat + 1 = (c + 1).toNat by omega, ← hne]; omega) (by omega) rfl (kdz_r (by omega) (by omega)) (by omega), Or.inr ⟨by omega, fun _ => by rw [show c + 1 - 1 = c by omega]; exact hgB⟩⟩ (by first | exact ⟨And.intro (hi.1.1) (And.intro (hi.1.2.1) (And.intro (hi.1.2.2.1) (oq_fa1aa5d6 hi.1.2.2.1 g1003))), And.intro (hi.2.1.1) (hi.2.1.2), And.intro (hi.2.2.1.1) (hi.2.2.1.2), And.intro (hi.2.2.2.1.1) (hi.2.2.2.1.2), And.intro (hps1007.2.1) (oq_b982df86 hps1007.2.2), oq_54f49eb5 hi.2.2.2.2.2.1, oq_5c168ac4 g1003 hi.1.2.2.1 hi.2.2.1.2⟩ | omega) (by first | exact qk_me hm (by decide) (oq_9de10623 g1003 hi.1.2.2.1 hi.2.2.1.2) | omega) kx
  refine z_aload_n X (x := A 4) rfl (List.Mem.tail _ (List.Mem.tail _ (List.Mem.head _))) (z_load_n X (x := z) rfl (List.Mem.tail _ (List.Mem.tail _ (List.Mem.tail _ (List.Mem.head _)))) (z_aload_n X (x := A 68) rfl (List.Mem.head _) (s_getR X 68 rfl (c518_ok rfl) rfl rfl (z_load_n X (x := x) rfl (List.Mem.tail _ (List.Mem.head _)) (z_bipush X rfl (z_mul X rfl (z_load X (x := w) rfl (List.Mem.tail _ (List.Mem.tail _ (List.Mem.tail _ (List.Mem.tail _ (List.Mem.head _))))) (z_copyF X I 4 69 (st := []) rfl (by decide) (by decide) rfl rfl (by omega) (by omega) (by omega) (show z + w ≤ ((288 : Nat) : Int) by omega) (show (x * 24) + w ≤ ((288 : Nat) : Int) by omega) (by decide) (by rw [E.2.2.2]; decide) (by rw [E.2.2.2]; exact Nat.le_of_ble_eq_true rfl) (fun s1 Is1 Fs1 cs1 => ?_)))))))))
  have Gs1 := fm_tq F Fs1 rfl rfl
  have aws1_SDMM : SDMM s s1 := sdmm_ts aw0_SDMM (sdmm_fm Fs1 (by decide))
  have aws1_SDGM : SDGM s s1 := sdgm_ts aw0_SDGM (sdgm_fm Fs1 (by decide))
  have aws1_SDPM : SDPM s s1 := sdpm_ts aw0_SDPM (sdpm_fm Fs1 (by decide))
  refine z_aload_n X (x := A 68) rfl (List.Mem.head _) (s_getR X 68 rfl (c518_ok rfl) rfl rfl (z_load_n X (x := x) rfl (List.Mem.tail _ (List.Mem.head _)) (z_load X (x := w) rfl (List.Mem.tail _ (List.Mem.tail _ (List.Mem.tail _ (List.Mem.tail _ (List.Mem.head _))))) (z_ast X 70 rfl (c518_ok rfl) rfl (by first | exact p0.1 | omega) (show x < 12 by first | exact oq_0ddfcfee p0.2 | omega) (cbig_ok rfl) (wd_gen (fun s2 hs2 => ?_))))))
  have Is2 : Bd s2 := eqB hs2 (bd_C Is1 (show (0 : Int) ≤ w ∧ w ≤ 24 by first | exact ⟨p1.1, p1.2⟩ | omega) ⟨by first | exact oq_fa4e5087 p1.1 | omega, by first | exact oq_5bcd337f p1.2 | omega⟩)
  have Fs2 := eqF hs2 (fm_C Gs1 (inl_ok (a := 58) rfl))
  have aws2_SDMM : SDMM s s2 := sdmm_ts aws1_SDMM (sdmm_fm (L := []) (M := [58]) (by rw [hs2]; exact fm_C (fm_rf _ _ _) (List.Mem.head _)) (by decide))
  have aws2_SDGM : SDGM s s2 := sdgm_ts aws1_SDGM (sdgm_fm (L := []) (M := [58]) (by rw [hs2]; exact fm_C (fm_rf _ _ _) (List.Mem.head _)) (by decide))
  have aws2_SDPM : SDPM s s2 := sdpm_ts aws1_SDPM (sdpm_fm (L := []) (M := [58]) (by rw [hs2]; exact fm_C (fm_rf _ _ _) (List.Mem.head _)) (by decide))
  have aws2_57 : SAM 57 s1 s2 := by rw [hs2]; exact sam_C (by decide) (sam_rf (a := 57) (s := s1))
  have aws2_58 : UPD 58 (x) w s1 s2 := by rw [hs2]; exact upd_put (sam_rf (a := 58) (s := s1)) ⟨by first | exact oq_fa4e5087 p1.1 | omega, by first | exact oq_5bcd337f p1.2 | omega⟩
  refine z_aload_n X (x := A 68) rfl (List.Mem.head _) (z_load_n X (x := x) rfl (List.Mem.tail _ (List.Mem.head _)) (zcV_v0 X E 68 (As := [.int (Int32.ofInt x)]) (st := []) rfl rfl rfl rfl (c9_wipe3m G Is2 (by first | exact ⟨p0.1, p0.2⟩ | omega)) rfl (Nat.le_of_ble_eq_true rfl) (fun s3 Is3 Fs3 hps3 => ?_)))
  have Gs3 := fm_tq Fs2 Fs3 rfl rfl
  have aws3_57 : SAM 57 s1 s3 := sam_ts aws2_57 (sam_fm Fs3 (by decide))
  have aws3_58 : UPD 58 (x) w s1 s3 := upd_ts aws2_58 (sam_fm Fs3 (by decide))
  refine z_bipush X rfl (z_store X (lv' := [(5, .int (Int32.ofInt 6)), (0, .ref (A 68)), (1, .int (Int32.ofInt x)), (2, .ref (A 4)), (3, .int (Int32.ofInt z)), (4, .int (Int32.ofInt w))]) rfl (by decide) (fun _ h => h) (z_const X rfl (z_store X (lv' := [(6, .int (Int32.ofInt 0)), (5, .int (Int32.ofInt 6)), (0, .ref (A 68)), (1, .int (Int32.ofInt x)), (2, .ref (A 4)), (3, .int (Int32.ofInt z)), (4, .int (Int32.ofInt w))]) rfl (by decide) (fun _ h => h) (WS_pq [2, 4, 3, 5, 6, 1, 0] (lv' := [(0, .ref (A 68)), (2, .ref (A 4)), (1, .int (Int32.ofInt x)), (3, .int (Int32.ofInt z)), (4, .int (Int32.ofInt w)), (5, .int (Int32.ofInt 6)), (6, .int (Int32.ofInt 0))]) rfl (L35 ((24 - 0 : Int).toNat + 1) s3 x z w 6 0 Is3 Gs3 ⟨cwg_of (u := s1) cs1 aws3_57 (sam_fm Fs1 (by decide)) aws3_58, wrqm_0 hps3 aws2_SDMM aws2_SDGM aws2_SDPM, Or.inl ⟨by omega, by omega⟩⟩ (by first | exact ⟨And.intro (by decide) (And.intro (by decide) (And.intro (by decide) (p1.1))), And.intro (p0.1) (p0.2), And.intro (p1.1) (p1.2), And.intro (p2.1) (p2.2), And.intro (by decide) (by decide), by decide, by decide⟩ | omega) (Nat.lt_succ_self _) ?_)))))
  intro s5 x6 x7 Is5 Fs5 Qs5 hs5
  exact w_vret X.1 q hRt (ax_d X (show cdA 107 153 = some (.return_, 1, 0, 0, 0) from rfl)) (Nat.zero_le _) (Nat.zero_le _) ⟨_, rfl, Is5, Fs5, rfl, Qs5⟩
set_option maxRecDepth 4000 in
theorem c9_setWayMp (G : GX l s0 D tys a0 dT) (I : Bd s) {x z w : Int} (p0 : 0 ≤ x ∧ x ≤ 11) (p1 : 0 ≤ w ∧ w ≤ 24) (p2 : 0 ≤ z ∧ z + w ≤ 24) : CT l s0 D A dT 107 (rmN 107) [.ref (A 68), .int (Int32.ofInt x), .ref (A 92), .int (Int32.ofInt z), .int (Int32.ofInt w)] s (fun o t => Bd t ∧ Fm [] [57, 58, 1059, 1060, 1061] s t ∧ o = .inl none ∧ (CWG (fun k => iC s 79 ((z : Int).toNat + k)) x w s t ∧ WRQM (fun k => iC s 79 ((z : Int).toNat + k)) x w w s t)) := by
  refine ct_ofX G (by decide) (Nat.le_of_ble_eq_true rfl) (fun k X E ET hRt hXt q => ?_)
  show WS k 0 [(0, .ref (A 68)), (1, .int (Int32.ofInt x)), (2, .ref (A 92)), (3, .int (Int32.ofInt z)), (4, .int (Int32.ofInt w))] [] _ 0 0
  have F : Fm [] [57, 58, 1059, 1060, 1061] s s := fm_rf _ _ s
  have aw0_SDMM : SDMM s s := sdmm_rf
  have aw0_SDGM : SDGM s s := sdgm_rf
  have aw0_SDPM : SDPM s s := sdpm_rf
  have L35 : ∀ (n : Nat) (t : PS) (xv zv wv go c : Int), Bd t → Fm [] [57, 58, 1059, 1060, 1061] s t → (CWG (fun k => iC s 79 ((z : Int).toNat + k)) x w s t ∧ WRQM (fun k => iC s 79 ((z : Int).toNat + k)) xv wv c s t ∧ GOQ (fun k => iC s 79 ((z : Int).toNat + k)) wv c go) → ((xv = x ∧ zv = z ∧ wv = w ∧ c ≤ w) ∧ (0 ≤ x ∧ x ≤ 11) ∧ (0 ≤ w ∧ w ≤ 24) ∧ (0 ≤ z ∧ z + w ≤ 24) ∧ (0 ≤ go ∧ go ≤ 6) ∧ 0 ≤ c ∧ c ≤ 24) → (24 - c : Int).toNat < n → (∀ (t' : PS) (go' c' : Int), Bd t' → Fm [] [57, 58, 1059, 1060, 1061] s t' → (CWG (fun k => iC s 79 ((z : Int).toNat + k)) x w s t' ∧ WRQM (fun k => iC s 79 ((z : Int).toNat + k)) x w w s t') → (c' = w) → WS k 153 [(0, .ref (A 68)), (2, .ref (A 92)), (1, .int (Int32.ofInt xv)), (3, .int (Int32.ofInt zv)), (4, .int (Int32.ofInt wv)), (5, .int (Int32.ofInt go')), (6, .int (Int32.ofInt c'))] [] (Wd A dT t') 0 0) → WS k 35 [(0, .ref (A 68)), (2, .ref (A 92)), (1, .int (Int32.ofInt xv)), (3, .int (Int32.ofInt zv)), (4, .int (Int32.ofInt wv)), (5, .int (Int32.ofInt go)), (6, .int (Int32.ofInt c))] [] (Wd A dT t) 0 0 := by
    intro n
    induction n with
    | zero =>
      intro t xv zv wv go c I F hq hi hm kx
      exact absurd hm (Nat.not_lt_zero _)
    | succ n ih =>
      intro t xv zv wv go c I F hq hi hm kx
      refine z_load X (x := c) rfl (List.Mem.tail _ (List.Mem.tail _ (List.Mem.tail _ (List.Mem.tail _ (List.Mem.tail _ (List.Mem.tail _ (List.Mem.head _))))))) (z_load X (x := wv) rfl (List.Mem.tail _ (List.Mem.tail _ (List.Mem.tail _ (List.Mem.tail _ (List.Mem.head _))))) (z_icmp_ge X (t := 153) rfl rfl ⟨by first | exact oq_fa4e5087 hi.2.2.2.2.2.1 | omega, by first | exact oq_5bcd337f hi.2.2.2.2.2.2 | omega⟩ ⟨by first | exact oq_b3df2c6f hi.1.2.2.1 hi.2.2.1.1 | omega, by first | exact oq_f1a90b10 hi.1.2.2.1 hi.2.2.1.2 | omega⟩ (fun g1001 => ?_) (fun g1001 => ?_)))
      ·
        refine WS_pq [0, 1, 2, 3, 4, 5, 6] (lv' := [(0, .ref (A 68)), (2, .ref (A 92)), (1, .int (Int32.ofInt xv)), (3, .int (Int32.ofInt zv)), (4, .int (Int32.ofInt wv)), (5, .int (Int32.ofInt go)), (6, .int (Int32.ofInt c))]) rfl ?_
        exact kx _ go c I F ⟨hq.1, by have h := hq.2.1; rw [show c = w by omega, show xv = x by omega, show wv = w by omega] at h; exact h⟩ (by first | exact oq_537ca82a hi.1.2.2.2 g1001 hi.1.2.2.1 | omega)
      ·
        refine z_aload_n X (x := A 92) rfl (List.Mem.tail _ (List.Mem.head _)) (z_load_n X (x := zv) rfl (List.Mem.tail _ (List.Mem.tail _ (List.Mem.tail _ (List.Mem.head _)))) (z_load X (x := c) rfl (List.Mem.tail _ (List.Mem.tail _ (List.Mem.tail _ (List.Mem.tail _ (List.Mem.tail _ (List.Mem.tail _ (List.Mem.head _))))))) (z_add X rfl (z_ald X 92 rfl (c518_ok rfl) rfl (by first | exact oq_eb560c61 hi.1.2.1 hi.2.2.2.2.2.1 hi.2.2.2.1.1 | omega) (show (zv + c) < 24 by first | exact oq_78c956af hi.1.2.1 g1001 hi.1.2.2.1 hi.2.2.2.1.2 | omega) (cbig_ok rfl) ?_))))
        have b1002 := bc_79 I (show ((zv + c)).toNat < 24 by first | exact oq_a1e4607c hi.1.2.1 g1001 hi.1.2.2.1 hi.2.2.2.1.2 | omega)
        have hce : (iC t 79 ((zv + c)).toNat) = (fun k => iC s 79 ((z : Int).toNat + k)) ((c : Int)).toNat := by show (iC t 79 ((zv + c)).toNat) = iC s 79 ((z : Int).toNat + ((c : Int)).toNat); rw [show (z : Int).toNat + ((c : Int)).toNat = ((zv + c)).toNat by omega]; exact (sam_fm F (by decide) : SAM 79 s t) _
        refine z_store X (lv' := [(7, .int (Int32.ofInt (iC t 79 ((zv + c)).toNat))), (0, .ref (A 68)), (2, .ref (A 92)), (1, .int (Int32.ofInt xv)), (3, .int (Int32.ofInt zv)), (4, .int (Int32.ofInt wv)), (5, .int (Int32.ofInt go)), (6, .int (Int32.ofInt c))]) rfl (by decide) (fun _ h => h) (z_load X (x := c) rfl (List.Mem.tail _ (List.Mem.tail _ (List.Mem.tail _ (List.Mem.tail _ (List.Mem.tail _ (List.Mem.tail _ (List.Mem.tail _ (List.Mem.head _)))))))) (z_const X rfl (z_add X rfl (z_load X (x := wv) rfl (List.Mem.tail _ (List.Mem.tail _ (List.Mem.tail _ (List.Mem.tail _ (List.Mem.tail _ (List.Mem.head _)))))) (z_icmp_ge X (t := 94) rfl rfl ⟨by first | exact oq_74de1e16 hi.2.2.2.2.2.1 | omega, by first | exact oq_3a454424 hi.2.2.2.2.2.2 | omega⟩ ⟨by first | exact oq_9d8ce83d g1001 hi.2.2.2.2.2.1 | omega, by first | exact oq_f1a90b10 hi.1.2.2.1 hi.2.2.1.2 | omega⟩ (fun g1003 => ?_) (fun g1003 => ?_))))))
        ·
          refine w_lconst X.1 (ax_d X (show cdA 107 94 = some (.lconst 1, 1, 0, 0, 0) from rfl)) (z := (1 : Int64)) (by decide) (z_load X (x := (iC t 79 ((zv + c)).toNat)) rfl (List.Mem.head _) (z_bipush X rfl (z_and63 X rfl (by omega) (z_jshl X rfl (w_lstore X.1 (lv' := [(8, .long (jshl (1 : Int64) ((iC t 79 ((zv + c)).toNat) % 64))), (7, .int (Int32.ofInt (iC t 79 ((zv + c)).toNat))), (0, .ref (A 68)), (2, .ref (A 92)), (1, .int (Int32.ofInt xv)), (3, .int (Int32.ofInt zv)), (4, .int (Int32.ofInt wv)), (5, .int (Int32.ofInt go)), (6, .int (Int32.ofInt c))]) (ax_d X (show cdA 107 101 = some (.lstore 8, 2, 0, 0, 0) from rfl)) (by rw [X.2.1.2.2]; decide) (fun _ h => h) (z_aload_n X (x := A 68) rfl (List.Mem.tail _ (List.Mem.tail _ (List.Mem.head _))) (s_getR X 68 rfl (c518_ok rfl) rfl rfl (z_load_n X (x := xv) rfl (List.Mem.tail _ (List.Mem.tail _ (List.Mem.tail _ (List.Mem.tail _ (List.Mem.head _))))) (z_const X rfl (z_mul X rfl (z_load X (x := (iC t 79 ((zv + c)).toNat)) rfl (List.Mem.tail _ (List.Mem.head _)) ?_)))))))))))
          refine z_bipush X rfl (z_quot X rfl (by first | exact b1002.1 | omega) (rng_to _) (by decide) (by decide) (z_add X rfl (w_dup2_11 X.1 (ax_d X (show cdA 107 116 = some (.dup2, 1, 0, 0, 0) from rfl)) rfl rfl (z_lalE X 71 rfl (by decide) rfl (by first | exact oq_6e790857 b1002.1 hi.2.1.1 hi.1.1 | omega) (show ((xv * 2) + ((iC t 79 ((zv + c)).toNat) / 64)) < 24 by first | exact oq_9e99edc9 b1002.2 hi.2.1.2 hi.1.1 | omega) (by decide) (w_lload X.1 (ax_d X (show cdA 107 118 = some (.lload 8, 2, 0, 0, 0) from rfl)) (x := (jshl (1 : Int64) ((iC t 79 ((zv + c)).toNat) % 64))) (List.Mem.head _) (w_lor X.1 (ax_d X (show cdA 107 120 = some (.lor, 1, 0, 0, 0) from rfl)) (z_last X 71 rfl (c518_ok rfl) rfl (by first | exact oq_6e790857 b1002.1 hi.2.1.1 hi.1.1 | omega) (show ((xv * 2) + ((iC t 79 ((zv + c)).toNat) / 64)) < 24 by first | exact oq_9e99edc9 b1002.2 hi.2.1.2 hi.1.1 | omega) (cbig_ok rfl) (wd_gen (fun s1004 hs1004 => ?_)))))))))
          have Is1004 : Bd s1004 := eqB hs1004 (bd_D I)
          have Fs1004 : Fm [] [57, 58, 1059, 1060, 1061] s s1004 := by rw [hs1004]; exact fm_D F (show 59 + 1000 ∈ _ by decide)
          have aws1004_57 : SAM 57 t s1004 := by rw [hs1004]; exact (sam_rf (a := 57) (s := t))
          have aws1004_58 : SAM 58 t s1004 := by rw [hs1004]; exact (sam_rf (a := 58) (s := t))
          refine z_aload_n X (x := A 68) rfl (List.Mem.tail _ (List.Mem.tail _ (List.Mem.head _))) (s_getR X 68 rfl (c518_ok rfl) rfl rfl (z_load_n X (x := xv) rfl (List.Mem.tail _ (List.Mem.tail _ (List.Mem.tail _ (List.Mem.tail _ (List.Mem.head _))))) (z_bipush X rfl (z_mul X rfl (z_load X (x := go) rfl (List.Mem.tail _ (List.Mem.tail _ (List.Mem.tail _ (List.Mem.tail _ (List.Mem.tail _ (List.Mem.tail _ (List.Mem.tail _ (List.Mem.head _)))))))) (z_add X rfl (z_const X rfl (z_mul X rfl (z_load X (x := (iC t 79 ((zv + c)).toNat)) rfl (List.Mem.tail _ (List.Mem.head _)) (z_bipush X rfl (z_quot X rfl (by first | exact b1002.1 | omega) (rng_to _) (by decide) (by decide) ?_)))))))))))
          refine z_add X rfl (w_dup2_11 X.1 (ax_d X (show cdA 107 141 = some (.dup2, 1, 0, 0, 0) from rfl)) rfl rfl (z_lalE X 72 rfl (by decide) rfl (by first | exact oq_d161f920 b1002.1 hi.2.2.2.2.1.1 hi.2.1.1 hi.1.1 | omega) (show ((((xv * 7) + go) * 2) + ((iC t 79 ((zv + c)).toNat) / 64)) < 168 by first | exact oq_5e800b0f b1002.2 hi.2.2.2.2.1.2 hi.2.1.2 hi.1.1 | omega) (by decide) (w_lload X.1 (ax_d X (show cdA 107 143 = some (.lload 8, 2, 0, 0, 0) from rfl)) (x := (jshl (1 : Int64) ((iC t 79 ((zv + c)).toNat) % 64))) (List.Mem.head _) (w_lor X.1 (ax_d X (show cdA 107 145 = some (.lor, 1, 0, 0, 0) from rfl)) (z_last X 72 rfl (c518_ok rfl) rfl (by first | exact oq_d161f920 b1002.1 hi.2.2.2.2.1.1 hi.2.1.1 hi.1.1 | omega) (show ((((xv * 7) + go) * 2) + ((iC t 79 ((zv + c)).toNat) / 64)) < 168 by first | exact oq_5e800b0f b1002.2 hi.2.2.2.2.1.2 hi.2.1.2 hi.1.1 | omega) (cbig_ok rfl) (wd_gen (fun s1005 hs1005 => ?_)))))))
          have Is1005 : Bd s1005 := eqB hs1005 (bd_D Is1004)
          have Fs1005 : Fm [] [57, 58, 1059, 1060, 1061] s s1005 := by rw [hs1005]; exact fm_D Fs1004 (show 60 + 1000 ∈ _ by decide)
          have aws1005_57 : SAM 57 t s1005 := by rw [hs1005]; exact aws1004_57
          have aws1005_58 : SAM 58 t s1005 := by rw [hs1005]; exact aws1004_58
          refine z_inc X (x := c) (lv' := [(6, .int (Int32.ofInt (c + 1))), (8, .long (jshl (1 : Int64) ((iC t 79 ((zv + c)).toNat) % 64))), (7, .int (Int32.ofInt (iC t 79 ((zv + c)).toNat))), (0, .ref (A 68)), (2, .ref (A 92)), (1, .int (Int32.ofInt xv)), (3, .int (Int32.ofInt zv)), (4, .int (Int32.ofInt wv)), (5, .int (Int32.ofInt go))]) rfl (by decide) (List.Mem.tail _ (List.Mem.tail _ (List.Mem.tail _ (List.Mem.tail _ (List.Mem.tail _ (List.Mem.tail _ (List.Mem.tail _ (List.Mem.tail _ (List.Mem.head _))))))))) (fun _ h => h) (z_goto X (t := 35) rfl rfl (WS_pq [3, 4, 5, 6, 7, 8, 0] (lv' := [(0, .ref (A 68)), (2, .ref (A 92)), (1, .int (Int32.ofInt xv)), (3, .int (Int32.ofInt zv)), (4, .int (Int32.ofInt wv)), (5, .int (Int32.ofInt go)), (6, .int (Int32.ofInt (c + 1)))]) rfl ?_))
          exact ih _ xv zv wv go (c + 1) Is1005 Fs1005 ⟨cwg_sam hq.1 aws1005_57 aws1005_58, wrqm_last hq.2.1 hs1004 hs1005 hce (by omega) (by omega) (by omega) (goq_k hq.2.2 (by omega) (by omega) (by omega)) (by omega) (by omega) (by omega) (by omega), Or.inr ⟨by omega, fun h => absurd h (by omega)⟩⟩ (by first | exact ⟨And.intro (hi.1.1) (And.intro (hi.1.2.1) (And.intro (hi.1.2.2.1) (oq_8a89b3ae g1001 hi.1.2.2.1))), And.intro (hi.2.1.1) (hi.2.1.2), And.intro (hi.2.2.1.1) (hi.2.2.1.2), And.intro (hi.2.2.2.1.1) (hi.2.2.2.1.2), And.intro (hi.2.2.2.2.1.1) (hi.2.2.2.2.1.2), oq_54f49eb5 hi.2.2.2.2.2.1, oq_2c5393a1 g1001 hi.1.2.2.1 hi.2.2.1.2⟩ | omega) (by first | exact qk_me hm (by decide) (oq_e6203394 g1001 hi.1.2.2.1 hi.2.2.1.2) | omega) kx
        ·
          refine z_load X (x := (iC t 79 ((zv + c)).toNat)) rfl (List.Mem.head _) (z_aload_n X (x := A 92) rfl (List.Mem.tail _ (List.Mem.tail _ (List.Mem.head _))) (z_load_n X (x := zv) rfl (List.Mem.tail _ (List.Mem.tail _ (List.Mem.tail _ (List.Mem.tail _ (List.Mem.head _))))) (z_load X (x := c) rfl (List.Mem.tail _ (List.Mem.tail _ (List.Mem.tail _ (List.Mem.tail _ (List.Mem.tail _ (List.Mem.tail _ (List.Mem.tail _ (List.Mem.head _)))))))) (z_add X rfl (z_const X rfl (z_add X rfl (z_ald X 92 rfl (c518_ok rfl) rfl (by first | exact oq_f2d6cc15 hi.1.2.1 hi.2.2.2.2.2.1 hi.2.2.2.1.1 | omega) (show ((zv + c) + 1) < 24 by first | exact oq_c04285d6 hi.1.2.1 hi.2.2.2.1.2 g1003 hi.1.2.2.1 | omega) (cbig_ok rfl) ?_)))))))
          have b1006 := bc_79 I (show (((zv + c) + 1)).toNat < 24 by first | exact oq_96891ef5 hi.1.2.1 hi.2.2.2.1.2 g1003 hi.1.2.2.1 | omega)
          have hne : (iC t 79 (((zv + c) + 1)).toNat) = (fun k => iC s 79 ((z : Int).toNat + k)) ((c + 1)).toNat := by show (iC t 79 (((zv + c) + 1)).toNat) = iC s 79 ((z : Int).toNat + ((c + 1)).toNat); rw [show (z : Int).toNat + ((c + 1)).toNat = (((zv + c) + 1)).toNat by omega]; exact (sam_fm F (by decide) : SAM 79 s t) _
          refine z_callS X (rm := rmN 102) (As := [.int (Int32.ofInt (iC t 79 ((zv + c)).toNat)), .int (Int32.ofInt (iC t 79 (((zv + c) + 1)).toNat))]) (st := []) rfl rfl (by rw [E.1, E.2.1, E.2.2.1]; exact c9_goBetween3 G I (by first | exact ⟨b1002.1, b1002.2⟩ | omega) (by first | exact ⟨b1006.1, b1006.2⟩ | omega)) ⟨by rw [E.2.2.2]; exact (show (rmN 102).frames + 1 ≤ (rmN 107).frames by decide), by rw [E.2.2.2]; exact (show 8 + (mNL (miB 102) + 11) + (rmN 102).locals ≤ (rmN 107).locals by decide), by rw [E.2.2.2]; exact (show 0 + (rmN 102).cells ≤ (rmN 107).cells by decide), by rw [E.2.2.2]; exact (show 0 + (rmN 102).slots ≤ (rmN 107).slots by decide)⟩ (Nat.le_of_ble_eq_true rfl) (fun vv s1007 hq => ?_) (fun ee s1007 hq => ?_)
          rotate_left
          · obtain ⟨rfl, e1008, hv, hrs1007, hps1007⟩ := hq; cases hv
          obtain ⟨rfl, e1008, hv, hrs1007, hps1007⟩ := hq
          cases hv
          show WS k 72 [(7, .int (Int32.ofInt (iC t 79 ((zv + c)).toNat))), (0, .ref (A 68)), (2, .ref (A 92)), (1, .int (Int32.ofInt xv)), (3, .int (Int32.ofInt zv)), (4, .int (Int32.ofInt wv)), (5, .int (Int32.ofInt go)), (6, .int (Int32.ofInt c))] [.int (Int32.ofInt e1008)] (Wd A dT t) 0 0
          have hgB : e1008 = goB ((fun k => iC s 79 ((z : Int).toNat + k)) (c : Int).toNat) ((fun k => iC s 79 ((z : Int).toNat + k)) (c + 1).toNat) := by rw [← hce, ← hne]; exact hps1007.1
          refine z_store X (lv' := [(5, .int (Int32.ofInt e1008)), (7, .int (Int32.ofInt (iC t 79 ((zv + c)).toNat))), (0, .ref (A 68)), (2, .ref (A 92)), (1, .int (Int32.ofInt xv)), (3, .int (Int32.ofInt zv)), (4, .int (Int32.ofInt wv)), (6, .int (Int32.ofInt c))]) rfl (by decide) (fun _ h => h) (z_aload_n X (x := A 68) rfl (List.Mem.tail _ (List.Mem.tail _ (List.Mem.head _))) (z_load_n X (x := xv) rfl (List.Mem.tail _ (List.Mem.tail _ (List.Mem.tail _ (List.Mem.tail _ (List.Mem.head _))))) (z_load X (x := (iC t 79 ((zv + c)).toNat)) rfl (List.Mem.tail _ (List.Mem.head _)) (z_aload_n X (x := A 92) rfl (List.Mem.tail _ (List.Mem.tail _ (List.Mem.tail _ (List.Mem.head _)))) (z_load_n X (x := zv) rfl (List.Mem.tail _ (List.Mem.tail _ (List.Mem.tail _ (List.Mem.tail _ (List.Mem.tail _ (List.Mem.head _)))))) (z_load X (x := c) rfl (List.Mem.tail _ (List.Mem.tail _ (List.Mem.tail _ (List.Mem.tail _ (List.Mem.tail _ (List.Mem.tail _ (List.Mem.tail _ (List.Mem.head _)))))))) (z_add X rfl (z_const X rfl (z_add X rfl (z_ald X 92 rfl (c518_ok rfl) rfl (by first | exact oq_f2d6cc15 hi.1.2.1 hi.2.2.2.2.2.1 hi.2.2.2.1.1 | omega) (show ((zv + c) + 1) < 24 by first | exact oq_c04285d6 hi.1.2.1 hi.2.2.2.1.2 g1003 hi.1.2.2.1 | omega) (cbig_ok rfl) ?_))))))))))
          have b1009 := bc_79 I (show (((zv + c) + 1)).toNat < 24 by first | exact oq_96891ef5 hi.1.2.1 hi.2.2.2.1.2 g1003 hi.1.2.2.1 | omega)
          refine z_min X rfl (rng_to _) (rng_to _) (by rw [E.2.2.2]; decide) (by rw [E.2.2.2]; exact Nat.le_of_ble_eq_true rfl) (Nat.zero_le _) (Nat.zero_le _) (fun e1010 he1010 => ?_)
          refine z_load X (x := e1008) rfl (List.Mem.head _) (zcV_v0 X E 68 (As := [.int (Int32.ofInt xv), .int (Int32.ofInt e1010), .int (Int32.ofInt e1008)]) (st := []) rfl rfl rfl rfl (c9_setStep3m G I (by first | exact ⟨oq_e4757433 hi.1.1 hi.2.1.1, oq_38e17b37 hi.1.1 hi.2.1.2⟩ | omega) (by first | exact ⟨oq_03ccc143 he1010 b1009.1 b1002.1, oq_9c77db17 he1010 b1002.2⟩ | omega) (by first | exact ⟨hps1007.2.1, hps1007.2.2⟩ | omega)) rfl (Nat.le_of_ble_eq_true rfl) (fun s1011 Is1011 Fs1011 hps1011 => ?_))
          have Gs1011 := fm_tq F Fs1011 rfl rfl
          have aws1011_57 : SAM 57 t s1011 := sam_ts (sam_rf (a := 57) (s := t)) (sam_fm Fs1011 (by decide))
          have aws1011_58 : SAM 58 t s1011 := sam_ts (sam_rf (a := 58) (s := t)) (sam_fm Fs1011 (by decide))
          refine w_lconst X.1 (ax_d X (show cdA 107 94 = some (.lconst 1, 1, 0, 0, 0) from rfl)) (z := (1 : Int64)) (by decide) (z_load X (x := (iC t 79 ((zv + c)).toNat)) rfl (List.Mem.tail _ (List.Mem.head _)) (z_bipush X rfl (z_and63 X rfl (by omega) (z_jshl X rfl (w_lstore X.1 (lv' := [(8, .long (jshl (1 : Int64) ((iC t 79 ((zv + c)).toNat) % 64))), (5, .int (Int32.ofInt e1008)), (7, .int (Int32.ofInt (iC t 79 ((zv + c)).toNat))), (0, .ref (A 68)), (2, .ref (A 92)), (1, .int (Int32.ofInt xv)), (3, .int (Int32.ofInt zv)), (4, .int (Int32.ofInt wv)), (6, .int (Int32.ofInt c))]) (ax_d X (show cdA 107 101 = some (.lstore 8, 2, 0, 0, 0) from rfl)) (by rw [X.2.1.2.2]; decide) (fun _ h => h) (z_aload_n X (x := A 68) rfl (List.Mem.tail _ (List.Mem.tail _ (List.Mem.tail _ (List.Mem.head _)))) (s_getR X 68 rfl (c518_ok rfl) rfl rfl (z_load_n X (x := xv) rfl (List.Mem.tail _ (List.Mem.tail _ (List.Mem.tail _ (List.Mem.tail _ (List.Mem.tail _ (List.Mem.head _)))))) (z_const X rfl (z_mul X rfl (z_load X (x := (iC t 79 ((zv + c)).toNat)) rfl (List.Mem.tail _ (List.Mem.tail _ (List.Mem.head _))) ?_)))))))))))
          refine z_bipush X rfl (z_quot X rfl (by first | exact b1002.1 | omega) (rng_to _) (by decide) (by decide) (z_add X rfl (w_dup2_11 X.1 (ax_d X (show cdA 107 116 = some (.dup2, 1, 0, 0, 0) from rfl)) rfl rfl (z_lalE X 71 rfl (by decide) rfl (by first | exact oq_6e790857 b1002.1 hi.2.1.1 hi.1.1 | omega) (show ((xv * 2) + ((iC t 79 ((zv + c)).toNat) / 64)) < 24 by first | exact oq_9e99edc9 b1002.2 hi.2.1.2 hi.1.1 | omega) (by decide) (w_lload X.1 (ax_d X (show cdA 107 118 = some (.lload 8, 2, 0, 0, 0) from rfl)) (x := (jshl (1 : Int64) ((iC t 79 ((zv + c)).toNat) % 64))) (List.Mem.head _) (w_lor X.1 (ax_d X (show cdA 107 120 = some (.lor, 1, 0, 0, 0) from rfl)) (z_last X 71 rfl (c518_ok rfl) rfl (by first | exact oq_6e790857 b1002.1 hi.2.1.1 hi.1.1 | omega) (show ((xv * 2) + ((iC t 79 ((zv + c)).toNat) / 64)) < 24 by first | exact oq_9e99edc9 b1002.2 hi.2.1.2 hi.1.1 | omega) (cbig_ok rfl) (wd_gen (fun s1013 hs1013 => ?_)))))))))
          have Is1013 : Bd s1013 := eqB hs1013 (bd_D Is1011)
          have Fs1013 : Fm [] [57, 58, 1059, 1060, 1061] s s1013 := by rw [hs1013]; exact fm_D Gs1011 (show 59 + 1000 ∈ _ by decide)
          have aws1013_57 : SAM 57 t s1013 := by rw [hs1013]; exact aws1011_57
          have aws1013_58 : SAM 58 t s1013 := by rw [hs1013]; exact aws1011_58
          refine z_aload_n X (x := A 68) rfl (List.Mem.tail _ (List.Mem.tail _ (List.Mem.tail _ (List.Mem.head _)))) (s_getR X 68 rfl (c518_ok rfl) rfl rfl (z_load_n X (x := xv) rfl (List.Mem.tail _ (List.Mem.tail _ (List.Mem.tail _ (List.Mem.tail _ (List.Mem.tail _ (List.Mem.head _)))))) (z_bipush X rfl (z_mul X rfl (z_load X (x := e1008) rfl (List.Mem.tail _ (List.Mem.head _)) (z_add X rfl (z_const X rfl (z_mul X rfl (z_load X (x := (iC t 79 ((zv + c)).toNat)) rfl (List.Mem.tail _ (List.Mem.tail _ (List.Mem.head _))) (z_bipush X rfl (z_quot X rfl (by first | exact b1002.1 | omega) (rng_to _) (by decide) (by decide) ?_)))))))))))
          refine z_add X rfl (w_dup2_11 X.1 (ax_d X (show cdA 107 141 = some (.dup2, 1, 0, 0, 0) from rfl)) rfl rfl (z_lalE X 72 rfl (by decide) rfl (by first | exact oq_35c8eba5 hps1007.2.1 b1002.1 hi.2.1.1 hi.1.1 | omega) (show ((((xv * 7) + e1008) * 2) + ((iC t 79 ((zv + c)).toNat) / 64)) < 168 by first | exact oq_d9ee5368 hps1007.2.2 b1002.2 hi.2.1.2 hi.1.1 | omega) (by decide) (w_lload X.1 (ax_d X (show cdA 107 143 = some (.lload 8, 2, 0, 0, 0) from rfl)) (x := (jshl (1 : Int64) ((iC t 79 ((zv + c)).toNat) % 64))) (List.Mem.head _) (w_lor X.1 (ax_d X (show cdA 107 145 = some (.lor, 1, 0, 0, 0) from rfl)) (z_last X 72 rfl (c518_ok rfl) rfl (by first | exact oq_35c8eba5 hps1007.2.1 b1002.1 hi.2.1.1 hi.1.1 | omega) (show ((((xv * 7) + e1008) * 2) + ((iC t 79 ((zv + c)).toNat) / 64)) < 168 by first | exact oq_d9ee5368 hps1007.2.2 b1002.2 hi.2.1.2 hi.1.1 | omega) (cbig_ok rfl) (wd_gen (fun s1014 hs1014 => ?_)))))))
          have Is1014 : Bd s1014 := eqB hs1014 (bd_D Is1013)
          have Fs1014 : Fm [] [57, 58, 1059, 1060, 1061] s s1014 := by rw [hs1014]; exact fm_D Fs1013 (show 60 + 1000 ∈ _ by decide)
          have aws1014_57 : SAM 57 t s1014 := by rw [hs1014]; exact aws1013_57
          have aws1014_58 : SAM 58 t s1014 := by rw [hs1014]; exact aws1013_58
          refine z_inc X (x := c) (lv' := [(6, .int (Int32.ofInt (c + 1))), (8, .long (jshl (1 : Int64) ((iC t 79 ((zv + c)).toNat) % 64))), (5, .int (Int32.ofInt e1008)), (7, .int (Int32.ofInt (iC t 79 ((zv + c)).toNat))), (0, .ref (A 68)), (2, .ref (A 92)), (1, .int (Int32.ofInt xv)), (3, .int (Int32.ofInt zv)), (4, .int (Int32.ofInt wv))]) rfl (by decide) (List.Mem.tail _ (List.Mem.tail _ (List.Mem.tail _ (List.Mem.tail _ (List.Mem.tail _ (List.Mem.tail _ (List.Mem.tail _ (List.Mem.tail _ (List.Mem.head _))))))))) (fun _ h => h) (z_goto X (t := 35) rfl rfl (WS_pq [4, 5, 6, 7, 8, 2, 0] (lv' := [(0, .ref (A 68)), (2, .ref (A 92)), (1, .int (Int32.ofInt xv)), (3, .int (Int32.ofInt zv)), (4, .int (Int32.ofInt wv)), (5, .int (Int32.ofInt e1008)), (6, .int (Int32.ofInt (c + 1)))]) rfl ?_))
          exact ih _ xv zv wv e1008 (c + 1) Is1014 Fs1014 ⟨cwg_sam hq.1 aws1014_57 aws1014_58, wrqm_more hq.2.1 hps1011 hs1013 hs1014 hce (by omega) (by omega) (by omega) hgB (by omega) (by omega) (show e1010 = lsK (fun k => iC s 79 ((z : Int).toNat + k)) (c : Int).toNat by unfold lsK; rw [← hce, show (c : Int).toNat + 1 = (c + 1).toNat by omega, ← hne]; omega) (by omega) rfl (kdz_r (by omega) (by omega)) (by omega), Or.inr ⟨by omega, fun _ => by rw [show c + 1 - 1 = c by omega]; exact hgB⟩⟩ (by first | exact ⟨And.intro (hi.1.1) (And.intro (hi.1.2.1) (And.intro (hi.1.2.2.1) (oq_fa1aa5d6 hi.1.2.2.1 g1003))), And.intro (hi.2.1.1) (hi.2.1.2), And.intro (hi.2.2.1.1) (hi.2.2.1.2), And.intro (hi.2.2.2.1.1) (hi.2.2.2.1.2), And.intro (hps1007.2.1) (oq_b982df86 hps1007.2.2), oq_54f49eb5 hi.2.2.2.2.2.1, oq_5c168ac4 g1003 hi.1.2.2.1 hi.2.2.1.2⟩ | omega) (by first | exact qk_me hm (by decide) (oq_9de10623 g1003 hi.1.2.2.1 hi.2.2.1.2) | omega) kx
  refine z_aload_n X (x := A 92) rfl (List.Mem.tail _ (List.Mem.tail _ (List.Mem.head _))) (z_load_n X (x := z) rfl (List.Mem.tail _ (List.Mem.tail _ (List.Mem.tail _ (List.Mem.head _)))) (z_aload_n X (x := A 68) rfl (List.Mem.head _) (s_getR X 68 rfl (c518_ok rfl) rfl rfl (z_load_n X (x := x) rfl (List.Mem.tail _ (List.Mem.head _)) (z_bipush X rfl (z_mul X rfl (z_load X (x := w) rfl (List.Mem.tail _ (List.Mem.tail _ (List.Mem.tail _ (List.Mem.tail _ (List.Mem.head _))))) (z_copyF X I 92 69 (st := []) rfl (by decide) (by decide) rfl rfl (by omega) (by omega) (by omega) (show z + w ≤ ((24 : Nat) : Int) by omega) (show (x * 24) + w ≤ ((288 : Nat) : Int) by omega) (by decide) (by rw [E.2.2.2]; decide) (by rw [E.2.2.2]; exact Nat.le_of_ble_eq_true rfl) (fun s1 Is1 Fs1 cs1 => ?_)))))))))
  have Gs1 := fm_tq F Fs1 rfl rfl
  have aws1_SDMM : SDMM s s1 := sdmm_ts aw0_SDMM (sdmm_fm Fs1 (by decide))
  have aws1_SDGM : SDGM s s1 := sdgm_ts aw0_SDGM (sdgm_fm Fs1 (by decide))
  have aws1_SDPM : SDPM s s1 := sdpm_ts aw0_SDPM (sdpm_fm Fs1 (by decide))
  refine z_aload_n X (x := A 68) rfl (List.Mem.head _) (s_getR X 68 rfl (c518_ok rfl) rfl rfl (z_load_n X (x := x) rfl (List.Mem.tail _ (List.Mem.head _)) (z_load X (x := w) rfl (List.Mem.tail _ (List.Mem.tail _ (List.Mem.tail _ (List.Mem.tail _ (List.Mem.head _))))) (z_ast X 70 rfl (c518_ok rfl) rfl (by first | exact p0.1 | omega) (show x < 12 by first | exact oq_0ddfcfee p0.2 | omega) (cbig_ok rfl) (wd_gen (fun s2 hs2 => ?_))))))
  have Is2 : Bd s2 := eqB hs2 (bd_C Is1 (show (0 : Int) ≤ w ∧ w ≤ 24 by first | exact ⟨p1.1, p1.2⟩ | omega) ⟨by first | exact oq_fa4e5087 p1.1 | omega, by first | exact oq_5bcd337f p1.2 | omega⟩)
  have Fs2 := eqF hs2 (fm_C Gs1 (inl_ok (a := 58) rfl))
  have aws2_SDMM : SDMM s s2 := sdmm_ts aws1_SDMM (sdmm_fm (L := []) (M := [58]) (by rw [hs2]; exact fm_C (fm_rf _ _ _) (List.Mem.head _)) (by decide))
  have aws2_SDGM : SDGM s s2 := sdgm_ts aws1_SDGM (sdgm_fm (L := []) (M := [58]) (by rw [hs2]; exact fm_C (fm_rf _ _ _) (List.Mem.head _)) (by decide))
  have aws2_SDPM : SDPM s s2 := sdpm_ts aws1_SDPM (sdpm_fm (L := []) (M := [58]) (by rw [hs2]; exact fm_C (fm_rf _ _ _) (List.Mem.head _)) (by decide))
  have aws2_57 : SAM 57 s1 s2 := by rw [hs2]; exact sam_C (by decide) (sam_rf (a := 57) (s := s1))
  have aws2_58 : UPD 58 (x) w s1 s2 := by rw [hs2]; exact upd_put (sam_rf (a := 58) (s := s1)) ⟨by first | exact oq_fa4e5087 p1.1 | omega, by first | exact oq_5bcd337f p1.2 | omega⟩
  refine z_aload_n X (x := A 68) rfl (List.Mem.head _) (z_load_n X (x := x) rfl (List.Mem.tail _ (List.Mem.head _)) (zcV_v0 X E 68 (As := [.int (Int32.ofInt x)]) (st := []) rfl rfl rfl rfl (c9_wipe3m G Is2 (by first | exact ⟨p0.1, p0.2⟩ | omega)) rfl (Nat.le_of_ble_eq_true rfl) (fun s3 Is3 Fs3 hps3 => ?_)))
  have Gs3 := fm_tq Fs2 Fs3 rfl rfl
  have aws3_57 : SAM 57 s1 s3 := sam_ts aws2_57 (sam_fm Fs3 (by decide))
  have aws3_58 : UPD 58 (x) w s1 s3 := upd_ts aws2_58 (sam_fm Fs3 (by decide))
  refine z_bipush X rfl (z_store X (lv' := [(5, .int (Int32.ofInt 6)), (0, .ref (A 68)), (1, .int (Int32.ofInt x)), (2, .ref (A 92)), (3, .int (Int32.ofInt z)), (4, .int (Int32.ofInt w))]) rfl (by decide) (fun _ h => h) (z_const X rfl (z_store X (lv' := [(6, .int (Int32.ofInt 0)), (5, .int (Int32.ofInt 6)), (0, .ref (A 68)), (1, .int (Int32.ofInt x)), (2, .ref (A 92)), (3, .int (Int32.ofInt z)), (4, .int (Int32.ofInt w))]) rfl (by decide) (fun _ h => h) (WS_pq [2, 4, 3, 5, 6, 1, 0] (lv' := [(0, .ref (A 68)), (2, .ref (A 92)), (1, .int (Int32.ofInt x)), (3, .int (Int32.ofInt z)), (4, .int (Int32.ofInt w)), (5, .int (Int32.ofInt 6)), (6, .int (Int32.ofInt 0))]) rfl (L35 ((24 - 0 : Int).toNat + 1) s3 x z w 6 0 Is3 Gs3 ⟨cwg_of (u := s1) cs1 aws3_57 (sam_fm Fs1 (by decide)) aws3_58, wrqm_0 hps3 aws2_SDMM aws2_SDGM aws2_SDPM, Or.inl ⟨by omega, by omega⟩⟩ (by first | exact ⟨And.intro (by decide) (And.intro (by decide) (And.intro (by decide) (p1.1))), And.intro (p0.1) (p0.2), And.intro (p1.1) (p1.2), And.intro (p2.1) (p2.2), And.intro (by decide) (by decide), by decide, by decide⟩ | omega) (Nat.lt_succ_self _) ?_)))))
  intro s5 x6 x7 Is5 Fs5 Qs5 hs5
  exact w_vret X.1 q hRt (ax_d X (show cdA 107 153 = some (.return_, 1, 0, 0, 0) from rfl)) (Nat.zero_le _) (Nat.zero_le _) ⟨_, rfl, Is5, Fs5, rfl, Qs5⟩
set_option maxRecDepth 4000 in
theorem c9_meetsOf3m (G : GX l s0 D tys a0 dT) (I : Bd s) {x y z : Int} (p0 : 0 ≤ x ∧ x ≤ 11) (p1 : 0 ≤ y ∧ y ≤ 11) (p2 : 0 ≤ z ∧ z ≤ 1) : CT l s0 D A dT 111 (rmN 111) [.ref (A 68), .int (Int32.ofInt x), .int (Int32.ofInt y), .int (Int32.ofInt z)] s (fun o t => Bd t ∧ Fm [] [] s t ∧ ∃ e : Int64, o = .inl (some (.long e)) ∧ (e = mtFM s x y z 7)) := by
  refine ct_ofX G (by decide) (Nat.le_of_ble_eq_true rfl) (fun k X E ET hRt hXt q => ?_)
  show WS k 0 [(0, .ref (A 68)), (1, .int (Int32.ofInt x)), (2, .int (Int32.ofInt y)), (3, .int (Int32.ofInt z))] [] _ 0 0
  have F : Fm [] [] s s := fm_rf _ _ s
  have L26 : ∀ (n : Nat) (t : PS) (xv : Int) (yv : Int) (zv : Int) (un : Int64) (g : Int), Bd t → Fm [] [] s t → (un = mtFM s x y z (g).toNat) → ((xv = x ∧ yv = y ∧ zv = z) ∧ (0 ≤ xv ∧ xv ≤ 11) ∧ (0 ≤ yv ∧ yv ≤ 11) ∧ (0 ≤ zv ∧ zv ≤ 1) ∧ 0 ≤ g ∧ g ≤ 7) → (7 - g : Int).toNat < n → (∀ (t' : PS) (un' : Int64) (g' : Int), Bd t' → Fm [] [] s t' → (un' = mtFM s x y z 7) → (0 ≤ g') → WS k 88 [(0, .ref (A 68)), (1, .int (Int32.ofInt xv)), (2, .int (Int32.ofInt yv)), (3, .int (Int32.ofInt zv)), (4, .long un'), (6, .int (Int32.ofInt g'))] [] (Wd A dT t') 0 0) → WS k 26 [(0, .ref (A 68)), (1, .int (Int32.ofInt xv)), (2, .int (Int32.ofInt yv)), (3, .int (Int32.ofInt zv)), (4, .long un), (6, .int (Int32.ofInt g))] [] (Wd A dT t) 0 0 := by
    intro n
    induction n with
    | zero =>
      intro t xv yv zv un g I F hq hi hm kx
      exact absurd hm (Nat.not_lt_zero _)
    | succ n ih =>
      intro t xv yv zv un g I F hq hi hm kx
      refine z_load X (x := g) rfl (List.Mem.tail _ (List.Mem.tail _ (List.Mem.tail _ (List.Mem.tail _ (List.Mem.tail _ (List.Mem.head _)))))) (z_bipush X rfl (z_icmp_ge X (t := 88) rfl rfl ⟨by first | exact oq_fa4e5087 hi.2.2.2.2.1 | omega, by first | exact oq_0e78ca7d hi.2.2.2.2.2 | omega⟩ (by decide) (fun g1001 => ?_) (fun g1001 => ?_)))
      ·
        refine WS_pq [0, 1, 2, 3, 4, 5] (lv' := [(0, .ref (A 68)), (1, .int (Int32.ofInt xv)), (2, .int (Int32.ofInt yv)), (3, .int (Int32.ofInt zv)), (4, .long un), (6, .int (Int32.ofInt g))]) rfl ?_
        exact kx _ un g I F (by rw [hq, show g = 7 by omega]; rfl) (by first | exact hi.2.2.2.2.1 | omega)
      ·
        refine w_lload X.1 (ax_d X (show cdA 111 33 = some (.lload 4, 2, 0, 0, 0) from rfl)) (x := un) (List.Mem.tail _ (List.Mem.tail _ (List.Mem.tail _ (List.Mem.tail _ (List.Mem.head _))))) (w_lconst X.1 (ax_d X (show cdA 111 35 = some (.lconst 0, 1, 0, 0, 0) from rfl)) (z := (0 : Int64)) (by decide) (z_jcmp X rfl (fun z1002 => ?_) (fun z1002 c1003 hc1003 ic1003 => ?_)))
        ·
          refine z_if_eq X (t := 88) rfl rfl (by decide) (fun g1004 => ?_) (fun g1004 => ?_)
          ·
            refine WS_pq [0, 1, 2, 3, 4, 5] (lv' := [(0, .ref (A 68)), (1, .int (Int32.ofInt xv)), (2, .int (Int32.ofInt yv)), (3, .int (Int32.ofInt zv)), (4, .long un), (6, .int (Int32.ofInt g))]) rfl ?_
            exact kx _ un g I F (mtm_out hq z1002 (by omega) (by omega)) (by first | exact hi.2.2.2.2.1 | omega)
          ·
            exfalso
            omega
        ·
          refine z_if_eq X (t := 88) rfl rfl ⟨by omega, by omega⟩ (fun g1005 => ?_) (fun g1005 => ?_)
          ·
            refine WS_pq [0, 1, 2, 3, 4, 5] (lv' := [(0, .ref (A 68)), (1, .int (Int32.ofInt xv)), (2, .int (Int32.ofInt yv)), (3, .int (Int32.ofInt zv)), (4, .long un), (6, .int (Int32.ofInt g))]) rfl ?_
            exact kx _ un g I F (by rw [hq, show g = 7 by omega]; rfl) (by first | exact hi.2.2.2.2.1 | omega)
          ·
            refine w_lload X.1 (ax_d X (show cdA 111 40 = some (.lload 4, 2, 0, 0, 0) from rfl)) (x := un) (List.Mem.tail _ (List.Mem.tail _ (List.Mem.tail _ (List.Mem.tail _ (List.Mem.head _))))) (z_aload_n X (x := A 68) rfl (List.Mem.head _) (s_getR X 68 rfl (c518_ok rfl) rfl rfl (z_load_n X (x := xv) rfl (List.Mem.tail _ (List.Mem.head _)) (z_bipush X rfl (z_mul X rfl (z_load X (x := g) rfl (List.Mem.tail _ (List.Mem.tail _ (List.Mem.tail _ (List.Mem.tail _ (List.Mem.tail _ (List.Mem.head _)))))) (z_add X rfl (z_const X rfl (z_mul X rfl (z_load_n X (x := zv) rfl (List.Mem.tail _ (List.Mem.tail _ (List.Mem.tail _ (List.Mem.head _)))) (z_add X rfl ?_)))))))))))
            refine z_lalE X 72 rfl (by decide) rfl (by first | exact oq_2eda81cf hi.2.2.2.2.1 hi.2.1.1 hi.2.2.2.1.1 | omega) (show ((((xv * 7) + g) * 2) + zv) < 168 by first | exact oq_be9e68b2 hi.2.1.2 g1001 hi.2.2.2.1.2 | omega) (by decide) (z_aload_n X (x := A 68) rfl (List.Mem.head _) (s_getR X 68 rfl (c518_ok rfl) rfl rfl (z_load_n X (x := yv) rfl (List.Mem.tail _ (List.Mem.tail _ (List.Mem.head _))) (z_bipush X rfl (z_mul X rfl (z_load X (x := g) rfl (List.Mem.tail _ (List.Mem.tail _ (List.Mem.tail _ (List.Mem.tail _ (List.Mem.tail _ (List.Mem.head _)))))) (z_add X rfl (z_const X rfl (z_mul X rfl (z_load_n X (x := zv) rfl (List.Mem.tail _ (List.Mem.tail _ (List.Mem.tail _ (List.Mem.head _)))) (z_add X rfl ?_)))))))))))
            refine z_lalE X 72 rfl (by decide) rfl (by first | exact oq_2eda81cf hi.2.2.2.2.1 hi.2.2.1.1 hi.2.2.2.1.1 | omega) (show ((((yv * 7) + g) * 2) + zv) < 168 by first | exact oq_be9e68b2 hi.2.2.1.2 g1001 hi.2.2.2.1.2 | omega) (by decide) (w_land X.1 (ax_d X (show cdA 111 74 = some (.land, 1, 0, 0, 0) from rfl)) (z_ldc2E X rfl (w_lxor X.1 (ax_d X (show cdA 111 78 = some (.lxor, 1, 0, 0, 0) from rfl)) (w_land X.1 (ax_d X (show cdA 111 79 = some (.land, 1, 0, 0, 0) from rfl)) (w_lstore X.1 (lv' := [(4, .long (un &&& (((gD t 60 (((((xv * 7) + g) * 2) + zv)).toNat) &&& (gD t 60 (((((yv * 7) + g) * 2) + zv)).toNat)) ^^^ (lN 18446744073709551615)))), (0, .ref (A 68)), (1, .int (Int32.ofInt xv)), (2, .int (Int32.ofInt yv)), (3, .int (Int32.ofInt zv)), (6, .int (Int32.ofInt g))]) (ax_d X (show cdA 111 80 = some (.lstore 4, 2, 0, 0, 0) from rfl)) (by rw [X.2.1.2.2]; decide) (fun _ h => h) (z_inc X (x := g) (lv' := [(6, .int (Int32.ofInt (g + 1))), (4, .long (un &&& (((gD t 60 (((((xv * 7) + g) * 2) + zv)).toNat) &&& (gD t 60 (((((yv * 7) + g) * 2) + zv)).toNat)) ^^^ (lN 18446744073709551615)))), (0, .ref (A 68)), (1, .int (Int32.ofInt xv)), (2, .int (Int32.ofInt yv)), (3, .int (Int32.ofInt zv))]) rfl (by decide) (List.Mem.tail _ (List.Mem.tail _ (List.Mem.tail _ (List.Mem.tail _ (List.Mem.tail _ (List.Mem.head _)))))) (fun _ h => h) (z_goto X (t := 26) rfl rfl (WS_pq [2, 3, 4, 5, 1, 0] (lv' := [(0, .ref (A 68)), (1, .int (Int32.ofInt xv)), (2, .int (Int32.ofInt yv)), (3, .int (Int32.ofInt zv)), (4, .long (un &&& (((gD t 60 (((((xv * 7) + g) * 2) + zv)).toNat) &&& (gD t 60 (((((yv * 7) + g) * 2) + zv)).toNat)) ^^^ (lN 18446744073709551615)))), (6, .int (Int32.ofInt (g + 1)))]) rfl ?_))))))))
            exact ih _ xv yv zv (un &&& (((gD t 60 (((((xv * 7) + g) * 2) + zv)).toNat) &&& (gD t 60 (((((yv * 7) + g) * 2) + zv)).toNat)) ^^^ (lN 18446744073709551615))) (g + 1) I F (by rw [← show xv = x by first | (clear g1005; omega) | omega, ← show yv = y by first | (clear g1005; omega) | omega, ← show zv = z by first | (clear g1005; omega) | omega] at hq ⊢; exact mtm_up hq (fun j => fm_dd F (by decide)) (by first | (clear g1005; omega) | omega)) (by first | exact ⟨And.intro (hi.1.1) (And.intro (hi.1.2.1) (hi.1.2.2)), And.intro (hi.2.1.1) (hi.2.1.2), And.intro (hi.2.2.1.1) (hi.2.2.1.2), And.intro (hi.2.2.2.1.1) (hi.2.2.2.1.2), oq_54f49eb5 hi.2.2.2.2.1, oq_c22ff062 g1001⟩ | omega) (by first | exact qk_me hm (by decide) (oq_4b3bf825 g1001) | omega) kx
  refine z_aload_n X (x := A 68) rfl (List.Mem.head _) (s_getR X 68 rfl (c518_ok rfl) rfl rfl (z_load_n X (x := x) rfl (List.Mem.tail _ (List.Mem.head _)) (z_const X rfl (z_mul X rfl (z_load_n X (x := z) rfl (List.Mem.tail _ (List.Mem.tail _ (List.Mem.tail _ (List.Mem.head _)))) (z_add X rfl (z_lalE X 71 rfl (by decide) rfl (by first | exact oq_ff754f74 p0.1 p2.1 | omega) (show ((x * 2) + z) < 24 by first | exact oq_7b14761e p0.2 p2.2 | omega) (by decide) (z_aload_n X (x := A 68) rfl (List.Mem.head _) (s_getR X 68 rfl (c518_ok rfl) rfl rfl (z_load_n X (x := y) rfl (List.Mem.tail _ (List.Mem.tail _ (List.Mem.head _))) (z_const X rfl ?_)))))))))))
  refine z_mul X rfl (z_load_n X (x := z) rfl (List.Mem.tail _ (List.Mem.tail _ (List.Mem.tail _ (List.Mem.head _)))) (z_add X rfl (z_lalE X 71 rfl (by decide) rfl (by first | exact oq_ff754f74 p1.1 p2.1 | omega) (show ((y * 2) + z) < 24 by first | exact oq_7b14761e p1.2 p2.2 | omega) (by decide) (w_land X.1 (ax_d X (show cdA 111 20 = some (.land, 1, 0, 0, 0) from rfl)) (w_lstore X.1 (lv' := [(4, .long ((gD s 59 (((x * 2) + z)).toNat) &&& (gD s 59 (((y * 2) + z)).toNat))), (0, .ref (A 68)), (1, .int (Int32.ofInt x)), (2, .int (Int32.ofInt y)), (3, .int (Int32.ofInt z))]) (ax_d X (show cdA 111 21 = some (.lstore 4, 2, 0, 0, 0) from rfl)) (by rw [X.2.1.2.2]; decide) (fun _ h => h) (z_const X rfl (z_store X (lv' := [(6, .int (Int32.ofInt 0)), (4, .long ((gD s 59 (((x * 2) + z)).toNat) &&& (gD s 59 (((y * 2) + z)).toNat))), (0, .ref (A 68)), (1, .int (Int32.ofInt x)), (2, .int (Int32.ofInt y)), (3, .int (Int32.ofInt z))]) rfl (by decide) (fun _ h => h) (WS_pq [2, 3, 4, 5, 1, 0] (lv' := [(0, .ref (A 68)), (1, .int (Int32.ofInt x)), (2, .int (Int32.ofInt y)), (3, .int (Int32.ofInt z)), (4, .long ((gD s 59 (((x * 2) + z)).toNat) &&& (gD s 59 (((y * 2) + z)).toNat))), (6, .int (Int32.ofInt 0))]) rfl (L26 ((7 - 0 : Int).toNat + 1) s x y z ((gD s 59 (((x * 2) + z)).toNat) &&& (gD s 59 (((y * 2) + z)).toNat)) 0 I F rfl (by first | exact ⟨And.intro (by decide) (And.intro (by decide) (by decide)), And.intro (p0.1) (p0.2), And.intro (p1.1) (p1.2), And.intro (p2.1) (p2.2), by decide, by decide⟩ | omega) (Nat.lt_succ_self _) ?_)))))))))
  intro s1 x2 x3 Is1 Fs1 Qs1 hs1
  exact w_lload X.1 (ax_d X (show cdA 111 88 = some (.lload 4, 2, 0, 0, 0) from rfl)) (x := x2) (List.Mem.tail _ (List.Mem.tail _ (List.Mem.tail _ (List.Mem.tail _ (List.Mem.head _))))) (w_lret X.1 q hRt (ax_d X (show cdA 111 90 = some (.lreturn, 1, 0, 0, 0) from rfl)) (Nat.zero_le _) (Nat.zero_le _) ⟨_, rfl, Is1, Fs1, x2, rfl, Qs1⟩)
set_option maxRecDepth 4000 in
theorem c9_pairUp3m (G : GX l s0 D tys a0 dT) (I : Bd s)  : CT l s0 D A dT 110 (rmN 110) [.ref (A 68)] s (fun o t => Bd t ∧ Fm [44] [62, 1063] s t ∧ o = .inl none ∧ (CPLM t)) := by
  refine ct_ofX G (by decide) (Nat.le_of_ble_eq_true rfl) (fun k X E ET hRt hXt q => ?_)
  show WS k 0 [(0, .ref (A 68))] [] _ 0 0
  have F : Fm [44] [62, 1063] s s := fm_rf _ _ s
  have b1 := bi_43 I
  have b2 := bi_44 I
  have L19 : ∀ (n : Nat) (t : PS) (a b : Int), Bd t → Fm [44] [62, 1063] s t → (CPPM (iI s 43) a b s t) → ((0 ≤ a ∧ a + 1 ≤ b) ∧ b ≤ iI s 43 ∧ iI t 43 = iI s 43 ∧ iI s 43 ≤ 12) → (12 - b : Int).toNat < n → (∀ (t' : PS) (b' : Int), Bd t' → Fm [44] [62, 1063] s t' → (CPPM (iI s 43) a b' s t') → ((0 ≤ a ∧ a + 1 ≤ iI s 43) ∧ b' = iI s 43 ∧ iI t' 43 = iI s 43) → WS k 120 [(0, .ref (A 68)), (1, .int (Int32.ofInt a)), (2, .int (Int32.ofInt b'))] [] (Wd A dT t') 0 0) → WS k 19 [(0, .ref (A 68)), (1, .int (Int32.ofInt a)), (2, .int (Int32.ofInt b))] [] (Wd A dT t) 0 0 := by
    intro n
    induction n with
    | zero =>
      intro t a b I F hq hi hm kx
      exact absurd hm (Nat.not_lt_zero _)
    | succ n ih =>
      intro t a b I F hq hi hm kx
      have b1001 := bi_43 I
      have b1002 := bi_44 I
      refine z_load_n X (x := b) rfl (List.Mem.tail _ (List.Mem.tail _ (List.Mem.head _))) (z_aload_n X (x := A 68) rfl (List.Mem.head _) (z_getI X 68 rfl (c518_ok rfl) rfl rfl ?_))
      have b1003 := bi_43 I
      refine z_icmp_ge X (t := 120) rfl rfl ⟨by first | exact oq_7a2963c7 hi.1.2 hi.1.1 | omega, by first | exact oq_39d2cc6e hi.2.1 hi.2.2.2 | omega⟩ (rng_to _) (fun g1004 => ?_) (fun g1004 => ?_)
      ·
        refine WS_pq [0, 1, 2] (lv' := [(0, .ref (A 68)), (1, .int (Int32.ofInt a)), (2, .int (Int32.ofInt b))]) rfl ?_
        exact kx _ b I F hq (by first | exact ⟨And.intro (hi.1.1) (oq_091fd3db hi.1.2 hi.2.1), oq_537ca82a hi.2.1 g1004 hi.2.2.1, hi.2.2.1⟩ | omega)
      ·
        refine z_aload_n X (x := A 68) rfl (List.Mem.head _) (z_load_n X (x := a) rfl (List.Mem.tail _ (List.Mem.head _)) (z_load_n X (x := b) rfl (List.Mem.tail _ (List.Mem.tail _ (List.Mem.head _))) (z_const X rfl (z_callV X 68 (rm := rmN 111) (As := [.int (Int32.ofInt a), .int (Int32.ofInt b), .int (Int32.ofInt 0)]) (st := []) rfl rfl (by decide) rfl (by rw [E.1, E.2.1, E.2.2.1]; exact c9_meetsOf3m G I (by first | exact ⟨hi.1.1, oq_c0b5fb85 hi.1.2 g1004 b1003.2⟩ | omega) (by first | exact ⟨oq_85bc47d7 hi.1.2 hi.1.1, oq_e4d7f3c5 g1004 b1003.2⟩ | omega) (by first | exact ⟨by decide, by decide⟩ | omega)) ⟨by rw [E.2.2.2]; exact (show (rmN 111).frames + 1 ≤ (rmN 110).frames by decide), by rw [E.2.2.2]; exact (show 8 + (mNL (miB 111) + 11) + (rmN 111).locals ≤ (rmN 110).locals by decide), by rw [E.2.2.2]; exact (show 0 + (rmN 111).cells ≤ (rmN 110).cells by decide), by rw [E.2.2.2]; exact (show 0 + (rmN 111).slots ≤ (rmN 110).slots by decide)⟩ (Nat.le_of_ble_eq_true rfl) (fun vv s1005 hq => ?_) (fun ee s1005 hq => ?_)))))
        rotate_left
        · obtain ⟨Is1005, Fs1005, e1006, hv, hps1005⟩ := hq; cases hv
        obtain ⟨Is1005, Fs1005, e1006, hv, hps1005⟩ := hq
        cases hv
        have Gs1005 := fm_tq F Fs1005 rfl rfl
        have ws1005_43 : iI s1005 43 = iI t 43 := fm_iq Fs1005 rfl
        have ws1005_44 : iI s1005 44 = iI t 44 := fm_iq Fs1005 rfl
        show WS k 34 [(0, .ref (A 68)), (1, .int (Int32.ofInt a)), (2, .int (Int32.ofInt b))] [.long e1006] (Wd A dT s1005) 0 0
        refine w_lstore_n X.1 (lv' := [(3, .long e1006), (0, .ref (A 68)), (1, .int (Int32.ofInt a)), (2, .int (Int32.ofInt b))]) (ax_d X (show cdA 110 34 = some (.lstore_n 3, 1, 0, 0, 0) from rfl)) (by rw [X.2.1.2.2]; decide) (fun _ h => h) (z_aload_n X (x := A 68) rfl (List.Mem.tail _ (List.Mem.head _)) (z_load_n X (x := a) rfl (List.Mem.tail _ (List.Mem.tail _ (List.Mem.head _))) (z_load_n X (x := b) rfl (List.Mem.tail _ (List.Mem.tail _ (List.Mem.tail _ (List.Mem.head _)))) (z_const X rfl (z_callV X 68 (rm := rmN 111) (As := [.int (Int32.ofInt a), .int (Int32.ofInt b), .int (Int32.ofInt 1)]) (st := []) rfl rfl (by decide) rfl (by rw [E.1, E.2.1, E.2.2.1]; exact c9_meetsOf3m G Is1005 (by first | exact ⟨hi.1.1, oq_c0b5fb85 hi.1.2 g1004 b1003.2⟩ | omega) (by first | exact ⟨oq_85bc47d7 hi.1.2 hi.1.1, oq_e4d7f3c5 g1004 b1003.2⟩ | omega) (by first | exact ⟨by decide, by decide⟩ | omega)) ⟨by rw [E.2.2.2]; exact (show (rmN 111).frames + 1 ≤ (rmN 110).frames by decide), by rw [E.2.2.2]; exact (show 8 + (mNL (miB 111) + 11) + (rmN 111).locals ≤ (rmN 110).locals by decide), by rw [E.2.2.2]; exact (show 0 + (rmN 111).cells ≤ (rmN 110).cells by decide), by rw [E.2.2.2]; exact (show 0 + (rmN 111).slots ≤ (rmN 110).slots by decide)⟩ (Nat.le_of_ble_eq_true rfl) (fun vv s1007 hq => ?_) (fun ee s1007 hq => ?_))))))
        rotate_left
        · obtain ⟨Is1007, Fs1007, e1008, hv, hps1007⟩ := hq; cases hv
        obtain ⟨Is1007, Fs1007, e1008, hv, hps1007⟩ := hq
        cases hv
        have Gs1007 := fm_tq Gs1005 Fs1007 rfl rfl
        have ws1007_43 : iI s1007 43 = iI s1005 43 := fm_iq Fs1007 rfl
        have ws1007_44 : iI s1007 44 = iI s1005 44 := fm_iq Fs1007 rfl
        show WS k 42 [(3, .long e1006), (0, .ref (A 68)), (1, .int (Int32.ofInt a)), (2, .int (Int32.ofInt b))] [.long e1008] (Wd A dT s1007) 0 0
        refine w_lstore X.1 (lv' := [(5, .long e1008), (3, .long e1006), (0, .ref (A 68)), (1, .int (Int32.ofInt a)), (2, .int (Int32.ofInt b))]) (ax_d X (show cdA 110 42 = some (.lstore 5, 2, 0, 0, 0) from rfl)) (by rw [X.2.1.2.2]; decide) (fun _ h => h) (w_lload_n X.1 (ax_d X (show cdA 110 44 = some (.lload_n 3, 1, 0, 0, 0) from rfl)) (x := e1006) (List.Mem.tail _ (List.Mem.head _)) (w_lload X.1 (ax_d X (show cdA 110 45 = some (.lload 5, 2, 0, 0, 0) from rfl)) (x := e1008) (List.Mem.head _) (w_lor X.1 (ax_d X (show cdA 110 47 = some (.lor, 1, 0, 0, 0) from rfl)) (w_lconst X.1 (ax_d X (show cdA 110 48 = some (.lconst 0, 1, 0, 0, 0) from rfl)) (z := (0 : Int64)) (by decide) (z_jcmp X rfl (fun z1009 => ?_) (fun z1009 c1010 hc1010 ic1010 => ?_))))))
        ·
          refine z_if_eq X (t := 114) rfl rfl (by decide) (fun g1011 => ?_) (fun g1011 => ?_)
          ·
            refine z_inc X (x := b) (lv' := [(2, .int (Int32.ofInt (b + 1))), (5, .long e1008), (3, .long e1006), (0, .ref (A 68)), (1, .int (Int32.ofInt a))]) rfl (by decide) (List.Mem.tail _ (List.Mem.tail _ (List.Mem.tail _ (List.Mem.tail _ (List.Mem.head _))))) (fun _ h => h) (z_goto X (t := 19) rfl rfl (WS_pq [3, 4, 0] (lv' := [(0, .ref (A 68)), (1, .int (Int32.ofInt a)), (2, .int (Int32.ofInt (b + 1)))]) rfl ?_))
            exact ih _ a (b + 1) Is1007 Gs1007 (cppm_n (cppm_c (cppm_c hq Fs1005 (by decide)) Fs1007 (by decide)) (by omega) (by omega) (hps1005.trans (mtm_c (fun j => fm_dd F (by decide)) (fun j => fm_dd F (by decide)) 7)) (hps1007.trans (mtm_c (fun j => fm_dd Gs1005 (by decide)) (fun j => fm_dd Gs1005 (by decide)) 7)) z1009) (by first | exact ⟨And.intro (hi.1.1) (oq_c88d0a11 hi.1.2), oq_8a89b3ae g1004 hi.2.2.1, oq_878618b1 ws1007_43 ws1005_43 hi.2.2.1, hi.2.2.2⟩ | omega) (by first | exact qk_me hm (by decide) (oq_b575e8c1 g1004 b1003.2) | omega) kx
          ·
            exfalso
            omega
        ·
          refine z_if_eq X (t := 114) rfl rfl ⟨by omega, by omega⟩ (fun g1012 => ?_) (fun g1012 => ?_)
          ·
            refine z_inc X (x := b) (lv' := [(2, .int (Int32.ofInt (b + 1))), (5, .long e1008), (3, .long e1006), (0, .ref (A 68)), (1, .int (Int32.ofInt a))]) rfl (by decide) (List.Mem.tail _ (List.Mem.tail _ (List.Mem.tail _ (List.Mem.tail _ (List.Mem.head _))))) (fun _ h => h) (z_goto X (t := 19) rfl rfl (WS_pq [3, 4, 0] (lv' := [(0, .ref (A 68)), (1, .int (Int32.ofInt a)), (2, .int (Int32.ofInt (b + 1)))]) rfl ?_))
            exact ih _ a (b + 1) Is1007 Gs1007 (by exfalso; have z := (cppm_c (cppm_c hq Fs1005 (by decide)) Fs1007 (by decide)).1; have pb := pr_bd a.toNat (by omega); omega) (by first | exact ⟨And.intro (hi.1.1) (oq_c88d0a11 hi.1.2), oq_8a89b3ae g1004 hi.2.2.1, oq_878618b1 ws1007_43 ws1005_43 hi.2.2.1, hi.2.2.2⟩ | omega) (by first | exact qk_me hm (by decide) (oq_b575e8c1 g1004 b1003.2) | omega) kx
          ·
            refine z_aload_n X (x := A 68) rfl (List.Mem.tail _ (List.Mem.tail _ (List.Mem.head _))) (z_getI X 68 rfl (c518_ok rfl) rfl rfl ?_)
            have b1013 := bi_44 Is1007
            refine z_bipush X rfl (z_icmp_ge X (t := 114) rfl rfl (rng_to _) (by decide) (fun g1014 => ?_) (fun g1014 => ?_))
            ·
              refine z_inc X (x := b) (lv' := [(2, .int (Int32.ofInt (b + 1))), (5, .long e1008), (3, .long e1006), (0, .ref (A 68)), (1, .int (Int32.ofInt a))]) rfl (by decide) (List.Mem.tail _ (List.Mem.tail _ (List.Mem.tail _ (List.Mem.tail _ (List.Mem.head _))))) (fun _ h => h) (z_goto X (t := 19) rfl rfl (WS_pq [3, 4, 0] (lv' := [(0, .ref (A 68)), (1, .int (Int32.ofInt a)), (2, .int (Int32.ofInt (b + 1)))]) rfl ?_))
              exact ih _ a (b + 1) Is1007 Gs1007 (by exfalso; have z := (cppm_c (cppm_c hq Fs1005 (by decide)) Fs1007 (by decide)).1; have pb := pr_bd a.toNat (by first | (clear g1012; omega) | omega); omega) (by first | exact ⟨And.intro (hi.1.1) (oq_c88d0a11 hi.1.2), oq_8a89b3ae g1004 hi.2.2.1, oq_878618b1 ws1007_43 ws1005_43 hi.2.2.1, hi.2.2.2⟩ | omega) (by first | exact qk_me hm (by decide) (oq_b575e8c1 g1004 b1003.2) | omega) kx
            ·
              refine z_aload_n X (x := A 68) rfl (List.Mem.tail _ (List.Mem.tail _ (List.Mem.head _))) (s_getR X 68 rfl (c518_ok rfl) rfl rfl (z_aload_n X (x := A 68) rfl (List.Mem.tail _ (List.Mem.tail _ (List.Mem.head _))) (z_getI X 68 rfl (c518_ok rfl) rfl rfl ?_)))
              have b1015 := bi_44 Is1007
              refine z_load_n X (x := a) rfl (List.Mem.tail _ (List.Mem.tail _ (List.Mem.tail _ (List.Mem.head _)))) (z_bipush X rfl (z_mul X rfl (z_load_n X (x := b) rfl (List.Mem.tail _ (List.Mem.tail _ (List.Mem.tail _ (List.Mem.tail _ (List.Mem.head _))))) (z_add X rfl (z_ast X 74 rfl (c518_ok rfl) rfl (by first | exact b1015.1 | omega) (show (iI s1007 44) < 66 by first | exact g1014 | omega) (cbig_ok rfl) (wd_gen (fun s1016 hs1016 => ?_)))))))
              have Is1016 : Bd s1016 := eqB hs1016 (bd_C Is1007 (show (0 : Int) ≤ ((a * 12) + b) ∧ ((a * 12) + b) ≤ 143 by first | exact ⟨oq_938dc1a3 hi.1.1 hi.1.2, oq_86fb23b7 hi.1.2 g1004 b1003.2⟩ | omega) ⟨by first | exact oq_805207af hi.1.1 hi.1.2 | omega, by first | exact oq_2f3ce8a7 hi.1.2 g1004 b1003.2 | omega⟩)
              have Fs1016 := eqF hs1016 (fm_C Gs1007 (inl_ok (a := 62) rfl))
              have ws1016_43 : iI s1016 43 = iI s1007 43 := eqI hs1016 rfl
              have ws1016_44 : iI s1016 44 = iI s1007 44 := eqI hs1016 rfl
              refine z_aload_n X (x := A 68) rfl (List.Mem.tail _ (List.Mem.tail _ (List.Mem.head _))) (s_getR X 68 rfl (c518_ok rfl) rfl rfl (z_aload_n X (x := A 68) rfl (List.Mem.tail _ (List.Mem.tail _ (List.Mem.head _))) (z_getI X 68 rfl (c518_ok rfl) rfl rfl ?_)))
              have b1017 := bi_44 Is1016
              refine z_const X rfl (z_mul X rfl (w_lload_n X.1 (ax_d X (show cdA 110 87 = some (.lload_n 3, 1, 0, 0, 0) from rfl)) (x := e1006) (List.Mem.tail _ (List.Mem.head _)) (z_last X 75 rfl (c518_ok rfl) rfl (by first | exact oq_cfc6ac54 b1017.1 | omega) (show ((iI s1016 44) * 2) < 132 by first | exact oq_0ba3fcc8 ws1016_44 g1014 | omega) (cbig_ok rfl) (wd_gen (fun s1018 hs1018 => ?_)))))
              have Is1018 : Bd s1018 := eqB hs1018 (bd_D Is1016)
              have Fs1018 : Fm [44] [62, 1063] s s1018 := by rw [hs1018]; exact fm_D Fs1016 (show 63 + 1000 ∈ _ by decide)
              have ws1018_43 : iI s1018 43 = iI s1016 43 := eqI hs1018 rfl
              have ws1018_44 : iI s1018 44 = iI s1016 44 := eqI hs1018 rfl
              refine z_aload_n X (x := A 68) rfl (List.Mem.tail _ (List.Mem.tail _ (List.Mem.head _))) (s_getR X 68 rfl (c518_ok rfl) rfl rfl (z_aload_n X (x := A 68) rfl (List.Mem.tail _ (List.Mem.tail _ (List.Mem.head _))) (z_getI X 68 rfl (c518_ok rfl) rfl rfl ?_)))
              have b1019 := bi_44 Is1018
              refine z_const X rfl (z_mul X rfl (z_const X rfl (z_add X rfl (w_lload X.1 (ax_d X (show cdA 110 101 = some (.lload 5, 2, 0, 0, 0) from rfl)) (x := e1008) (List.Mem.head _) (z_last X 75 rfl (c518_ok rfl) rfl (by first | exact oq_8a3e0277 b1019.1 | omega) (show (((iI s1018 44) * 2) + 1) < 132 by first | exact oq_1191648c ws1018_44 ws1016_44 g1014 | omega) (cbig_ok rfl) (wd_gen (fun s1020 hs1020 => ?_)))))))
              have Is1020 : Bd s1020 := eqB hs1020 (bd_D Is1018)
              have Fs1020 : Fm [44] [62, 1063] s s1020 := by rw [hs1020]; exact fm_D Fs1018 (show 63 + 1000 ∈ _ by decide)
              have ws1020_43 : iI s1020 43 = iI s1018 43 := eqI hs1020 rfl
              have ws1020_44 : iI s1020 44 = iI s1018 44 := eqI hs1020 rfl
              refine z_aload_n X (x := A 68) rfl (List.Mem.tail _ (List.Mem.tail _ (List.Mem.head _))) (w_dup X.1 (ax_d X (show cdA 110 105 = some (.dup, 1, 0, 0, 0) from rfl)) rfl (z_getI X 68 rfl (c518_ok rfl) rfl rfl ?_))
              have b1021 := bi_44 Is1020
              refine z_const X rfl (z_add X rfl (s_putI X 68 rfl (c518_ok rfl) rfl rfl (by decide) rfl rfl rfl (wd_gen (fun s1022 hs1022 => ?_))))
              have Is1022 : Bd s1022 := eqB hs1022 (bd_I Is1020 (show (0 : Int) ≤ ((iI s1020 44) + 1) ∧ ((iI s1020 44) + 1) ≤ 66 by first | exact ⟨oq_54f49eb5 b1021.1, oq_98f08201 ws1020_44 ws1018_44 ws1016_44 g1014⟩ | omega) ⟨by first | exact oq_74de1e16 b1021.1 | omega, by first | exact oq_d99c2177 b1021.2 | omega⟩)
              have Fs1022 := eqF hs1022 (fm_I Fs1020 (inl_ok (a := 44) rfl))
              have vs1022 : iI s1022 44 = ((iI s1020 44) + 1) := eqI hs1022 (iI_u ⟨by first | exact oq_74de1e16 b1021.1 | omega, by first | exact oq_d99c2177 b1021.2 | omega⟩)
              have ws1022_43 : iI s1022 43 = iI s1020 43 := eqI hs1022 rfl
              refine z_inc X (x := b) (lv' := [(2, .int (Int32.ofInt (b + 1))), (5, .long e1008), (3, .long e1006), (0, .ref (A 68)), (1, .int (Int32.ofInt a))]) rfl (by decide) (List.Mem.tail _ (List.Mem.tail _ (List.Mem.tail _ (List.Mem.tail _ (List.Mem.head _))))) (fun _ h => h) (z_goto X (t := 19) rfl rfl (WS_pq [3, 4, 0] (lv' := [(0, .ref (A 68)), (1, .int (Int32.ofInt a)), (2, .int (Int32.ofInt (b + 1)))]) rfl ?_))
              exact ih _ a (b + 1) Is1022 Fs1022 (cppm_y (cppm_c (cppm_c hq Fs1005 (by decide)) Fs1007 (by decide)) (by first | (clear g1012; omega) | omega) (by first | (clear g1012; omega) | omega) (by first | (clear g1012; omega) | omega) (hps1005.trans (mtm_c (fun j => fm_dd F (by decide)) (fun j => fm_dd F (by decide)) 7)) (hps1007.trans (mtm_c (fun j => fm_dd Gs1005 (by decide)) (fun j => fm_dd Gs1005 (by decide)) 7)) hs1016 hs1018 hs1020 hs1022) (by first | exact ⟨And.intro (hi.1.1) (oq_c88d0a11 hi.1.2), oq_8a89b3ae g1004 hi.2.2.1, oq_cc03667a ws1022_43 ws1020_43 ws1018_43 ws1016_43 ws1007_43 ws1005_43 hi.2.2.1, hi.2.2.2⟩ | omega) (by first | exact qk_me hm (by decide) (oq_b575e8c1 g1004 b1003.2) | omega) kx
  have L7 : ∀ (n : Nat) (t : PS) (a : Int), Bd t → Fm [44] [62, 1063] s t → (CPOM (iI s 43) a s t) → ((0 ≤ a ∧ a ≤ iI s 43) ∧ iI t 43 = iI s 43 ∧ iI s 43 ≤ 12) → (12 - a : Int).toNat < n → (∀ (t' : PS) (a' : Int), Bd t' → Fm [44] [62, 1063] s t' → (CPOM (iI s 43) a' s t') → (a' = iI s 43 ∧ iI t' 43 = iI s 43) → WS k 126 [(0, .ref (A 68)), (1, .int (Int32.ofInt a'))] [] (Wd A dT t') 0 0) → WS k 7 [(0, .ref (A 68)), (1, .int (Int32.ofInt a))] [] (Wd A dT t) 0 0 := by
    intro n
    induction n with
    | zero =>
      intro t a I F hq hi hm kx
      exact absurd hm (Nat.not_lt_zero _)
    | succ n ih =>
      intro t a I F hq hi hm kx
      have b2001 := bi_43 I
      have b2002 := bi_44 I
      refine z_load_n X (x := a) rfl (List.Mem.tail _ (List.Mem.head _)) (z_aload_n X (x := A 68) rfl (List.Mem.head _) (z_getI X 68 rfl (c518_ok rfl) rfl rfl ?_))
      have b2003 := bi_43 I
      refine z_icmp_ge X (t := 126) rfl rfl ⟨by first | exact oq_fa4e5087 hi.1.1 | omega, by first | exact oq_39d2cc6e hi.1.2 hi.2.2 | omega⟩ (rng_to _) (fun g2004 => ?_) (fun g2004 => ?_)
      ·
        refine WS_pq [0, 1] (lv' := [(0, .ref (A 68)), (1, .int (Int32.ofInt a))]) rfl ?_
        exact kx _ a I F hq (by first | exact ⟨oq_537ca82a hi.1.2 g2004 hi.2.1, hi.2.1⟩ | omega)
      ·
        refine z_load_n X (x := a) rfl (List.Mem.tail _ (List.Mem.head _)) (z_const X rfl (z_add X rfl (z_store_n X (lv' := [(2, .int (Int32.ofInt (a + 1))), (0, .ref (A 68)), (1, .int (Int32.ofInt a))]) rfl (by decide) (fun _ h => h) (WS_pq [1, 2, 0] (lv' := [(0, .ref (A 68)), (1, .int (Int32.ofInt a)), (2, .int (Int32.ofInt (a + 1)))]) rfl (L19 ((12 - (a + 1) : Int).toNat + 1) t a (a + 1) I F (cppm_0 hq (by omega)) (by first | exact ⟨And.intro (hi.1.1) (by decide), oq_8a89b3ae g2004 hi.2.1, hi.2.1, hi.2.2⟩ | omega) (Nat.lt_succ_self _) ?_)))))
        intro s2005 x2006 Is2005 Fs2005 Qs2005 hs2005
        have b2007 := bi_43 Is2005
        have b2008 := bi_44 Is2005
        refine z_inc X (x := a) (lv' := [(1, .int (Int32.ofInt (a + 1))), (0, .ref (A 68)), (2, .int (Int32.ofInt x2006))]) rfl (by decide) (List.Mem.tail _ (List.Mem.head _)) (fun _ h => h) (z_goto X (t := 7) rfl rfl (WS_pq [1, 0] (lv' := [(0, .ref (A 68)), (1, .int (Int32.ofInt (a + 1)))]) rfl ?_))
        exact ih _ (a + 1) Is2005 Fs2005 (cppm_o Qs2005 (by omega) (by omega) (by omega)) (by first | exact ⟨And.intro (oq_54f49eb5 hs2005.1.1) (hs2005.1.2), hs2005.2.2, hi.2.2⟩ | omega) (by first | exact qk_me hm (by decide) (oq_cb22635a hs2005.1.2 hi.2.2) | omega) kx
  refine z_aload_n X (x := A 68) rfl (List.Mem.head _) (z_const X rfl (s_putI X 68 rfl (c518_ok rfl) rfl rfl (by decide) rfl rfl rfl (wd_gen (fun s3 hs3 => ?_))))
  have Is3 : Bd s3 := eqB hs3 (bd_I I (show (0 : Int) ≤ 0 ∧ 0 ≤ 66 by first | exact ⟨by decide, by decide⟩ | omega) (by decide))
  have Fs3 := eqF hs3 (fm_I F (inl_ok (a := 44) rfl))
  have vs3 : iI s3 44 = 0 := eqI hs3 (iI_u (by decide))
  have ws3_43 : iI s3 43 = iI s 43 := eqI hs3 rfl
  refine z_const X rfl (z_store_n X (lv' := [(1, .int (Int32.ofInt 0)), (0, .ref (A 68))]) rfl (by decide) (fun _ h => h) (WS_pq [1, 0] (lv' := [(0, .ref (A 68)), (1, .int (Int32.ofInt 0))]) rfl (L7 ((12 - 0 : Int).toNat + 1) s3 0 Is3 Fs3 (cpom_0 (by omega)) (by first | exact ⟨And.intro (by decide) (b1.1), ws3_43, b1.2⟩ | omega) (Nat.lt_succ_self _) ?_)))
  intro s4 x5 Is4 Fs4 Qs4 hs4
  have b6 := bi_43 Is4
  have b7 := bi_44 Is4
  exact w_vret X.1 q hRt (ax_d X (show cdA 110 126 = some (.return_, 1, 0, 0, 0) from rfl)) (Nat.zero_le _) (Nat.zero_le _) ⟨_, rfl, Is4, Fs4, rfl, (cplm_of (n := iI s 43) (by have z := Qs4; rw [show x5 = iI s 43 by omega] at z; exact z) (by omega) (by omega) (fun j => fm_dd Fs4 (by decide)) (fun j => fm_dd Fs4 (by decide)))⟩
end M87kt
