theorem oq_ae06ec3c {a0 a1 : Int} (h0 : a0 ≤ 4) (h1 : a1 ≤ a0) (h2 : a1 = 4) : a0 = 4 := by omega
theorem oq_ad8fc57c {a0 a1 : Int} (h0 : (a0 = 0 ∨ a0 = 1)) (h1 : a1 = a0) : (-2147483648) ≤ a1 := by omega
theorem oq_918d59e7 {a0 a1 : Int} (h0 : (a0 = 0 ∨ a0 = 1)) (h1 : a1 = a0) : a1 ≤ 2147483647 := by omega
theorem oq_fcee0c4c {a0 a1 a2 a3 : Int} (h0 : a0 = a1) (h1 : a2 = a3) (h2 : a2 = a0) : a3 = a1 := by omega
theorem oq_9603bbcc {a0 : Int} (h0 : a0 < 40) : a0 ≠ 40 := by omega
theorem oq_1349e71a {a0 a1 a2 a3 a4 : Int} (h0 : a0 = (a1 + 1)) (h1 : a1 = a2) (h2 : a2 = a3) (h3 : a3 = a4) : (a0 - 1) = a4 := by omega
theorem oq_003dad9f {a0 a1 a2 a3 a4 : Int} (h0 : a0 = (a1 + 1)) (h1 : a1 = a2) (h2 : a2 = a3) (h3 : a3 = a4) : a0 = (a4 + 1) := by omega
theorem oq_cb92d216 {a0 : Int} (h0 : a0 ≤ 40) (h1 : 40 ≤ a0) : a0 = 40 := by omega
theorem oq_40960813 {a0 a1 a2 a3 a4 a5 : Int} (h0 : a0 = 0) (h1 : ((1 = 1 ∧ (a1 = 0 ∧ (a2 = 1 ∧ a0 = 1))) ∨ ((1 = 0 ∨ a1 ≠ 0) ∧ (a2 = a1 ∧ ((a0 = 0 ∧ a1 = 0) ∨ (a0 = 1 ∧ a1 ≠ 0)))))) (h2 : a1 = 0) : (0 ≤ a3 ∧ (a3 ≤ 7 ∧ (0 ≤ a4 ∧ (a4 ≤ 23 ∧ (0 ≤ a5 ∧ a5 ≤ 9999))))) := by omega
theorem oq_f84a1ba0 {a0 a1 a2 a3 a4 a5 : Int} (h0 : a0 = a1) (h1 : a1 = a2) (h2 : a2 = a3) (h3 : a3 ≠ 40) (h4 : a3 ≤ 40) (h5 : a3 = a4) (h6 : a4 = a5) : (a5 ≠ 40 ∧ a0 ≤ 39) := by omega
theorem oq_4ef6c971 {a0 a1 a2 a3 a4 : Int} (h0 : a0 = (a1 + 1)) (h1 : a2 = a3) (h2 : a1 = a4) (h3 : a4 = a2) : (a0 - 1) = a3 := by omega
theorem oq_30266725 {a0 a1 a2 a3 a4 : Int} (h0 : a0 = (a1 + 1)) (h1 : a2 = a3) (h2 : a1 = a4) (h3 : a4 = a2) : a0 = (a3 + 1) := by omega
theorem oq_f4d57307 {a0 a1 a2 : Int} (h0 : a0 = 0) (h1 : 0 ≤ a1) (h2 : ((1 = 1 ∧ (a2 = 0 ∧ (a1 = 1 ∧ a0 = 1))) ∨ ((1 = 0 ∨ a2 ≠ 0) ∧ (a1 = a2 ∧ ((a0 = 0 ∧ a2 = 0) ∨ (a0 = 1 ∧ a2 ≠ 0)))))) (h3 : a2 = 0) : a1 = 0 := by omega
theorem oq_584785d6 {a0 a1 a2 : Int} (h0 : a0 ≤ 40) (h1 : a1 = a0) (h2 : a2 = a1) (h3 : a2 = 40) : a0 = 40 := by omega
theorem oq_9bd8ff3d {a0 a1 a2 a3 : Int} (h0 : a0 = 0) (h1 : ((a0 = 1 ∧ (0 ≤ a1 ∧ a1 ≤ 7)) ∨ (a0 = 0 ∧ (a1 < 0 ∨ 7 < a1)))) : (a1 < 0 ∨ (7 < a1 ∨ (a2 < 0 ∨ (23 < a2 ∨ (a3 < 0 ∨ 9999 < a3))))) := by omega
theorem oq_823b8351 {a0 a1 a2 a3 : Int} (h0 : a0 = 0) (h1 : ((a0 = 1 ∧ (0 ≤ a1 ∧ a1 ≤ 23)) ∨ (a0 = 0 ∧ (a1 < 0 ∨ 23 < a1)))) : (a2 < 0 ∨ (7 < a2 ∨ (a1 < 0 ∨ (23 < a1 ∨ (a3 < 0 ∨ 9999 < a3))))) := by omega
theorem oq_f56e4e91 {a0 a1 a2 a3 a4 a5 : Int} (h0 : a0 ≠ 0) (h1 : ((a0 = 1 ∧ (0 ≤ a1 ∧ a1 ≤ 9999)) ∨ (a0 = 0 ∧ (a1 < 0 ∨ 9999 < a1)))) (h2 : a2 ≠ 0) (h3 : ((a2 = 1 ∧ (0 ≤ a3 ∧ a3 ≤ 23)) ∨ (a2 = 0 ∧ (a3 < 0 ∨ 23 < a3)))) (h4 : a4 ≠ 0) (h5 : ((a4 = 1 ∧ (0 ≤ a5 ∧ a5 ≤ 7)) ∨ (a4 = 0 ∧ (a5 < 0 ∨ 7 < a5)))) : (0 ≤ a5 ∧ (a5 ≤ 7 ∧ (0 ≤ a3 ∧ (a3 ≤ 23 ∧ (0 ≤ a1 ∧ a1 ≤ 9999))))) := by omega
theorem oq_d71e764c {a0 a1 : Int} (h0 : a0 ≠ 0) (h1 : ((a0 = 1 ∧ (0 ≤ a1 ∧ a1 ≤ 9999)) ∨ (a0 = 0 ∧ (a1 < 0 ∨ 9999 < a1)))) : 0 ≤ a1 := by omega
theorem oq_64e1edaa {a0 a1 : Int} (h0 : a0 ≠ 0) (h1 : ((a0 = 1 ∧ (0 ≤ a1 ∧ a1 ≤ 9999)) ∨ (a0 = 0 ∧ (a1 < 0 ∨ 9999 < a1)))) : a1 ≤ 9999 := by omega
theorem oq_93520411 {a0 a1 a2 : Int} (h0 : 0 ≤ a0) (h1 : ((0 = 1 ∧ (a1 = 0 ∧ (a0 = 1 ∧ a2 = 1))) ∨ ((0 = 0 ∨ a1 ≠ 0) ∧ (a0 = a1 ∧ ((a2 = 0 ∧ a1 = 0) ∨ (a2 = 1 ∧ a1 ≠ 0)))))) (h2 : a1 = 0) : a0 = 0 := by omega
theorem oq_6d8dc361 {a0 a1 a2 a3 a4 a5 : Int} (h0 : a0 ≠ 0) (h1 : ((0 = 1 ∧ (a1 = 0 ∧ (a2 = 1 ∧ a0 = 1))) ∨ ((0 = 0 ∨ a1 ≠ 0) ∧ (a2 = a1 ∧ ((a0 = 0 ∧ a1 = 0) ∨ (a0 = 1 ∧ a1 ≠ 0)))))) (h2 : a1 = 0) : (a3 < 0 ∨ (7 < a3 ∨ (a4 < 0 ∨ (23 < a4 ∨ (a5 < 0 ∨ 9999 < a5))))) := by omega
theorem oq_38cafae0 {a0 a1 a2 a3 : Int} (h0 : a0 = 0) (h1 : ((a0 = 1 ∧ (0 ≤ a1 ∧ a1 ≤ 9999)) ∨ (a0 = 0 ∧ (a1 < 0 ∨ 9999 < a1)))) : (a2 < 0 ∨ (7 < a2 ∨ (a3 < 0 ∨ (23 < a3 ∨ (a1 < 0 ∨ 9999 < a1))))) := by omega
theorem oq_a309725a {a0 a1 : Int} (h0 : a0 = a1) (h1 : a1 ≤ 624) : a0 ≤ 2147483647 := by omega
theorem oq_98e79bd6 {a0 a1 : Int} (h0 : 0 ≤ a0) (h1 : a1 = a0) : 0 ≤ (a1 / 25) := by omega
theorem oq_0c045994 {a0 a1 : Int} (h0 : 0 ≤ a0) (h1 : a1 = a0) : (-2147483648) ≤ (a1 / 25) := by omega
theorem oq_d39d3c00 {a0 a1 : Int} (h0 : a0 ≤ 624) (h1 : a1 = a0) : (a1 / 25) ≤ 2147483647 := by omega
theorem oq_ce6b29d9 {a0 a1 : Int} (h0 : 0 ≤ a0) (h1 : a1 = a0) : 0 ≤ (a1 / 5) := by omega
theorem oq_884f205c {a0 a1 : Int} (h0 : 0 ≤ a0) (h1 : a1 = a0) : (-2147483648) ≤ (a1 / 5) := by omega
theorem oq_27fb1552 {a0 a1 : Int} (h0 : a0 ≤ 624) (h1 : a1 = a0) : (a1 / 5) ≤ 2147483647 := by omega
theorem oq_3569673f {a0 : Int} (h0 : a0 ≤ 625) (h1 : 625 ≤ a0) : a0 = 625 := by omega
theorem oq_0d2bbd06 {a0 a1 : Int} (h0 : a0 ≠ 0) (h1 : ((a0 = 1 ∧ (0 ≤ a1 ∧ a1 ≤ 5)) ∨ (a0 = 0 ∧ (a1 < 0 ∨ 5 < a1)))) : (a1 = a1 ∧ (0 ≤ a1 ∧ a1 ≤ 5)) := by omega
theorem oq_76568930 {a0 a1 a2 a3 : Int} (h0 : a0 ≠ 0) (h1 : ((0 = 1 ∧ (a1 = 0 ∧ (a2 = 1 ∧ a0 = 1))) ∨ ((0 = 0 ∨ a1 ≠ 0) ∧ (a2 = a1 ∧ ((a0 = 0 ∧ a1 = 0) ∨ (a0 = 1 ∧ a1 ≠ 0)))))) (h2 : a1 = 0) : (a3 < 0 ∨ 5 < a3) := by omega
theorem oq_fca33ba6 {a0 a1 a2 a3 : Int} (h0 : a0 = 0) (h1 : ((1 = 1 ∧ (a1 = 0 ∧ (a2 = 1 ∧ a0 = 1))) ∨ ((1 = 0 ∨ a1 ≠ 0) ∧ (a2 = a1 ∧ ((a0 = 0 ∧ a1 = 0) ∨ (a0 = 1 ∧ a1 ≠ 0)))))) (h2 : a1 = 0) : (a3 = a3 ∧ (0 ≤ a3 ∧ a3 ≤ 5)) := by omega
theorem oq_da03fcef {a0 a1 a2 : Int} (h0 : a0 ≤ 5) (h1 : 0 ≤ a0) (h2 : a1 = 0) (h3 : ((a1 = 1 ∧ (0 ≤ a0 ∧ a0 ≤ 5)) ∨ (a1 = 0 ∧ (a0 < 0 ∨ 5 < a0)))) : ((-2147483648) ≤ a2 ∧ a2 ≤ 2147483647) := by omega
theorem oq_ea04e8bd {a0 a1 : Int} (h0 : a0 = 0) (h1 : ((a0 = 1 ∧ (0 ≤ a1 ∧ a1 ≤ 5)) ∨ (a0 = 0 ∧ (a1 < 0 ∨ 5 < a1)))) : (a1 < 0 ∨ 5 < a1) := by omega
/-! Weights that fit what pairs did: class and model -/
def wz (x : Int) : Int := (Int32.ofInt x).toInt
theorem wz_of {x y : Int} (r : rng y) (h : Int32.ofInt y = Int32.ofInt x) : y = wz x := by
  unfold wz
  rw [← h, zi r]
theorem wz_id {x : Int} (r : rng x) : wz x = x := zi r
/-- how much, by 32 bits -/
def amI (x : Int) : Int := if x < 0 then wz (-x) else x
def fwI (H W : Nat → Int) (d : Int) : Nat → Int
  | 0 => d
  | k + 1 => wz (fwI H W d k - wz (W k * H k))
/-- the sum, by rows (kept back or not: b), of how far -/
def ofI (D B : Nat → Int) (H : Nat → Nat → Int) (W : Nat → Int) (b : Int) : Nat → Int
  | 0 => 0
  | r + 1 => if B r = b then wz (ofI D B H W b r + amI (fwI (H r) W (D r) 4)) else ofI D B H W b r
theorem fw_c {H H' W W' : Nat → Int} {d : Int} : ∀ {n : Nat}, (∀ k, k < n → H' k = H k) → (∀ k, k < n → W' k = W k) → fwI H' W' d n = fwI H W d n
  | 0, _, _ => rfl
  | n + 1, h, g => by
    show wz (fwI H' W' d n - wz (W' n * H' n)) = wz (fwI H W d n - wz (W n * H n))
    rw [fw_c (fun k hk => h k (by omega)) (fun k hk => g k (by omega)), h n (by omega), g n (by omega)]
theorem of_c {D D' B B' : Nat → Int} {H H' : Nat → Nat → Int} {W W' : Nat → Int} {b : Int} (hW : ∀ k, k < 4 → W' k = W k) : ∀ {n : Nat}, (∀ r, r < n → D' r = D r ∧ B' r = B r ∧ ∀ k, k < 4 → H' r k = H r k) → ofI D' B' H' W' b n = ofI D B H W b n
  | 0, _ => rfl
  | n + 1, h => by
    obtain ⟨h1, h2, h3⟩ := h n (by omega)
    have i := of_c (b := b) hW (n := n) (fun r hr => h r (by omega))
    show (if B' n = b then wz (ofI D' B' H' W' b n + amI (fwI (H' n) W' (D' n) 4)) else ofI D' B' H' W' b n) = (if B n = b then wz (ofI D B H W b n + amI (fwI (H n) W (D n) 4)) else ofI D B H W b n)
    rw [i, h1, h2, fw_c h3 hW]
theorem fw_up {H W : Nat → Int} {d f y1 y2 a b c : Int} (h : f = fwI H W d c.toNat) (c0 : 0 ≤ c) (ha : a = W c.toNat) (hb : b = H c.toNat) (r1 : rng y1) (e1 : Int32.ofInt y1 = Int32.ofInt (a * b)) (r2 : rng y2) (e2 : Int32.ofInt y2 = Int32.ofInt (f - y1)) : y2 = fwI H W d (c + 1).toNat := by
  rw [show (c + 1).toNat = c.toNat + 1 by omega]
  show y2 = wz (fwI H W d c.toNat - wz (W c.toNat * H c.toNat))
  rw [← h, ← ha, ← hb, ← wz_of r1 e1]
  exact wz_of r2 e2
theorem fw_4 {H W : Nat → Int} {d a0 b0 a1 b1 a2 b2 a3 b3 y0 z0 y1 z1 y2 z2 y3 z3 : Int} (w0 : a0 = W 0) (v0 : b0 = H 0) (r0 : rng y0) (e0 : Int32.ofInt y0 = Int32.ofInt (a0 * b0)) (s0 : rng z0) (g0 : Int32.ofInt z0 = Int32.ofInt (d - y0)) (w1 : a1 = W 1) (v1 : b1 = H 1) (r1 : rng y1) (e1 : Int32.ofInt y1 = Int32.ofInt (a1 * b1)) (s1 : rng z1) (g1 : Int32.ofInt z1 = Int32.ofInt (z0 - y1))
    (w2 : a2 = W 2) (v2 : b2 = H 2) (r2 : rng y2) (e2 : Int32.ofInt y2 = Int32.ofInt (a2 * b2)) (s2 : rng z2) (g2 : Int32.ofInt z2 = Int32.ofInt (z1 - y2)) (w3 : a3 = W 3) (v3 : b3 = H 3) (r3 : rng y3) (e3 : Int32.ofInt y3 = Int32.ofInt (a3 * b3)) (s3 : rng z3) (g3 : Int32.ofInt z3 = Int32.ofInt (z2 - y3)) : z3 = fwI H W d 4 := by
  have q0 : z0 = fwI H W d 1 := fw_up (c := 0) (H := H) (W := W) (d := d) (f := d) rfl (by decide) w0 v0 r0 e0 s0 g0
  have q1 : z1 = fwI H W d 2 := fw_up (c := 1) (H := H) (W := W) (d := d) q0 (by decide) w1 v1 r1 e1 s1 g1
  have q2 : z2 = fwI H W d 3 := fw_up (c := 2) (H := H) (W := W) (d := d) q1 (by decide) w2 v2 r2 e2 s2 g2
  exact fw_up (c := 3) (H := H) (W := W) (d := d) q2 (by decide) w3 v3 r3 e3 s3 g3
theorem of_y {D B W : Nat → Int} {H : Nat → Nat → Int} {b m r f y g a : Int} (h : m = ofI D B H W b r.toNat) (r0 : 0 ≤ r) (hB : g = B r.toNat) (hb : g = b) (hf : f = fwI (H r.toNat) W (D r.toNat) 4) (ha : a = amI f) (ry : rng y) (e : Int32.ofInt y = Int32.ofInt (m + a)) : y = ofI D B H W b (r + 1).toNat := by
  rw [show (r + 1).toNat = r.toNat + 1 by omega]
  show y = if B r.toNat = b then wz (ofI D B H W b r.toNat + amI (fwI (H r.toNat) W (D r.toNat) 4)) else ofI D B H W b r.toNat
  rw [if_pos (hB.symm.trans hb), ← h, ← hf, ← ha]
  exact wz_of ry e
theorem of_n {D B W : Nat → Int} {H : Nat → Nat → Int} {b m r g : Int} (h : m = ofI D B H W b r.toNat) (r0 : 0 ≤ r) (hB : g = B r.toNat) (hb : g ≠ b) : m = ofI D B H W b (r + 1).toNat := by
  rw [show (r + 1).toNat = r.toNat + 1 by omega]
  show m = if B r.toNat = b then wz (ofI D B H W b r.toNat + amI (fwI (H r.toNat) W (D r.toNat) 4)) else ofI D B H W b r.toNat
  rw [if_neg (fun q => hb (hB.trans q))]
  exact h
theorem of_z {y m : Int} (ry : rng y) (rm : rng m) (e : Int32.ofInt y = Int32.ofInt (m + 0)) : y = m := by
  have z := wz_of ry e
  rw [Int.add_zero, wz_id rm] at z
  exact z
/-- the weights of a number -/
def dgW (c : Int) (k : Nat) : Int := if k = 0 then c / 125 else if k = 1 then c / 25 % 5 else if k = 2 then c / 5 % 5 else c % 5
theorem lt4 {k : Nat} (h : k < 4) : k = 0 ∨ k = 1 ∨ k = 2 ∨ k = 3 := by omega
theorem dg_all : ∀ c : Fin 625, ((c.val : Nat) : Int) = 125 * dgW (c.val : Nat) 0 + 25 * dgW (c.val : Nat) 1 + 5 * dgW (c.val : Nat) 2 + dgW (c.val : Nat) 3 ∧ (0 ≤ dgW (c.val : Nat) 0 ∧ dgW (c.val : Nat) 0 ≤ 4) ∧ (0 ≤ dgW (c.val : Nat) 1 ∧ dgW (c.val : Nat) 1 ≤ 4) ∧ (0 ≤ dgW (c.val : Nat) 2 ∧ dgW (c.val : Nat) 2 ≤ 4) ∧ (0 ≤ dgW (c.val : Nat) 3 ∧ dgW (c.val : Nat) 3 ≤ 4) := by decide +kernel
theorem dg_sum {c : Int} (h : 0 ≤ c ∧ c ≤ 624) : c = 125 * dgW c 0 + 25 * dgW c 1 + 5 * dgW c 2 + dgW c 3 ∧ (0 ≤ dgW c 0 ∧ dgW c 0 ≤ 4) ∧ (0 ≤ dgW c 1 ∧ dgW c 1 ≤ 4) ∧ (0 ≤ dgW c 2 ∧ dgW c 2 ≤ 4) ∧ (0 ≤ dgW c 3 ∧ dgW c 3 ≤ 4) := by
  have z := dg_all ⟨c.toNat, by omega⟩
  have e : (((⟨c.toNat, by omega⟩ : Fin 625).val : Nat) : Int) = c := by show ((c.toNat : Nat) : Int) = c; omega
  rw [e] at z
  exact z
def bsC (f : Nat → Int) : Nat → Nat
  | 0 => 0
  | n + 1 => if f (n + 1) < f (bsC f n) then n + 1 else bsC f n
theorem bs_y {f : Nat → Int} {n : Nat} (h : f (n + 1) < f (bsC f n)) : bsC f (n + 1) = n + 1 := if_pos h
theorem bs_n {f : Nat → Int} {n : Nat} (h : ¬ f (n + 1) < f (bsC f n)) : bsC f (n + 1) = bsC f n := if_neg h
def fxF (D B : Nat → Int) (H : Nat → Nat → Int) (n c : Nat) : Int := ofI D B H (dgW c) 0 n
def anF (B : Nat → Int) (n : Nat) : Prop := ∃ r, r < n ∧ B r = 0
/-- what fit answers -/
def FTE (D B : Nat → Int) (H : Nat → Nat → Int) (n : Nat) (x e : Int) : Prop := (¬ anF B n ∧ e = -1) ∨ (anF B n ∧ ((0 ≤ x ∧ x ≤ 3 ∧ e = dgW (bsC (fxF D B H n) 624) x.toNat) ∨ (x = 4 ∧ e = fxF D B H n (bsC (fxF D B H n) 624)) ∨ (x = 5 ∧ e = ofI D B H (dgW (bsC (fxF D B H n) 624)) 1 n)))
theorem fte_eq {D D' B B' : Nat → Int} {H H' : Nat → Nat → Int} {n : Nat} {x e e' : Int} (h : ∀ r, r < n → D' r = D r ∧ B' r = B r ∧ ∀ k, k < 4 → H' r k = H r k) (a : FTE D B H n x e) (b : FTE D' B' H' n x e') : e = e' := by
  have hx : fxF D' B' H' n = fxF D B H n := funext (fun c => of_c (fun _ _ => rfl) h)
  have ha : anF B' n ↔ anF B n := ⟨fun ⟨r, h1, h2⟩ => ⟨r, h1, (h r h1).2.1.symm.trans h2⟩, fun ⟨r, h1, h2⟩ => ⟨r, h1, (h r h1).2.1.trans h2⟩⟩
  have ho : ofI D' B' H' (dgW (bsC (fxF D B H n) 624)) 1 n = ofI D B H (dgW (bsC (fxF D B H n) 624)) 1 n := of_c (fun _ _ => rfl) h
  unfold FTE at a b
  rw [hx, ho] at b
  rcases a with ⟨a1, a2⟩ | ⟨a1, a2⟩
  · rcases b with ⟨b1, b2⟩ | ⟨b1, b2⟩
    · exact a2.trans b2.symm
    · exact absurd (ha.mp b1) a1
  · rcases b with ⟨b1, b2⟩ | ⟨b1, b2⟩
    · exact absurd (ha.mpr a1) b1
    · rcases a2 with ⟨p1, p2, p3⟩ | ⟨p1, p3⟩ | ⟨p1, p3⟩
      · rcases b2 with ⟨q1, q2, q3⟩ | ⟨q1, q3⟩ | ⟨q1, q3⟩
        · exact p3.trans q3.symm
        · exact absurd q1 (by omega)
        · exact absurd q1 (by omega)
      · rcases b2 with ⟨q1, q2, q3⟩ | ⟨q1, q3⟩ | ⟨q1, q3⟩
        · exact absurd p1 (by omega)
        · exact p3.trans q3.symm
        · exact absurd q1 (by omega)
      · rcases b2 with ⟨q1, q2, q3⟩ | ⟨q1, q3⟩ | ⟨q1, q3⟩
        · exact absurd p1 (by omega)
        · exact absurd q1 (by omega)
        · exact p3.trans q3.symm
/-! the rows of both -/
def cD (s : PS) (r : Nat) : Int := iC s 153 r
def cBk (s : PS) (r : Nat) : Int := iC s 154 r
def cHd (s : PS) (r k : Nat) : Int := iC s 152 (r * 4 + k)
def mD (s : PS) (r : Nat) : Int := iC s 457 r
def mBk (s : PS) (r : Nat) : Int := iC s 459 r
def mHd (s : PS) (r k : Nat) : Int := iC s (417 + r) k
def SRW (n : Nat) (D B : Nat → Int) (H : Nat → Nat → Int) (D' B' : Nat → Int) (H' : Nat → Nat → Int) : Prop := ∀ r, r < n → D' r = D r ∧ B' r = B r ∧ ∀ k, k < 4 → H' r k = H r k
/-- the same rows, class's and model's -/
def RWJ (s : PS) : Prop := iI s 70 ≤ 40 ∧ SRW (iI s 70).toNat (cD s) (cBk s) (cHd s) (mD s) (mBk s) (mHd s)
theorem srw_c {n : Nat} {s t : PS} (a : SAM 153 s t) (b : SAM 154 s t) (c : SAM 152 s t) : SRW n (cD s) (cBk s) (cHd s) (cD t) (cBk t) (cHd t) := fun r _ => ⟨a r, b r, fun k _ => c _⟩
theorem srw_m {n : Nat} {s t : PS} (a : SAM 457 s t) (b : SAM 459 s t) (c : ∀ r k : Nat, r < 40 → iC t (417 + r) k = iC s (417 + r) k) (hn : n ≤ 40) : SRW n (mD s) (mBk s) (mHd s) (mD t) (mBk t) (mHd t) := fun r hr => ⟨a r, b r, fun k _ => c r k (by omega)⟩
theorem rwj_s {s t : PS} (h : RWJ s) (e : iI t 70 = iI s 70) (c : SRW (iI s 70).toNat (cD s) (cBk s) (cHd s) (cD t) (cBk t) (cHd t)) (m : SRW (iI s 70).toNat (mD s) (mBk s) (mHd s) (mD t) (mBk t) (mHd t)) : RWJ t := by
  refine ⟨by rw [e]; exact h.1, ?_⟩
  rw [e]
  intro r hr
  obtain ⟨h1, h2, h3⟩ := h.2 r hr
  obtain ⟨c1, c2, c3⟩ := c r hr
  obtain ⟨m1, m2, m3⟩ := m r hr
  exact ⟨m1.trans (h1.trans c1.symm), m2.trans (h2.trans c2.symm), fun k hk => (m3 k hk).trans ((h3 k hk).trans (c3 k hk).symm)⟩
theorem hr_fm {L M : List Nat} {s t : PS} (F : Fm L M s t) (h : ∀ i, i < 40 → 417 + i ∉ M) : ∀ r k : Nat, r < 40 → iC t (417 + r) k = iC s (417 + r) k := fun r k hr => fm_c F (h r hr)
theorem RWJ_fm {L M : List Nat} {s t : PS} (F : Fm L M s t) (h : 70 ∉ L ∧ 153 ∉ M ∧ 154 ∉ M ∧ 152 ∉ M ∧ 457 ∉ M ∧ 459 ∉ M ∧ ∀ i, i < 40 → 417 + i ∉ M) (r : RWJ s) : RWJ t := rwj_s r (fm_i F h.1) (srw_c (sam_fm F h.2.1) (sam_fm F h.2.2.1) (sam_fm F h.2.2.2.1)) (srw_m (sam_fm F h.2.2.2.2.1) (sam_fm F h.2.2.2.2.2.1) (hr_fm F h.2.2.2.2.2.2) (by have := r.1; omega))
def CRS (s t : PS) : Prop := SAM 153 s t ∧ SAM 154 s t ∧ SAM 152 s t
theorem crs_rf {s : PS} : CRS s s := ⟨sam_rf, sam_rf, sam_rf⟩
theorem crs_ts {s t u : PS} (h : CRS s t) (g : CRS t u) : CRS s u := ⟨sam_ts h.1 g.1, sam_ts h.2.1 g.2.1, sam_ts h.2.2 g.2.2⟩
theorem crs_fm {L M : List Nat} {s t : PS} (F : Fm L M s t) (h : 153 ∉ M ∧ 154 ∉ M ∧ 152 ∉ M) : CRS s t := ⟨sam_fm F h.1, sam_fm F h.2.1, sam_fm F h.2.2⟩
theorem crs_s {n : Nat} {s t : PS} (h : CRS s t) : SRW n (cD s) (cBk s) (cHd s) (cD t) (cBk t) (cHd t) := srw_c h.1 h.2.1 h.2.2
def MRS (s t : PS) : Prop := SAM 457 s t ∧ SAM 459 s t ∧ ∀ r k : Nat, r < 40 → iC t (417 + r) k = iC s (417 + r) k
theorem mrs_rf {s : PS} : MRS s s := ⟨sam_rf, sam_rf, fun _ _ _ => rfl⟩
theorem mrs_ts {s t u : PS} (h : MRS s t) (g : MRS t u) : MRS s u := ⟨sam_ts h.1 g.1, sam_ts h.2.1 g.2.1, fun r k hr => (g.2.2 r k hr).trans (h.2.2 r k hr)⟩
theorem mrs_fm {L M : List Nat} {s t : PS} (F : Fm L M s t) (h : 457 ∉ M ∧ 459 ∉ M ∧ ∀ i, i < 40 → 417 + i ∉ M) : MRS s t := ⟨sam_fm F h.1, sam_fm F h.2.1, fun r k hr => fm_c F (h.2.2 r hr)⟩
theorem mrs_s {s t : PS} (h : MRS s t) : SRW 40 (mD s) (mBk s) (mHd s) (mD t) (mBk t) (mHd t) := srw_m h.1 h.2.1 h.2.2 (Nat.le_refl _)
/-! trials, one behind another -/
def TRQ (c : Int) (s : PS) : Prop := (0 ≤ c ∧ c ≤ 624) ∧ ∀ k, k < 4 → iC s 156 k = dgW c k
theorem trq_s {c : Int} {s t : PS} (h : TRQ c s) (g : SAM 156 s t) : TRQ c t := ⟨h.1, fun k hk => (g k).trans (h.2 k hk)⟩
def c1q (w k a b : Int) : Prop := (k ≤ w ∧ a = b) ∨ (w < k ∧ a = 0 ∧ b = 4)
def NXQ (w : Int) (s t : PS) : Prop := c1q w 0 (iC t 156 0) (iC s 156 0) ∧ c1q w 1 (iC t 156 1) (iC s 156 1) ∧ c1q w 2 (iC t 156 2) (iC s 156 2) ∧ c1q w 3 (iC t 156 3) (iC s 156 3)
theorem nxq_0 {s : PS} : NXQ 3 s s := ⟨Or.inl ⟨by omega, rfl⟩, Or.inl ⟨by omega, rfl⟩, Or.inl ⟨by omega, rfl⟩, Or.inl ⟨by omega, rfl⟩⟩
theorem nxq_up {c w : Int} {s t u : PS} (q : TRQ c s) (h : NXQ w s t) (w0 : 0 ≤ w ∧ w ≤ 3) (hv : 4 ≤ iC t 156 w.toNat) (g : UPD 156 w 0 t u) : NXQ (w + -1) s u := by
  have z := dg_sum q.1
  have a0 := q.2 0 (by omega)
  have a1 := q.2 1 (by omega)
  have a2 := q.2 2 (by omega)
  have a3 := q.2 3 (by omega)
  unfold NXQ c1q at h ⊢
  rcases (show w = 0 ∨ w = 1 ∨ w = 2 ∨ w = 3 by omega) with e | e | e | e
  · subst e
    have g0 : iC u 156 0 = 0 := g.1
    have g1 := g.2 1 (by decide)
    have g2 := g.2 2 (by decide)
    have g3 := g.2 3 (by decide)
    replace hv : 4 ≤ iC t 156 0 := hv
    exact ⟨by omega, by omega, by omega, by omega⟩
  · subst e
    have g0 := g.2 0 (by decide)
    have g1 : iC u 156 1 = 0 := g.1
    have g2 := g.2 2 (by decide)
    have g3 := g.2 3 (by decide)
    replace hv : 4 ≤ iC t 156 1 := hv
    exact ⟨by omega, by omega, by omega, by omega⟩
  · subst e
    have g0 := g.2 0 (by decide)
    have g1 := g.2 1 (by decide)
    have g2 : iC u 156 2 = 0 := g.1
    have g3 := g.2 3 (by decide)
    replace hv : 4 ≤ iC t 156 2 := hv
    exact ⟨by omega, by omega, by omega, by omega⟩
  · subst e
    have g0 := g.2 0 (by decide)
    have g1 := g.2 1 (by decide)
    have g2 := g.2 2 (by decide)
    have g3 : iC u 156 3 = 0 := g.1
    replace hv : 4 ≤ iC t 156 3 := hv
    exact ⟨by omega, by omega, by omega, by omega⟩
theorem trq_of {c : Int} {u : PS} (h : 0 ≤ c ∧ c ≤ 624) (a0 : iC u 156 0 = dgW c 0) (a1 : iC u 156 1 = dgW c 1) (a2 : iC u 156 2 = dgW c 2) (a3 : iC u 156 3 = dgW c 3) : TRQ c u := ⟨h, fun k hk => by
  rcases lt4 hk with q | q | q | q <;> rw [q]
  · exact a0
  · exact a1
  · exact a2
  · exact a3⟩
theorem nxq_e {c w v : Int} {s t u : PS} (q : TRQ c s) (h : NXQ w s t) (w0 : 0 ≤ w ∧ w ≤ 3) (hv : iC t 156 w.toNat < 4) (g : UPD 156 w v t u) (hw : v = iC t 156 w.toNat + 1) : c < 624 ∧ TRQ (c + 1) u := by
  obtain ⟨q1, q2⟩ := q
  have z := dg_sum q1
  have a0 := q2 0 (by omega)
  have a1 := q2 1 (by omega)
  have a2 := q2 2 (by omega)
  have a3 := q2 3 (by omega)
  unfold NXQ c1q at h
  rcases (show w = 0 ∨ w = 1 ∨ w = 2 ∨ w = 3 by omega) with e | e | e | e
  · subst e
    have g0 : iC u 156 0 = v := g.1
    have g1 := g.2 1 (by decide)
    have g2 := g.2 2 (by decide)
    have g3 := g.2 3 (by decide)
    replace hv : iC t 156 0 < 4 := hv
    replace hw : v = iC t 156 0 + 1 := hw
    have hc : c < 624 := by omega
    have y := dg_sum (c := c + 1) ⟨by omega, by omega⟩
    exact ⟨hc, trq_of ⟨by omega, by omega⟩ (by omega) (by omega) (by omega) (by omega)⟩
  · subst e
    have g0 := g.2 0 (by decide)
    have g1 : iC u 156 1 = v := g.1
    have g2 := g.2 2 (by decide)
    have g3 := g.2 3 (by decide)
    replace hv : iC t 156 1 < 4 := hv
    replace hw : v = iC t 156 1 + 1 := hw
    have hc : c < 624 := by omega
    have y := dg_sum (c := c + 1) ⟨by omega, by omega⟩
    exact ⟨hc, trq_of ⟨by omega, by omega⟩ (by omega) (by omega) (by omega) (by omega)⟩
  · subst e
    have g0 := g.2 0 (by decide)
    have g1 := g.2 1 (by decide)
    have g2 : iC u 156 2 = v := g.1
    have g3 := g.2 3 (by decide)
    replace hv : iC t 156 2 < 4 := hv
    replace hw : v = iC t 156 2 + 1 := hw
    have hc : c < 624 := by omega
    have y := dg_sum (c := c + 1) ⟨by omega, by omega⟩
    exact ⟨hc, trq_of ⟨by omega, by omega⟩ (by omega) (by omega) (by omega) (by omega)⟩
  · subst e
    have g0 := g.2 0 (by decide)
    have g1 := g.2 1 (by decide)
    have g2 := g.2 2 (by decide)
    have g3 : iC u 156 3 = v := g.1
    replace hv : iC t 156 3 < 4 := hv
    replace hw : v = iC t 156 3 + 1 := hw
    have hc : c < 624 := by omega
    have y := dg_sum (c := c + 1) ⟨by omega, by omega⟩
    exact ⟨hc, trq_of ⟨by omega, by omega⟩ (by omega) (by omega) (by omega) (by omega)⟩
theorem nxq_n {c w : Int} {s t : PS} (q : TRQ c s) (h : NXQ w s t) (w0 : w < 0) : c = 624 := by
  have z := dg_sum q.1
  have a0 := q.2 0 (by omega)
  have a1 := q.2 1 (by omega)
  have a2 := q.2 2 (by omega)
  have a3 := q.2 3 (by omega)
  unfold NXQ c1q at h
  omega
/-- the best of the trials up to m: its weights, and how far off -/
def BSQ (f : Nat → Int) (m : Nat) (s : PS) : Prop := iI s 72 = f (bsC f m) ∧ ∀ k, k < 4 → iC s 155 k = dgW (bsC f m) k
theorem bsq_s {f : Nat → Int} {m : Nat} {s t : PS} (h : BSQ f m s) (e : iI t 72 = iI s 72) (g : SAM 155 s t) : BSQ f m t := ⟨e.trans h.1, fun k hk => (g k).trans (h.2 k hk)⟩
theorem fw_0 {H W : Nat → Int} {d : Int} (rd : rng d) : ∀ n : Nat, (∀ k, k < n → W k = 0) → fwI H W d n = d
  | 0, _ => rfl
  | n + 1, h => by
    show wz (fwI H W d n - wz (W n * H n)) = d
    rw [fw_0 rd n (fun k hk => h k (by omega)), h n (by omega), Int.zero_mul, wz_id (x := 0) (by unfold rng; omega), Int.sub_zero, wz_id rd]
theorem of_0 {D B : Nat → Int} {H : Nat → Nat → Int} : ∀ n : Nat, n ≤ 40 → (∀ r, r < n → 0 ≤ D r ∧ D r ≤ 9999) → 0 ≤ ofI D B H (dgW 0) 0 n ∧ ofI D B H (dgW 0) 0 n ≤ 9999 * (n : Int)
  | 0, _, _ => ⟨Int.le_refl _, by show (0 : Int) ≤ _; omega⟩
  | n + 1, hn, h => by
    obtain ⟨i1, i2⟩ := of_0 (D := D) (B := B) (H := H) n (by omega) (fun r hr => h r (by omega))
    have hd := h n (by omega)
    have e : ofI D B H (dgW 0) 0 (n + 1) = if B n = 0 then wz (ofI D B H (dgW 0) 0 n + amI (fwI (H n) (dgW 0) (D n) 4)) else ofI D B H (dgW 0) 0 n := rfl
    have w : fwI (H n) (dgW 0) (D n) 4 = D n := fw_0 (by unfold rng; omega) 4 (fun k hk => by rcases lt4 hk with q | q | q | q <;> rw [q] <;> rfl)
    have a : amI (D n) = D n := if_neg (by omega)
    rw [e, w, a]
    by_cases c : B n = 0
    · rw [if_pos c, wz_id (by unfold rng; omega)]; omega
    · rw [if_neg c]; omega
/-- the weights that are kept fit the rows that there are -/
def FTK (s : PS) : Prop := (0 ≤ iI s 71 ∧ iI s 71 ≤ iI s 70 ∧ iI s 70 ≤ 40) ∧ (∀ r, r < (iI s 70).toNat → 0 ≤ cD s r ∧ cD s r ≤ 9999) ∧ (iI s 71 = iI s 70 → anF (cBk s) (iI s 70).toNat → BSQ (fxF (cD s) (cBk s) (cHd s) (iI s 70).toNat) 624 s)
theorem fx_s {n : Nat} {s t : PS} (h : SRW n (cD s) (cBk s) (cHd s) (cD t) (cBk t) (cHd t)) : fxF (cD t) (cBk t) (cHd t) n = fxF (cD s) (cBk s) (cHd s) n := funext (fun c => of_c (fun _ _ => rfl) h)
theorem an_s {n : Nat} {s t : PS} (h : SRW n (cD s) (cBk s) (cHd s) (cD t) (cBk t) (cHd t)) : anF (cBk t) n ↔ anF (cBk s) n := ⟨fun ⟨r, h1, h2⟩ => ⟨r, h1, (h r h1).2.1.symm.trans h2⟩, fun ⟨r, h1, h2⟩ => ⟨r, h1, (h r h1).2.1.trans h2⟩⟩
theorem ftk_s {s t : PS} (k : FTK s) (e1 : iI t 71 = iI s 71) (e2 : iI t 70 = iI s 70) (e3 : iI t 72 = iI s 72) (h : SRW (iI s 70).toNat (cD s) (cBk s) (cHd s) (cD t) (cBk t) (cHd t)) (g : SAM 155 s t) : FTK t := by
  unfold FTK
  rw [e1, e2, fx_s h]
  refine ⟨k.1, fun r hr => ?_, fun q a => bsq_s (k.2.2 q ((an_s h).mp a)) e3 g⟩
  rw [(h r hr).1]
  exact k.2.1 r hr
theorem FTK_fm {L M : List Nat} {s t : PS} (F : Fm L M s t) (h : 71 ∉ L ∧ 70 ∉ L ∧ 72 ∉ L ∧ 153 ∉ M ∧ 154 ∉ M ∧ 152 ∉ M ∧ 155 ∉ M) (r : FTK s) : FTK t := ftk_s r (fm_i F h.1) (fm_i F h.2.1) (fm_i F h.2.2.1) (srw_c (sam_fm F h.2.2.2.1) (sam_fm F h.2.2.2.2.1) (sam_fm F h.2.2.2.2.2.1)) (sam_fm F h.2.2.2.2.2.2)
/-- found anew -/
theorem ftk_n {s t : PS} (k : FTK s) (e1 : iI t 71 = iI s 70) (e2 : iI t 70 = iI s 70) (h : SRW (iI s 70).toNat (cD s) (cBk s) (cHd s) (cD t) (cBk t) (cHd t)) (b : BSQ (fxF (cD s) (cBk s) (cHd s) (iI s 70).toNat) 624 t) : FTK t := by
  have k1 := k.1
  unfold FTK
  rw [e1, e2, fx_s h]
  refine ⟨by omega, fun r hr => ?_, fun _ _ => b⟩
  rw [(h r hr).1]
  exact k.2.1 r hr
/-- the search: the trial c is next -/
def SLQ (f : Nat → Int) (c m : Int) (t : PS) : Prop := ((c ≤ 624 ∧ m = 1 ∧ TRQ c t) ∨ c = 625) ∧ ((c = 0 ∧ iI t 72 = 2147483647) ∨ (1 ≤ c ∧ BSQ f (c - 1).toNat t))
theorem slq_x {f : Nat → Int} {c m : Int} {t : PS} (h : SLQ f c m t) (q : 625 ≤ c ∨ m = 0) : BSQ f 624 t := by
  have e : c = 625 := by
    rcases h.1 with z | z
    · omega
    · exact z
  rcases h.2 with z | z
  · exact absurd z.1 (by omega)
  · have w := z.2
    rw [show (c - 1).toNat = 624 by omega] at w
    exact w
/-- the trial is better -/
theorem bsq_y {f : Nat → Int} {c v : Int} {t u : PS} (c0 : 0 ≤ c ∧ c ≤ 624) (h : (c = 0 ∧ iI t 72 = 2147483647) ∨ (1 ≤ c ∧ BSQ f (c - 1).toNat t)) (hv : v = f c.toNat) (hl : v < iI t 72) (ho : iI u 72 = v) (q : TRQ c t) (hw : ∀ k, k < 4 → iC u 155 k = iC t 156 k) : BSQ f c.toNat u := by
  have e : bsC f c.toNat = c.toNat := by
    rcases h with z | z
    · rw [z.1]; rfl
    · have w := z.2.1
      rw [show c.toNat = (c - 1).toNat + 1 by omega]
      refine bs_y ?_
      rw [← show c.toNat = (c - 1).toNat + 1 by omega, ← w, ← hv]
      exact hl
  refine ⟨by rw [e, ← hv]; exact ho, fun k hk => ?_⟩
  rw [e, hw k hk, q.2 k hk, show ((c.toNat : Nat) : Int) = c by omega]
/-- it is not -/
theorem bsq_n {f : Nat → Int} {c v : Int} {t u : PS} (c0 : 0 ≤ c ∧ c ≤ 624) (h : (c = 0 ∧ iI t 72 = 2147483647) ∨ (1 ≤ c ∧ BSQ f (c - 1).toNat t)) (hf : f 0 < 2147483647) (hv : v = f c.toNat) (hl : ¬ v < iI t 72) (ho : iI u 72 = iI t 72) (g : SAM 155 t u) : BSQ f c.toNat u := by
  rcases h with z | z
  · rw [z.1] at hv
    exact absurd (show v = f 0 from hv) (by omega)
  · have e : bsC f c.toNat = bsC f (c - 1).toNat := by
      rw [show c.toNat = (c - 1).toNat + 1 by omega]
      refine bs_n ?_
      rw [← show c.toNat = (c - 1).toNat + 1 by omega, ← z.2.1, ← hv]
      exact hl
    have b := bsq_s z.2 ho g
    unfold BSQ at b ⊢
    rw [e]
    exact b
theorem slq_up {f : Nat → Int} {c m : Int} {t u : PS} (c0 : 0 ≤ c ∧ c ≤ 624) (b : BSQ f c.toNat t) (n : (c < 624 ∧ m = 1 ∧ TRQ (c + 1) u) ∨ (c = 624 ∧ m = 0)) (ho : iI u 72 = iI t 72) (g : SAM 155 t u) : SLQ f (c + 1) m u := by
  refine ⟨?_, Or.inr ⟨by omega, by rw [show (c + 1 - 1).toNat = c.toNat by omega]; exact bsq_s b ho g⟩⟩
  rcases n with z | z
  · exact Or.inl ⟨by omega, z.2.1, z.2.2⟩
  · exact Or.inr (by omega)
theorem slq_0 {f : Nat → Int} {t : PS} (h : ∀ k, k < 4 → iC t 156 k = 0) (e : iI t 72 = 2147483647) : SLQ f 0 1 t := ⟨Or.inl ⟨by omega, rfl, trq_of ⟨by omega, by omega⟩ (h 0 (by omega)) (h 1 (by omega)) (h 2 (by omega)) (h 3 (by omega))⟩, Or.inl ⟨rfl, e⟩⟩
/-! a row more -/
def RWA (N : Nat → Int32) (n : Nat) (p w : Int) (D B : Nat → Int) (H : Nat → Nat → Int) (D' B' : Nat → Int) (H' : Nat → Nat → Int) : Prop := SRW n D B H D' B' H' ∧ D' n = p ∧ B' n = w ∧ ∀ k, k < 4 → rng (H' n k) ∧ Int32.ofInt (H' n k) = N k
theorem rwj_up {N N' : Nat → Int32} {p w : Int} {s t : PS} (hN : N' = N) (h : RWJ s) (h0 : 0 ≤ iI s 70 ∧ iI s 70 ≤ 39) (e : iI t 70 = iI s 70 + 1) (a : RWA N (iI s 70).toNat p w (cD s) (cBk s) (cHd s) (cD t) (cBk t) (cHd t)) (b : RWA N' (iI s 70).toNat p w (mD s) (mBk s) (mHd s) (mD t) (mBk t) (mHd t)) : RWJ t := by
  refine ⟨by omega, fun r hr => ?_⟩
  by_cases c : r < (iI s 70).toNat
  · obtain ⟨h1, h2, h3⟩ := h.2 r c
    obtain ⟨a1, a2, a3⟩ := a.1 r c
    obtain ⟨b1, b2, b3⟩ := b.1 r c
    exact ⟨b1.trans (h1.trans a1.symm), b2.trans (h2.trans a2.symm), fun k hk => (b3 k hk).trans ((h3 k hk).trans (a3 k hk).symm)⟩
  · have q : r = (iI s 70).toNat := by omega
    rw [q]
    refine ⟨b.2.1.trans a.2.1.symm, b.2.2.1.trans a.2.2.1.symm, fun k hk => ?_⟩
    have z1 := a.2.2.2 k hk
    have z2 := b.2.2.2 k hk
    rw [hN] at z2
    have z := congrArg Int32.toInt (z2.2.trans z1.2.symm)
    rw [zi z2.1, zi z1.1] at z
    exact z
theorem ftk_up {N : Nat → Int32} {p w : Int} {s t : PS} (k : FTK s) (hp : 0 ≤ p ∧ p ≤ 9999) (h0 : iI s 70 ≤ 39) (e : iI t 70 = iI s 70 + 1) (e1 : iI t 71 = iI s 71) (a : RWA N (iI s 70).toNat p w (cD s) (cBk s) (cHd s) (cD t) (cBk t) (cHd t)) : FTK t := by
  have k1 := k.1
  refine ⟨by omega, fun r hr => ?_, fun q => absurd q (by omega)⟩
  by_cases c : r < (iI s 70).toNat
  · rw [(a.1 r c).1]
    exact k.2.1 r c
  · rw [show r = (iI s 70).toNat by omega, a.2.1]
    exact hp
/-- the class's: a row told, and what was heard copied -/
theorem rwa_c {N : Nat → Int32} {n p w : Int} {s u t : PS} (n0 : 0 ≤ n ∧ n ≤ 39) (c : CPY 33 152 160 0 (n * 4) 4 s u) (a1 : SAM 153 s u) (a2 : SAM 154 s u) (b1 : UPD 153 n p u t) (b2 : UPD 154 n w u t) (b3 : SAM 152 u t) (I : Bd t) (hN : ∀ j, j < 7 → Int32.ofInt (iC s 33 j) = N j) : RWA N n.toNat p w (cD s) (cBk s) (cHd s) (cD t) (cBk t) (cHd t) := by
  refine ⟨fun r hr => ⟨(b1.2 r (by omega)).trans (a1 r), (b2.2 r (by omega)).trans (a2 r), fun k hk => ?_⟩, b1.1, b2.1, fun k hk => ⟨I.2 152 _ (show n.toNat * 4 + k < 160 by omega), ?_⟩⟩
  · show iC t 152 (r * 4 + k) = iC s 152 (r * 4 + k)
    rw [b3, c _ (by omega), if_neg (by omega)]
  · show Int32.ofInt (iC t 152 (n.toNat * 4 + k)) = N k
    rw [b3, c _ (by omega), if_pos (by omega), show (0 : Int).toNat + (n.toNat * 4 + k - (n * 4).toNat) = k by omega]
    exact hN k (by omega)
/-- the model's: names copied into the row -/
def HCQ (N : Nat → Int32) (m n : Int) (s t : PS) : Prop := ∀ r k : Nat, r < 40 → ((r = m.toNat ∧ (k : Int) < n) → rng (iC t (417 + r) k) ∧ Int32.ofInt (iC t (417 + r) k) = N k) ∧ (¬ (r = m.toNat ∧ (k : Int) < n) → iC t (417 + r) k = iC s (417 + r) k)
theorem hcq_0 {N : Nat → Int32} {m : Int} {s t : PS} (h : ∀ r k : Nat, r < 40 → iC t (417 + r) k = iC s (417 + r) k) : HCQ N m 0 s t := fun r k hr => ⟨fun q => absurd q.2 (by omega), fun _ => h r k hr⟩
theorem hcq_up {N : Nat → Int32} {m n v : Int} {s t u : PS} (h : HCQ N m n s t) (n0 : 0 ≤ n) (m0 : 0 ≤ m ∧ m ≤ 39) (hu : u = uC t (417 + m.toNat) n.toNat (Int32.ofInt v)) (rv : rng v) (hv : Int32.ofInt v = N n.toNat) : HCQ N m (n + 1) s u := by
  subst hu
  intro r k hr
  by_cases e : r = m.toNat
  · subst e
    by_cases z : k = n.toNat
    · subst z
      exact ⟨fun _ => by rw [iC_u rv]; exact ⟨rv, hv⟩, fun q => absurd (show m.toNat = m.toNat ∧ ((n.toNat : Nat) : Int) < n + 1 from ⟨rfl, by omega⟩) q⟩
    · rw [iC_n z]
      exact ⟨fun q => (h _ k hr).1 ⟨rfl, by have := q.2; omega⟩, fun q => (h _ k hr).2 (fun w => q ⟨rfl, by have := w.2; omega⟩)⟩
  · rw [iC_a (by omega)]
    exact ⟨fun q => absurd q.1 e, fun q => (h r k hr).2 (fun w => e w.1)⟩
theorem rwa_m {N : Nat → Int32} {n p w : Int} {s t u : PS} (n0 : 0 ≤ n ∧ n ≤ 39) (c : HCQ N n 4 s t) (a1 : SAM 457 s t) (a2 : SAM 459 s t) (b1 : UPD 457 n p t u) (b2 : UPD 459 n w t u) (b3 : ∀ r k : Nat, r < 40 → iC u (417 + r) k = iC t (417 + r) k) : RWA N n.toNat p w (mD s) (mBk s) (mHd s) (mD u) (mBk u) (mHd u) := by
  refine ⟨fun r hr => ⟨(b1.2 r (by omega)).trans (a1 r), (b2.2 r (by omega)).trans (a2 r), fun k hk => ?_⟩, b1.1, b2.1, fun k hk => ?_⟩
  · show iC u (417 + r) k = iC s (417 + r) k
    rw [b3 r k (by omega), (c r k (by omega)).2 (by omega)]
  · show rng (iC u (417 + n.toNat) k) ∧ Int32.ofInt (iC u (417 + n.toNat) k) = N k
    rw [b3 _ k (by omega)]
    exact (c n.toNat k (by omega)).1 ⟨rfl, by omega⟩
theorem rwa_n {N N' : Nat → Int32} {n : Nat} {p w : Int} {D B D' B' : Nat → Int} {H H' : Nat → Nat → Int} (h : ∀ k, k < 4 → N k = N' k) (a : RWA N n p w D B H D' B' H') : RWA N' n p w D B H D' B' H' := ⟨a.1, a.2.1, a.2.2.1, fun k hk => ⟨(a.2.2.2 k hk).1, (a.2.2.2 k hk).2.trans (h k hk)⟩⟩
theorem srw_t {n : Nat} {D B D' B' D'' B'' : Nat → Int} {H H' H'' : Nat → Nat → Int} (a : SRW n D B H D' B' H') (b : SRW n D' B' H' D'' B'' H'') : SRW n D B H D'' B'' H'' := fun r hr => ⟨(b r hr).1.trans (a r hr).1, (b r hr).2.1.trans (a r hr).2.1, fun k hk => ((b r hr).2.2 k hk).trans ((a r hr).2.2 k hk)⟩
theorem srw_le {n m : Nat} {D B D' B' : Nat → Int} {H H' : Nat → Nat → Int} (a : SRW n D B H D' B' H') (h : m ≤ n) : SRW m D B H D' B' H' := fun r hr => a r (by omega)
theorem rwa_t {N : Nat → Int32} {n : Nat} {p w : Int} {D B D' B' D'' B'' : Nat → Int} {H H' H'' : Nat → Nat → Int} (a : SRW n D B H D' B' H') (b : RWA N n p w D' B' H' D'' B'' H'') : RWA N n p w D B H D'' B'' H'' := ⟨srw_t a b.1, b.2⟩
theorem rwa_w {N : Nat → Int32} {n : Nat} {p w w' : Int} {D B D' B' : Nat → Int} {H H' : Nat → Nat → Int} (b : RWA N n p w D B H D' B' H') (hw : w = w') : RWA N n p w' D B H D' B' H' := hw ▸ b
theorem rwa_u {N : Nat → Int32} {n : Nat} {p w : Int} {D B D' B' D'' B'' : Nat → Int} {H H' H'' : Nat → Nat → Int} (a : RWA N n p w D B H D' B' H') (b : SRW (n + 1) D' B' H' D'' B'' H'') : RWA N n p w D B H D'' B'' H'' := by
  obtain ⟨b1, b2, b3⟩ := b n (by omega)
  exact ⟨srw_t a.1 (srw_le b (by omega)), b1.trans a.2.1, b2.trans a.2.2.1, fun k hk => by rw [b3 k hk]; exact a.2.2.2 k hk⟩
/-! filling, any row, the class's answer -/
def FLQ (c x : Int) (t : PS) : Prop := ∀ k : Nat, (k : Int) < c → iC t 156 k = x
theorem flq_0 {x : Int} {t : PS} : FLQ 0 x t := fun k hk => absurd hk (by omega)
theorem flq_up {c x v : Int} {t u : PS} (h : FLQ c x t) (c0 : 0 ≤ c) (g : UPD 156 c v t u) (hv : v = x) : FLQ (c + 1) x u := fun k hk => by
  by_cases e : k = c.toNat
  · rw [e, g.1, hv]
  · rw [g.2 k e]; exact h k (by omega)
def NOQ (B : Nat → Int) (c : Int) : Prop := ∀ r : Nat, (r : Int) < c → B r ≠ 0
theorem noq_0 {B : Nat → Int} : NOQ B 0 := fun r hr => absurd hr (by omega)
theorem noq_up {B : Nat → Int} {c v : Int} (h : NOQ B c) (c0 : 0 ≤ c) (hv : v = B c.toNat) (hn : v ≠ 0) : NOQ B (c + 1) := fun r hr => by
  by_cases e : r = c.toNat
  · rw [e, ← hv]; exact hn
  · exact h r (by omega)
theorem noq_e {B : Nat → Int} {c : Int} (h : NOQ B c) : ¬ anF B c.toNat := fun ⟨r, h1, h2⟩ => h r (by omega) h2
theorem an_at {B : Nat → Int} {c n v : Int} (c0 : 0 ≤ c ∧ c < n) (hv : v = B c.toNat) (h0 : v = 0) : anF B n.toNat := ⟨c.toNat, by omega, hv.symm.trans h0⟩
theorem an_le {B : Nat → Int} {c n : Int} (h : anF B c.toNat) (c0 : c ≤ n) : anF B n.toNat := by
  obtain ⟨r, h1, h2⟩ := h
  exact ⟨r, by omega, h2⟩
theorem fw_z {H W : Nat → Int} {d : Int} : d = fwI H W d (0 : Int).toNat := rfl
theorem cp_w {s u : PS} (c : CPY 156 155 4 0 0 4 s u) : ∀ k, k < 4 → iC u 155 k = iC s 156 k := fun k hk => by
  rw [c k hk, if_pos (by omega), show (0 : Int).toNat + (k - (0 : Int).toNat) = k by omega]
theorem sl_f {c v : Int} {n : Nat} {s t : PS} (q : TRQ c t) (h : SRW n (cD s) (cBk s) (cHd s) (cD t) (cBk t) (cHd t)) (hv : v = ofI (cD t) (cBk t) (cHd t) (fun k => iC t 156 k) 0 n) : v = fxF (cD s) (cBk s) (cHd s) n c.toNat := by
  rw [hv]
  exact of_c (fun k hk => (q.2 k hk).trans (by rw [show ((c.toNat : Nat) : Int) = c by have := q.1; omega])) h
theorem ft_0 {s : PS} (k : FTK s) : fxF (cD s) (cBk s) (cHd s) (iI s 70).toNat 0 < 2147483647 := by
  have k1 := k.1
  have z := of_0 (B := cBk s) (H := cHd s) (iI s 70).toNat (by omega) k.2.1
  exact Int.lt_of_le_of_lt z.2 (by omega)
theorem fte_4 {n : Nat} {x e : Int} {s t : PS} (a : anF (cBk s) n) (b : BSQ (fxF (cD s) (cBk s) (cHd s) n) 624 t) (hx : x = 4) (he : e = iI t 72) : FTE (cD s) (cBk s) (cHd s) n x e := Or.inr ⟨a, Or.inr (Or.inl ⟨hx, he.trans b.1⟩)⟩
theorem fte_5 {n : Nat} {x e : Int} {s t : PS} (a : anF (cBk s) n) (b : BSQ (fxF (cD s) (cBk s) (cHd s) n) 624 t) (h : SRW n (cD s) (cBk s) (cHd s) (cD t) (cBk t) (cHd t)) (hx : x = 5) (he : e = ofI (cD t) (cBk t) (cHd t) (fun k => iC t 155 k) 1 n) : FTE (cD s) (cBk s) (cHd s) n x e := Or.inr ⟨a, Or.inr (Or.inr ⟨hx, he.trans (of_c b.2 h)⟩)⟩
theorem fte_w {n : Nat} {x e : Int} {s t : PS} (a : anF (cBk s) n) (b : BSQ (fxF (cD s) (cBk s) (cHd s) n) 624 t) (hx : 0 ≤ x ∧ x ≤ 3) (he : e = iC t 155 x.toNat) : FTE (cD s) (cBk s) (cHd s) n x e := Or.inr ⟨a, Or.inl ⟨hx.1, hx.2, he.trans (b.2 _ (by omega))⟩⟩
theorem fte_s {n : Nat} {x e : Int} {s t : PS} (h : SRW n (cD s) (cBk s) (cHd s) (cD t) (cBk t) (cHd t)) (a : FTE (cD t) (cBk t) (cHd t) n x e) : FTE (cD s) (cBk s) (cHd s) n x e := by
  have ho : ofI (cD t) (cBk t) (cHd t) (dgW (bsC (fxF (cD s) (cBk s) (cHd s) n) 624)) 1 n = ofI (cD s) (cBk s) (cHd s) (dgW (bsC (fxF (cD s) (cBk s) (cHd s) n) 624)) 1 n := of_c (fun _ _ => rfl) h
  unfold FTE at a ⊢
  rw [fx_s h, ho, an_s h] at a
  exact a
/-! the model's -/
theorem sl_m {c b v : Int} {n : Nat} {s t : PS} (h : SRW n (mD s) (mBk s) (mHd s) (mD t) (mBk t) (mHd t)) (c0 : 0 ≤ c) (hv : v = ofI (mD t) (mBk t) (mHd t) (dgW c) b n) : v = ofI (mD s) (mBk s) (mHd s) (dgW (c.toNat : Nat)) b n := by
  rw [hv, show ((c.toNat : Nat) : Int) = c by omega]
  exact of_c (fun _ _ => rfl) h
/-- the best code below c -/
def BTQ (f : Nat → Int) (c b l : Int) : Prop := b = ((bsC f (c - 1).toNat : Nat) : Int) ∧ l = f (bsC f (c - 1).toNat)
theorem btq_0 {f : Nat → Int} {l : Int} (h : l = f 0) : BTQ f 1 0 l := ⟨rfl, h⟩
theorem btq_y {f : Nat → Int} {c b l v : Int} (h : BTQ f c b l) (c0 : 1 ≤ c) (hv : v = f c.toNat) (hl : v < l) : BTQ f (c + 1) c v := by
  have e : bsC f (c + 1 - 1).toNat = c.toNat := by
    rw [show (c + 1 - 1).toNat = (c - 1).toNat + 1 by omega]
    refine (bs_y ?_).trans (by omega)
    rw [← h.2, show (c - 1).toNat + 1 = c.toNat by omega, ← hv]
    exact hl
  exact ⟨by rw [e]; omega, by rw [e]; exact hv⟩
theorem btq_n {f : Nat → Int} {c b l v : Int} (h : BTQ f c b l) (c0 : 1 ≤ c) (hv : v = f c.toNat) (hl : ¬ v < l) : BTQ f (c + 1) b l := by
  have e : bsC f (c + 1 - 1).toNat = bsC f (c - 1).toNat := by
    rw [show (c + 1 - 1).toNat = (c - 1).toNat + 1 by omega]
    refine bs_n ?_
    rw [← h.2, show (c - 1).toNat + 1 = c.toNat by omega, ← hv]
    exact hl
  unfold BTQ
  rw [e]
  exact h
def ANQ (B : Nat → Int) (c a : Int) : Prop := (a = 1 ∧ anF B c.toNat) ∨ (a = 0 ∧ NOQ B c)
theorem anq_y {B : Nat → Int} {c a : Int} (h : ANQ B c a) (ha : a ≠ 0) : ANQ B (c + 1) 1 := by
  rcases h with z | z
  · exact Or.inl ⟨rfl, an_le z.2 (by omega)⟩
  · exact absurd z.1 ha
theorem anq_c {B : Nat → Int} {c v : Int} (c0 : 0 ≤ c) (hv : v = B c.toNat) (h0 : v = 0) : ANQ B (c + 1) 1 := Or.inl ⟨rfl, an_at ⟨c0, by omega⟩ hv h0⟩
theorem anq_n {B : Nat → Int} {c a v : Int} (h : ANQ B c a) (ha : a = 0) (c0 : 0 ≤ c) (hv : v = B c.toNat) (hn : v ≠ 0) : ANQ B (c + 1) 0 := by
  rcases h with z | z
  · exact absurd z.1 (by omega)
  · exact Or.inr ⟨rfl, noq_up z.2 c0 hv hn⟩
theorem fte_m {D B : Nat → Int} {H : Nat → Nat → Int} {n : Nat} {x e b l : Int} (a : anF B n) (h : BTQ (fxF D B H n) 625 b l) (g : (x = 0 ∧ e = b / 125) ∨ (x = 1 ∧ e = b / 25 % 5) ∨ (x = 2 ∧ e = b / 5 % 5) ∨ (x = 3 ∧ e = b % 5) ∨ (x = 4 ∧ e = l)) : FTE D B H n x e := by
  refine Or.inr ⟨a, ?_⟩
  have h1 : b = ((bsC (fxF D B H n) 624 : Nat) : Int) := h.1
  have h2 : l = fxF D B H n (bsC (fxF D B H n) 624) := h.2
  rw [h1] at g
  rcases g with ⟨g1, g2⟩ | ⟨g1, g2⟩ | ⟨g1, g2⟩ | ⟨g1, g2⟩ | ⟨g1, g2⟩
  · subst g1; exact Or.inl ⟨by omega, by omega, g2⟩
  · subst g1; exact Or.inl ⟨by omega, by omega, g2⟩
  · subst g1; exact Or.inl ⟨by omega, by omega, g2⟩
  · subst g1; exact Or.inl ⟨by omega, by omega, g2⟩
  · exact Or.inr (Or.inl ⟨g1, g2.trans h2⟩)
theorem fte_mb {D B : Nat → Int} {H : Nat → Nat → Int} {n : Nat} {x e b l : Int} (a : anF B n) (h : BTQ (fxF D B H n) 625 b l) (hx : x = 5) (g : e = ofI D B H (dgW b) 1 n) : FTE D B H n x e := by
  have h1 : b = ((bsC (fxF D B H n) 624 : Nat) : Int) := h.1
  rw [h1] at g
  exact Or.inr ⟨a, Or.inr (Or.inr ⟨hx, g⟩)⟩
/-! Math.abs, exactly -/
theorem ab_eq {x e : Int} (rx : rng x) (re : rng e) (h : Int32.ofInt e = if 0 ≤ Int32.ofInt x then Int32.ofInt x else 0 - Int32.ofInt x) : e = amI x := by
  have l : (0 : Int32) ≤ Int32.ofInt x ↔ 0 ≤ x := by
    rw [Int32.le_iff_toInt_le, zi rx]
    exact Iff.rfl
  unfold amI
  by_cases c : x < 0
  · rw [if_neg (fun q => absurd (l.mp q) (by omega)), show (0 : Int32) = Int32.ofInt 0 from rfl, ← Int32.ofInt_sub, Int.zero_sub] at h
    rw [if_pos c]
    exact wz_of re h
  · rw [if_pos (l.mpr (by omega))] at h
    rw [if_neg c, wz_of re h, wz_id rx]
section ABE
variable {k : kx_T} {mn pc : Nat} {dT : Nat → ClassId} {lv : List (Nat × Value)} {st : List Value} {ws : va_W} {ce sl a b : Nat} {z : Int}
theorem z_absE (X : AX k mn dT) (hm : (yA mn).cls = RX1) {x : Int} (h : cdA mn pc = some (.invokestatic 64, 3, a, b, z)) (rx : rng x) (hf : 1 ≤ (kR k).frames) (hl : (st.map fun v => v.category).sum + 13 ≤ (kR k).locals) (hc : ce ≤ (kR k).cells) (hs : sl ≤ (kR k).slots) (g : ∀ e : Int, rng e → e = amI x → WS k (pc + 3) lv (.int (Int32.ofInt e) :: st) ws ce sl) : WS k pc lv (.int (Int32.ofInt x) :: st) ws ce sl := by
  intro H locs ls hP hD hS hlv
  exact va_mabs X.1.1 X.1.2.1 (X.1.2.2.1.trans hlv.1.symm) X.1.2.2.2.1 (kx_wd X.1 (Cond.methodLink (kOwn k) 64 Lib.Math.abs.name) (by rw [X.2.1.2.1, hm]; exact chkW_ok (p := (7, 208)) (by decide +kernel))) (kx_wd X.1 _ (chkW_ok (p := (7, 209)) (by decide +kernel))) (kx_wd X.1 _ (chkW_ok (p := (1, 19)) (by decide +kernel))) (kx_wd X.1 _ (chkW_ok (p := (7, 210)) (by decide +kernel))) hf hl hc hs (ax_d X h) (z_anyV (fun e he ee => g e he (ab_eq rx he ee)) H locs ls hP hD hS hlv)
end ABE
section M87kj
variable {l : Launch} {s0 : State} {D : va_G} {tys : List (ClassId × FieldType)} {a0 : Array Value} {A : Nat → Nat} {dT : Nat → ClassId} {s : PS}
set_option maxRecDepth 4000 in
theorem j_fill6 (G : GX l s0 D tys a0 dT) (I : Bd s) {x : Int} (p0 : (-2147483648) ≤ x ∧ x ≤ 2147483647) : CT l s0 D A dT 312 (rmN 312) [.ref (A 178), .int (Int32.ofInt x)] s (fun o t => Bd t ∧ Fm [] [156] s t ∧ o = .inl none ∧ (FLQ 4 x t)) := by
  refine ct_ofX G (by decide) (Nat.le_of_ble_eq_true rfl) (fun k X E ET hRt hXt q => ?_)
  show WS k 0 [(0, .ref (A 178)), (1, .int (Int32.ofInt x))] [] _ 0 0
  have F : Fm [] [156] s s := fm_rf _ _ s
  have L5 : ∀ (n : Nat) (t : PS) (xv c ln : Int), Bd t → Fm [] [156] s t → (FLQ c x t) → ((xv = x ∧ (-2147483648) ≤ xv ∧ xv ≤ 2147483647) ∧ ln = 4 ∧ 0 ≤ c ∧ c ≤ 4) → (4 - c : Int).toNat < n → (∀ (t' : PS) (c' : Int), Bd t' → Fm [] [156] s t' → (FLQ c' x t') → (c' = 4) → WS k 20 [(0, .ref (A 178)), (1, .int (Int32.ofInt xv)), (2, .int (Int32.ofInt c')), (3, .int (Int32.ofInt ln))] [] (Wd A dT t') 0 0) → WS k 5 [(0, .ref (A 178)), (1, .int (Int32.ofInt xv)), (2, .int (Int32.ofInt c)), (3, .int (Int32.ofInt ln))] [] (Wd A dT t) 0 0 := by
    intro n
    induction n with
    | zero =>
      intro t xv c ln I F hq hi hm kx
      exact absurd hm (Nat.not_lt_zero _)
    | succ n ih =>
      intro t xv c ln I F hq hi hm kx
      refine z_load_n X (x := c) rfl (List.Mem.tail _ (List.Mem.tail _ (List.Mem.head _))) (z_load_n X (x := ln) rfl (List.Mem.tail _ (List.Mem.tail _ (List.Mem.tail _ (List.Mem.head _)))) (z_icmp_ge X (t := 20) rfl rfl ⟨by first | exact oq_fa4e5087 hi.2.2.1 | omega, by first | exact oq_4a4414da hi.2.2.2 | omega⟩ ⟨by first | exact oq_92a22ab8 hi.2.1 | omega, by first | exact oq_422db60c hi.2.1 | omega⟩ (fun g1001 => ?_) (fun g1001 => ?_)))
      ·
        refine WS_pq [0, 1, 2, 3] (lv' := [(0, .ref (A 178)), (1, .int (Int32.ofInt xv)), (2, .int (Int32.ofInt c)), (3, .int (Int32.ofInt ln))]) rfl ?_
        exact kx _ c I F hq (by first | exact oq_ae06ec3c hi.2.2.2 g1001 hi.2.1 | omega)
      ·
        refine z_aload_n X (x := A 178) rfl (List.Mem.head _) (z_load_n X (x := c) rfl (List.Mem.tail _ (List.Mem.tail _ (List.Mem.head _))) (z_load_n X (x := xv) rfl (List.Mem.tail _ (List.Mem.head _)) (z_ast X 178 rfl (c518_ok rfl) rfl (by first | exact hi.2.2.1 | omega) (show c < 4 by first | exact oq_8e4b0007 g1001 hi.2.1 | omega) (cbig_ok rfl) (wd_gen (fun s1002 hs1002 => ?_)))))
        have Is1002 : Bd s1002 := eqB hs1002 (bd_C I (show ((-2147483648) : Int) ≤ xv ∧ xv ≤ 2147483647 by first | exact ⟨hi.1.2.1, hi.1.2.2⟩ | omega) ⟨by first | exact hi.1.2.1 | omega, by first | exact hi.1.2.2 | omega⟩)
        have Fs1002 := eqF hs1002 (fm_C F (inl_ok (a := 156) rfl))
        have aws1002_156 : UPD 156 (c) xv t s1002 := by rw [hs1002]; exact upd_put (sam_rf (a := 156) (s := t)) ⟨by first | exact hi.1.2.1 | omega, by first | exact hi.1.2.2 | omega⟩
        refine z_inc X (x := c) (lv' := [(2, .int (Int32.ofInt (c + 1))), (0, .ref (A 178)), (1, .int (Int32.ofInt xv)), (3, .int (Int32.ofInt ln))]) rfl (by decide) (List.Mem.tail _ (List.Mem.tail _ (List.Mem.head _))) (fun _ h => h) (z_goto X (t := 5) rfl rfl (WS_pq [1, 2, 0, 3] (lv' := [(0, .ref (A 178)), (1, .int (Int32.ofInt xv)), (2, .int (Int32.ofInt (c + 1))), (3, .int (Int32.ofInt ln))]) rfl ?_))
        exact ih _ xv (c + 1) ln Is1002 Fs1002 (flq_up hq (by omega) aws1002_156 (by omega)) (by first | exact ⟨And.intro (hi.1.1) (And.intro (hi.1.2.1) (hi.1.2.2)), hi.2.1, oq_54f49eb5 hi.2.2.1, oq_e56bd98a g1001 hi.2.1⟩ | omega) (by first | exact qk_me hm (by decide) (oq_a6efd014 g1001 hi.2.1) | omega) kx
  refine z_const X rfl (z_store_n X (lv' := [(2, .int (Int32.ofInt 0)), (0, .ref (A 178)), (1, .int (Int32.ofInt x))]) rfl (by decide) (fun _ h => h) (z_aload_n X (x := A 178) rfl (List.Mem.tail _ (List.Mem.head _)) (z_alen X 178 rfl (by decide) rfl rfl (z_store_n X (lv' := [(3, .int (Int32.ofInt 4)), (2, .int (Int32.ofInt 0)), (0, .ref (A 178)), (1, .int (Int32.ofInt x))]) rfl (by decide) (fun _ h => h) (WS_pq [2, 3, 1, 0] (lv' := [(0, .ref (A 178)), (1, .int (Int32.ofInt x)), (2, .int (Int32.ofInt 0)), (3, .int (Int32.ofInt 4))]) rfl (L5 ((4 - 0 : Int).toNat + 1) s x 0 4 I F flq_0 (by first | exact ⟨And.intro (by decide) (And.intro (p0.1) (p0.2)), by decide, by decide, by decide⟩ | omega) (Nat.lt_succ_self _) ?_))))))
  intro s1 x2 Is1 Fs1 Qs1 hs1
  exact w_vret X.1 q hRt (ax_d X (show cdA 312 20 = some (.return_, 1, 0, 0, 0) from rfl)) (Nat.zero_le _) (Nat.zero_le _) ⟨_, rfl, Is1, Fs1, rfl, (by have z := Qs1; rw [show x2 = 4 by omega] at z; exact z)⟩
set_option maxRecDepth 4000 in
theorem c1_anyRow6 (G : GX l s0 D tys a0 dT) (I : Bd s)  : CT l s0 D A dT 14 (rmN 14) [.ref (A 173)] s (fun o t => Bd t ∧ Fm [] [] s t ∧ ∃ e, o = .inl (some (.int (Int32.ofInt e))) ∧ rng e ∧ ((e = 1 ∧ anF (cBk s) (iI s 70).toNat) ∨ (e = 0 ∧ ¬ anF (cBk s) (iI s 70).toNat))) := by
  refine ct_ofX G (by decide) (Nat.le_of_ble_eq_true rfl) (fun k X E ET hRt hXt q => ?_)
  show WS k 0 [(0, .ref (A 173))] [] _ 0 0
  have F : Fm [] [] s s := fm_rf _ _ s
  have b1 := bi_70 I
  have L2 : ∀ (n : Nat) (t : PS) (c : Int), Bd t → Fm [] [] s t → (NOQ (cBk s) c) → ((0 ≤ c ∧ c ≤ 40) ∧ c ≤ iI s 70 ∧ iI t 70 = iI s 70) → (40 - c : Int).toNat < n → (∀ (t' : PS) (c' : Int), Bd t' → Fm [] [] s t' → (NOQ (cBk s) c') → (c' = iI s 70) → WS k 27 [(0, .ref (A 173)), (1, .int (Int32.ofInt c'))] [] (Wd A dT t') 0 0) → WS k 2 [(0, .ref (A 173)), (1, .int (Int32.ofInt c))] [] (Wd A dT t) 0 0 := by
    intro n
    induction n with
    | zero =>
      intro t c I F hq hi hm kx
      exact absurd hm (Nat.not_lt_zero _)
    | succ n ih =>
      intro t c I F hq hi hm kx
      have b1001 := bi_70 I
      refine z_load_n X (x := c) rfl (List.Mem.tail _ (List.Mem.head _)) (z_aload_n X (x := A 173) rfl (List.Mem.head _) (z_getI X 173 rfl (c518_ok rfl) rfl rfl ?_))
      have b1002 := bi_70 I
      refine z_icmp_ge X (t := 27) rfl rfl ⟨by first | exact oq_fa4e5087 hi.1.1 | omega, by first | exact oq_227d2cd7 hi.1.2 | omega⟩ (rng_to _) (fun g1003 => ?_) (fun g1003 => ?_)
      ·
        refine WS_pq [0, 1] (lv' := [(0, .ref (A 173)), (1, .int (Int32.ofInt c))]) rfl ?_
        exact kx _ c I F hq (by first | exact oq_537ca82a hi.2.1 g1003 hi.2.2 | omega)
      ·
        refine z_aload_n X (x := A 173) rfl (List.Mem.head _) (s_getR X 173 rfl (c518_ok rfl) rfl rfl (z_load_n X (x := c) rfl (List.Mem.tail _ (List.Mem.head _)) (z_zald X 176 rfl (c518_ok rfl) rfl (by first | exact hi.1.1 | omega) (show c < 40 by first | exact oq_497ff6eb g1003 b1002.2 | omega) (cbig_ok rfl) ?_)))
        have b1004 := bc_154 I (show (c).toNat < 40 by first | exact oq_23813e7c g1003 b1002.2 | omega)
        refine z_if_ne X (t := 21) rfl rfl (rng_to _) (fun g1005 => ?_) (fun g1005 => ?_)
        ·
          refine z_inc X (x := c) (lv' := [(1, .int (Int32.ofInt (c + 1))), (0, .ref (A 173))]) rfl (by decide) (List.Mem.tail _ (List.Mem.head _)) (fun _ h => h) (z_goto X (t := 2) rfl rfl (WS_pq [1, 0] (lv' := [(0, .ref (A 173)), (1, .int (Int32.ofInt (c + 1)))]) rfl ?_))
          exact ih _ (c + 1) I F (noq_up hq (by first | (clear g1005; omega) | omega) (fm_c F List.not_mem_nil : iC t 154 (c : Int).toNat = iC s 154 (c : Int).toNat) (by first | (clear g1005; omega) | omega)) (by first | exact ⟨And.intro (oq_54f49eb5 hi.1.1) (oq_aa91b9d2 g1003 b1002.2), oq_b1226e90 hi.2.2 g1003, hi.2.2⟩ | omega) (by first | exact qk_me hm (by decide) (oq_e7680c39 g1003 b1002.2) | omega) kx
        ·
          refine z_const X rfl ?_
          exact w_iret X.1 q hRt (nar_ret (by first | exact Or.inr (by decide) | omega)) (ax_d X (show cdA 14 20 = some (.ireturn, 1, 0, 0, 0) from rfl)) (Nat.zero_le _) (Nat.zero_le _) ⟨_, rfl, I, F, 1, rfl, (by decide), Or.inl ⟨by decide, an_at (v := iC t 154 (c : Int).toNat) (by omega) (fm_c F List.not_mem_nil) (by omega)⟩⟩
  refine z_const X rfl (z_store_n X (lv' := [(1, .int (Int32.ofInt 0)), (0, .ref (A 173))]) rfl (by decide) (fun _ h => h) (WS_pq [1, 0] (lv' := [(0, .ref (A 173)), (1, .int (Int32.ofInt 0))]) rfl (L2 ((40 - 0 : Int).toNat + 1) s 0 I F noq_0 (by first | exact ⟨And.intro (by decide) (by decide), b1.1, by decide⟩ | omega) (Nat.lt_succ_self _) ?_)))
  intro s2 x3 Is2 Fs2 Qs2 hs2
  have b4 := bi_70 Is2
  refine z_const X rfl ?_
  exact w_iret X.1 q hRt (nar_ret (by first | exact Or.inl (by decide) | omega)) (ax_d X (show cdA 14 28 = some (.ireturn, 1, 0, 0, 0) from rfl)) (Nat.zero_le _) (Nat.zero_le _) ⟨_, rfl, Is2, Fs2, 0, rfl, (by decide), Or.inr ⟨by decide, by have z := noq_e Qs2; rw [show x3 = iI s 70 by omega] at z; exact z⟩⟩
set_option maxRecDepth 4000 in
theorem c1_nextTrial6 (G : GX l s0 D tys a0 dT) {tc : Int} (I : Bd s) (jTRQ : TRQ tc s)  : CT l s0 D A dT 15 (rmN 15) [.ref (A 173)] s (fun o t => Bd t ∧ Fm [] [156] s t ∧ ∃ e, o = .inl (some (.int (Int32.ofInt e))) ∧ rng e ∧ ((tc < 624 ∧ e = 1 ∧ TRQ (tc + 1) t) ∨ (tc = 624 ∧ e = 0))) := by
  refine ct_ofX G (by decide) (Nat.le_of_ble_eq_true rfl) (fun k X E ET hRt hXt q => ?_)
  show WS k 0 [(0, .ref (A 173))] [] _ 0 0
  have F : Fm [] [156] s s := fm_rf _ _ s
  have L2 : ∀ (n : Nat) (t : PS) (c : Int), Bd t → Fm [] [156] s t → (NXQ c s t) → (-1 ≤ c ∧ c ≤ 3) → (c + 1 : Int).toNat < n → (∀ (t' : PS) (c' : Int), Bd t' → Fm [] [156] s t' → (NXQ c' s t') → (c' < 0) → WS k 41 [(0, .ref (A 173)), (1, .int (Int32.ofInt c'))] [] (Wd A dT t') 0 0) → WS k 2 [(0, .ref (A 173)), (1, .int (Int32.ofInt c))] [] (Wd A dT t) 0 0 := by
    intro n
    induction n with
    | zero =>
      intro t c I F hq hi hm kx
      exact absurd hm (Nat.not_lt_zero _)
    | succ n ih =>
      intro t c I F hq hi hm kx
      refine z_load_n X (x := c) rfl (List.Mem.tail _ (List.Mem.head _)) (z_if_lt X (t := 41) rfl rfl ⟨by first | exact oq_97ee2c2a hi.1 | omega, by first | exact oq_c5520c83 hi.2 | omega⟩ (fun g1001 => ?_) (fun g1001 => ?_))
      ·
        refine WS_pq [0, 1] (lv' := [(0, .ref (A 173)), (1, .int (Int32.ofInt c))]) rfl ?_
        exact kx _ c I F hq (by first | exact g1001 | omega)
      ·
        refine z_aload_n X (x := A 173) rfl (List.Mem.head _) (s_getR X 173 rfl (c518_ok rfl) rfl rfl (z_load_n X (x := c) rfl (List.Mem.tail _ (List.Mem.head _)) (z_ald X 178 rfl (c518_ok rfl) rfl (by first | exact g1001 | omega) (show c < 4 by first | exact oq_907d7be5 hi.2 | omega) (cbig_ok rfl) ?_)))
        have b1002 := bc_156 I (show (c).toNat < 4 by first | exact oq_b6a8a4cc hi.2 | omega)
        have ar1003 : iC t 156 (c).toNat = iC t 156 (c).toNat := (sam_rf (a := 156) (s := t)) _
        refine z_const X rfl (z_icmp_ge X (t := 28) rfl rfl (rng_to _) (by decide) (fun g1004 => ?_) (fun g1004 => ?_))
        ·
          refine z_aload_n X (x := A 173) rfl (List.Mem.head _) (s_getR X 173 rfl (c518_ok rfl) rfl rfl (z_load_n X (x := c) rfl (List.Mem.tail _ (List.Mem.head _)) (z_const X rfl (z_ast X 178 rfl (c518_ok rfl) rfl (by first | exact g1001 | omega) (show c < 4 by first | exact oq_907d7be5 hi.2 | omega) (cbig_ok rfl) (wd_gen (fun s1005 hs1005 => ?_))))))
          have Is1005 : Bd s1005 := eqB hs1005 (bd_C I (show ((-2147483648) : Int) ≤ 0 ∧ 0 ≤ 2147483647 by first | exact ⟨by decide, by decide⟩ | omega) (by decide))
          have Fs1005 := eqF hs1005 (fm_C F (inl_ok (a := 156) rfl))
          have aws1005_156 : UPD 156 (c) 0 t s1005 := by rw [hs1005]; exact upd_put (sam_rf (a := 156) (s := t)) (by decide)
          refine z_inc X (x := c) (lv' := [(1, .int (Int32.ofInt (c + (-1)))), (0, .ref (A 173))]) rfl (by decide) (List.Mem.tail _ (List.Mem.head _)) (fun _ h => h) (z_goto X (t := 2) rfl rfl (WS_pq [1, 0] (lv' := [(0, .ref (A 173)), (1, .int (Int32.ofInt (c + (-1))))]) rfl ?_))
          exact ih _ (c + (-1)) Is1005 Fs1005 (nxq_up jTRQ hq (by omega) (by omega) aws1005_156) (by first | exact ⟨oq_285ed02d g1001, oq_83f8f735 hi.2⟩ | omega) (by first | exact qk_me hm (by decide) (oq_7a276f11 g1001) | omega) kx
        ·
          refine z_aload_n X (x := A 173) rfl (List.Mem.head _) (s_getR X 173 rfl (c518_ok rfl) rfl rfl (z_load_n X (x := c) rfl (List.Mem.tail _ (List.Mem.head _)) (w_dup2_11 X.1 (ax_d X (show cdA 15 21 = some (.dup2, 1, 0, 0, 0) from rfl)) rfl rfl (z_ald X 178 rfl (c518_ok rfl) rfl (by first | exact g1001 | omega) (show c < 4 by first | exact oq_907d7be5 hi.2 | omega) (cbig_ok rfl) ?_))))
          have b1006 := bc_156 I (show (c).toNat < 4 by first | exact oq_b6a8a4cc hi.2 | omega)
          have ar1007 : iC t 156 (c).toNat = iC t 156 (c).toNat := (sam_rf (a := 156) (s := t)) _
          refine z_const X rfl (z_add X rfl (z_ast X 178 rfl (c518_ok rfl) rfl (by first | exact g1001 | omega) (show c < 4 by first | exact oq_907d7be5 hi.2 | omega) (cbig_ok rfl) (wd_gen (fun s1008 hs1008 => ?_))))
          have Is1008 : Bd s1008 := eqB hs1008 (bd_C I (show ((-2147483648) : Int) ≤ ((iC t 156 (c).toNat) + 1) ∧ ((iC t 156 (c).toNat) + 1) ≤ 2147483647 by first | exact ⟨oq_14afcb3e b1006.1, oq_176f24f4 g1004⟩ | omega) ⟨by first | exact oq_14afcb3e b1006.1 | omega, by first | exact oq_176f24f4 g1004 | omega⟩)
          have Fs1008 := eqF hs1008 (fm_C F (inl_ok (a := 156) rfl))
          have aws1008_156 : UPD 156 (c) ((iC t 156 (c).toNat) + 1) t s1008 := by rw [hs1008]; exact upd_put (sam_rf (a := 156) (s := t)) ⟨by first | exact oq_14afcb3e b1006.1 | omega, by first | exact oq_176f24f4 g1004 | omega⟩
          refine z_const X rfl ?_
          exact w_iret X.1 q hRt (nar_ret (by first | exact Or.inr (by decide) | omega)) (ax_d X (show cdA 15 27 = some (.ireturn, 1, 0, 0, 0) from rfl)) (Nat.zero_le _) (Nat.zero_le _) ⟨_, rfl, Is1008, Fs1008, 1, rfl, (by decide), Or.inl ⟨(nxq_e jTRQ hq (by omega) (by omega) aws1008_156 rfl).1, by decide, (nxq_e jTRQ hq (by omega) (by omega) aws1008_156 rfl).2⟩⟩
  refine z_const X rfl (z_store_n X (lv' := [(1, .int (Int32.ofInt 3)), (0, .ref (A 173))]) rfl (by decide) (fun _ h => h) (WS_pq [1, 0] (lv' := [(0, .ref (A 173)), (1, .int (Int32.ofInt 3))]) rfl (L2 ((3 + 1 : Int).toNat + 1) s 3 I F nxq_0 (by first | exact ⟨by decide, by decide⟩ | omega) (Nat.lt_succ_self _) ?_)))
  intro s1 x2 Is1 Fs1 Qs1 hs1
  refine z_const X rfl ?_
  exact w_iret X.1 q hRt (nar_ret (by first | exact Or.inl (by decide) | omega)) (ax_d X (show cdA 15 42 = some (.ireturn, 1, 0, 0, 0) from rfl)) (Nat.zero_le _) (Nat.zero_le _) ⟨_, rfl, Is1, Fs1, 0, rfl, (by decide), Or.inr ⟨nxq_n jTRQ Qs1 (by omega), by decide⟩⟩
set_option maxRecDepth 4000 in
theorem c1_offOf6_178 (G : GX l s0 D tys a0 dT) (I : Bd s) {y : Int} (p0 : y = 0 ∨ y = 1) : CT l s0 D A dT 16 (rmN 16) [.ref (A 173), .ref (A 178), .int (Int32.ofInt y)] s (fun o t => Bd t ∧ Fm [] [] s t ∧ ∃ e, o = .inl (some (.int (Int32.ofInt e))) ∧ rng e ∧ (e = ofI (cD s) (cBk s) (cHd s) (fun k => iC s 156 k) y (iI s 70).toNat)) := by
  refine ct_ofX G (by decide) (Nat.le_of_ble_eq_true rfl) (fun k X E ET hRt hXt q => ?_)
  show WS k 0 [(0, .ref (A 173)), (1, .ref (A 178)), (2, .int (Int32.ofInt y))] [] _ 0 0
  have F : Fm [] [] s s := fm_rf _ _ s
  have b1 := bi_70 I
  have L37 : ∀ (n : Nat) (t : PS) (yv sm0 rw fr c : Int), Bd t → Fm [] [] s t → (sm0 = ofI (cD s) (cBk s) (cHd s) (fun k => iC s 156 k) y (rw : Int).toNat ∧ fr = fwI (cHd s (rw : Int).toNat) (fun k => iC s 156 k) (cD s (rw : Int).toNat) (c : Int).toNat) → ((yv = y ∧ (y = 0 ∨ y = 1)) ∧ rng sm0 ∧ (0 ≤ rw ∧ rw ≤ 39 ∧ rw < iI s 70) ∧ rng fr ∧ (0 ≤ c ∧ c ≤ 4) ∧ iC s 154 (rw : Int).toNat = y ∧ iI t 70 = iI s 70) → (4 - c : Int).toNat < n → (∀ (t' : PS) (fr' c' : Int), Bd t' → Fm [] [] s t' → (sm0 = ofI (cD s) (cBk s) (cHd s) (fun k => iC s 156 k) y (rw : Int).toNat ∧ fr' = fwI (cHd s (rw : Int).toNat) (fun k => iC s 156 k) (cD s (rw : Int).toNat) (c' : Int).toNat) → ((yv = y ∧ (y = 0 ∨ y = 1)) ∧ rng sm0 ∧ (0 ≤ rw ∧ rw ≤ 39 ∧ rw < iI s 70) ∧ rng fr' ∧ c' = 4 ∧ iC s 154 (rw : Int).toNat = y ∧ iI t' 70 = iI s 70) → WS k 71 [(0, .ref (A 173)), (1, .ref (A 178)), (2, .int (Int32.ofInt yv)), (3, .int (Int32.ofInt sm0)), (4, .int (Int32.ofInt rw)), (5, .int (Int32.ofInt fr')), (6, .int (Int32.ofInt c'))] [] (Wd A dT t') 0 0) → WS k 37 [(0, .ref (A 173)), (1, .ref (A 178)), (2, .int (Int32.ofInt yv)), (3, .int (Int32.ofInt sm0)), (4, .int (Int32.ofInt rw)), (5, .int (Int32.ofInt fr)), (6, .int (Int32.ofInt c))] [] (Wd A dT t) 0 0 := by
    intro n
    induction n with
    | zero =>
      intro t yv sm0 rw fr c I F hq hi hm kx
      exact absurd hm (Nat.not_lt_zero _)
    | succ n ih =>
      intro t yv sm0 rw fr c I F hq hi hm kx
      have b1001 := bi_70 I
      refine z_load X (x := c) rfl (List.Mem.tail _ (List.Mem.tail _ (List.Mem.tail _ (List.Mem.tail _ (List.Mem.tail _ (List.Mem.tail _ (List.Mem.head _))))))) (z_const X rfl (z_icmp_ge X (t := 71) rfl rfl ⟨by first | exact oq_fa4e5087 hi.2.2.2.2.1.1 | omega, by first | exact oq_4a4414da hi.2.2.2.2.1.2 | omega⟩ (by decide) (fun g1002 => ?_) (fun g1002 => ?_)))
      ·
        refine WS_pq [0, 1, 2, 3, 4, 5, 6] (lv' := [(0, .ref (A 173)), (1, .ref (A 178)), (2, .int (Int32.ofInt yv)), (3, .int (Int32.ofInt sm0)), (4, .int (Int32.ofInt rw)), (5, .int (Int32.ofInt fr)), (6, .int (Int32.ofInt c))]) rfl ?_
        exact kx _ fr c I F hq (by first | exact ⟨And.intro (hi.1.1) (hi.1.2), And.intro (hi.2.1.1) (hi.2.1.2), And.intro (hi.2.2.1.1) (And.intro (hi.2.2.1.2.1) (hi.2.2.1.2.2)), And.intro (hi.2.2.2.1.1) (hi.2.2.2.1.2), oq_b0bc9e24 hi.2.2.2.2.1.2 g1002, hi.2.2.2.2.2.1, hi.2.2.2.2.2.2⟩ | omega)
      ·
        refine z_load X (x := fr) rfl (List.Mem.tail _ (List.Mem.tail _ (List.Mem.tail _ (List.Mem.tail _ (List.Mem.tail _ (List.Mem.head _)))))) (z_aload_n X (x := A 178) rfl (List.Mem.tail _ (List.Mem.head _)) (z_load X (x := c) rfl (List.Mem.tail _ (List.Mem.tail _ (List.Mem.tail _ (List.Mem.tail _ (List.Mem.tail _ (List.Mem.tail _ (List.Mem.head _))))))) (z_ald X 178 rfl (c518_ok rfl) rfl (by first | exact hi.2.2.2.2.1.1 | omega) (show c < 4 by first | exact g1002 | omega) (cbig_ok rfl) ?_)))
        have b1003 := bc_156 I (show (c).toNat < 4 by first | exact oq_a274733e g1002 | omega)
        refine z_aload_n X (x := A 173) rfl (List.Mem.head _) (s_getR X 173 rfl (c518_ok rfl) rfl rfl (z_load X (x := rw) rfl (List.Mem.tail _ (List.Mem.tail _ (List.Mem.tail _ (List.Mem.tail _ (List.Mem.head _))))) (z_const X rfl (z_mul X rfl (z_load X (x := c) rfl (List.Mem.tail _ (List.Mem.tail _ (List.Mem.tail _ (List.Mem.tail _ (List.Mem.tail _ (List.Mem.tail _ (List.Mem.head _))))))) (z_add X rfl (z_ald X 174 rfl (c518_ok rfl) rfl (by first | exact oq_6af04329 hi.2.2.1.1 hi.2.2.2.2.1.1 | omega) (show ((rw * 4) + c) < 160 by first | exact oq_7259ae6f hi.2.2.1.2.1 g1002 | omega) (cbig_ok rfl) ?_)))))))
        have b1004 := bc_152 I (show (((rw * 4) + c)).toNat < 160 by first | exact oq_04b9c373 hi.2.2.1.2.1 g1002 | omega)
        refine z_mul X rfl (z_anyV (fun y1005 hy1005 ey1005 => ?_))
        refine z_sub X rfl (z_anyV (fun y1006 hy1006 ey1006 => ?_))
        refine z_store X (lv' := [(5, .int (Int32.ofInt y1006)), (0, .ref (A 173)), (1, .ref (A 178)), (2, .int (Int32.ofInt yv)), (3, .int (Int32.ofInt sm0)), (4, .int (Int32.ofInt rw)), (6, .int (Int32.ofInt c))]) rfl (by decide) (fun _ h => h) (z_inc X (x := c) (lv' := [(6, .int (Int32.ofInt (c + 1))), (5, .int (Int32.ofInt y1006)), (0, .ref (A 173)), (1, .ref (A 178)), (2, .int (Int32.ofInt yv)), (3, .int (Int32.ofInt sm0)), (4, .int (Int32.ofInt rw))]) rfl (by decide) (List.Mem.tail _ (List.Mem.tail _ (List.Mem.tail _ (List.Mem.tail _ (List.Mem.tail _ (List.Mem.tail _ (List.Mem.head _))))))) (fun _ h => h) (z_goto X (t := 37) rfl rfl (WS_pq [2, 3, 4, 5, 6, 1, 0] (lv' := [(0, .ref (A 173)), (1, .ref (A 178)), (2, .int (Int32.ofInt yv)), (3, .int (Int32.ofInt sm0)), (4, .int (Int32.ofInt rw)), (5, .int (Int32.ofInt y1006)), (6, .int (Int32.ofInt (c + 1)))]) rfl ?_)))
        exact ih _ yv sm0 rw y1006 (c + 1) I F ⟨hq.1, fw_up hq.2 (by first | (clear p0; omega) | omega) (fm_c F List.not_mem_nil : iC t 156 (c : Int).toNat = iC s 156 (c : Int).toNat) (by show iC t 152 _ = iC s 152 ((rw : Int).toNat * 4 + (c : Int).toNat); rw [show ((rw * 4) + c).toNat = (rw : Int).toNat * 4 + (c : Int).toNat by first | (clear p0; omega) | omega]; exact fm_c F List.not_mem_nil) hy1005 ey1005 hy1006 ey1006⟩ (by first | exact ⟨And.intro (hi.1.1) (hi.1.2), And.intro (hi.2.1.1) (hi.2.1.2), And.intro (hi.2.2.1.1) (And.intro (hi.2.2.1.2.1) (hi.2.2.1.2.2)), And.intro (hy1006.1) (hy1006.2), And.intro (oq_54f49eb5 hi.2.2.2.2.1.1) (oq_5b7aaf9e g1002), hi.2.2.2.2.2.1, hi.2.2.2.2.2.2⟩ | omega) (by first | exact qk_me hm (by decide) (oq_de1b25d0 g1002) | omega) kx
  have L5 : ∀ (n : Nat) (t : PS) (yv sm0 rw : Int), Bd t → Fm [] [] s t → (sm0 = ofI (cD s) (cBk s) (cHd s) (fun k => iC s 156 k) y (rw : Int).toNat) → ((yv = y ∧ (y = 0 ∨ y = 1)) ∧ rng sm0 ∧ (0 ≤ rw ∧ rw ≤ 40) ∧ rw ≤ iI s 70 ∧ iI t 70 = iI s 70) → (40 - rw : Int).toNat < n → (∀ (t' : PS) (sm0' rw' : Int), Bd t' → Fm [] [] s t' → (sm0' = ofI (cD s) (cBk s) (cHd s) (fun k => iC s 156 k) y (rw' : Int).toNat) → (rng sm0' ∧ rw' = iI s 70) → WS k 85 [(0, .ref (A 173)), (1, .ref (A 178)), (2, .int (Int32.ofInt yv)), (3, .int (Int32.ofInt sm0')), (4, .int (Int32.ofInt rw'))] [] (Wd A dT t') 0 0) → WS k 5 [(0, .ref (A 173)), (1, .ref (A 178)), (2, .int (Int32.ofInt yv)), (3, .int (Int32.ofInt sm0)), (4, .int (Int32.ofInt rw))] [] (Wd A dT t) 0 0 := by
    intro n
    induction n with
    | zero =>
      intro t yv sm0 rw I F hq hi hm kx
      exact absurd hm (Nat.not_lt_zero _)
    | succ n ih =>
      intro t yv sm0 rw I F hq hi hm kx
      have b2001 := bi_70 I
      refine z_load X (x := rw) rfl (List.Mem.tail _ (List.Mem.tail _ (List.Mem.tail _ (List.Mem.tail _ (List.Mem.head _))))) (z_aload_n X (x := A 173) rfl (List.Mem.head _) (z_getI X 173 rfl (c518_ok rfl) rfl rfl ?_))
      have b2002 := bi_70 I
      refine z_icmp_ge X (t := 85) rfl rfl ⟨by first | exact oq_fa4e5087 hi.2.2.1.1 | omega, by first | exact oq_227d2cd7 hi.2.2.1.2 | omega⟩ (rng_to _) (fun g2003 => ?_) (fun g2003 => ?_)
      ·
        refine WS_pq [0, 1, 2, 3, 4] (lv' := [(0, .ref (A 173)), (1, .ref (A 178)), (2, .int (Int32.ofInt yv)), (3, .int (Int32.ofInt sm0)), (4, .int (Int32.ofInt rw))]) rfl ?_
        exact kx _ sm0 rw I F hq (by first | exact ⟨And.intro (hi.2.1.1) (hi.2.1.2), oq_537ca82a hi.2.2.2.1 g2003 hi.2.2.2.2⟩ | omega)
      ·
        refine z_aload_n X (x := A 173) rfl (List.Mem.head _) (s_getR X 173 rfl (c518_ok rfl) rfl rfl (z_load X (x := rw) rfl (List.Mem.tail _ (List.Mem.tail _ (List.Mem.tail _ (List.Mem.tail _ (List.Mem.head _))))) (z_zald X 176 rfl (c518_ok rfl) rfl (by first | exact hi.2.2.1.1 | omega) (show rw < 40 by first | exact oq_497ff6eb g2003 b2002.2 | omega) (cbig_ok rfl) ?_)))
        have b2004 := bc_154 I (show (rw).toNat < 40 by first | exact oq_23813e7c g2003 b2002.2 | omega)
        refine z_load_n X (x := yv) rfl (List.Mem.tail _ (List.Mem.tail _ (List.Mem.head _))) (z_icmp_ne X (t := 79) rfl rfl (rng_to _) ⟨by first | exact oq_ad8fc57c hi.1.2 hi.1.1 | omega, by first | exact oq_918d59e7 hi.1.2 hi.1.1 | omega⟩ (fun g2005 => ?_) (fun g2005 => ?_))
        ·
          refine z_inc X (x := rw) (lv' := [(4, .int (Int32.ofInt (rw + 1))), (0, .ref (A 173)), (1, .ref (A 178)), (2, .int (Int32.ofInt yv)), (3, .int (Int32.ofInt sm0))]) rfl (by decide) (List.Mem.tail _ (List.Mem.tail _ (List.Mem.tail _ (List.Mem.tail _ (List.Mem.head _))))) (fun _ h => h) (z_goto X (t := 5) rfl rfl (WS_pq [1, 2, 3, 4, 0] (lv' := [(0, .ref (A 173)), (1, .ref (A 178)), (2, .int (Int32.ofInt yv)), (3, .int (Int32.ofInt sm0)), (4, .int (Int32.ofInt (rw + 1)))]) rfl ?_))
          exact ih _ yv sm0 (rw + 1) I F (of_n hq (by first | (clear g2005 p0; omega) | (clear p0; omega) | omega) (fm_c F List.not_mem_nil : iC t 154 (rw : Int).toNat = iC s 154 (rw : Int).toNat) (by first | (clear g2005 p0; omega) | (clear p0; omega) | omega)) (by first | exact ⟨And.intro (hi.1.1) (hi.1.2), And.intro (hi.2.1.1) (hi.2.1.2), And.intro (oq_54f49eb5 hi.2.2.1.1) (oq_aa91b9d2 g2003 b2002.2), oq_b1226e90 hi.2.2.2.2 g2003, hi.2.2.2.2⟩ | omega) (by first | exact qk_me hm (by decide) (oq_e7680c39 g2003 b2002.2) | omega) kx
        ·
          have hbk : iC t 154 (rw : Int).toNat = iC s 154 (rw : Int).toNat := fm_c F List.not_mem_nil
          refine z_aload_n X (x := A 173) rfl (List.Mem.head _) (s_getR X 173 rfl (c518_ok rfl) rfl rfl (z_load X (x := rw) rfl (List.Mem.tail _ (List.Mem.tail _ (List.Mem.tail _ (List.Mem.tail _ (List.Mem.head _))))) (z_ald X 175 rfl (c518_ok rfl) rfl (by first | exact hi.2.2.1.1 | omega) (show rw < 40 by first | exact oq_497ff6eb g2003 b2002.2 | omega) (cbig_ok rfl) ?_)))
          have b2006 := bc_153 I (show (rw).toNat < 40 by first | exact oq_23813e7c g2003 b2002.2 | omega)
          refine z_store X (lv' := [(5, .int (Int32.ofInt (iC t 153 (rw).toNat))), (0, .ref (A 173)), (1, .ref (A 178)), (2, .int (Int32.ofInt yv)), (3, .int (Int32.ofInt sm0)), (4, .int (Int32.ofInt rw))]) rfl (by decide) (fun _ h => h) (z_const X rfl (z_store X (lv' := [(6, .int (Int32.ofInt 0)), (5, .int (Int32.ofInt (iC t 153 (rw).toNat))), (0, .ref (A 173)), (1, .ref (A 178)), (2, .int (Int32.ofInt yv)), (3, .int (Int32.ofInt sm0)), (4, .int (Int32.ofInt rw))]) rfl (by decide) (fun _ h => h) (WS_pq [2, 3, 4, 5, 6, 1, 0] (lv' := [(0, .ref (A 173)), (1, .ref (A 178)), (2, .int (Int32.ofInt yv)), (3, .int (Int32.ofInt sm0)), (4, .int (Int32.ofInt rw)), (5, .int (Int32.ofInt (iC t 153 (rw).toNat))), (6, .int (Int32.ofInt 0))]) rfl (L37 ((4 - 0 : Int).toNat + 1) t yv sm0 rw (iC t 153 (rw).toNat) 0 I F ⟨hq, (fm_c F List.not_mem_nil : iC t 153 (rw : Int).toNat = iC s 153 (rw : Int).toNat).trans fw_z⟩ (by first | exact ⟨And.intro (hi.1.1) (hi.1.2), And.intro (hi.2.1.1) (hi.2.1.2), And.intro (hi.2.2.1.1) (And.intro (oq_60d647b9 g2003 b2002.2) (oq_095218f7 hi.2.2.2.2 g2003)), And.intro (b2006.1) (b2006.2), And.intro (by decide) (by decide), oq_fcee0c4c hi.1.1 hbk g2005, hi.2.2.2.2⟩ | omega) (Nat.lt_succ_self _) ?_))))
          intro s2007 x2008 x2009 Is2007 Fs2007 Qs2007 hs2007
          have b2010 := bi_70 Is2007
          refine z_load_n X (x := sm0) rfl (List.Mem.tail _ (List.Mem.tail _ (List.Mem.tail _ (List.Mem.head _)))) (z_load X (x := x2008) rfl (List.Mem.tail _ (List.Mem.tail _ (List.Mem.tail _ (List.Mem.tail _ (List.Mem.tail _ (List.Mem.head _)))))) (z_absE X rfl rfl ⟨by first | exact hs2007.2.2.2.1.1 | omega, by first | exact hs2007.2.2.2.1.2 | omega⟩ (by rw [E.2.2.2]; decide) (by rw [E.2.2.2]; exact Nat.le_of_ble_eq_true rfl) (Nat.zero_le _) (Nat.zero_le _) (fun e2011 he2011 ee2011 => ?_)))
          refine z_add X rfl (z_anyV (fun y2012 hy2012 ey2012 => ?_))
          refine z_store_n X (lv' := [(3, .int (Int32.ofInt y2012)), (0, .ref (A 173)), (1, .ref (A 178)), (2, .int (Int32.ofInt yv)), (4, .int (Int32.ofInt rw)), (5, .int (Int32.ofInt x2008)), (6, .int (Int32.ofInt x2009))]) rfl (by decide) (fun _ h => h) (z_inc X (x := rw) (lv' := [(4, .int (Int32.ofInt (rw + 1))), (3, .int (Int32.ofInt y2012)), (0, .ref (A 173)), (1, .ref (A 178)), (2, .int (Int32.ofInt yv)), (5, .int (Int32.ofInt x2008)), (6, .int (Int32.ofInt x2009))]) rfl (by decide) (List.Mem.tail _ (List.Mem.tail _ (List.Mem.tail _ (List.Mem.tail _ (List.Mem.head _))))) (fun _ h => h) (z_goto X (t := 5) rfl rfl (WS_pq [2, 3, 4, 1, 0] (lv' := [(0, .ref (A 173)), (1, .ref (A 178)), (2, .int (Int32.ofInt yv)), (3, .int (Int32.ofInt y2012)), (4, .int (Int32.ofInt (rw + 1)))]) rfl ?_)))
          exact ih _ yv y2012 (rw + 1) Is2007 Fs2007 (of_y (g := iC s 154 (rw : Int).toNat) Qs2007.1 (by first | (clear p0; omega) | omega) rfl (by first | (clear p0; omega) | omega) (by have z := Qs2007.2; rw [show x2009 = 4 by first | (clear p0; omega) | omega] at z; exact z) ee2011 hy2012 ey2012) (by first | exact ⟨And.intro (hs2007.1.1) (hs2007.1.2), And.intro (hy2012.1) (hy2012.2), And.intro (oq_54f49eb5 hs2007.2.2.1.1) (oq_c93233a9 hs2007.2.2.1.2.1), oq_afc84a8d hs2007.2.2.1.2.2, hs2007.2.2.2.2.2.2⟩ | omega) (by first | exact qk_me hm (by decide) (oq_3e505acc hs2007.2.2.1.2.1) | omega) kx
  refine z_const X rfl (z_store_n X (lv' := [(3, .int (Int32.ofInt 0)), (0, .ref (A 173)), (1, .ref (A 178)), (2, .int (Int32.ofInt y))]) rfl (by decide) (fun _ h => h) (z_const X rfl (z_store X (lv' := [(4, .int (Int32.ofInt 0)), (3, .int (Int32.ofInt 0)), (0, .ref (A 173)), (1, .ref (A 178)), (2, .int (Int32.ofInt y))]) rfl (by decide) (fun _ h => h) (WS_pq [2, 3, 4, 1, 0] (lv' := [(0, .ref (A 173)), (1, .ref (A 178)), (2, .int (Int32.ofInt y)), (3, .int (Int32.ofInt 0)), (4, .int (Int32.ofInt 0))]) rfl (L5 ((40 - 0 : Int).toNat + 1) s y 0 0 I F rfl (by first | exact ⟨And.intro (by decide) (p0), And.intro (by decide) (by decide), And.intro (by decide) (by decide), b1.1, by decide⟩ | omega) (Nat.lt_succ_self _) ?_)))))
  intro s2 x3 x4 Is2 Fs2 Qs2 hs2
  have b5 := bi_70 Is2
  refine z_load_n X (x := x3) rfl (List.Mem.tail _ (List.Mem.tail _ (List.Mem.tail _ (List.Mem.head _)))) ?_
  exact w_iret X.1 q hRt rfl (ax_d X (show cdA 16 86 = some (.ireturn, 1, 0, 0, 0) from rfl)) (Nat.zero_le _) (Nat.zero_le _) ⟨_, rfl, Is2, Fs2, x3, rfl, ⟨by first | exact hs2.1.1 | omega, by first | exact hs2.1.2 | omega⟩, (by have z := Qs2; rw [show x4 = iI s 70 by first | (clear p0; omega) | omega] at z; exact z)⟩
set_option maxRecDepth 4000 in
theorem c1_offOf6_177 (G : GX l s0 D tys a0 dT) (I : Bd s) {y : Int} (p0 : y = 0 ∨ y = 1) : CT l s0 D A dT 16 (rmN 16) [.ref (A 173), .ref (A 177), .int (Int32.ofInt y)] s (fun o t => Bd t ∧ Fm [] [] s t ∧ ∃ e, o = .inl (some (.int (Int32.ofInt e))) ∧ rng e ∧ (e = ofI (cD s) (cBk s) (cHd s) (fun k => iC s 155 k) y (iI s 70).toNat)) := by
  refine ct_ofX G (by decide) (Nat.le_of_ble_eq_true rfl) (fun k X E ET hRt hXt q => ?_)
  show WS k 0 [(0, .ref (A 173)), (1, .ref (A 177)), (2, .int (Int32.ofInt y))] [] _ 0 0
  have F : Fm [] [] s s := fm_rf _ _ s
  have b1 := bi_70 I
  have L37 : ∀ (n : Nat) (t : PS) (yv sm0 rw fr c : Int), Bd t → Fm [] [] s t → (sm0 = ofI (cD s) (cBk s) (cHd s) (fun k => iC s 155 k) y (rw : Int).toNat ∧ fr = fwI (cHd s (rw : Int).toNat) (fun k => iC s 155 k) (cD s (rw : Int).toNat) (c : Int).toNat) → ((yv = y ∧ (y = 0 ∨ y = 1)) ∧ rng sm0 ∧ (0 ≤ rw ∧ rw ≤ 39 ∧ rw < iI s 70) ∧ rng fr ∧ (0 ≤ c ∧ c ≤ 4) ∧ iC s 154 (rw : Int).toNat = y ∧ iI t 70 = iI s 70) → (4 - c : Int).toNat < n → (∀ (t' : PS) (fr' c' : Int), Bd t' → Fm [] [] s t' → (sm0 = ofI (cD s) (cBk s) (cHd s) (fun k => iC s 155 k) y (rw : Int).toNat ∧ fr' = fwI (cHd s (rw : Int).toNat) (fun k => iC s 155 k) (cD s (rw : Int).toNat) (c' : Int).toNat) → ((yv = y ∧ (y = 0 ∨ y = 1)) ∧ rng sm0 ∧ (0 ≤ rw ∧ rw ≤ 39 ∧ rw < iI s 70) ∧ rng fr' ∧ c' = 4 ∧ iC s 154 (rw : Int).toNat = y ∧ iI t' 70 = iI s 70) → WS k 71 [(0, .ref (A 173)), (1, .ref (A 177)), (2, .int (Int32.ofInt yv)), (3, .int (Int32.ofInt sm0)), (4, .int (Int32.ofInt rw)), (5, .int (Int32.ofInt fr')), (6, .int (Int32.ofInt c'))] [] (Wd A dT t') 0 0) → WS k 37 [(0, .ref (A 173)), (1, .ref (A 177)), (2, .int (Int32.ofInt yv)), (3, .int (Int32.ofInt sm0)), (4, .int (Int32.ofInt rw)), (5, .int (Int32.ofInt fr)), (6, .int (Int32.ofInt c))] [] (Wd A dT t) 0 0 := by
    intro n
    induction n with
    | zero =>
      intro t yv sm0 rw fr c I F hq hi hm kx
      exact absurd hm (Nat.not_lt_zero _)
    | succ n ih =>
      intro t yv sm0 rw fr c I F hq hi hm kx
      have b1001 := bi_70 I
      refine z_load X (x := c) rfl (List.Mem.tail _ (List.Mem.tail _ (List.Mem.tail _ (List.Mem.tail _ (List.Mem.tail _ (List.Mem.tail _ (List.Mem.head _))))))) (z_const X rfl (z_icmp_ge X (t := 71) rfl rfl ⟨by first | exact oq_fa4e5087 hi.2.2.2.2.1.1 | omega, by first | exact oq_4a4414da hi.2.2.2.2.1.2 | omega⟩ (by decide) (fun g1002 => ?_) (fun g1002 => ?_)))
      ·
        refine WS_pq [0, 1, 2, 3, 4, 5, 6] (lv' := [(0, .ref (A 173)), (1, .ref (A 177)), (2, .int (Int32.ofInt yv)), (3, .int (Int32.ofInt sm0)), (4, .int (Int32.ofInt rw)), (5, .int (Int32.ofInt fr)), (6, .int (Int32.ofInt c))]) rfl ?_
        exact kx _ fr c I F hq (by first | exact ⟨And.intro (hi.1.1) (hi.1.2), And.intro (hi.2.1.1) (hi.2.1.2), And.intro (hi.2.2.1.1) (And.intro (hi.2.2.1.2.1) (hi.2.2.1.2.2)), And.intro (hi.2.2.2.1.1) (hi.2.2.2.1.2), oq_b0bc9e24 hi.2.2.2.2.1.2 g1002, hi.2.2.2.2.2.1, hi.2.2.2.2.2.2⟩ | omega)
      ·
        refine z_load X (x := fr) rfl (List.Mem.tail _ (List.Mem.tail _ (List.Mem.tail _ (List.Mem.tail _ (List.Mem.tail _ (List.Mem.head _)))))) (z_aload_n X (x := A 177) rfl (List.Mem.tail _ (List.Mem.head _)) (z_load X (x := c) rfl (List.Mem.tail _ (List.Mem.tail _ (List.Mem.tail _ (List.Mem.tail _ (List.Mem.tail _ (List.Mem.tail _ (List.Mem.head _))))))) (z_ald X 177 rfl (c518_ok rfl) rfl (by first | exact hi.2.2.2.2.1.1 | omega) (show c < 4 by first | exact g1002 | omega) (cbig_ok rfl) ?_)))
        have b1003 := bc_155 I (show (c).toNat < 4 by first | exact oq_a274733e g1002 | omega)
        refine z_aload_n X (x := A 173) rfl (List.Mem.head _) (s_getR X 173 rfl (c518_ok rfl) rfl rfl (z_load X (x := rw) rfl (List.Mem.tail _ (List.Mem.tail _ (List.Mem.tail _ (List.Mem.tail _ (List.Mem.head _))))) (z_const X rfl (z_mul X rfl (z_load X (x := c) rfl (List.Mem.tail _ (List.Mem.tail _ (List.Mem.tail _ (List.Mem.tail _ (List.Mem.tail _ (List.Mem.tail _ (List.Mem.head _))))))) (z_add X rfl (z_ald X 174 rfl (c518_ok rfl) rfl (by first | exact oq_6af04329 hi.2.2.1.1 hi.2.2.2.2.1.1 | omega) (show ((rw * 4) + c) < 160 by first | exact oq_7259ae6f hi.2.2.1.2.1 g1002 | omega) (cbig_ok rfl) ?_)))))))
        have b1004 := bc_152 I (show (((rw * 4) + c)).toNat < 160 by first | exact oq_04b9c373 hi.2.2.1.2.1 g1002 | omega)
        refine z_mul X rfl (z_anyV (fun y1005 hy1005 ey1005 => ?_))
        refine z_sub X rfl (z_anyV (fun y1006 hy1006 ey1006 => ?_))
        refine z_store X (lv' := [(5, .int (Int32.ofInt y1006)), (0, .ref (A 173)), (1, .ref (A 177)), (2, .int (Int32.ofInt yv)), (3, .int (Int32.ofInt sm0)), (4, .int (Int32.ofInt rw)), (6, .int (Int32.ofInt c))]) rfl (by decide) (fun _ h => h) (z_inc X (x := c) (lv' := [(6, .int (Int32.ofInt (c + 1))), (5, .int (Int32.ofInt y1006)), (0, .ref (A 173)), (1, .ref (A 177)), (2, .int (Int32.ofInt yv)), (3, .int (Int32.ofInt sm0)), (4, .int (Int32.ofInt rw))]) rfl (by decide) (List.Mem.tail _ (List.Mem.tail _ (List.Mem.tail _ (List.Mem.tail _ (List.Mem.tail _ (List.Mem.tail _ (List.Mem.head _))))))) (fun _ h => h) (z_goto X (t := 37) rfl rfl (WS_pq [2, 3, 4, 5, 6, 1, 0] (lv' := [(0, .ref (A 173)), (1, .ref (A 177)), (2, .int (Int32.ofInt yv)), (3, .int (Int32.ofInt sm0)), (4, .int (Int32.ofInt rw)), (5, .int (Int32.ofInt y1006)), (6, .int (Int32.ofInt (c + 1)))]) rfl ?_)))
        exact ih _ yv sm0 rw y1006 (c + 1) I F ⟨hq.1, fw_up hq.2 (by first | (clear p0; omega) | omega) (fm_c F List.not_mem_nil : iC t 155 (c : Int).toNat = iC s 155 (c : Int).toNat) (by show iC t 152 _ = iC s 152 ((rw : Int).toNat * 4 + (c : Int).toNat); rw [show ((rw * 4) + c).toNat = (rw : Int).toNat * 4 + (c : Int).toNat by first | (clear p0; omega) | omega]; exact fm_c F List.not_mem_nil) hy1005 ey1005 hy1006 ey1006⟩ (by first | exact ⟨And.intro (hi.1.1) (hi.1.2), And.intro (hi.2.1.1) (hi.2.1.2), And.intro (hi.2.2.1.1) (And.intro (hi.2.2.1.2.1) (hi.2.2.1.2.2)), And.intro (hy1006.1) (hy1006.2), And.intro (oq_54f49eb5 hi.2.2.2.2.1.1) (oq_5b7aaf9e g1002), hi.2.2.2.2.2.1, hi.2.2.2.2.2.2⟩ | omega) (by first | exact qk_me hm (by decide) (oq_de1b25d0 g1002) | omega) kx
  have L5 : ∀ (n : Nat) (t : PS) (yv sm0 rw : Int), Bd t → Fm [] [] s t → (sm0 = ofI (cD s) (cBk s) (cHd s) (fun k => iC s 155 k) y (rw : Int).toNat) → ((yv = y ∧ (y = 0 ∨ y = 1)) ∧ rng sm0 ∧ (0 ≤ rw ∧ rw ≤ 40) ∧ rw ≤ iI s 70 ∧ iI t 70 = iI s 70) → (40 - rw : Int).toNat < n → (∀ (t' : PS) (sm0' rw' : Int), Bd t' → Fm [] [] s t' → (sm0' = ofI (cD s) (cBk s) (cHd s) (fun k => iC s 155 k) y (rw' : Int).toNat) → (rng sm0' ∧ rw' = iI s 70) → WS k 85 [(0, .ref (A 173)), (1, .ref (A 177)), (2, .int (Int32.ofInt yv)), (3, .int (Int32.ofInt sm0')), (4, .int (Int32.ofInt rw'))] [] (Wd A dT t') 0 0) → WS k 5 [(0, .ref (A 173)), (1, .ref (A 177)), (2, .int (Int32.ofInt yv)), (3, .int (Int32.ofInt sm0)), (4, .int (Int32.ofInt rw))] [] (Wd A dT t) 0 0 := by
    intro n
    induction n with
    | zero =>
      intro t yv sm0 rw I F hq hi hm kx
      exact absurd hm (Nat.not_lt_zero _)
    | succ n ih =>
      intro t yv sm0 rw I F hq hi hm kx
      have b2001 := bi_70 I
      refine z_load X (x := rw) rfl (List.Mem.tail _ (List.Mem.tail _ (List.Mem.tail _ (List.Mem.tail _ (List.Mem.head _))))) (z_aload_n X (x := A 173) rfl (List.Mem.head _) (z_getI X 173 rfl (c518_ok rfl) rfl rfl ?_))
      have b2002 := bi_70 I
      refine z_icmp_ge X (t := 85) rfl rfl ⟨by first | exact oq_fa4e5087 hi.2.2.1.1 | omega, by first | exact oq_227d2cd7 hi.2.2.1.2 | omega⟩ (rng_to _) (fun g2003 => ?_) (fun g2003 => ?_)
      ·
        refine WS_pq [0, 1, 2, 3, 4] (lv' := [(0, .ref (A 173)), (1, .ref (A 177)), (2, .int (Int32.ofInt yv)), (3, .int (Int32.ofInt sm0)), (4, .int (Int32.ofInt rw))]) rfl ?_
        exact kx _ sm0 rw I F hq (by first | exact ⟨And.intro (hi.2.1.1) (hi.2.1.2), oq_537ca82a hi.2.2.2.1 g2003 hi.2.2.2.2⟩ | omega)
      ·
        refine z_aload_n X (x := A 173) rfl (List.Mem.head _) (s_getR X 173 rfl (c518_ok rfl) rfl rfl (z_load X (x := rw) rfl (List.Mem.tail _ (List.Mem.tail _ (List.Mem.tail _ (List.Mem.tail _ (List.Mem.head _))))) (z_zald X 176 rfl (c518_ok rfl) rfl (by first | exact hi.2.2.1.1 | omega) (show rw < 40 by first | exact oq_497ff6eb g2003 b2002.2 | omega) (cbig_ok rfl) ?_)))
        have b2004 := bc_154 I (show (rw).toNat < 40 by first | exact oq_23813e7c g2003 b2002.2 | omega)
        refine z_load_n X (x := yv) rfl (List.Mem.tail _ (List.Mem.tail _ (List.Mem.head _))) (z_icmp_ne X (t := 79) rfl rfl (rng_to _) ⟨by first | exact oq_ad8fc57c hi.1.2 hi.1.1 | omega, by first | exact oq_918d59e7 hi.1.2 hi.1.1 | omega⟩ (fun g2005 => ?_) (fun g2005 => ?_))
        ·
          refine z_inc X (x := rw) (lv' := [(4, .int (Int32.ofInt (rw + 1))), (0, .ref (A 173)), (1, .ref (A 177)), (2, .int (Int32.ofInt yv)), (3, .int (Int32.ofInt sm0))]) rfl (by decide) (List.Mem.tail _ (List.Mem.tail _ (List.Mem.tail _ (List.Mem.tail _ (List.Mem.head _))))) (fun _ h => h) (z_goto X (t := 5) rfl rfl (WS_pq [1, 2, 3, 4, 0] (lv' := [(0, .ref (A 173)), (1, .ref (A 177)), (2, .int (Int32.ofInt yv)), (3, .int (Int32.ofInt sm0)), (4, .int (Int32.ofInt (rw + 1)))]) rfl ?_))
          exact ih _ yv sm0 (rw + 1) I F (of_n hq (by first | (clear g2005 p0; omega) | (clear p0; omega) | omega) (fm_c F List.not_mem_nil : iC t 154 (rw : Int).toNat = iC s 154 (rw : Int).toNat) (by first | (clear g2005 p0; omega) | (clear p0; omega) | omega)) (by first | exact ⟨And.intro (hi.1.1) (hi.1.2), And.intro (hi.2.1.1) (hi.2.1.2), And.intro (oq_54f49eb5 hi.2.2.1.1) (oq_aa91b9d2 g2003 b2002.2), oq_b1226e90 hi.2.2.2.2 g2003, hi.2.2.2.2⟩ | omega) (by first | exact qk_me hm (by decide) (oq_e7680c39 g2003 b2002.2) | omega) kx
        ·
          have hbk : iC t 154 (rw : Int).toNat = iC s 154 (rw : Int).toNat := fm_c F List.not_mem_nil
          refine z_aload_n X (x := A 173) rfl (List.Mem.head _) (s_getR X 173 rfl (c518_ok rfl) rfl rfl (z_load X (x := rw) rfl (List.Mem.tail _ (List.Mem.tail _ (List.Mem.tail _ (List.Mem.tail _ (List.Mem.head _))))) (z_ald X 175 rfl (c518_ok rfl) rfl (by first | exact hi.2.2.1.1 | omega) (show rw < 40 by first | exact oq_497ff6eb g2003 b2002.2 | omega) (cbig_ok rfl) ?_)))
          have b2006 := bc_153 I (show (rw).toNat < 40 by first | exact oq_23813e7c g2003 b2002.2 | omega)
          refine z_store X (lv' := [(5, .int (Int32.ofInt (iC t 153 (rw).toNat))), (0, .ref (A 173)), (1, .ref (A 177)), (2, .int (Int32.ofInt yv)), (3, .int (Int32.ofInt sm0)), (4, .int (Int32.ofInt rw))]) rfl (by decide) (fun _ h => h) (z_const X rfl (z_store X (lv' := [(6, .int (Int32.ofInt 0)), (5, .int (Int32.ofInt (iC t 153 (rw).toNat))), (0, .ref (A 173)), (1, .ref (A 177)), (2, .int (Int32.ofInt yv)), (3, .int (Int32.ofInt sm0)), (4, .int (Int32.ofInt rw))]) rfl (by decide) (fun _ h => h) (WS_pq [2, 3, 4, 5, 6, 1, 0] (lv' := [(0, .ref (A 173)), (1, .ref (A 177)), (2, .int (Int32.ofInt yv)), (3, .int (Int32.ofInt sm0)), (4, .int (Int32.ofInt rw)), (5, .int (Int32.ofInt (iC t 153 (rw).toNat))), (6, .int (Int32.ofInt 0))]) rfl (L37 ((4 - 0 : Int).toNat + 1) t yv sm0 rw (iC t 153 (rw).toNat) 0 I F ⟨hq, (fm_c F List.not_mem_nil : iC t 153 (rw : Int).toNat = iC s 153 (rw : Int).toNat).trans fw_z⟩ (by first | exact ⟨And.intro (hi.1.1) (hi.1.2), And.intro (hi.2.1.1) (hi.2.1.2), And.intro (hi.2.2.1.1) (And.intro (oq_60d647b9 g2003 b2002.2) (oq_095218f7 hi.2.2.2.2 g2003)), And.intro (b2006.1) (b2006.2), And.intro (by decide) (by decide), oq_fcee0c4c hi.1.1 hbk g2005, hi.2.2.2.2⟩ | omega) (Nat.lt_succ_self _) ?_))))
          intro s2007 x2008 x2009 Is2007 Fs2007 Qs2007 hs2007
          have b2010 := bi_70 Is2007
          refine z_load_n X (x := sm0) rfl (List.Mem.tail _ (List.Mem.tail _ (List.Mem.tail _ (List.Mem.head _)))) (z_load X (x := x2008) rfl (List.Mem.tail _ (List.Mem.tail _ (List.Mem.tail _ (List.Mem.tail _ (List.Mem.tail _ (List.Mem.head _)))))) (z_absE X rfl rfl ⟨by first | exact hs2007.2.2.2.1.1 | omega, by first | exact hs2007.2.2.2.1.2 | omega⟩ (by rw [E.2.2.2]; decide) (by rw [E.2.2.2]; exact Nat.le_of_ble_eq_true rfl) (Nat.zero_le _) (Nat.zero_le _) (fun e2011 he2011 ee2011 => ?_)))
          refine z_add X rfl (z_anyV (fun y2012 hy2012 ey2012 => ?_))
          refine z_store_n X (lv' := [(3, .int (Int32.ofInt y2012)), (0, .ref (A 173)), (1, .ref (A 177)), (2, .int (Int32.ofInt yv)), (4, .int (Int32.ofInt rw)), (5, .int (Int32.ofInt x2008)), (6, .int (Int32.ofInt x2009))]) rfl (by decide) (fun _ h => h) (z_inc X (x := rw) (lv' := [(4, .int (Int32.ofInt (rw + 1))), (3, .int (Int32.ofInt y2012)), (0, .ref (A 173)), (1, .ref (A 177)), (2, .int (Int32.ofInt yv)), (5, .int (Int32.ofInt x2008)), (6, .int (Int32.ofInt x2009))]) rfl (by decide) (List.Mem.tail _ (List.Mem.tail _ (List.Mem.tail _ (List.Mem.tail _ (List.Mem.head _))))) (fun _ h => h) (z_goto X (t := 5) rfl rfl (WS_pq [2, 3, 4, 1, 0] (lv' := [(0, .ref (A 173)), (1, .ref (A 177)), (2, .int (Int32.ofInt yv)), (3, .int (Int32.ofInt y2012)), (4, .int (Int32.ofInt (rw + 1)))]) rfl ?_)))
          exact ih _ yv y2012 (rw + 1) Is2007 Fs2007 (of_y (g := iC s 154 (rw : Int).toNat) Qs2007.1 (by first | (clear p0; omega) | omega) rfl (by first | (clear p0; omega) | omega) (by have z := Qs2007.2; rw [show x2009 = 4 by first | (clear p0; omega) | omega] at z; exact z) ee2011 hy2012 ey2012) (by first | exact ⟨And.intro (hs2007.1.1) (hs2007.1.2), And.intro (hy2012.1) (hy2012.2), And.intro (oq_54f49eb5 hs2007.2.2.1.1) (oq_c93233a9 hs2007.2.2.1.2.1), oq_afc84a8d hs2007.2.2.1.2.2, hs2007.2.2.2.2.2.2⟩ | omega) (by first | exact qk_me hm (by decide) (oq_3e505acc hs2007.2.2.1.2.1) | omega) kx
  refine z_const X rfl (z_store_n X (lv' := [(3, .int (Int32.ofInt 0)), (0, .ref (A 173)), (1, .ref (A 177)), (2, .int (Int32.ofInt y))]) rfl (by decide) (fun _ h => h) (z_const X rfl (z_store X (lv' := [(4, .int (Int32.ofInt 0)), (3, .int (Int32.ofInt 0)), (0, .ref (A 173)), (1, .ref (A 177)), (2, .int (Int32.ofInt y))]) rfl (by decide) (fun _ h => h) (WS_pq [2, 3, 4, 1, 0] (lv' := [(0, .ref (A 173)), (1, .ref (A 177)), (2, .int (Int32.ofInt y)), (3, .int (Int32.ofInt 0)), (4, .int (Int32.ofInt 0))]) rfl (L5 ((40 - 0 : Int).toNat + 1) s y 0 0 I F rfl (by first | exact ⟨And.intro (by decide) (p0), And.intro (by decide) (by decide), And.intro (by decide) (by decide), b1.1, by decide⟩ | omega) (Nat.lt_succ_self _) ?_)))))
  intro s2 x3 x4 Is2 Fs2 Qs2 hs2
  have b5 := bi_70 Is2
  refine z_load_n X (x := x3) rfl (List.Mem.tail _ (List.Mem.tail _ (List.Mem.tail _ (List.Mem.head _)))) ?_
  exact w_iret X.1 q hRt rfl (ax_d X (show cdA 16 86 = some (.ireturn, 1, 0, 0, 0) from rfl)) (Nat.zero_le _) (Nat.zero_le _) ⟨_, rfl, Is2, Fs2, x3, rfl, ⟨by first | exact hs2.1.1 | omega, by first | exact hs2.1.2 | omega⟩, (by have z := Qs2; rw [show x4 = iI s 70 by first | (clear p0; omega) | omega] at z; exact z)⟩
set_option maxRecDepth 4000 in
theorem c1_offBack6 (G : GX l s0 D tys a0 dT) (I : Bd s)  : CT l s0 D A dT 13 (rmN 13) [.ref (A 173)] s (fun o t => Bd t ∧ Fm [] [] s t ∧ ∃ e, o = .inl (some (.int (Int32.ofInt e))) ∧ rng e ∧ (e = ofI (cD s) (cBk s) (cHd s) (fun k => iC s 155 k) 1 (iI s 70).toNat)) := by
  refine ct_ofX G (by decide) (Nat.le_of_ble_eq_true rfl) (fun k X E ET hRt hXt q => ?_)
  show WS k 0 [(0, .ref (A 173))] [] _ 0 0
  have F : Fm [] [] s s := fm_rf _ _ s
  refine z_aload_n X (x := A 173) rfl (List.Mem.head _) (z_aload_n X (x := A 173) rfl (List.Mem.head _) (s_getR X 173 rfl (c518_ok rfl) rfl rfl (z_const X rfl (zcV_i0 X E 173 (As := [.ref (A 177), .int (Int32.ofInt 1)]) (st := []) rfl rfl rfl rfl (c1_offOf6_177 G I (by first | exact Or.inr (by decide) | omega)) rfl (Nat.le_of_ble_eq_true rfl) (fun s1 e2 Is1 Fs1 hrs1 hps1 => ?_)))))
  have Gs1 := fm_tq F Fs1 rfl rfl
  exact w_iret X.1 q hRt rfl (ax_d X (show cdA 13 9 = some (.ireturn, 1, 0, 0, 0) from rfl)) (Nat.zero_le _) (Nat.zero_le _) ⟨_, rfl, Is1, Gs1, e2, rfl, hrs1, hps1⟩
set_option maxRecDepth 4000 in
theorem c1_solve6 (G : GX l s0 D tys a0 dT) (I : Bd s) (jFTK : FTK s)  : CT l s0 D A dT 12 (rmN 12) [.ref (A 173)] s (fun o t => Bd t ∧ Fm [71, 72] [156, 155] s t ∧ FTK t ∧ ∃ e, o = .inl (some (.int (Int32.ofInt e))) ∧ rng e ∧ ((e = 0 ∧ ¬ anF (cBk s) (iI s 70).toNat) ∨ (e = 1 ∧ anF (cBk s) (iI s 70).toNat ∧ BSQ (fxF (cD s) (cBk s) (cHd s) (iI s 70).toNat) 624 t))) := by
  refine ct_ofX G (by decide) (Nat.le_of_ble_eq_true rfl) (fun k X E ET hRt hXt q => ?_)
  show WS k 0 [(0, .ref (A 173))] [] _ 0 0
  have F : Fm [71, 72] [156, 155] s s := fm_rf _ _ s
  have hf0 := ft_0 jFTK
  have b1 := bi_70 I
  have b2 := bi_71 I
  have b3 := bi_72 I
  have L48 : ∀ (n : Nat) (t : PS) (mo c : Int), Bd t → Fm [71, 72] [156, 155] s t → (SLQ (fxF (cD s) (cBk s) (cHd s) (iI s 70).toNat) c mo t) → ((mo = 0 ∨ mo = 1) ∧ (0 ≤ c ∧ c ≤ 625) ∧ iI t 71 = iI s 70 ∧ iI t 70 = iI s 70) → (625 - c : Int).toNat < n → (∀ (t' : PS) (mo' c' : Int), Bd t' → Fm [71, 72] [156, 155] s t' → (SLQ (fxF (cD s) (cBk s) (cHd s) (iI s 70).toNat) c' mo' t') → ((625 ≤ c' ∨ mo' = 0) ∧ iI t' 71 = iI s 70 ∧ iI t' 70 = iI s 70) → WS k 107 [(0, .ref (A 173)), (1, .int (Int32.ofInt mo')), (2, .int (Int32.ofInt c'))] [] (Wd A dT t') 0 0) → WS k 48 [(0, .ref (A 173)), (1, .int (Int32.ofInt mo)), (2, .int (Int32.ofInt c))] [] (Wd A dT t) 0 0 := by
    intro n
    induction n with
    | zero =>
      intro t mo c I F hq hi hm kx
      exact absurd hm (Nat.not_lt_zero _)
    | succ n ih =>
      intro t mo c I F hq hi hm kx
      have b1001 := bi_70 I
      have b1002 := bi_71 I
      have b1003 := bi_72 I
      refine z_load_n X (x := c) rfl (List.Mem.tail _ (List.Mem.tail _ (List.Mem.head _))) (z_sipush X rfl (z_icmp_ge X (t := 107) rfl rfl ⟨by first | exact oq_fa4e5087 hi.2.1.1 | omega, by first | exact oq_82406429 hi.2.1.2 | omega⟩ (by decide) (fun g1004 => ?_) (fun g1004 => ?_)))
      ·
        refine WS_pq [0, 1, 2] (lv' := [(0, .ref (A 173)), (1, .int (Int32.ofInt mo)), (2, .int (Int32.ofInt c))]) rfl ?_
        exact kx _ mo c I F hq (by first | exact ⟨Or.inl (g1004), hi.2.2.1, hi.2.2.2⟩ | omega)
      ·
        refine z_load_n X (x := mo) rfl (List.Mem.tail _ (List.Mem.head _)) (z_if_eq X (t := 107) rfl rfl ⟨by first | exact oq_bde653e9 hi.1 | omega, by first | exact oq_4ad2cb8b hi.1 | omega⟩ (fun g1005 => ?_) (fun g1005 => ?_))
        ·
          refine WS_pq [0, 1, 2] (lv' := [(0, .ref (A 173)), (1, .int (Int32.ofInt mo)), (2, .int (Int32.ofInt c))]) rfl ?_
          exact kx _ mo c I F hq (by first | exact ⟨Or.inr (g1005), hi.2.2.1, hi.2.2.2⟩ | omega)
        ·
          refine z_aload_n X (x := A 173) rfl (List.Mem.head _) (z_aload_n X (x := A 173) rfl (List.Mem.head _) (s_getR X 173 rfl (c518_ok rfl) rfl rfl (z_const X rfl (zcV_i0 X E 173 (As := [.ref (A 178), .int (Int32.ofInt 0)]) (st := []) rfl rfl rfl rfl (c1_offOf6_178 G I (by first | exact Or.inl (by decide) | omega)) rfl (Nat.le_of_ble_eq_true rfl) (fun s1006 e1007 Is1006 Fs1006 hrs1006 hps1006 => ?_)))))
          have Gs1006 := fm_tq F Fs1006 rfl rfl
          have ws1006_70 : iI s1006 70 = iI t 70 := fm_iq Fs1006 rfl
          have ws1006_71 : iI s1006 71 = iI t 71 := fm_iq Fs1006 rfl
          have ws1006_72 : iI s1006 72 = iI t 72 := fm_iq Fs1006 rfl
          have aws1006_156 : SAM 156 t s1006 := sam_ts (sam_rf (a := 156) (s := t)) (sam_fm Fs1006 (by decide))
          have aws1006_155 : SAM 155 t s1006 := sam_ts (sam_rf (a := 155) (s := t)) (sam_fm Fs1006 (by decide))
          have hT : TRQ c t := by rcases hq.1 with z | z; (· exact z.2.2); (· exact absurd z (by first | (clear g1005; omega) | omega))
          have hS : e1007 = (fxF (cD s) (cBk s) (cHd s) (iI s 70).toNat) (c : Int).toNat := sl_f hT (srw_c (sam_fm F (by decide)) (sam_fm F (by decide)) (sam_fm F (by decide))) (by have z := hps1006; rw [show iI t 70 = iI s 70 by first | (clear g1005; omega) | omega] at z; exact z)
          refine z_store_n X (lv' := [(3, .int (Int32.ofInt e1007)), (0, .ref (A 173)), (1, .int (Int32.ofInt mo)), (2, .int (Int32.ofInt c))]) rfl (by decide) (fun _ h => h) (z_load_n X (x := e1007) rfl (List.Mem.head _) (z_aload_n X (x := A 173) rfl (List.Mem.tail _ (List.Mem.head _)) (z_getI X 173 rfl (c518_ok rfl) rfl rfl ?_)))
          have b1008 := bi_72 Is1006
          refine z_icmp_ge X (t := 96) rfl rfl hrs1006 (rng_to _) (fun g1009 => ?_) (fun g1009 => ?_)
          ·
            have hB9 : BSQ (fxF (cD s) (cBk s) (cHd s) (iI s 70).toNat) (c : Int).toNat s1006 := bsq_n (by first | (clear g1005; omega) | omega) hq.2 hf0 hS (by first | (clear g1005; omega) | omega) (by first | (clear g1005; omega) | omega) aws1006_155
            have hT9 : TRQ c s1006 := trq_s hT aws1006_156
            refine z_aload_n X (x := A 173) rfl (List.Mem.tail _ (List.Mem.head _)) (zcV_i0 X E 173 (As := []) (st := []) rfl rfl rfl rfl (c1_nextTrial6 G Is1006 hT9 ) rfl (Nat.le_of_ble_eq_true rfl) (fun s1010 e1011 Is1010 Fs1010 hrs1010 hps1010 => ?_))
            have Gs1010 := fm_tq Gs1006 Fs1010 rfl rfl
            have ws1010_70 : iI s1010 70 = iI s1006 70 := fm_iq Fs1010 rfl
            have ws1010_71 : iI s1010 71 = iI s1006 71 := fm_iq Fs1010 rfl
            have ws1010_72 : iI s1010 72 = iI s1006 72 := fm_iq Fs1010 rfl
            have aws1010_155 : SAM 155 t s1010 := sam_ts aws1006_155 (sam_fm Fs1010 (by decide))
            refine z_store_n X (lv' := [(1, .int (Int32.ofInt e1011)), (3, .int (Int32.ofInt e1007)), (0, .ref (A 173)), (2, .int (Int32.ofInt c))]) rfl (by decide) (fun _ h => h) (z_inc X (x := c) (lv' := [(2, .int (Int32.ofInt (c + 1))), (1, .int (Int32.ofInt e1011)), (3, .int (Int32.ofInt e1007)), (0, .ref (A 173))]) rfl (by decide) (List.Mem.tail _ (List.Mem.tail _ (List.Mem.tail _ (List.Mem.head _)))) (fun _ h => h) (z_goto X (t := 48) rfl rfl (WS_pq [3, 1, 0] (lv' := [(0, .ref (A 173)), (1, .int (Int32.ofInt e1011)), (2, .int (Int32.ofInt (c + 1)))]) rfl ?_)))
            exact ih _ e1011 (c + 1) Is1010 Gs1010 (slq_up (by first | (clear hps1010 g1005; omega) | (clear g1005; omega) | omega) hB9 hps1010 (by first | (clear hps1010 g1005; omega) | (clear g1005; omega) | omega) (sam_fm Fs1010 (by decide))) (by first | exact ⟨by first | (clear hps1010 g1005; omega) | (clear g1005; omega) | omega, And.intro (oq_54f49eb5 hi.2.1.1) (oq_d524a3cb g1004), oq_878618b1 ws1010_71 ws1006_71 hi.2.2.1, oq_878618b1 ws1010_70 ws1006_70 hi.2.2.2⟩ | omega) (by first | exact qk_me hm (by decide) (oq_ad009edd g1004) | omega) kx
          ·
            refine z_aload_n X (x := A 173) rfl (List.Mem.tail _ (List.Mem.head _)) (z_load_n X (x := e1007) rfl (List.Mem.head _) (s_putI X 173 rfl (c518_ok rfl) rfl rfl (by decide) rfl rfl rfl (wd_gen (fun s1012 hs1012 => ?_))))
            have Is1012 : Bd s1012 := eqB hs1012 (bd_I Is1006 (show ((-2147483648) : Int) ≤ e1007 ∧ e1007 ≤ 2147483647 by first | exact ⟨by first | (clear g1005; omega) | omega, oq_ef392b12 g1009 b1008.2⟩ | omega) hrs1006)
            have Fs1012 := eqF hs1012 (fm_I Gs1006 (inl_ok (a := 72) rfl))
            have vs1012 : iI s1012 72 = e1007 := eqI hs1012 (iI_u hrs1006)
            have ws1012_70 : iI s1012 70 = iI s1006 70 := eqI hs1012 rfl
            have ws1012_71 : iI s1012 71 = iI s1006 71 := eqI hs1012 rfl
            have aws1012_156 : SAM 156 t s1012 := by rw [hs1012]; exact aws1006_156
            have aws1012_155 : SAM 155 t s1012 := by rw [hs1012]; exact aws1006_155
            refine z_aload_n X (x := A 173) rfl (List.Mem.tail _ (List.Mem.head _)) (s_getR X 173 rfl (c518_ok rfl) rfl rfl (z_const X rfl (z_aload_n X (x := A 173) rfl (List.Mem.tail _ (List.Mem.head _)) (s_getR X 173 rfl (c518_ok rfl) rfl rfl (z_const X rfl (z_const X rfl (z_copyF X Is1012 178 177 (st := []) rfl (by decide) (by decide) rfl rfl (by first | (clear g1005; omega) | omega) (by first | (clear g1005; omega) | omega) (by first | (clear g1005; omega) | omega) (show 0 + 4 ≤ ((4 : Nat) : Int) by first | (clear g1005; omega) | omega) (show 0 + 4 ≤ ((4 : Nat) : Int) by first | (clear g1005; omega) | omega) (by decide) (by rw [E.2.2.2]; decide) (by rw [E.2.2.2]; exact Nat.le_of_ble_eq_true rfl) (fun s1013 Is1013 Fs1013 cs1013 => ?_))))))))
            have Gs1013 := fm_tq Fs1012 Fs1013 rfl rfl
            have aws1013_156 : SAM 156 t s1013 := sam_ts aws1012_156 (sam_fm Fs1013 (by decide))
            have ws1013_70 : iI s1013 70 = iI s1012 70 := fm_iq Fs1013 rfl
            have ws1013_71 : iI s1013 71 = iI s1012 71 := fm_iq Fs1013 rfl
            have ws1013_72 : iI s1013 72 = iI s1012 72 := fm_iq Fs1013 rfl
            have hB9 : BSQ (fxF (cD s) (cBk s) (cHd s) (iI s 70).toNat) (c : Int).toNat s1013 := bsq_y (by first | (clear g1005; omega) | omega) hq.2 hS (by first | (clear g1005; omega) | omega) (by first | (clear g1005; omega) | omega) hT (fun k hk => (cp_w cs1013 k hk).trans (aws1012_156 k))
            have hT9 : TRQ c s1013 := trq_s hT aws1013_156
            refine z_aload_n X (x := A 173) rfl (List.Mem.tail _ (List.Mem.head _)) (zcV_i0 X E 173 (As := []) (st := []) rfl rfl rfl rfl (c1_nextTrial6 G Is1013 hT9 ) rfl (Nat.le_of_ble_eq_true rfl) (fun s1014 e1015 Is1014 Fs1014 hrs1014 hps1014 => ?_))
            have Gs1014 := fm_tq Gs1013 Fs1014 rfl rfl
            have ws1014_70 : iI s1014 70 = iI s1013 70 := fm_iq Fs1014 rfl
            have ws1014_71 : iI s1014 71 = iI s1013 71 := fm_iq Fs1014 rfl
            have ws1014_72 : iI s1014 72 = iI s1013 72 := fm_iq Fs1014 rfl
            refine z_store_n X (lv' := [(1, .int (Int32.ofInt e1015)), (3, .int (Int32.ofInt e1007)), (0, .ref (A 173)), (2, .int (Int32.ofInt c))]) rfl (by decide) (fun _ h => h) (z_inc X (x := c) (lv' := [(2, .int (Int32.ofInt (c + 1))), (1, .int (Int32.ofInt e1015)), (3, .int (Int32.ofInt e1007)), (0, .ref (A 173))]) rfl (by decide) (List.Mem.tail _ (List.Mem.tail _ (List.Mem.tail _ (List.Mem.head _)))) (fun _ h => h) (z_goto X (t := 48) rfl rfl (WS_pq [3, 1, 0] (lv' := [(0, .ref (A 173)), (1, .int (Int32.ofInt e1015)), (2, .int (Int32.ofInt (c + 1)))]) rfl ?_)))
            exact ih _ e1015 (c + 1) Is1014 Gs1014 (slq_up (by first | (clear hps1014 g1005; omega) | (clear g1005; omega) | omega) hB9 hps1014 (by first | (clear hps1014 g1005; omega) | (clear g1005; omega) | omega) (sam_fm Fs1014 (by decide))) (by first | exact ⟨by first | (clear hps1014 g1005; omega) | (clear g1005; omega) | omega, And.intro (oq_54f49eb5 hi.2.1.1) (oq_d524a3cb g1004), oq_469c7eaf ws1014_71 ws1013_71 ws1012_71 ws1006_71 hi.2.2.1, oq_469c7eaf ws1014_70 ws1013_70 ws1012_70 ws1006_70 hi.2.2.2⟩ | omega) (by first | exact qk_me hm (by decide) (oq_ad009edd g1004) | omega) kx
  refine z_aload_n X (x := A 173) rfl (List.Mem.head _) (zcV_i0 X E 173 (As := []) (st := []) rfl rfl rfl rfl (c1_anyRow6 G I ) rfl (Nat.le_of_ble_eq_true rfl) (fun s4 e5 Is4 Fs4 hrs4 hps4 => ?_))
  have Gs4 := fm_tq F Fs4 rfl rfl
  have JFTK_s4 : FTK s4 := FTK_fm Fs4 (by decide) jFTK
  have ws4_70 : iI s4 70 = iI s 70 := fm_iq Fs4 rfl
  have ws4_71 : iI s4 71 = iI s 71 := fm_iq Fs4 rfl
  have ws4_72 : iI s4 72 = iI s 72 := fm_iq Fs4 rfl
  refine z_if_ne X (t := 9) rfl rfl hrs4 (fun g6 => ?_) (fun g6 => ?_)
  ·
    have hA : anF (cBk s) (iI s 70).toNat := by rcases hps4 with z | z; (· exact z.2); (· exact absurd z.1 (by first | (clear g6 hps4; omega) | (clear hps4; omega) | omega))
    refine z_aload_n X (x := A 173) rfl (List.Mem.head _) (z_getI X 173 rfl (c518_ok rfl) rfl rfl ?_)
    have b7 := bi_71 Is4
    refine z_aload_n X (x := A 173) rfl (List.Mem.head _) (z_getI X 173 rfl (c518_ok rfl) rfl rfl ?_)
    have b8 := bi_70 Is4
    refine z_icmp_ne X (t := 22) rfl rfl (rng_to _) (rng_to _) (fun g9 => ?_) (fun g9 => ?_)
    ·
      refine z_aload_n X (x := A 173) rfl (List.Mem.head _) (z_aload_n X (x := A 173) rfl (List.Mem.head _) (z_getI X 173 rfl (c518_ok rfl) rfl rfl ?_))
      have b10 := bi_70 Is4
      refine s_putI X 173 rfl (c518_ok rfl) rfl rfl (by decide) rfl rfl rfl (wd_gen (fun s11 hs11 => ?_))
      have Is11 : Bd s11 := eqB hs11 (bd_I Is4 (show ((-2147483648) : Int) ≤ (iI s4 70) ∧ (iI s4 70) ≤ 2147483647 by first | exact ⟨oq_fa4e5087 b10.1, oq_227d2cd7 b10.2⟩ | omega) (rng_to _))
      have Fs11 := eqF hs11 (fm_I Gs4 (inl_ok (a := 71) rfl))
      have vs11 : iI s11 71 = (iI s4 70) := eqI hs11 (iI_u (rng_to _))
      have ws11_70 : iI s11 70 = iI s4 70 := eqI hs11 rfl
      have ws11_72 : iI s11 72 = iI s4 72 := eqI hs11 rfl
      refine z_aload_n X (x := A 173) rfl (List.Mem.head _) (s_getR X 173 rfl (c518_ok rfl) rfl rfl (z_const X rfl (zcS_v0 X E (As := [.ref (A 178), .int (Int32.ofInt 0)]) (st := []) rfl rfl (j_fill6 G Is11 (by first | exact ⟨by decide, by decide⟩ | omega)) rfl (Nat.le_of_ble_eq_true rfl) (fun s12 Is12 Fs12 hps12 => ?_))))
      have Gs12 := fm_tq Fs11 Fs12 rfl rfl
      have ws12_70 : iI s12 70 = iI s11 70 := fm_iq Fs12 rfl
      have ws12_71 : iI s12 71 = iI s11 71 := fm_iq Fs12 rfl
      have ws12_72 : iI s12 72 = iI s11 72 := fm_iq Fs12 rfl
      refine z_aload_n X (x := A 173) rfl (List.Mem.head _) (z_ldc X rfl (s_putI X 173 rfl (c518_ok rfl) rfl rfl (by decide) rfl rfl rfl (wd_gen (fun s14 hs14 => ?_))))
      have Is14 : Bd s14 := eqB hs14 (bd_I Is12 (show ((-2147483648) : Int) ≤ 2147483647 ∧ 2147483647 ≤ 2147483647 by first | exact ⟨by decide, by decide⟩ | omega) (by decide))
      have Fs14 := eqF hs14 (fm_I Gs12 (inl_ok (a := 72) rfl))
      have vs14 : iI s14 72 = 2147483647 := eqI hs14 (iI_u (by decide))
      have ws14_70 : iI s14 70 = iI s12 70 := eqI hs14 rfl
      have ws14_71 : iI s14 71 = iI s12 71 := eqI hs14 rfl
      refine z_const X rfl (z_store_n X (lv' := [(1, .int (Int32.ofInt 1)), (0, .ref (A 173))]) rfl (by decide) (fun _ h => h) (z_const X rfl (z_store_n X (lv' := [(2, .int (Int32.ofInt 0)), (1, .int (Int32.ofInt 1)), (0, .ref (A 173))]) rfl (by decide) (fun _ h => h) (WS_pq [2, 1, 0] (lv' := [(0, .ref (A 173)), (1, .int (Int32.ofInt 1)), (2, .int (Int32.ofInt 0))]) rfl (L48 ((625 - 0 : Int).toNat + 1) s14 1 0 Is14 Fs14 (slq_0 (fun k hk => (show iC s14 156 k = iC s12 156 k from by rw [hs14]; rfl).trans (hps12 k (by first | (clear g9 g6 hps4; omega) | (clear g6 hps4; omega) | omega))) (by first | (clear g9 g6 hps4; omega) | (clear g6 hps4; omega) | omega)) (by first | exact ⟨Or.inr (by decide), And.intro (by decide) (by decide), oq_45b593e3 ws14_71 ws4_70 ws12_71 vs11, oq_45b593e3 ws14_70 ws4_70 ws12_70 ws11_70⟩ | omega) (Nat.lt_succ_self _) ?_)))))
      intro s15 x16 x17 Is15 Fs15 Qs15 hs15
      have b18 := bi_70 Is15
      have b19 := bi_71 Is15
      have b20 := bi_72 Is15
      have hX := slq_x Qs15 (by first | (clear g9 g6 hps4; omega) | (clear g6 hps4; omega) | omega)
      have hF9 : FTK s15 := ftk_n jFTK (by first | (clear g9 g6 hps4; omega) | (clear g6 hps4; omega) | omega) (by first | (clear g9 g6 hps4; omega) | (clear g6 hps4; omega) | omega) (srw_c (sam_fm Fs15 (by decide)) (sam_fm Fs15 (by decide)) (sam_fm Fs15 (by decide))) hX
      refine z_const X rfl ?_
      exact w_iret X.1 q hRt (nar_ret (by first | exact Or.inr (by decide) | omega)) (ax_d X (show cdA 12 108 = some (.ireturn, 1, 0, 0, 0) from rfl)) (Nat.zero_le _) (Nat.zero_le _) ⟨_, rfl, Is15, Fs15, hF9, 1, rfl, (by decide), Or.inr ⟨by decide, hA, hX⟩⟩
    ·
      have hX : BSQ (fxF (cD s) (cBk s) (cHd s) (iI s 70).toNat) 624 s4 := bsq_s (jFTK.2.2 (by first | (clear g6 hps4; omega) | (clear hps4; omega) | omega) hA) (fm_i Fs4 (by decide)) (sam_fm Fs4 (by decide))
      refine z_const X rfl ?_
      exact w_iret X.1 q hRt (nar_ret (by first | exact Or.inr (by decide) | omega)) (ax_d X (show cdA 12 21 = some (.ireturn, 1, 0, 0, 0) from rfl)) (Nat.zero_le _) (Nat.zero_le _) ⟨_, rfl, Is4, Gs4, JFTK_s4, 1, rfl, (by decide), Or.inr ⟨by decide, hA, hX⟩⟩
  ·
    have hNA : ¬ anF (cBk s) (iI s 70).toNat := by rcases hps4 with z | z; (· exact absurd z.1 (by first | (clear hps4; omega) | omega)); (· exact z.2)
    refine z_const X rfl ?_
    exact w_iret X.1 q hRt (nar_ret (by first | exact Or.inl (by decide) | omega)) (ax_d X (show cdA 12 8 = some (.ireturn, 1, 0, 0, 0) from rfl)) (Nat.zero_le _) (Nat.zero_le _) ⟨_, rfl, Is4, Gs4, JFTK_s4, 0, rfl, (by decide), Or.inl ⟨by decide, hNA⟩⟩
set_option maxRecDepth 4000 in
theorem cs_fit6 (G : GX l s0 D tys a0 dT) (I : Bd s) (jFTK : FTK s) {v : Int} (p0 : rng v) : CT l s0 D A dT 172 (rmN 172) [.ref (A 0), .int (Int32.ofInt v)] s (fun o t => Bd t ∧ Fm [71, 72] [156, 155] s t ∧ FTK t ∧ ((∃ e, o = .inl (some (.int (Int32.ofInt e))) ∧ rng e ∧ ((0 ≤ v ∧ v ≤ 5) ∧ FTE (cD s) (cBk s) (cHd s) (iI s 70).toNat v e)) ∨ ∃ x : Nat, o = .inr (exN x) ∧ (x = 0 ∧ (v < 0 ∨ 5 < v)))) := by
  refine ct_ofX G (by decide) (Nat.le_of_ble_eq_true rfl) (fun k X E ET hRt hXt q => ?_)
  show WS k 0 [(0, .ref (A 0)), (1, .int (Int32.ofInt v))] [] _ 0 0
  have F : Fm [71, 72] [156, 155] s s := fm_rf _ _ s
  have b1 := bi_70 I
  have b2 := bi_72 I
  refine z_aload_n X (x := A 0) rfl (List.Mem.head _) (z_load_n X (x := v) rfl (List.Mem.tail _ (List.Mem.head _)) (z_const X rfl (z_const X rfl (z_callV X 0 (rm := rmN 184) (As := [.int (Int32.ofInt v), .int (Int32.ofInt 0), .int (Int32.ofInt 5)]) (st := []) rfl rfl (by decide) rfl (by rw [E.1, E.2.1, E.2.2.1]; exact cs_needWithin2 G I (by first | exact ⟨p0.1, p0.2⟩ | omega) (by first | exact ⟨by decide, by decide⟩ | omega) (by first | exact ⟨by decide, by decide⟩ | omega)) ⟨by rw [E.2.2.2]; exact (show (rmN 184).frames + 1 ≤ (rmN 172).frames by decide), by rw [E.2.2.2]; exact (show 8 + (mNL (miB 184) + 11) + (rmN 184).locals ≤ (rmN 172).locals by decide), by rw [E.2.2.2]; exact (show 0 + 1 ≤ 1 by decide), by rw [E.2.2.2]; exact (show 0 + 6 ≤ 6 by decide)⟩ (Nat.le_of_ble_eq_true rfl) (fun vv s3 hq => ?_) (fun ee s3 hq => ?_)))))
  rotate_left
  · obtain ⟨Is3, Fs3, (⟨hv, hps3⟩ | ⟨xx, hv, hps3⟩)⟩ := hq
    · cases hv
    · cases hv
      have Gs3 := fm_tq F Fs3 rfl rfl
      have JFTK_s3 : FTK s3 := FTK_fm Fs3 (by decide) jFTK
      have ws3_70 : iI s3 70 = iI s 70 := fm_iq Fs3 rfl
      have ws3_72 : iI s3 72 = iI s 72 := fm_iq Fs3 rfl
      exact x_out X.1 q (fun x hx => (hXt x hx).elim) (show 1 ≤ 1 by decide) (show 6 ≤ 6 by decide) ⟨_, rfl, Is3, Gs3, JFTK_s3, Or.inr ⟨xx, rfl, by omega⟩⟩
  obtain ⟨Is3, Fs3, (⟨hv, hps3⟩ | ⟨xx, hv, hps3⟩)⟩ := hq
  rotate_left
  · cases hv
  cases hv
  have Gs3 := fm_tq F Fs3 rfl rfl
  have JFTK_s3 : FTK s3 := FTK_fm Fs3 (by decide) jFTK
  have ws3_70 : iI s3 70 = iI s 70 := fm_iq Fs3 rfl
  have ws3_72 : iI s3 72 = iI s 72 := fm_iq Fs3 rfl
  show WS k 7 [(0, .ref (A 0)), (1, .int (Int32.ofInt v))] [] (Wd A dT s3) 1 6
  refine z_aload_n X (x := A 0) rfl (List.Mem.head _) (s_getR X 0 rfl (c518_ok rfl) rfl rfl (z_callV X 173 (rm := rmN 12) (As := []) (st := []) rfl rfl (by decide) rfl (by rw [E.1, E.2.1, E.2.2.1]; exact c1_solve6 G Is3 JFTK_s3 ) ⟨by rw [E.2.2.2]; exact (show (rmN 12).frames + 1 ≤ (rmN 172).frames by decide), by rw [E.2.2.2]; exact (show 8 + (mNL (miB 12) + 11) + (rmN 12).locals ≤ (rmN 172).locals by decide), by rw [E.2.2.2]; exact (show 1 + 0 ≤ 1 by decide), by rw [E.2.2.2]; exact (show 6 + 0 ≤ 6 by decide)⟩ (Nat.le_of_ble_eq_true rfl) (fun vv s5 hq => ?_) (fun ee s5 hq => ?_)))
  rotate_left
  · obtain ⟨Is5, Fs5, JFTK_s5, e6, hv, hrs5, hps5⟩ := hq; cases hv
  obtain ⟨Is5, Fs5, JFTK_s5, e6, hv, hrs5, hps5⟩ := hq
  cases hv
  have Gs5 := fm_tq Gs3 Fs5 rfl rfl
  have ws5_70 : iI s5 70 = iI s3 70 := fm_iq Fs5 rfl
  have b7 := bi_72 Is5
  show WS k 14 [(0, .ref (A 0)), (1, .int (Int32.ofInt v))] [.int (Int32.ofInt e6)] (Wd A dT s5) 1 6
  have hW : (iI s3 70).toNat = (iI s 70).toNat := by rw [show iI s3 70 = iI s 70 by first | (clear hps5 hps3; omega) | (clear hps3; omega) | omega]
  refine z_if_ne X (t := 19) rfl rfl hrs5 (fun g8 => ?_) (fun g8 => ?_)
  ·
    have hAB : anF (cBk s3) (iI s 70).toNat ∧ BSQ (fxF (cD s3) (cBk s3) (cHd s3) (iI s 70).toNat) 624 s5 := by rcases hps5 with z | z; (· exact absurd z.1 (by first | (clear g8 hps5 hps3; omega) | (clear hps5 hps3; omega) | omega)); (· have w := z.2; rw [hW] at w; exact w)
    refine z_load_n X (x := v) rfl (List.Mem.tail _ (List.Mem.head _)) (z_const X rfl (z_icmp_ne X (t := 34) rfl rfl ⟨by first | exact p0.1 | omega, by first | exact p0.2 | omega⟩ (by decide) (fun g9 => ?_) (fun g9 => ?_)))
    ·
      refine z_load_n X (x := v) rfl (List.Mem.tail _ (List.Mem.head _)) (z_const X rfl (z_icmp_ne X (t := 49) rfl rfl ⟨by first | exact p0.1 | omega, by first | exact p0.2 | omega⟩ (by decide) (fun g10 => ?_) (fun g10 => ?_)))
      ·
        refine z_aload_n X (x := A 0) rfl (List.Mem.head _) (s_getR X 0 rfl (c518_ok rfl) rfl rfl (s_getR X 173 rfl (c518_ok rfl) rfl rfl (z_load_n X (x := v) rfl (List.Mem.tail _ (List.Mem.head _)) (z_ald X 177 rfl (c518_ok rfl) rfl (by first | exact hps3.1 | omega) (show v < 4 by first | exact oq_c7ff8bdb g10 g9 hps3.2 | omega) (cbig_ok rfl) ?_))))
        have b11 := bc_155 Is5 (show (v).toNat < 4 by first | exact oq_241c03de g10 g9 hps3.2 | omega)
        exact w_iret X.1 q hRt rfl (ax_d X (show cdA 172 58 = some (.ireturn, 1, 0, 0, 0) from rfl)) (show 1 ≤ 1 by decide) (show 6 ≤ 6 by decide) ⟨_, rfl, Is5, Gs5, JFTK_s5, Or.inl ⟨(iC s5 155 (v).toNat), rfl, (rng_to _), ⟨by first | exact ⟨hps3.1, hps3.2⟩ | omega, fte_s (srw_c (sam_fm Gs3 (by decide)) (sam_fm Gs3 (by decide)) (sam_fm Gs3 (by decide))) (fte_w hAB.1 hAB.2 (by first | (clear g10 g9 g8 hps5 hps3; omega) | (clear g9 g8 hps5 hps3; omega) | omega) rfl)⟩⟩⟩
      ·
        refine z_aload_n X (x := A 0) rfl (List.Mem.head _) (s_getR X 0 rfl (c518_ok rfl) rfl rfl (z_callV X 173 (rm := rmN 13) (As := []) (st := []) rfl rfl (by decide) rfl (by rw [E.1, E.2.1, E.2.2.1]; exact c1_offBack6 G Is5 ) ⟨by rw [E.2.2.2]; exact (show (rmN 13).frames + 1 ≤ (rmN 172).frames by decide), by rw [E.2.2.2]; exact (show 8 + (mNL (miB 13) + 11) + (rmN 13).locals ≤ (rmN 172).locals by decide), by rw [E.2.2.2]; exact (show 1 + 0 ≤ 1 by decide), by rw [E.2.2.2]; exact (show 6 + 0 ≤ 6 by decide)⟩ (Nat.le_of_ble_eq_true rfl) (fun vv s12 hq => ?_) (fun ee s12 hq => ?_)))
        rotate_left
        · obtain ⟨Is12, Fs12, e13, hv, hrs12, hps12⟩ := hq; cases hv
        obtain ⟨Is12, Fs12, e13, hv, hrs12, hps12⟩ := hq
        cases hv
        have Gs12 := fm_tq Gs5 Fs12 rfl rfl
        have JFTK_s12 : FTK s12 := FTK_fm Fs12 (by decide) JFTK_s5
        have ws12_70 : iI s12 70 = iI s5 70 := fm_iq Fs12 rfl
        have ws12_72 : iI s12 72 = iI s5 72 := fm_iq Fs12 rfl
        show WS k 46 [(0, .ref (A 0)), (1, .int (Int32.ofInt v))] [.int (Int32.ofInt e13)] (Wd A dT s12) 1 6
        refine z_goto X (t := 58) rfl rfl ?_
        exact w_iret X.1 q hRt rfl (ax_d X (show cdA 172 58 = some (.ireturn, 1, 0, 0, 0) from rfl)) (show 1 ≤ 1 by decide) (show 6 ≤ 6 by decide) ⟨_, rfl, Is12, Gs12, JFTK_s12, Or.inl ⟨e13, rfl, hrs12, ⟨by first | exact ⟨hps3.1, hps3.2⟩ | omega, fte_s (srw_c (sam_fm Gs3 (by decide)) (sam_fm Gs3 (by decide)) (sam_fm Gs3 (by decide))) (fte_5 hAB.1 hAB.2 (srw_c (sam_fm Fs5 (by decide)) (sam_fm Fs5 (by decide)) (sam_fm Fs5 (by decide))) (by first | (clear g9 g8 hps5 hps3; omega) | (clear g8 hps5 hps3; omega) | omega) (by have z := hps12; rw [show iI s5 70 = iI s 70 by first | (clear g9 g8 hps5 hps3; omega) | (clear g8 hps5 hps3; omega) | omega] at z; exact z))⟩⟩⟩
    ·
      refine z_aload_n X (x := A 0) rfl (List.Mem.head _) (s_getR X 0 rfl (c518_ok rfl) rfl rfl (z_getI X 173 rfl (c518_ok rfl) rfl rfl ?_))
      have b14 := bi_72 Is5
      refine z_goto X (t := 58) rfl rfl ?_
      exact w_iret X.1 q hRt rfl (ax_d X (show cdA 172 58 = some (.ireturn, 1, 0, 0, 0) from rfl)) (show 1 ≤ 1 by decide) (show 6 ≤ 6 by decide) ⟨_, rfl, Is5, Gs5, JFTK_s5, Or.inl ⟨(iI s5 72), rfl, (rng_to _), ⟨by first | exact ⟨hps3.1, hps3.2⟩ | omega, fte_s (srw_c (sam_fm Gs3 (by decide)) (sam_fm Gs3 (by decide)) (sam_fm Gs3 (by decide))) (fte_4 hAB.1 hAB.2 (by first | (clear g8 hps5 hps3; omega) | (clear hps5 hps3; omega) | omega) rfl)⟩⟩⟩
  ·
    have hNA : ¬ anF (cBk s3) (iI s 70).toNat := by rcases hps5 with z | z; (· have w := z.2; rw [hW] at w; exact w); (· exact absurd z.1 (by first | (clear hps5 hps3; omega) | (clear hps3; omega) | omega))
    refine z_const X rfl ?_
    exact w_iret X.1 q hRt rfl (ax_d X (show cdA 172 18 = some (.ireturn, 1, 0, 0, 0) from rfl)) (show 1 ≤ 1 by decide) (show 6 ≤ 6 by decide) ⟨_, rfl, Is5, Gs5, JFTK_s5, Or.inl ⟨(-1), rfl, (by decide), ⟨by first | exact ⟨hps3.1, hps3.2⟩ | omega, fte_s (srw_c (sam_fm Gs3 (by decide)) (sam_fm Gs3 (by decide)) (sam_fm Gs3 (by decide))) (Or.inl ⟨hNA, by first | (clear hps5 hps3; omega) | (clear hps3; omega) | omega⟩)⟩⟩⟩
set_option maxRecDepth 4000 in
theorem lw_fit6 (G : GX l s0 D tys a0 dT) (I : Bd s) (jFTK : FTK s) {v : Int} (p0 : rng v) : CTL l s0 D A dT 346 (rmN 346) [.ref (A 0), .int (Int32.ofInt v), .ref (A 517)] s (fun o t => Bd t ∧ Fm [71, 72] [156, 155, 1460] s t ∧ FTK t ∧ ∃ e, o = .inl (some (.int (Int32.ofInt e))) ∧ rng e ∧ ((e = 0 ∧ (0 ≤ v ∧ v ≤ 5) ∧ FTE (cD s) (cBk s) (cHd s) (iI s 70).toNat v (iO t)) ∨ (e = 1 ∧ (v < 0 ∨ 5 < v)))) := by
  refine ctL_of G (by decide) (Nat.le_of_ble_eq_true rfl) (by decide) rfl (fun k X E ET hRt hEx q => ?_)
  show WS k 0 [(0, .ref (A 0)), (1, .int (Int32.ofInt v)), (2, .ref (A 517))] [] _ 0 0
  have F : Fm [71, 72] [156, 155, 1460] s s := fm_rf _ _ s
  have hA := swA_rf A
  refine z_aload_n X (x := A 517) rfl (List.Mem.tail _ (List.Mem.tail _ (List.Mem.head _))) (z_const X rfl (z_aload_n X (x := A 0) rfl (List.Mem.head _) (z_load_n X (x := v) rfl (List.Mem.tail _ (List.Mem.head _)) (z_callV X 0 (rm := rmN 172) (As := [.int (Int32.ofInt v)]) (st := [.int (Int32.ofInt 0), .ref (A 517)]) rfl rfl (by decide) rfl (by rw [E.1, E.2.1, E.2.2.1]; exact cs_fit6 G I jFTK (by omega)) ⟨by rw [E.2.2.2]; exact (show (rmN 172).frames + 1 ≤ (rmN 346).frames by decide), by rw [E.2.2.2]; exact (show 8 + (mNL (miB 172) + 11) + (rmN 172).locals ≤ (rmN 346).locals by decide), by rw [E.2.2.2]; exact (show 0 + (rmN 172).cells ≤ (rmN 346).cells by decide), by rw [E.2.2.2]; exact (show 0 + (rmN 172).slots ≤ (rmN 346).slots by decide)⟩ (Nat.le_of_ble_eq_true rfl) (fun vv s1 hq => ?_) (fun ee s1 hq => ?_)))))
  rotate_left
  · obtain ⟨Is1, Fs1, JFTK_s1, (⟨e2, hv, hrs1, hps1⟩ | ⟨xx, hv, hps1⟩)⟩ := hq
    · cases hv
    · cases hv
      rcases (show xx = 0 by omega) with gx
      ·
        subst gx
        have Gs1 := fm_tq F Fs1 rfl rfl
        refine (hEx 4 0).2 12 rfl _ _ _ _ _ (fun q1 => ?_)
        show WS k 12 [(0, .ref (A 0)), (1, .int (Int32.ofInt v)), (2, .ref (A 517))] [.ref q1] (Wd A dT s1) 1 6
        refine z_astore_n X (lv' := [(3, .ref q1), (0, .ref (A 0)), (1, .int (Int32.ofInt v)), (2, .ref (A 517))]) rfl (by decide) (fun _ h => h) (z_const X rfl ?_)
        exact w_iret X.1 q hRt rfl (ax_d X (show cdA 346 14 = some (.ireturn, 1, 0, 0, 0) from rfl)) (show 1 ≤ 1 by decide) (show 6 ≤ 6 by decide) ⟨A, _, hA, rfl, Is1, Gs1, JFTK_s1, 1, rfl, (by decide), Or.inr ⟨by decide, by omega⟩⟩
  obtain ⟨Is1, Fs1, JFTK_s1, (⟨e2, hv, hrs1, hps1⟩ | ⟨xx, hv, hps1⟩)⟩ := hq
  rotate_left
  · cases hv
  cases hv
  have Gs1 := fm_tq F Fs1 rfl rfl
  show WS k 7 [(0, .ref (A 0)), (1, .int (Int32.ofInt v)), (2, .ref (A 517))] [.int (Int32.ofInt e2), .int (Int32.ofInt 0), .ref (A 517)] (Wd A dT s1) 1 6
  refine w_i2l X.1 (ax_d X (show cdA 346 7 = some (.i2l, 1, 0, 0, 0) from rfl)) (z_last X 517 rfl (c518_ok rfl) rfl (by first | (clear hps1; omega) | omega) (show 0 < 1 by first | (clear hps1; omega) | omega) (cbig_ok rfl) (wd_gen (fun s3 hs3 => ?_)))
  have Is3 : Bd s3 := eqB hs3 (bd_D Is1)
  have Fs3 : Fm [71, 72] [156, 155, 1460] s s3 := by rw [hs3]; exact fm_D Gs1 (show 460 + 1000 ∈ _ by decide)
  have JFTK_s3 : FTK s3 := by rw [hs3]; exact JFTK_s1
  have oos3 : iO s3 = e2 := by rw [hs3]; exact iO_u (by first | (clear hps1; omega) | omega)
  refine z_goto X (t := 15) rfl rfl (z_const X rfl ?_)
  exact w_iret X.1 q hRt rfl (ax_d X (show cdA 346 16 = some (.ireturn, 1, 0, 0, 0) from rfl)) (show 1 ≤ 1 by decide) (show 6 ≤ 6 by decide) ⟨A, _, hA, rfl, Is3, Fs3, JFTK_s3, 0, rfl, (by decide), Or.inl ⟨by decide, by first | (clear hps1; omega) | omega, by rw [show iO s3 = e2 by first | (clear hps1; omega) | omega]; exact hps1.2⟩⟩
set_option maxRecDepth 4000 in
theorem c1_add6 (G : GX l s0 D tys a0 dT) (I : Bd s) {x y : Int} (p0 : rng x) (p1 : y = 0 ∨ y = 1) : CT l s0 D A dT 11 (rmN 11) [.ref (A 173), .ref (A 39), .int (Int32.ofInt x), .int (Int32.ofInt y)] s (fun o t => Bd t ∧ Fm [70] [152, 153, 154] s t ∧ ∃ e, o = .inl (some (.int (Int32.ofInt e))) ∧ rng e ∧ ((iI s 70 = 40 ∧ e = -1 ∧ iI t 70 = 40 ∧ SRW 40 (cD s) (cBk s) (cHd s) (cD t) (cBk t) (cHd t)) ∨ (iI s 70 ≠ 40 ∧ e = iI s 70 ∧ iI t 70 = iI s 70 + 1 ∧ RWA (fun j => Int32.ofInt (iC s 33 j)) (iI s 70).toNat x y (cD s) (cBk s) (cHd s) (cD t) (cBk t) (cHd t)))) := by
  refine ct_ofX G (by decide) (Nat.le_of_ble_eq_true rfl) (fun k X E ET hRt hXt q => ?_)
  show WS k 0 [(0, .ref (A 173)), (1, .ref (A 39)), (2, .int (Int32.ofInt x)), (3, .int (Int32.ofInt y))] [] _ 0 0
  have F : Fm [70] [152, 153, 154] s s := fm_rf _ _ s
  have b1 := bi_70 I
  refine z_aload_n X (x := A 173) rfl (List.Mem.head _) (z_getI X 173 rfl (c518_ok rfl) rfl rfl ?_)
  have b2 := bi_70 I
  refine z_bipush X rfl (z_icmp_lt X (t := 11) rfl rfl (rng_to _) (by decide) (fun g3 => ?_) (fun g3 => ?_))
  ·
    refine z_aload_n X (x := A 39) rfl (List.Mem.tail _ (List.Mem.head _)) (z_const X rfl (z_aload_n X (x := A 173) rfl (List.Mem.head _) (s_getR X 173 rfl (c518_ok rfl) rfl rfl (z_aload_n X (x := A 173) rfl (List.Mem.head _) (z_getI X 173 rfl (c518_ok rfl) rfl rfl ?_)))))
    have b4 := bi_70 I
    refine z_const X rfl (z_mul X rfl (z_const X rfl (z_copyF X I 39 174 (st := []) rfl (by decide) (by decide) rfl rfl (by first | (clear p1; omega) | omega) (by first | (clear p1; omega) | omega) (by first | (clear p1; omega) | omega) (show 0 + 4 ≤ ((7 : Nat) : Int) by first | (clear p1; omega) | omega) (show ((iI s 70) * 4) + 4 ≤ ((160 : Nat) : Int) by first | (clear p1; omega) | omega) (by decide) (by rw [E.2.2.2]; decide) (by rw [E.2.2.2]; exact Nat.le_of_ble_eq_true rfl) (fun s5 Is5 Fs5 cs5 => ?_))))
    have Gs5 := fm_tq F Fs5 rfl rfl
    have ws5_70 : iI s5 70 = iI s 70 := fm_iq Fs5 rfl
    refine z_aload_n X (x := A 173) rfl (List.Mem.head _) (s_getR X 173 rfl (c518_ok rfl) rfl rfl (z_aload_n X (x := A 173) rfl (List.Mem.head _) (z_getI X 173 rfl (c518_ok rfl) rfl rfl ?_)))
    have b6 := bi_70 Is5
    refine z_load_n X (x := x) rfl (List.Mem.tail _ (List.Mem.tail _ (List.Mem.head _))) (z_ast X 175 rfl (c518_ok rfl) rfl (by first | exact b6.1 | omega) (show (iI s5 70) < 40 by first | exact oq_acf68b34 ws5_70 g3 | omega) (cbig_ok rfl) (wd_gen (fun s7 hs7 => ?_)))
    have Is7 : Bd s7 := eqB hs7 (bd_C Is5 (show ((-2147483648) : Int) ≤ x ∧ x ≤ 2147483647 by first | exact ⟨p0.1, p0.2⟩ | omega) ⟨by first | exact p0.1 | omega, by first | exact p0.2 | omega⟩)
    have Fs7 := eqF hs7 (fm_C Gs5 (inl_ok (a := 153) rfl))
    have ws7_70 : iI s7 70 = iI s5 70 := eqI hs7 rfl
    have aws7_153 : UPD 153 ((iI s5 70)) x s5 s7 := by rw [hs7]; exact upd_put (sam_rf (a := 153) (s := s5)) ⟨by first | exact p0.1 | omega, by first | exact p0.2 | omega⟩
    have aws7_154 : SAM 154 s5 s7 := by rw [hs7]; exact sam_C (by decide) (sam_rf (a := 154) (s := s5))
    have aws7_152 : SAM 152 s5 s7 := by rw [hs7]; exact sam_C (by decide) (sam_rf (a := 152) (s := s5))
    refine z_aload_n X (x := A 173) rfl (List.Mem.head _) (s_getR X 173 rfl (c518_ok rfl) rfl rfl (z_aload_n X (x := A 173) rfl (List.Mem.head _) (z_getI X 173 rfl (c518_ok rfl) rfl rfl ?_)))
    have b8 := bi_70 Is7
    refine z_load_n X (x := y) rfl (List.Mem.tail _ (List.Mem.tail _ (List.Mem.tail _ (List.Mem.head _)))) (z_zast X 176 rfl (c518_ok rfl) rfl (by first | exact b8.1 | omega) (show (iI s7 70) < 40 by first | exact oq_c57cae74 ws7_70 ws5_70 g3 | omega) (cbig_ok rfl) (by first | exact p1 | omega) (wd_gen (fun s9 hs9 => ?_)))
    have Is9 : Bd s9 := eqB hs9 (bd_C Is7 (show (0 : Int) ≤ y ∧ y ≤ 1 by first | exact ⟨oq_e4aca38c p1, oq_14617724 p1⟩ | omega) ⟨by first | exact oq_bde653e9 p1 | omega, by first | exact oq_4ad2cb8b p1 | omega⟩)
    have Fs9 := eqF hs9 (fm_C Fs7 (inl_ok (a := 154) rfl))
    have ws9_70 : iI s9 70 = iI s7 70 := eqI hs9 rfl
    have aws9_153 : UPD 153 ((iI s5 70)) x s5 s9 := by rw [hs9]; exact upd_C (by decide) aws7_153
    have aws9_154 : UPD 154 ((iI s7 70)) y s5 s9 := by rw [hs9]; exact upd_put aws7_154 ⟨by first | exact oq_bde653e9 p1 | omega, by first | exact oq_4ad2cb8b p1 | omega⟩
    have aws9_152 : SAM 152 s5 s9 := by rw [hs9]; exact sam_C (by decide) aws7_152
    refine z_aload_n X (x := A 173) rfl (List.Mem.head _) (w_dup X.1 (ax_d X (show cdA 11 48 = some (.dup, 1, 0, 0, 0) from rfl)) rfl (z_getI X 173 rfl (c518_ok rfl) rfl rfl ?_))
    have b10 := bi_70 Is9
    refine z_const X rfl (z_add X rfl (s_putI X 173 rfl (c518_ok rfl) rfl rfl (by decide) rfl rfl rfl (wd_gen (fun s11 hs11 => ?_))))
    have Is11 : Bd s11 := eqB hs11 (bd_I Is9 (show (0 : Int) ≤ ((iI s9 70) + 1) ∧ ((iI s9 70) + 1) ≤ 40 by first | exact ⟨oq_54f49eb5 b10.1, oq_beb58a95 ws9_70 ws7_70 ws5_70 g3⟩ | omega) ⟨by first | exact oq_74de1e16 b10.1 | omega, by first | exact oq_c01d6c28 b10.2 | omega⟩)
    have Fs11 := eqF hs11 (fm_I Fs9 (inl_ok (a := 70) rfl))
    have vs11 : iI s11 70 = ((iI s9 70) + 1) := eqI hs11 (iI_u ⟨by first | exact oq_74de1e16 b10.1 | omega, by first | exact oq_c01d6c28 b10.2 | omega⟩)
    have aws11_153 : UPD 153 ((iI s5 70)) x s5 s11 := by rw [hs11]; exact aws9_153
    have aws11_154 : UPD 154 ((iI s7 70)) y s5 s11 := by rw [hs11]; exact aws9_154
    have aws11_152 : SAM 152 s5 s11 := by rw [hs11]; exact aws9_152
    refine z_aload_n X (x := A 173) rfl (List.Mem.head _) (z_getI X 173 rfl (c518_ok rfl) rfl rfl ?_)
    have b12 := bi_70 Is11
    refine z_const X rfl (z_sub X rfl ?_)
    exact w_iret X.1 q hRt rfl (ax_d X (show cdA 11 63 = some (.ireturn, 1, 0, 0, 0) from rfl)) (Nat.zero_le _) (Nat.zero_le _) ⟨_, rfl, Is11, Fs11, ((iI s11 70) - 1), rfl, ⟨by first | exact oq_c1e961c7 b12.1 | omega, by first | exact oq_86f8893e b12.2 | omega⟩, Or.inr ⟨by first | exact oq_9603bbcc g3 | omega, by first | exact oq_1349e71a vs11 ws9_70 ws7_70 ws5_70 | omega, by first | exact oq_003dad9f vs11 ws9_70 ws7_70 ws5_70 | omega, rwa_c (by first | (clear p1; omega) | omega) cs5 (sam_fm Fs5 (by decide)) (sam_fm Fs5 (by decide)) (upd_ix aws11_153 (by first | (clear p1; omega) | omega)) (upd_ix aws11_154 (by first | (clear p1; omega) | omega)) aws11_152 Is11 (fun _ _ => rfl)⟩⟩
  ·
    refine z_const X rfl ?_
    exact w_iret X.1 q hRt rfl (ax_d X (show cdA 11 10 = some (.ireturn, 1, 0, 0, 0) from rfl)) (Nat.zero_le _) (Nat.zero_le _) ⟨_, rfl, I, F, (-1), rfl, (by decide), Or.inl ⟨by first | exact oq_cb92d216 b2.2 g3 | omega, by decide, by first | exact oq_cb92d216 b2.2 g3 | omega, fun r hr => ⟨rfl, rfl, fun k hk => rfl⟩⟩⟩
set_option maxRecDepth 4000 in
theorem cs_did6 (G : GX l s0 D tys a0 dT) {U : AirD} (I : Bd s) (jAIR : AIR s) (jCPL : CPL s) (jCDJ : CDJ U s) (jPMJ : PMJ s) {u v p w : Int} (p0 : rng u) (p1 : rng v) (p2 : rng p) (p3 : w = 0 ∨ w = 1) : CT l s0 D A dT 171 (rmN 171) [.ref (A 0), .int (Int32.ofInt u), .int (Int32.ofInt v), .int (Int32.ofInt p), .int (Int32.ofInt w)] s (fun o t => Bd t ∧ Fm [22, 23, 70] [33, 26, 27, 28, 29, 30, 31, 32, 152, 153, 154] s t ∧ ((∃ e, o = .inl (some (.int (Int32.ofInt e))) ∧ rng e ∧ (0 ≤ u ∧ u ≤ 7 ∧ 0 ≤ v ∧ v ≤ 23 ∧ 0 ≤ p ∧ p ≤ 9999 ∧ ((iI s 70 = 40 ∧ e = -1 ∧ iI t 70 = 40 ∧ SRW 40 (cD s) (cBk s) (cHd s) (cD t) (cBk t) (cHd t)) ∨ (iI s 70 ≠ 40 ∧ e = iI s 70 ∧ iI t 70 = iI s 70 + 1 ∧ RWA (nmH (pcS (pfC s) u) (uW U) (moW U (v : Int).toNat (-1)) (uN U) 1) (iI s 70).toNat p w (cD s) (cBk s) (cHd s) (cD t) (cBk t) (cHd t))))) ∨ ∃ x : Nat, o = .inr (exN x) ∧ (x = 0 ∧ (u < 0 ∨ 7 < u ∨ v < 0 ∨ 23 < v ∨ p < 0 ∨ 9999 < p) ∧ iI t 70 = iI s 70 ∧ SRW 40 (cD s) (cBk s) (cHd s) (cD t) (cBk t) (cHd t)))) := by
  refine ct_ofX G (by decide) (Nat.le_of_ble_eq_true rfl) (fun k X E ET hRt hXt q => ?_)
  show WS k 0 [(0, .ref (A 0)), (1, .int (Int32.ofInt u)), (2, .int (Int32.ofInt v)), (3, .int (Int32.ofInt p)), (4, .int (Int32.ofInt w))] [] _ 0 0
  have F : Fm [22, 23, 70] [33, 26, 27, 28, 29, 30, 31, 32, 152, 153, 154] s s := fm_rf _ _ s
  have aw0_CRS : CRS s s := crs_rf
  have b1 := bi_70 I
  refine z_aload_n X (x := A 0) rfl (List.Mem.head _) (z_load_n X (x := u) rfl (List.Mem.tail _ (List.Mem.head _)) (z_callV X 0 (rm := rmN 182) (As := [.int (Int32.ofInt u)]) (st := []) rfl rfl (by decide) rfl (by rw [E.1, E.2.1, E.2.2.1]; exact cs_needPiece6 G I (by first | exact ⟨p0.1, p0.2⟩ | omega)) ⟨by rw [E.2.2.2]; exact (show (rmN 182).frames + 1 ≤ (rmN 171).frames by decide), by rw [E.2.2.2]; exact (show 8 + (mNL (miB 182) + 11) + (rmN 182).locals ≤ (rmN 171).locals by decide), by rw [E.2.2.2]; exact (show 0 + 1 ≤ 3 by decide), by rw [E.2.2.2]; exact (show 0 + 6 ≤ 18 by decide)⟩ (Nat.le_of_ble_eq_true rfl) (fun vv s2 hq => ?_) (fun ee s2 hq => ?_)))
  rotate_left
  · obtain ⟨Is2, Fs2, (⟨hv, hps2⟩ | ⟨xx, hv, hps2⟩)⟩ := hq
    · cases hv
    · cases hv
      have Gs2 := fm_tq F Fs2 rfl rfl
      have JAIR_s2 : AIR s2 := AIR_fm Fs2 (by decide) jAIR
      have JCPL_s2 : CPL s2 := CPL_fm Fs2 (by decide) jCPL
      have JCDJ_s2 : CDJ U s2 := CDJ_fm Fs2 (by decide) jCDJ
      have JPMJ_s2 : PMJ s2 := PMJ_fm Fs2 (by decide) jPMJ
      have ws2_70 : iI s2 70 = iI s 70 := fm_iq Fs2 rfl
      have aws2_CRS : CRS s s2 := crs_ts aw0_CRS (crs_fm Fs2 (by decide))
      exact x_out X.1 q (fun x hx => (hXt x hx).elim) (show 1 ≤ 3 by decide) (show 6 ≤ 18 by decide) ⟨_, rfl, Is2, Gs2, Or.inr ⟨xx, rfl, ⟨by first | (clear p3; omega) | omega, by first | (clear p3; omega) | omega, by first | (clear p3; omega) | omega, crs_s aws2_CRS⟩⟩⟩
  obtain ⟨Is2, Fs2, (⟨hv, hps2⟩ | ⟨xx, hv, hps2⟩)⟩ := hq
  rotate_left
  · cases hv
  cases hv
  have Gs2 := fm_tq F Fs2 rfl rfl
  have JAIR_s2 : AIR s2 := AIR_fm Fs2 (by decide) jAIR
  have JCPL_s2 : CPL s2 := CPL_fm Fs2 (by decide) jCPL
  have JCDJ_s2 : CDJ U s2 := CDJ_fm Fs2 (by decide) jCDJ
  have JPMJ_s2 : PMJ s2 := PMJ_fm Fs2 (by decide) jPMJ
  have ws2_70 : iI s2 70 = iI s 70 := fm_iq Fs2 rfl
  have aws2_CRS : CRS s s2 := crs_ts aw0_CRS (crs_fm Fs2 (by decide))
  show WS k 5 [(0, .ref (A 0)), (1, .int (Int32.ofInt u)), (2, .int (Int32.ofInt v)), (3, .int (Int32.ofInt p)), (4, .int (Int32.ofInt w))] [] (Wd A dT s2) 1 6
  refine z_aload_n X (x := A 0) rfl (List.Mem.head _) (z_load_n X (x := v) rfl (List.Mem.tail _ (List.Mem.tail _ (List.Mem.head _))) (z_callV X 0 (rm := rmN 183) (As := [.int (Int32.ofInt v)]) (st := []) rfl rfl (by decide) rfl (by rw [E.1, E.2.1, E.2.2.1]; exact cs_needQuarter6 G Is2 (by first | exact ⟨p1.1, p1.2⟩ | omega)) ⟨by rw [E.2.2.2]; exact (show (rmN 183).frames + 1 ≤ (rmN 171).frames by decide), by rw [E.2.2.2]; exact (show 8 + (mNL (miB 183) + 11) + (rmN 183).locals ≤ (rmN 171).locals by decide), by rw [E.2.2.2]; exact (show 1 + 1 ≤ 3 by decide), by rw [E.2.2.2]; exact (show 6 + 6 ≤ 18 by decide)⟩ (Nat.le_of_ble_eq_true rfl) (fun vv s4 hq => ?_) (fun ee s4 hq => ?_)))
  rotate_left
  · obtain ⟨Is4, Fs4, (⟨hv, hps4⟩ | ⟨xx, hv, hps4⟩)⟩ := hq
    · cases hv
    · cases hv
      have Gs4 := fm_tq Gs2 Fs4 rfl rfl
      have JAIR_s4 : AIR s4 := AIR_fm Fs4 (by decide) JAIR_s2
      have JCPL_s4 : CPL s4 := CPL_fm Fs4 (by decide) JCPL_s2
      have JCDJ_s4 : CDJ U s4 := CDJ_fm Fs4 (by decide) JCDJ_s2
      have JPMJ_s4 : PMJ s4 := PMJ_fm Fs4 (by decide) JPMJ_s2
      have ws4_70 : iI s4 70 = iI s2 70 := fm_iq Fs4 rfl
      have aws4_CRS : CRS s s4 := crs_ts aws2_CRS (crs_fm Fs4 (by decide))
      exact x_out X.1 q (fun x hx => (hXt x hx).elim) (show (1 + 1) ≤ 3 by decide) (show (6 + 6) ≤ 18 by decide) ⟨_, rfl, Is4, Gs4, Or.inr ⟨xx, rfl, ⟨by first | (clear hps2 p3; omega) | (clear p3; omega) | omega, by first | (clear hps2 p3; omega) | (clear p3; omega) | omega, by first | (clear hps2 p3; omega) | (clear p3; omega) | omega, crs_s aws4_CRS⟩⟩⟩
  obtain ⟨Is4, Fs4, (⟨hv, hps4⟩ | ⟨xx, hv, hps4⟩)⟩ := hq
  rotate_left
  · cases hv
  cases hv
  have Gs4 := fm_tq Gs2 Fs4 rfl rfl
  have JAIR_s4 : AIR s4 := AIR_fm Fs4 (by decide) JAIR_s2
  have JCPL_s4 : CPL s4 := CPL_fm Fs4 (by decide) JCPL_s2
  have JCDJ_s4 : CDJ U s4 := CDJ_fm Fs4 (by decide) JCDJ_s2
  have JPMJ_s4 : PMJ s4 := PMJ_fm Fs4 (by decide) JPMJ_s2
  have ws4_70 : iI s4 70 = iI s2 70 := fm_iq Fs4 rfl
  have aws4_CRS : CRS s s4 := crs_ts aws2_CRS (crs_fm Fs4 (by decide))
  show WS k 10 [(0, .ref (A 0)), (1, .int (Int32.ofInt u)), (2, .int (Int32.ofInt v)), (3, .int (Int32.ofInt p)), (4, .int (Int32.ofInt w))] [] (Wd A dT s4) (1 + 1) (6 + 6)
  refine z_aload_n X (x := A 0) rfl (List.Mem.head _) (z_load_n X (x := p) rfl (List.Mem.tail _ (List.Mem.tail _ (List.Mem.tail _ (List.Mem.head _)))) (z_const X rfl (z_sipush X rfl (z_callV X 0 (rm := rmN 184) (As := [.int (Int32.ofInt p), .int (Int32.ofInt 0), .int (Int32.ofInt 9999)]) (st := []) rfl rfl (by decide) rfl (by rw [E.1, E.2.1, E.2.2.1]; exact cs_needWithin2 G Is4 (by first | exact ⟨p2.1, p2.2⟩ | omega) (by first | exact ⟨by decide, by decide⟩ | omega) (by first | exact ⟨by decide, by decide⟩ | omega)) ⟨by rw [E.2.2.2]; exact (show (rmN 184).frames + 1 ≤ (rmN 171).frames by decide), by rw [E.2.2.2]; exact (show 8 + (mNL (miB 184) + 11) + (rmN 184).locals ≤ (rmN 171).locals by decide), by rw [E.2.2.2]; exact (show (1 + 1) + 1 ≤ 3 by decide), by rw [E.2.2.2]; exact (show (6 + 6) + 6 ≤ 18 by decide)⟩ (Nat.le_of_ble_eq_true rfl) (fun vv s6 hq => ?_) (fun ee s6 hq => ?_)))))
  rotate_left
  · obtain ⟨Is6, Fs6, (⟨hv, hps6⟩ | ⟨xx, hv, hps6⟩)⟩ := hq
    · cases hv
    · cases hv
      have Gs6 := fm_tq Gs4 Fs6 rfl rfl
      have JAIR_s6 : AIR s6 := AIR_fm Fs6 (by decide) JAIR_s4
      have JCPL_s6 : CPL s6 := CPL_fm Fs6 (by decide) JCPL_s4
      have JCDJ_s6 : CDJ U s6 := CDJ_fm Fs6 (by decide) JCDJ_s4
      have JPMJ_s6 : PMJ s6 := PMJ_fm Fs6 (by decide) JPMJ_s4
      have ws6_70 : iI s6 70 = iI s4 70 := fm_iq Fs6 rfl
      have aws6_CRS : CRS s s6 := crs_ts aws4_CRS (crs_fm Fs6 (by decide))
      exact x_out X.1 q (fun x hx => (hXt x hx).elim) (show ((1 + 1) + 1) ≤ 3 by decide) (show ((6 + 6) + 6) ≤ 18 by decide) ⟨_, rfl, Is6, Gs6, Or.inr ⟨xx, rfl, ⟨by first | (clear hps4 hps2 p3; omega) | (clear hps2 p3; omega) | omega, by first | (clear hps4 hps2 p3; omega) | (clear hps2 p3; omega) | omega, by first | (clear hps4 hps2 p3; omega) | (clear hps2 p3; omega) | omega, crs_s aws6_CRS⟩⟩⟩
  obtain ⟨Is6, Fs6, (⟨hv, hps6⟩ | ⟨xx, hv, hps6⟩)⟩ := hq
  rotate_left
  · cases hv
  cases hv
  have Gs6 := fm_tq Gs4 Fs6 rfl rfl
  have JAIR_s6 : AIR s6 := AIR_fm Fs6 (by decide) JAIR_s4
  have JCPL_s6 : CPL s6 := CPL_fm Fs6 (by decide) JCPL_s4
  have JCDJ_s6 : CDJ U s6 := CDJ_fm Fs6 (by decide) JCDJ_s4
  have JPMJ_s6 : PMJ s6 := PMJ_fm Fs6 (by decide) JPMJ_s4
  have ws6_70 : iI s6 70 = iI s4 70 := fm_iq Fs6 rfl
  have aws6_CRS : CRS s s6 := crs_ts aws4_CRS (crs_fm Fs6 (by decide))
  show WS k 19 [(0, .ref (A 0)), (1, .int (Int32.ofInt u)), (2, .int (Int32.ofInt v)), (3, .int (Int32.ofInt p)), (4, .int (Int32.ofInt w))] [] (Wd A dT s6) ((1 + 1) + 1) ((6 + 6) + 6)
  refine z_aload_n X (x := A 0) rfl (List.Mem.head _) (z_load_n X (x := u) rfl (List.Mem.tail _ (List.Mem.head _)) (z_callV X 0 (rm := rmN 179) (As := [.int (Int32.ofInt u)]) (st := []) rfl rfl (by decide) rfl (by rw [E.1, E.2.1, E.2.2.1]; exact cs_listenTo6 G Is6 (by first | exact ⟨hps2.1, hps2.2⟩ | omega)) ⟨by rw [E.2.2.2]; exact (show (rmN 179).frames + 1 ≤ (rmN 171).frames by decide), by rw [E.2.2.2]; exact (show 8 + (mNL (miB 179) + 11) + (rmN 179).locals ≤ (rmN 171).locals by decide), by rw [E.2.2.2]; exact (show ((1 + 1) + 1) + 0 ≤ 3 by decide), by rw [E.2.2.2]; exact (show ((6 + 6) + 6) + 0 ≤ 18 by decide)⟩ (Nat.le_of_ble_eq_true rfl) (fun vv s8 hq => ?_) (fun ee s8 hq => ?_)))
  rotate_left
  · obtain ⟨Is8, Fs8, hv, hps8⟩ := hq; cases hv
  obtain ⟨Is8, Fs8, hv, hps8⟩ := hq
  cases hv
  have Gs8 := fm_tq Gs6 Fs8 rfl rfl
  have JAIR_s8 : AIR s8 := AIR_fm Fs8 (by decide) JAIR_s6
  have JCPL_s8 : CPL s8 := CPL_fm Fs8 (by decide) JCPL_s6
  have JCDJ_s8 : CDJ U s8 := CDJ_fm Fs8 (by decide) JCDJ_s6
  have ws8_70 : iI s8 70 = iI s6 70 := fm_iq Fs8 rfl
  have aws8_CRS : CRS s s8 := crs_ts aws6_CRS (crs_fm Fs8 (by decide))
  show WS k 24 [(0, .ref (A 0)), (1, .int (Int32.ofInt u)), (2, .int (Int32.ofInt v)), (3, .int (Int32.ofInt p)), (4, .int (Int32.ofInt w))] [] (Wd A dT s8) ((1 + 1) + 1) ((6 + 6) + 6)
  have hIn : inL (gD s6 22 (u : Int).toNat) (gD s6 23 (u : Int).toNat) = pcS (pfC s) u := by rw [pm_eq (p := u) JPMJ_s6 (by first | (clear hps6 hps4 hps2 p3; omega) | (clear hps4 hps2 p3; omega) | omega), show pfC s6 = pfC s from funext (fun j => fm_c Gs6 (by decide))]
  refine z_aload_n X (x := A 0) rfl (List.Mem.head _) (s_getR X 0 rfl (c518_ok rfl) rfl rfl (z_load_n X (x := v) rfl (List.Mem.tail _ (List.Mem.tail _ (List.Mem.head _))) (z_const X rfl (z_callV X 31 (rm := rmN 3) (As := [.int (Int32.ofInt v), .int (Int32.ofInt (-1))]) (st := []) rfl rfl (by decide) rfl (by rw [E.1, E.2.1, E.2.2.1]; exact c0_hear3 G Is8 hps8.1 (by first | exact ⟨hps4.1, hps4.2⟩ | omega) (by first | exact ⟨by decide, by decide⟩ | omega)) ⟨by rw [E.2.2.2]; exact (show (rmN 3).frames + 1 ≤ (rmN 171).frames by decide), by rw [E.2.2.2]; exact (show 8 + (mNL (miB 3) + 11) + (rmN 3).locals ≤ (rmN 171).locals by decide), by rw [E.2.2.2]; exact (show ((1 + 1) + 1) + 0 ≤ 3 by decide), by rw [E.2.2.2]; exact (show ((6 + 6) + 6) + 0 ≤ 18 by decide)⟩ (Nat.le_of_ble_eq_true rfl) (fun vv s10 hq => ?_) (fun ee s10 hq => ?_)))))
  rotate_left
  · obtain ⟨Is10, Fs10, hv, hps10⟩ := hq; cases hv
  obtain ⟨Is10, Fs10, hv, hps10⟩ := hq
  cases hv
  have Gs10 := fm_tq Gs8 Fs10 rfl rfl
  have ws10_70 : iI s10 70 = iI s8 70 := fm_iq Fs10 rfl
  have aws10_CRS : CRS s s10 := crs_ts aws8_CRS (crs_fm Fs10 (by decide))
  show WS k 33 [(0, .ref (A 0)), (1, .int (Int32.ofInt u)), (2, .int (Int32.ofInt v)), (3, .int (Int32.ofInt p)), (4, .int (Int32.ofInt w))] [] (Wd A dT s10) ((1 + 1) + 1) ((6 + 6) + 6)
  have hn : ∀ j, j < 7 → Int32.ofInt (iC s10 33 j) = (nmH (pcS (pfC s) u) (uW U) (moW U (v : Int).toNat (-1)) (uN U) 1) j := by rw [← hIn]; exact cl_names JAIR_s8 JCPL_s8 hps8.1 hps8.2 JCDJ_s8 hps10 (by first | (clear hps6 hps4 hps2 p3; omega) | (clear hps4 hps2 p3; omega) | omega)
  refine z_aload_n X (x := A 0) rfl (List.Mem.head _) (s_getR X 0 rfl (c518_ok rfl) rfl rfl (z_aload_n X (x := A 0) rfl (List.Mem.head _) (s_getR X 0 rfl (c518_ok rfl) rfl rfl (s_getR X 31 rfl (c518_ok rfl) rfl rfl (z_load_n X (x := p) rfl (List.Mem.tail _ (List.Mem.tail _ (List.Mem.tail _ (List.Mem.head _)))) (z_load X (x := w) rfl (List.Mem.tail _ (List.Mem.tail _ (List.Mem.tail _ (List.Mem.tail _ (List.Mem.head _))))) (z_callV X 173 (rm := rmN 11) (As := [.ref (A 39), .int (Int32.ofInt p), .int (Int32.ofInt w)]) (st := []) rfl rfl (by decide) rfl (by rw [E.1, E.2.1, E.2.2.1]; exact c1_add6 G Is10 (by first | exact ⟨p2.1, p2.2⟩ | omega) (by first | exact p3 | omega)) ⟨by rw [E.2.2.2]; exact (show (rmN 11).frames + 1 ≤ (rmN 171).frames by decide), by rw [E.2.2.2]; exact (show 8 + (mNL (miB 11) + 11) + (rmN 11).locals ≤ (rmN 171).locals by decide), by rw [E.2.2.2]; exact (show ((1 + 1) + 1) + 0 ≤ 3 by decide), by rw [E.2.2.2]; exact (show ((6 + 6) + 6) + 0 ≤ 18 by decide)⟩ (Nat.le_of_ble_eq_true rfl) (fun vv s12 hq => ?_) (fun ee s12 hq => ?_))))))))
  rotate_left
  · obtain ⟨Is12, Fs12, e13, hv, hrs12, hps12⟩ := hq; cases hv
  obtain ⟨Is12, Fs12, e13, hv, hrs12, hps12⟩ := hq
  cases hv
  have Gs12 := fm_tq Gs10 Fs12 rfl rfl
  have b14 := bi_70 Is12
  show WS k 50 [(0, .ref (A 0)), (1, .int (Int32.ofInt u)), (2, .int (Int32.ofInt v)), (3, .int (Int32.ofInt p)), (4, .int (Int32.ofInt w))] [.int (Int32.ofInt e13)] (Wd A dT s12) ((1 + 1) + 1) ((6 + 6) + 6)
  exact w_iret X.1 q hRt rfl (ax_d X (show cdA 171 50 = some (.ireturn, 1, 0, 0, 0) from rfl)) (show ((1 + 1) + 1) ≤ 3 by decide) (show ((6 + 6) + 6) ≤ 18 by decide) ⟨_, rfl, Is12, Gs12, Or.inl ⟨e13, rfl, hrs12, ⟨by first | exact hps2.1 | omega, by first | exact hps2.2 | omega, by first | exact hps4.1 | omega, by first | exact hps4.2 | omega, by first | exact hps6.1 | omega, by first | exact hps6.2 | omega, by rcases hps12 with z | z; (· exact Or.inl ⟨by first | (clear hps12 hps6 hps4 hps2 p3; omega) | (clear hps6 hps4 hps2 p3; omega) | omega, z.2.1, z.2.2.1, srw_t (crs_s aws10_CRS) z.2.2.2⟩); (· exact Or.inr ⟨by first | (clear hps12 hps6 hps4 hps2 p3; omega) | (clear hps6 hps4 hps2 p3; omega) | omega, by first | (clear hps12 hps6 hps4 hps2 p3; omega) | (clear hps6 hps4 hps2 p3; omega) | omega, by first | (clear hps12 hps6 hps4 hps2 p3; omega) | (clear hps6 hps4 hps2 p3; omega) | omega, by have w := z.2.2.2; rw [show iI s10 70 = iI s 70 by first | (clear hps12 hps6 hps4 hps2 p3; omega) | (clear hps6 hps4 hps2 p3; omega) | omega] at w; exact rwa_t (crs_s aws10_CRS) (rwa_n (fun k hk => hn k (by first | (clear hps12 hps6 hps4 hps2 p3; omega) | (clear hps6 hps4 hps2 p3; omega) | omega)) w)⟩)⟩⟩⟩
set_option maxRecDepth 4000 in
theorem lw_did6 (G : GX l s0 D tys a0 dT) {U : AirD} (I : Bd s) (jAIR : AIR s) (jCPL : CPL s) (jCDJ : CDJ U s) (jPMJ : PMJ s) {u v p w : Int} (p0 : rng u) (p1 : rng v) (p2 : rng p) (p3 : w = 0 ∨ w = 1) : CTL l s0 D A dT 345 (rmN 345) [.ref (A 0), .int (Int32.ofInt u), .int (Int32.ofInt v), .int (Int32.ofInt p), .int (Int32.ofInt w), .ref (A 517)] s (fun o t => Bd t ∧ Fm [22, 23, 70] [33, 26, 27, 28, 29, 30, 31, 32, 152, 153, 154, 1460] s t ∧ ∃ e, o = .inl (some (.int (Int32.ofInt e))) ∧ rng e ∧ ((e = 0 ∧ 0 ≤ u ∧ u ≤ 7 ∧ 0 ≤ v ∧ v ≤ 23 ∧ 0 ≤ p ∧ p ≤ 9999 ∧ iI s 70 = 40 ∧ iO t = -1 ∧ iI t 70 = 40 ∧ SRW 40 (cD s) (cBk s) (cHd s) (cD t) (cBk t) (cHd t)) ∨ (e = 0 ∧ 0 ≤ u ∧ u ≤ 7 ∧ 0 ≤ v ∧ v ≤ 23 ∧ 0 ≤ p ∧ p ≤ 9999 ∧ iI s 70 ≠ 40 ∧ iO t = iI s 70 ∧ iI t 70 = iI s 70 + 1 ∧ RWA (nmH (pcS (pfC s) u) (uW U) (moW U (v : Int).toNat (-1)) (uN U) 1) (iI s 70).toNat p w (cD s) (cBk s) (cHd s) (cD t) (cBk t) (cHd t)) ∨ (e = 1 ∧ (u < 0 ∨ 7 < u ∨ v < 0 ∨ 23 < v ∨ p < 0 ∨ 9999 < p) ∧ iI t 70 = iI s 70 ∧ SRW 40 (cD s) (cBk s) (cHd s) (cD t) (cBk t) (cHd t)))) := by
  refine ctL_of G (by decide) (Nat.le_of_ble_eq_true rfl) (by decide) rfl (fun k X E ET hRt hEx q => ?_)
  show WS k 0 [(0, .ref (A 0)), (1, .int (Int32.ofInt u)), (2, .int (Int32.ofInt v)), (3, .int (Int32.ofInt p)), (4, .int (Int32.ofInt w)), (5, .ref (A 517))] [] _ 0 0
  have F : Fm [22, 23, 70] [33, 26, 27, 28, 29, 30, 31, 32, 152, 153, 154, 1460] s s := fm_rf _ _ s
  have hA := swA_rf A
  have b1 := bi_70 I
  refine z_aload X (x := A 517) rfl (List.Mem.tail _ (List.Mem.tail _ (List.Mem.tail _ (List.Mem.tail _ (List.Mem.tail _ (List.Mem.head _)))))) (z_const X rfl (z_aload_n X (x := A 0) rfl (List.Mem.head _) (z_load_n X (x := u) rfl (List.Mem.tail _ (List.Mem.head _)) (z_load_n X (x := v) rfl (List.Mem.tail _ (List.Mem.tail _ (List.Mem.head _))) (z_load_n X (x := p) rfl (List.Mem.tail _ (List.Mem.tail _ (List.Mem.tail _ (List.Mem.head _)))) (z_load X (x := w) rfl (List.Mem.tail _ (List.Mem.tail _ (List.Mem.tail _ (List.Mem.tail _ (List.Mem.head _))))) (z_callV X 0 (rm := rmN 171) (As := [.int (Int32.ofInt u), .int (Int32.ofInt v), .int (Int32.ofInt p), .int (Int32.ofInt w)]) (st := [.int (Int32.ofInt 0), .ref (A 517)]) rfl rfl (by decide) rfl (by rw [E.1, E.2.1, E.2.2.1]; exact cs_did6 G I jAIR jCPL jCDJ jPMJ (by first | (clear p3; omega) | omega) (by first | (clear p3; omega) | omega) (by first | (clear p3; omega) | omega) (by first | (clear p3; omega) | omega)) ⟨by rw [E.2.2.2]; exact (show (rmN 171).frames + 1 ≤ (rmN 345).frames by decide), by rw [E.2.2.2]; exact (show 8 + (mNL (miB 171) + 11) + (rmN 171).locals ≤ (rmN 345).locals by decide), by rw [E.2.2.2]; exact (show 0 + (rmN 171).cells ≤ (rmN 345).cells by decide), by rw [E.2.2.2]; exact (show 0 + (rmN 171).slots ≤ (rmN 345).slots by decide)⟩ (Nat.le_of_ble_eq_true rfl) (fun vv s2 hq => ?_) (fun ee s2 hq => ?_))))))))
  rotate_left
  · obtain ⟨Is2, Fs2, (⟨e3, hv, hrs2, hps2⟩ | ⟨xx, hv, hps2⟩)⟩ := hq
    · cases hv
    · cases hv
      rcases (show xx = 0 by omega) with gx
      ·
        subst gx
        have Gs2 := fm_tq F Fs2 rfl rfl
        have b4 := bi_70 Is2
        refine (hEx 9 0).2 17 rfl _ _ _ _ _ (fun q1 => ?_)
        show WS k 17 [(0, .ref (A 0)), (1, .int (Int32.ofInt u)), (2, .int (Int32.ofInt v)), (3, .int (Int32.ofInt p)), (4, .int (Int32.ofInt w)), (5, .ref (A 517))] [.ref q1] (Wd A dT s2) 3 18
        refine z_astore X (lv' := [(6, .ref q1), (0, .ref (A 0)), (1, .int (Int32.ofInt u)), (2, .int (Int32.ofInt v)), (3, .int (Int32.ofInt p)), (4, .int (Int32.ofInt w)), (5, .ref (A 517))]) rfl (by decide) (fun _ h => h) (z_const X rfl ?_)
        exact w_iret X.1 q hRt rfl (ax_d X (show cdA 345 20 = some (.ireturn, 1, 0, 0, 0) from rfl)) (show 3 ≤ 3 by decide) (show 18 ≤ 18 by decide) ⟨A, _, hA, rfl, Is2, Gs2, 1, rfl, (by decide), Or.inr (Or.inr ⟨by decide, by first | (clear p3; omega) | omega, by first | (clear p3; omega) | omega, hps2.2.2.2⟩)⟩
  obtain ⟨Is2, Fs2, (⟨e3, hv, hrs2, hps2⟩ | ⟨xx, hv, hps2⟩)⟩ := hq
  rotate_left
  · cases hv
  cases hv
  have Gs2 := fm_tq F Fs2 rfl rfl
  have b5 := bi_70 Is2
  show WS k 12 [(0, .ref (A 0)), (1, .int (Int32.ofInt u)), (2, .int (Int32.ofInt v)), (3, .int (Int32.ofInt p)), (4, .int (Int32.ofInt w)), (5, .ref (A 517))] [.int (Int32.ofInt e3), .int (Int32.ofInt 0), .ref (A 517)] (Wd A dT s2) 3 18
  refine w_i2l X.1 (ax_d X (show cdA 345 12 = some (.i2l, 1, 0, 0, 0) from rfl)) (z_last X 517 rfl (c518_ok rfl) rfl (by first | (clear hps2 p3; omega) | (clear p3; omega) | omega) (show 0 < 1 by first | (clear hps2 p3; omega) | (clear p3; omega) | omega) (cbig_ok rfl) (wd_gen (fun s6 hs6 => ?_)))
  have Is6 : Bd s6 := eqB hs6 (bd_D Is2)
  have Fs6 : Fm [22, 23, 70] [33, 26, 27, 28, 29, 30, 31, 32, 152, 153, 154, 1460] s s6 := by rw [hs6]; exact fm_D Gs2 (show 460 + 1000 ∈ _ by decide)
  have ws6_70 : iI s6 70 = iI s2 70 := eqI hs6 rfl
  have oos6 : iO s6 = e3 := by rw [hs6]; exact iO_u (by first | (clear hps2 p3; omega) | (clear p3; omega) | omega)
  refine z_goto X (t := 21) rfl rfl (z_const X rfl ?_)
  exact w_iret X.1 q hRt rfl (ax_d X (show cdA 345 22 = some (.ireturn, 1, 0, 0, 0) from rfl)) (show 3 ≤ 3 by decide) (show 18 ≤ 18 by decide) ⟨A, _, hA, rfl, Is6, Fs6, 0, rfl, (by decide), (by rcases hps2.2.2.2.2.2.2 with z | z; (· exact Or.inl ⟨by first | (clear hps2 p3; omega) | (clear p3; omega) | omega, by first | (clear hps2 p3; omega) | (clear p3; omega) | omega, by first | (clear hps2 p3; omega) | (clear p3; omega) | omega, by first | (clear hps2 p3; omega) | (clear p3; omega) | omega, by first | (clear hps2 p3; omega) | (clear p3; omega) | omega, by first | (clear hps2 p3; omega) | (clear p3; omega) | omega, by first | (clear hps2 p3; omega) | (clear p3; omega) | omega, by first | (clear hps2 p3; omega) | (clear p3; omega) | omega, by first | (clear hps2 p3; omega) | (clear p3; omega) | omega, by first | (clear hps2 p3; omega) | (clear p3; omega) | omega, srw_t z.2.2.2 (srw_c (fun j => by rw [hs6]; rfl) (fun j => by rw [hs6]; rfl) (fun j => by rw [hs6]; rfl))⟩); (· exact Or.inr (Or.inl ⟨by first | (clear hps2 p3; omega) | (clear p3; omega) | omega, by first | (clear hps2 p3; omega) | (clear p3; omega) | omega, by first | (clear hps2 p3; omega) | (clear p3; omega) | omega, by first | (clear hps2 p3; omega) | (clear p3; omega) | omega, by first | (clear hps2 p3; omega) | (clear p3; omega) | omega, by first | (clear hps2 p3; omega) | (clear p3; omega) | omega, by first | (clear hps2 p3; omega) | (clear p3; omega) | omega, by first | (clear hps2 p3; omega) | (clear p3; omega) | omega, by first | (clear hps2 p3; omega) | (clear p3; omega) | omega, by first | (clear hps2 p3; omega) | (clear p3; omega) | omega, rwa_u z.2.2.2 (srw_c (fun j => by rw [hs6]; rfl) (fun j => by rw [hs6]; rfl) (fun j => by rw [hs6]; rfl))⟩)))⟩
set_option maxRecDepth 4000 in
theorem k_did6 (G : GX l s0 D tys a0 dT) {U : AirD} (I : Bd s) (jRLx : RLx s) (jMDJ : MDJ U s) {x y z w : Int} (p0 : rng x) (p1 : rng y) (p2 : rng z) (p3 : w = 0 ∨ w = 1) (p4 : iI s 89 = 1) : CT l s0 D A dT 287 (rmN 287) [.ref (A 179), .int (Int32.ofInt x), .int (Int32.ofInt y), .int (Int32.ofInt z), .int (Int32.ofInt w)] s (fun o t => Bd t ∧ Fm [73, 107, 77, 75, 78, 79, 80, 81] [161, 202, 203, 204, 205, 206, 207, 208, 209, 210, 211, 212, 213, 214, 215, 216, 217, 218, 219, 220, 221, 222, 223, 224, 225, 226, 227, 230, 417, 418, 419, 420, 421, 422, 423, 424, 425, 426, 427, 428, 429, 430, 431, 432, 433, 434, 435, 436, 437, 438, 439, 440, 441, 442, 443, 444, 445, 446, 447, 448, 449, 450, 451, 452, 453, 454, 455, 456, 457, 459] s t ∧ RLx t ∧ ∃ e, o = .inl (some (.int (Int32.ofInt e))) ∧ rng e ∧ (((0 ≤ x ∧ x ≤ 7 ∧ 0 ≤ y ∧ y ≤ 23 ∧ 0 ≤ z ∧ z ≤ 9999) ∧ iI t 73 = 0 ∧ iI s 107 = 40 ∧ e = -1 ∧ iI t 107 = 40 ∧ SRW 40 (mD s) (mBk s) (mHd s) (mD t) (mBk t) (mHd t)) ∨ ((0 ≤ x ∧ x ≤ 7 ∧ 0 ≤ y ∧ y ≤ 23 ∧ 0 ≤ z ∧ z ≤ 9999) ∧ iI t 73 = 0 ∧ iI s 107 ≠ 40 ∧ e = iI s 107 ∧ iI t 107 = iI s 107 + 1 ∧ RWA (nmH (pcS (pfM s) x) (uW U) (moW U (y : Int).toNat (-1)) (uN U) 1) (iI s 107).toNat z w (mD s) (mBk s) (mHd s) (mD t) (mBk t) (mHd t)) ∨ ((x < 0 ∨ 7 < x ∨ y < 0 ∨ 23 < y ∨ z < 0 ∨ 9999 < z) ∧ iI t 73 = 1 ∧ iI t 107 = iI s 107 ∧ SRW 40 (mD s) (mBk s) (mHd s) (mD t) (mBk t) (mHd t)))) := by
  refine ct_of G (by decide) (Nat.le_of_ble_eq_true rfl) (fun k X E hRt hXt q => ?_)
  show WS k 0 [(0, .ref (A 179)), (1, .int (Int32.ofInt x)), (2, .int (Int32.ofInt y)), (3, .int (Int32.ofInt z)), (4, .int (Int32.ofInt w))] [] _ 0 0
  have F : Fm [73, 107, 77, 75, 78, 79, 80, 81] [161, 202, 203, 204, 205, 206, 207, 208, 209, 210, 211, 212, 213, 214, 215, 216, 217, 218, 219, 220, 221, 222, 223, 224, 225, 226, 227, 230, 417, 418, 419, 420, 421, 422, 423, 424, 425, 426, 427, 428, 429, 430, 431, 432, 433, 434, 435, 436, 437, 438, 439, 440, 441, 442, 443, 444, 445, 446, 447, 448, 449, 450, 451, 452, 453, 454, 455, 456, 457, 459] s s := fm_rf _ _ s
  have aw0_MRS : MRS s s := mrs_rf
  have b1 := bi_73 I
  have b2 := bi_107 I
  have b3 := bi_89 I
  have L79 : ∀ (n : Nat) (t : PS) (xv yv zv wv c : Int), Bd t → Fm [73, 107, 77, 75, 78, 79, 80, 81] [161, 202, 203, 204, 205, 206, 207, 208, 209, 210, 211, 212, 213, 214, 215, 216, 217, 218, 219, 220, 221, 222, 223, 224, 225, 226, 227, 230, 417, 418, 419, 420, 421, 422, 423, 424, 425, 426, 427, 428, 429, 430, 431, 432, 433, 434, 435, 436, 437, 438, 439, 440, 441, 442, 443, 444, 445, 446, 447, 448, 449, 450, 451, 452, 453, 454, 455, 456, 457, 459] s t → RLx t → MDJ U t → (HCQ (nmH (pcS (pfM s) x) (uW U) (moW U (y : Int).toNat (-1)) (uN U) 1) (iI s 107) c s t ∧ (∀ j, j < 7 → Int32.ofInt (iC t 161 j) = (nmH (pcS (pfM s) x) (uW U) (moW U (y : Int).toNat (-1)) (uN U) 1) j) ∧ SAM 457 s t ∧ SAM 459 s t) → (((zv = z ∧ rng z) ∧ wv = w ∧ (w = 0 ∨ w = 1)) ∧ (0 ≤ x ∧ x ≤ 7 ∧ 0 ≤ y ∧ y ≤ 23 ∧ 0 ≤ z ∧ z ≤ 9999) ∧ (0 ≤ c ∧ c ≤ 4) ∧ (iI s 107 ≠ 40 ∧ iI t 107 ≤ 39) ∧ iI t 107 = iI s 107 ∧ iI t 73 = 0) → (4 - c : Int).toNat < n → (∀ (t' : PS) (c' : Int), Bd t' → Fm [73, 107, 77, 75, 78, 79, 80, 81] [161, 202, 203, 204, 205, 206, 207, 208, 209, 210, 211, 212, 213, 214, 215, 216, 217, 218, 219, 220, 221, 222, 223, 224, 225, 226, 227, 230, 417, 418, 419, 420, 421, 422, 423, 424, 425, 426, 427, 428, 429, 430, 431, 432, 433, 434, 435, 436, 437, 438, 439, 440, 441, 442, 443, 444, 445, 446, 447, 448, 449, 450, 451, 452, 453, 454, 455, 456, 457, 459] s t' → RLx t' → MDJ U t' → (HCQ (nmH (pcS (pfM s) x) (uW U) (moW U (y : Int).toNat (-1)) (uN U) 1) (iI s 107) c' s t' ∧ (∀ j, j < 7 → Int32.ofInt (iC t' 161 j) = (nmH (pcS (pfM s) x) (uW U) (moW U (y : Int).toNat (-1)) (uN U) 1) j) ∧ SAM 457 s t' ∧ SAM 459 s t') → (((zv = z ∧ rng z) ∧ wv = w ∧ (w = 0 ∨ w = 1)) ∧ (0 ≤ x ∧ x ≤ 7 ∧ 0 ≤ y ∧ y ≤ 23 ∧ 0 ≤ z ∧ z ≤ 9999) ∧ c' = 4 ∧ (iI s 107 ≠ 40 ∧ iI t' 107 ≤ 39) ∧ iI t' 107 = iI s 107 ∧ iI t' 73 = 0) → WS k 110 [(0, .ref (A 179)), (1, .int (Int32.ofInt xv)), (2, .int (Int32.ofInt yv)), (3, .int (Int32.ofInt zv)), (4, .int (Int32.ofInt wv)), (5, .int (Int32.ofInt c'))] [] (Wd A dT t') 0 0) → WS k 79 [(0, .ref (A 179)), (1, .int (Int32.ofInt xv)), (2, .int (Int32.ofInt yv)), (3, .int (Int32.ofInt zv)), (4, .int (Int32.ofInt wv)), (5, .int (Int32.ofInt c))] [] (Wd A dT t) 0 0 := by
    intro n
    induction n with
    | zero =>
      intro t xv yv zv wv c I F jjRLx jjMDJ hq hi hm kx
      exact absurd hm (Nat.not_lt_zero _)
    | succ n ih =>
      intro t xv yv zv wv c I F jjRLx jjMDJ hq hi hm kx
      have b1001 := bi_73 I
      have b1002 := bi_107 I
      have b1003 := bi_89 I
      refine z_load X (x := c) rfl (List.Mem.tail _ (List.Mem.tail _ (List.Mem.tail _ (List.Mem.tail _ (List.Mem.tail _ (List.Mem.head _)))))) (z_const X rfl (z_icmp_ge X (t := 110) rfl rfl ⟨by first | exact oq_fa4e5087 hi.2.2.1.1 | omega, by first | exact oq_4a4414da hi.2.2.1.2 | omega⟩ (by decide) (fun g1004 => ?_) (fun g1004 => ?_)))
      ·
        refine WS_pq [0, 1, 2, 3, 4, 5] (lv' := [(0, .ref (A 179)), (1, .int (Int32.ofInt xv)), (2, .int (Int32.ofInt yv)), (3, .int (Int32.ofInt zv)), (4, .int (Int32.ofInt wv)), (5, .int (Int32.ofInt c))]) rfl ?_
        exact kx _ c I F jjRLx jjMDJ hq (by first | exact ⟨And.intro (And.intro (hi.1.1.1) (And.intro (hi.1.1.2.1) (hi.1.1.2.2))) (And.intro (hi.1.2.1) (hi.1.2.2)), And.intro (hi.2.1.1) (And.intro (hi.2.1.2.1) (And.intro (hi.2.1.2.2.1) (And.intro (hi.2.1.2.2.2.1) (And.intro (hi.2.1.2.2.2.2.1) (hi.2.1.2.2.2.2.2))))), oq_b0bc9e24 hi.2.2.1.2 g1004, And.intro (hi.2.2.2.1.1) (hi.2.2.2.1.2), hi.2.2.2.2.1, hi.2.2.2.2.2⟩ | omega)
      ·
        refine z_aload_n X (x := A 179) rfl (List.Mem.head _) (s_getR X 179 rfl (c518_ok rfl) rfl rfl (z_aload_n X (x := A 179) rfl (List.Mem.head _) (z_getI X 179 rfl (c518_ok rfl) rfl rfl ?_)))
        have b1005 := bi_107 I
        refine z_aald X rw_473 rfl (by first | exact b1005.1 | omega) (show (iI t 107) < 40 by first | exact oq_2ca8b5c0 hi.2.2.2.1.2 | omega) (by decide) (z_load X (x := c) rfl (List.Mem.tail _ (List.Mem.tail _ (List.Mem.tail _ (List.Mem.tail _ (List.Mem.tail _ (List.Mem.head _)))))) (z_aload_n X (x := A 179) rfl (List.Mem.head _) (s_getR X 179 rfl (c518_ok rfl) rfl rfl (z_load X (x := c) rfl (List.Mem.tail _ (List.Mem.tail _ (List.Mem.tail _ (List.Mem.tail _ (List.Mem.tail _ (List.Mem.head _)))))) (z_ald X 184 rfl (c518_ok rfl) rfl (by first | exact hi.2.2.1.1 | omega) (show c < 7 by first | exact oq_453ddee4 g1004 | omega) (cbig_ok rfl) ?_)))))
        have b1006 := bc_161 I (show (c).toNat < 7 by first | exact oq_ca1d9e56 g1004 | omega)
        refine z_ast2 X rw_473 rfl (show ((iI t 107) : Int).toNat < 40 by first | exact oq_09251224 hi.2.2.2.1.2 | omega) (by first | exact hi.2.2.1.1 | omega) (show c < 4 by first | exact g1004 | omega) (by decide) (wd_gen (fun s1007 hs1007 => ?_))
        have Is1007 : Bd s1007 := eqB hs1007 (rw_st rw_473 I (show ((iI t 107) : Int).toNat < 40 by first | exact oq_09251224 hi.2.2.2.1.2 | omega) (show ((-2147483648) : Int) ≤ (iC t 161 (c).toNat) ∧ (iC t 161 (c).toNat) ≤ 2147483647 by first | exact ⟨b1006.1, b1006.2⟩ | omega) (rng_to _))
        have Fs1007 := eqF hs1007 (fm_C (i := (c : Int).toNat) (x := Int32.ofInt (iC t 161 (c).toNat)) F ((show ∀ j, j < 40 → 417 + j ∈ _ by decide) ((iI t 107) : Int).toNat (by first | exact oq_09251224 hi.2.2.2.1.2 | omega)))
        have ws1007_73 : iI s1007 73 = iI t 73 := eqI hs1007 rfl
        have ws1007_107 : iI s1007 107 = iI t 107 := eqI hs1007 rfl
        have ws1007_89 : iI s1007 89 = iI t 89 := eqI hs1007 rfl
        have fs1007 : Fm [] [417, 418, 419, 420, 421, 422, 423, 424, 425, 426, 427, 428, 429, 430, 431, 432, 433, 434, 435, 436, 437, 438, 439, 440, 441, 442, 443, 444, 445, 446, 447, 448, 449, 450, 451, 452, 453, 454, 455, 456] t s1007 := by rw [hs1007]; exact fm_C (fm_rf _ _ _) ((show ∀ j, j < 40 → 417 + j ∈ _ by decide) ((iI t 107) : Int).toNat (by first | exact oq_09251224 hi.2.2.2.1.2 | omega))
        have JRLx_s1007 : RLx s1007 := RLx_fm fs1007 (by decide) jjRLx
        have JMDJ_s1007 : MDJ U s1007 := MDJ_fm fs1007 (by decide) jjMDJ
        refine z_inc X (x := c) (lv' := [(5, .int (Int32.ofInt (c + 1))), (0, .ref (A 179)), (1, .int (Int32.ofInt xv)), (2, .int (Int32.ofInt yv)), (3, .int (Int32.ofInt zv)), (4, .int (Int32.ofInt wv))]) rfl (by decide) (List.Mem.tail _ (List.Mem.tail _ (List.Mem.tail _ (List.Mem.tail _ (List.Mem.tail _ (List.Mem.head _)))))) (fun _ h => h) (z_goto X (t := 79) rfl rfl (WS_pq [1, 2, 3, 4, 5, 0] (lv' := [(0, .ref (A 179)), (1, .int (Int32.ofInt xv)), (2, .int (Int32.ofInt yv)), (3, .int (Int32.ofInt zv)), (4, .int (Int32.ofInt wv)), (5, .int (Int32.ofInt (c + 1)))]) rfl ?_))
        exact ih _ xv yv zv wv (c + 1) Is1007 Fs1007 JRLx_s1007 JMDJ_s1007 ⟨hcq_up hq.1 (by first | (clear p3; omega) | omega) (by first | (clear p3; omega) | omega) (by rw [hs1007, show iI t 107 = iI s 107 by first | (clear p3; omega) | omega]) (rng_to _) (hq.2.1 _ (by first | (clear p3; omega) | omega)), fun j hj => by rw [hs1007, iC_a (by first | (clear p3; omega) | omega)]; exact hq.2.1 j hj, by rw [hs1007]; exact sam_C (by first | (clear p3; omega) | omega) hq.2.2.1, by rw [hs1007]; exact sam_C (by first | (clear p3; omega) | omega) hq.2.2.2⟩ (by first | exact ⟨And.intro (And.intro (hi.1.1.1) (And.intro (hi.1.1.2.1) (hi.1.1.2.2))) (And.intro (hi.1.2.1) (hi.1.2.2)), And.intro (hi.2.1.1) (And.intro (hi.2.1.2.1) (And.intro (hi.2.1.2.2.1) (And.intro (hi.2.1.2.2.2.1) (And.intro (hi.2.1.2.2.2.2.1) (hi.2.1.2.2.2.2.2))))), And.intro (oq_54f49eb5 hi.2.2.1.1) (oq_5b7aaf9e g1004), And.intro (hi.2.2.2.1.1) (oq_bcf6953c ws1007_107 hi.2.2.2.1.2), oq_1aa5be9e ws1007_107 hi.2.2.2.2.1, oq_333640b7 ws1007_73 hi.2.2.2.2.2 b1001.1⟩ | omega) (by first | exact qk_me hm (by decide) (oq_de1b25d0 g1004) | omega) kx
  refine z_aload_n X (x := A 179) rfl (List.Mem.head _) (z_const X rfl (s_putI X 179 rfl (c518_ok rfl) rfl rfl (by decide) rfl rfl rfl (wd_gen (fun s4 hs4 => ?_))))
  have Is4 : Bd s4 := eqB hs4 (bd_I I (show (0 : Int) ≤ 0 ∧ 0 ≤ 3 by first | exact ⟨by decide, by decide⟩ | omega) (by decide))
  have Fs4 := eqF hs4 (fm_I F (inl_ok (a := 73) rfl))
  have vs4 : iI s4 73 = 0 := eqI hs4 (iI_u (by decide))
  have ws4_107 : iI s4 107 = iI s 107 := eqI hs4 rfl
  have ws4_89 : iI s4 89 = iI s 89 := eqI hs4 rfl
  have aws4_MRS : MRS s s4 := by rw [hs4]; exact aw0_MRS
  have fs4 : Fm [73] [] s s4 := by rw [hs4]; exact fm_I (fm_rf _ _ _) (show 73 ∈ _ by decide)
  have JRLx_s4 : RLx s4 := RLx_fm fs4 (by decide) jRLx
  have JMDJ_s4 : MDJ U s4 := MDJ_fm fs4 (by decide) jMDJ
  refine z_aload_n X (x := A 179) rfl (List.Mem.head _) (z_load_n X (x := x) rfl (List.Mem.tail _ (List.Mem.head _)) (z_const X rfl (z_bipush X rfl (z_callS X (rm := rmN 188) (As := [.int (Int32.ofInt x), .int (Int32.ofInt 0), .int (Int32.ofInt 7)]) (st := [.ref (A 179)]) rfl rfl (by rw [E.1, E.2.1, E.2.2.1]; exact k_in2 G Is4 (by first | exact ⟨p0.1, p0.2⟩ | omega) (by first | exact ⟨by decide, by decide⟩ | omega) (by first | exact ⟨by decide, by decide⟩ | omega)) ⟨by rw [E.2.2.2]; exact (show (rmN 188).frames + 1 ≤ (rmN 287).frames by decide), by rw [E.2.2.2]; exact (show 8 + (mNL (miB 188) + 11) + (rmN 188).locals ≤ (rmN 287).locals by decide), by rw [E.2.2.2]; exact (show 0 + (rmN 188).cells ≤ (rmN 287).cells by decide), by rw [E.2.2.2]; exact (show 0 + (rmN 188).slots ≤ (rmN 287).slots by decide)⟩ (Nat.le_of_ble_eq_true rfl) (fun vv s5 hq => ?_) (fun ee s5 hq => ?_)))))
  rotate_left
  · obtain ⟨rfl, e6, hv, hrs5, hps5⟩ := hq; cases hv
  obtain ⟨rfl, e6, hv, hrs5, hps5⟩ := hq
  cases hv
  show WS k 13 [(0, .ref (A 179)), (1, .int (Int32.ofInt x)), (2, .int (Int32.ofInt y)), (3, .int (Int32.ofInt z)), (4, .int (Int32.ofInt w))] [.int (Int32.ofInt e6), .ref (A 179)] (Wd A dT s4) 0 0
  refine z_if_eq X (t := 37) rfl rfl hrs5 (fun g7 => ?_) (fun g7 => ?_)
  ·
    refine z_const X rfl (z_goto X (t := 42) rfl rfl (z_const X rfl (zcV_i0 X E 179 (As := [.int (Int32.ofInt 1), .int (Int32.ofInt 1)]) (st := []) rfl rfl rfl rfl (k_bad2 G Is4 (by first | exact Or.inr (by decide) | omega) (by first | exact ⟨by decide, by decide⟩ | omega)) rfl (Nat.le_of_ble_eq_true rfl) (fun s8 e9 Is8 Fs8 hrs8 hps8 => ?_))))
    have Gs8 := fm_tq Fs4 Fs8 rfl rfl
    have JRLx_s8 : RLx s8 := RLx_fm Fs8 (by decide) JRLx_s4
    have JMDJ_s8 : MDJ U s8 := MDJ_fm Fs8 (by decide) JMDJ_s4
    have b10 := bi_73 Is8
    have ws8_107 : iI s8 107 = iI s4 107 := fm_iq Fs8 rfl
    have ws8_89 : iI s8 89 = iI s4 89 := fm_iq Fs8 rfl
    have aws8_MRS : MRS s s8 := mrs_ts aws4_MRS (mrs_fm Fs8 (by decide +kernel))
    refine z_if_eq X (t := 51) rfl rfl hrs8 (fun g11 => ?_) (fun g11 => ?_)
    ·
      refine z_aload_n X (x := A 179) rfl (List.Mem.head _) (z_getI X 179 rfl (c518_ok rfl) rfl rfl ?_)
      have b12 := bi_107 Is8
      refine z_bipush X rfl (z_icmp_ne X (t := 62) rfl rfl (rng_to _) (by decide) (fun g13 => ?_) (fun g13 => ?_))
      ·
        refine z_aload_n X (x := A 179) rfl (List.Mem.head _) (z_load_n X (x := x) rfl (List.Mem.tail _ (List.Mem.head _)) (zcV_v0 X E 179 (As := [.int (Int32.ofInt x)]) (st := []) rfl rfl rfl rfl (k_setOf3 G Is8 (by first | exact ⟨p0.1, p0.2⟩ | omega)) rfl (Nat.le_of_ble_eq_true rfl) (fun s14 Is14 Fs14 hps14 => ?_)))
        have Gs14 := fm_tq Gs8 Fs14 rfl rfl
        have JRLx_s14 : RLx s14 := RLx_fm Fs14 (by decide) JRLx_s8
        have JMDJ_s14 : MDJ U s14 := MDJ_fm Fs14 (by decide) JMDJ_s8
        have ws14_73 : iI s14 73 = iI s8 73 := fm_iq Fs14 rfl
        have ws14_107 : iI s14 107 = iI s8 107 := fm_iq Fs14 rfl
        have ws14_89 : iI s14 89 = iI s8 89 := fm_iq Fs14 rfl
        have aws14_MRS : MRS s s14 := mrs_ts aws8_MRS (mrs_fm Fs14 (by decide +kernel))
        have hIn : inS s14 = pcS (pfM s) x := by rw [soq_in hps14, show pfM s8 = pfM s from funext (fun j => fm_c Gs8 (by decide))]
        refine z_aload_n X (x := A 179) rfl (List.Mem.head _) (z_load_n X (x := y) rfl (List.Mem.tail _ (List.Mem.tail _ (List.Mem.head _))) (zcV_v2 X E 179 (As := [.int (Int32.ofInt y)]) (st := []) rfl rfl rfl rfl (k_asTold6 G Is14 JRLx_s14 JMDJ_s14 (by first | exact ⟨oq_674898f9 g11 hps8 vs4, oq_48516caf g11 hps8 vs4⟩ | omega)) rfl (Nat.le_of_ble_eq_true rfl) (fun s16 Is16 Fs16 JRLx_s16 JNQ_s16 hps16 => ?_)))
        have Gs16 := fm_tq Gs14 Fs16 rfl rfl
        have JRLx_s16 : RLx s16 := RLx_fm Fs16 (by decide) JRLx_s14
        have JMDJ_s16 : MDJ U s16 := MDJ_fm Fs16 (by decide) JMDJ_s14
        have ws16_73 : iI s16 73 = iI s14 73 := fm_iq Fs16 rfl
        have ws16_107 : iI s16 107 = iI s14 107 := fm_iq Fs16 rfl
        have ws16_89 : iI s16 89 = iI s14 89 := fm_iq Fs16 rfl
        have aws16_MRS : MRS s s16 := mrs_ts aws14_MRS (mrs_fm Fs16 (by decide +kernel))
        have JNW_s16 : NW s16 := NW_of JNQ_s16 JRLx_s16
        have hNW9 := nq_w JMDJ_s16 JNQ_s16
        have hNE9 : NWE U s16 := ⟨JMDJ_s16.1.2, hNW9.1⟩
        have hIn2 : inS s16 = pcS (pfM s) x := by rw [ins_fm Fs16 (by decide)]; exact hIn
        refine z_aload_n X (x := A 179) rfl (List.Mem.head _) (zcV_v2 X E 179 (As := []) (st := []) rfl rfl rfl rfl (k_listen3 G Is16 JNW_s16 hNW9.2 ) rfl (Nat.le_of_ble_eq_true rfl) (fun s18 Is18 Fs18 JNW_s18 JNWL_s18 hps18 => ?_))
        have Gs18 := fm_tq Gs16 Fs18 rfl rfl
        have JRLx_s18 : RLx s18 := RLx_fm Fs18 (by decide) JRLx_s16
        have JMDJ_s18 : MDJ U s18 := MDJ_fm Fs18 (by decide) JMDJ_s16
        have JNW_s18 : NW s18 := NW_fm Fs18 (by decide) JNW_s16
        have JNWL_s18 : NWL s18 := NWL_fm Fs18 (by decide) hNW9.2
        have ws18_73 : iI s18 73 = iI s16 73 := fm_iq Fs18 rfl
        have ws18_107 : iI s18 107 = iI s16 107 := fm_iq Fs18 rfl
        have ws18_89 : iI s18 89 = iI s16 89 := fm_iq Fs18 rfl
        have aws18_MRS : MRS s s18 := mrs_ts aws16_MRS (mrs_fm Fs18 (by decide +kernel))
        have hM1 : iI s16 89 = 1 := by first | (clear g13 hps8 hps5 p3; omega) | (clear hps8 hps5 p3; omega) | omega
        have hn : ∀ j, j < 7 → Int32.ofInt (iC s18 161 j) = (nmH (pcS (pfM s) x) (uW U) (moW U (y : Int).toNat (-1)) (uN U) 1) j := by rw [mow_n, ← hIn2, ← hM1]; exact ml_names hps18 hNE9 hps16 JMDJ_s16.1.1 JMDJ_s16.2.2.1
        refine z_const X rfl (z_store X (lv' := [(5, .int (Int32.ofInt 0)), (0, .ref (A 179)), (1, .int (Int32.ofInt x)), (2, .int (Int32.ofInt y)), (3, .int (Int32.ofInt z)), (4, .int (Int32.ofInt w))]) rfl (by decide) (fun _ h => h) (WS_pq [1, 2, 3, 4, 5, 0] (lv' := [(0, .ref (A 179)), (1, .int (Int32.ofInt x)), (2, .int (Int32.ofInt y)), (3, .int (Int32.ofInt z)), (4, .int (Int32.ofInt w)), (5, .int (Int32.ofInt 0))]) rfl (L79 ((4 - 0 : Int).toNat + 1) s18 x y z w 0 Is18 Gs18 JRLx_s18 JMDJ_s18 ⟨hcq_0 aws18_MRS.2.2, hn, aws18_MRS.1, aws18_MRS.2.1⟩ (by first | exact ⟨And.intro (And.intro (by decide) (And.intro (p2.1) (p2.2))) (And.intro (by decide) (p3)), oq_40960813 g11 hps8 vs4, And.intro (by decide) (by decide), oq_f84a1ba0 ws18_107 ws16_107 ws14_107 g13 b12.2 ws8_107 ws4_107, oq_d5af8cc9 ws18_107 ws4_107 ws16_107 ws8_107 ws14_107, oq_3904add8 ws18_73 ws16_73 ws14_73 g11 b10.1 hps8 vs4⟩ | omega) (Nat.lt_succ_self _) ?_)))
        intro s20 x21 Is20 Fs20 JRLx_s20 JMDJ_s20 Qs20 hs20
        have b22 := bi_73 Is20
        have b23 := bi_107 Is20
        have b24 := bi_89 Is20
        refine z_aload_n X (x := A 179) rfl (List.Mem.head _) (s_getR X 179 rfl (c518_ok rfl) rfl rfl (z_aload_n X (x := A 179) rfl (List.Mem.head _) (z_getI X 179 rfl (c518_ok rfl) rfl rfl ?_)))
        have b25 := bi_107 Is20
        refine z_load_n X (x := z) rfl (List.Mem.tail _ (List.Mem.tail _ (List.Mem.tail _ (List.Mem.head _)))) (z_ast X 514 rfl (c518_ok rfl) rfl (by first | exact b25.1 | omega) (show (iI s20 107) < 40 by first | exact oq_2ca8b5c0 hs20.2.2.2.1.2 | omega) (cbig_ok rfl) (wd_gen (fun s26 hs26 => ?_)))
        have Is26 : Bd s26 := eqB hs26 (bd_C Is20 (show ((-2147483648) : Int) ≤ z ∧ z ≤ 2147483647 by first | exact ⟨hs20.1.1.2.1, hs20.1.1.2.2⟩ | omega) ⟨by first | exact hs20.1.1.2.1 | omega, by first | exact hs20.1.1.2.2 | omega⟩)
        have Fs26 := eqF hs26 (fm_C Fs20 (inl_ok (a := 457) rfl))
        have ws26_73 : iI s26 73 = iI s20 73 := eqI hs26 rfl
        have ws26_107 : iI s26 107 = iI s20 107 := eqI hs26 rfl
        have ws26_89 : iI s26 89 = iI s20 89 := eqI hs26 rfl
        have aws26_457 : UPD 457 ((iI s20 107)) z s20 s26 := by rw [hs26]; exact upd_put (sam_rf (a := 457) (s := s20)) ⟨by first | exact hs20.1.1.2.1 | omega, by first | exact hs20.1.1.2.2 | omega⟩
        have aws26_459 : SAM 459 s20 s26 := by rw [hs26]; exact sam_C (by decide) (sam_rf (a := 459) (s := s20))
        have fs26 : Fm [] [457] s20 s26 := by rw [hs26]; exact fm_C (fm_rf _ _ _) (show 457 ∈ _ by decide)
        have JRLx_s26 : RLx s26 := RLx_fm fs26 (by decide) JRLx_s20
        refine z_aload_n X (x := A 179) rfl (List.Mem.head _) (s_getR X 179 rfl (c518_ok rfl) rfl rfl (z_aload_n X (x := A 179) rfl (List.Mem.head _) (z_getI X 179 rfl (c518_ok rfl) rfl rfl ?_)))
        have b27 := bi_107 Is26
        refine z_load X (x := w) rfl (List.Mem.tail _ (List.Mem.tail _ (List.Mem.tail _ (List.Mem.tail _ (List.Mem.head _))))) (z_zast X 516 rfl (c518_ok rfl) rfl (by first | exact b27.1 | omega) (show (iI s26 107) < 40 by first | exact oq_e7509aa9 ws26_107 hs20.2.2.2.1.2 | omega) (cbig_ok rfl) (by first | exact hs20.1.2.2 | omega) (wd_gen (fun s28 hs28 => ?_)))
        have Is28 : Bd s28 := eqB hs28 (bd_C Is26 (show (0 : Int) ≤ w ∧ w ≤ 1 by first | exact ⟨oq_e4aca38c hs20.1.2.2, oq_14617724 hs20.1.2.2⟩ | omega) ⟨by first | exact oq_bde653e9 hs20.1.2.2 | omega, by first | exact oq_4ad2cb8b hs20.1.2.2 | omega⟩)
        have Fs28 := eqF hs28 (fm_C Fs26 (inl_ok (a := 459) rfl))
        have ws28_73 : iI s28 73 = iI s26 73 := eqI hs28 rfl
        have ws28_107 : iI s28 107 = iI s26 107 := eqI hs28 rfl
        have ws28_89 : iI s28 89 = iI s26 89 := eqI hs28 rfl
        have aws28_457 : UPD 457 ((iI s20 107)) z s20 s28 := by rw [hs28]; exact upd_C (by decide) aws26_457
        have aws28_459 : UPD 459 ((iI s26 107)) w s20 s28 := by rw [hs28]; exact upd_put aws26_459 ⟨by first | exact oq_bde653e9 hs20.1.2.2 | omega, by first | exact oq_4ad2cb8b hs20.1.2.2 | omega⟩
        have fs28 : Fm [] [459] s26 s28 := by rw [hs28]; exact fm_C (fm_rf _ _ _) (show 459 ∈ _ by decide)
        have JRLx_s28 : RLx s28 := RLx_fm fs28 (by decide) JRLx_s26
        refine z_aload_n X (x := A 179) rfl (List.Mem.head _) (w_dup X.1 (ax_d X (show cdA 287 132 = some (.dup, 1, 0, 0, 0) from rfl)) rfl (z_getI X 179 rfl (c518_ok rfl) rfl rfl ?_))
        have b29 := bi_107 Is28
        refine z_const X rfl (z_add X rfl (s_putI X 179 rfl (c518_ok rfl) rfl rfl (by decide) rfl rfl rfl (wd_gen (fun s30 hs30 => ?_))))
        have Is30 : Bd s30 := eqB hs30 (bd_I Is28 (show (0 : Int) ≤ ((iI s28 107) + 1) ∧ ((iI s28 107) + 1) ≤ 40 by first | exact ⟨oq_54f49eb5 b29.1, oq_44ae331b ws28_107 ws26_107 hs20.2.2.2.1.2⟩ | omega) ⟨by first | exact oq_74de1e16 b29.1 | omega, by first | exact oq_c01d6c28 b29.2 | omega⟩)
        have Fs30 := eqF hs30 (fm_I Fs28 (inl_ok (a := 107) rfl))
        have vs30 : iI s30 107 = ((iI s28 107) + 1) := eqI hs30 (iI_u ⟨by first | exact oq_74de1e16 b29.1 | omega, by first | exact oq_c01d6c28 b29.2 | omega⟩)
        have ws30_73 : iI s30 73 = iI s28 73 := eqI hs30 rfl
        have ws30_89 : iI s30 89 = iI s28 89 := eqI hs30 rfl
        have aws30_457 : UPD 457 ((iI s20 107)) z s20 s30 := by rw [hs30]; exact aws28_457
        have aws30_459 : UPD 459 ((iI s26 107)) w s20 s30 := by rw [hs30]; exact aws28_459
        have fs30 : Fm [107] [] s28 s30 := by rw [hs30]; exact fm_I (fm_rf _ _ _) (show 107 ∈ _ by decide)
        have JRLx_s30 : RLx s30 := RLx_fm fs30 (by decide) JRLx_s28
        refine z_aload_n X (x := A 179) rfl (List.Mem.head _) (z_getI X 179 rfl (c518_ok rfl) rfl rfl ?_)
        have b31 := bi_107 Is30
        refine z_const X rfl (z_sub X rfl ?_)
        exact w_iret X.1 q hRt rfl (ax_d X (show cdA 287 147 = some (.ireturn, 1, 0, 0, 0) from rfl)) (Nat.zero_le _) (Nat.zero_le _) ⟨_, rfl, Is30, Fs30, JRLx_s30, ((iI s30 107) - 1), rfl, ⟨by first | exact oq_c1e961c7 b31.1 | omega, by first | exact oq_86f8893e b31.2 | omega⟩, Or.inr (Or.inl ⟨by first | exact ⟨hs20.2.1.1, hs20.2.1.2.1, hs20.2.1.2.2.1, hs20.2.1.2.2.2.1, hs20.2.1.2.2.2.2.1, hs20.2.1.2.2.2.2.2⟩ | omega, by first | exact oq_0f72f93b ws30_73 ws28_73 ws26_73 hs20.2.2.2.2.2 b22.1 | omega, by first | exact hs20.2.2.2.1.1 | omega, by first | exact oq_4ef6c971 vs30 hs20.2.2.2.2.1 ws28_107 ws26_107 | omega, by first | exact oq_30266725 vs30 hs20.2.2.2.2.1 ws28_107 ws26_107 | omega, rwa_m (by first | (clear g13 hps8 hps5 p3; omega) | (clear hps8 hps5 p3; omega) | omega) (by have z := Qs20.1; rw [show x21 = 4 by first | (clear g13 hps8 hps5 p3; omega) | (clear hps8 hps5 p3; omega) | omega] at z; exact z) Qs20.2.2.1 Qs20.2.2.2 (upd_ix aws30_457 (by first | (clear g13 hps8 hps5 p3; omega) | (clear hps8 hps5 p3; omega) | omega)) (upd_ix aws30_459 (by first | (clear g13 hps8 hps5 p3; omega) | (clear hps8 hps5 p3; omega) | omega)) (fun r k hr => by rw [hs30]; show iC s28 _ _ = _; rw [hs28, iC_a (by first | (clear g13 hps8 hps5 p3; omega) | (clear hps8 hps5 p3; omega) | omega), hs26, iC_a (by first | (clear g13 hps8 hps5 p3; omega) | (clear hps8 hps5 p3; omega) | omega)])⟩)⟩
      ·
        refine z_const X rfl ?_
        exact w_iret X.1 q hRt rfl (ax_d X (show cdA 287 61 = some (.ireturn, 1, 0, 0, 0) from rfl)) (Nat.zero_le _) (Nat.zero_le _) ⟨_, rfl, Is8, Gs8, JRLx_s8, (-1), rfl, (by decide), Or.inl ⟨by first | exact ⟨oq_674898f9 g11 hps8 vs4, oq_7d7a532a g11 hps8 vs4, oq_674898f9 g11 hps8 vs4, oq_48516caf g11 hps8 vs4, oq_674898f9 g11 hps8 vs4, oq_e48faaef g11 hps8 vs4⟩ | omega, by first | exact oq_f4d57307 g11 b10.1 hps8 vs4 | omega, by first | exact oq_584785d6 b2.2 ws4_107 ws8_107 g13 | omega, by decide, by first | exact g13 | omega, mrs_s aws8_MRS⟩⟩
    ·
      refine z_const X rfl ?_
      exact w_iret X.1 q hRt rfl (ax_d X (show cdA 287 50 = some (.ireturn, 1, 0, 0, 0) from rfl)) (Nat.zero_le _) (Nat.zero_le _) ⟨_, rfl, Is8, Gs8, JRLx_s8, 0, rfl, (by decide), Or.inr (Or.inr ⟨by first | exact oq_9bd8ff3d g7 hps5 | omega, by first | exact oq_faabd673 g11 hps8 vs4 | omega, by first | exact oq_1aa5be9e ws8_107 ws4_107 | omega, mrs_s aws8_MRS⟩)⟩
  ·
    refine z_load_n X (x := y) rfl (List.Mem.tail _ (List.Mem.tail _ (List.Mem.head _))) (z_const X rfl (z_bipush X rfl (z_callS X (rm := rmN 188) (As := [.int (Int32.ofInt y), .int (Int32.ofInt 0), .int (Int32.ofInt 23)]) (st := [.ref (A 179)]) rfl rfl (by rw [E.1, E.2.1, E.2.2.1]; exact k_in2 G Is4 (by first | exact ⟨p1.1, p1.2⟩ | omega) (by first | exact ⟨by decide, by decide⟩ | omega) (by first | exact ⟨by decide, by decide⟩ | omega)) ⟨by rw [E.2.2.2]; exact (show (rmN 188).frames + 1 ≤ (rmN 287).frames by decide), by rw [E.2.2.2]; exact (show 8 + (mNL (miB 188) + 11) + (rmN 188).locals ≤ (rmN 287).locals by decide), by rw [E.2.2.2]; exact (show 0 + (rmN 188).cells ≤ (rmN 287).cells by decide), by rw [E.2.2.2]; exact (show 0 + (rmN 188).slots ≤ (rmN 287).slots by decide)⟩ (Nat.le_of_ble_eq_true rfl) (fun vv s32 hq => ?_) (fun ee s32 hq => ?_))))
    rotate_left
    · obtain ⟨rfl, e33, hv, hrs32, hps32⟩ := hq; cases hv
    obtain ⟨rfl, e33, hv, hrs32, hps32⟩ := hq
    cases hv
    show WS k 23 [(0, .ref (A 179)), (1, .int (Int32.ofInt x)), (2, .int (Int32.ofInt y)), (3, .int (Int32.ofInt z)), (4, .int (Int32.ofInt w))] [.int (Int32.ofInt e33), .ref (A 179)] (Wd A dT s4) 0 0
    refine z_if_eq X (t := 37) rfl rfl hrs32 (fun g34 => ?_) (fun g34 => ?_)
    ·
      refine z_const X rfl (z_goto X (t := 42) rfl rfl (z_const X rfl (zcV_i0 X E 179 (As := [.int (Int32.ofInt 1), .int (Int32.ofInt 1)]) (st := []) rfl rfl rfl rfl (k_bad2 G Is4 (by first | exact Or.inr (by decide) | omega) (by first | exact ⟨by decide, by decide⟩ | omega)) rfl (Nat.le_of_ble_eq_true rfl) (fun s35 e36 Is35 Fs35 hrs35 hps35 => ?_))))
      have Gs35 := fm_tq Fs4 Fs35 rfl rfl
      have JRLx_s35 : RLx s35 := RLx_fm Fs35 (by decide) JRLx_s4
      have JMDJ_s35 : MDJ U s35 := MDJ_fm Fs35 (by decide) JMDJ_s4
      have b37 := bi_73 Is35
      have ws35_107 : iI s35 107 = iI s4 107 := fm_iq Fs35 rfl
      have ws35_89 : iI s35 89 = iI s4 89 := fm_iq Fs35 rfl
      have aws35_MRS : MRS s s35 := mrs_ts aws4_MRS (mrs_fm Fs35 (by decide +kernel))
      refine z_if_eq X (t := 51) rfl rfl hrs35 (fun g38 => ?_) (fun g38 => ?_)
      ·
        refine z_aload_n X (x := A 179) rfl (List.Mem.head _) (z_getI X 179 rfl (c518_ok rfl) rfl rfl ?_)
        have b39 := bi_107 Is35
        refine z_bipush X rfl (z_icmp_ne X (t := 62) rfl rfl (rng_to _) (by decide) (fun g40 => ?_) (fun g40 => ?_))
        ·
          refine z_aload_n X (x := A 179) rfl (List.Mem.head _) (z_load_n X (x := x) rfl (List.Mem.tail _ (List.Mem.head _)) (zcV_v0 X E 179 (As := [.int (Int32.ofInt x)]) (st := []) rfl rfl rfl rfl (k_setOf3 G Is35 (by first | exact ⟨p0.1, p0.2⟩ | omega)) rfl (Nat.le_of_ble_eq_true rfl) (fun s41 Is41 Fs41 hps41 => ?_)))
          have Gs41 := fm_tq Gs35 Fs41 rfl rfl
          have JRLx_s41 : RLx s41 := RLx_fm Fs41 (by decide) JRLx_s35
          have JMDJ_s41 : MDJ U s41 := MDJ_fm Fs41 (by decide) JMDJ_s35
          have ws41_73 : iI s41 73 = iI s35 73 := fm_iq Fs41 rfl
          have ws41_107 : iI s41 107 = iI s35 107 := fm_iq Fs41 rfl
          have ws41_89 : iI s41 89 = iI s35 89 := fm_iq Fs41 rfl
          have aws41_MRS : MRS s s41 := mrs_ts aws35_MRS (mrs_fm Fs41 (by decide +kernel))
          have hIn : inS s41 = pcS (pfM s) x := by rw [soq_in hps41, show pfM s35 = pfM s from funext (fun j => fm_c Gs35 (by decide))]
          refine z_aload_n X (x := A 179) rfl (List.Mem.head _) (z_load_n X (x := y) rfl (List.Mem.tail _ (List.Mem.tail _ (List.Mem.head _))) (zcV_v2 X E 179 (As := [.int (Int32.ofInt y)]) (st := []) rfl rfl rfl rfl (k_asTold6 G Is41 JRLx_s41 JMDJ_s41 (by first | exact ⟨oq_674898f9 g38 hps35 vs4, oq_48516caf g38 hps35 vs4⟩ | omega)) rfl (Nat.le_of_ble_eq_true rfl) (fun s43 Is43 Fs43 JRLx_s43 JNQ_s43 hps43 => ?_)))
          have Gs43 := fm_tq Gs41 Fs43 rfl rfl
          have JRLx_s43 : RLx s43 := RLx_fm Fs43 (by decide) JRLx_s41
          have JMDJ_s43 : MDJ U s43 := MDJ_fm Fs43 (by decide) JMDJ_s41
          have ws43_73 : iI s43 73 = iI s41 73 := fm_iq Fs43 rfl
          have ws43_107 : iI s43 107 = iI s41 107 := fm_iq Fs43 rfl
          have ws43_89 : iI s43 89 = iI s41 89 := fm_iq Fs43 rfl
          have aws43_MRS : MRS s s43 := mrs_ts aws41_MRS (mrs_fm Fs43 (by decide +kernel))
          have JNW_s43 : NW s43 := NW_of JNQ_s43 JRLx_s43
          have hNW9 := nq_w JMDJ_s43 JNQ_s43
          have hNE9 : NWE U s43 := ⟨JMDJ_s43.1.2, hNW9.1⟩
          have hIn2 : inS s43 = pcS (pfM s) x := by rw [ins_fm Fs43 (by decide)]; exact hIn
          refine z_aload_n X (x := A 179) rfl (List.Mem.head _) (zcV_v2 X E 179 (As := []) (st := []) rfl rfl rfl rfl (k_listen3 G Is43 JNW_s43 hNW9.2 ) rfl (Nat.le_of_ble_eq_true rfl) (fun s45 Is45 Fs45 JNW_s45 JNWL_s45 hps45 => ?_))
          have Gs45 := fm_tq Gs43 Fs45 rfl rfl
          have JRLx_s45 : RLx s45 := RLx_fm Fs45 (by decide) JRLx_s43
          have JMDJ_s45 : MDJ U s45 := MDJ_fm Fs45 (by decide) JMDJ_s43
          have JNW_s45 : NW s45 := NW_fm Fs45 (by decide) JNW_s43
          have JNWL_s45 : NWL s45 := NWL_fm Fs45 (by decide) hNW9.2
          have ws45_73 : iI s45 73 = iI s43 73 := fm_iq Fs45 rfl
          have ws45_107 : iI s45 107 = iI s43 107 := fm_iq Fs45 rfl
          have ws45_89 : iI s45 89 = iI s43 89 := fm_iq Fs45 rfl
          have aws45_MRS : MRS s s45 := mrs_ts aws43_MRS (mrs_fm Fs45 (by decide +kernel))
          have hM1 : iI s43 89 = 1 := by first | (clear g40 hps35 hps32 g7 hps5 p3; omega) | (clear hps35 hps32 g7 hps5 p3; omega) | omega
          have hn : ∀ j, j < 7 → Int32.ofInt (iC s45 161 j) = (nmH (pcS (pfM s) x) (uW U) (moW U (y : Int).toNat (-1)) (uN U) 1) j := by rw [mow_n, ← hIn2, ← hM1]; exact ml_names hps45 hNE9 hps43 JMDJ_s43.1.1 JMDJ_s43.2.2.1
          refine z_const X rfl (z_store X (lv' := [(5, .int (Int32.ofInt 0)), (0, .ref (A 179)), (1, .int (Int32.ofInt x)), (2, .int (Int32.ofInt y)), (3, .int (Int32.ofInt z)), (4, .int (Int32.ofInt w))]) rfl (by decide) (fun _ h => h) (WS_pq [1, 2, 3, 4, 5, 0] (lv' := [(0, .ref (A 179)), (1, .int (Int32.ofInt x)), (2, .int (Int32.ofInt y)), (3, .int (Int32.ofInt z)), (4, .int (Int32.ofInt w)), (5, .int (Int32.ofInt 0))]) rfl (L79 ((4 - 0 : Int).toNat + 1) s45 x y z w 0 Is45 Gs45 JRLx_s45 JMDJ_s45 ⟨hcq_0 aws45_MRS.2.2, hn, aws45_MRS.1, aws45_MRS.2.1⟩ (by first | exact ⟨And.intro (And.intro (by decide) (And.intro (p2.1) (p2.2))) (And.intro (by decide) (p3)), oq_40960813 g38 hps35 vs4, And.intro (by decide) (by decide), oq_f84a1ba0 ws45_107 ws43_107 ws41_107 g40 b39.2 ws35_107 ws4_107, oq_d5af8cc9 ws45_107 ws4_107 ws43_107 ws35_107 ws41_107, oq_3904add8 ws45_73 ws43_73 ws41_73 g38 b37.1 hps35 vs4⟩ | omega) (Nat.lt_succ_self _) ?_)))
          intro s47 x48 Is47 Fs47 JRLx_s47 JMDJ_s47 Qs47 hs47
          have b49 := bi_73 Is47
          have b50 := bi_107 Is47
          have b51 := bi_89 Is47
          refine z_aload_n X (x := A 179) rfl (List.Mem.head _) (s_getR X 179 rfl (c518_ok rfl) rfl rfl (z_aload_n X (x := A 179) rfl (List.Mem.head _) (z_getI X 179 rfl (c518_ok rfl) rfl rfl ?_)))
          have b52 := bi_107 Is47
          refine z_load_n X (x := z) rfl (List.Mem.tail _ (List.Mem.tail _ (List.Mem.tail _ (List.Mem.head _)))) (z_ast X 514 rfl (c518_ok rfl) rfl (by first | exact b52.1 | omega) (show (iI s47 107) < 40 by first | exact oq_2ca8b5c0 hs47.2.2.2.1.2 | omega) (cbig_ok rfl) (wd_gen (fun s53 hs53 => ?_)))
          have Is53 : Bd s53 := eqB hs53 (bd_C Is47 (show ((-2147483648) : Int) ≤ z ∧ z ≤ 2147483647 by first | exact ⟨hs47.1.1.2.1, hs47.1.1.2.2⟩ | omega) ⟨by first | exact hs47.1.1.2.1 | omega, by first | exact hs47.1.1.2.2 | omega⟩)
          have Fs53 := eqF hs53 (fm_C Fs47 (inl_ok (a := 457) rfl))
          have ws53_73 : iI s53 73 = iI s47 73 := eqI hs53 rfl
          have ws53_107 : iI s53 107 = iI s47 107 := eqI hs53 rfl
          have ws53_89 : iI s53 89 = iI s47 89 := eqI hs53 rfl
          have aws53_457 : UPD 457 ((iI s47 107)) z s47 s53 := by rw [hs53]; exact upd_put (sam_rf (a := 457) (s := s47)) ⟨by first | exact hs47.1.1.2.1 | omega, by first | exact hs47.1.1.2.2 | omega⟩
          have aws53_459 : SAM 459 s47 s53 := by rw [hs53]; exact sam_C (by decide) (sam_rf (a := 459) (s := s47))
          have fs53 : Fm [] [457] s47 s53 := by rw [hs53]; exact fm_C (fm_rf _ _ _) (show 457 ∈ _ by decide)
          have JRLx_s53 : RLx s53 := RLx_fm fs53 (by decide) JRLx_s47
          refine z_aload_n X (x := A 179) rfl (List.Mem.head _) (s_getR X 179 rfl (c518_ok rfl) rfl rfl (z_aload_n X (x := A 179) rfl (List.Mem.head _) (z_getI X 179 rfl (c518_ok rfl) rfl rfl ?_)))
          have b54 := bi_107 Is53
          refine z_load X (x := w) rfl (List.Mem.tail _ (List.Mem.tail _ (List.Mem.tail _ (List.Mem.tail _ (List.Mem.head _))))) (z_zast X 516 rfl (c518_ok rfl) rfl (by first | exact b54.1 | omega) (show (iI s53 107) < 40 by first | exact oq_e7509aa9 ws53_107 hs47.2.2.2.1.2 | omega) (cbig_ok rfl) (by first | exact hs47.1.2.2 | omega) (wd_gen (fun s55 hs55 => ?_)))
          have Is55 : Bd s55 := eqB hs55 (bd_C Is53 (show (0 : Int) ≤ w ∧ w ≤ 1 by first | exact ⟨oq_e4aca38c hs47.1.2.2, oq_14617724 hs47.1.2.2⟩ | omega) ⟨by first | exact oq_bde653e9 hs47.1.2.2 | omega, by first | exact oq_4ad2cb8b hs47.1.2.2 | omega⟩)
          have Fs55 := eqF hs55 (fm_C Fs53 (inl_ok (a := 459) rfl))
          have ws55_73 : iI s55 73 = iI s53 73 := eqI hs55 rfl
          have ws55_107 : iI s55 107 = iI s53 107 := eqI hs55 rfl
          have ws55_89 : iI s55 89 = iI s53 89 := eqI hs55 rfl
          have aws55_457 : UPD 457 ((iI s47 107)) z s47 s55 := by rw [hs55]; exact upd_C (by decide) aws53_457
          have aws55_459 : UPD 459 ((iI s53 107)) w s47 s55 := by rw [hs55]; exact upd_put aws53_459 ⟨by first | exact oq_bde653e9 hs47.1.2.2 | omega, by first | exact oq_4ad2cb8b hs47.1.2.2 | omega⟩
          have fs55 : Fm [] [459] s53 s55 := by rw [hs55]; exact fm_C (fm_rf _ _ _) (show 459 ∈ _ by decide)
          have JRLx_s55 : RLx s55 := RLx_fm fs55 (by decide) JRLx_s53
          refine z_aload_n X (x := A 179) rfl (List.Mem.head _) (w_dup X.1 (ax_d X (show cdA 287 132 = some (.dup, 1, 0, 0, 0) from rfl)) rfl (z_getI X 179 rfl (c518_ok rfl) rfl rfl ?_))
          have b56 := bi_107 Is55
          refine z_const X rfl (z_add X rfl (s_putI X 179 rfl (c518_ok rfl) rfl rfl (by decide) rfl rfl rfl (wd_gen (fun s57 hs57 => ?_))))
          have Is57 : Bd s57 := eqB hs57 (bd_I Is55 (show (0 : Int) ≤ ((iI s55 107) + 1) ∧ ((iI s55 107) + 1) ≤ 40 by first | exact ⟨oq_54f49eb5 b56.1, oq_44ae331b ws55_107 ws53_107 hs47.2.2.2.1.2⟩ | omega) ⟨by first | exact oq_74de1e16 b56.1 | omega, by first | exact oq_c01d6c28 b56.2 | omega⟩)
          have Fs57 := eqF hs57 (fm_I Fs55 (inl_ok (a := 107) rfl))
          have vs57 : iI s57 107 = ((iI s55 107) + 1) := eqI hs57 (iI_u ⟨by first | exact oq_74de1e16 b56.1 | omega, by first | exact oq_c01d6c28 b56.2 | omega⟩)
          have ws57_73 : iI s57 73 = iI s55 73 := eqI hs57 rfl
          have ws57_89 : iI s57 89 = iI s55 89 := eqI hs57 rfl
          have aws57_457 : UPD 457 ((iI s47 107)) z s47 s57 := by rw [hs57]; exact aws55_457
          have aws57_459 : UPD 459 ((iI s53 107)) w s47 s57 := by rw [hs57]; exact aws55_459
          have fs57 : Fm [107] [] s55 s57 := by rw [hs57]; exact fm_I (fm_rf _ _ _) (show 107 ∈ _ by decide)
          have JRLx_s57 : RLx s57 := RLx_fm fs57 (by decide) JRLx_s55
          refine z_aload_n X (x := A 179) rfl (List.Mem.head _) (z_getI X 179 rfl (c518_ok rfl) rfl rfl ?_)
          have b58 := bi_107 Is57
          refine z_const X rfl (z_sub X rfl ?_)
          exact w_iret X.1 q hRt rfl (ax_d X (show cdA 287 147 = some (.ireturn, 1, 0, 0, 0) from rfl)) (Nat.zero_le _) (Nat.zero_le _) ⟨_, rfl, Is57, Fs57, JRLx_s57, ((iI s57 107) - 1), rfl, ⟨by first | exact oq_c1e961c7 b58.1 | omega, by first | exact oq_86f8893e b58.2 | omega⟩, Or.inr (Or.inl ⟨by first | exact ⟨hs47.2.1.1, hs47.2.1.2.1, hs47.2.1.2.2.1, hs47.2.1.2.2.2.1, hs47.2.1.2.2.2.2.1, hs47.2.1.2.2.2.2.2⟩ | omega, by first | exact oq_0f72f93b ws57_73 ws55_73 ws53_73 hs47.2.2.2.2.2 b49.1 | omega, by first | exact hs47.2.2.2.1.1 | omega, by first | exact oq_4ef6c971 vs57 hs47.2.2.2.2.1 ws55_107 ws53_107 | omega, by first | exact oq_30266725 vs57 hs47.2.2.2.2.1 ws55_107 ws53_107 | omega, rwa_m (by first | (clear g40 hps35 hps32 g7 hps5 p3; omega) | (clear hps35 hps32 g7 hps5 p3; omega) | omega) (by have z := Qs47.1; rw [show x48 = 4 by first | (clear g40 hps35 hps32 g7 hps5 p3; omega) | (clear hps35 hps32 g7 hps5 p3; omega) | omega] at z; exact z) Qs47.2.2.1 Qs47.2.2.2 (upd_ix aws57_457 (by first | (clear g40 hps35 hps32 g7 hps5 p3; omega) | (clear hps35 hps32 g7 hps5 p3; omega) | omega)) (upd_ix aws57_459 (by first | (clear g40 hps35 hps32 g7 hps5 p3; omega) | (clear hps35 hps32 g7 hps5 p3; omega) | omega)) (fun r k hr => by rw [hs57]; show iC s55 _ _ = _; rw [hs55, iC_a (by first | (clear g40 hps35 hps32 g7 hps5 p3; omega) | (clear hps35 hps32 g7 hps5 p3; omega) | omega), hs53, iC_a (by first | (clear g40 hps35 hps32 g7 hps5 p3; omega) | (clear hps35 hps32 g7 hps5 p3; omega) | omega)])⟩)⟩
        ·
          refine z_const X rfl ?_
          exact w_iret X.1 q hRt rfl (ax_d X (show cdA 287 61 = some (.ireturn, 1, 0, 0, 0) from rfl)) (Nat.zero_le _) (Nat.zero_le _) ⟨_, rfl, Is35, Gs35, JRLx_s35, (-1), rfl, (by decide), Or.inl ⟨by first | exact ⟨oq_28d92795 g7 hps5, oq_ca823699 g7 hps5, oq_674898f9 g38 hps35 vs4, oq_48516caf g38 hps35 vs4, oq_674898f9 g38 hps35 vs4, oq_e48faaef g38 hps35 vs4⟩ | omega, by first | exact oq_f4d57307 g38 b37.1 hps35 vs4 | omega, by first | exact oq_584785d6 b2.2 ws4_107 ws35_107 g40 | omega, by decide, by first | exact g40 | omega, mrs_s aws35_MRS⟩⟩
      ·
        refine z_const X rfl ?_
        exact w_iret X.1 q hRt rfl (ax_d X (show cdA 287 50 = some (.ireturn, 1, 0, 0, 0) from rfl)) (Nat.zero_le _) (Nat.zero_le _) ⟨_, rfl, Is35, Gs35, JRLx_s35, 0, rfl, (by decide), Or.inr (Or.inr ⟨by first | exact oq_823b8351 g34 hps32 | omega, by first | exact oq_faabd673 g38 hps35 vs4 | omega, by first | exact oq_1aa5be9e ws35_107 ws4_107 | omega, mrs_s aws35_MRS⟩)⟩
    ·
      refine z_load_n X (x := z) rfl (List.Mem.tail _ (List.Mem.tail _ (List.Mem.tail _ (List.Mem.head _)))) (z_const X rfl (z_sipush X rfl (z_callS X (rm := rmN 188) (As := [.int (Int32.ofInt z), .int (Int32.ofInt 0), .int (Int32.ofInt 9999)]) (st := [.ref (A 179)]) rfl rfl (by rw [E.1, E.2.1, E.2.2.1]; exact k_in2 G Is4 (by first | exact ⟨p2.1, p2.2⟩ | omega) (by first | exact ⟨by decide, by decide⟩ | omega) (by first | exact ⟨by decide, by decide⟩ | omega)) ⟨by rw [E.2.2.2]; exact (show (rmN 188).frames + 1 ≤ (rmN 287).frames by decide), by rw [E.2.2.2]; exact (show 8 + (mNL (miB 188) + 11) + (rmN 188).locals ≤ (rmN 287).locals by decide), by rw [E.2.2.2]; exact (show 0 + (rmN 188).cells ≤ (rmN 287).cells by decide), by rw [E.2.2.2]; exact (show 0 + (rmN 188).slots ≤ (rmN 287).slots by decide)⟩ (Nat.le_of_ble_eq_true rfl) (fun vv s59 hq => ?_) (fun ee s59 hq => ?_))))
      rotate_left
      · obtain ⟨rfl, e60, hv, hrs59, hps59⟩ := hq; cases hv
      obtain ⟨rfl, e60, hv, hrs59, hps59⟩ := hq
      cases hv
      show WS k 34 [(0, .ref (A 179)), (1, .int (Int32.ofInt x)), (2, .int (Int32.ofInt y)), (3, .int (Int32.ofInt z)), (4, .int (Int32.ofInt w))] [.int (Int32.ofInt e60), .ref (A 179)] (Wd A dT s4) 0 0
      refine z_if_ne X (t := 41) rfl rfl hrs59 (fun g61 => ?_) (fun g61 => ?_)
      ·
        refine z_const X rfl (z_const X rfl (zcV_i0 X E 179 (As := [.int (Int32.ofInt 0), .int (Int32.ofInt 1)]) (st := []) rfl rfl rfl rfl (k_bad2 G Is4 (by first | exact Or.inl (by decide) | omega) (by first | exact ⟨by decide, by decide⟩ | omega)) rfl (Nat.le_of_ble_eq_true rfl) (fun s62 e63 Is62 Fs62 hrs62 hps62 => ?_)))
        have Gs62 := fm_tq Fs4 Fs62 rfl rfl
        have JRLx_s62 : RLx s62 := RLx_fm Fs62 (by decide) JRLx_s4
        have JMDJ_s62 : MDJ U s62 := MDJ_fm Fs62 (by decide) JMDJ_s4
        have b64 := bi_73 Is62
        have ws62_107 : iI s62 107 = iI s4 107 := fm_iq Fs62 rfl
        have ws62_89 : iI s62 89 = iI s4 89 := fm_iq Fs62 rfl
        have aws62_MRS : MRS s s62 := mrs_ts aws4_MRS (mrs_fm Fs62 (by decide +kernel))
        refine z_if_eq X (t := 51) rfl rfl hrs62 (fun g65 => ?_) (fun g65 => ?_)
        ·
          refine z_aload_n X (x := A 179) rfl (List.Mem.head _) (z_getI X 179 rfl (c518_ok rfl) rfl rfl ?_)
          have b66 := bi_107 Is62
          refine z_bipush X rfl (z_icmp_ne X (t := 62) rfl rfl (rng_to _) (by decide) (fun g67 => ?_) (fun g67 => ?_))
          ·
            refine z_aload_n X (x := A 179) rfl (List.Mem.head _) (z_load_n X (x := x) rfl (List.Mem.tail _ (List.Mem.head _)) (zcV_v0 X E 179 (As := [.int (Int32.ofInt x)]) (st := []) rfl rfl rfl rfl (k_setOf3 G Is62 (by first | exact ⟨p0.1, p0.2⟩ | omega)) rfl (Nat.le_of_ble_eq_true rfl) (fun s68 Is68 Fs68 hps68 => ?_)))
            have Gs68 := fm_tq Gs62 Fs68 rfl rfl
            have JRLx_s68 : RLx s68 := RLx_fm Fs68 (by decide) JRLx_s62
            have JMDJ_s68 : MDJ U s68 := MDJ_fm Fs68 (by decide) JMDJ_s62
            have ws68_73 : iI s68 73 = iI s62 73 := fm_iq Fs68 rfl
            have ws68_107 : iI s68 107 = iI s62 107 := fm_iq Fs68 rfl
            have ws68_89 : iI s68 89 = iI s62 89 := fm_iq Fs68 rfl
            have aws68_MRS : MRS s s68 := mrs_ts aws62_MRS (mrs_fm Fs68 (by decide +kernel))
            have hIn : inS s68 = pcS (pfM s) x := by rw [soq_in hps68, show pfM s62 = pfM s from funext (fun j => fm_c Gs62 (by decide))]
            refine z_aload_n X (x := A 179) rfl (List.Mem.head _) (z_load_n X (x := y) rfl (List.Mem.tail _ (List.Mem.tail _ (List.Mem.head _))) (zcV_v2 X E 179 (As := [.int (Int32.ofInt y)]) (st := []) rfl rfl rfl rfl (k_asTold6 G Is68 JRLx_s68 JMDJ_s68 (by first | exact ⟨oq_0159bb48 g34 hps32, oq_8b498cf6 g34 hps32⟩ | omega)) rfl (Nat.le_of_ble_eq_true rfl) (fun s70 Is70 Fs70 JRLx_s70 JNQ_s70 hps70 => ?_)))
            have Gs70 := fm_tq Gs68 Fs70 rfl rfl
            have JRLx_s70 : RLx s70 := RLx_fm Fs70 (by decide) JRLx_s68
            have JMDJ_s70 : MDJ U s70 := MDJ_fm Fs70 (by decide) JMDJ_s68
            have ws70_73 : iI s70 73 = iI s68 73 := fm_iq Fs70 rfl
            have ws70_107 : iI s70 107 = iI s68 107 := fm_iq Fs70 rfl
            have ws70_89 : iI s70 89 = iI s68 89 := fm_iq Fs70 rfl
            have aws70_MRS : MRS s s70 := mrs_ts aws68_MRS (mrs_fm Fs70 (by decide +kernel))
            have JNW_s70 : NW s70 := NW_of JNQ_s70 JRLx_s70
            have hNW9 := nq_w JMDJ_s70 JNQ_s70
            have hNE9 : NWE U s70 := ⟨JMDJ_s70.1.2, hNW9.1⟩
            have hIn2 : inS s70 = pcS (pfM s) x := by rw [ins_fm Fs70 (by decide)]; exact hIn
            refine z_aload_n X (x := A 179) rfl (List.Mem.head _) (zcV_v2 X E 179 (As := []) (st := []) rfl rfl rfl rfl (k_listen3 G Is70 JNW_s70 hNW9.2 ) rfl (Nat.le_of_ble_eq_true rfl) (fun s72 Is72 Fs72 JNW_s72 JNWL_s72 hps72 => ?_))
            have Gs72 := fm_tq Gs70 Fs72 rfl rfl
            have JRLx_s72 : RLx s72 := RLx_fm Fs72 (by decide) JRLx_s70
            have JMDJ_s72 : MDJ U s72 := MDJ_fm Fs72 (by decide) JMDJ_s70
            have JNW_s72 : NW s72 := NW_fm Fs72 (by decide) JNW_s70
            have JNWL_s72 : NWL s72 := NWL_fm Fs72 (by decide) hNW9.2
            have ws72_73 : iI s72 73 = iI s70 73 := fm_iq Fs72 rfl
            have ws72_107 : iI s72 107 = iI s70 107 := fm_iq Fs72 rfl
            have ws72_89 : iI s72 89 = iI s70 89 := fm_iq Fs72 rfl
            have aws72_MRS : MRS s s72 := mrs_ts aws70_MRS (mrs_fm Fs72 (by decide +kernel))
            have hM1 : iI s70 89 = 1 := by first | (clear g67 hps62 g61 hps59 g34 hps32 g7 hps5 p3; omega) | (clear hps62 g61 hps59 g34 hps32 g7 hps5 p3; omega) | omega
            have hn : ∀ j, j < 7 → Int32.ofInt (iC s72 161 j) = (nmH (pcS (pfM s) x) (uW U) (moW U (y : Int).toNat (-1)) (uN U) 1) j := by rw [mow_n, ← hIn2, ← hM1]; exact ml_names hps72 hNE9 hps70 JMDJ_s70.1.1 JMDJ_s70.2.2.1
            refine z_const X rfl (z_store X (lv' := [(5, .int (Int32.ofInt 0)), (0, .ref (A 179)), (1, .int (Int32.ofInt x)), (2, .int (Int32.ofInt y)), (3, .int (Int32.ofInt z)), (4, .int (Int32.ofInt w))]) rfl (by decide) (fun _ h => h) (WS_pq [1, 2, 3, 4, 5, 0] (lv' := [(0, .ref (A 179)), (1, .int (Int32.ofInt x)), (2, .int (Int32.ofInt y)), (3, .int (Int32.ofInt z)), (4, .int (Int32.ofInt w)), (5, .int (Int32.ofInt 0))]) rfl (L79 ((4 - 0 : Int).toNat + 1) s72 x y z w 0 Is72 Gs72 JRLx_s72 JMDJ_s72 ⟨hcq_0 aws72_MRS.2.2, hn, aws72_MRS.1, aws72_MRS.2.1⟩ (by first | exact ⟨And.intro (And.intro (by decide) (And.intro (p2.1) (p2.2))) (And.intro (by decide) (p3)), oq_f56e4e91 g61 hps59 g34 hps32 g7 hps5, And.intro (by decide) (by decide), oq_f84a1ba0 ws72_107 ws70_107 ws68_107 g67 b66.2 ws62_107 ws4_107, oq_d5af8cc9 ws72_107 ws4_107 ws70_107 ws62_107 ws68_107, oq_851b6b8b ws72_73 ws70_73 ws68_73 b64.1 hps62 vs4⟩ | omega) (Nat.lt_succ_self _) ?_)))
            intro s74 x75 Is74 Fs74 JRLx_s74 JMDJ_s74 Qs74 hs74
            have b76 := bi_73 Is74
            have b77 := bi_107 Is74
            have b78 := bi_89 Is74
            refine z_aload_n X (x := A 179) rfl (List.Mem.head _) (s_getR X 179 rfl (c518_ok rfl) rfl rfl (z_aload_n X (x := A 179) rfl (List.Mem.head _) (z_getI X 179 rfl (c518_ok rfl) rfl rfl ?_)))
            have b79 := bi_107 Is74
            refine z_load_n X (x := z) rfl (List.Mem.tail _ (List.Mem.tail _ (List.Mem.tail _ (List.Mem.head _)))) (z_ast X 514 rfl (c518_ok rfl) rfl (by first | exact b79.1 | omega) (show (iI s74 107) < 40 by first | exact oq_2ca8b5c0 hs74.2.2.2.1.2 | omega) (cbig_ok rfl) (wd_gen (fun s80 hs80 => ?_)))
            have Is80 : Bd s80 := eqB hs80 (bd_C Is74 (show ((-2147483648) : Int) ≤ z ∧ z ≤ 2147483647 by first | exact ⟨hs74.1.1.2.1, hs74.1.1.2.2⟩ | omega) ⟨by first | exact hs74.1.1.2.1 | omega, by first | exact hs74.1.1.2.2 | omega⟩)
            have Fs80 := eqF hs80 (fm_C Fs74 (inl_ok (a := 457) rfl))
            have ws80_73 : iI s80 73 = iI s74 73 := eqI hs80 rfl
            have ws80_107 : iI s80 107 = iI s74 107 := eqI hs80 rfl
            have ws80_89 : iI s80 89 = iI s74 89 := eqI hs80 rfl
            have aws80_457 : UPD 457 ((iI s74 107)) z s74 s80 := by rw [hs80]; exact upd_put (sam_rf (a := 457) (s := s74)) ⟨by first | exact hs74.1.1.2.1 | omega, by first | exact hs74.1.1.2.2 | omega⟩
            have aws80_459 : SAM 459 s74 s80 := by rw [hs80]; exact sam_C (by decide) (sam_rf (a := 459) (s := s74))
            have fs80 : Fm [] [457] s74 s80 := by rw [hs80]; exact fm_C (fm_rf _ _ _) (show 457 ∈ _ by decide)
            have JRLx_s80 : RLx s80 := RLx_fm fs80 (by decide) JRLx_s74
            refine z_aload_n X (x := A 179) rfl (List.Mem.head _) (s_getR X 179 rfl (c518_ok rfl) rfl rfl (z_aload_n X (x := A 179) rfl (List.Mem.head _) (z_getI X 179 rfl (c518_ok rfl) rfl rfl ?_)))
            have b81 := bi_107 Is80
            refine z_load X (x := w) rfl (List.Mem.tail _ (List.Mem.tail _ (List.Mem.tail _ (List.Mem.tail _ (List.Mem.head _))))) (z_zast X 516 rfl (c518_ok rfl) rfl (by first | exact b81.1 | omega) (show (iI s80 107) < 40 by first | exact oq_e7509aa9 ws80_107 hs74.2.2.2.1.2 | omega) (cbig_ok rfl) (by first | exact hs74.1.2.2 | omega) (wd_gen (fun s82 hs82 => ?_)))
            have Is82 : Bd s82 := eqB hs82 (bd_C Is80 (show (0 : Int) ≤ w ∧ w ≤ 1 by first | exact ⟨oq_e4aca38c hs74.1.2.2, oq_14617724 hs74.1.2.2⟩ | omega) ⟨by first | exact oq_bde653e9 hs74.1.2.2 | omega, by first | exact oq_4ad2cb8b hs74.1.2.2 | omega⟩)
            have Fs82 := eqF hs82 (fm_C Fs80 (inl_ok (a := 459) rfl))
            have ws82_73 : iI s82 73 = iI s80 73 := eqI hs82 rfl
            have ws82_107 : iI s82 107 = iI s80 107 := eqI hs82 rfl
            have ws82_89 : iI s82 89 = iI s80 89 := eqI hs82 rfl
            have aws82_457 : UPD 457 ((iI s74 107)) z s74 s82 := by rw [hs82]; exact upd_C (by decide) aws80_457
            have aws82_459 : UPD 459 ((iI s80 107)) w s74 s82 := by rw [hs82]; exact upd_put aws80_459 ⟨by first | exact oq_bde653e9 hs74.1.2.2 | omega, by first | exact oq_4ad2cb8b hs74.1.2.2 | omega⟩
            have fs82 : Fm [] [459] s80 s82 := by rw [hs82]; exact fm_C (fm_rf _ _ _) (show 459 ∈ _ by decide)
            have JRLx_s82 : RLx s82 := RLx_fm fs82 (by decide) JRLx_s80
            refine z_aload_n X (x := A 179) rfl (List.Mem.head _) (w_dup X.1 (ax_d X (show cdA 287 132 = some (.dup, 1, 0, 0, 0) from rfl)) rfl (z_getI X 179 rfl (c518_ok rfl) rfl rfl ?_))
            have b83 := bi_107 Is82
            refine z_const X rfl (z_add X rfl (s_putI X 179 rfl (c518_ok rfl) rfl rfl (by decide) rfl rfl rfl (wd_gen (fun s84 hs84 => ?_))))
            have Is84 : Bd s84 := eqB hs84 (bd_I Is82 (show (0 : Int) ≤ ((iI s82 107) + 1) ∧ ((iI s82 107) + 1) ≤ 40 by first | exact ⟨oq_54f49eb5 b83.1, oq_44ae331b ws82_107 ws80_107 hs74.2.2.2.1.2⟩ | omega) ⟨by first | exact oq_74de1e16 b83.1 | omega, by first | exact oq_c01d6c28 b83.2 | omega⟩)
            have Fs84 := eqF hs84 (fm_I Fs82 (inl_ok (a := 107) rfl))
            have vs84 : iI s84 107 = ((iI s82 107) + 1) := eqI hs84 (iI_u ⟨by first | exact oq_74de1e16 b83.1 | omega, by first | exact oq_c01d6c28 b83.2 | omega⟩)
            have ws84_73 : iI s84 73 = iI s82 73 := eqI hs84 rfl
            have ws84_89 : iI s84 89 = iI s82 89 := eqI hs84 rfl
            have aws84_457 : UPD 457 ((iI s74 107)) z s74 s84 := by rw [hs84]; exact aws82_457
            have aws84_459 : UPD 459 ((iI s80 107)) w s74 s84 := by rw [hs84]; exact aws82_459
            have fs84 : Fm [107] [] s82 s84 := by rw [hs84]; exact fm_I (fm_rf _ _ _) (show 107 ∈ _ by decide)
            have JRLx_s84 : RLx s84 := RLx_fm fs84 (by decide) JRLx_s82
            refine z_aload_n X (x := A 179) rfl (List.Mem.head _) (z_getI X 179 rfl (c518_ok rfl) rfl rfl ?_)
            have b85 := bi_107 Is84
            refine z_const X rfl (z_sub X rfl ?_)
            exact w_iret X.1 q hRt rfl (ax_d X (show cdA 287 147 = some (.ireturn, 1, 0, 0, 0) from rfl)) (Nat.zero_le _) (Nat.zero_le _) ⟨_, rfl, Is84, Fs84, JRLx_s84, ((iI s84 107) - 1), rfl, ⟨by first | exact oq_c1e961c7 b85.1 | omega, by first | exact oq_86f8893e b85.2 | omega⟩, Or.inr (Or.inl ⟨by first | exact ⟨hs74.2.1.1, hs74.2.1.2.1, hs74.2.1.2.2.1, hs74.2.1.2.2.2.1, hs74.2.1.2.2.2.2.1, hs74.2.1.2.2.2.2.2⟩ | omega, by first | exact oq_0f72f93b ws84_73 ws82_73 ws80_73 hs74.2.2.2.2.2 b76.1 | omega, by first | exact hs74.2.2.2.1.1 | omega, by first | exact oq_4ef6c971 vs84 hs74.2.2.2.2.1 ws82_107 ws80_107 | omega, by first | exact oq_30266725 vs84 hs74.2.2.2.2.1 ws82_107 ws80_107 | omega, rwa_m (by first | (clear g67 hps62 g61 hps59 g34 hps32 g7 hps5 p3; omega) | (clear hps62 g61 hps59 g34 hps32 g7 hps5 p3; omega) | omega) (by have z := Qs74.1; rw [show x75 = 4 by first | (clear g67 hps62 g61 hps59 g34 hps32 g7 hps5 p3; omega) | (clear hps62 g61 hps59 g34 hps32 g7 hps5 p3; omega) | omega] at z; exact z) Qs74.2.2.1 Qs74.2.2.2 (upd_ix aws84_457 (by first | (clear g67 hps62 g61 hps59 g34 hps32 g7 hps5 p3; omega) | (clear hps62 g61 hps59 g34 hps32 g7 hps5 p3; omega) | omega)) (upd_ix aws84_459 (by first | (clear g67 hps62 g61 hps59 g34 hps32 g7 hps5 p3; omega) | (clear hps62 g61 hps59 g34 hps32 g7 hps5 p3; omega) | omega)) (fun r k hr => by rw [hs84]; show iC s82 _ _ = _; rw [hs82, iC_a (by first | (clear g67 hps62 g61 hps59 g34 hps32 g7 hps5 p3; omega) | (clear hps62 g61 hps59 g34 hps32 g7 hps5 p3; omega) | omega), hs80, iC_a (by first | (clear g67 hps62 g61 hps59 g34 hps32 g7 hps5 p3; omega) | (clear hps62 g61 hps59 g34 hps32 g7 hps5 p3; omega) | omega)])⟩)⟩
          ·
            refine z_const X rfl ?_
            exact w_iret X.1 q hRt rfl (ax_d X (show cdA 287 61 = some (.ireturn, 1, 0, 0, 0) from rfl)) (Nat.zero_le _) (Nat.zero_le _) ⟨_, rfl, Is62, Gs62, JRLx_s62, (-1), rfl, (by decide), Or.inl ⟨by first | exact ⟨oq_28d92795 g7 hps5, oq_ca823699 g7 hps5, oq_0159bb48 g34 hps32, oq_8b498cf6 g34 hps32, oq_d71e764c g61 hps59, oq_64e1edaa g61 hps59⟩ | omega, by first | exact oq_93520411 b64.1 hps62 vs4 | omega, by first | exact oq_584785d6 b2.2 ws4_107 ws62_107 g67 | omega, by decide, by first | exact g67 | omega, mrs_s aws62_MRS⟩⟩
        ·
          refine z_const X rfl ?_
          exact w_iret X.1 q hRt rfl (ax_d X (show cdA 287 50 = some (.ireturn, 1, 0, 0, 0) from rfl)) (Nat.zero_le _) (Nat.zero_le _) ⟨_, rfl, Is62, Gs62, JRLx_s62, 0, rfl, (by decide), Or.inr (Or.inr ⟨by first | exact oq_6d8dc361 g65 hps62 vs4 | omega, by first | (clear g65 hps62 g61 hps59 g34 hps32 g7 hps5 p3; omega) | (clear hps62 g61 hps59 g34 hps32 g7 hps5 p3; omega) | omega, by first | exact oq_1aa5be9e ws62_107 ws4_107 | omega, mrs_s aws62_MRS⟩)⟩
      ·
        refine z_const X rfl (z_goto X (t := 42) rfl rfl (z_const X rfl (zcV_i0 X E 179 (As := [.int (Int32.ofInt 1), .int (Int32.ofInt 1)]) (st := []) rfl rfl rfl rfl (k_bad2 G Is4 (by first | exact Or.inr (by decide) | omega) (by first | exact ⟨by decide, by decide⟩ | omega)) rfl (Nat.le_of_ble_eq_true rfl) (fun s86 e87 Is86 Fs86 hrs86 hps86 => ?_))))
        have Gs86 := fm_tq Fs4 Fs86 rfl rfl
        have JRLx_s86 : RLx s86 := RLx_fm Fs86 (by decide) JRLx_s4
        have JMDJ_s86 : MDJ U s86 := MDJ_fm Fs86 (by decide) JMDJ_s4
        have b88 := bi_73 Is86
        have ws86_107 : iI s86 107 = iI s4 107 := fm_iq Fs86 rfl
        have ws86_89 : iI s86 89 = iI s4 89 := fm_iq Fs86 rfl
        have aws86_MRS : MRS s s86 := mrs_ts aws4_MRS (mrs_fm Fs86 (by decide +kernel))
        refine z_if_eq X (t := 51) rfl rfl hrs86 (fun g89 => ?_) (fun g89 => ?_)
        ·
          refine z_aload_n X (x := A 179) rfl (List.Mem.head _) (z_getI X 179 rfl (c518_ok rfl) rfl rfl ?_)
          have b90 := bi_107 Is86
          refine z_bipush X rfl (z_icmp_ne X (t := 62) rfl rfl (rng_to _) (by decide) (fun g91 => ?_) (fun g91 => ?_))
          ·
            refine z_aload_n X (x := A 179) rfl (List.Mem.head _) (z_load_n X (x := x) rfl (List.Mem.tail _ (List.Mem.head _)) (zcV_v0 X E 179 (As := [.int (Int32.ofInt x)]) (st := []) rfl rfl rfl rfl (k_setOf3 G Is86 (by first | exact ⟨p0.1, p0.2⟩ | omega)) rfl (Nat.le_of_ble_eq_true rfl) (fun s92 Is92 Fs92 hps92 => ?_)))
            have Gs92 := fm_tq Gs86 Fs92 rfl rfl
            have JRLx_s92 : RLx s92 := RLx_fm Fs92 (by decide) JRLx_s86
            have JMDJ_s92 : MDJ U s92 := MDJ_fm Fs92 (by decide) JMDJ_s86
            have ws92_73 : iI s92 73 = iI s86 73 := fm_iq Fs92 rfl
            have ws92_107 : iI s92 107 = iI s86 107 := fm_iq Fs92 rfl
            have ws92_89 : iI s92 89 = iI s86 89 := fm_iq Fs92 rfl
            have aws92_MRS : MRS s s92 := mrs_ts aws86_MRS (mrs_fm Fs92 (by decide +kernel))
            have hIn : inS s92 = pcS (pfM s) x := by rw [soq_in hps92, show pfM s86 = pfM s from funext (fun j => fm_c Gs86 (by decide))]
            refine z_aload_n X (x := A 179) rfl (List.Mem.head _) (z_load_n X (x := y) rfl (List.Mem.tail _ (List.Mem.tail _ (List.Mem.head _))) (zcV_v2 X E 179 (As := [.int (Int32.ofInt y)]) (st := []) rfl rfl rfl rfl (k_asTold6 G Is92 JRLx_s92 JMDJ_s92 (by first | exact ⟨oq_0159bb48 g34 hps32, oq_8b498cf6 g34 hps32⟩ | omega)) rfl (Nat.le_of_ble_eq_true rfl) (fun s94 Is94 Fs94 JRLx_s94 JNQ_s94 hps94 => ?_)))
            have Gs94 := fm_tq Gs92 Fs94 rfl rfl
            have JRLx_s94 : RLx s94 := RLx_fm Fs94 (by decide) JRLx_s92
            have JMDJ_s94 : MDJ U s94 := MDJ_fm Fs94 (by decide) JMDJ_s92
            have ws94_73 : iI s94 73 = iI s92 73 := fm_iq Fs94 rfl
            have ws94_107 : iI s94 107 = iI s92 107 := fm_iq Fs94 rfl
            have ws94_89 : iI s94 89 = iI s92 89 := fm_iq Fs94 rfl
            have aws94_MRS : MRS s s94 := mrs_ts aws92_MRS (mrs_fm Fs94 (by decide +kernel))
            have JNW_s94 : NW s94 := NW_of JNQ_s94 JRLx_s94
            have hNW9 := nq_w JMDJ_s94 JNQ_s94
            have hNE9 : NWE U s94 := ⟨JMDJ_s94.1.2, hNW9.1⟩
            have hIn2 : inS s94 = pcS (pfM s) x := by rw [ins_fm Fs94 (by decide)]; exact hIn
            refine z_aload_n X (x := A 179) rfl (List.Mem.head _) (zcV_v2 X E 179 (As := []) (st := []) rfl rfl rfl rfl (k_listen3 G Is94 JNW_s94 hNW9.2 ) rfl (Nat.le_of_ble_eq_true rfl) (fun s96 Is96 Fs96 JNW_s96 JNWL_s96 hps96 => ?_))
            have Gs96 := fm_tq Gs94 Fs96 rfl rfl
            have JRLx_s96 : RLx s96 := RLx_fm Fs96 (by decide) JRLx_s94
            have JMDJ_s96 : MDJ U s96 := MDJ_fm Fs96 (by decide) JMDJ_s94
            have JNW_s96 : NW s96 := NW_fm Fs96 (by decide) JNW_s94
            have JNWL_s96 : NWL s96 := NWL_fm Fs96 (by decide) hNW9.2
            have ws96_73 : iI s96 73 = iI s94 73 := fm_iq Fs96 rfl
            have ws96_107 : iI s96 107 = iI s94 107 := fm_iq Fs96 rfl
            have ws96_89 : iI s96 89 = iI s94 89 := fm_iq Fs96 rfl
            have aws96_MRS : MRS s s96 := mrs_ts aws94_MRS (mrs_fm Fs96 (by decide +kernel))
            have hM1 : iI s94 89 = 1 := by first | (clear g91 hps86 hps59 g34 hps32 g7 hps5 p3; omega) | (clear hps86 hps59 g34 hps32 g7 hps5 p3; omega) | omega
            have hn : ∀ j, j < 7 → Int32.ofInt (iC s96 161 j) = (nmH (pcS (pfM s) x) (uW U) (moW U (y : Int).toNat (-1)) (uN U) 1) j := by rw [mow_n, ← hIn2, ← hM1]; exact ml_names hps96 hNE9 hps94 JMDJ_s94.1.1 JMDJ_s94.2.2.1
            refine z_const X rfl (z_store X (lv' := [(5, .int (Int32.ofInt 0)), (0, .ref (A 179)), (1, .int (Int32.ofInt x)), (2, .int (Int32.ofInt y)), (3, .int (Int32.ofInt z)), (4, .int (Int32.ofInt w))]) rfl (by decide) (fun _ h => h) (WS_pq [1, 2, 3, 4, 5, 0] (lv' := [(0, .ref (A 179)), (1, .int (Int32.ofInt x)), (2, .int (Int32.ofInt y)), (3, .int (Int32.ofInt z)), (4, .int (Int32.ofInt w)), (5, .int (Int32.ofInt 0))]) rfl (L79 ((4 - 0 : Int).toNat + 1) s96 x y z w 0 Is96 Gs96 JRLx_s96 JMDJ_s96 ⟨hcq_0 aws96_MRS.2.2, hn, aws96_MRS.1, aws96_MRS.2.1⟩ (by first | exact ⟨And.intro (And.intro (by decide) (And.intro (p2.1) (p2.2))) (And.intro (by decide) (p3)), oq_40960813 g89 hps86 vs4, And.intro (by decide) (by decide), oq_f84a1ba0 ws96_107 ws94_107 ws92_107 g91 b90.2 ws86_107 ws4_107, oq_d5af8cc9 ws96_107 ws4_107 ws94_107 ws86_107 ws92_107, oq_3904add8 ws96_73 ws94_73 ws92_73 g89 b88.1 hps86 vs4⟩ | omega) (Nat.lt_succ_self _) ?_)))
            intro s98 x99 Is98 Fs98 JRLx_s98 JMDJ_s98 Qs98 hs98
            have b100 := bi_73 Is98
            have b101 := bi_107 Is98
            have b102 := bi_89 Is98
            refine z_aload_n X (x := A 179) rfl (List.Mem.head _) (s_getR X 179 rfl (c518_ok rfl) rfl rfl (z_aload_n X (x := A 179) rfl (List.Mem.head _) (z_getI X 179 rfl (c518_ok rfl) rfl rfl ?_)))
            have b103 := bi_107 Is98
            refine z_load_n X (x := z) rfl (List.Mem.tail _ (List.Mem.tail _ (List.Mem.tail _ (List.Mem.head _)))) (z_ast X 514 rfl (c518_ok rfl) rfl (by first | exact b103.1 | omega) (show (iI s98 107) < 40 by first | exact oq_2ca8b5c0 hs98.2.2.2.1.2 | omega) (cbig_ok rfl) (wd_gen (fun s104 hs104 => ?_)))
            have Is104 : Bd s104 := eqB hs104 (bd_C Is98 (show ((-2147483648) : Int) ≤ z ∧ z ≤ 2147483647 by first | exact ⟨hs98.1.1.2.1, hs98.1.1.2.2⟩ | omega) ⟨by first | exact hs98.1.1.2.1 | omega, by first | exact hs98.1.1.2.2 | omega⟩)
            have Fs104 := eqF hs104 (fm_C Fs98 (inl_ok (a := 457) rfl))
            have ws104_73 : iI s104 73 = iI s98 73 := eqI hs104 rfl
            have ws104_107 : iI s104 107 = iI s98 107 := eqI hs104 rfl
            have ws104_89 : iI s104 89 = iI s98 89 := eqI hs104 rfl
            have aws104_457 : UPD 457 ((iI s98 107)) z s98 s104 := by rw [hs104]; exact upd_put (sam_rf (a := 457) (s := s98)) ⟨by first | exact hs98.1.1.2.1 | omega, by first | exact hs98.1.1.2.2 | omega⟩
            have aws104_459 : SAM 459 s98 s104 := by rw [hs104]; exact sam_C (by decide) (sam_rf (a := 459) (s := s98))
            have fs104 : Fm [] [457] s98 s104 := by rw [hs104]; exact fm_C (fm_rf _ _ _) (show 457 ∈ _ by decide)
            have JRLx_s104 : RLx s104 := RLx_fm fs104 (by decide) JRLx_s98
            refine z_aload_n X (x := A 179) rfl (List.Mem.head _) (s_getR X 179 rfl (c518_ok rfl) rfl rfl (z_aload_n X (x := A 179) rfl (List.Mem.head _) (z_getI X 179 rfl (c518_ok rfl) rfl rfl ?_)))
            have b105 := bi_107 Is104
            refine z_load X (x := w) rfl (List.Mem.tail _ (List.Mem.tail _ (List.Mem.tail _ (List.Mem.tail _ (List.Mem.head _))))) (z_zast X 516 rfl (c518_ok rfl) rfl (by first | exact b105.1 | omega) (show (iI s104 107) < 40 by first | exact oq_e7509aa9 ws104_107 hs98.2.2.2.1.2 | omega) (cbig_ok rfl) (by first | exact hs98.1.2.2 | omega) (wd_gen (fun s106 hs106 => ?_)))
            have Is106 : Bd s106 := eqB hs106 (bd_C Is104 (show (0 : Int) ≤ w ∧ w ≤ 1 by first | exact ⟨oq_e4aca38c hs98.1.2.2, oq_14617724 hs98.1.2.2⟩ | omega) ⟨by first | exact oq_bde653e9 hs98.1.2.2 | omega, by first | exact oq_4ad2cb8b hs98.1.2.2 | omega⟩)
            have Fs106 := eqF hs106 (fm_C Fs104 (inl_ok (a := 459) rfl))
            have ws106_73 : iI s106 73 = iI s104 73 := eqI hs106 rfl
            have ws106_107 : iI s106 107 = iI s104 107 := eqI hs106 rfl
            have ws106_89 : iI s106 89 = iI s104 89 := eqI hs106 rfl
            have aws106_457 : UPD 457 ((iI s98 107)) z s98 s106 := by rw [hs106]; exact upd_C (by decide) aws104_457
            have aws106_459 : UPD 459 ((iI s104 107)) w s98 s106 := by rw [hs106]; exact upd_put aws104_459 ⟨by first | exact oq_bde653e9 hs98.1.2.2 | omega, by first | exact oq_4ad2cb8b hs98.1.2.2 | omega⟩
            have fs106 : Fm [] [459] s104 s106 := by rw [hs106]; exact fm_C (fm_rf _ _ _) (show 459 ∈ _ by decide)
            have JRLx_s106 : RLx s106 := RLx_fm fs106 (by decide) JRLx_s104
            refine z_aload_n X (x := A 179) rfl (List.Mem.head _) (w_dup X.1 (ax_d X (show cdA 287 132 = some (.dup, 1, 0, 0, 0) from rfl)) rfl (z_getI X 179 rfl (c518_ok rfl) rfl rfl ?_))
            have b107 := bi_107 Is106
            refine z_const X rfl (z_add X rfl (s_putI X 179 rfl (c518_ok rfl) rfl rfl (by decide) rfl rfl rfl (wd_gen (fun s108 hs108 => ?_))))
            have Is108 : Bd s108 := eqB hs108 (bd_I Is106 (show (0 : Int) ≤ ((iI s106 107) + 1) ∧ ((iI s106 107) + 1) ≤ 40 by first | exact ⟨oq_54f49eb5 b107.1, oq_44ae331b ws106_107 ws104_107 hs98.2.2.2.1.2⟩ | omega) ⟨by first | exact oq_74de1e16 b107.1 | omega, by first | exact oq_c01d6c28 b107.2 | omega⟩)
            have Fs108 := eqF hs108 (fm_I Fs106 (inl_ok (a := 107) rfl))
            have vs108 : iI s108 107 = ((iI s106 107) + 1) := eqI hs108 (iI_u ⟨by first | exact oq_74de1e16 b107.1 | omega, by first | exact oq_c01d6c28 b107.2 | omega⟩)
            have ws108_73 : iI s108 73 = iI s106 73 := eqI hs108 rfl
            have ws108_89 : iI s108 89 = iI s106 89 := eqI hs108 rfl
            have aws108_457 : UPD 457 ((iI s98 107)) z s98 s108 := by rw [hs108]; exact aws106_457
            have aws108_459 : UPD 459 ((iI s104 107)) w s98 s108 := by rw [hs108]; exact aws106_459
            have fs108 : Fm [107] [] s106 s108 := by rw [hs108]; exact fm_I (fm_rf _ _ _) (show 107 ∈ _ by decide)
            have JRLx_s108 : RLx s108 := RLx_fm fs108 (by decide) JRLx_s106
            refine z_aload_n X (x := A 179) rfl (List.Mem.head _) (z_getI X 179 rfl (c518_ok rfl) rfl rfl ?_)
            have b109 := bi_107 Is108
            refine z_const X rfl (z_sub X rfl ?_)
            exact w_iret X.1 q hRt rfl (ax_d X (show cdA 287 147 = some (.ireturn, 1, 0, 0, 0) from rfl)) (Nat.zero_le _) (Nat.zero_le _) ⟨_, rfl, Is108, Fs108, JRLx_s108, ((iI s108 107) - 1), rfl, ⟨by first | exact oq_c1e961c7 b109.1 | omega, by first | exact oq_86f8893e b109.2 | omega⟩, Or.inr (Or.inl ⟨by first | exact ⟨hs98.2.1.1, hs98.2.1.2.1, hs98.2.1.2.2.1, hs98.2.1.2.2.2.1, hs98.2.1.2.2.2.2.1, hs98.2.1.2.2.2.2.2⟩ | omega, by first | exact oq_0f72f93b ws108_73 ws106_73 ws104_73 hs98.2.2.2.2.2 b100.1 | omega, by first | exact hs98.2.2.2.1.1 | omega, by first | exact oq_4ef6c971 vs108 hs98.2.2.2.2.1 ws106_107 ws104_107 | omega, by first | exact oq_30266725 vs108 hs98.2.2.2.2.1 ws106_107 ws104_107 | omega, rwa_m (by first | (clear g91 hps86 hps59 g34 hps32 g7 hps5 p3; omega) | (clear hps86 hps59 g34 hps32 g7 hps5 p3; omega) | omega) (by have z := Qs98.1; rw [show x99 = 4 by first | (clear g91 hps86 hps59 g34 hps32 g7 hps5 p3; omega) | (clear hps86 hps59 g34 hps32 g7 hps5 p3; omega) | omega] at z; exact z) Qs98.2.2.1 Qs98.2.2.2 (upd_ix aws108_457 (by first | (clear g91 hps86 hps59 g34 hps32 g7 hps5 p3; omega) | (clear hps86 hps59 g34 hps32 g7 hps5 p3; omega) | omega)) (upd_ix aws108_459 (by first | (clear g91 hps86 hps59 g34 hps32 g7 hps5 p3; omega) | (clear hps86 hps59 g34 hps32 g7 hps5 p3; omega) | omega)) (fun r k hr => by rw [hs108]; show iC s106 _ _ = _; rw [hs106, iC_a (by first | (clear g91 hps86 hps59 g34 hps32 g7 hps5 p3; omega) | (clear hps86 hps59 g34 hps32 g7 hps5 p3; omega) | omega), hs104, iC_a (by first | (clear g91 hps86 hps59 g34 hps32 g7 hps5 p3; omega) | (clear hps86 hps59 g34 hps32 g7 hps5 p3; omega) | omega)])⟩)⟩
          ·
            refine z_const X rfl ?_
            exact w_iret X.1 q hRt rfl (ax_d X (show cdA 287 61 = some (.ireturn, 1, 0, 0, 0) from rfl)) (Nat.zero_le _) (Nat.zero_le _) ⟨_, rfl, Is86, Gs86, JRLx_s86, (-1), rfl, (by decide), Or.inl ⟨by first | exact ⟨oq_28d92795 g7 hps5, oq_ca823699 g7 hps5, oq_0159bb48 g34 hps32, oq_8b498cf6 g34 hps32, oq_674898f9 g89 hps86 vs4, oq_e48faaef g89 hps86 vs4⟩ | omega, by first | exact oq_f4d57307 g89 b88.1 hps86 vs4 | omega, by first | exact oq_584785d6 b2.2 ws4_107 ws86_107 g91 | omega, by decide, by first | exact g91 | omega, mrs_s aws86_MRS⟩⟩
        ·
          refine z_const X rfl ?_
          exact w_iret X.1 q hRt rfl (ax_d X (show cdA 287 50 = some (.ireturn, 1, 0, 0, 0) from rfl)) (Nat.zero_le _) (Nat.zero_le _) ⟨_, rfl, Is86, Gs86, JRLx_s86, 0, rfl, (by decide), Or.inr (Or.inr ⟨by first | exact oq_38cafae0 g61 hps59 | omega, by first | exact oq_faabd673 g89 hps86 vs4 | omega, by first | exact oq_1aa5be9e ws86_107 ws4_107 | omega, mrs_s aws86_MRS⟩)⟩
set_option maxRecDepth 4000 in
theorem k_amount6 (G : GX l s0 D tys a0 dT) (I : Bd s) {x : Int} (p0 : rng x) : CT l s0 D A dT 189 (rmN 189) [.int (Int32.ofInt x)] s (fun o t => Bd t ∧ Fm [] [] s t ∧ ∃ e, o = .inl (some (.int (Int32.ofInt e))) ∧ rng e ∧ (e = amI x)) := by
  refine ct_of G (by decide) (Nat.le_of_ble_eq_true rfl) (fun k X E hRt hXt q => ?_)
  show WS k 0 [(0, .int (Int32.ofInt x))] [] _ 0 0
  have F : Fm [] [] s s := fm_rf _ _ s
  refine z_load_n X (x := x) rfl (List.Mem.head _) (z_if_ge X (t := 9) rfl rfl ⟨by first | exact p0.1 | omega, by first | exact p0.2 | omega⟩ (fun g1 => ?_) (fun g1 => ?_))
  ·
    refine z_load_n X (x := x) rfl (List.Mem.head _) ?_
    exact w_iret X.1 q hRt rfl (ax_d X (show cdA 189 10 = some (.ireturn, 1, 0, 0, 0) from rfl)) (Nat.zero_le _) (Nat.zero_le _) ⟨_, rfl, I, F, x, rfl, ⟨by first | exact p0.1 | omega, by first | exact p0.2 | omega⟩, (by unfold amI; rw [if_neg (by omega)])⟩
  ·
    refine z_load_n X (x := x) rfl (List.Mem.head _) (z_neg X rfl (z_anyV (fun y2 hy2 ey2 => ?_)))
    refine z_goto X (t := 10) rfl rfl ?_
    exact w_iret X.1 q hRt rfl (ax_d X (show cdA 189 10 = some (.ireturn, 1, 0, 0, 0) from rfl)) (Nat.zero_le _) (Nat.zero_le _) ⟨_, rfl, I, F, y2, rfl, hy2, (by unfold amI; rw [if_pos (by omega)]; exact wz_of hy2 ey2)⟩
set_option maxRecDepth 4000 in
theorem k_offOf6 (G : GX l s0 D tys a0 dT) (I : Bd s) {x y : Int} (p0 : 0 ≤ x ∧ x ≤ 624) (p1 : y = 0 ∨ y = 1) : CT l s0 D A dT 288 (rmN 288) [.ref (A 179), .int (Int32.ofInt x), .int (Int32.ofInt y)] s (fun o t => Bd t ∧ Fm [] [] s t ∧ ∃ e, o = .inl (some (.int (Int32.ofInt e))) ∧ rng e ∧ (e = ofI (mD s) (mBk s) (mHd s) (dgW x) y (iI s 107).toNat)) := by
  refine ct_of G (by decide) (Nat.le_of_ble_eq_true rfl) (fun k X E hRt hXt q => ?_)
  show WS k 0 [(0, .ref (A 179)), (1, .int (Int32.ofInt x)), (2, .int (Int32.ofInt y))] [] _ 0 0
  have F : Fm [] [] s s := fm_rf _ _ s
  have b1 := bi_107 I
  have L5 : ∀ (n : Nat) (t : PS) (xv yv nv c : Int), Bd t → Fm [] [] s t → (nv = ofI (mD s) (mBk s) (mHd s) (dgW x) y (c : Int).toNat) → ((xv = x ∧ 0 ≤ x ∧ x ≤ 624) ∧ (yv = y ∧ (y = 0 ∨ y = 1)) ∧ rng nv ∧ (0 ≤ c ∧ c ≤ 40) ∧ c ≤ iI s 107 ∧ iI t 107 = iI s 107) → (40 - c : Int).toNat < n → (∀ (t' : PS) (nv' c' : Int), Bd t' → Fm [] [] s t' → (nv' = ofI (mD s) (mBk s) (mHd s) (dgW x) y (c' : Int).toNat) → (rng nv' ∧ c' = iI s 107) → WS k 114 [(0, .ref (A 179)), (1, .int (Int32.ofInt xv)), (2, .int (Int32.ofInt yv)), (3, .int (Int32.ofInt nv')), (4, .int (Int32.ofInt c'))] [] (Wd A dT t') 0 0) → WS k 5 [(0, .ref (A 179)), (1, .int (Int32.ofInt xv)), (2, .int (Int32.ofInt yv)), (3, .int (Int32.ofInt nv)), (4, .int (Int32.ofInt c))] [] (Wd A dT t) 0 0 := by
    intro n
    induction n with
    | zero =>
      intro t xv yv nv c I F hq hi hm kx
      exact absurd hm (Nat.not_lt_zero _)
    | succ n ih =>
      intro t xv yv nv c I F hq hi hm kx
      have b1001 := bi_107 I
      refine z_load X (x := c) rfl (List.Mem.tail _ (List.Mem.tail _ (List.Mem.tail _ (List.Mem.tail _ (List.Mem.head _))))) (z_aload_n X (x := A 179) rfl (List.Mem.head _) (z_getI X 179 rfl (c518_ok rfl) rfl rfl ?_))
      have b1002 := bi_107 I
      refine z_icmp_ge X (t := 114) rfl rfl ⟨by first | exact oq_fa4e5087 hi.2.2.2.1.1 | omega, by first | exact oq_227d2cd7 hi.2.2.2.1.2 | omega⟩ (rng_to _) (fun g1003 => ?_) (fun g1003 => ?_)
      ·
        refine WS_pq [0, 1, 2, 3, 4] (lv' := [(0, .ref (A 179)), (1, .int (Int32.ofInt xv)), (2, .int (Int32.ofInt yv)), (3, .int (Int32.ofInt nv)), (4, .int (Int32.ofInt c))]) rfl ?_
        exact kx _ nv c I F hq (by first | exact ⟨And.intro (hi.2.2.1.1) (hi.2.2.1.2), oq_537ca82a hi.2.2.2.2.1 g1003 hi.2.2.2.2.2⟩ | omega)
      ·
        refine z_aload_n X (x := A 179) rfl (List.Mem.head _) (s_getR X 179 rfl (c518_ok rfl) rfl rfl (z_load X (x := c) rfl (List.Mem.tail _ (List.Mem.tail _ (List.Mem.tail _ (List.Mem.tail _ (List.Mem.head _))))) (z_ald X 514 rfl (c518_ok rfl) rfl (by first | exact hi.2.2.2.1.1 | omega) (show c < 40 by first | exact oq_497ff6eb g1003 b1002.2 | omega) (cbig_ok rfl) ?_)))
        have b1004 := bc_457 I (show (c).toNat < 40 by first | exact oq_23813e7c g1003 b1002.2 | omega)
        refine z_load_n X (x := xv) rfl (List.Mem.tail _ (List.Mem.head _)) (z_bipush X rfl (z_quot X rfl (by first | exact oq_e4757433 hi.1.1 hi.1.2.1 | omega) ⟨by first | exact oq_b3df2c6f hi.1.1 hi.1.2.1 | omega, by first | exact oq_a309725a hi.1.1 hi.1.2.2 | omega⟩ (by decide) (by decide) (z_aload_n X (x := A 179) rfl (List.Mem.head _) (s_getR X 179 rfl (c518_ok rfl) rfl rfl (z_load X (x := c) rfl (List.Mem.tail _ (List.Mem.tail _ (List.Mem.tail _ (List.Mem.tail _ (List.Mem.head _))))) (z_aald X rw_473 rfl (by first | exact hi.2.2.2.1.1 | omega) (show c < 40 by first | exact oq_497ff6eb g1003 b1002.2 | omega) (by decide) (z_const X rfl (z_ald2 X rw_473 rfl (show (c : Int).toNat < 40 by first | exact oq_23813e7c g1003 b1002.2 | omega) (by decide) (show 0 < 4 by decide) (by decide) ?_))))))))
        have b1005 : ((-2147483648) : Int) ≤ (iC t (417 + (c : Int).toNat) (0 : Int).toNat) ∧ (iC t (417 + (c : Int).toNat) (0 : Int).toNat) ≤ 2147483647 := rw_bd rw_473 I (show (c : Int).toNat < 40 by first | exact oq_23813e7c g1003 b1002.2 | omega) (show (0 : Int).toNat < 4 by first | exact oq_c0c6d7d2 | omega)
        refine z_mul X rfl (z_anyV (fun y1006 hy1006 ey1006 => ?_))
        refine z_sub X rfl (z_anyV (fun y1007 hy1007 ey1007 => ?_))
        refine z_load_n X (x := xv) rfl (List.Mem.tail _ (List.Mem.head _)) (z_bipush X rfl (z_quot X rfl (by first | exact oq_e4757433 hi.1.1 hi.1.2.1 | omega) ⟨by first | exact oq_b3df2c6f hi.1.1 hi.1.2.1 | omega, by first | exact oq_a309725a hi.1.1 hi.1.2.2 | omega⟩ (by decide) (by decide) (z_const X rfl (z_mod X rfl (by first | exact oq_98e79bd6 hi.1.2.1 hi.1.1 | omega) ⟨by first | exact oq_0c045994 hi.1.2.1 hi.1.1 | omega, by first | exact oq_d39d3c00 hi.1.2.2 hi.1.1 | omega⟩ (by decide) (by decide) (z_aload_n X (x := A 179) rfl (List.Mem.head _) (s_getR X 179 rfl (c518_ok rfl) rfl rfl (z_load X (x := c) rfl (List.Mem.tail _ (List.Mem.tail _ (List.Mem.tail _ (List.Mem.tail _ (List.Mem.head _))))) (z_aald X rw_473 rfl (by first | exact hi.2.2.2.1.1 | omega) (show c < 40 by first | exact oq_497ff6eb g1003 b1002.2 | omega) (by decide) (z_const X rfl (z_ald2 X rw_473 rfl (show (c : Int).toNat < 40 by first | exact oq_23813e7c g1003 b1002.2 | omega) (by decide) (show 1 < 4 by decide) (by decide) ?_))))))))))
        have b1008 : ((-2147483648) : Int) ≤ (iC t (417 + (c : Int).toNat) (1 : Int).toNat) ∧ (iC t (417 + (c : Int).toNat) (1 : Int).toNat) ≤ 2147483647 := rw_bd rw_473 I (show (c : Int).toNat < 40 by first | exact oq_23813e7c g1003 b1002.2 | omega) (show (1 : Int).toNat < 4 by first | exact oq_f6f99e0f | omega)
        refine z_mul X rfl (z_anyV (fun y1009 hy1009 ey1009 => ?_))
        refine z_sub X rfl (z_anyV (fun y1010 hy1010 ey1010 => ?_))
        refine z_load_n X (x := xv) rfl (List.Mem.tail _ (List.Mem.head _)) (z_const X rfl (z_quot X rfl (by first | exact oq_e4757433 hi.1.1 hi.1.2.1 | omega) ⟨by first | exact oq_b3df2c6f hi.1.1 hi.1.2.1 | omega, by first | exact oq_a309725a hi.1.1 hi.1.2.2 | omega⟩ (by decide) (by decide) (z_const X rfl (z_mod X rfl (by first | exact oq_ce6b29d9 hi.1.2.1 hi.1.1 | omega) ⟨by first | exact oq_884f205c hi.1.2.1 hi.1.1 | omega, by first | exact oq_27fb1552 hi.1.2.2 hi.1.1 | omega⟩ (by decide) (by decide) (z_aload_n X (x := A 179) rfl (List.Mem.head _) (s_getR X 179 rfl (c518_ok rfl) rfl rfl (z_load X (x := c) rfl (List.Mem.tail _ (List.Mem.tail _ (List.Mem.tail _ (List.Mem.tail _ (List.Mem.head _))))) (z_aald X rw_473 rfl (by first | exact hi.2.2.2.1.1 | omega) (show c < 40 by first | exact oq_497ff6eb g1003 b1002.2 | omega) (by decide) (z_const X rfl (z_ald2 X rw_473 rfl (show (c : Int).toNat < 40 by first | exact oq_23813e7c g1003 b1002.2 | omega) (by decide) (show 2 < 4 by decide) (by decide) ?_))))))))))
        have b1011 : ((-2147483648) : Int) ≤ (iC t (417 + (c : Int).toNat) (2 : Int).toNat) ∧ (iC t (417 + (c : Int).toNat) (2 : Int).toNat) ≤ 2147483647 := rw_bd rw_473 I (show (c : Int).toNat < 40 by first | exact oq_23813e7c g1003 b1002.2 | omega) (show (2 : Int).toNat < 4 by first | exact oq_db5fa50e | omega)
        refine z_mul X rfl (z_anyV (fun y1012 hy1012 ey1012 => ?_))
        refine z_sub X rfl (z_anyV (fun y1013 hy1013 ey1013 => ?_))
        refine z_load_n X (x := xv) rfl (List.Mem.tail _ (List.Mem.head _)) (z_const X rfl (z_mod X rfl (by first | exact oq_e4757433 hi.1.1 hi.1.2.1 | omega) ⟨by first | exact oq_b3df2c6f hi.1.1 hi.1.2.1 | omega, by first | exact oq_a309725a hi.1.1 hi.1.2.2 | omega⟩ (by decide) (by decide) (z_aload_n X (x := A 179) rfl (List.Mem.head _) (s_getR X 179 rfl (c518_ok rfl) rfl rfl (z_load X (x := c) rfl (List.Mem.tail _ (List.Mem.tail _ (List.Mem.tail _ (List.Mem.tail _ (List.Mem.head _))))) (z_aald X rw_473 rfl (by first | exact hi.2.2.2.1.1 | omega) (show c < 40 by first | exact oq_497ff6eb g1003 b1002.2 | omega) (by decide) (z_const X rfl (z_ald2 X rw_473 rfl (show (c : Int).toNat < 40 by first | exact oq_23813e7c g1003 b1002.2 | omega) (by decide) (show 3 < 4 by decide) (by decide) ?_))))))))
        have b1014 : ((-2147483648) : Int) ≤ (iC t (417 + (c : Int).toNat) (3 : Int).toNat) ∧ (iC t (417 + (c : Int).toNat) (3 : Int).toNat) ≤ 2147483647 := rw_bd rw_473 I (show (c : Int).toNat < 40 by first | exact oq_23813e7c g1003 b1002.2 | omega) (show (3 : Int).toNat < 4 by first | exact oq_8d498ec2 | omega)
        refine z_mul X rfl (z_anyV (fun y1015 hy1015 ey1015 => ?_))
        refine z_sub X rfl (z_anyV (fun y1016 hy1016 ey1016 => ?_))
        refine z_store X (lv' := [(5, .int (Int32.ofInt y1016)), (0, .ref (A 179)), (1, .int (Int32.ofInt xv)), (2, .int (Int32.ofInt yv)), (3, .int (Int32.ofInt nv)), (4, .int (Int32.ofInt c))]) rfl (by decide) (fun _ h => h) (z_load_n X (x := nv) rfl (List.Mem.tail _ (List.Mem.tail _ (List.Mem.tail _ (List.Mem.tail _ (List.Mem.head _))))) (z_aload_n X (x := A 179) rfl (List.Mem.tail _ (List.Mem.head _)) (s_getR X 179 rfl (c518_ok rfl) rfl rfl (z_load X (x := c) rfl (List.Mem.tail _ (List.Mem.tail _ (List.Mem.tail _ (List.Mem.tail _ (List.Mem.tail _ (List.Mem.head _)))))) (z_zald X 516 rfl (c518_ok rfl) rfl (by first | exact hi.2.2.2.1.1 | omega) (show c < 40 by first | exact oq_497ff6eb g1003 b1002.2 | omega) (cbig_ok rfl) ?_)))))
        have b1017 := bc_459 I (show (c).toNat < 40 by first | exact oq_23813e7c g1003 b1002.2 | omega)
        refine z_load_n X (x := yv) rfl (List.Mem.tail _ (List.Mem.tail _ (List.Mem.tail _ (List.Mem.head _)))) (z_icmp_ne X (t := 105) rfl rfl (rng_to _) ⟨by first | exact oq_ad8fc57c hi.2.1.2 hi.2.1.1 | omega, by first | exact oq_918d59e7 hi.2.1.2 hi.2.1.1 | omega⟩ (fun g1018 => ?_) (fun g1018 => ?_))
        ·
          refine z_const X rfl (z_add X rfl (z_anyV (fun y1019 hy1019 ey1019 => ?_)))
          refine z_store_n X (lv' := [(3, .int (Int32.ofInt y1019)), (5, .int (Int32.ofInt y1016)), (0, .ref (A 179)), (1, .int (Int32.ofInt xv)), (2, .int (Int32.ofInt yv)), (4, .int (Int32.ofInt c))]) rfl (by decide) (fun _ h => h) (z_inc X (x := c) (lv' := [(4, .int (Int32.ofInt (c + 1))), (3, .int (Int32.ofInt y1019)), (5, .int (Int32.ofInt y1016)), (0, .ref (A 179)), (1, .int (Int32.ofInt xv)), (2, .int (Int32.ofInt yv))]) rfl (by decide) (List.Mem.tail _ (List.Mem.tail _ (List.Mem.tail _ (List.Mem.tail _ (List.Mem.tail _ (List.Mem.head _)))))) (fun _ h => h) (z_goto X (t := 5) rfl rfl (WS_pq [3, 4, 5, 1, 0] (lv' := [(0, .ref (A 179)), (1, .int (Int32.ofInt xv)), (2, .int (Int32.ofInt yv)), (3, .int (Int32.ofInt y1019)), (4, .int (Int32.ofInt (c + 1)))]) rfl ?_)))
          exact ih _ xv yv y1019 (c + 1) I F (by rw [of_z hy1019 (by first | (clear g1018 p1; omega) | (clear p1; omega) | omega) ey1019]; exact of_n hq (by first | (clear g1018 p1; omega) | (clear p1; omega) | omega) (fm_c F List.not_mem_nil : iC t 459 (c : Int).toNat = iC s 459 (c : Int).toNat) (by first | (clear g1018 p1; omega) | (clear p1; omega) | omega)) (by first | exact ⟨And.intro (hi.1.1) (And.intro (hi.1.2.1) (hi.1.2.2)), And.intro (hi.2.1.1) (hi.2.1.2), And.intro (hy1019.1) (hy1019.2), And.intro (oq_54f49eb5 hi.2.2.2.1.1) (oq_aa91b9d2 g1003 b1002.2), oq_b1226e90 hi.2.2.2.2.2 g1003, hi.2.2.2.2.2⟩ | omega) (by first | exact qk_me hm (by decide) (oq_e7680c39 g1003 b1002.2) | omega) kx
        ·
          refine z_load X (x := y1016) rfl (List.Mem.head _) (zcS_i0 X E (As := [.int (Int32.ofInt y1016)]) (st := [.int (Int32.ofInt nv)]) rfl rfl (k_amount6 G I (by first | exact ⟨hy1016.1, hy1016.2⟩ | omega)) rfl (Nat.le_of_ble_eq_true rfl) (fun s1020 e1021 Is1020 Fs1020 hrs1020 hps1020 => ?_))
          have Gs1020 := fm_tq F Fs1020 rfl rfl
          have ws1020_107 : iI s1020 107 = iI t 107 := fm_iq Fs1020 rfl
          refine z_goto X (t := 106) rfl rfl (z_add X rfl (z_anyV (fun y1022 hy1022 ey1022 => ?_)))
          refine z_store_n X (lv' := [(3, .int (Int32.ofInt y1022)), (5, .int (Int32.ofInt y1016)), (0, .ref (A 179)), (1, .int (Int32.ofInt xv)), (2, .int (Int32.ofInt yv)), (4, .int (Int32.ofInt c))]) rfl (by decide) (fun _ h => h) (z_inc X (x := c) (lv' := [(4, .int (Int32.ofInt (c + 1))), (3, .int (Int32.ofInt y1022)), (5, .int (Int32.ofInt y1016)), (0, .ref (A 179)), (1, .int (Int32.ofInt xv)), (2, .int (Int32.ofInt yv))]) rfl (by decide) (List.Mem.tail _ (List.Mem.tail _ (List.Mem.tail _ (List.Mem.tail _ (List.Mem.tail _ (List.Mem.head _)))))) (fun _ h => h) (z_goto X (t := 5) rfl rfl (WS_pq [3, 4, 5, 1, 0] (lv' := [(0, .ref (A 179)), (1, .int (Int32.ofInt xv)), (2, .int (Int32.ofInt yv)), (3, .int (Int32.ofInt y1022)), (4, .int (Int32.ofInt (c + 1)))]) rfl ?_)))
          exact ih _ xv yv y1022 (c + 1) Is1020 Gs1020 (of_y hq (by first | (clear p1; omega) | omega) (fm_c F List.not_mem_nil : iC t 459 (c : Int).toNat = iC s 459 (c : Int).toNat) (by first | (clear p1; omega) | omega) (by have z := fw_4 (H := mHd s (c : Int).toNat) (W := dgW x) (by rw [show x = xv by first | (clear p1; omega) | omega]; rfl) (fm_c F List.not_mem_nil) hy1006 ey1006 hy1007 ey1007 (by rw [show x = xv by first | (clear p1; omega) | omega]; rfl) (fm_c F List.not_mem_nil) hy1009 ey1009 hy1010 ey1010 (by rw [show x = xv by first | (clear p1; omega) | omega]; rfl) (fm_c F List.not_mem_nil) hy1012 ey1012 hy1013 ey1013 (by rw [show x = xv by first | (clear p1; omega) | omega]; rfl) (fm_c F List.not_mem_nil) hy1015 ey1015 hy1016 ey1016; rw [(fm_c F List.not_mem_nil : iC t 457 (c : Int).toNat = iC s 457 (c : Int).toNat)] at z; exact z) hps1020 hy1022 ey1022) (by first | exact ⟨And.intro (hi.1.1) (And.intro (hi.1.2.1) (hi.1.2.2)), And.intro (hi.2.1.1) (hi.2.1.2), And.intro (hy1022.1) (hy1022.2), And.intro (oq_54f49eb5 hi.2.2.2.1.1) (oq_aa91b9d2 g1003 b1002.2), oq_b1226e90 hi.2.2.2.2.2 g1003, oq_1aa5be9e ws1020_107 hi.2.2.2.2.2⟩ | omega) (by first | exact qk_me hm (by decide) (oq_e7680c39 g1003 b1002.2) | omega) kx
  refine z_const X rfl (z_store_n X (lv' := [(3, .int (Int32.ofInt 0)), (0, .ref (A 179)), (1, .int (Int32.ofInt x)), (2, .int (Int32.ofInt y))]) rfl (by decide) (fun _ h => h) (z_const X rfl (z_store X (lv' := [(4, .int (Int32.ofInt 0)), (3, .int (Int32.ofInt 0)), (0, .ref (A 179)), (1, .int (Int32.ofInt x)), (2, .int (Int32.ofInt y))]) rfl (by decide) (fun _ h => h) (WS_pq [2, 3, 4, 1, 0] (lv' := [(0, .ref (A 179)), (1, .int (Int32.ofInt x)), (2, .int (Int32.ofInt y)), (3, .int (Int32.ofInt 0)), (4, .int (Int32.ofInt 0))]) rfl (L5 ((40 - 0 : Int).toNat + 1) s x y 0 0 I F rfl (by first | exact ⟨And.intro (by decide) (And.intro (p0.1) (p0.2)), And.intro (by decide) (p1), And.intro (by decide) (by decide), And.intro (by decide) (by decide), b1.1, by decide⟩ | omega) (Nat.lt_succ_self _) ?_)))))
  intro s2 x3 x4 Is2 Fs2 Qs2 hs2
  have b5 := bi_107 Is2
  refine z_load_n X (x := x3) rfl (List.Mem.tail _ (List.Mem.tail _ (List.Mem.tail _ (List.Mem.head _)))) ?_
  exact w_iret X.1 q hRt rfl (ax_d X (show cdA 288 115 = some (.ireturn, 1, 0, 0, 0) from rfl)) (Nat.zero_le _) (Nat.zero_le _) ⟨_, rfl, Is2, Fs2, x3, rfl, ⟨by first | exact hs2.1.1 | omega, by first | exact hs2.1.2 | omega⟩, (by have z := Qs2; rw [show x4 = iI s 107 by first | (clear p1; omega) | omega] at z; exact z)⟩
set_option maxRecDepth 4000 in
theorem k_fit6 (G : GX l s0 D tys a0 dT) (I : Bd s) {x : Int} (p0 : rng x) : CT l s0 D A dT 289 (rmN 289) [.ref (A 179), .int (Int32.ofInt x)] s (fun o t => Bd t ∧ Fm [73] [] s t ∧ ∃ e, o = .inl (some (.int (Int32.ofInt e))) ∧ rng e ∧ (((0 ≤ x ∧ x ≤ 5) ∧ iI t 73 = 0 ∧ FTE (mD s) (mBk s) (mHd s) (iI s 107).toNat x e) ∨ ((x < 0 ∨ 5 < x) ∧ iI t 73 = 1))) := by
  refine ct_of G (by decide) (Nat.le_of_ble_eq_true rfl) (fun k X E hRt hXt q => ?_)
  show WS k 0 [(0, .ref (A 179)), (1, .int (Int32.ofInt x))] [] _ 0 0
  have F : Fm [73] [] s s := fm_rf _ _ s
  have b1 := bi_73 I
  have b2 := bi_107 I
  have L33 : ∀ (n : Nat) (t : PS) (xv av c : Int), Bd t → Fm [73] [] s t → (ANQ (mBk s) c av) → ((xv = x ∧ 0 ≤ x ∧ x ≤ 5) ∧ (av = 0 ∨ av = 1) ∧ (0 ≤ c ∧ c ≤ 40) ∧ c ≤ iI s 107 ∧ iI t 107 = iI s 107 ∧ iI t 73 = 0) → (40 - c : Int).toNat < n → (∀ (t' : PS) (av' c' : Int), Bd t' → Fm [73] [] s t' → (ANQ (mBk s) c' av') → ((xv = x ∧ 0 ≤ x ∧ x ≤ 5) ∧ (av' = 0 ∨ av' = 1) ∧ c' = iI s 107 ∧ iI t' 107 = iI s 107 ∧ iI t' 73 = 0) → WS k 66 [(0, .ref (A 179)), (1, .int (Int32.ofInt xv)), (2, .int (Int32.ofInt av')), (3, .int (Int32.ofInt c'))] [] (Wd A dT t') 0 0) → WS k 33 [(0, .ref (A 179)), (1, .int (Int32.ofInt xv)), (2, .int (Int32.ofInt av)), (3, .int (Int32.ofInt c))] [] (Wd A dT t) 0 0 := by
    intro n
    induction n with
    | zero =>
      intro t xv av c I F hq hi hm kx
      exact absurd hm (Nat.not_lt_zero _)
    | succ n ih =>
      intro t xv av c I F hq hi hm kx
      have b1001 := bi_73 I
      have b1002 := bi_107 I
      refine z_load_n X (x := c) rfl (List.Mem.tail _ (List.Mem.tail _ (List.Mem.tail _ (List.Mem.head _)))) (z_aload_n X (x := A 179) rfl (List.Mem.head _) (z_getI X 179 rfl (c518_ok rfl) rfl rfl ?_))
      have b1003 := bi_107 I
      refine z_icmp_ge X (t := 66) rfl rfl ⟨by first | exact oq_fa4e5087 hi.2.2.1.1 | omega, by first | exact oq_227d2cd7 hi.2.2.1.2 | omega⟩ (rng_to _) (fun g1004 => ?_) (fun g1004 => ?_)
      ·
        refine WS_pq [0, 1, 2, 3] (lv' := [(0, .ref (A 179)), (1, .int (Int32.ofInt xv)), (2, .int (Int32.ofInt av)), (3, .int (Int32.ofInt c))]) rfl ?_
        exact kx _ av c I F hq (by first | exact ⟨And.intro (hi.1.1) (And.intro (hi.1.2.1) (hi.1.2.2)), hi.2.1, oq_537ca82a hi.2.2.2.1 g1004 hi.2.2.2.2.1, hi.2.2.2.2.1, hi.2.2.2.2.2⟩ | omega)
      ·
        refine z_load_n X (x := av) rfl (List.Mem.tail _ (List.Mem.tail _ (List.Mem.head _))) (z_if_ne X (t := 54) rfl rfl ⟨by first | exact oq_bde653e9 hi.2.1 | omega, by first | exact oq_4ad2cb8b hi.2.1 | omega⟩ (fun g1005 => ?_) (fun g1005 => ?_))
        ·
          refine z_const X rfl (z_goto X (t := 59) rfl rfl (z_store_n X (lv' := [(2, .int (Int32.ofInt 1)), (0, .ref (A 179)), (1, .int (Int32.ofInt xv)), (3, .int (Int32.ofInt c))]) rfl (by decide) (fun _ h => h) (z_inc X (x := c) (lv' := [(3, .int (Int32.ofInt (c + 1))), (2, .int (Int32.ofInt 1)), (0, .ref (A 179)), (1, .int (Int32.ofInt xv))]) rfl (by decide) (List.Mem.tail _ (List.Mem.tail _ (List.Mem.tail _ (List.Mem.head _)))) (fun _ h => h) (z_goto X (t := 33) rfl rfl (WS_pq [2, 3, 1, 0] (lv' := [(0, .ref (A 179)), (1, .int (Int32.ofInt xv)), (2, .int (Int32.ofInt 1)), (3, .int (Int32.ofInt (c + 1)))]) rfl ?_)))))
          exact ih _ xv 1 (c + 1) I F (anq_y hq (by first | (clear g1005; omega) | omega)) (by first | exact ⟨And.intro (hi.1.1) (And.intro (hi.1.2.1) (hi.1.2.2)), Or.inr (by decide), And.intro (oq_54f49eb5 hi.2.2.1.1) (oq_aa91b9d2 g1004 b1003.2), oq_b1226e90 hi.2.2.2.2.1 g1004, hi.2.2.2.2.1, hi.2.2.2.2.2⟩ | omega) (by first | exact qk_me hm (by decide) (oq_e7680c39 g1004 b1003.2) | omega) kx
        ·
          refine z_aload_n X (x := A 179) rfl (List.Mem.head _) (s_getR X 179 rfl (c518_ok rfl) rfl rfl (z_load_n X (x := c) rfl (List.Mem.tail _ (List.Mem.tail _ (List.Mem.tail _ (List.Mem.head _)))) (z_zald X 516 rfl (c518_ok rfl) rfl (by first | exact hi.2.2.1.1 | omega) (show c < 40 by first | exact oq_497ff6eb g1004 b1003.2 | omega) (cbig_ok rfl) ?_)))
          have b1006 := bc_459 I (show (c).toNat < 40 by first | exact oq_23813e7c g1004 b1003.2 | omega)
          refine z_if_ne X (t := 58) rfl rfl (rng_to _) (fun g1007 => ?_) (fun g1007 => ?_)
          ·
            refine z_const X rfl (z_store_n X (lv' := [(2, .int (Int32.ofInt 0)), (0, .ref (A 179)), (1, .int (Int32.ofInt xv)), (3, .int (Int32.ofInt c))]) rfl (by decide) (fun _ h => h) (z_inc X (x := c) (lv' := [(3, .int (Int32.ofInt (c + 1))), (2, .int (Int32.ofInt 0)), (0, .ref (A 179)), (1, .int (Int32.ofInt xv))]) rfl (by decide) (List.Mem.tail _ (List.Mem.tail _ (List.Mem.tail _ (List.Mem.head _)))) (fun _ h => h) (z_goto X (t := 33) rfl rfl (WS_pq [2, 3, 1, 0] (lv' := [(0, .ref (A 179)), (1, .int (Int32.ofInt xv)), (2, .int (Int32.ofInt 0)), (3, .int (Int32.ofInt (c + 1)))]) rfl ?_))))
            exact ih _ xv 0 (c + 1) I F (anq_n hq (by first | (clear g1007; omega) | omega) (by first | (clear g1007; omega) | omega) (fm_c F (by decide) : iC t 459 (c : Int).toNat = iC s 459 (c : Int).toNat) (by first | (clear g1007; omega) | omega)) (by first | exact ⟨And.intro (hi.1.1) (And.intro (hi.1.2.1) (hi.1.2.2)), Or.inl (by decide), And.intro (oq_54f49eb5 hi.2.2.1.1) (oq_aa91b9d2 g1004 b1003.2), oq_b1226e90 hi.2.2.2.2.1 g1004, hi.2.2.2.2.1, hi.2.2.2.2.2⟩ | omega) (by first | exact qk_me hm (by decide) (oq_e7680c39 g1004 b1003.2) | omega) kx
          ·
            refine z_const X rfl (z_goto X (t := 59) rfl rfl (z_store_n X (lv' := [(2, .int (Int32.ofInt 1)), (0, .ref (A 179)), (1, .int (Int32.ofInt xv)), (3, .int (Int32.ofInt c))]) rfl (by decide) (fun _ h => h) (z_inc X (x := c) (lv' := [(3, .int (Int32.ofInt (c + 1))), (2, .int (Int32.ofInt 1)), (0, .ref (A 179)), (1, .int (Int32.ofInt xv))]) rfl (by decide) (List.Mem.tail _ (List.Mem.tail _ (List.Mem.tail _ (List.Mem.head _)))) (fun _ h => h) (z_goto X (t := 33) rfl rfl (WS_pq [2, 3, 1, 0] (lv' := [(0, .ref (A 179)), (1, .int (Int32.ofInt xv)), (2, .int (Int32.ofInt 1)), (3, .int (Int32.ofInt (c + 1)))]) rfl ?_)))))
            exact ih _ xv 1 (c + 1) I F (anq_c (by omega) (fm_c F (by decide) : iC t 459 (c : Int).toNat = iC s 459 (c : Int).toNat) (by omega)) (by first | exact ⟨And.intro (hi.1.1) (And.intro (hi.1.2.1) (hi.1.2.2)), Or.inr (by decide), And.intro (oq_54f49eb5 hi.2.2.1.1) (oq_aa91b9d2 g1004 b1003.2), oq_b1226e90 hi.2.2.2.2.1 g1004, hi.2.2.2.2.1, hi.2.2.2.2.2⟩ | omega) (by first | exact qk_me hm (by decide) (oq_e7680c39 g1004 b1003.2) | omega) kx
  have L85 : ∀ (n : Nat) (t : PS) (xv bv lv_ c : Int), Bd t → Fm [73] [] s t → (BTQ (fxF (mD s) (mBk s) (mHd s) (iI s 107).toNat) c bv lv_) → ((xv = x ∧ 0 ≤ x ∧ x ≤ 5) ∧ (0 ≤ bv ∧ bv ≤ 624) ∧ rng lv_ ∧ (1 ≤ c ∧ c ≤ 625) ∧ iI t 107 = iI s 107 ∧ iI t 73 = 0) → (625 - c : Int).toNat < n → (∀ (t' : PS) (bv' lv_' c' : Int), Bd t' → Fm [73] [] s t' → (BTQ (fxF (mD s) (mBk s) (mHd s) (iI s 107).toNat) c' bv' lv_') → ((xv = x ∧ 0 ≤ x ∧ x ≤ 5) ∧ (0 ≤ bv' ∧ bv' ≤ 624) ∧ rng lv_' ∧ c' = 625 ∧ iI t' 107 = iI s 107 ∧ iI t' 73 = 0) → WS k 125 [(0, .ref (A 179)), (1, .int (Int32.ofInt xv)), (3, .int (Int32.ofInt bv')), (4, .int (Int32.ofInt lv_')), (5, .int (Int32.ofInt c'))] [] (Wd A dT t') 0 0) → WS k 85 [(0, .ref (A 179)), (1, .int (Int32.ofInt xv)), (3, .int (Int32.ofInt bv)), (4, .int (Int32.ofInt lv_)), (5, .int (Int32.ofInt c))] [] (Wd A dT t) 0 0 := by
    intro n
    induction n with
    | zero =>
      intro t xv bv lv_ c I F hq hi hm kx
      exact absurd hm (Nat.not_lt_zero _)
    | succ n ih =>
      intro t xv bv lv_ c I F hq hi hm kx
      have b2001 := bi_73 I
      have b2002 := bi_107 I
      refine z_load X (x := c) rfl (List.Mem.tail _ (List.Mem.tail _ (List.Mem.tail _ (List.Mem.tail _ (List.Mem.head _))))) (z_sipush X rfl (z_icmp_ge X (t := 125) rfl rfl ⟨by first | exact oq_9462313e hi.2.2.2.1.1 | omega, by first | exact oq_82406429 hi.2.2.2.1.2 | omega⟩ (by decide) (fun g2003 => ?_) (fun g2003 => ?_)))
      ·
        refine WS_pq [0, 1, 2, 3, 4] (lv' := [(0, .ref (A 179)), (1, .int (Int32.ofInt xv)), (3, .int (Int32.ofInt bv)), (4, .int (Int32.ofInt lv_)), (5, .int (Int32.ofInt c))]) rfl ?_
        exact kx _ bv lv_ c I F hq (by first | exact ⟨And.intro (hi.1.1) (And.intro (hi.1.2.1) (hi.1.2.2)), And.intro (hi.2.1.1) (hi.2.1.2), And.intro (hi.2.2.1.1) (hi.2.2.1.2), oq_3569673f hi.2.2.2.1.2 g2003, hi.2.2.2.2.1, hi.2.2.2.2.2⟩ | omega)
      ·
        refine z_aload_n X (x := A 179) rfl (List.Mem.head _) (z_load X (x := c) rfl (List.Mem.tail _ (List.Mem.tail _ (List.Mem.tail _ (List.Mem.tail _ (List.Mem.head _))))) (z_const X rfl (zcV_i0 X E 179 (As := [.int (Int32.ofInt c), .int (Int32.ofInt 0)]) (st := []) rfl rfl rfl rfl (k_offOf6 G I (by first | exact ⟨oq_2a6e3b50 hi.2.2.2.1.1, oq_6eb35ffb g2003⟩ | omega) (by first | exact Or.inl (by decide) | omega)) rfl (Nat.le_of_ble_eq_true rfl) (fun s2004 e2005 Is2004 Fs2004 hrs2004 hps2004 => ?_))))
        have Gs2004 := fm_tq F Fs2004 rfl rfl
        have ws2004_73 : iI s2004 73 = iI t 73 := fm_iq Fs2004 rfl
        have ws2004_107 : iI s2004 107 = iI t 107 := fm_iq Fs2004 rfl
        have hS : e2005 = ofI (mD s) (mBk s) (mHd s) (dgW ((c : Int).toNat : Nat)) 0 (iI s 107).toNat := sl_m (srw_m (sam_fm F (by decide)) (sam_fm F (by decide)) (hr_fm F (by decide +kernel)) (by omega)) (by omega) (by have z := hps2004; rw [show iI t 107 = iI s 107 by omega] at z; exact z)
        refine z_store X (lv' := [(6, .int (Int32.ofInt e2005)), (0, .ref (A 179)), (1, .int (Int32.ofInt xv)), (3, .int (Int32.ofInt bv)), (4, .int (Int32.ofInt lv_)), (5, .int (Int32.ofInt c))]) rfl (by decide) (fun _ h => h) (z_load X (x := e2005) rfl (List.Mem.head _) (z_load X (x := lv_) rfl (List.Mem.tail _ (List.Mem.tail _ (List.Mem.tail _ (List.Mem.tail _ (List.Mem.head _))))) (z_icmp_lt X (t := 112) rfl rfl hrs2004 ⟨by first | exact hi.2.2.1.1 | omega, by first | exact hi.2.2.1.2 | omega⟩ (fun g2006 => ?_) (fun g2006 => ?_))))
        ·
          refine z_load X (x := c) rfl (List.Mem.tail _ (List.Mem.tail _ (List.Mem.tail _ (List.Mem.tail _ (List.Mem.tail _ (List.Mem.head _)))))) (z_store_n X (lv' := [(3, .int (Int32.ofInt c)), (6, .int (Int32.ofInt e2005)), (0, .ref (A 179)), (1, .int (Int32.ofInt xv)), (4, .int (Int32.ofInt lv_)), (5, .int (Int32.ofInt c))]) rfl (by decide) (fun _ h => h) (z_load X (x := e2005) rfl (List.Mem.tail _ (List.Mem.head _)) (z_store X (lv' := [(4, .int (Int32.ofInt e2005)), (3, .int (Int32.ofInt c)), (6, .int (Int32.ofInt e2005)), (0, .ref (A 179)), (1, .int (Int32.ofInt xv)), (5, .int (Int32.ofInt c))]) rfl (by decide) (fun _ h => h) (z_inc X (x := c) (lv' := [(5, .int (Int32.ofInt (c + 1))), (4, .int (Int32.ofInt e2005)), (3, .int (Int32.ofInt c)), (6, .int (Int32.ofInt e2005)), (0, .ref (A 179)), (1, .int (Int32.ofInt xv))]) rfl (by decide) (List.Mem.tail _ (List.Mem.tail _ (List.Mem.tail _ (List.Mem.tail _ (List.Mem.tail _ (List.Mem.head _)))))) (fun _ h => h) (z_goto X (t := 85) rfl rfl (WS_pq [4, 5, 2, 1, 0] (lv' := [(0, .ref (A 179)), (1, .int (Int32.ofInt xv)), (3, .int (Int32.ofInt c)), (4, .int (Int32.ofInt e2005)), (5, .int (Int32.ofInt (c + 1)))]) rfl ?_))))))
          exact ih _ xv c e2005 (c + 1) Is2004 Gs2004 (btq_y hq (by omega) hS (by omega)) (by first | exact ⟨And.intro (hi.1.1) (And.intro (hi.1.2.1) (hi.1.2.2)), And.intro (oq_2a6e3b50 hi.2.2.2.1.1) (oq_6eb35ffb g2003), by omega, And.intro (oq_1e1a2df6 hi.2.2.2.1.1) (oq_d524a3cb g2003), oq_1aa5be9e ws2004_107 hi.2.2.2.2.1, oq_333640b7 ws2004_73 hi.2.2.2.2.2 b2001.1⟩ | omega) (by first | exact qk_me hm (by decide) (oq_ad009edd g2003) | omega) kx
        ·
          refine z_goto X (t := 119) rfl rfl (z_inc X (x := c) (lv' := [(5, .int (Int32.ofInt (c + 1))), (6, .int (Int32.ofInt e2005)), (0, .ref (A 179)), (1, .int (Int32.ofInt xv)), (3, .int (Int32.ofInt bv)), (4, .int (Int32.ofInt lv_))]) rfl (by decide) (List.Mem.tail _ (List.Mem.tail _ (List.Mem.tail _ (List.Mem.tail _ (List.Mem.tail _ (List.Mem.head _)))))) (fun _ h => h) (z_goto X (t := 85) rfl rfl (WS_pq [2, 3, 4, 5, 0] (lv' := [(0, .ref (A 179)), (1, .int (Int32.ofInt xv)), (3, .int (Int32.ofInt bv)), (4, .int (Int32.ofInt lv_)), (5, .int (Int32.ofInt (c + 1)))]) rfl ?_)))
          exact ih _ xv bv lv_ (c + 1) Is2004 Gs2004 (btq_n hq (by omega) hS (by omega)) (by first | exact ⟨And.intro (hi.1.1) (And.intro (hi.1.2.1) (hi.1.2.2)), And.intro (hi.2.1.1) (hi.2.1.2), And.intro (hi.2.2.1.1) (hi.2.2.1.2), And.intro (oq_1e1a2df6 hi.2.2.2.1.1) (oq_d524a3cb g2003), oq_1aa5be9e ws2004_107 hi.2.2.2.2.1, oq_333640b7 ws2004_73 hi.2.2.2.2.2 b2001.1⟩ | omega) (by first | exact qk_me hm (by decide) (oq_ad009edd g2003) | omega) kx
  refine z_aload_n X (x := A 179) rfl (List.Mem.head _) (z_const X rfl (s_putI X 179 rfl (c518_ok rfl) rfl rfl (by decide) rfl rfl rfl (wd_gen (fun s3 hs3 => ?_))))
  have Is3 : Bd s3 := eqB hs3 (bd_I I (show (0 : Int) ≤ 0 ∧ 0 ≤ 3 by first | exact ⟨by decide, by decide⟩ | omega) (by decide))
  have Fs3 := eqF hs3 (fm_I F (inl_ok (a := 73) rfl))
  have vs3 : iI s3 73 = 0 := eqI hs3 (iI_u (by decide))
  have ws3_107 : iI s3 107 = iI s 107 := eqI hs3 rfl
  refine z_aload_n X (x := A 179) rfl (List.Mem.head _) (z_load_n X (x := x) rfl (List.Mem.tail _ (List.Mem.head _)) (z_const X rfl (z_const X rfl (z_callS X (rm := rmN 188) (As := [.int (Int32.ofInt x), .int (Int32.ofInt 0), .int (Int32.ofInt 5)]) (st := [.ref (A 179)]) rfl rfl (by rw [E.1, E.2.1, E.2.2.1]; exact k_in2 G Is3 (by first | exact ⟨p0.1, p0.2⟩ | omega) (by first | exact ⟨by decide, by decide⟩ | omega) (by first | exact ⟨by decide, by decide⟩ | omega)) ⟨by rw [E.2.2.2]; exact (show (rmN 188).frames + 1 ≤ (rmN 289).frames by decide), by rw [E.2.2.2]; exact (show 8 + (mNL (miB 188) + 11) + (rmN 188).locals ≤ (rmN 289).locals by decide), by rw [E.2.2.2]; exact (show 0 + (rmN 188).cells ≤ (rmN 289).cells by decide), by rw [E.2.2.2]; exact (show 0 + (rmN 188).slots ≤ (rmN 289).slots by decide)⟩ (Nat.le_of_ble_eq_true rfl) (fun vv s4 hq => ?_) (fun ee s4 hq => ?_)))))
  rotate_left
  · obtain ⟨rfl, e5, hv, hrs4, hps4⟩ := hq; cases hv
  obtain ⟨rfl, e5, hv, hrs4, hps4⟩ := hq
  cases hv
  show WS k 12 [(0, .ref (A 179)), (1, .int (Int32.ofInt x))] [.int (Int32.ofInt e5), .ref (A 179)] (Wd A dT s3) 0 0
  refine z_if_ne X (t := 19) rfl rfl hrs4 (fun g6 => ?_) (fun g6 => ?_)
  ·
    refine z_const X rfl (z_const X rfl (zcV_i0 X E 179 (As := [.int (Int32.ofInt 0), .int (Int32.ofInt 1)]) (st := []) rfl rfl rfl rfl (k_bad2 G Is3 (by first | exact Or.inl (by decide) | omega) (by first | exact ⟨by decide, by decide⟩ | omega)) rfl (Nat.le_of_ble_eq_true rfl) (fun s7 e8 Is7 Fs7 hrs7 hps7 => ?_)))
    have Gs7 := fm_tq Fs3 Fs7 rfl rfl
    have b9 := bi_73 Is7
    have ws7_107 : iI s7 107 = iI s3 107 := fm_iq Fs7 rfl
    refine z_if_eq X (t := 29) rfl rfl hrs7 (fun g10 => ?_) (fun g10 => ?_)
    ·
      refine z_const X rfl (z_store_n X (lv' := [(2, .int (Int32.ofInt 0)), (0, .ref (A 179)), (1, .int (Int32.ofInt x))]) rfl (by decide) (fun _ h => h) (z_const X rfl (z_store_n X (lv' := [(3, .int (Int32.ofInt 0)), (2, .int (Int32.ofInt 0)), (0, .ref (A 179)), (1, .int (Int32.ofInt x))]) rfl (by decide) (fun _ h => h) (WS_pq [2, 3, 1, 0] (lv' := [(0, .ref (A 179)), (1, .int (Int32.ofInt x)), (2, .int (Int32.ofInt 0)), (3, .int (Int32.ofInt 0))]) rfl (L33 ((40 - 0 : Int).toNat + 1) s7 x 0 0 Is7 Gs7 (Or.inr ⟨rfl, noq_0⟩) (by first | exact ⟨oq_0d2bbd06 g6 hps4, Or.inl (by decide), And.intro (by decide) (by decide), b2.1, oq_1aa5be9e ws7_107 ws3_107, oq_93520411 b9.1 hps7 vs3⟩ | omega) (Nat.lt_succ_self _) ?_)))))
      intro s11 x12 x13 Is11 Fs11 Qs11 hs11
      have b14 := bi_73 Is11
      have b15 := bi_107 Is11
      refine z_load_n X (x := x12) rfl (List.Mem.tail _ (List.Mem.tail _ (List.Mem.head _))) (z_if_ne X (t := 72) rfl rfl ⟨by first | exact oq_bde653e9 hs11.2.1 | omega, by first | exact oq_4ad2cb8b hs11.2.1 | omega⟩ (fun g16 => ?_) (fun g16 => ?_))
      ·
        have hA : anF (mBk s) (iI s 107).toNat := by rcases Qs11 with z | z; (· have w := z.2; rw [show x13 = iI s 107 by first | (clear g16 hps7 g6 hps4; omega) | (clear hps7 g6 hps4; omega) | omega] at w; exact w); (· exact absurd z.1 (by first | (clear g16 hps7 g6 hps4; omega) | (clear hps7 g6 hps4; omega) | omega))
        refine z_const X rfl (z_store_n X (lv' := [(3, .int (Int32.ofInt 0)), (0, .ref (A 179)), (1, .int (Int32.ofInt x)), (2, .int (Int32.ofInt x12))]) rfl (by decide) (fun _ h => h) (z_aload_n X (x := A 179) rfl (List.Mem.tail _ (List.Mem.head _)) (z_const X rfl (z_const X rfl (zcV_i0 X E 179 (As := [.int (Int32.ofInt 0), .int (Int32.ofInt 0)]) (st := []) rfl rfl rfl rfl (k_offOf6 G Is11 (by first | exact ⟨by decide, by decide⟩ | omega) (by first | exact Or.inl (by decide) | omega)) rfl (Nat.le_of_ble_eq_true rfl) (fun s17 e18 Is17 Fs17 hrs17 hps17 => ?_))))))
        have Gs17 := fm_tq Fs11 Fs17 rfl rfl
        have ws17_73 : iI s17 73 = iI s11 73 := fm_iq Fs17 rfl
        have ws17_107 : iI s17 107 = iI s11 107 := fm_iq Fs17 rfl
        have hS0 : e18 = ofI (mD s) (mBk s) (mHd s) (dgW ((0 : Int).toNat : Nat)) 0 (iI s 107).toNat := sl_m (srw_m (sam_fm Fs11 (by decide)) (sam_fm Fs11 (by decide)) (hr_fm Fs11 (by decide +kernel)) (by first | (clear g16 hps7 g6 hps4; omega) | (clear hps7 g6 hps4; omega) | omega)) (by first | (clear g16 hps7 g6 hps4; omega) | (clear hps7 g6 hps4; omega) | omega) (by have z := hps17; rw [show iI s11 107 = iI s 107 by first | (clear g16 hps7 g6 hps4; omega) | (clear hps7 g6 hps4; omega) | omega] at z; exact z)
        refine z_store X (lv' := [(4, .int (Int32.ofInt e18)), (3, .int (Int32.ofInt 0)), (0, .ref (A 179)), (1, .int (Int32.ofInt x)), (2, .int (Int32.ofInt x12))]) rfl (by decide) (fun _ h => h) (z_const X rfl (z_store X (lv' := [(5, .int (Int32.ofInt 1)), (4, .int (Int32.ofInt e18)), (3, .int (Int32.ofInt 0)), (0, .ref (A 179)), (1, .int (Int32.ofInt x)), (2, .int (Int32.ofInt x12))]) rfl (by decide) (fun _ h => h) (WS_pq [3, 4, 2, 1, 0] (lv' := [(0, .ref (A 179)), (1, .int (Int32.ofInt x)), (3, .int (Int32.ofInt 0)), (4, .int (Int32.ofInt e18)), (5, .int (Int32.ofInt 1))]) rfl (L85 ((625 - 1 : Int).toNat + 1) s17 x 0 e18 1 Is17 Gs17 (btq_0 hS0) (by first | exact ⟨And.intro (by decide) (And.intro (hs11.1.2.1) (hs11.1.2.2)), And.intro (by decide) (by decide), by first | (clear g16 hps7 g6 hps4; omega) | (clear hps7 g6 hps4; omega) | omega, And.intro (by decide) (by decide), oq_1aa5be9e ws17_107 hs11.2.2.2.1, oq_333640b7 ws17_73 hs11.2.2.2.2 b14.1⟩ | omega) (Nat.lt_succ_self _) ?_))))
        intro s19 x20 x21 x22 Is19 Fs19 Qs19 hs19
        have b23 := bi_73 Is19
        have b24 := bi_107 Is19
        have hB : BTQ (fxF (mD s) (mBk s) (mHd s) (iI s 107).toNat) 625 x20 x21 := by have z := Qs19; rw [show x22 = 625 by first | (clear g16 hps7 g6 hps4; omega) | (clear hps7 g6 hps4; omega) | omega] at z; exact z
        refine z_load_n X (x := x) rfl (List.Mem.tail _ (List.Mem.head _)) (z_const X rfl (z_icmp_le X (t := 147) rfl rfl ⟨by first | exact p0.1 | omega, by first | exact p0.2 | omega⟩ (by decide) (fun g25 => ?_) (fun g25 => ?_)))
        ·
          refine z_load_n X (x := x) rfl (List.Mem.tail _ (List.Mem.head _)) (z_if_ne X (t := 158) rfl rfl ⟨by first | exact p0.1 | omega, by first | exact p0.2 | omega⟩ (fun g26 => ?_) (fun g26 => ?_))
          ·
            refine z_load_n X (x := x) rfl (List.Mem.tail _ (List.Mem.head _)) (z_const X rfl (z_icmp_ne X (t := 172) rfl rfl ⟨by first | exact p0.1 | omega, by first | exact p0.2 | omega⟩ (by decide) (fun g27 => ?_) (fun g27 => ?_)))
            ·
              refine z_load_n X (x := x) rfl (List.Mem.tail _ (List.Mem.head _)) (z_const X rfl (z_icmp_ne X (t := 185) rfl rfl ⟨by first | exact p0.1 | omega, by first | exact p0.2 | omega⟩ (by decide) (fun g28 => ?_) (fun g28 => ?_)))
              ·
                refine z_load_n X (x := x20) rfl (List.Mem.tail _ (List.Mem.tail _ (List.Mem.head _))) (z_const X rfl (z_mod X rfl (by first | exact hs19.2.1.1 | omega) ⟨by first | exact oq_fa4e5087 hs19.2.1.1 | omega, by first | exact oq_240b6eb6 hs19.2.1.2 | omega⟩ (by decide) (by decide) ?_))
                exact w_iret X.1 q hRt rfl (ax_d X (show cdA 289 188 = some (.ireturn, 1, 0, 0, 0) from rfl)) (Nat.zero_le _) (Nat.zero_le _) ⟨_, rfl, Is19, Fs19, (x20 % 5), rfl, ⟨by first | exact oq_b00d0c1c | omega, by first | exact oq_3a6ad61a | omega⟩, Or.inl ⟨by first | exact ⟨hs19.1.2.1, hs19.1.2.2⟩ | omega, by first | exact hs19.2.2.2.2.2 | omega, fte_m hA hB (by first | (clear g28 g27 g26 g16 hps7 g6 hps4; omega) | (clear g27 g26 g16 hps7 g6 hps4; omega) | omega)⟩⟩
              ·
                refine z_load_n X (x := x20) rfl (List.Mem.tail _ (List.Mem.tail _ (List.Mem.head _))) (z_const X rfl (z_quot X rfl (by first | exact hs19.2.1.1 | omega) ⟨by first | exact oq_fa4e5087 hs19.2.1.1 | omega, by first | exact oq_240b6eb6 hs19.2.1.2 | omega⟩ (by decide) (by decide) (z_const X rfl (z_mod X rfl (by first | exact oq_b34fa872 hs19.2.1.1 | omega) ⟨by first | exact oq_35859962 hs19.2.1.1 | omega, by first | exact oq_74197da2 hs19.2.1.2 | omega⟩ (by decide) (by decide) (z_goto X (t := 188) rfl rfl ?_)))))
                exact w_iret X.1 q hRt rfl (ax_d X (show cdA 289 188 = some (.ireturn, 1, 0, 0, 0) from rfl)) (Nat.zero_le _) (Nat.zero_le _) ⟨_, rfl, Is19, Fs19, ((x20 / 5) % 5), rfl, ⟨by first | exact oq_cd11bb7e | omega, by first | exact oq_49813365 | omega⟩, Or.inl ⟨by first | exact ⟨hs19.1.2.1, hs19.1.2.2⟩ | omega, by first | exact hs19.2.2.2.2.2 | omega, fte_m hA hB (by first | (clear g27 g26 g16 hps7 g6 hps4; omega) | (clear g26 g16 hps7 g6 hps4; omega) | omega)⟩⟩
            ·
              refine z_load_n X (x := x20) rfl (List.Mem.tail _ (List.Mem.tail _ (List.Mem.head _))) (z_bipush X rfl (z_quot X rfl (by first | exact hs19.2.1.1 | omega) ⟨by first | exact oq_fa4e5087 hs19.2.1.1 | omega, by first | exact oq_240b6eb6 hs19.2.1.2 | omega⟩ (by decide) (by decide) (z_const X rfl (z_mod X rfl (by first | exact oq_fe4d3050 hs19.2.1.1 | omega) ⟨by first | exact oq_e76ffcc2 hs19.2.1.1 | omega, by first | exact oq_41007592 hs19.2.1.2 | omega⟩ (by decide) (by decide) (z_goto X (t := 188) rfl rfl ?_)))))
              exact w_iret X.1 q hRt rfl (ax_d X (show cdA 289 188 = some (.ireturn, 1, 0, 0, 0) from rfl)) (Nat.zero_le _) (Nat.zero_le _) ⟨_, rfl, Is19, Fs19, ((x20 / 25) % 5), rfl, ⟨by first | exact oq_60d80e36 | omega, by first | exact oq_9ee02b76 | omega⟩, Or.inl ⟨by first | exact ⟨hs19.1.2.1, hs19.1.2.2⟩ | omega, by first | exact hs19.2.2.2.2.2 | omega, fte_m hA hB (by first | (clear g26 g16 hps7 g6 hps4; omega) | (clear g16 hps7 g6 hps4; omega) | omega)⟩⟩
          ·
            refine z_load_n X (x := x20) rfl (List.Mem.tail _ (List.Mem.tail _ (List.Mem.head _))) (z_bipush X rfl (z_quot X rfl (by first | exact hs19.2.1.1 | omega) ⟨by first | exact oq_fa4e5087 hs19.2.1.1 | omega, by first | exact oq_240b6eb6 hs19.2.1.2 | omega⟩ (by decide) (by decide) (z_goto X (t := 188) rfl rfl ?_)))
            exact w_iret X.1 q hRt rfl (ax_d X (show cdA 289 188 = some (.ireturn, 1, 0, 0, 0) from rfl)) (Nat.zero_le _) (Nat.zero_le _) ⟨_, rfl, Is19, Fs19, (x20 / 125), rfl, ⟨by first | exact oq_2f0adc8d hs19.2.1.1 | omega, by first | exact oq_b0fa4340 hs19.2.1.2 | omega⟩, Or.inl ⟨by first | exact ⟨hs19.1.2.1, hs19.1.2.2⟩ | omega, by first | exact hs19.2.2.2.2.2 | omega, fte_m hA hB (by first | (clear g16 hps7 g6 hps4; omega) | (clear hps7 g6 hps4; omega) | omega)⟩⟩
        ·
          refine z_load_n X (x := x) rfl (List.Mem.tail _ (List.Mem.head _)) (z_const X rfl (z_icmp_ne X (t := 140) rfl rfl ⟨by first | exact p0.1 | omega, by first | exact p0.2 | omega⟩ (by decide) (fun g29 => ?_) (fun g29 => ?_)))
          ·
            refine z_aload_n X (x := A 179) rfl (List.Mem.head _) (z_load_n X (x := x20) rfl (List.Mem.tail _ (List.Mem.tail _ (List.Mem.head _))) (z_const X rfl (zcV_i0 X E 179 (As := [.int (Int32.ofInt x20), .int (Int32.ofInt 1)]) (st := []) rfl rfl rfl rfl (k_offOf6 G Is19 (by first | exact ⟨hs19.2.1.1, hs19.2.1.2⟩ | omega) (by first | exact Or.inr (by decide) | omega)) rfl (Nat.le_of_ble_eq_true rfl) (fun s30 e31 Is30 Fs30 hrs30 hps30 => ?_))))
            have Gs30 := fm_tq Fs19 Fs30 rfl rfl
            have ws30_73 : iI s30 73 = iI s19 73 := fm_iq Fs30 rfl
            have ws30_107 : iI s30 107 = iI s19 107 := fm_iq Fs30 rfl
            have hS5 : e31 = ofI (mD s) (mBk s) (mHd s) (dgW ((x20 : Int).toNat : Nat)) 1 (iI s 107).toNat := sl_m (srw_m (sam_fm Fs19 (by decide)) (sam_fm Fs19 (by decide)) (hr_fm Fs19 (by decide +kernel)) (by first | (clear g29 g16 hps7 g6 hps4; omega) | (clear g16 hps7 g6 hps4; omega) | omega)) (by first | (clear g29 g16 hps7 g6 hps4; omega) | (clear g16 hps7 g6 hps4; omega) | omega) (by have z := hps30; rw [show iI s19 107 = iI s 107 by first | (clear g29 g16 hps7 g6 hps4; omega) | (clear g16 hps7 g6 hps4; omega) | omega] at z; exact z)
            exact w_iret X.1 q hRt rfl (ax_d X (show cdA 289 146 = some (.ireturn, 1, 0, 0, 0) from rfl)) (Nat.zero_le _) (Nat.zero_le _) ⟨_, rfl, Is30, Gs30, e31, rfl, hrs30, Or.inl ⟨by first | exact ⟨hs19.1.2.1, hs19.1.2.2⟩ | omega, by first | exact oq_333640b7 ws30_73 hs19.2.2.2.2.2 b23.1 | omega, fte_mb hA hB (by first | (clear g29 g16 hps7 g6 hps4; omega) | (clear g16 hps7 g6 hps4; omega) | omega) (by rw [show x20 = (((x20 : Int).toNat : Nat) : Int) by first | (clear g29 g16 hps7 g6 hps4; omega) | (clear g16 hps7 g6 hps4; omega) | omega]; exact hS5)⟩⟩
          ·
            refine z_load X (x := x21) rfl (List.Mem.tail _ (List.Mem.tail _ (List.Mem.tail _ (List.Mem.head _)))) (z_goto X (t := 146) rfl rfl ?_)
            exact w_iret X.1 q hRt rfl (ax_d X (show cdA 289 146 = some (.ireturn, 1, 0, 0, 0) from rfl)) (Nat.zero_le _) (Nat.zero_le _) ⟨_, rfl, Is19, Fs19, x21, rfl, ⟨by first | exact hs19.2.2.1.1 | omega, by first | exact hs19.2.2.1.2 | omega⟩, Or.inl ⟨by first | exact ⟨hs19.1.2.1, hs19.1.2.2⟩ | omega, by first | exact hs19.2.2.2.2.2 | omega, fte_m hA hB (by first | (clear g16 hps7 g6 hps4; omega) | (clear hps7 g6 hps4; omega) | omega)⟩⟩
      ·
        have hNA : ¬ anF (mBk s) (iI s 107).toNat := by rcases Qs11 with z | z; (· exact absurd z.1 (by first | (clear hps7 g6 hps4; omega) | (clear g6 hps4; omega) | omega)); (· have w := noq_e z.2; rw [show x13 = iI s 107 by first | (clear hps7 g6 hps4; omega) | (clear g6 hps4; omega) | omega] at w; exact w)
        refine z_const X rfl ?_
        exact w_iret X.1 q hRt rfl (ax_d X (show cdA 289 71 = some (.ireturn, 1, 0, 0, 0) from rfl)) (Nat.zero_le _) (Nat.zero_le _) ⟨_, rfl, Is11, Fs11, (-1), rfl, (by decide), Or.inl ⟨by first | exact ⟨hs11.1.2.1, hs11.1.2.2⟩ | omega, by first | exact hs11.2.2.2.2 | omega, Or.inl ⟨hNA, by first | (clear hps7 g6 hps4; omega) | (clear g6 hps4; omega) | omega⟩⟩⟩
    ·
      refine z_const X rfl ?_
      exact w_iret X.1 q hRt rfl (ax_d X (show cdA 289 28 = some (.ireturn, 1, 0, 0, 0) from rfl)) (Nat.zero_le _) (Nat.zero_le _) ⟨_, rfl, Is7, Gs7, 0, rfl, (by decide), Or.inr ⟨by first | exact oq_76568930 g10 hps7 vs3 | omega, by first | exact oq_df0d149a g10 hps7 vs3 | omega⟩⟩
  ·
    refine z_const X rfl (z_goto X (t := 20) rfl rfl (z_const X rfl (zcV_i0 X E 179 (As := [.int (Int32.ofInt 1), .int (Int32.ofInt 1)]) (st := []) rfl rfl rfl rfl (k_bad2 G Is3 (by first | exact Or.inr (by decide) | omega) (by first | exact ⟨by decide, by decide⟩ | omega)) rfl (Nat.le_of_ble_eq_true rfl) (fun s32 e33 Is32 Fs32 hrs32 hps32 => ?_))))
    have Gs32 := fm_tq Fs3 Fs32 rfl rfl
    have b34 := bi_73 Is32
    have ws32_107 : iI s32 107 = iI s3 107 := fm_iq Fs32 rfl
    refine z_if_eq X (t := 29) rfl rfl hrs32 (fun g35 => ?_) (fun g35 => ?_)
    ·
      refine z_const X rfl (z_store_n X (lv' := [(2, .int (Int32.ofInt 0)), (0, .ref (A 179)), (1, .int (Int32.ofInt x))]) rfl (by decide) (fun _ h => h) (z_const X rfl (z_store_n X (lv' := [(3, .int (Int32.ofInt 0)), (2, .int (Int32.ofInt 0)), (0, .ref (A 179)), (1, .int (Int32.ofInt x))]) rfl (by decide) (fun _ h => h) (WS_pq [2, 3, 1, 0] (lv' := [(0, .ref (A 179)), (1, .int (Int32.ofInt x)), (2, .int (Int32.ofInt 0)), (3, .int (Int32.ofInt 0))]) rfl (L33 ((40 - 0 : Int).toNat + 1) s32 x 0 0 Is32 Gs32 (Or.inr ⟨rfl, noq_0⟩) (by first | exact ⟨oq_fca33ba6 g35 hps32 vs3, Or.inl (by decide), And.intro (by decide) (by decide), b2.1, oq_1aa5be9e ws32_107 ws3_107, oq_f4d57307 g35 b34.1 hps32 vs3⟩ | omega) (Nat.lt_succ_self _) ?_)))))
      intro s36 x37 x38 Is36 Fs36 Qs36 hs36
      have b39 := bi_73 Is36
      have b40 := bi_107 Is36
      refine z_load_n X (x := x37) rfl (List.Mem.tail _ (List.Mem.tail _ (List.Mem.head _))) (z_if_ne X (t := 72) rfl rfl ⟨by first | exact oq_bde653e9 hs36.2.1 | omega, by first | exact oq_4ad2cb8b hs36.2.1 | omega⟩ (fun g41 => ?_) (fun g41 => ?_))
      ·
        have hA : anF (mBk s) (iI s 107).toNat := by rcases Qs36 with z | z; (· have w := z.2; rw [show x38 = iI s 107 by first | (clear g41 hps32 hps4; omega) | (clear hps32 hps4; omega) | omega] at w; exact w); (· exact absurd z.1 (by first | (clear g41 hps32 hps4; omega) | (clear hps32 hps4; omega) | omega))
        refine z_const X rfl (z_store_n X (lv' := [(3, .int (Int32.ofInt 0)), (0, .ref (A 179)), (1, .int (Int32.ofInt x)), (2, .int (Int32.ofInt x37))]) rfl (by decide) (fun _ h => h) (z_aload_n X (x := A 179) rfl (List.Mem.tail _ (List.Mem.head _)) (z_const X rfl (z_const X rfl (zcV_i0 X E 179 (As := [.int (Int32.ofInt 0), .int (Int32.ofInt 0)]) (st := []) rfl rfl rfl rfl (k_offOf6 G Is36 (by first | exact ⟨by decide, by decide⟩ | omega) (by first | exact Or.inl (by decide) | omega)) rfl (Nat.le_of_ble_eq_true rfl) (fun s42 e43 Is42 Fs42 hrs42 hps42 => ?_))))))
        have Gs42 := fm_tq Fs36 Fs42 rfl rfl
        have ws42_73 : iI s42 73 = iI s36 73 := fm_iq Fs42 rfl
        have ws42_107 : iI s42 107 = iI s36 107 := fm_iq Fs42 rfl
        have hS0 : e43 = ofI (mD s) (mBk s) (mHd s) (dgW ((0 : Int).toNat : Nat)) 0 (iI s 107).toNat := sl_m (srw_m (sam_fm Fs36 (by decide)) (sam_fm Fs36 (by decide)) (hr_fm Fs36 (by decide +kernel)) (by first | (clear g41 hps32 hps4; omega) | (clear hps32 hps4; omega) | omega)) (by first | (clear g41 hps32 hps4; omega) | (clear hps32 hps4; omega) | omega) (by have z := hps42; rw [show iI s36 107 = iI s 107 by first | (clear g41 hps32 hps4; omega) | (clear hps32 hps4; omega) | omega] at z; exact z)
        refine z_store X (lv' := [(4, .int (Int32.ofInt e43)), (3, .int (Int32.ofInt 0)), (0, .ref (A 179)), (1, .int (Int32.ofInt x)), (2, .int (Int32.ofInt x37))]) rfl (by decide) (fun _ h => h) (z_const X rfl (z_store X (lv' := [(5, .int (Int32.ofInt 1)), (4, .int (Int32.ofInt e43)), (3, .int (Int32.ofInt 0)), (0, .ref (A 179)), (1, .int (Int32.ofInt x)), (2, .int (Int32.ofInt x37))]) rfl (by decide) (fun _ h => h) (WS_pq [3, 4, 2, 1, 0] (lv' := [(0, .ref (A 179)), (1, .int (Int32.ofInt x)), (3, .int (Int32.ofInt 0)), (4, .int (Int32.ofInt e43)), (5, .int (Int32.ofInt 1))]) rfl (L85 ((625 - 1 : Int).toNat + 1) s42 x 0 e43 1 Is42 Gs42 (btq_0 hS0) (by first | exact ⟨And.intro (by decide) (And.intro (hs36.1.2.1) (hs36.1.2.2)), And.intro (by decide) (by decide), oq_da03fcef hs36.1.2.2 hs36.1.2.1 g6 hps4, And.intro (by decide) (by decide), oq_1aa5be9e ws42_107 hs36.2.2.2.1, oq_333640b7 ws42_73 hs36.2.2.2.2 b39.1⟩ | omega) (Nat.lt_succ_self _) ?_))))
        intro s44 x45 x46 x47 Is44 Fs44 Qs44 hs44
        have b48 := bi_73 Is44
        have b49 := bi_107 Is44
        have hB : BTQ (fxF (mD s) (mBk s) (mHd s) (iI s 107).toNat) 625 x45 x46 := by have z := Qs44; rw [show x47 = 625 by first | (clear g41 hps32 hps4; omega) | (clear hps32 hps4; omega) | omega] at z; exact z
        refine z_load_n X (x := x) rfl (List.Mem.tail _ (List.Mem.head _)) (z_const X rfl (z_icmp_le X (t := 147) rfl rfl ⟨by first | exact p0.1 | omega, by first | exact p0.2 | omega⟩ (by decide) (fun g50 => ?_) (fun g50 => ?_)))
        ·
          refine z_load_n X (x := x) rfl (List.Mem.tail _ (List.Mem.head _)) (z_if_ne X (t := 158) rfl rfl ⟨by first | exact p0.1 | omega, by first | exact p0.2 | omega⟩ (fun g51 => ?_) (fun g51 => ?_))
          ·
            refine z_load_n X (x := x) rfl (List.Mem.tail _ (List.Mem.head _)) (z_const X rfl (z_icmp_ne X (t := 172) rfl rfl ⟨by first | exact p0.1 | omega, by first | exact p0.2 | omega⟩ (by decide) (fun g52 => ?_) (fun g52 => ?_)))
            ·
              refine z_load_n X (x := x) rfl (List.Mem.tail _ (List.Mem.head _)) (z_const X rfl (z_icmp_ne X (t := 185) rfl rfl ⟨by first | exact p0.1 | omega, by first | exact p0.2 | omega⟩ (by decide) (fun g53 => ?_) (fun g53 => ?_)))
              ·
                refine z_load_n X (x := x45) rfl (List.Mem.tail _ (List.Mem.tail _ (List.Mem.head _))) (z_const X rfl (z_mod X rfl (by first | exact hs44.2.1.1 | omega) ⟨by first | exact oq_fa4e5087 hs44.2.1.1 | omega, by first | exact oq_240b6eb6 hs44.2.1.2 | omega⟩ (by decide) (by decide) ?_))
                exact w_iret X.1 q hRt rfl (ax_d X (show cdA 289 188 = some (.ireturn, 1, 0, 0, 0) from rfl)) (Nat.zero_le _) (Nat.zero_le _) ⟨_, rfl, Is44, Fs44, (x45 % 5), rfl, ⟨by first | exact oq_b00d0c1c | omega, by first | exact oq_3a6ad61a | omega⟩, Or.inl ⟨by first | exact ⟨hs44.1.2.1, hs44.1.2.2⟩ | omega, by first | exact hs44.2.2.2.2.2 | omega, fte_m hA hB (by first | (clear g53 g52 g51 g41 hps32 hps4; omega) | (clear g52 g51 g41 hps32 hps4; omega) | omega)⟩⟩
              ·
                refine z_load_n X (x := x45) rfl (List.Mem.tail _ (List.Mem.tail _ (List.Mem.head _))) (z_const X rfl (z_quot X rfl (by first | exact hs44.2.1.1 | omega) ⟨by first | exact oq_fa4e5087 hs44.2.1.1 | omega, by first | exact oq_240b6eb6 hs44.2.1.2 | omega⟩ (by decide) (by decide) (z_const X rfl (z_mod X rfl (by first | exact oq_b34fa872 hs44.2.1.1 | omega) ⟨by first | exact oq_35859962 hs44.2.1.1 | omega, by first | exact oq_74197da2 hs44.2.1.2 | omega⟩ (by decide) (by decide) (z_goto X (t := 188) rfl rfl ?_)))))
                exact w_iret X.1 q hRt rfl (ax_d X (show cdA 289 188 = some (.ireturn, 1, 0, 0, 0) from rfl)) (Nat.zero_le _) (Nat.zero_le _) ⟨_, rfl, Is44, Fs44, ((x45 / 5) % 5), rfl, ⟨by first | exact oq_cd11bb7e | omega, by first | exact oq_49813365 | omega⟩, Or.inl ⟨by first | exact ⟨hs44.1.2.1, hs44.1.2.2⟩ | omega, by first | exact hs44.2.2.2.2.2 | omega, fte_m hA hB (by first | (clear g52 g51 g41 hps32 hps4; omega) | (clear g51 g41 hps32 hps4; omega) | omega)⟩⟩
            ·
              refine z_load_n X (x := x45) rfl (List.Mem.tail _ (List.Mem.tail _ (List.Mem.head _))) (z_bipush X rfl (z_quot X rfl (by first | exact hs44.2.1.1 | omega) ⟨by first | exact oq_fa4e5087 hs44.2.1.1 | omega, by first | exact oq_240b6eb6 hs44.2.1.2 | omega⟩ (by decide) (by decide) (z_const X rfl (z_mod X rfl (by first | exact oq_fe4d3050 hs44.2.1.1 | omega) ⟨by first | exact oq_e76ffcc2 hs44.2.1.1 | omega, by first | exact oq_41007592 hs44.2.1.2 | omega⟩ (by decide) (by decide) (z_goto X (t := 188) rfl rfl ?_)))))
              exact w_iret X.1 q hRt rfl (ax_d X (show cdA 289 188 = some (.ireturn, 1, 0, 0, 0) from rfl)) (Nat.zero_le _) (Nat.zero_le _) ⟨_, rfl, Is44, Fs44, ((x45 / 25) % 5), rfl, ⟨by first | exact oq_60d80e36 | omega, by first | exact oq_9ee02b76 | omega⟩, Or.inl ⟨by first | exact ⟨hs44.1.2.1, hs44.1.2.2⟩ | omega, by first | exact hs44.2.2.2.2.2 | omega, fte_m hA hB (by first | (clear g51 g41 hps32 hps4; omega) | (clear g41 hps32 hps4; omega) | omega)⟩⟩
          ·
            refine z_load_n X (x := x45) rfl (List.Mem.tail _ (List.Mem.tail _ (List.Mem.head _))) (z_bipush X rfl (z_quot X rfl (by first | exact hs44.2.1.1 | omega) ⟨by first | exact oq_fa4e5087 hs44.2.1.1 | omega, by first | exact oq_240b6eb6 hs44.2.1.2 | omega⟩ (by decide) (by decide) (z_goto X (t := 188) rfl rfl ?_)))
            exact w_iret X.1 q hRt rfl (ax_d X (show cdA 289 188 = some (.ireturn, 1, 0, 0, 0) from rfl)) (Nat.zero_le _) (Nat.zero_le _) ⟨_, rfl, Is44, Fs44, (x45 / 125), rfl, ⟨by first | exact oq_2f0adc8d hs44.2.1.1 | omega, by first | exact oq_b0fa4340 hs44.2.1.2 | omega⟩, Or.inl ⟨by first | exact ⟨hs44.1.2.1, hs44.1.2.2⟩ | omega, by first | exact hs44.2.2.2.2.2 | omega, fte_m hA hB (by first | (clear g41 hps32 hps4; omega) | (clear hps32 hps4; omega) | omega)⟩⟩
        ·
          refine z_load_n X (x := x) rfl (List.Mem.tail _ (List.Mem.head _)) (z_const X rfl (z_icmp_ne X (t := 140) rfl rfl ⟨by first | exact p0.1 | omega, by first | exact p0.2 | omega⟩ (by decide) (fun g54 => ?_) (fun g54 => ?_)))
          ·
            refine z_aload_n X (x := A 179) rfl (List.Mem.head _) (z_load_n X (x := x45) rfl (List.Mem.tail _ (List.Mem.tail _ (List.Mem.head _))) (z_const X rfl (zcV_i0 X E 179 (As := [.int (Int32.ofInt x45), .int (Int32.ofInt 1)]) (st := []) rfl rfl rfl rfl (k_offOf6 G Is44 (by first | exact ⟨hs44.2.1.1, hs44.2.1.2⟩ | omega) (by first | exact Or.inr (by decide) | omega)) rfl (Nat.le_of_ble_eq_true rfl) (fun s55 e56 Is55 Fs55 hrs55 hps55 => ?_))))
            have Gs55 := fm_tq Fs44 Fs55 rfl rfl
            have ws55_73 : iI s55 73 = iI s44 73 := fm_iq Fs55 rfl
            have ws55_107 : iI s55 107 = iI s44 107 := fm_iq Fs55 rfl
            have hS5 : e56 = ofI (mD s) (mBk s) (mHd s) (dgW ((x45 : Int).toNat : Nat)) 1 (iI s 107).toNat := sl_m (srw_m (sam_fm Fs44 (by decide)) (sam_fm Fs44 (by decide)) (hr_fm Fs44 (by decide +kernel)) (by first | (clear g54 g41 hps32 hps4; omega) | (clear g41 hps32 hps4; omega) | omega)) (by first | (clear g54 g41 hps32 hps4; omega) | (clear g41 hps32 hps4; omega) | omega) (by have z := hps55; rw [show iI s44 107 = iI s 107 by first | (clear g54 g41 hps32 hps4; omega) | (clear g41 hps32 hps4; omega) | omega] at z; exact z)
            exact w_iret X.1 q hRt rfl (ax_d X (show cdA 289 146 = some (.ireturn, 1, 0, 0, 0) from rfl)) (Nat.zero_le _) (Nat.zero_le _) ⟨_, rfl, Is55, Gs55, e56, rfl, hrs55, Or.inl ⟨by first | exact ⟨hs44.1.2.1, hs44.1.2.2⟩ | omega, by first | exact oq_333640b7 ws55_73 hs44.2.2.2.2.2 b48.1 | omega, fte_mb hA hB (by first | (clear g54 g41 hps32 hps4; omega) | (clear g41 hps32 hps4; omega) | omega) (by rw [show x45 = (((x45 : Int).toNat : Nat) : Int) by first | (clear g54 g41 hps32 hps4; omega) | (clear g41 hps32 hps4; omega) | omega]; exact hS5)⟩⟩
          ·
            refine z_load X (x := x46) rfl (List.Mem.tail _ (List.Mem.tail _ (List.Mem.tail _ (List.Mem.head _)))) (z_goto X (t := 146) rfl rfl ?_)
            exact w_iret X.1 q hRt rfl (ax_d X (show cdA 289 146 = some (.ireturn, 1, 0, 0, 0) from rfl)) (Nat.zero_le _) (Nat.zero_le _) ⟨_, rfl, Is44, Fs44, x46, rfl, ⟨by first | exact hs44.2.2.1.1 | omega, by first | exact hs44.2.2.1.2 | omega⟩, Or.inl ⟨by first | exact ⟨hs44.1.2.1, hs44.1.2.2⟩ | omega, by first | exact hs44.2.2.2.2.2 | omega, fte_m hA hB (by first | (clear g41 hps32 hps4; omega) | (clear hps32 hps4; omega) | omega)⟩⟩
      ·
        have hNA : ¬ anF (mBk s) (iI s 107).toNat := by rcases Qs36 with z | z; (· exact absurd z.1 (by first | (clear hps32 hps4; omega) | (clear hps4; omega) | omega)); (· have w := noq_e z.2; rw [show x38 = iI s 107 by first | (clear hps32 hps4; omega) | (clear hps4; omega) | omega] at w; exact w)
        refine z_const X rfl ?_
        exact w_iret X.1 q hRt rfl (ax_d X (show cdA 289 71 = some (.ireturn, 1, 0, 0, 0) from rfl)) (Nat.zero_le _) (Nat.zero_le _) ⟨_, rfl, Is36, Fs36, (-1), rfl, (by decide), Or.inl ⟨by first | exact ⟨hs36.1.2.1, hs36.1.2.2⟩ | omega, by first | exact hs36.2.2.2.2 | omega, Or.inl ⟨hNA, by first | (clear hps32 hps4; omega) | (clear hps4; omega) | omega⟩⟩⟩
    ·
      refine z_const X rfl ?_
      exact w_iret X.1 q hRt rfl (ax_d X (show cdA 289 28 = some (.ireturn, 1, 0, 0, 0) from rfl)) (Nat.zero_le _) (Nat.zero_le _) ⟨_, rfl, Is32, Gs32, 0, rfl, (by decide), Or.inr ⟨by first | exact oq_ea04e8bd g6 hps4 | omega, by first | exact oq_faabd673 g35 hps32 vs3 | omega⟩⟩
end M87kj
