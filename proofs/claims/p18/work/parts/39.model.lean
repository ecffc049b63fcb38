/-! The model: paint -/
section M39
variable {l : Launch} {s0 : State} {D : va_G} {tys : List (ClassId × FieldType)} {a0 : Array Value} {A : Nat → Nat} {dT : Nat → ClassId} {s : PS}
theorem k_paint (G : GX l s0 D tys a0 dT) (I : Bd s) {x y z : Int} (p0 : rng x) (p1 : rng y) (p2 : rng z) : CT l s0 D A dT 235 (rmN 235) [.ref (A 179), .int (Int32.ofInt x), .int (Int32.ofInt y), .int (Int32.ofInt z)] s (fun o t => Bd t ∧ Fm [73] [228] s t ∧ ∃ e, o = .inl (some (.int (Int32.ofInt e))) ∧ rng e ∧ (True)) := by
  refine ct_of G (by decide) (Nat.le_of_ble_eq_true rfl) (fun k X E hRt hXt q => ?_)
  show WS k 0 [(0, .ref (A 179)), (1, .int (Int32.ofInt x)), (2, .int (Int32.ofInt y)), (3, .int (Int32.ofInt z))] [] _ 0 0
  have F : Fm [73] [228] s s := fm_rf _ _ s
  have b1 : (0 : Int) ≤ iI s 73 ∧ iI s 73 ≤ 3 := I.1 73
  have L114 : ∀ (n : Nat) (t : PS) (xv yv zv nv c : Int), Bd t → Fm [73] [228] s t → ((0 ≤ xv ∧ xv ≤ 127) ∧ (0 ≤ yv ∧ yv ≤ 127) ∧ (-1 ≤ zv ∧ zv ≤ 7) ∧ 0 ≤ nv ∧ nv ≤ c ∧ 64 * (xv / 64) ≤ c ∧ c ≤ 64 * (xv / 64) + 64) → 64 * (xv / 64) + 64 - c ≤ n → (∀ (t' : PS) (nv' c' : Int), Bd t' → Fm [73] [228] s t' → ((0 ≤ xv ∧ xv ≤ 127) ∧ (0 ≤ yv ∧ yv ≤ 127) ∧ (-1 ≤ zv ∧ zv ≤ 7) ∧ 0 ≤ nv' ∧ nv' ≤ c' ∧ 64 * (xv / 64) ≤ c' ∧ c' ≤ 64 * (xv / 64) + 64) → WS k 214 [(0, .ref (A 179)), (1, .int (Int32.ofInt xv)), (2, .int (Int32.ofInt yv)), (3, .int (Int32.ofInt zv)), (4, .int (Int32.ofInt nv')), (5, .int (Int32.ofInt c'))] [] (Wd A dT t') 0 0) → WS k 114 [(0, .ref (A 179)), (1, .int (Int32.ofInt xv)), (2, .int (Int32.ofInt yv)), (3, .int (Int32.ofInt zv)), (4, .int (Int32.ofInt nv)), (5, .int (Int32.ofInt c))] [] (Wd A dT t) 0 0 := by
    intro n
    induction n with
    | zero =>
      intro t xv yv zv nv c I F hi hm kx
      have b1001 : (0 : Int) ≤ iI t 73 ∧ iI t 73 ≤ 3 := I.1 73
      refine z_load X (x := c) (show cdA 235 114 = some (.iload 5, 2, 0, 0, 0) from rfl) (List.Mem.tail _ (List.Mem.tail _ (List.Mem.tail _ (List.Mem.tail _ (List.Mem.tail _ (List.Mem.head _)))))) ?_
      refine z_bipush X (show cdA 235 116 = some (.bipush 64, 2, 0, 0, 64) from rfl) ?_
      refine z_load_n X (x := xv) (show cdA 235 118 = some (.iload_n 1, 1, 0, 0, 0) from rfl) (List.Mem.tail _ (List.Mem.head _)) ?_
      refine z_bipush X (show cdA 235 119 = some (.bipush 64, 2, 0, 0, 64) from rfl) ?_
      refine z_quot X (show cdA 235 121 = some (.idiv, 1, 0, 0, 0) from rfl) (by omega) ⟨by omega, by omega⟩ (by omega) ⟨by omega, by omega⟩ ?_
      refine z_mul X (show cdA 235 122 = some (.imul, 1, 0, 0, 0) from rfl) ?_
      refine z_bipush X (show cdA 235 123 = some (.bipush 64, 2, 0, 0, 64) from rfl) ?_
      refine z_add X (show cdA 235 125 = some (.iadd, 1, 0, 0, 0) from rfl) ?_
      refine z_icmp_ge X (t := 214) (show cdA 235 126 = some (.if_icmp .ge 88, 3, 3, 0, 0) from rfl) (by decide) ⟨by omega, by omega⟩ ⟨by omega, by omega⟩ (fun g1002 => ?_) (fun g1002 => ?_)
      ·
        refine WS_lv (lv := [(0, .ref (A 179)), (1, .int (Int32.ofInt xv)), (2, .int (Int32.ofInt yv)), (3, .int (Int32.ofInt zv)), (4, .int (Int32.ofInt nv)), (5, .int (Int32.ofInt c))]) (List.forall_mem_cons.mpr ⟨(List.Mem.head _), (List.forall_mem_cons.mpr ⟨(List.Mem.tail _ (List.Mem.head _)), (List.forall_mem_cons.mpr ⟨(List.Mem.tail _ (List.Mem.tail _ (List.Mem.head _))), (List.forall_mem_cons.mpr ⟨(List.Mem.tail _ (List.Mem.tail _ (List.Mem.tail _ (List.Mem.head _)))), (List.forall_mem_cons.mpr ⟨(List.Mem.tail _ (List.Mem.tail _ (List.Mem.tail _ (List.Mem.tail _ (List.Mem.head _))))), (List.forall_mem_cons.mpr ⟨(List.Mem.tail _ (List.Mem.tail _ (List.Mem.tail _ (List.Mem.tail _ (List.Mem.tail _ (List.Mem.head _)))))), (fun q h => absurd h List.not_mem_nil)⟩)⟩)⟩)⟩)⟩)⟩) ?_
        exact kx _ nv c I F (by omega)
      ·
        refine z_load X (x := c) (show cdA 235 129 = some (.iload 5, 2, 0, 0, 0) from rfl) (List.Mem.tail _ (List.Mem.tail _ (List.Mem.tail _ (List.Mem.tail _ (List.Mem.tail _ (List.Mem.head _)))))) ?_
        refine z_bipush X (show cdA 235 131 = some (.bipush 8, 2, 0, 0, 8) from rfl) ?_
        refine z_mod X (show cdA 235 133 = some (.irem, 1, 0, 0, 0) from rfl) (by omega) ⟨by omega, by omega⟩ (by omega) ⟨by omega, by omega⟩ ?_
        refine z_load_n X (x := xv) (show cdA 235 134 = some (.iload_n 1, 1, 0, 0, 0) from rfl) (List.Mem.tail _ (List.Mem.head _)) ?_
        refine z_bipush X (show cdA 235 135 = some (.bipush 8, 2, 0, 0, 8) from rfl) ?_
        refine z_mod X (show cdA 235 137 = some (.irem, 1, 0, 0, 0) from rfl) (by omega) ⟨by omega, by omega⟩ (by omega) ⟨by omega, by omega⟩ ?_
        refine z_load_n X (x := yv) (show cdA 235 138 = some (.iload_n 2, 1, 0, 0, 0) from rfl) (List.Mem.tail _ (List.Mem.tail _ (List.Mem.head _))) ?_
        refine z_bipush X (show cdA 235 139 = some (.bipush 8, 2, 0, 0, 8) from rfl) ?_
        refine z_mod X (show cdA 235 141 = some (.irem, 1, 0, 0, 0) from rfl) (by omega) ⟨by omega, by omega⟩ (by omega) ⟨by omega, by omega⟩ ?_
        refine z_callS X (rm := rmN 188) (As := [.int (Int32.ofInt (c % 8)), .int (Int32.ofInt (xv % 8)), .int (Int32.ofInt (yv % 8))]) (st := []) (show cdA 235 142 = some (.invokestatic 209, 3, 188, 1, 0) from rfl) rfl (by rw [E.1, E.2.1, E.2.2.1]; exact k_in G I (by omega) (by omega) (by omega)) ⟨by rw [E.2.2.2]; exact (show (rmN 188).frames + 1 ≤ (rmN 235).frames by decide), by rw [E.2.2.2]; exact (show 8 + (mNL (miB 188) + 11) + (rmN 188).locals ≤ (rmN 235).locals by decide), by rw [E.2.2.2]; exact (show 0 + (rmN 188).cells ≤ (rmN 235).cells by decide), by rw [E.2.2.2]; exact (show 0 + (rmN 188).slots ≤ (rmN 235).slots by decide)⟩ (Nat.le_of_ble_eq_true rfl) (fun vv s1003 hq => ?_) (fun ee s1003 hq => ?_)
        rotate_left
        · obtain ⟨Is1003, Fs1003, e1004, hv, hrs1003, hps1003⟩ := hq; cases hv
        obtain ⟨Is1003, Fs1003, e1004, hv, hrs1003, hps1003⟩ := hq
        cases hv
        have Gs1003 := fm_ts F Fs1003 (by decide) (by decide)
        have ws1003_73 : iI s1003 73 = iI t 73 := fm_i Fs1003 (by decide)
        show WS k 145 [(0, .ref (A 179)), (1, .int (Int32.ofInt xv)), (2, .int (Int32.ofInt yv)), (3, .int (Int32.ofInt zv)), (4, .int (Int32.ofInt nv)), (5, .int (Int32.ofInt c))] [.int (Int32.ofInt e1004)] (Wd A dT s1003) 0 0
        refine z_if_eq X (t := 208) (show cdA 235 145 = some (.ifCond .eq 63, 3, 0, 0, 0) from rfl) (by decide) ⟨by omega, by omega⟩ (fun g1005 => ?_) (fun g1005 => ?_)
        ·
          refine z_inc X (x := c) (lv' := [(5, .int (Int32.ofInt (c + 1))), (0, .ref (A 179)), (1, .int (Int32.ofInt xv)), (2, .int (Int32.ofInt yv)), (3, .int (Int32.ofInt zv)), (4, .int (Int32.ofInt nv))]) (show cdA 235 208 = some (.iinc 5 1, 3, 0, 0, 0) from rfl) (by decide) (List.Mem.tail _ (List.Mem.tail _ (List.Mem.tail _ (List.Mem.tail _ (List.Mem.tail _ (List.Mem.head _)))))) (fun _ h => h) ?_
          refine z_goto X (t := 114) (show cdA 235 211 = some (.goto (-97), 3, 0, 0, 0) from rfl) (by decide) ?_
          exfalso
          omega
        ·
          refine z_load X (x := c) (show cdA 235 148 = some (.iload 5, 2, 0, 0, 0) from rfl) (List.Mem.tail _ (List.Mem.tail _ (List.Mem.tail _ (List.Mem.tail _ (List.Mem.tail _ (List.Mem.head _)))))) ?_
          refine z_bipush X (show cdA 235 150 = some (.bipush 8, 2, 0, 0, 8) from rfl) ?_
          refine z_quot X (show cdA 235 152 = some (.idiv, 1, 0, 0, 0) from rfl) (by omega) ⟨by omega, by omega⟩ (by omega) ⟨by omega, by omega⟩ ?_
          refine z_bipush X (show cdA 235 153 = some (.bipush 8, 2, 0, 0, 8) from rfl) ?_
          refine z_mod X (show cdA 235 155 = some (.irem, 1, 0, 0, 0) from rfl) (by omega) ⟨by omega, by omega⟩ (by omega) ⟨by omega, by omega⟩ ?_
          refine z_load_n X (x := xv) (show cdA 235 156 = some (.iload_n 1, 1, 0, 0, 0) from rfl) (List.Mem.tail _ (List.Mem.head _)) ?_
          refine z_bipush X (show cdA 235 157 = some (.bipush 8, 2, 0, 0, 8) from rfl) ?_
          refine z_quot X (show cdA 235 159 = some (.idiv, 1, 0, 0, 0) from rfl) (by omega) ⟨by omega, by omega⟩ (by omega) ⟨by omega, by omega⟩ ?_
          refine z_bipush X (show cdA 235 160 = some (.bipush 8, 2, 0, 0, 8) from rfl) ?_
          refine z_mod X (show cdA 235 162 = some (.irem, 1, 0, 0, 0) from rfl) (by omega) ⟨by omega, by omega⟩ (by omega) ⟨by omega, by omega⟩ ?_
          refine z_load_n X (x := yv) (show cdA 235 163 = some (.iload_n 2, 1, 0, 0, 0) from rfl) (List.Mem.tail _ (List.Mem.tail _ (List.Mem.head _))) ?_
          refine z_bipush X (show cdA 235 164 = some (.bipush 8, 2, 0, 0, 8) from rfl) ?_
          refine z_quot X (show cdA 235 166 = some (.idiv, 1, 0, 0, 0) from rfl) (by omega) ⟨by omega, by omega⟩ (by omega) ⟨by omega, by omega⟩ ?_
          refine z_bipush X (show cdA 235 167 = some (.bipush 8, 2, 0, 0, 8) from rfl) ?_
          refine z_mod X (show cdA 235 169 = some (.irem, 1, 0, 0, 0) from rfl) (by omega) ⟨by omega, by omega⟩ (by omega) ⟨by omega, by omega⟩ ?_
          refine z_callS X (rm := rmN 188) (As := [.int (Int32.ofInt ((c / 8) % 8)), .int (Int32.ofInt ((xv / 8) % 8)), .int (Int32.ofInt ((yv / 8) % 8))]) (st := []) (show cdA 235 170 = some (.invokestatic 209, 3, 188, 1, 0) from rfl) rfl (by rw [E.1, E.2.1, E.2.2.1]; exact k_in G Is1003 (by omega) (by omega) (by omega)) ⟨by rw [E.2.2.2]; exact (show (rmN 188).frames + 1 ≤ (rmN 235).frames by decide), by rw [E.2.2.2]; exact (show 8 + (mNL (miB 188) + 11) + (rmN 188).locals ≤ (rmN 235).locals by decide), by rw [E.2.2.2]; exact (show 0 + (rmN 188).cells ≤ (rmN 235).cells by decide), by rw [E.2.2.2]; exact (show 0 + (rmN 188).slots ≤ (rmN 235).slots by decide)⟩ (Nat.le_of_ble_eq_true rfl) (fun vv s1006 hq => ?_) (fun ee s1006 hq => ?_)
          rotate_left
          · obtain ⟨Is1006, Fs1006, e1007, hv, hrs1006, hps1006⟩ := hq; cases hv
          obtain ⟨Is1006, Fs1006, e1007, hv, hrs1006, hps1006⟩ := hq
          cases hv
          have Gs1006 := fm_ts Gs1003 Fs1006 (by decide) (by decide)
          have ws1006_73 : iI s1006 73 = iI s1003 73 := fm_i Fs1006 (by decide)
          show WS k 173 [(0, .ref (A 179)), (1, .int (Int32.ofInt xv)), (2, .int (Int32.ofInt yv)), (3, .int (Int32.ofInt zv)), (4, .int (Int32.ofInt nv)), (5, .int (Int32.ofInt c))] [.int (Int32.ofInt e1007)] (Wd A dT s1006) 0 0
          refine z_if_ne X (t := 179) (show cdA 235 173 = some (.ifCond .ne 6, 3, 1, 0, 0) from rfl) (by decide) ⟨by omega, by omega⟩ (fun g1008 => ?_) (fun g1008 => ?_)
          ·
            refine z_load X (x := nv) (show cdA 235 179 = some (.iload 4, 2, 0, 0, 0) from rfl) (List.Mem.tail _ (List.Mem.tail _ (List.Mem.tail _ (List.Mem.tail _ (List.Mem.head _))))) ?_
            refine z_aload_n X (x := A 179) (show cdA 235 181 = some (.aload_n 0, 1, 0, 0, 0) from rfl) (List.Mem.head _) ?_
            refine s_getR X 179 (show cdA 235 182 = some (.getfield 70, 3, 12, 35, 0) from rfl) (by decide) rfl rfl ?_
            refine z_load X (x := c) (show cdA 235 185 = some (.iload 5, 2, 0, 0, 0) from rfl) (List.Mem.tail _ (List.Mem.tail _ (List.Mem.tail _ (List.Mem.tail _ (List.Mem.tail _ (List.Mem.head _)))))) ?_
            refine z_ald X 256 (show cdA 235 187 = some (.iaload, 1, 0, 0, 0) from rfl) (by decide) rfl (by omega) (show c < 128 by omega) (by decide) ?_
            have b1009 : ((-1) : Int) ≤ iC s1006 228 (c).toNat ∧ iC s1006 228 (c).toNat ≤ 7 := Is1006.2 228 _ (show (c).toNat < 128 by omega)
            refine z_load_n X (x := zv) (show cdA 235 188 = some (.iload_n 3, 1, 0, 0, 0) from rfl) (List.Mem.tail _ (List.Mem.tail _ (List.Mem.tail _ (List.Mem.head _)))) ?_
            refine z_icmp_ne X (t := 196) (show cdA 235 189 = some (.if_icmp .ne 7, 3, 1, 0, 0) from rfl) (by decide) ⟨by omega, by omega⟩ ⟨by omega, by omega⟩ (fun g1010 => ?_) (fun g1010 => ?_)
            ·
              refine z_const X (show cdA 235 196 = some (.iconst 1, 1, 0, 0, 0) from rfl) ?_
              refine z_add X (show cdA 235 197 = some (.iadd, 1, 0, 0, 0) from rfl) ?_
              refine z_store X (lv' := [(4, .int (Int32.ofInt (nv + 1))), (0, .ref (A 179)), (1, .int (Int32.ofInt xv)), (2, .int (Int32.ofInt yv)), (3, .int (Int32.ofInt zv)), (5, .int (Int32.ofInt c))]) (show cdA 235 198 = some (.istore 4, 2, 0, 0, 0) from rfl) (by decide) (fun _ h => h) ?_
              refine z_aload_n X (x := A 179) (show cdA 235 200 = some (.aload_n 0, 1, 0, 0, 0) from rfl) (List.Mem.tail _ (List.Mem.head _)) ?_
              refine s_getR X 179 (show cdA 235 201 = some (.getfield 70, 3, 12, 35, 0) from rfl) (by decide) rfl rfl ?_
              refine z_load X (x := c) (show cdA 235 204 = some (.iload 5, 2, 0, 0, 0) from rfl) (List.Mem.tail _ (List.Mem.tail _ (List.Mem.tail _ (List.Mem.tail _ (List.Mem.tail _ (List.Mem.head _)))))) ?_
              refine z_load_n X (x := zv) (show cdA 235 206 = some (.iload_n 3, 1, 0, 0, 0) from rfl) (List.Mem.tail _ (List.Mem.tail _ (List.Mem.tail _ (List.Mem.tail _ (List.Mem.head _))))) ?_
              refine z_ast X 256 (show cdA 235 207 = some (.iastore, 1, 0, 0, 0) from rfl) (by decide) rfl (by omega) (show c < 128 by omega) (by decide) ?_
              obtain ⟨s1011, hs1011⟩ : ∃ x0, x0 = uC s1006 228 (c).toNat (Int32.ofInt zv) := ⟨_, rfl⟩
              rw [← hs1011]
              have Is1011 : Bd s1011 := by rw [hs1011]; exact bd_C Is1006 (show ((-1) : Int) ≤ zv ∧ zv ≤ 7 by omega) ⟨by omega, by omega⟩
              have Fs1011 := fm_C (i := (c).toNat) (x := Int32.ofInt zv) Gs1006 (show 228 ∈ _ by decide)
              rw [← hs1011] at Fs1011
              have ws1011_73 : iI s1011 73 = iI s1006 73 := by rw [hs1011]; rfl
              refine z_inc X (x := c) (lv' := [(5, .int (Int32.ofInt (c + 1))), (4, .int (Int32.ofInt (nv + 1))), (0, .ref (A 179)), (1, .int (Int32.ofInt xv)), (2, .int (Int32.ofInt yv)), (3, .int (Int32.ofInt zv))]) (show cdA 235 208 = some (.iinc 5 1, 3, 0, 0, 0) from rfl) (by decide) (List.Mem.tail _ (List.Mem.tail _ (List.Mem.tail _ (List.Mem.tail _ (List.Mem.tail _ (List.Mem.head _)))))) (fun _ h => h) ?_
              refine z_goto X (t := 114) (show cdA 235 211 = some (.goto (-97), 3, 0, 0, 0) from rfl) (by decide) ?_
              exfalso
              omega
            ·
              refine z_const X (show cdA 235 192 = some (.iconst 0, 1, 0, 0, 0) from rfl) ?_
              refine z_goto X (t := 197) (show cdA 235 193 = some (.goto 4, 3, 0, 0, 0) from rfl) (by decide) ?_
              refine z_add X (show cdA 235 197 = some (.iadd, 1, 0, 0, 0) from rfl) ?_
              refine z_store X (lv' := [(4, .int (Int32.ofInt (nv + 0))), (0, .ref (A 179)), (1, .int (Int32.ofInt xv)), (2, .int (Int32.ofInt yv)), (3, .int (Int32.ofInt zv)), (5, .int (Int32.ofInt c))]) (show cdA 235 198 = some (.istore 4, 2, 0, 0, 0) from rfl) (by decide) (fun _ h => h) ?_
              refine z_aload_n X (x := A 179) (show cdA 235 200 = some (.aload_n 0, 1, 0, 0, 0) from rfl) (List.Mem.tail _ (List.Mem.head _)) ?_
              refine s_getR X 179 (show cdA 235 201 = some (.getfield 70, 3, 12, 35, 0) from rfl) (by decide) rfl rfl ?_
              refine z_load X (x := c) (show cdA 235 204 = some (.iload 5, 2, 0, 0, 0) from rfl) (List.Mem.tail _ (List.Mem.tail _ (List.Mem.tail _ (List.Mem.tail _ (List.Mem.tail _ (List.Mem.head _)))))) ?_
              refine z_load_n X (x := zv) (show cdA 235 206 = some (.iload_n 3, 1, 0, 0, 0) from rfl) (List.Mem.tail _ (List.Mem.tail _ (List.Mem.tail _ (List.Mem.tail _ (List.Mem.head _))))) ?_
              refine z_ast X 256 (show cdA 235 207 = some (.iastore, 1, 0, 0, 0) from rfl) (by decide) rfl (by omega) (show c < 128 by omega) (by decide) ?_
              obtain ⟨s1012, hs1012⟩ : ∃ x0, x0 = uC s1006 228 (c).toNat (Int32.ofInt zv) := ⟨_, rfl⟩
              rw [← hs1012]
              have Is1012 : Bd s1012 := by rw [hs1012]; exact bd_C Is1006 (show ((-1) : Int) ≤ zv ∧ zv ≤ 7 by omega) ⟨by omega, by omega⟩
              have Fs1012 := fm_C (i := (c).toNat) (x := Int32.ofInt zv) Gs1006 (show 228 ∈ _ by decide)
              rw [← hs1012] at Fs1012
              have ws1012_73 : iI s1012 73 = iI s1006 73 := by rw [hs1012]; rfl
              refine z_inc X (x := c) (lv' := [(5, .int (Int32.ofInt (c + 1))), (4, .int (Int32.ofInt (nv + 0))), (0, .ref (A 179)), (1, .int (Int32.ofInt xv)), (2, .int (Int32.ofInt yv)), (3, .int (Int32.ofInt zv))]) (show cdA 235 208 = some (.iinc 5 1, 3, 0, 0, 0) from rfl) (by decide) (List.Mem.tail _ (List.Mem.tail _ (List.Mem.tail _ (List.Mem.tail _ (List.Mem.tail _ (List.Mem.head _)))))) (fun _ h => h) ?_
              refine z_goto X (t := 114) (show cdA 235 211 = some (.goto (-97), 3, 0, 0, 0) from rfl) (by decide) ?_
              exfalso
              omega
          ·
            refine z_goto X (t := 208) (show cdA 235 176 = some (.goto 32, 3, 0, 0, 0) from rfl) (by decide) ?_
            refine z_inc X (x := c) (lv' := [(5, .int (Int32.ofInt (c + 1))), (0, .ref (A 179)), (1, .int (Int32.ofInt xv)), (2, .int (Int32.ofInt yv)), (3, .int (Int32.ofInt zv)), (4, .int (Int32.ofInt nv))]) (show cdA 235 208 = some (.iinc 5 1, 3, 0, 0, 0) from rfl) (by decide) (List.Mem.tail _ (List.Mem.tail _ (List.Mem.tail _ (List.Mem.tail _ (List.Mem.tail _ (List.Mem.head _)))))) (fun _ h => h) ?_
            refine z_goto X (t := 114) (show cdA 235 211 = some (.goto (-97), 3, 0, 0, 0) from rfl) (by decide) ?_
            exfalso
            omega
    | succ n ih =>
      intro t xv yv zv nv c I F hi hm kx
      have b1001 : (0 : Int) ≤ iI t 73 ∧ iI t 73 ≤ 3 := I.1 73
      refine z_load X (x := c) (show cdA 235 114 = some (.iload 5, 2, 0, 0, 0) from rfl) (List.Mem.tail _ (List.Mem.tail _ (List.Mem.tail _ (List.Mem.tail _ (List.Mem.tail _ (List.Mem.head _)))))) ?_
      refine z_bipush X (show cdA 235 116 = some (.bipush 64, 2, 0, 0, 64) from rfl) ?_
      refine z_load_n X (x := xv) (show cdA 235 118 = some (.iload_n 1, 1, 0, 0, 0) from rfl) (List.Mem.tail _ (List.Mem.head _)) ?_
      refine z_bipush X (show cdA 235 119 = some (.bipush 64, 2, 0, 0, 64) from rfl) ?_
      refine z_quot X (show cdA 235 121 = some (.idiv, 1, 0, 0, 0) from rfl) (by omega) ⟨by omega, by omega⟩ (by omega) ⟨by omega, by omega⟩ ?_
      refine z_mul X (show cdA 235 122 = some (.imul, 1, 0, 0, 0) from rfl) ?_
      refine z_bipush X (show cdA 235 123 = some (.bipush 64, 2, 0, 0, 64) from rfl) ?_
      refine z_add X (show cdA 235 125 = some (.iadd, 1, 0, 0, 0) from rfl) ?_
      refine z_icmp_ge X (t := 214) (show cdA 235 126 = some (.if_icmp .ge 88, 3, 3, 0, 0) from rfl) (by decide) ⟨by omega, by omega⟩ ⟨by omega, by omega⟩ (fun g1002 => ?_) (fun g1002 => ?_)
      ·
        refine WS_lv (lv := [(0, .ref (A 179)), (1, .int (Int32.ofInt xv)), (2, .int (Int32.ofInt yv)), (3, .int (Int32.ofInt zv)), (4, .int (Int32.ofInt nv)), (5, .int (Int32.ofInt c))]) (List.forall_mem_cons.mpr ⟨(List.Mem.head _), (List.forall_mem_cons.mpr ⟨(List.Mem.tail _ (List.Mem.head _)), (List.forall_mem_cons.mpr ⟨(List.Mem.tail _ (List.Mem.tail _ (List.Mem.head _))), (List.forall_mem_cons.mpr ⟨(List.Mem.tail _ (List.Mem.tail _ (List.Mem.tail _ (List.Mem.head _)))), (List.forall_mem_cons.mpr ⟨(List.Mem.tail _ (List.Mem.tail _ (List.Mem.tail _ (List.Mem.tail _ (List.Mem.head _))))), (List.forall_mem_cons.mpr ⟨(List.Mem.tail _ (List.Mem.tail _ (List.Mem.tail _ (List.Mem.tail _ (List.Mem.tail _ (List.Mem.head _)))))), (fun q h => absurd h List.not_mem_nil)⟩)⟩)⟩)⟩)⟩)⟩) ?_
        exact kx _ nv c I F (by omega)
      ·
        refine z_load X (x := c) (show cdA 235 129 = some (.iload 5, 2, 0, 0, 0) from rfl) (List.Mem.tail _ (List.Mem.tail _ (List.Mem.tail _ (List.Mem.tail _ (List.Mem.tail _ (List.Mem.head _)))))) ?_
        refine z_bipush X (show cdA 235 131 = some (.bipush 8, 2, 0, 0, 8) from rfl) ?_
        refine z_mod X (show cdA 235 133 = some (.irem, 1, 0, 0, 0) from rfl) (by omega) ⟨by omega, by omega⟩ (by omega) ⟨by omega, by omega⟩ ?_
        refine z_load_n X (x := xv) (show cdA 235 134 = some (.iload_n 1, 1, 0, 0, 0) from rfl) (List.Mem.tail _ (List.Mem.head _)) ?_
        refine z_bipush X (show cdA 235 135 = some (.bipush 8, 2, 0, 0, 8) from rfl) ?_
        refine z_mod X (show cdA 235 137 = some (.irem, 1, 0, 0, 0) from rfl) (by omega) ⟨by omega, by omega⟩ (by omega) ⟨by omega, by omega⟩ ?_
        refine z_load_n X (x := yv) (show cdA 235 138 = some (.iload_n 2, 1, 0, 0, 0) from rfl) (List.Mem.tail _ (List.Mem.tail _ (List.Mem.head _))) ?_
        refine z_bipush X (show cdA 235 139 = some (.bipush 8, 2, 0, 0, 8) from rfl) ?_
        refine z_mod X (show cdA 235 141 = some (.irem, 1, 0, 0, 0) from rfl) (by omega) ⟨by omega, by omega⟩ (by omega) ⟨by omega, by omega⟩ ?_
        refine z_callS X (rm := rmN 188) (As := [.int (Int32.ofInt (c % 8)), .int (Int32.ofInt (xv % 8)), .int (Int32.ofInt (yv % 8))]) (st := []) (show cdA 235 142 = some (.invokestatic 209, 3, 188, 1, 0) from rfl) rfl (by rw [E.1, E.2.1, E.2.2.1]; exact k_in G I (by omega) (by omega) (by omega)) ⟨by rw [E.2.2.2]; exact (show (rmN 188).frames + 1 ≤ (rmN 235).frames by decide), by rw [E.2.2.2]; exact (show 8 + (mNL (miB 188) + 11) + (rmN 188).locals ≤ (rmN 235).locals by decide), by rw [E.2.2.2]; exact (show 0 + (rmN 188).cells ≤ (rmN 235).cells by decide), by rw [E.2.2.2]; exact (show 0 + (rmN 188).slots ≤ (rmN 235).slots by decide)⟩ (Nat.le_of_ble_eq_true rfl) (fun vv s1003 hq => ?_) (fun ee s1003 hq => ?_)
        rotate_left
        · obtain ⟨Is1003, Fs1003, e1004, hv, hrs1003, hps1003⟩ := hq; cases hv
        obtain ⟨Is1003, Fs1003, e1004, hv, hrs1003, hps1003⟩ := hq
        cases hv
        have Gs1003 := fm_ts F Fs1003 (by decide) (by decide)
        have ws1003_73 : iI s1003 73 = iI t 73 := fm_i Fs1003 (by decide)
        show WS k 145 [(0, .ref (A 179)), (1, .int (Int32.ofInt xv)), (2, .int (Int32.ofInt yv)), (3, .int (Int32.ofInt zv)), (4, .int (Int32.ofInt nv)), (5, .int (Int32.ofInt c))] [.int (Int32.ofInt e1004)] (Wd A dT s1003) 0 0
        refine z_if_eq X (t := 208) (show cdA 235 145 = some (.ifCond .eq 63, 3, 0, 0, 0) from rfl) (by decide) ⟨by omega, by omega⟩ (fun g1005 => ?_) (fun g1005 => ?_)
        ·
          refine z_inc X (x := c) (lv' := [(5, .int (Int32.ofInt (c + 1))), (0, .ref (A 179)), (1, .int (Int32.ofInt xv)), (2, .int (Int32.ofInt yv)), (3, .int (Int32.ofInt zv)), (4, .int (Int32.ofInt nv))]) (show cdA 235 208 = some (.iinc 5 1, 3, 0, 0, 0) from rfl) (by decide) (List.Mem.tail _ (List.Mem.tail _ (List.Mem.tail _ (List.Mem.tail _ (List.Mem.tail _ (List.Mem.head _)))))) (fun _ h => h) ?_
          refine z_goto X (t := 114) (show cdA 235 211 = some (.goto (-97), 3, 0, 0, 0) from rfl) (by decide) ?_
          refine WS_lv (lv := [(0, .ref (A 179)), (1, .int (Int32.ofInt xv)), (2, .int (Int32.ofInt yv)), (3, .int (Int32.ofInt zv)), (4, .int (Int32.ofInt nv)), (5, .int (Int32.ofInt (c + 1)))]) (List.forall_mem_cons.mpr ⟨(List.Mem.tail _ (List.Mem.head _)), (List.forall_mem_cons.mpr ⟨(List.Mem.tail _ (List.Mem.tail _ (List.Mem.head _))), (List.forall_mem_cons.mpr ⟨(List.Mem.tail _ (List.Mem.tail _ (List.Mem.tail _ (List.Mem.head _)))), (List.forall_mem_cons.mpr ⟨(List.Mem.tail _ (List.Mem.tail _ (List.Mem.tail _ (List.Mem.tail _ (List.Mem.head _))))), (List.forall_mem_cons.mpr ⟨(List.Mem.tail _ (List.Mem.tail _ (List.Mem.tail _ (List.Mem.tail _ (List.Mem.tail _ (List.Mem.head _)))))), (List.forall_mem_cons.mpr ⟨(List.Mem.head _), (fun q h => absurd h List.not_mem_nil)⟩)⟩)⟩)⟩)⟩)⟩) ?_
          exact ih _ xv yv zv nv (c + 1) Is1003 Gs1003 (by omega) (by omega) kx
        ·
          refine z_load X (x := c) (show cdA 235 148 = some (.iload 5, 2, 0, 0, 0) from rfl) (List.Mem.tail _ (List.Mem.tail _ (List.Mem.tail _ (List.Mem.tail _ (List.Mem.tail _ (List.Mem.head _)))))) ?_
          refine z_bipush X (show cdA 235 150 = some (.bipush 8, 2, 0, 0, 8) from rfl) ?_
          refine z_quot X (show cdA 235 152 = some (.idiv, 1, 0, 0, 0) from rfl) (by omega) ⟨by omega, by omega⟩ (by omega) ⟨by omega, by omega⟩ ?_
          refine z_bipush X (show cdA 235 153 = some (.bipush 8, 2, 0, 0, 8) from rfl) ?_
          refine z_mod X (show cdA 235 155 = some (.irem, 1, 0, 0, 0) from rfl) (by omega) ⟨by omega, by omega⟩ (by omega) ⟨by omega, by omega⟩ ?_
          refine z_load_n X (x := xv) (show cdA 235 156 = some (.iload_n 1, 1, 0, 0, 0) from rfl) (List.Mem.tail _ (List.Mem.head _)) ?_
          refine z_bipush X (show cdA 235 157 = some (.bipush 8, 2, 0, 0, 8) from rfl) ?_
          refine z_quot X (show cdA 235 159 = some (.idiv, 1, 0, 0, 0) from rfl) (by omega) ⟨by omega, by omega⟩ (by omega) ⟨by omega, by omega⟩ ?_
          refine z_bipush X (show cdA 235 160 = some (.bipush 8, 2, 0, 0, 8) from rfl) ?_
          refine z_mod X (show cdA 235 162 = some (.irem, 1, 0, 0, 0) from rfl) (by omega) ⟨by omega, by omega⟩ (by omega) ⟨by omega, by omega⟩ ?_
          refine z_load_n X (x := yv) (show cdA 235 163 = some (.iload_n 2, 1, 0, 0, 0) from rfl) (List.Mem.tail _ (List.Mem.tail _ (List.Mem.head _))) ?_
          refine z_bipush X (show cdA 235 164 = some (.bipush 8, 2, 0, 0, 8) from rfl) ?_
          refine z_quot X (show cdA 235 166 = some (.idiv, 1, 0, 0, 0) from rfl) (by omega) ⟨by omega, by omega⟩ (by omega) ⟨by omega, by omega⟩ ?_
          refine z_bipush X (show cdA 235 167 = some (.bipush 8, 2, 0, 0, 8) from rfl) ?_
          refine z_mod X (show cdA 235 169 = some (.irem, 1, 0, 0, 0) from rfl) (by omega) ⟨by omega, by omega⟩ (by omega) ⟨by omega, by omega⟩ ?_
          refine z_callS X (rm := rmN 188) (As := [.int (Int32.ofInt ((c / 8) % 8)), .int (Int32.ofInt ((xv / 8) % 8)), .int (Int32.ofInt ((yv / 8) % 8))]) (st := []) (show cdA 235 170 = some (.invokestatic 209, 3, 188, 1, 0) from rfl) rfl (by rw [E.1, E.2.1, E.2.2.1]; exact k_in G Is1003 (by omega) (by omega) (by omega)) ⟨by rw [E.2.2.2]; exact (show (rmN 188).frames + 1 ≤ (rmN 235).frames by decide), by rw [E.2.2.2]; exact (show 8 + (mNL (miB 188) + 11) + (rmN 188).locals ≤ (rmN 235).locals by decide), by rw [E.2.2.2]; exact (show 0 + (rmN 188).cells ≤ (rmN 235).cells by decide), by rw [E.2.2.2]; exact (show 0 + (rmN 188).slots ≤ (rmN 235).slots by decide)⟩ (Nat.le_of_ble_eq_true rfl) (fun vv s1006 hq => ?_) (fun ee s1006 hq => ?_)
          rotate_left
          · obtain ⟨Is1006, Fs1006, e1007, hv, hrs1006, hps1006⟩ := hq; cases hv
          obtain ⟨Is1006, Fs1006, e1007, hv, hrs1006, hps1006⟩ := hq
          cases hv
          have Gs1006 := fm_ts Gs1003 Fs1006 (by decide) (by decide)
          have ws1006_73 : iI s1006 73 = iI s1003 73 := fm_i Fs1006 (by decide)
          show WS k 173 [(0, .ref (A 179)), (1, .int (Int32.ofInt xv)), (2, .int (Int32.ofInt yv)), (3, .int (Int32.ofInt zv)), (4, .int (Int32.ofInt nv)), (5, .int (Int32.ofInt c))] [.int (Int32.ofInt e1007)] (Wd A dT s1006) 0 0
          refine z_if_ne X (t := 179) (show cdA 235 173 = some (.ifCond .ne 6, 3, 1, 0, 0) from rfl) (by decide) ⟨by omega, by omega⟩ (fun g1008 => ?_) (fun g1008 => ?_)
          ·
            refine z_load X (x := nv) (show cdA 235 179 = some (.iload 4, 2, 0, 0, 0) from rfl) (List.Mem.tail _ (List.Mem.tail _ (List.Mem.tail _ (List.Mem.tail _ (List.Mem.head _))))) ?_
            refine z_aload_n X (x := A 179) (show cdA 235 181 = some (.aload_n 0, 1, 0, 0, 0) from rfl) (List.Mem.head _) ?_
            refine s_getR X 179 (show cdA 235 182 = some (.getfield 70, 3, 12, 35, 0) from rfl) (by decide) rfl rfl ?_
            refine z_load X (x := c) (show cdA 235 185 = some (.iload 5, 2, 0, 0, 0) from rfl) (List.Mem.tail _ (List.Mem.tail _ (List.Mem.tail _ (List.Mem.tail _ (List.Mem.tail _ (List.Mem.head _)))))) ?_
            refine z_ald X 256 (show cdA 235 187 = some (.iaload, 1, 0, 0, 0) from rfl) (by decide) rfl (by omega) (show c < 128 by omega) (by decide) ?_
            have b1009 : ((-1) : Int) ≤ iC s1006 228 (c).toNat ∧ iC s1006 228 (c).toNat ≤ 7 := Is1006.2 228 _ (show (c).toNat < 128 by omega)
            refine z_load_n X (x := zv) (show cdA 235 188 = some (.iload_n 3, 1, 0, 0, 0) from rfl) (List.Mem.tail _ (List.Mem.tail _ (List.Mem.tail _ (List.Mem.head _)))) ?_
            refine z_icmp_ne X (t := 196) (show cdA 235 189 = some (.if_icmp .ne 7, 3, 1, 0, 0) from rfl) (by decide) ⟨by omega, by omega⟩ ⟨by omega, by omega⟩ (fun g1010 => ?_) (fun g1010 => ?_)
            ·
              refine z_const X (show cdA 235 196 = some (.iconst 1, 1, 0, 0, 0) from rfl) ?_
              refine z_add X (show cdA 235 197 = some (.iadd, 1, 0, 0, 0) from rfl) ?_
              refine z_store X (lv' := [(4, .int (Int32.ofInt (nv + 1))), (0, .ref (A 179)), (1, .int (Int32.ofInt xv)), (2, .int (Int32.ofInt yv)), (3, .int (Int32.ofInt zv)), (5, .int (Int32.ofInt c))]) (show cdA 235 198 = some (.istore 4, 2, 0, 0, 0) from rfl) (by decide) (fun _ h => h) ?_
              refine z_aload_n X (x := A 179) (show cdA 235 200 = some (.aload_n 0, 1, 0, 0, 0) from rfl) (List.Mem.tail _ (List.Mem.head _)) ?_
              refine s_getR X 179 (show cdA 235 201 = some (.getfield 70, 3, 12, 35, 0) from rfl) (by decide) rfl rfl ?_
              refine z_load X (x := c) (show cdA 235 204 = some (.iload 5, 2, 0, 0, 0) from rfl) (List.Mem.tail _ (List.Mem.tail _ (List.Mem.tail _ (List.Mem.tail _ (List.Mem.tail _ (List.Mem.head _)))))) ?_
              refine z_load_n X (x := zv) (show cdA 235 206 = some (.iload_n 3, 1, 0, 0, 0) from rfl) (List.Mem.tail _ (List.Mem.tail _ (List.Mem.tail _ (List.Mem.tail _ (List.Mem.head _))))) ?_
              refine z_ast X 256 (show cdA 235 207 = some (.iastore, 1, 0, 0, 0) from rfl) (by decide) rfl (by omega) (show c < 128 by omega) (by decide) ?_
              obtain ⟨s1011, hs1011⟩ : ∃ x0, x0 = uC s1006 228 (c).toNat (Int32.ofInt zv) := ⟨_, rfl⟩
              rw [← hs1011]
              have Is1011 : Bd s1011 := by rw [hs1011]; exact bd_C Is1006 (show ((-1) : Int) ≤ zv ∧ zv ≤ 7 by omega) ⟨by omega, by omega⟩
              have Fs1011 := fm_C (i := (c).toNat) (x := Int32.ofInt zv) Gs1006 (show 228 ∈ _ by decide)
              rw [← hs1011] at Fs1011
              have ws1011_73 : iI s1011 73 = iI s1006 73 := by rw [hs1011]; rfl
              refine z_inc X (x := c) (lv' := [(5, .int (Int32.ofInt (c + 1))), (4, .int (Int32.ofInt (nv + 1))), (0, .ref (A 179)), (1, .int (Int32.ofInt xv)), (2, .int (Int32.ofInt yv)), (3, .int (Int32.ofInt zv))]) (show cdA 235 208 = some (.iinc 5 1, 3, 0, 0, 0) from rfl) (by decide) (List.Mem.tail _ (List.Mem.tail _ (List.Mem.tail _ (List.Mem.tail _ (List.Mem.tail _ (List.Mem.head _)))))) (fun _ h => h) ?_
              refine z_goto X (t := 114) (show cdA 235 211 = some (.goto (-97), 3, 0, 0, 0) from rfl) (by decide) ?_
              refine WS_lv (lv := [(0, .ref (A 179)), (1, .int (Int32.ofInt xv)), (2, .int (Int32.ofInt yv)), (3, .int (Int32.ofInt zv)), (4, .int (Int32.ofInt (nv + 1))), (5, .int (Int32.ofInt (c + 1)))]) (List.forall_mem_cons.mpr ⟨(List.Mem.tail _ (List.Mem.tail _ (List.Mem.head _))), (List.forall_mem_cons.mpr ⟨(List.Mem.tail _ (List.Mem.tail _ (List.Mem.tail _ (List.Mem.head _)))), (List.forall_mem_cons.mpr ⟨(List.Mem.tail _ (List.Mem.tail _ (List.Mem.tail _ (List.Mem.tail _ (List.Mem.head _))))), (List.forall_mem_cons.mpr ⟨(List.Mem.tail _ (List.Mem.tail _ (List.Mem.tail _ (List.Mem.tail _ (List.Mem.tail _ (List.Mem.head _)))))), (List.forall_mem_cons.mpr ⟨(List.Mem.tail _ (List.Mem.head _)), (List.forall_mem_cons.mpr ⟨(List.Mem.head _), (fun q h => absurd h List.not_mem_nil)⟩)⟩)⟩)⟩)⟩)⟩) ?_
              exact ih _ xv yv zv (nv + 1) (c + 1) Is1011 Fs1011 (by omega) (by omega) kx
            ·
              refine z_const X (show cdA 235 192 = some (.iconst 0, 1, 0, 0, 0) from rfl) ?_
              refine z_goto X (t := 197) (show cdA 235 193 = some (.goto 4, 3, 0, 0, 0) from rfl) (by decide) ?_
              refine z_add X (show cdA 235 197 = some (.iadd, 1, 0, 0, 0) from rfl) ?_
              refine z_store X (lv' := [(4, .int (Int32.ofInt (nv + 0))), (0, .ref (A 179)), (1, .int (Int32.ofInt xv)), (2, .int (Int32.ofInt yv)), (3, .int (Int32.ofInt zv)), (5, .int (Int32.ofInt c))]) (show cdA 235 198 = some (.istore 4, 2, 0, 0, 0) from rfl) (by decide) (fun _ h => h) ?_
              refine z_aload_n X (x := A 179) (show cdA 235 200 = some (.aload_n 0, 1, 0, 0, 0) from rfl) (List.Mem.tail _ (List.Mem.head _)) ?_
              refine s_getR X 179 (show cdA 235 201 = some (.getfield 70, 3, 12, 35, 0) from rfl) (by decide) rfl rfl ?_
              refine z_load X (x := c) (show cdA 235 204 = some (.iload 5, 2, 0, 0, 0) from rfl) (List.Mem.tail _ (List.Mem.tail _ (List.Mem.tail _ (List.Mem.tail _ (List.Mem.tail _ (List.Mem.head _)))))) ?_
              refine z_load_n X (x := zv) (show cdA 235 206 = some (.iload_n 3, 1, 0, 0, 0) from rfl) (List.Mem.tail _ (List.Mem.tail _ (List.Mem.tail _ (List.Mem.tail _ (List.Mem.head _))))) ?_
              refine z_ast X 256 (show cdA 235 207 = some (.iastore, 1, 0, 0, 0) from rfl) (by decide) rfl (by omega) (show c < 128 by omega) (by decide) ?_
              obtain ⟨s1012, hs1012⟩ : ∃ x0, x0 = uC s1006 228 (c).toNat (Int32.ofInt zv) := ⟨_, rfl⟩
              rw [← hs1012]
              have Is1012 : Bd s1012 := by rw [hs1012]; exact bd_C Is1006 (show ((-1) : Int) ≤ zv ∧ zv ≤ 7 by omega) ⟨by omega, by omega⟩
              have Fs1012 := fm_C (i := (c).toNat) (x := Int32.ofInt zv) Gs1006 (show 228 ∈ _ by decide)
              rw [← hs1012] at Fs1012
              have ws1012_73 : iI s1012 73 = iI s1006 73 := by rw [hs1012]; rfl
              refine z_inc X (x := c) (lv' := [(5, .int (Int32.ofInt (c + 1))), (4, .int (Int32.ofInt (nv + 0))), (0, .ref (A 179)), (1, .int (Int32.ofInt xv)), (2, .int (Int32.ofInt yv)), (3, .int (Int32.ofInt zv))]) (show cdA 235 208 = some (.iinc 5 1, 3, 0, 0, 0) from rfl) (by decide) (List.Mem.tail _ (List.Mem.tail _ (List.Mem.tail _ (List.Mem.tail _ (List.Mem.tail _ (List.Mem.head _)))))) (fun _ h => h) ?_
              refine z_goto X (t := 114) (show cdA 235 211 = some (.goto (-97), 3, 0, 0, 0) from rfl) (by decide) ?_
              refine WS_lv (lv := [(0, .ref (A 179)), (1, .int (Int32.ofInt xv)), (2, .int (Int32.ofInt yv)), (3, .int (Int32.ofInt zv)), (4, .int (Int32.ofInt (nv + 0))), (5, .int (Int32.ofInt (c + 1)))]) (List.forall_mem_cons.mpr ⟨(List.Mem.tail _ (List.Mem.tail _ (List.Mem.head _))), (List.forall_mem_cons.mpr ⟨(List.Mem.tail _ (List.Mem.tail _ (List.Mem.tail _ (List.Mem.head _)))), (List.forall_mem_cons.mpr ⟨(List.Mem.tail _ (List.Mem.tail _ (List.Mem.tail _ (List.Mem.tail _ (List.Mem.head _))))), (List.forall_mem_cons.mpr ⟨(List.Mem.tail _ (List.Mem.tail _ (List.Mem.tail _ (List.Mem.tail _ (List.Mem.tail _ (List.Mem.head _)))))), (List.forall_mem_cons.mpr ⟨(List.Mem.tail _ (List.Mem.head _)), (List.forall_mem_cons.mpr ⟨(List.Mem.head _), (fun q h => absurd h List.not_mem_nil)⟩)⟩)⟩)⟩)⟩)⟩) ?_
              exact ih _ xv yv zv (nv + 0) (c + 1) Is1012 Fs1012 (by omega) (by omega) kx
          ·
            refine z_goto X (t := 208) (show cdA 235 176 = some (.goto 32, 3, 0, 0, 0) from rfl) (by decide) ?_
            refine z_inc X (x := c) (lv' := [(5, .int (Int32.ofInt (c + 1))), (0, .ref (A 179)), (1, .int (Int32.ofInt xv)), (2, .int (Int32.ofInt yv)), (3, .int (Int32.ofInt zv)), (4, .int (Int32.ofInt nv))]) (show cdA 235 208 = some (.iinc 5 1, 3, 0, 0, 0) from rfl) (by decide) (List.Mem.tail _ (List.Mem.tail _ (List.Mem.tail _ (List.Mem.tail _ (List.Mem.tail _ (List.Mem.head _)))))) (fun _ h => h) ?_
            refine z_goto X (t := 114) (show cdA 235 211 = some (.goto (-97), 3, 0, 0, 0) from rfl) (by decide) ?_
            refine WS_lv (lv := [(0, .ref (A 179)), (1, .int (Int32.ofInt xv)), (2, .int (Int32.ofInt yv)), (3, .int (Int32.ofInt zv)), (4, .int (Int32.ofInt nv)), (5, .int (Int32.ofInt (c + 1)))]) (List.forall_mem_cons.mpr ⟨(List.Mem.tail _ (List.Mem.head _)), (List.forall_mem_cons.mpr ⟨(List.Mem.tail _ (List.Mem.tail _ (List.Mem.head _))), (List.forall_mem_cons.mpr ⟨(List.Mem.tail _ (List.Mem.tail _ (List.Mem.tail _ (List.Mem.head _)))), (List.forall_mem_cons.mpr ⟨(List.Mem.tail _ (List.Mem.tail _ (List.Mem.tail _ (List.Mem.tail _ (List.Mem.head _))))), (List.forall_mem_cons.mpr ⟨(List.Mem.tail _ (List.Mem.tail _ (List.Mem.tail _ (List.Mem.tail _ (List.Mem.tail _ (List.Mem.head _)))))), (List.forall_mem_cons.mpr ⟨(List.Mem.head _), (fun q h => absurd h List.not_mem_nil)⟩)⟩)⟩)⟩)⟩)⟩) ?_
            exact ih _ xv yv zv nv (c + 1) Is1006 Gs1006 (by omega) (by omega) kx
  refine z_aload_n X (x := A 179) (show cdA 235 0 = some (.aload_n 0, 1, 0, 0, 0) from rfl) (List.Mem.head _) ?_
  refine z_const X (show cdA 235 1 = some (.iconst 0, 1, 0, 0, 0) from rfl) ?_
  refine s_putI X 179 (show cdA 235 2 = some (.putfield 172, 3, 12, 0, 0) from rfl) (by decide) rfl rfl (by decide) rfl rfl rfl ?_
  obtain ⟨s2, hs2⟩ : ∃ x0, x0 = uI s 73 (Int32.ofInt 0) := ⟨_, rfl⟩
  rw [← hs2]
  have Is2 : Bd s2 := by rw [hs2]; exact bd_I I (show (0 : Int) ≤ 0 ∧ 0 ≤ 3 by omega) ⟨by omega, by omega⟩
  have Fs2 := fm_I (x := Int32.ofInt 0) F (show 73 ∈ _ by decide)
  rw [← hs2] at Fs2
  have vs2 : iI s2 73 = 0 := by rw [hs2]; exact iI_u ⟨by omega, by omega⟩
  refine z_aload_n X (x := A 179) (show cdA 235 5 = some (.aload_n 0, 1, 0, 0, 0) from rfl) (List.Mem.head _) ?_
  refine z_load_n X (x := x) (show cdA 235 6 = some (.iload_n 1, 1, 0, 0, 0) from rfl) (List.Mem.tail _ (List.Mem.head _)) ?_
  refine z_const X (show cdA 235 7 = some (.iconst 0, 1, 0, 0, 0) from rfl) ?_
  refine z_bipush X (show cdA 235 8 = some (.bipush 127, 2, 0, 0, 127) from rfl) ?_
  refine z_callS X (rm := rmN 188) (As := [.int (Int32.ofInt x), .int (Int32.ofInt 0), .int (Int32.ofInt 127)]) (st := [.ref (A 179)]) (show cdA 235 10 = some (.invokestatic 209, 3, 188, 1, 0) from rfl) rfl (by rw [E.1, E.2.1, E.2.2.1]; exact k_in G Is2 (by omega) (by omega) (by omega)) ⟨by rw [E.2.2.2]; exact (show (rmN 188).frames + 1 ≤ (rmN 235).frames by decide), by rw [E.2.2.2]; exact (show 8 + (mNL (miB 188) + 11) + (rmN 188).locals ≤ (rmN 235).locals by decide), by rw [E.2.2.2]; exact (show 0 + (rmN 188).cells ≤ (rmN 235).cells by decide), by rw [E.2.2.2]; exact (show 0 + (rmN 188).slots ≤ (rmN 235).slots by decide)⟩ (Nat.le_of_ble_eq_true rfl) (fun vv s3 hq => ?_) (fun ee s3 hq => ?_)
  rotate_left
  · obtain ⟨Is3, Fs3, e4, hv, hrs3, hps3⟩ := hq; cases hv
  obtain ⟨Is3, Fs3, e4, hv, hrs3, hps3⟩ := hq
  cases hv
  have Gs3 := fm_ts Fs2 Fs3 (by decide) (by decide)
  have ws3_73 : iI s3 73 = iI s2 73 := fm_i Fs3 (by decide)
  show WS k 13 [(0, .ref (A 179)), (1, .int (Int32.ofInt x)), (2, .int (Int32.ofInt y)), (3, .int (Int32.ofInt z))] [.int (Int32.ofInt e4), .ref (A 179)] (Wd A dT s3) 0 0
  refine z_if_eq X (t := 26) (show cdA 235 13 = some (.ifCond .eq 13, 3, 0, 0, 0) from rfl) (by decide) ⟨by omega, by omega⟩ (fun g5 => ?_) (fun g5 => ?_)
  ·
    refine z_const X (show cdA 235 26 = some (.iconst 1, 1, 0, 0, 0) from rfl) ?_
    refine z_goto X (t := 31) (show cdA 235 27 = some (.goto 4, 3, 0, 0, 0) from rfl) (by decide) ?_
    refine z_const X (show cdA 235 31 = some (.iconst 1, 1, 0, 0, 0) from rfl) ?_
    refine z_callV X 179 (rm := rmN 187) (As := [.int (Int32.ofInt 1), .int (Int32.ofInt 1)]) (st := []) (show cdA 235 32 = some (.invokevirtual 229, 3, 187, 0, 0) from rfl) rfl (by decide) rfl (by rw [E.1, E.2.1, E.2.2.1]; exact k_bad G Is3 (by omega) (by omega)) ⟨by rw [E.2.2.2]; exact (show (rmN 187).frames + 1 ≤ (rmN 235).frames by decide), by rw [E.2.2.2]; exact (show 8 + (mNL (miB 187) + 11) + (rmN 187).locals ≤ (rmN 235).locals by decide), by rw [E.2.2.2]; exact (show 0 + (rmN 187).cells ≤ (rmN 235).cells by decide), by rw [E.2.2.2]; exact (show 0 + (rmN 187).slots ≤ (rmN 235).slots by decide)⟩ (Nat.le_of_ble_eq_true rfl) (fun vv s6 hq => ?_) (fun ee s6 hq => ?_)
    rotate_left
    · obtain ⟨Is6, Fs6, e7, hv, hrs6, hps6⟩ := hq; cases hv
    obtain ⟨Is6, Fs6, e7, hv, hrs6, hps6⟩ := hq
    cases hv
    have Gs6 := fm_ts Gs3 Fs6 (by decide) (by decide)
    have b8 : (0 : Int) ≤ iI s6 73 ∧ iI s6 73 ≤ 3 := Is6.1 73
    show WS k 35 [(0, .ref (A 179)), (1, .int (Int32.ofInt x)), (2, .int (Int32.ofInt y)), (3, .int (Int32.ofInt z))] [.int (Int32.ofInt e7)] (Wd A dT s6) 0 0
    refine z_if_ne X (t := 100) (show cdA 235 35 = some (.ifCond .ne 65, 3, 1, 0, 0) from rfl) (by decide) ⟨by omega, by omega⟩ (fun g9 => ?_) (fun g9 => ?_)
    ·
      refine z_const X (show cdA 235 100 = some (.iconst 0, 1, 0, 0, 0) from rfl) ?_
      exact w_iret X.1 q hRt rfl (ax_d X (show cdA 235 101 = some (.ireturn, 1, 0, 0, 0) from rfl)) (Nat.zero_le _) (Nat.zero_le _) ⟨_, rfl, Is6, Gs6, 0, rfl, ⟨by omega, by omega⟩, trivial⟩
    ·
      refine z_aload_n X (x := A 179) (show cdA 235 38 = some (.aload_n 0, 1, 0, 0, 0) from rfl) (List.Mem.head _) ?_
      refine z_load_n X (x := z) (show cdA 235 39 = some (.iload_n 3, 1, 0, 0, 0) from rfl) (List.Mem.tail _ (List.Mem.tail _ (List.Mem.tail _ (List.Mem.head _)))) ?_
      refine z_const X (show cdA 235 40 = some (.iconst (-1), 1, 0, 0, 0) from rfl) ?_
      refine z_bipush X (show cdA 235 41 = some (.bipush 7, 2, 0, 0, 7) from rfl) ?_
      refine z_callS X (rm := rmN 188) (As := [.int (Int32.ofInt z), .int (Int32.ofInt (-1)), .int (Int32.ofInt 7)]) (st := [.ref (A 179)]) (show cdA 235 43 = some (.invokestatic 209, 3, 188, 1, 0) from rfl) rfl (by rw [E.1, E.2.1, E.2.2.1]; exact k_in G Is6 (by omega) (by omega) (by omega)) ⟨by rw [E.2.2.2]; exact (show (rmN 188).frames + 1 ≤ (rmN 235).frames by decide), by rw [E.2.2.2]; exact (show 8 + (mNL (miB 188) + 11) + (rmN 188).locals ≤ (rmN 235).locals by decide), by rw [E.2.2.2]; exact (show 0 + (rmN 188).cells ≤ (rmN 235).cells by decide), by rw [E.2.2.2]; exact (show 0 + (rmN 188).slots ≤ (rmN 235).slots by decide)⟩ (Nat.le_of_ble_eq_true rfl) (fun vv s10 hq => ?_) (fun ee s10 hq => ?_)
      rotate_left
      · obtain ⟨Is10, Fs10, e11, hv, hrs10, hps10⟩ := hq; cases hv
      obtain ⟨Is10, Fs10, e11, hv, hrs10, hps10⟩ := hq
      cases hv
      have Gs10 := fm_ts Gs6 Fs10 (by decide) (by decide)
      have ws10_73 : iI s10 73 = iI s6 73 := fm_i Fs10 (by decide)
      show WS k 46 [(0, .ref (A 179)), (1, .int (Int32.ofInt x)), (2, .int (Int32.ofInt y)), (3, .int (Int32.ofInt z))] [.int (Int32.ofInt e11), .ref (A 179)] (Wd A dT s10) 0 0
      refine z_if_eq X (t := 88) (show cdA 235 46 = some (.ifCond .eq 42, 3, 0, 0, 0) from rfl) (by decide) ⟨by omega, by omega⟩ (fun g12 => ?_) (fun g12 => ?_)
      ·
        refine z_const X (show cdA 235 88 = some (.iconst 1, 1, 0, 0, 0) from rfl) ?_
        refine z_goto X (t := 93) (show cdA 235 89 = some (.goto 4, 3, 0, 0, 0) from rfl) (by decide) ?_
        refine z_const X (show cdA 235 93 = some (.iconst 2, 1, 0, 0, 0) from rfl) ?_
        refine z_callV X 179 (rm := rmN 187) (As := [.int (Int32.ofInt 1), .int (Int32.ofInt 2)]) (st := []) (show cdA 235 94 = some (.invokevirtual 229, 3, 187, 0, 0) from rfl) rfl (by decide) rfl (by rw [E.1, E.2.1, E.2.2.1]; exact k_bad G Is10 (by omega) (by omega)) ⟨by rw [E.2.2.2]; exact (show (rmN 187).frames + 1 ≤ (rmN 235).frames by decide), by rw [E.2.2.2]; exact (show 8 + (mNL (miB 187) + 11) + (rmN 187).locals ≤ (rmN 235).locals by decide), by rw [E.2.2.2]; exact (show 0 + (rmN 187).cells ≤ (rmN 235).cells by decide), by rw [E.2.2.2]; exact (show 0 + (rmN 187).slots ≤ (rmN 235).slots by decide)⟩ (Nat.le_of_ble_eq_true rfl) (fun vv s13 hq => ?_) (fun ee s13 hq => ?_)
        rotate_left
        · obtain ⟨Is13, Fs13, e14, hv, hrs13, hps13⟩ := hq; cases hv
        obtain ⟨Is13, Fs13, e14, hv, hrs13, hps13⟩ := hq
        cases hv
        have Gs13 := fm_ts Gs10 Fs13 (by decide) (by decide)
        have b15 : (0 : Int) ≤ iI s13 73 ∧ iI s13 73 ≤ 3 := Is13.1 73
        show WS k 97 [(0, .ref (A 179)), (1, .int (Int32.ofInt x)), (2, .int (Int32.ofInt y)), (3, .int (Int32.ofInt z))] [.int (Int32.ofInt e14)] (Wd A dT s13) 0 0
        refine z_if_eq X (t := 102) (show cdA 235 97 = some (.ifCond .eq 5, 3, 0, 0, 0) from rfl) (by decide) ⟨by omega, by omega⟩ (fun g16 => ?_) (fun g16 => ?_)
        ·
          refine z_const X (show cdA 235 102 = some (.iconst 0, 1, 0, 0, 0) from rfl) ?_
          refine z_store X (lv' := [(4, .int (Int32.ofInt 0)), (0, .ref (A 179)), (1, .int (Int32.ofInt x)), (2, .int (Int32.ofInt y)), (3, .int (Int32.ofInt z))]) (show cdA 235 103 = some (.istore 4, 2, 0, 0, 0) from rfl) (by decide) (fun _ h => h) ?_
          refine z_bipush X (show cdA 235 105 = some (.bipush 64, 2, 0, 0, 64) from rfl) ?_
          refine z_load_n X (x := x) (show cdA 235 107 = some (.iload_n 1, 1, 0, 0, 0) from rfl) (List.Mem.tail _ (List.Mem.tail _ (List.Mem.head _))) ?_
          refine z_bipush X (show cdA 235 108 = some (.bipush 64, 2, 0, 0, 64) from rfl) ?_
          refine z_quot X (show cdA 235 110 = some (.idiv, 1, 0, 0, 0) from rfl) (by omega) ⟨by omega, by omega⟩ (by omega) ⟨by omega, by omega⟩ ?_
          refine z_mul X (show cdA 235 111 = some (.imul, 1, 0, 0, 0) from rfl) ?_
          refine z_store X (lv' := [(5, .int (Int32.ofInt (64 * (x / 64)))), (4, .int (Int32.ofInt 0)), (0, .ref (A 179)), (1, .int (Int32.ofInt x)), (2, .int (Int32.ofInt y)), (3, .int (Int32.ofInt z))]) (show cdA 235 112 = some (.istore 5, 2, 0, 0, 0) from rfl) (by decide) (fun _ h => h) ?_
          refine WS_lv (lv := [(0, .ref (A 179)), (1, .int (Int32.ofInt x)), (2, .int (Int32.ofInt y)), (3, .int (Int32.ofInt z)), (4, .int (Int32.ofInt 0)), (5, .int (Int32.ofInt (64 * (x / 64))))]) (List.forall_mem_cons.mpr ⟨(List.Mem.tail _ (List.Mem.tail _ (List.Mem.head _))), (List.forall_mem_cons.mpr ⟨(List.Mem.tail _ (List.Mem.tail _ (List.Mem.tail _ (List.Mem.head _)))), (List.forall_mem_cons.mpr ⟨(List.Mem.tail _ (List.Mem.tail _ (List.Mem.tail _ (List.Mem.tail _ (List.Mem.head _))))), (List.forall_mem_cons.mpr ⟨(List.Mem.tail _ (List.Mem.tail _ (List.Mem.tail _ (List.Mem.tail _ (List.Mem.tail _ (List.Mem.head _)))))), (List.forall_mem_cons.mpr ⟨(List.Mem.tail _ (List.Mem.head _)), (List.forall_mem_cons.mpr ⟨(List.Mem.head _), (fun q h => absurd h List.not_mem_nil)⟩)⟩)⟩)⟩)⟩)⟩) ?_
          refine L114 ((64 * (x / 64) + 64 - (64 * (x / 64)) : Int)).toNat s13 x y z 0 (64 * (x / 64)) Is13 Gs13 (by omega) (by omega) ?_
          intro s17 x18 x19 Is17 Fs17 hs17
          have b20 : (0 : Int) ≤ iI s17 73 ∧ iI s17 73 ≤ 3 := Is17.1 73
          refine z_load X (x := x18) (show cdA 235 214 = some (.iload 4, 2, 0, 0, 0) from rfl) (List.Mem.tail _ (List.Mem.tail _ (List.Mem.tail _ (List.Mem.tail _ (List.Mem.head _))))) ?_
          exact w_iret X.1 q hRt rfl (ax_d X (show cdA 235 216 = some (.ireturn, 1, 0, 0, 0) from rfl)) (Nat.zero_le _) (Nat.zero_le _) ⟨_, rfl, Is17, Fs17, x18, rfl, ⟨by omega, by omega⟩, trivial⟩
        ·
          refine z_const X (show cdA 235 100 = some (.iconst 0, 1, 0, 0, 0) from rfl) ?_
          exact w_iret X.1 q hRt rfl (ax_d X (show cdA 235 101 = some (.ireturn, 1, 0, 0, 0) from rfl)) (Nat.zero_le _) (Nat.zero_le _) ⟨_, rfl, Is13, Gs13, 0, rfl, ⟨by omega, by omega⟩, trivial⟩
      ·
        refine z_load_n X (x := x) (show cdA 235 49 = some (.iload_n 1, 1, 0, 0, 0) from rfl) (List.Mem.tail _ (List.Mem.head _)) ?_
        refine z_bipush X (show cdA 235 50 = some (.bipush 64, 2, 0, 0, 64) from rfl) ?_
        refine z_quot X (show cdA 235 52 = some (.idiv, 1, 0, 0, 0) from rfl) (by omega) ⟨by omega, by omega⟩ (by omega) ⟨by omega, by omega⟩ ?_
        refine z_load_n X (x := y) (show cdA 235 53 = some (.iload_n 2, 1, 0, 0, 0) from rfl) (List.Mem.tail _ (List.Mem.tail _ (List.Mem.head _))) ?_
        refine z_bipush X (show cdA 235 54 = some (.bipush 64, 2, 0, 0, 64) from rfl) ?_
        refine z_quot X (show cdA 235 56 = some (.idiv, 1, 0, 0, 0) from rfl) (by omega) ⟨by omega, by omega⟩ (by omega) ⟨by omega, by omega⟩ ?_
        refine z_icmp_ne X (t := 88) (show cdA 235 57 = some (.if_icmp .ne 31, 3, 1, 0, 0) from rfl) (by decide) ⟨by omega, by omega⟩ ⟨by omega, by omega⟩ (fun g21 => ?_) (fun g21 => ?_)
        ·
          refine z_const X (show cdA 235 88 = some (.iconst 1, 1, 0, 0, 0) from rfl) ?_
          refine z_goto X (t := 93) (show cdA 235 89 = some (.goto 4, 3, 0, 0, 0) from rfl) (by decide) ?_
          refine z_const X (show cdA 235 93 = some (.iconst 2, 1, 0, 0, 0) from rfl) ?_
          refine z_callV X 179 (rm := rmN 187) (As := [.int (Int32.ofInt 1), .int (Int32.ofInt 2)]) (st := []) (show cdA 235 94 = some (.invokevirtual 229, 3, 187, 0, 0) from rfl) rfl (by decide) rfl (by rw [E.1, E.2.1, E.2.2.1]; exact k_bad G Is10 (by omega) (by omega)) ⟨by rw [E.2.2.2]; exact (show (rmN 187).frames + 1 ≤ (rmN 235).frames by decide), by rw [E.2.2.2]; exact (show 8 + (mNL (miB 187) + 11) + (rmN 187).locals ≤ (rmN 235).locals by decide), by rw [E.2.2.2]; exact (show 0 + (rmN 187).cells ≤ (rmN 235).cells by decide), by rw [E.2.2.2]; exact (show 0 + (rmN 187).slots ≤ (rmN 235).slots by decide)⟩ (Nat.le_of_ble_eq_true rfl) (fun vv s22 hq => ?_) (fun ee s22 hq => ?_)
          rotate_left
          · obtain ⟨Is22, Fs22, e23, hv, hrs22, hps22⟩ := hq; cases hv
          obtain ⟨Is22, Fs22, e23, hv, hrs22, hps22⟩ := hq
          cases hv
          have Gs22 := fm_ts Gs10 Fs22 (by decide) (by decide)
          have b24 : (0 : Int) ≤ iI s22 73 ∧ iI s22 73 ≤ 3 := Is22.1 73
          show WS k 97 [(0, .ref (A 179)), (1, .int (Int32.ofInt x)), (2, .int (Int32.ofInt y)), (3, .int (Int32.ofInt z))] [.int (Int32.ofInt e23)] (Wd A dT s22) 0 0
          refine z_if_eq X (t := 102) (show cdA 235 97 = some (.ifCond .eq 5, 3, 0, 0, 0) from rfl) (by decide) ⟨by omega, by omega⟩ (fun g25 => ?_) (fun g25 => ?_)
          ·
            refine z_const X (show cdA 235 102 = some (.iconst 0, 1, 0, 0, 0) from rfl) ?_
            refine z_store X (lv' := [(4, .int (Int32.ofInt 0)), (0, .ref (A 179)), (1, .int (Int32.ofInt x)), (2, .int (Int32.ofInt y)), (3, .int (Int32.ofInt z))]) (show cdA 235 103 = some (.istore 4, 2, 0, 0, 0) from rfl) (by decide) (fun _ h => h) ?_
            refine z_bipush X (show cdA 235 105 = some (.bipush 64, 2, 0, 0, 64) from rfl) ?_
            refine z_load_n X (x := x) (show cdA 235 107 = some (.iload_n 1, 1, 0, 0, 0) from rfl) (List.Mem.tail _ (List.Mem.tail _ (List.Mem.head _))) ?_
            refine z_bipush X (show cdA 235 108 = some (.bipush 64, 2, 0, 0, 64) from rfl) ?_
            refine z_quot X (show cdA 235 110 = some (.idiv, 1, 0, 0, 0) from rfl) (by omega) ⟨by omega, by omega⟩ (by omega) ⟨by omega, by omega⟩ ?_
            refine z_mul X (show cdA 235 111 = some (.imul, 1, 0, 0, 0) from rfl) ?_
            refine z_store X (lv' := [(5, .int (Int32.ofInt (64 * (x / 64)))), (4, .int (Int32.ofInt 0)), (0, .ref (A 179)), (1, .int (Int32.ofInt x)), (2, .int (Int32.ofInt y)), (3, .int (Int32.ofInt z))]) (show cdA 235 112 = some (.istore 5, 2, 0, 0, 0) from rfl) (by decide) (fun _ h => h) ?_
            refine WS_lv (lv := [(0, .ref (A 179)), (1, .int (Int32.ofInt x)), (2, .int (Int32.ofInt y)), (3, .int (Int32.ofInt z)), (4, .int (Int32.ofInt 0)), (5, .int (Int32.ofInt (64 * (x / 64))))]) (List.forall_mem_cons.mpr ⟨(List.Mem.tail _ (List.Mem.tail _ (List.Mem.head _))), (List.forall_mem_cons.mpr ⟨(List.Mem.tail _ (List.Mem.tail _ (List.Mem.tail _ (List.Mem.head _)))), (List.forall_mem_cons.mpr ⟨(List.Mem.tail _ (List.Mem.tail _ (List.Mem.tail _ (List.Mem.tail _ (List.Mem.head _))))), (List.forall_mem_cons.mpr ⟨(List.Mem.tail _ (List.Mem.tail _ (List.Mem.tail _ (List.Mem.tail _ (List.Mem.tail _ (List.Mem.head _)))))), (List.forall_mem_cons.mpr ⟨(List.Mem.tail _ (List.Mem.head _)), (List.forall_mem_cons.mpr ⟨(List.Mem.head _), (fun q h => absurd h List.not_mem_nil)⟩)⟩)⟩)⟩)⟩)⟩) ?_
            refine L114 ((64 * (x / 64) + 64 - (64 * (x / 64)) : Int)).toNat s22 x y z 0 (64 * (x / 64)) Is22 Gs22 (by omega) (by omega) ?_
            intro s26 x27 x28 Is26 Fs26 hs26
            have b29 : (0 : Int) ≤ iI s26 73 ∧ iI s26 73 ≤ 3 := Is26.1 73
            refine z_load X (x := x27) (show cdA 235 214 = some (.iload 4, 2, 0, 0, 0) from rfl) (List.Mem.tail _ (List.Mem.tail _ (List.Mem.tail _ (List.Mem.tail _ (List.Mem.head _))))) ?_
            exact w_iret X.1 q hRt rfl (ax_d X (show cdA 235 216 = some (.ireturn, 1, 0, 0, 0) from rfl)) (Nat.zero_le _) (Nat.zero_le _) ⟨_, rfl, Is26, Fs26, x27, rfl, ⟨by omega, by omega⟩, trivial⟩
          ·
            refine z_const X (show cdA 235 100 = some (.iconst 0, 1, 0, 0, 0) from rfl) ?_
            exact w_iret X.1 q hRt rfl (ax_d X (show cdA 235 101 = some (.ireturn, 1, 0, 0, 0) from rfl)) (Nat.zero_le _) (Nat.zero_le _) ⟨_, rfl, Is22, Gs22, 0, rfl, ⟨by omega, by omega⟩, trivial⟩
        ·
          refine z_load_n X (x := x) (show cdA 235 60 = some (.iload_n 1, 1, 0, 0, 0) from rfl) (List.Mem.tail _ (List.Mem.head _)) ?_
          refine z_bipush X (show cdA 235 61 = some (.bipush 8, 2, 0, 0, 8) from rfl) ?_
          refine z_mod X (show cdA 235 63 = some (.irem, 1, 0, 0, 0) from rfl) (by omega) ⟨by omega, by omega⟩ (by omega) ⟨by omega, by omega⟩ ?_
          refine z_load_n X (x := y) (show cdA 235 64 = some (.iload_n 2, 1, 0, 0, 0) from rfl) (List.Mem.tail _ (List.Mem.tail _ (List.Mem.head _))) ?_
          refine z_bipush X (show cdA 235 65 = some (.bipush 8, 2, 0, 0, 8) from rfl) ?_
          refine z_mod X (show cdA 235 67 = some (.irem, 1, 0, 0, 0) from rfl) (by omega) ⟨by omega, by omega⟩ (by omega) ⟨by omega, by omega⟩ ?_
          refine z_icmp_gt X (t := 88) (show cdA 235 68 = some (.if_icmp .gt 20, 3, 4, 0, 0) from rfl) (by decide) ⟨by omega, by omega⟩ ⟨by omega, by omega⟩ (fun g30 => ?_) (fun g30 => ?_)
          ·
            refine z_const X (show cdA 235 88 = some (.iconst 1, 1, 0, 0, 0) from rfl) ?_
            refine z_goto X (t := 93) (show cdA 235 89 = some (.goto 4, 3, 0, 0, 0) from rfl) (by decide) ?_
            refine z_const X (show cdA 235 93 = some (.iconst 2, 1, 0, 0, 0) from rfl) ?_
            refine z_callV X 179 (rm := rmN 187) (As := [.int (Int32.ofInt 1), .int (Int32.ofInt 2)]) (st := []) (show cdA 235 94 = some (.invokevirtual 229, 3, 187, 0, 0) from rfl) rfl (by decide) rfl (by rw [E.1, E.2.1, E.2.2.1]; exact k_bad G Is10 (by omega) (by omega)) ⟨by rw [E.2.2.2]; exact (show (rmN 187).frames + 1 ≤ (rmN 235).frames by decide), by rw [E.2.2.2]; exact (show 8 + (mNL (miB 187) + 11) + (rmN 187).locals ≤ (rmN 235).locals by decide), by rw [E.2.2.2]; exact (show 0 + (rmN 187).cells ≤ (rmN 235).cells by decide), by rw [E.2.2.2]; exact (show 0 + (rmN 187).slots ≤ (rmN 235).slots by decide)⟩ (Nat.le_of_ble_eq_true rfl) (fun vv s31 hq => ?_) (fun ee s31 hq => ?_)
            rotate_left
            · obtain ⟨Is31, Fs31, e32, hv, hrs31, hps31⟩ := hq; cases hv
            obtain ⟨Is31, Fs31, e32, hv, hrs31, hps31⟩ := hq
            cases hv
            have Gs31 := fm_ts Gs10 Fs31 (by decide) (by decide)
            have b33 : (0 : Int) ≤ iI s31 73 ∧ iI s31 73 ≤ 3 := Is31.1 73
            show WS k 97 [(0, .ref (A 179)), (1, .int (Int32.ofInt x)), (2, .int (Int32.ofInt y)), (3, .int (Int32.ofInt z))] [.int (Int32.ofInt e32)] (Wd A dT s31) 0 0
            refine z_if_eq X (t := 102) (show cdA 235 97 = some (.ifCond .eq 5, 3, 0, 0, 0) from rfl) (by decide) ⟨by omega, by omega⟩ (fun g34 => ?_) (fun g34 => ?_)
            ·
              refine z_const X (show cdA 235 102 = some (.iconst 0, 1, 0, 0, 0) from rfl) ?_
              refine z_store X (lv' := [(4, .int (Int32.ofInt 0)), (0, .ref (A 179)), (1, .int (Int32.ofInt x)), (2, .int (Int32.ofInt y)), (3, .int (Int32.ofInt z))]) (show cdA 235 103 = some (.istore 4, 2, 0, 0, 0) from rfl) (by decide) (fun _ h => h) ?_
              refine z_bipush X (show cdA 235 105 = some (.bipush 64, 2, 0, 0, 64) from rfl) ?_
              refine z_load_n X (x := x) (show cdA 235 107 = some (.iload_n 1, 1, 0, 0, 0) from rfl) (List.Mem.tail _ (List.Mem.tail _ (List.Mem.head _))) ?_
              refine z_bipush X (show cdA 235 108 = some (.bipush 64, 2, 0, 0, 64) from rfl) ?_
              refine z_quot X (show cdA 235 110 = some (.idiv, 1, 0, 0, 0) from rfl) (by omega) ⟨by omega, by omega⟩ (by omega) ⟨by omega, by omega⟩ ?_
              refine z_mul X (show cdA 235 111 = some (.imul, 1, 0, 0, 0) from rfl) ?_
              refine z_store X (lv' := [(5, .int (Int32.ofInt (64 * (x / 64)))), (4, .int (Int32.ofInt 0)), (0, .ref (A 179)), (1, .int (Int32.ofInt x)), (2, .int (Int32.ofInt y)), (3, .int (Int32.ofInt z))]) (show cdA 235 112 = some (.istore 5, 2, 0, 0, 0) from rfl) (by decide) (fun _ h => h) ?_
              refine WS_lv (lv := [(0, .ref (A 179)), (1, .int (Int32.ofInt x)), (2, .int (Int32.ofInt y)), (3, .int (Int32.ofInt z)), (4, .int (Int32.ofInt 0)), (5, .int (Int32.ofInt (64 * (x / 64))))]) (List.forall_mem_cons.mpr ⟨(List.Mem.tail _ (List.Mem.tail _ (List.Mem.head _))), (List.forall_mem_cons.mpr ⟨(List.Mem.tail _ (List.Mem.tail _ (List.Mem.tail _ (List.Mem.head _)))), (List.forall_mem_cons.mpr ⟨(List.Mem.tail _ (List.Mem.tail _ (List.Mem.tail _ (List.Mem.tail _ (List.Mem.head _))))), (List.forall_mem_cons.mpr ⟨(List.Mem.tail _ (List.Mem.tail _ (List.Mem.tail _ (List.Mem.tail _ (List.Mem.tail _ (List.Mem.head _)))))), (List.forall_mem_cons.mpr ⟨(List.Mem.tail _ (List.Mem.head _)), (List.forall_mem_cons.mpr ⟨(List.Mem.head _), (fun q h => absurd h List.not_mem_nil)⟩)⟩)⟩)⟩)⟩)⟩) ?_
              refine L114 ((64 * (x / 64) + 64 - (64 * (x / 64)) : Int)).toNat s31 x y z 0 (64 * (x / 64)) Is31 Gs31 (by omega) (by omega) ?_
              intro s35 x36 x37 Is35 Fs35 hs35
              have b38 : (0 : Int) ≤ iI s35 73 ∧ iI s35 73 ≤ 3 := Is35.1 73
              refine z_load X (x := x36) (show cdA 235 214 = some (.iload 4, 2, 0, 0, 0) from rfl) (List.Mem.tail _ (List.Mem.tail _ (List.Mem.tail _ (List.Mem.tail _ (List.Mem.head _))))) ?_
              exact w_iret X.1 q hRt rfl (ax_d X (show cdA 235 216 = some (.ireturn, 1, 0, 0, 0) from rfl)) (Nat.zero_le _) (Nat.zero_le _) ⟨_, rfl, Is35, Fs35, x36, rfl, ⟨by omega, by omega⟩, trivial⟩
            ·
              refine z_const X (show cdA 235 100 = some (.iconst 0, 1, 0, 0, 0) from rfl) ?_
              exact w_iret X.1 q hRt rfl (ax_d X (show cdA 235 101 = some (.ireturn, 1, 0, 0, 0) from rfl)) (Nat.zero_le _) (Nat.zero_le _) ⟨_, rfl, Is31, Gs31, 0, rfl, ⟨by omega, by omega⟩, trivial⟩
          ·
            refine z_load_n X (x := x) (show cdA 235 71 = some (.iload_n 1, 1, 0, 0, 0) from rfl) (List.Mem.tail _ (List.Mem.head _)) ?_
            refine z_bipush X (show cdA 235 72 = some (.bipush 8, 2, 0, 0, 8) from rfl) ?_
            refine z_quot X (show cdA 235 74 = some (.idiv, 1, 0, 0, 0) from rfl) (by omega) ⟨by omega, by omega⟩ (by omega) ⟨by omega, by omega⟩ ?_
            refine z_bipush X (show cdA 235 75 = some (.bipush 8, 2, 0, 0, 8) from rfl) ?_
            refine z_mod X (show cdA 235 77 = some (.irem, 1, 0, 0, 0) from rfl) (by omega) ⟨by omega, by omega⟩ (by omega) ⟨by omega, by omega⟩ ?_
            refine z_load_n X (x := y) (show cdA 235 78 = some (.iload_n 2, 1, 0, 0, 0) from rfl) (List.Mem.tail _ (List.Mem.tail _ (List.Mem.head _))) ?_
            refine z_bipush X (show cdA 235 79 = some (.bipush 8, 2, 0, 0, 8) from rfl) ?_
            refine z_quot X (show cdA 235 81 = some (.idiv, 1, 0, 0, 0) from rfl) (by omega) ⟨by omega, by omega⟩ (by omega) ⟨by omega, by omega⟩ ?_
            refine z_bipush X (show cdA 235 82 = some (.bipush 8, 2, 0, 0, 8) from rfl) ?_
            refine z_mod X (show cdA 235 84 = some (.irem, 1, 0, 0, 0) from rfl) (by omega) ⟨by omega, by omega⟩ (by omega) ⟨by omega, by omega⟩ ?_
            refine z_icmp_le X (t := 92) (show cdA 235 85 = some (.if_icmp .le 7, 3, 5, 0, 0) from rfl) (by decide) ⟨by omega, by omega⟩ ⟨by omega, by omega⟩ (fun g39 => ?_) (fun g39 => ?_)
            ·
              refine z_const X (show cdA 235 92 = some (.iconst 0, 1, 0, 0, 0) from rfl) ?_
              refine z_const X (show cdA 235 93 = some (.iconst 2, 1, 0, 0, 0) from rfl) ?_
              refine z_callV X 179 (rm := rmN 187) (As := [.int (Int32.ofInt 0), .int (Int32.ofInt 2)]) (st := []) (show cdA 235 94 = some (.invokevirtual 229, 3, 187, 0, 0) from rfl) rfl (by decide) rfl (by rw [E.1, E.2.1, E.2.2.1]; exact k_bad G Is10 (by omega) (by omega)) ⟨by rw [E.2.2.2]; exact (show (rmN 187).frames + 1 ≤ (rmN 235).frames by decide), by rw [E.2.2.2]; exact (show 8 + (mNL (miB 187) + 11) + (rmN 187).locals ≤ (rmN 235).locals by decide), by rw [E.2.2.2]; exact (show 0 + (rmN 187).cells ≤ (rmN 235).cells by decide), by rw [E.2.2.2]; exact (show 0 + (rmN 187).slots ≤ (rmN 235).slots by decide)⟩ (Nat.le_of_ble_eq_true rfl) (fun vv s40 hq => ?_) (fun ee s40 hq => ?_)
              rotate_left
              · obtain ⟨Is40, Fs40, e41, hv, hrs40, hps40⟩ := hq; cases hv
              obtain ⟨Is40, Fs40, e41, hv, hrs40, hps40⟩ := hq
              cases hv
              have Gs40 := fm_ts Gs10 Fs40 (by decide) (by decide)
              have b42 : (0 : Int) ≤ iI s40 73 ∧ iI s40 73 ≤ 3 := Is40.1 73
              show WS k 97 [(0, .ref (A 179)), (1, .int (Int32.ofInt x)), (2, .int (Int32.ofInt y)), (3, .int (Int32.ofInt z))] [.int (Int32.ofInt e41)] (Wd A dT s40) 0 0
              refine z_if_eq X (t := 102) (show cdA 235 97 = some (.ifCond .eq 5, 3, 0, 0, 0) from rfl) (by decide) ⟨by omega, by omega⟩ (fun g43 => ?_) (fun g43 => ?_)
              ·
                refine z_const X (show cdA 235 102 = some (.iconst 0, 1, 0, 0, 0) from rfl) ?_
                refine z_store X (lv' := [(4, .int (Int32.ofInt 0)), (0, .ref (A 179)), (1, .int (Int32.ofInt x)), (2, .int (Int32.ofInt y)), (3, .int (Int32.ofInt z))]) (show cdA 235 103 = some (.istore 4, 2, 0, 0, 0) from rfl) (by decide) (fun _ h => h) ?_
                refine z_bipush X (show cdA 235 105 = some (.bipush 64, 2, 0, 0, 64) from rfl) ?_
                refine z_load_n X (x := x) (show cdA 235 107 = some (.iload_n 1, 1, 0, 0, 0) from rfl) (List.Mem.tail _ (List.Mem.tail _ (List.Mem.head _))) ?_
                refine z_bipush X (show cdA 235 108 = some (.bipush 64, 2, 0, 0, 64) from rfl) ?_
                refine z_quot X (show cdA 235 110 = some (.idiv, 1, 0, 0, 0) from rfl) (by omega) ⟨by omega, by omega⟩ (by omega) ⟨by omega, by omega⟩ ?_
                refine z_mul X (show cdA 235 111 = some (.imul, 1, 0, 0, 0) from rfl) ?_
                refine z_store X (lv' := [(5, .int (Int32.ofInt (64 * (x / 64)))), (4, .int (Int32.ofInt 0)), (0, .ref (A 179)), (1, .int (Int32.ofInt x)), (2, .int (Int32.ofInt y)), (3, .int (Int32.ofInt z))]) (show cdA 235 112 = some (.istore 5, 2, 0, 0, 0) from rfl) (by decide) (fun _ h => h) ?_
                refine WS_lv (lv := [(0, .ref (A 179)), (1, .int (Int32.ofInt x)), (2, .int (Int32.ofInt y)), (3, .int (Int32.ofInt z)), (4, .int (Int32.ofInt 0)), (5, .int (Int32.ofInt (64 * (x / 64))))]) (List.forall_mem_cons.mpr ⟨(List.Mem.tail _ (List.Mem.tail _ (List.Mem.head _))), (List.forall_mem_cons.mpr ⟨(List.Mem.tail _ (List.Mem.tail _ (List.Mem.tail _ (List.Mem.head _)))), (List.forall_mem_cons.mpr ⟨(List.Mem.tail _ (List.Mem.tail _ (List.Mem.tail _ (List.Mem.tail _ (List.Mem.head _))))), (List.forall_mem_cons.mpr ⟨(List.Mem.tail _ (List.Mem.tail _ (List.Mem.tail _ (List.Mem.tail _ (List.Mem.tail _ (List.Mem.head _)))))), (List.forall_mem_cons.mpr ⟨(List.Mem.tail _ (List.Mem.head _)), (List.forall_mem_cons.mpr ⟨(List.Mem.head _), (fun q h => absurd h List.not_mem_nil)⟩)⟩)⟩)⟩)⟩)⟩) ?_
                refine L114 ((64 * (x / 64) + 64 - (64 * (x / 64)) : Int)).toNat s40 x y z 0 (64 * (x / 64)) Is40 Gs40 (by omega) (by omega) ?_
                intro s44 x45 x46 Is44 Fs44 hs44
                have b47 : (0 : Int) ≤ iI s44 73 ∧ iI s44 73 ≤ 3 := Is44.1 73
                refine z_load X (x := x45) (show cdA 235 214 = some (.iload 4, 2, 0, 0, 0) from rfl) (List.Mem.tail _ (List.Mem.tail _ (List.Mem.tail _ (List.Mem.tail _ (List.Mem.head _))))) ?_
                exact w_iret X.1 q hRt rfl (ax_d X (show cdA 235 216 = some (.ireturn, 1, 0, 0, 0) from rfl)) (Nat.zero_le _) (Nat.zero_le _) ⟨_, rfl, Is44, Fs44, x45, rfl, ⟨by omega, by omega⟩, trivial⟩
              ·
                refine z_const X (show cdA 235 100 = some (.iconst 0, 1, 0, 0, 0) from rfl) ?_
                exact w_iret X.1 q hRt rfl (ax_d X (show cdA 235 101 = some (.ireturn, 1, 0, 0, 0) from rfl)) (Nat.zero_le _) (Nat.zero_le _) ⟨_, rfl, Is40, Gs40, 0, rfl, ⟨by omega, by omega⟩, trivial⟩
            ·
              refine z_const X (show cdA 235 88 = some (.iconst 1, 1, 0, 0, 0) from rfl) ?_
              refine z_goto X (t := 93) (show cdA 235 89 = some (.goto 4, 3, 0, 0, 0) from rfl) (by decide) ?_
              refine z_const X (show cdA 235 93 = some (.iconst 2, 1, 0, 0, 0) from rfl) ?_
              refine z_callV X 179 (rm := rmN 187) (As := [.int (Int32.ofInt 1), .int (Int32.ofInt 2)]) (st := []) (show cdA 235 94 = some (.invokevirtual 229, 3, 187, 0, 0) from rfl) rfl (by decide) rfl (by rw [E.1, E.2.1, E.2.2.1]; exact k_bad G Is10 (by omega) (by omega)) ⟨by rw [E.2.2.2]; exact (show (rmN 187).frames + 1 ≤ (rmN 235).frames by decide), by rw [E.2.2.2]; exact (show 8 + (mNL (miB 187) + 11) + (rmN 187).locals ≤ (rmN 235).locals by decide), by rw [E.2.2.2]; exact (show 0 + (rmN 187).cells ≤ (rmN 235).cells by decide), by rw [E.2.2.2]; exact (show 0 + (rmN 187).slots ≤ (rmN 235).slots by decide)⟩ (Nat.le_of_ble_eq_true rfl) (fun vv s48 hq => ?_) (fun ee s48 hq => ?_)
              rotate_left
              · obtain ⟨Is48, Fs48, e49, hv, hrs48, hps48⟩ := hq; cases hv
              obtain ⟨Is48, Fs48, e49, hv, hrs48, hps48⟩ := hq
              cases hv
              have Gs48 := fm_ts Gs10 Fs48 (by decide) (by decide)
              have b50 : (0 : Int) ≤ iI s48 73 ∧ iI s48 73 ≤ 3 := Is48.1 73
              show WS k 97 [(0, .ref (A 179)), (1, .int (Int32.ofInt x)), (2, .int (Int32.ofInt y)), (3, .int (Int32.ofInt z))] [.int (Int32.ofInt e49)] (Wd A dT s48) 0 0
              refine z_if_eq X (t := 102) (show cdA 235 97 = some (.ifCond .eq 5, 3, 0, 0, 0) from rfl) (by decide) ⟨by omega, by omega⟩ (fun g51 => ?_) (fun g51 => ?_)
              ·
                refine z_const X (show cdA 235 102 = some (.iconst 0, 1, 0, 0, 0) from rfl) ?_
                refine z_store X (lv' := [(4, .int (Int32.ofInt 0)), (0, .ref (A 179)), (1, .int (Int32.ofInt x)), (2, .int (Int32.ofInt y)), (3, .int (Int32.ofInt z))]) (show cdA 235 103 = some (.istore 4, 2, 0, 0, 0) from rfl) (by decide) (fun _ h => h) ?_
                refine z_bipush X (show cdA 235 105 = some (.bipush 64, 2, 0, 0, 64) from rfl) ?_
                refine z_load_n X (x := x) (show cdA 235 107 = some (.iload_n 1, 1, 0, 0, 0) from rfl) (List.Mem.tail _ (List.Mem.tail _ (List.Mem.head _))) ?_
                refine z_bipush X (show cdA 235 108 = some (.bipush 64, 2, 0, 0, 64) from rfl) ?_
                refine z_quot X (show cdA 235 110 = some (.idiv, 1, 0, 0, 0) from rfl) (by omega) ⟨by omega, by omega⟩ (by omega) ⟨by omega, by omega⟩ ?_
                refine z_mul X (show cdA 235 111 = some (.imul, 1, 0, 0, 0) from rfl) ?_
                refine z_store X (lv' := [(5, .int (Int32.ofInt (64 * (x / 64)))), (4, .int (Int32.ofInt 0)), (0, .ref (A 179)), (1, .int (Int32.ofInt x)), (2, .int (Int32.ofInt y)), (3, .int (Int32.ofInt z))]) (show cdA 235 112 = some (.istore 5, 2, 0, 0, 0) from rfl) (by decide) (fun _ h => h) ?_
                refine WS_lv (lv := [(0, .ref (A 179)), (1, .int (Int32.ofInt x)), (2, .int (Int32.ofInt y)), (3, .int (Int32.ofInt z)), (4, .int (Int32.ofInt 0)), (5, .int (Int32.ofInt (64 * (x / 64))))]) (List.forall_mem_cons.mpr ⟨(List.Mem.tail _ (List.Mem.tail _ (List.Mem.head _))), (List.forall_mem_cons.mpr ⟨(List.Mem.tail _ (List.Mem.tail _ (List.Mem.tail _ (List.Mem.head _)))), (List.forall_mem_cons.mpr ⟨(List.Mem.tail _ (List.Mem.tail _ (List.Mem.tail _ (List.Mem.tail _ (List.Mem.head _))))), (List.forall_mem_cons.mpr ⟨(List.Mem.tail _ (List.Mem.tail _ (List.Mem.tail _ (List.Mem.tail _ (List.Mem.tail _ (List.Mem.head _)))))), (List.forall_mem_cons.mpr ⟨(List.Mem.tail _ (List.Mem.head _)), (List.forall_mem_cons.mpr ⟨(List.Mem.head _), (fun q h => absurd h List.not_mem_nil)⟩)⟩)⟩)⟩)⟩)⟩) ?_
                refine L114 ((64 * (x / 64) + 64 - (64 * (x / 64)) : Int)).toNat s48 x y z 0 (64 * (x / 64)) Is48 Gs48 (by omega) (by omega) ?_
                intro s52 x53 x54 Is52 Fs52 hs52
                have b55 : (0 : Int) ≤ iI s52 73 ∧ iI s52 73 ≤ 3 := Is52.1 73
                refine z_load X (x := x53) (show cdA 235 214 = some (.iload 4, 2, 0, 0, 0) from rfl) (List.Mem.tail _ (List.Mem.tail _ (List.Mem.tail _ (List.Mem.tail _ (List.Mem.head _))))) ?_
                exact w_iret X.1 q hRt rfl (ax_d X (show cdA 235 216 = some (.ireturn, 1, 0, 0, 0) from rfl)) (Nat.zero_le _) (Nat.zero_le _) ⟨_, rfl, Is52, Fs52, x53, rfl, ⟨by omega, by omega⟩, trivial⟩
              ·
                refine z_const X (show cdA 235 100 = some (.iconst 0, 1, 0, 0, 0) from rfl) ?_
                exact w_iret X.1 q hRt rfl (ax_d X (show cdA 235 101 = some (.ireturn, 1, 0, 0, 0) from rfl)) (Nat.zero_le _) (Nat.zero_le _) ⟨_, rfl, Is48, Gs48, 0, rfl, ⟨by omega, by omega⟩, trivial⟩
  ·
    refine z_load_n X (x := y) (show cdA 235 16 = some (.iload_n 2, 1, 0, 0, 0) from rfl) (List.Mem.tail _ (List.Mem.tail _ (List.Mem.head _))) ?_
    refine z_const X (show cdA 235 17 = some (.iconst 0, 1, 0, 0, 0) from rfl) ?_
    refine z_bipush X (show cdA 235 18 = some (.bipush 127, 2, 0, 0, 127) from rfl) ?_
    refine z_callS X (rm := rmN 188) (As := [.int (Int32.ofInt y), .int (Int32.ofInt 0), .int (Int32.ofInt 127)]) (st := [.ref (A 179)]) (show cdA 235 20 = some (.invokestatic 209, 3, 188, 1, 0) from rfl) rfl (by rw [E.1, E.2.1, E.2.2.1]; exact k_in G Is3 (by omega) (by omega) (by omega)) ⟨by rw [E.2.2.2]; exact (show (rmN 188).frames + 1 ≤ (rmN 235).frames by decide), by rw [E.2.2.2]; exact (show 8 + (mNL (miB 188) + 11) + (rmN 188).locals ≤ (rmN 235).locals by decide), by rw [E.2.2.2]; exact (show 0 + (rmN 188).cells ≤ (rmN 235).cells by decide), by rw [E.2.2.2]; exact (show 0 + (rmN 188).slots ≤ (rmN 235).slots by decide)⟩ (Nat.le_of_ble_eq_true rfl) (fun vv s56 hq => ?_) (fun ee s56 hq => ?_)
    rotate_left
    · obtain ⟨Is56, Fs56, e57, hv, hrs56, hps56⟩ := hq; cases hv
    obtain ⟨Is56, Fs56, e57, hv, hrs56, hps56⟩ := hq
    cases hv
    have Gs56 := fm_ts Gs3 Fs56 (by decide) (by decide)
    have ws56_73 : iI s56 73 = iI s3 73 := fm_i Fs56 (by decide)
    show WS k 23 [(0, .ref (A 179)), (1, .int (Int32.ofInt x)), (2, .int (Int32.ofInt y)), (3, .int (Int32.ofInt z))] [.int (Int32.ofInt e57), .ref (A 179)] (Wd A dT s56) 0 0
    refine z_if_ne X (t := 30) (show cdA 235 23 = some (.ifCond .ne 7, 3, 1, 0, 0) from rfl) (by decide) ⟨by omega, by omega⟩ (fun g58 => ?_) (fun g58 => ?_)
    ·
      refine z_const X (show cdA 235 30 = some (.iconst 0, 1, 0, 0, 0) from rfl) ?_
      refine z_const X (show cdA 235 31 = some (.iconst 1, 1, 0, 0, 0) from rfl) ?_
      refine z_callV X 179 (rm := rmN 187) (As := [.int (Int32.ofInt 0), .int (Int32.ofInt 1)]) (st := []) (show cdA 235 32 = some (.invokevirtual 229, 3, 187, 0, 0) from rfl) rfl (by decide) rfl (by rw [E.1, E.2.1, E.2.2.1]; exact k_bad G Is56 (by omega) (by omega)) ⟨by rw [E.2.2.2]; exact (show (rmN 187).frames + 1 ≤ (rmN 235).frames by decide), by rw [E.2.2.2]; exact (show 8 + (mNL (miB 187) + 11) + (rmN 187).locals ≤ (rmN 235).locals by decide), by rw [E.2.2.2]; exact (show 0 + (rmN 187).cells ≤ (rmN 235).cells by decide), by rw [E.2.2.2]; exact (show 0 + (rmN 187).slots ≤ (rmN 235).slots by decide)⟩ (Nat.le_of_ble_eq_true rfl) (fun vv s59 hq => ?_) (fun ee s59 hq => ?_)
      rotate_left
      · obtain ⟨Is59, Fs59, e60, hv, hrs59, hps59⟩ := hq; cases hv
      obtain ⟨Is59, Fs59, e60, hv, hrs59, hps59⟩ := hq
      cases hv
      have Gs59 := fm_ts Gs56 Fs59 (by decide) (by decide)
      have b61 : (0 : Int) ≤ iI s59 73 ∧ iI s59 73 ≤ 3 := Is59.1 73
      show WS k 35 [(0, .ref (A 179)), (1, .int (Int32.ofInt x)), (2, .int (Int32.ofInt y)), (3, .int (Int32.ofInt z))] [.int (Int32.ofInt e60)] (Wd A dT s59) 0 0
      refine z_if_ne X (t := 100) (show cdA 235 35 = some (.ifCond .ne 65, 3, 1, 0, 0) from rfl) (by decide) ⟨by omega, by omega⟩ (fun g62 => ?_) (fun g62 => ?_)
      ·
        refine z_const X (show cdA 235 100 = some (.iconst 0, 1, 0, 0, 0) from rfl) ?_
        exact w_iret X.1 q hRt rfl (ax_d X (show cdA 235 101 = some (.ireturn, 1, 0, 0, 0) from rfl)) (Nat.zero_le _) (Nat.zero_le _) ⟨_, rfl, Is59, Gs59, 0, rfl, ⟨by omega, by omega⟩, trivial⟩
      ·
        refine z_aload_n X (x := A 179) (show cdA 235 38 = some (.aload_n 0, 1, 0, 0, 0) from rfl) (List.Mem.head _) ?_
        refine z_load_n X (x := z) (show cdA 235 39 = some (.iload_n 3, 1, 0, 0, 0) from rfl) (List.Mem.tail _ (List.Mem.tail _ (List.Mem.tail _ (List.Mem.head _)))) ?_
        refine z_const X (show cdA 235 40 = some (.iconst (-1), 1, 0, 0, 0) from rfl) ?_
        refine z_bipush X (show cdA 235 41 = some (.bipush 7, 2, 0, 0, 7) from rfl) ?_
        refine z_callS X (rm := rmN 188) (As := [.int (Int32.ofInt z), .int (Int32.ofInt (-1)), .int (Int32.ofInt 7)]) (st := [.ref (A 179)]) (show cdA 235 43 = some (.invokestatic 209, 3, 188, 1, 0) from rfl) rfl (by rw [E.1, E.2.1, E.2.2.1]; exact k_in G Is59 (by omega) (by omega) (by omega)) ⟨by rw [E.2.2.2]; exact (show (rmN 188).frames + 1 ≤ (rmN 235).frames by decide), by rw [E.2.2.2]; exact (show 8 + (mNL (miB 188) + 11) + (rmN 188).locals ≤ (rmN 235).locals by decide), by rw [E.2.2.2]; exact (show 0 + (rmN 188).cells ≤ (rmN 235).cells by decide), by rw [E.2.2.2]; exact (show 0 + (rmN 188).slots ≤ (rmN 235).slots by decide)⟩ (Nat.le_of_ble_eq_true rfl) (fun vv s63 hq => ?_) (fun ee s63 hq => ?_)
        rotate_left
        · obtain ⟨Is63, Fs63, e64, hv, hrs63, hps63⟩ := hq; cases hv
        obtain ⟨Is63, Fs63, e64, hv, hrs63, hps63⟩ := hq
        cases hv
        have Gs63 := fm_ts Gs59 Fs63 (by decide) (by decide)
        have ws63_73 : iI s63 73 = iI s59 73 := fm_i Fs63 (by decide)
        show WS k 46 [(0, .ref (A 179)), (1, .int (Int32.ofInt x)), (2, .int (Int32.ofInt y)), (3, .int (Int32.ofInt z))] [.int (Int32.ofInt e64), .ref (A 179)] (Wd A dT s63) 0 0
        refine z_if_eq X (t := 88) (show cdA 235 46 = some (.ifCond .eq 42, 3, 0, 0, 0) from rfl) (by decide) ⟨by omega, by omega⟩ (fun g65 => ?_) (fun g65 => ?_)
        ·
          refine z_const X (show cdA 235 88 = some (.iconst 1, 1, 0, 0, 0) from rfl) ?_
          refine z_goto X (t := 93) (show cdA 235 89 = some (.goto 4, 3, 0, 0, 0) from rfl) (by decide) ?_
          refine z_const X (show cdA 235 93 = some (.iconst 2, 1, 0, 0, 0) from rfl) ?_
          refine z_callV X 179 (rm := rmN 187) (As := [.int (Int32.ofInt 1), .int (Int32.ofInt 2)]) (st := []) (show cdA 235 94 = some (.invokevirtual 229, 3, 187, 0, 0) from rfl) rfl (by decide) rfl (by rw [E.1, E.2.1, E.2.2.1]; exact k_bad G Is63 (by omega) (by omega)) ⟨by rw [E.2.2.2]; exact (show (rmN 187).frames + 1 ≤ (rmN 235).frames by decide), by rw [E.2.2.2]; exact (show 8 + (mNL (miB 187) + 11) + (rmN 187).locals ≤ (rmN 235).locals by decide), by rw [E.2.2.2]; exact (show 0 + (rmN 187).cells ≤ (rmN 235).cells by decide), by rw [E.2.2.2]; exact (show 0 + (rmN 187).slots ≤ (rmN 235).slots by decide)⟩ (Nat.le_of_ble_eq_true rfl) (fun vv s66 hq => ?_) (fun ee s66 hq => ?_)
          rotate_left
          · obtain ⟨Is66, Fs66, e67, hv, hrs66, hps66⟩ := hq; cases hv
          obtain ⟨Is66, Fs66, e67, hv, hrs66, hps66⟩ := hq
          cases hv
          have Gs66 := fm_ts Gs63 Fs66 (by decide) (by decide)
          have b68 : (0 : Int) ≤ iI s66 73 ∧ iI s66 73 ≤ 3 := Is66.1 73
          show WS k 97 [(0, .ref (A 179)), (1, .int (Int32.ofInt x)), (2, .int (Int32.ofInt y)), (3, .int (Int32.ofInt z))] [.int (Int32.ofInt e67)] (Wd A dT s66) 0 0
          refine z_if_eq X (t := 102) (show cdA 235 97 = some (.ifCond .eq 5, 3, 0, 0, 0) from rfl) (by decide) ⟨by omega, by omega⟩ (fun g69 => ?_) (fun g69 => ?_)
          ·
            refine z_const X (show cdA 235 102 = some (.iconst 0, 1, 0, 0, 0) from rfl) ?_
            refine z_store X (lv' := [(4, .int (Int32.ofInt 0)), (0, .ref (A 179)), (1, .int (Int32.ofInt x)), (2, .int (Int32.ofInt y)), (3, .int (Int32.ofInt z))]) (show cdA 235 103 = some (.istore 4, 2, 0, 0, 0) from rfl) (by decide) (fun _ h => h) ?_
            refine z_bipush X (show cdA 235 105 = some (.bipush 64, 2, 0, 0, 64) from rfl) ?_
            refine z_load_n X (x := x) (show cdA 235 107 = some (.iload_n 1, 1, 0, 0, 0) from rfl) (List.Mem.tail _ (List.Mem.tail _ (List.Mem.head _))) ?_
            refine z_bipush X (show cdA 235 108 = some (.bipush 64, 2, 0, 0, 64) from rfl) ?_
            refine z_quot X (show cdA 235 110 = some (.idiv, 1, 0, 0, 0) from rfl) (by omega) ⟨by omega, by omega⟩ (by omega) ⟨by omega, by omega⟩ ?_
            refine z_mul X (show cdA 235 111 = some (.imul, 1, 0, 0, 0) from rfl) ?_
            refine z_store X (lv' := [(5, .int (Int32.ofInt (64 * (x / 64)))), (4, .int (Int32.ofInt 0)), (0, .ref (A 179)), (1, .int (Int32.ofInt x)), (2, .int (Int32.ofInt y)), (3, .int (Int32.ofInt z))]) (show cdA 235 112 = some (.istore 5, 2, 0, 0, 0) from rfl) (by decide) (fun _ h => h) ?_
            refine WS_lv (lv := [(0, .ref (A 179)), (1, .int (Int32.ofInt x)), (2, .int (Int32.ofInt y)), (3, .int (Int32.ofInt z)), (4, .int (Int32.ofInt 0)), (5, .int (Int32.ofInt (64 * (x / 64))))]) (List.forall_mem_cons.mpr ⟨(List.Mem.tail _ (List.Mem.tail _ (List.Mem.head _))), (List.forall_mem_cons.mpr ⟨(List.Mem.tail _ (List.Mem.tail _ (List.Mem.tail _ (List.Mem.head _)))), (List.forall_mem_cons.mpr ⟨(List.Mem.tail _ (List.Mem.tail _ (List.Mem.tail _ (List.Mem.tail _ (List.Mem.head _))))), (List.forall_mem_cons.mpr ⟨(List.Mem.tail _ (List.Mem.tail _ (List.Mem.tail _ (List.Mem.tail _ (List.Mem.tail _ (List.Mem.head _)))))), (List.forall_mem_cons.mpr ⟨(List.Mem.tail _ (List.Mem.head _)), (List.forall_mem_cons.mpr ⟨(List.Mem.head _), (fun q h => absurd h List.not_mem_nil)⟩)⟩)⟩)⟩)⟩)⟩) ?_
            refine L114 ((64 * (x / 64) + 64 - (64 * (x / 64)) : Int)).toNat s66 x y z 0 (64 * (x / 64)) Is66 Gs66 (by omega) (by omega) ?_
            intro s70 x71 x72 Is70 Fs70 hs70
            have b73 : (0 : Int) ≤ iI s70 73 ∧ iI s70 73 ≤ 3 := Is70.1 73
            refine z_load X (x := x71) (show cdA 235 214 = some (.iload 4, 2, 0, 0, 0) from rfl) (List.Mem.tail _ (List.Mem.tail _ (List.Mem.tail _ (List.Mem.tail _ (List.Mem.head _))))) ?_
            exact w_iret X.1 q hRt rfl (ax_d X (show cdA 235 216 = some (.ireturn, 1, 0, 0, 0) from rfl)) (Nat.zero_le _) (Nat.zero_le _) ⟨_, rfl, Is70, Fs70, x71, rfl, ⟨by omega, by omega⟩, trivial⟩
          ·
            refine z_const X (show cdA 235 100 = some (.iconst 0, 1, 0, 0, 0) from rfl) ?_
            exact w_iret X.1 q hRt rfl (ax_d X (show cdA 235 101 = some (.ireturn, 1, 0, 0, 0) from rfl)) (Nat.zero_le _) (Nat.zero_le _) ⟨_, rfl, Is66, Gs66, 0, rfl, ⟨by omega, by omega⟩, trivial⟩
        ·
          refine z_load_n X (x := x) (show cdA 235 49 = some (.iload_n 1, 1, 0, 0, 0) from rfl) (List.Mem.tail _ (List.Mem.head _)) ?_
          refine z_bipush X (show cdA 235 50 = some (.bipush 64, 2, 0, 0, 64) from rfl) ?_
          refine z_quot X (show cdA 235 52 = some (.idiv, 1, 0, 0, 0) from rfl) (by omega) ⟨by omega, by omega⟩ (by omega) ⟨by omega, by omega⟩ ?_
          refine z_load_n X (x := y) (show cdA 235 53 = some (.iload_n 2, 1, 0, 0, 0) from rfl) (List.Mem.tail _ (List.Mem.tail _ (List.Mem.head _))) ?_
          refine z_bipush X (show cdA 235 54 = some (.bipush 64, 2, 0, 0, 64) from rfl) ?_
          refine z_quot X (show cdA 235 56 = some (.idiv, 1, 0, 0, 0) from rfl) (by omega) ⟨by omega, by omega⟩ (by omega) ⟨by omega, by omega⟩ ?_
          refine z_icmp_ne X (t := 88) (show cdA 235 57 = some (.if_icmp .ne 31, 3, 1, 0, 0) from rfl) (by decide) ⟨by omega, by omega⟩ ⟨by omega, by omega⟩ (fun g74 => ?_) (fun g74 => ?_)
          ·
            refine z_const X (show cdA 235 88 = some (.iconst 1, 1, 0, 0, 0) from rfl) ?_
            refine z_goto X (t := 93) (show cdA 235 89 = some (.goto 4, 3, 0, 0, 0) from rfl) (by decide) ?_
            refine z_const X (show cdA 235 93 = some (.iconst 2, 1, 0, 0, 0) from rfl) ?_
            refine z_callV X 179 (rm := rmN 187) (As := [.int (Int32.ofInt 1), .int (Int32.ofInt 2)]) (st := []) (show cdA 235 94 = some (.invokevirtual 229, 3, 187, 0, 0) from rfl) rfl (by decide) rfl (by rw [E.1, E.2.1, E.2.2.1]; exact k_bad G Is63 (by omega) (by omega)) ⟨by rw [E.2.2.2]; exact (show (rmN 187).frames + 1 ≤ (rmN 235).frames by decide), by rw [E.2.2.2]; exact (show 8 + (mNL (miB 187) + 11) + (rmN 187).locals ≤ (rmN 235).locals by decide), by rw [E.2.2.2]; exact (show 0 + (rmN 187).cells ≤ (rmN 235).cells by decide), by rw [E.2.2.2]; exact (show 0 + (rmN 187).slots ≤ (rmN 235).slots by decide)⟩ (Nat.le_of_ble_eq_true rfl) (fun vv s75 hq => ?_) (fun ee s75 hq => ?_)
            rotate_left
            · obtain ⟨Is75, Fs75, e76, hv, hrs75, hps75⟩ := hq; cases hv
            obtain ⟨Is75, Fs75, e76, hv, hrs75, hps75⟩ := hq
            cases hv
            have Gs75 := fm_ts Gs63 Fs75 (by decide) (by decide)
            have b77 : (0 : Int) ≤ iI s75 73 ∧ iI s75 73 ≤ 3 := Is75.1 73
            show WS k 97 [(0, .ref (A 179)), (1, .int (Int32.ofInt x)), (2, .int (Int32.ofInt y)), (3, .int (Int32.ofInt z))] [.int (Int32.ofInt e76)] (Wd A dT s75) 0 0
            refine z_if_eq X (t := 102) (show cdA 235 97 = some (.ifCond .eq 5, 3, 0, 0, 0) from rfl) (by decide) ⟨by omega, by omega⟩ (fun g78 => ?_) (fun g78 => ?_)
            ·
              refine z_const X (show cdA 235 102 = some (.iconst 0, 1, 0, 0, 0) from rfl) ?_
              refine z_store X (lv' := [(4, .int (Int32.ofInt 0)), (0, .ref (A 179)), (1, .int (Int32.ofInt x)), (2, .int (Int32.ofInt y)), (3, .int (Int32.ofInt z))]) (show cdA 235 103 = some (.istore 4, 2, 0, 0, 0) from rfl) (by decide) (fun _ h => h) ?_
              refine z_bipush X (show cdA 235 105 = some (.bipush 64, 2, 0, 0, 64) from rfl) ?_
              refine z_load_n X (x := x) (show cdA 235 107 = some (.iload_n 1, 1, 0, 0, 0) from rfl) (List.Mem.tail _ (List.Mem.tail _ (List.Mem.head _))) ?_
              refine z_bipush X (show cdA 235 108 = some (.bipush 64, 2, 0, 0, 64) from rfl) ?_
              refine z_quot X (show cdA 235 110 = some (.idiv, 1, 0, 0, 0) from rfl) (by omega) ⟨by omega, by omega⟩ (by omega) ⟨by omega, by omega⟩ ?_
              refine z_mul X (show cdA 235 111 = some (.imul, 1, 0, 0, 0) from rfl) ?_
              refine z_store X (lv' := [(5, .int (Int32.ofInt (64 * (x / 64)))), (4, .int (Int32.ofInt 0)), (0, .ref (A 179)), (1, .int (Int32.ofInt x)), (2, .int (Int32.ofInt y)), (3, .int (Int32.ofInt z))]) (show cdA 235 112 = some (.istore 5, 2, 0, 0, 0) from rfl) (by decide) (fun _ h => h) ?_
              refine WS_lv (lv := [(0, .ref (A 179)), (1, .int (Int32.ofInt x)), (2, .int (Int32.ofInt y)), (3, .int (Int32.ofInt z)), (4, .int (Int32.ofInt 0)), (5, .int (Int32.ofInt (64 * (x / 64))))]) (List.forall_mem_cons.mpr ⟨(List.Mem.tail _ (List.Mem.tail _ (List.Mem.head _))), (List.forall_mem_cons.mpr ⟨(List.Mem.tail _ (List.Mem.tail _ (List.Mem.tail _ (List.Mem.head _)))), (List.forall_mem_cons.mpr ⟨(List.Mem.tail _ (List.Mem.tail _ (List.Mem.tail _ (List.Mem.tail _ (List.Mem.head _))))), (List.forall_mem_cons.mpr ⟨(List.Mem.tail _ (List.Mem.tail _ (List.Mem.tail _ (List.Mem.tail _ (List.Mem.tail _ (List.Mem.head _)))))), (List.forall_mem_cons.mpr ⟨(List.Mem.tail _ (List.Mem.head _)), (List.forall_mem_cons.mpr ⟨(List.Mem.head _), (fun q h => absurd h List.not_mem_nil)⟩)⟩)⟩)⟩)⟩)⟩) ?_
              refine L114 ((64 * (x / 64) + 64 - (64 * (x / 64)) : Int)).toNat s75 x y z 0 (64 * (x / 64)) Is75 Gs75 (by omega) (by omega) ?_
              intro s79 x80 x81 Is79 Fs79 hs79
              have b82 : (0 : Int) ≤ iI s79 73 ∧ iI s79 73 ≤ 3 := Is79.1 73
              refine z_load X (x := x80) (show cdA 235 214 = some (.iload 4, 2, 0, 0, 0) from rfl) (List.Mem.tail _ (List.Mem.tail _ (List.Mem.tail _ (List.Mem.tail _ (List.Mem.head _))))) ?_
              exact w_iret X.1 q hRt rfl (ax_d X (show cdA 235 216 = some (.ireturn, 1, 0, 0, 0) from rfl)) (Nat.zero_le _) (Nat.zero_le _) ⟨_, rfl, Is79, Fs79, x80, rfl, ⟨by omega, by omega⟩, trivial⟩
            ·
              refine z_const X (show cdA 235 100 = some (.iconst 0, 1, 0, 0, 0) from rfl) ?_
              exact w_iret X.1 q hRt rfl (ax_d X (show cdA 235 101 = some (.ireturn, 1, 0, 0, 0) from rfl)) (Nat.zero_le _) (Nat.zero_le _) ⟨_, rfl, Is75, Gs75, 0, rfl, ⟨by omega, by omega⟩, trivial⟩
          ·
            refine z_load_n X (x := x) (show cdA 235 60 = some (.iload_n 1, 1, 0, 0, 0) from rfl) (List.Mem.tail _ (List.Mem.head _)) ?_
            refine z_bipush X (show cdA 235 61 = some (.bipush 8, 2, 0, 0, 8) from rfl) ?_
            refine z_mod X (show cdA 235 63 = some (.irem, 1, 0, 0, 0) from rfl) (by omega) ⟨by omega, by omega⟩ (by omega) ⟨by omega, by omega⟩ ?_
            refine z_load_n X (x := y) (show cdA 235 64 = some (.iload_n 2, 1, 0, 0, 0) from rfl) (List.Mem.tail _ (List.Mem.tail _ (List.Mem.head _))) ?_
            refine z_bipush X (show cdA 235 65 = some (.bipush 8, 2, 0, 0, 8) from rfl) ?_
            refine z_mod X (show cdA 235 67 = some (.irem, 1, 0, 0, 0) from rfl) (by omega) ⟨by omega, by omega⟩ (by omega) ⟨by omega, by omega⟩ ?_
            refine z_icmp_gt X (t := 88) (show cdA 235 68 = some (.if_icmp .gt 20, 3, 4, 0, 0) from rfl) (by decide) ⟨by omega, by omega⟩ ⟨by omega, by omega⟩ (fun g83 => ?_) (fun g83 => ?_)
            ·
              refine z_const X (show cdA 235 88 = some (.iconst 1, 1, 0, 0, 0) from rfl) ?_
              refine z_goto X (t := 93) (show cdA 235 89 = some (.goto 4, 3, 0, 0, 0) from rfl) (by decide) ?_
              refine z_const X (show cdA 235 93 = some (.iconst 2, 1, 0, 0, 0) from rfl) ?_
              refine z_callV X 179 (rm := rmN 187) (As := [.int (Int32.ofInt 1), .int (Int32.ofInt 2)]) (st := []) (show cdA 235 94 = some (.invokevirtual 229, 3, 187, 0, 0) from rfl) rfl (by decide) rfl (by rw [E.1, E.2.1, E.2.2.1]; exact k_bad G Is63 (by omega) (by omega)) ⟨by rw [E.2.2.2]; exact (show (rmN 187).frames + 1 ≤ (rmN 235).frames by decide), by rw [E.2.2.2]; exact (show 8 + (mNL (miB 187) + 11) + (rmN 187).locals ≤ (rmN 235).locals by decide), by rw [E.2.2.2]; exact (show 0 + (rmN 187).cells ≤ (rmN 235).cells by decide), by rw [E.2.2.2]; exact (show 0 + (rmN 187).slots ≤ (rmN 235).slots by decide)⟩ (Nat.le_of_ble_eq_true rfl) (fun vv s84 hq => ?_) (fun ee s84 hq => ?_)
              rotate_left
              · obtain ⟨Is84, Fs84, e85, hv, hrs84, hps84⟩ := hq; cases hv
              obtain ⟨Is84, Fs84, e85, hv, hrs84, hps84⟩ := hq
              cases hv
              have Gs84 := fm_ts Gs63 Fs84 (by decide) (by decide)
              have b86 : (0 : Int) ≤ iI s84 73 ∧ iI s84 73 ≤ 3 := Is84.1 73
              show WS k 97 [(0, .ref (A 179)), (1, .int (Int32.ofInt x)), (2, .int (Int32.ofInt y)), (3, .int (Int32.ofInt z))] [.int (Int32.ofInt e85)] (Wd A dT s84) 0 0
              refine z_if_eq X (t := 102) (show cdA 235 97 = some (.ifCond .eq 5, 3, 0, 0, 0) from rfl) (by decide) ⟨by omega, by omega⟩ (fun g87 => ?_) (fun g87 => ?_)
              ·
                refine z_const X (show cdA 235 102 = some (.iconst 0, 1, 0, 0, 0) from rfl) ?_
                refine z_store X (lv' := [(4, .int (Int32.ofInt 0)), (0, .ref (A 179)), (1, .int (Int32.ofInt x)), (2, .int (Int32.ofInt y)), (3, .int (Int32.ofInt z))]) (show cdA 235 103 = some (.istore 4, 2, 0, 0, 0) from rfl) (by decide) (fun _ h => h) ?_
                refine z_bipush X (show cdA 235 105 = some (.bipush 64, 2, 0, 0, 64) from rfl) ?_
                refine z_load_n X (x := x) (show cdA 235 107 = some (.iload_n 1, 1, 0, 0, 0) from rfl) (List.Mem.tail _ (List.Mem.tail _ (List.Mem.head _))) ?_
                refine z_bipush X (show cdA 235 108 = some (.bipush 64, 2, 0, 0, 64) from rfl) ?_
                refine z_quot X (show cdA 235 110 = some (.idiv, 1, 0, 0, 0) from rfl) (by omega) ⟨by omega, by omega⟩ (by omega) ⟨by omega, by omega⟩ ?_
                refine z_mul X (show cdA 235 111 = some (.imul, 1, 0, 0, 0) from rfl) ?_
                refine z_store X (lv' := [(5, .int (Int32.ofInt (64 * (x / 64)))), (4, .int (Int32.ofInt 0)), (0, .ref (A 179)), (1, .int (Int32.ofInt x)), (2, .int (Int32.ofInt y)), (3, .int (Int32.ofInt z))]) (show cdA 235 112 = some (.istore 5, 2, 0, 0, 0) from rfl) (by decide) (fun _ h => h) ?_
                refine WS_lv (lv := [(0, .ref (A 179)), (1, .int (Int32.ofInt x)), (2, .int (Int32.ofInt y)), (3, .int (Int32.ofInt z)), (4, .int (Int32.ofInt 0)), (5, .int (Int32.ofInt (64 * (x / 64))))]) (List.forall_mem_cons.mpr ⟨(List.Mem.tail _ (List.Mem.tail _ (List.Mem.head _))), (List.forall_mem_cons.mpr ⟨(List.Mem.tail _ (List.Mem.tail _ (List.Mem.tail _ (List.Mem.head _)))), (List.forall_mem_cons.mpr ⟨(List.Mem.tail _ (List.Mem.tail _ (List.Mem.tail _ (List.Mem.tail _ (List.Mem.head _))))), (List.forall_mem_cons.mpr ⟨(List.Mem.tail _ (List.Mem.tail _ (List.Mem.tail _ (List.Mem.tail _ (List.Mem.tail _ (List.Mem.head _)))))), (List.forall_mem_cons.mpr ⟨(List.Mem.tail _ (List.Mem.head _)), (List.forall_mem_cons.mpr ⟨(List.Mem.head _), (fun q h => absurd h List.not_mem_nil)⟩)⟩)⟩)⟩)⟩)⟩) ?_
                refine L114 ((64 * (x / 64) + 64 - (64 * (x / 64)) : Int)).toNat s84 x y z 0 (64 * (x / 64)) Is84 Gs84 (by omega) (by omega) ?_
                intro s88 x89 x90 Is88 Fs88 hs88
                have b91 : (0 : Int) ≤ iI s88 73 ∧ iI s88 73 ≤ 3 := Is88.1 73
                refine z_load X (x := x89) (show cdA 235 214 = some (.iload 4, 2, 0, 0, 0) from rfl) (List.Mem.tail _ (List.Mem.tail _ (List.Mem.tail _ (List.Mem.tail _ (List.Mem.head _))))) ?_
                exact w_iret X.1 q hRt rfl (ax_d X (show cdA 235 216 = some (.ireturn, 1, 0, 0, 0) from rfl)) (Nat.zero_le _) (Nat.zero_le _) ⟨_, rfl, Is88, Fs88, x89, rfl, ⟨by omega, by omega⟩, trivial⟩
              ·
                refine z_const X (show cdA 235 100 = some (.iconst 0, 1, 0, 0, 0) from rfl) ?_
                exact w_iret X.1 q hRt rfl (ax_d X (show cdA 235 101 = some (.ireturn, 1, 0, 0, 0) from rfl)) (Nat.zero_le _) (Nat.zero_le _) ⟨_, rfl, Is84, Gs84, 0, rfl, ⟨by omega, by omega⟩, trivial⟩
            ·
              refine z_load_n X (x := x) (show cdA 235 71 = some (.iload_n 1, 1, 0, 0, 0) from rfl) (List.Mem.tail _ (List.Mem.head _)) ?_
              refine z_bipush X (show cdA 235 72 = some (.bipush 8, 2, 0, 0, 8) from rfl) ?_
              refine z_quot X (show cdA 235 74 = some (.idiv, 1, 0, 0, 0) from rfl) (by omega) ⟨by omega, by omega⟩ (by omega) ⟨by omega, by omega⟩ ?_
              refine z_bipush X (show cdA 235 75 = some (.bipush 8, 2, 0, 0, 8) from rfl) ?_
              refine z_mod X (show cdA 235 77 = some (.irem, 1, 0, 0, 0) from rfl) (by omega) ⟨by omega, by omega⟩ (by omega) ⟨by omega, by omega⟩ ?_
              refine z_load_n X (x := y) (show cdA 235 78 = some (.iload_n 2, 1, 0, 0, 0) from rfl) (List.Mem.tail _ (List.Mem.tail _ (List.Mem.head _))) ?_
              refine z_bipush X (show cdA 235 79 = some (.bipush 8, 2, 0, 0, 8) from rfl) ?_
              refine z_quot X (show cdA 235 81 = some (.idiv, 1, 0, 0, 0) from rfl) (by omega) ⟨by omega, by omega⟩ (by omega) ⟨by omega, by omega⟩ ?_
              refine z_bipush X (show cdA 235 82 = some (.bipush 8, 2, 0, 0, 8) from rfl) ?_
              refine z_mod X (show cdA 235 84 = some (.irem, 1, 0, 0, 0) from rfl) (by omega) ⟨by omega, by omega⟩ (by omega) ⟨by omega, by omega⟩ ?_
              refine z_icmp_le X (t := 92) (show cdA 235 85 = some (.if_icmp .le 7, 3, 5, 0, 0) from rfl) (by decide) ⟨by omega, by omega⟩ ⟨by omega, by omega⟩ (fun g92 => ?_) (fun g92 => ?_)
              ·
                refine z_const X (show cdA 235 92 = some (.iconst 0, 1, 0, 0, 0) from rfl) ?_
                refine z_const X (show cdA 235 93 = some (.iconst 2, 1, 0, 0, 0) from rfl) ?_
                refine z_callV X 179 (rm := rmN 187) (As := [.int (Int32.ofInt 0), .int (Int32.ofInt 2)]) (st := []) (show cdA 235 94 = some (.invokevirtual 229, 3, 187, 0, 0) from rfl) rfl (by decide) rfl (by rw [E.1, E.2.1, E.2.2.1]; exact k_bad G Is63 (by omega) (by omega)) ⟨by rw [E.2.2.2]; exact (show (rmN 187).frames + 1 ≤ (rmN 235).frames by decide), by rw [E.2.2.2]; exact (show 8 + (mNL (miB 187) + 11) + (rmN 187).locals ≤ (rmN 235).locals by decide), by rw [E.2.2.2]; exact (show 0 + (rmN 187).cells ≤ (rmN 235).cells by decide), by rw [E.2.2.2]; exact (show 0 + (rmN 187).slots ≤ (rmN 235).slots by decide)⟩ (Nat.le_of_ble_eq_true rfl) (fun vv s93 hq => ?_) (fun ee s93 hq => ?_)
                rotate_left
                · obtain ⟨Is93, Fs93, e94, hv, hrs93, hps93⟩ := hq; cases hv
                obtain ⟨Is93, Fs93, e94, hv, hrs93, hps93⟩ := hq
                cases hv
                have Gs93 := fm_ts Gs63 Fs93 (by decide) (by decide)
                have b95 : (0 : Int) ≤ iI s93 73 ∧ iI s93 73 ≤ 3 := Is93.1 73
                show WS k 97 [(0, .ref (A 179)), (1, .int (Int32.ofInt x)), (2, .int (Int32.ofInt y)), (3, .int (Int32.ofInt z))] [.int (Int32.ofInt e94)] (Wd A dT s93) 0 0
                refine z_if_eq X (t := 102) (show cdA 235 97 = some (.ifCond .eq 5, 3, 0, 0, 0) from rfl) (by decide) ⟨by omega, by omega⟩ (fun g96 => ?_) (fun g96 => ?_)
                ·
                  refine z_const X (show cdA 235 102 = some (.iconst 0, 1, 0, 0, 0) from rfl) ?_
                  refine z_store X (lv' := [(4, .int (Int32.ofInt 0)), (0, .ref (A 179)), (1, .int (Int32.ofInt x)), (2, .int (Int32.ofInt y)), (3, .int (Int32.ofInt z))]) (show cdA 235 103 = some (.istore 4, 2, 0, 0, 0) from rfl) (by decide) (fun _ h => h) ?_
                  refine z_bipush X (show cdA 235 105 = some (.bipush 64, 2, 0, 0, 64) from rfl) ?_
                  refine z_load_n X (x := x) (show cdA 235 107 = some (.iload_n 1, 1, 0, 0, 0) from rfl) (List.Mem.tail _ (List.Mem.tail _ (List.Mem.head _))) ?_
                  refine z_bipush X (show cdA 235 108 = some (.bipush 64, 2, 0, 0, 64) from rfl) ?_
                  refine z_quot X (show cdA 235 110 = some (.idiv, 1, 0, 0, 0) from rfl) (by omega) ⟨by omega, by omega⟩ (by omega) ⟨by omega, by omega⟩ ?_
                  refine z_mul X (show cdA 235 111 = some (.imul, 1, 0, 0, 0) from rfl) ?_
                  refine z_store X (lv' := [(5, .int (Int32.ofInt (64 * (x / 64)))), (4, .int (Int32.ofInt 0)), (0, .ref (A 179)), (1, .int (Int32.ofInt x)), (2, .int (Int32.ofInt y)), (3, .int (Int32.ofInt z))]) (show cdA 235 112 = some (.istore 5, 2, 0, 0, 0) from rfl) (by decide) (fun _ h => h) ?_
                  refine WS_lv (lv := [(0, .ref (A 179)), (1, .int (Int32.ofInt x)), (2, .int (Int32.ofInt y)), (3, .int (Int32.ofInt z)), (4, .int (Int32.ofInt 0)), (5, .int (Int32.ofInt (64 * (x / 64))))]) (List.forall_mem_cons.mpr ⟨(List.Mem.tail _ (List.Mem.tail _ (List.Mem.head _))), (List.forall_mem_cons.mpr ⟨(List.Mem.tail _ (List.Mem.tail _ (List.Mem.tail _ (List.Mem.head _)))), (List.forall_mem_cons.mpr ⟨(List.Mem.tail _ (List.Mem.tail _ (List.Mem.tail _ (List.Mem.tail _ (List.Mem.head _))))), (List.forall_mem_cons.mpr ⟨(List.Mem.tail _ (List.Mem.tail _ (List.Mem.tail _ (List.Mem.tail _ (List.Mem.tail _ (List.Mem.head _)))))), (List.forall_mem_cons.mpr ⟨(List.Mem.tail _ (List.Mem.head _)), (List.forall_mem_cons.mpr ⟨(List.Mem.head _), (fun q h => absurd h List.not_mem_nil)⟩)⟩)⟩)⟩)⟩)⟩) ?_
                  refine L114 ((64 * (x / 64) + 64 - (64 * (x / 64)) : Int)).toNat s93 x y z 0 (64 * (x / 64)) Is93 Gs93 (by omega) (by omega) ?_
                  intro s97 x98 x99 Is97 Fs97 hs97
                  have b100 : (0 : Int) ≤ iI s97 73 ∧ iI s97 73 ≤ 3 := Is97.1 73
                  refine z_load X (x := x98) (show cdA 235 214 = some (.iload 4, 2, 0, 0, 0) from rfl) (List.Mem.tail _ (List.Mem.tail _ (List.Mem.tail _ (List.Mem.tail _ (List.Mem.head _))))) ?_
                  exact w_iret X.1 q hRt rfl (ax_d X (show cdA 235 216 = some (.ireturn, 1, 0, 0, 0) from rfl)) (Nat.zero_le _) (Nat.zero_le _) ⟨_, rfl, Is97, Fs97, x98, rfl, ⟨by omega, by omega⟩, trivial⟩
                ·
                  refine z_const X (show cdA 235 100 = some (.iconst 0, 1, 0, 0, 0) from rfl) ?_
                  exact w_iret X.1 q hRt rfl (ax_d X (show cdA 235 101 = some (.ireturn, 1, 0, 0, 0) from rfl)) (Nat.zero_le _) (Nat.zero_le _) ⟨_, rfl, Is93, Gs93, 0, rfl, ⟨by omega, by omega⟩, trivial⟩
              ·
                refine z_const X (show cdA 235 88 = some (.iconst 1, 1, 0, 0, 0) from rfl) ?_
                refine z_goto X (t := 93) (show cdA 235 89 = some (.goto 4, 3, 0, 0, 0) from rfl) (by decide) ?_
                refine z_const X (show cdA 235 93 = some (.iconst 2, 1, 0, 0, 0) from rfl) ?_
                refine z_callV X 179 (rm := rmN 187) (As := [.int (Int32.ofInt 1), .int (Int32.ofInt 2)]) (st := []) (show cdA 235 94 = some (.invokevirtual 229, 3, 187, 0, 0) from rfl) rfl (by decide) rfl (by rw [E.1, E.2.1, E.2.2.1]; exact k_bad G Is63 (by omega) (by omega)) ⟨by rw [E.2.2.2]; exact (show (rmN 187).frames + 1 ≤ (rmN 235).frames by decide), by rw [E.2.2.2]; exact (show 8 + (mNL (miB 187) + 11) + (rmN 187).locals ≤ (rmN 235).locals by decide), by rw [E.2.2.2]; exact (show 0 + (rmN 187).cells ≤ (rmN 235).cells by decide), by rw [E.2.2.2]; exact (show 0 + (rmN 187).slots ≤ (rmN 235).slots by decide)⟩ (Nat.le_of_ble_eq_true rfl) (fun vv s101 hq => ?_) (fun ee s101 hq => ?_)
                rotate_left
                · obtain ⟨Is101, Fs101, e102, hv, hrs101, hps101⟩ := hq; cases hv
                obtain ⟨Is101, Fs101, e102, hv, hrs101, hps101⟩ := hq
                cases hv
                have Gs101 := fm_ts Gs63 Fs101 (by decide) (by decide)
                have b103 : (0 : Int) ≤ iI s101 73 ∧ iI s101 73 ≤ 3 := Is101.1 73
                show WS k 97 [(0, .ref (A 179)), (1, .int (Int32.ofInt x)), (2, .int (Int32.ofInt y)), (3, .int (Int32.ofInt z))] [.int (Int32.ofInt e102)] (Wd A dT s101) 0 0
                refine z_if_eq X (t := 102) (show cdA 235 97 = some (.ifCond .eq 5, 3, 0, 0, 0) from rfl) (by decide) ⟨by omega, by omega⟩ (fun g104 => ?_) (fun g104 => ?_)
                ·
                  refine z_const X (show cdA 235 102 = some (.iconst 0, 1, 0, 0, 0) from rfl) ?_
                  refine z_store X (lv' := [(4, .int (Int32.ofInt 0)), (0, .ref (A 179)), (1, .int (Int32.ofInt x)), (2, .int (Int32.ofInt y)), (3, .int (Int32.ofInt z))]) (show cdA 235 103 = some (.istore 4, 2, 0, 0, 0) from rfl) (by decide) (fun _ h => h) ?_
                  refine z_bipush X (show cdA 235 105 = some (.bipush 64, 2, 0, 0, 64) from rfl) ?_
                  refine z_load_n X (x := x) (show cdA 235 107 = some (.iload_n 1, 1, 0, 0, 0) from rfl) (List.Mem.tail _ (List.Mem.tail _ (List.Mem.head _))) ?_
                  refine z_bipush X (show cdA 235 108 = some (.bipush 64, 2, 0, 0, 64) from rfl) ?_
                  refine z_quot X (show cdA 235 110 = some (.idiv, 1, 0, 0, 0) from rfl) (by omega) ⟨by omega, by omega⟩ (by omega) ⟨by omega, by omega⟩ ?_
                  refine z_mul X (show cdA 235 111 = some (.imul, 1, 0, 0, 0) from rfl) ?_
                  refine z_store X (lv' := [(5, .int (Int32.ofInt (64 * (x / 64)))), (4, .int (Int32.ofInt 0)), (0, .ref (A 179)), (1, .int (Int32.ofInt x)), (2, .int (Int32.ofInt y)), (3, .int (Int32.ofInt z))]) (show cdA 235 112 = some (.istore 5, 2, 0, 0, 0) from rfl) (by decide) (fun _ h => h) ?_
                  refine WS_lv (lv := [(0, .ref (A 179)), (1, .int (Int32.ofInt x)), (2, .int (Int32.ofInt y)), (3, .int (Int32.ofInt z)), (4, .int (Int32.ofInt 0)), (5, .int (Int32.ofInt (64 * (x / 64))))]) (List.forall_mem_cons.mpr ⟨(List.Mem.tail _ (List.Mem.tail _ (List.Mem.head _))), (List.forall_mem_cons.mpr ⟨(List.Mem.tail _ (List.Mem.tail _ (List.Mem.tail _ (List.Mem.head _)))), (List.forall_mem_cons.mpr ⟨(List.Mem.tail _ (List.Mem.tail _ (List.Mem.tail _ (List.Mem.tail _ (List.Mem.head _))))), (List.forall_mem_cons.mpr ⟨(List.Mem.tail _ (List.Mem.tail _ (List.Mem.tail _ (List.Mem.tail _ (List.Mem.tail _ (List.Mem.head _)))))), (List.forall_mem_cons.mpr ⟨(List.Mem.tail _ (List.Mem.head _)), (List.forall_mem_cons.mpr ⟨(List.Mem.head _), (fun q h => absurd h List.not_mem_nil)⟩)⟩)⟩)⟩)⟩)⟩) ?_
                  refine L114 ((64 * (x / 64) + 64 - (64 * (x / 64)) : Int)).toNat s101 x y z 0 (64 * (x / 64)) Is101 Gs101 (by omega) (by omega) ?_
                  intro s105 x106 x107 Is105 Fs105 hs105
                  have b108 : (0 : Int) ≤ iI s105 73 ∧ iI s105 73 ≤ 3 := Is105.1 73
                  refine z_load X (x := x106) (show cdA 235 214 = some (.iload 4, 2, 0, 0, 0) from rfl) (List.Mem.tail _ (List.Mem.tail _ (List.Mem.tail _ (List.Mem.tail _ (List.Mem.head _))))) ?_
                  exact w_iret X.1 q hRt rfl (ax_d X (show cdA 235 216 = some (.ireturn, 1, 0, 0, 0) from rfl)) (Nat.zero_le _) (Nat.zero_le _) ⟨_, rfl, Is105, Fs105, x106, rfl, ⟨by omega, by omega⟩, trivial⟩
                ·
                  refine z_const X (show cdA 235 100 = some (.iconst 0, 1, 0, 0, 0) from rfl) ?_
                  exact w_iret X.1 q hRt rfl (ax_d X (show cdA 235 101 = some (.ireturn, 1, 0, 0, 0) from rfl)) (Nat.zero_le _) (Nat.zero_le _) ⟨_, rfl, Is101, Gs101, 0, rfl, ⟨by omega, by omega⟩, trivial⟩
    ·
      refine z_const X (show cdA 235 26 = some (.iconst 1, 1, 0, 0, 0) from rfl) ?_
      refine z_goto X (t := 31) (show cdA 235 27 = some (.goto 4, 3, 0, 0, 0) from rfl) (by decide) ?_
      refine z_const X (show cdA 235 31 = some (.iconst 1, 1, 0, 0, 0) from rfl) ?_
      refine z_callV X 179 (rm := rmN 187) (As := [.int (Int32.ofInt 1), .int (Int32.ofInt 1)]) (st := []) (show cdA 235 32 = some (.invokevirtual 229, 3, 187, 0, 0) from rfl) rfl (by decide) rfl (by rw [E.1, E.2.1, E.2.2.1]; exact k_bad G Is56 (by omega) (by omega)) ⟨by rw [E.2.2.2]; exact (show (rmN 187).frames + 1 ≤ (rmN 235).frames by decide), by rw [E.2.2.2]; exact (show 8 + (mNL (miB 187) + 11) + (rmN 187).locals ≤ (rmN 235).locals by decide), by rw [E.2.2.2]; exact (show 0 + (rmN 187).cells ≤ (rmN 235).cells by decide), by rw [E.2.2.2]; exact (show 0 + (rmN 187).slots ≤ (rmN 235).slots by decide)⟩ (Nat.le_of_ble_eq_true rfl) (fun vv s109 hq => ?_) (fun ee s109 hq => ?_)
      rotate_left
      · obtain ⟨Is109, Fs109, e110, hv, hrs109, hps109⟩ := hq; cases hv
      obtain ⟨Is109, Fs109, e110, hv, hrs109, hps109⟩ := hq
      cases hv
      have Gs109 := fm_ts Gs56 Fs109 (by decide) (by decide)
      have b111 : (0 : Int) ≤ iI s109 73 ∧ iI s109 73 ≤ 3 := Is109.1 73
      show WS k 35 [(0, .ref (A 179)), (1, .int (Int32.ofInt x)), (2, .int (Int32.ofInt y)), (3, .int (Int32.ofInt z))] [.int (Int32.ofInt e110)] (Wd A dT s109) 0 0
      refine z_if_ne X (t := 100) (show cdA 235 35 = some (.ifCond .ne 65, 3, 1, 0, 0) from rfl) (by decide) ⟨by omega, by omega⟩ (fun g112 => ?_) (fun g112 => ?_)
      ·
        refine z_const X (show cdA 235 100 = some (.iconst 0, 1, 0, 0, 0) from rfl) ?_
        exact w_iret X.1 q hRt rfl (ax_d X (show cdA 235 101 = some (.ireturn, 1, 0, 0, 0) from rfl)) (Nat.zero_le _) (Nat.zero_le _) ⟨_, rfl, Is109, Gs109, 0, rfl, ⟨by omega, by omega⟩, trivial⟩
      ·
        refine z_aload_n X (x := A 179) (show cdA 235 38 = some (.aload_n 0, 1, 0, 0, 0) from rfl) (List.Mem.head _) ?_
        refine z_load_n X (x := z) (show cdA 235 39 = some (.iload_n 3, 1, 0, 0, 0) from rfl) (List.Mem.tail _ (List.Mem.tail _ (List.Mem.tail _ (List.Mem.head _)))) ?_
        refine z_const X (show cdA 235 40 = some (.iconst (-1), 1, 0, 0, 0) from rfl) ?_
        refine z_bipush X (show cdA 235 41 = some (.bipush 7, 2, 0, 0, 7) from rfl) ?_
        refine z_callS X (rm := rmN 188) (As := [.int (Int32.ofInt z), .int (Int32.ofInt (-1)), .int (Int32.ofInt 7)]) (st := [.ref (A 179)]) (show cdA 235 43 = some (.invokestatic 209, 3, 188, 1, 0) from rfl) rfl (by rw [E.1, E.2.1, E.2.2.1]; exact k_in G Is109 (by omega) (by omega) (by omega)) ⟨by rw [E.2.2.2]; exact (show (rmN 188).frames + 1 ≤ (rmN 235).frames by decide), by rw [E.2.2.2]; exact (show 8 + (mNL (miB 188) + 11) + (rmN 188).locals ≤ (rmN 235).locals by decide), by rw [E.2.2.2]; exact (show 0 + (rmN 188).cells ≤ (rmN 235).cells by decide), by rw [E.2.2.2]; exact (show 0 + (rmN 188).slots ≤ (rmN 235).slots by decide)⟩ (Nat.le_of_ble_eq_true rfl) (fun vv s113 hq => ?_) (fun ee s113 hq => ?_)
        rotate_left
        · obtain ⟨Is113, Fs113, e114, hv, hrs113, hps113⟩ := hq; cases hv
        obtain ⟨Is113, Fs113, e114, hv, hrs113, hps113⟩ := hq
        cases hv
        have Gs113 := fm_ts Gs109 Fs113 (by decide) (by decide)
        have ws113_73 : iI s113 73 = iI s109 73 := fm_i Fs113 (by decide)
        show WS k 46 [(0, .ref (A 179)), (1, .int (Int32.ofInt x)), (2, .int (Int32.ofInt y)), (3, .int (Int32.ofInt z))] [.int (Int32.ofInt e114), .ref (A 179)] (Wd A dT s113) 0 0
        refine z_if_eq X (t := 88) (show cdA 235 46 = some (.ifCond .eq 42, 3, 0, 0, 0) from rfl) (by decide) ⟨by omega, by omega⟩ (fun g115 => ?_) (fun g115 => ?_)
        ·
          refine z_const X (show cdA 235 88 = some (.iconst 1, 1, 0, 0, 0) from rfl) ?_
          refine z_goto X (t := 93) (show cdA 235 89 = some (.goto 4, 3, 0, 0, 0) from rfl) (by decide) ?_
          refine z_const X (show cdA 235 93 = some (.iconst 2, 1, 0, 0, 0) from rfl) ?_
          refine z_callV X 179 (rm := rmN 187) (As := [.int (Int32.ofInt 1), .int (Int32.ofInt 2)]) (st := []) (show cdA 235 94 = some (.invokevirtual 229, 3, 187, 0, 0) from rfl) rfl (by decide) rfl (by rw [E.1, E.2.1, E.2.2.1]; exact k_bad G Is113 (by omega) (by omega)) ⟨by rw [E.2.2.2]; exact (show (rmN 187).frames + 1 ≤ (rmN 235).frames by decide), by rw [E.2.2.2]; exact (show 8 + (mNL (miB 187) + 11) + (rmN 187).locals ≤ (rmN 235).locals by decide), by rw [E.2.2.2]; exact (show 0 + (rmN 187).cells ≤ (rmN 235).cells by decide), by rw [E.2.2.2]; exact (show 0 + (rmN 187).slots ≤ (rmN 235).slots by decide)⟩ (Nat.le_of_ble_eq_true rfl) (fun vv s116 hq => ?_) (fun ee s116 hq => ?_)
          rotate_left
          · obtain ⟨Is116, Fs116, e117, hv, hrs116, hps116⟩ := hq; cases hv
          obtain ⟨Is116, Fs116, e117, hv, hrs116, hps116⟩ := hq
          cases hv
          have Gs116 := fm_ts Gs113 Fs116 (by decide) (by decide)
          have b118 : (0 : Int) ≤ iI s116 73 ∧ iI s116 73 ≤ 3 := Is116.1 73
          show WS k 97 [(0, .ref (A 179)), (1, .int (Int32.ofInt x)), (2, .int (Int32.ofInt y)), (3, .int (Int32.ofInt z))] [.int (Int32.ofInt e117)] (Wd A dT s116) 0 0
          refine z_if_eq X (t := 102) (show cdA 235 97 = some (.ifCond .eq 5, 3, 0, 0, 0) from rfl) (by decide) ⟨by omega, by omega⟩ (fun g119 => ?_) (fun g119 => ?_)
          ·
            refine z_const X (show cdA 235 102 = some (.iconst 0, 1, 0, 0, 0) from rfl) ?_
            refine z_store X (lv' := [(4, .int (Int32.ofInt 0)), (0, .ref (A 179)), (1, .int (Int32.ofInt x)), (2, .int (Int32.ofInt y)), (3, .int (Int32.ofInt z))]) (show cdA 235 103 = some (.istore 4, 2, 0, 0, 0) from rfl) (by decide) (fun _ h => h) ?_
            refine z_bipush X (show cdA 235 105 = some (.bipush 64, 2, 0, 0, 64) from rfl) ?_
            refine z_load_n X (x := x) (show cdA 235 107 = some (.iload_n 1, 1, 0, 0, 0) from rfl) (List.Mem.tail _ (List.Mem.tail _ (List.Mem.head _))) ?_
            refine z_bipush X (show cdA 235 108 = some (.bipush 64, 2, 0, 0, 64) from rfl) ?_
            refine z_quot X (show cdA 235 110 = some (.idiv, 1, 0, 0, 0) from rfl) (by omega) ⟨by omega, by omega⟩ (by omega) ⟨by omega, by omega⟩ ?_
            refine z_mul X (show cdA 235 111 = some (.imul, 1, 0, 0, 0) from rfl) ?_
            refine z_store X (lv' := [(5, .int (Int32.ofInt (64 * (x / 64)))), (4, .int (Int32.ofInt 0)), (0, .ref (A 179)), (1, .int (Int32.ofInt x)), (2, .int (Int32.ofInt y)), (3, .int (Int32.ofInt z))]) (show cdA 235 112 = some (.istore 5, 2, 0, 0, 0) from rfl) (by decide) (fun _ h => h) ?_
            refine WS_lv (lv := [(0, .ref (A 179)), (1, .int (Int32.ofInt x)), (2, .int (Int32.ofInt y)), (3, .int (Int32.ofInt z)), (4, .int (Int32.ofInt 0)), (5, .int (Int32.ofInt (64 * (x / 64))))]) (List.forall_mem_cons.mpr ⟨(List.Mem.tail _ (List.Mem.tail _ (List.Mem.head _))), (List.forall_mem_cons.mpr ⟨(List.Mem.tail _ (List.Mem.tail _ (List.Mem.tail _ (List.Mem.head _)))), (List.forall_mem_cons.mpr ⟨(List.Mem.tail _ (List.Mem.tail _ (List.Mem.tail _ (List.Mem.tail _ (List.Mem.head _))))), (List.forall_mem_cons.mpr ⟨(List.Mem.tail _ (List.Mem.tail _ (List.Mem.tail _ (List.Mem.tail _ (List.Mem.tail _ (List.Mem.head _)))))), (List.forall_mem_cons.mpr ⟨(List.Mem.tail _ (List.Mem.head _)), (List.forall_mem_cons.mpr ⟨(List.Mem.head _), (fun q h => absurd h List.not_mem_nil)⟩)⟩)⟩)⟩)⟩)⟩) ?_
            refine L114 ((64 * (x / 64) + 64 - (64 * (x / 64)) : Int)).toNat s116 x y z 0 (64 * (x / 64)) Is116 Gs116 (by omega) (by omega) ?_
            intro s120 x121 x122 Is120 Fs120 hs120
            have b123 : (0 : Int) ≤ iI s120 73 ∧ iI s120 73 ≤ 3 := Is120.1 73
            refine z_load X (x := x121) (show cdA 235 214 = some (.iload 4, 2, 0, 0, 0) from rfl) (List.Mem.tail _ (List.Mem.tail _ (List.Mem.tail _ (List.Mem.tail _ (List.Mem.head _))))) ?_
            exact w_iret X.1 q hRt rfl (ax_d X (show cdA 235 216 = some (.ireturn, 1, 0, 0, 0) from rfl)) (Nat.zero_le _) (Nat.zero_le _) ⟨_, rfl, Is120, Fs120, x121, rfl, ⟨by omega, by omega⟩, trivial⟩
          ·
            refine z_const X (show cdA 235 100 = some (.iconst 0, 1, 0, 0, 0) from rfl) ?_
            exact w_iret X.1 q hRt rfl (ax_d X (show cdA 235 101 = some (.ireturn, 1, 0, 0, 0) from rfl)) (Nat.zero_le _) (Nat.zero_le _) ⟨_, rfl, Is116, Gs116, 0, rfl, ⟨by omega, by omega⟩, trivial⟩
        ·
          refine z_load_n X (x := x) (show cdA 235 49 = some (.iload_n 1, 1, 0, 0, 0) from rfl) (List.Mem.tail _ (List.Mem.head _)) ?_
          refine z_bipush X (show cdA 235 50 = some (.bipush 64, 2, 0, 0, 64) from rfl) ?_
          refine z_quot X (show cdA 235 52 = some (.idiv, 1, 0, 0, 0) from rfl) (by omega) ⟨by omega, by omega⟩ (by omega) ⟨by omega, by omega⟩ ?_
          refine z_load_n X (x := y) (show cdA 235 53 = some (.iload_n 2, 1, 0, 0, 0) from rfl) (List.Mem.tail _ (List.Mem.tail _ (List.Mem.head _))) ?_
          refine z_bipush X (show cdA 235 54 = some (.bipush 64, 2, 0, 0, 64) from rfl) ?_
          refine z_quot X (show cdA 235 56 = some (.idiv, 1, 0, 0, 0) from rfl) (by omega) ⟨by omega, by omega⟩ (by omega) ⟨by omega, by omega⟩ ?_
          refine z_icmp_ne X (t := 88) (show cdA 235 57 = some (.if_icmp .ne 31, 3, 1, 0, 0) from rfl) (by decide) ⟨by omega, by omega⟩ ⟨by omega, by omega⟩ (fun g124 => ?_) (fun g124 => ?_)
          ·
            refine z_const X (show cdA 235 88 = some (.iconst 1, 1, 0, 0, 0) from rfl) ?_
            refine z_goto X (t := 93) (show cdA 235 89 = some (.goto 4, 3, 0, 0, 0) from rfl) (by decide) ?_
            refine z_const X (show cdA 235 93 = some (.iconst 2, 1, 0, 0, 0) from rfl) ?_
            refine z_callV X 179 (rm := rmN 187) (As := [.int (Int32.ofInt 1), .int (Int32.ofInt 2)]) (st := []) (show cdA 235 94 = some (.invokevirtual 229, 3, 187, 0, 0) from rfl) rfl (by decide) rfl (by rw [E.1, E.2.1, E.2.2.1]; exact k_bad G Is113 (by omega) (by omega)) ⟨by rw [E.2.2.2]; exact (show (rmN 187).frames + 1 ≤ (rmN 235).frames by decide), by rw [E.2.2.2]; exact (show 8 + (mNL (miB 187) + 11) + (rmN 187).locals ≤ (rmN 235).locals by decide), by rw [E.2.2.2]; exact (show 0 + (rmN 187).cells ≤ (rmN 235).cells by decide), by rw [E.2.2.2]; exact (show 0 + (rmN 187).slots ≤ (rmN 235).slots by decide)⟩ (Nat.le_of_ble_eq_true rfl) (fun vv s125 hq => ?_) (fun ee s125 hq => ?_)
            rotate_left
            · obtain ⟨Is125, Fs125, e126, hv, hrs125, hps125⟩ := hq; cases hv
            obtain ⟨Is125, Fs125, e126, hv, hrs125, hps125⟩ := hq
            cases hv
            have Gs125 := fm_ts Gs113 Fs125 (by decide) (by decide)
            have b127 : (0 : Int) ≤ iI s125 73 ∧ iI s125 73 ≤ 3 := Is125.1 73
            show WS k 97 [(0, .ref (A 179)), (1, .int (Int32.ofInt x)), (2, .int (Int32.ofInt y)), (3, .int (Int32.ofInt z))] [.int (Int32.ofInt e126)] (Wd A dT s125) 0 0
            refine z_if_eq X (t := 102) (show cdA 235 97 = some (.ifCond .eq 5, 3, 0, 0, 0) from rfl) (by decide) ⟨by omega, by omega⟩ (fun g128 => ?_) (fun g128 => ?_)
            ·
              refine z_const X (show cdA 235 102 = some (.iconst 0, 1, 0, 0, 0) from rfl) ?_
              refine z_store X (lv' := [(4, .int (Int32.ofInt 0)), (0, .ref (A 179)), (1, .int (Int32.ofInt x)), (2, .int (Int32.ofInt y)), (3, .int (Int32.ofInt z))]) (show cdA 235 103 = some (.istore 4, 2, 0, 0, 0) from rfl) (by decide) (fun _ h => h) ?_
              refine z_bipush X (show cdA 235 105 = some (.bipush 64, 2, 0, 0, 64) from rfl) ?_
              refine z_load_n X (x := x) (show cdA 235 107 = some (.iload_n 1, 1, 0, 0, 0) from rfl) (List.Mem.tail _ (List.Mem.tail _ (List.Mem.head _))) ?_
              refine z_bipush X (show cdA 235 108 = some (.bipush 64, 2, 0, 0, 64) from rfl) ?_
              refine z_quot X (show cdA 235 110 = some (.idiv, 1, 0, 0, 0) from rfl) (by omega) ⟨by omega, by omega⟩ (by omega) ⟨by omega, by omega⟩ ?_
              refine z_mul X (show cdA 235 111 = some (.imul, 1, 0, 0, 0) from rfl) ?_
              refine z_store X (lv' := [(5, .int (Int32.ofInt (64 * (x / 64)))), (4, .int (Int32.ofInt 0)), (0, .ref (A 179)), (1, .int (Int32.ofInt x)), (2, .int (Int32.ofInt y)), (3, .int (Int32.ofInt z))]) (show cdA 235 112 = some (.istore 5, 2, 0, 0, 0) from rfl) (by decide) (fun _ h => h) ?_
              refine WS_lv (lv := [(0, .ref (A 179)), (1, .int (Int32.ofInt x)), (2, .int (Int32.ofInt y)), (3, .int (Int32.ofInt z)), (4, .int (Int32.ofInt 0)), (5, .int (Int32.ofInt (64 * (x / 64))))]) (List.forall_mem_cons.mpr ⟨(List.Mem.tail _ (List.Mem.tail _ (List.Mem.head _))), (List.forall_mem_cons.mpr ⟨(List.Mem.tail _ (List.Mem.tail _ (List.Mem.tail _ (List.Mem.head _)))), (List.forall_mem_cons.mpr ⟨(List.Mem.tail _ (List.Mem.tail _ (List.Mem.tail _ (List.Mem.tail _ (List.Mem.head _))))), (List.forall_mem_cons.mpr ⟨(List.Mem.tail _ (List.Mem.tail _ (List.Mem.tail _ (List.Mem.tail _ (List.Mem.tail _ (List.Mem.head _)))))), (List.forall_mem_cons.mpr ⟨(List.Mem.tail _ (List.Mem.head _)), (List.forall_mem_cons.mpr ⟨(List.Mem.head _), (fun q h => absurd h List.not_mem_nil)⟩)⟩)⟩)⟩)⟩)⟩) ?_
              refine L114 ((64 * (x / 64) + 64 - (64 * (x / 64)) : Int)).toNat s125 x y z 0 (64 * (x / 64)) Is125 Gs125 (by omega) (by omega) ?_
              intro s129 x130 x131 Is129 Fs129 hs129
              have b132 : (0 : Int) ≤ iI s129 73 ∧ iI s129 73 ≤ 3 := Is129.1 73
              refine z_load X (x := x130) (show cdA 235 214 = some (.iload 4, 2, 0, 0, 0) from rfl) (List.Mem.tail _ (List.Mem.tail _ (List.Mem.tail _ (List.Mem.tail _ (List.Mem.head _))))) ?_
              exact w_iret X.1 q hRt rfl (ax_d X (show cdA 235 216 = some (.ireturn, 1, 0, 0, 0) from rfl)) (Nat.zero_le _) (Nat.zero_le _) ⟨_, rfl, Is129, Fs129, x130, rfl, ⟨by omega, by omega⟩, trivial⟩
            ·
              refine z_const X (show cdA 235 100 = some (.iconst 0, 1, 0, 0, 0) from rfl) ?_
              exact w_iret X.1 q hRt rfl (ax_d X (show cdA 235 101 = some (.ireturn, 1, 0, 0, 0) from rfl)) (Nat.zero_le _) (Nat.zero_le _) ⟨_, rfl, Is125, Gs125, 0, rfl, ⟨by omega, by omega⟩, trivial⟩
          ·
            refine z_load_n X (x := x) (show cdA 235 60 = some (.iload_n 1, 1, 0, 0, 0) from rfl) (List.Mem.tail _ (List.Mem.head _)) ?_
            refine z_bipush X (show cdA 235 61 = some (.bipush 8, 2, 0, 0, 8) from rfl) ?_
            refine z_mod X (show cdA 235 63 = some (.irem, 1, 0, 0, 0) from rfl) (by omega) ⟨by omega, by omega⟩ (by omega) ⟨by omega, by omega⟩ ?_
            refine z_load_n X (x := y) (show cdA 235 64 = some (.iload_n 2, 1, 0, 0, 0) from rfl) (List.Mem.tail _ (List.Mem.tail _ (List.Mem.head _))) ?_
            refine z_bipush X (show cdA 235 65 = some (.bipush 8, 2, 0, 0, 8) from rfl) ?_
            refine z_mod X (show cdA 235 67 = some (.irem, 1, 0, 0, 0) from rfl) (by omega) ⟨by omega, by omega⟩ (by omega) ⟨by omega, by omega⟩ ?_
            refine z_icmp_gt X (t := 88) (show cdA 235 68 = some (.if_icmp .gt 20, 3, 4, 0, 0) from rfl) (by decide) ⟨by omega, by omega⟩ ⟨by omega, by omega⟩ (fun g133 => ?_) (fun g133 => ?_)
            ·
              refine z_const X (show cdA 235 88 = some (.iconst 1, 1, 0, 0, 0) from rfl) ?_
              refine z_goto X (t := 93) (show cdA 235 89 = some (.goto 4, 3, 0, 0, 0) from rfl) (by decide) ?_
              refine z_const X (show cdA 235 93 = some (.iconst 2, 1, 0, 0, 0) from rfl) ?_
              refine z_callV X 179 (rm := rmN 187) (As := [.int (Int32.ofInt 1), .int (Int32.ofInt 2)]) (st := []) (show cdA 235 94 = some (.invokevirtual 229, 3, 187, 0, 0) from rfl) rfl (by decide) rfl (by rw [E.1, E.2.1, E.2.2.1]; exact k_bad G Is113 (by omega) (by omega)) ⟨by rw [E.2.2.2]; exact (show (rmN 187).frames + 1 ≤ (rmN 235).frames by decide), by rw [E.2.2.2]; exact (show 8 + (mNL (miB 187) + 11) + (rmN 187).locals ≤ (rmN 235).locals by decide), by rw [E.2.2.2]; exact (show 0 + (rmN 187).cells ≤ (rmN 235).cells by decide), by rw [E.2.2.2]; exact (show 0 + (rmN 187).slots ≤ (rmN 235).slots by decide)⟩ (Nat.le_of_ble_eq_true rfl) (fun vv s134 hq => ?_) (fun ee s134 hq => ?_)
              rotate_left
              · obtain ⟨Is134, Fs134, e135, hv, hrs134, hps134⟩ := hq; cases hv
              obtain ⟨Is134, Fs134, e135, hv, hrs134, hps134⟩ := hq
              cases hv
              have Gs134 := fm_ts Gs113 Fs134 (by decide) (by decide)
              have b136 : (0 : Int) ≤ iI s134 73 ∧ iI s134 73 ≤ 3 := Is134.1 73
              show WS k 97 [(0, .ref (A 179)), (1, .int (Int32.ofInt x)), (2, .int (Int32.ofInt y)), (3, .int (Int32.ofInt z))] [.int (Int32.ofInt e135)] (Wd A dT s134) 0 0
              refine z_if_eq X (t := 102) (show cdA 235 97 = some (.ifCond .eq 5, 3, 0, 0, 0) from rfl) (by decide) ⟨by omega, by omega⟩ (fun g137 => ?_) (fun g137 => ?_)
              ·
                refine z_const X (show cdA 235 102 = some (.iconst 0, 1, 0, 0, 0) from rfl) ?_
                refine z_store X (lv' := [(4, .int (Int32.ofInt 0)), (0, .ref (A 179)), (1, .int (Int32.ofInt x)), (2, .int (Int32.ofInt y)), (3, .int (Int32.ofInt z))]) (show cdA 235 103 = some (.istore 4, 2, 0, 0, 0) from rfl) (by decide) (fun _ h => h) ?_
                refine z_bipush X (show cdA 235 105 = some (.bipush 64, 2, 0, 0, 64) from rfl) ?_
                refine z_load_n X (x := x) (show cdA 235 107 = some (.iload_n 1, 1, 0, 0, 0) from rfl) (List.Mem.tail _ (List.Mem.tail _ (List.Mem.head _))) ?_
                refine z_bipush X (show cdA 235 108 = some (.bipush 64, 2, 0, 0, 64) from rfl) ?_
                refine z_quot X (show cdA 235 110 = some (.idiv, 1, 0, 0, 0) from rfl) (by omega) ⟨by omega, by omega⟩ (by omega) ⟨by omega, by omega⟩ ?_
                refine z_mul X (show cdA 235 111 = some (.imul, 1, 0, 0, 0) from rfl) ?_
                refine z_store X (lv' := [(5, .int (Int32.ofInt (64 * (x / 64)))), (4, .int (Int32.ofInt 0)), (0, .ref (A 179)), (1, .int (Int32.ofInt x)), (2, .int (Int32.ofInt y)), (3, .int (Int32.ofInt z))]) (show cdA 235 112 = some (.istore 5, 2, 0, 0, 0) from rfl) (by decide) (fun _ h => h) ?_
                refine WS_lv (lv := [(0, .ref (A 179)), (1, .int (Int32.ofInt x)), (2, .int (Int32.ofInt y)), (3, .int (Int32.ofInt z)), (4, .int (Int32.ofInt 0)), (5, .int (Int32.ofInt (64 * (x / 64))))]) (List.forall_mem_cons.mpr ⟨(List.Mem.tail _ (List.Mem.tail _ (List.Mem.head _))), (List.forall_mem_cons.mpr ⟨(List.Mem.tail _ (List.Mem.tail _ (List.Mem.tail _ (List.Mem.head _)))), (List.forall_mem_cons.mpr ⟨(List.Mem.tail _ (List.Mem.tail _ (List.Mem.tail _ (List.Mem.tail _ (List.Mem.head _))))), (List.forall_mem_cons.mpr ⟨(List.Mem.tail _ (List.Mem.tail _ (List.Mem.tail _ (List.Mem.tail _ (List.Mem.tail _ (List.Mem.head _)))))), (List.forall_mem_cons.mpr ⟨(List.Mem.tail _ (List.Mem.head _)), (List.forall_mem_cons.mpr ⟨(List.Mem.head _), (fun q h => absurd h List.not_mem_nil)⟩)⟩)⟩)⟩)⟩)⟩) ?_
                refine L114 ((64 * (x / 64) + 64 - (64 * (x / 64)) : Int)).toNat s134 x y z 0 (64 * (x / 64)) Is134 Gs134 (by omega) (by omega) ?_
                intro s138 x139 x140 Is138 Fs138 hs138
                have b141 : (0 : Int) ≤ iI s138 73 ∧ iI s138 73 ≤ 3 := Is138.1 73
                refine z_load X (x := x139) (show cdA 235 214 = some (.iload 4, 2, 0, 0, 0) from rfl) (List.Mem.tail _ (List.Mem.tail _ (List.Mem.tail _ (List.Mem.tail _ (List.Mem.head _))))) ?_
                exact w_iret X.1 q hRt rfl (ax_d X (show cdA 235 216 = some (.ireturn, 1, 0, 0, 0) from rfl)) (Nat.zero_le _) (Nat.zero_le _) ⟨_, rfl, Is138, Fs138, x139, rfl, ⟨by omega, by omega⟩, trivial⟩
              ·
                refine z_const X (show cdA 235 100 = some (.iconst 0, 1, 0, 0, 0) from rfl) ?_
                exact w_iret X.1 q hRt rfl (ax_d X (show cdA 235 101 = some (.ireturn, 1, 0, 0, 0) from rfl)) (Nat.zero_le _) (Nat.zero_le _) ⟨_, rfl, Is134, Gs134, 0, rfl, ⟨by omega, by omega⟩, trivial⟩
            ·
              refine z_load_n X (x := x) (show cdA 235 71 = some (.iload_n 1, 1, 0, 0, 0) from rfl) (List.Mem.tail _ (List.Mem.head _)) ?_
              refine z_bipush X (show cdA 235 72 = some (.bipush 8, 2, 0, 0, 8) from rfl) ?_
              refine z_quot X (show cdA 235 74 = some (.idiv, 1, 0, 0, 0) from rfl) (by omega) ⟨by omega, by omega⟩ (by omega) ⟨by omega, by omega⟩ ?_
              refine z_bipush X (show cdA 235 75 = some (.bipush 8, 2, 0, 0, 8) from rfl) ?_
              refine z_mod X (show cdA 235 77 = some (.irem, 1, 0, 0, 0) from rfl) (by omega) ⟨by omega, by omega⟩ (by omega) ⟨by omega, by omega⟩ ?_
              refine z_load_n X (x := y) (show cdA 235 78 = some (.iload_n 2, 1, 0, 0, 0) from rfl) (List.Mem.tail _ (List.Mem.tail _ (List.Mem.head _))) ?_
              refine z_bipush X (show cdA 235 79 = some (.bipush 8, 2, 0, 0, 8) from rfl) ?_
              refine z_quot X (show cdA 235 81 = some (.idiv, 1, 0, 0, 0) from rfl) (by omega) ⟨by omega, by omega⟩ (by omega) ⟨by omega, by omega⟩ ?_
              refine z_bipush X (show cdA 235 82 = some (.bipush 8, 2, 0, 0, 8) from rfl) ?_
              refine z_mod X (show cdA 235 84 = some (.irem, 1, 0, 0, 0) from rfl) (by omega) ⟨by omega, by omega⟩ (by omega) ⟨by omega, by omega⟩ ?_
              refine z_icmp_le X (t := 92) (show cdA 235 85 = some (.if_icmp .le 7, 3, 5, 0, 0) from rfl) (by decide) ⟨by omega, by omega⟩ ⟨by omega, by omega⟩ (fun g142 => ?_) (fun g142 => ?_)
              ·
                refine z_const X (show cdA 235 92 = some (.iconst 0, 1, 0, 0, 0) from rfl) ?_
                refine z_const X (show cdA 235 93 = some (.iconst 2, 1, 0, 0, 0) from rfl) ?_
                refine z_callV X 179 (rm := rmN 187) (As := [.int (Int32.ofInt 0), .int (Int32.ofInt 2)]) (st := []) (show cdA 235 94 = some (.invokevirtual 229, 3, 187, 0, 0) from rfl) rfl (by decide) rfl (by rw [E.1, E.2.1, E.2.2.1]; exact k_bad G Is113 (by omega) (by omega)) ⟨by rw [E.2.2.2]; exact (show (rmN 187).frames + 1 ≤ (rmN 235).frames by decide), by rw [E.2.2.2]; exact (show 8 + (mNL (miB 187) + 11) + (rmN 187).locals ≤ (rmN 235).locals by decide), by rw [E.2.2.2]; exact (show 0 + (rmN 187).cells ≤ (rmN 235).cells by decide), by rw [E.2.2.2]; exact (show 0 + (rmN 187).slots ≤ (rmN 235).slots by decide)⟩ (Nat.le_of_ble_eq_true rfl) (fun vv s143 hq => ?_) (fun ee s143 hq => ?_)
                rotate_left
                · obtain ⟨Is143, Fs143, e144, hv, hrs143, hps143⟩ := hq; cases hv
                obtain ⟨Is143, Fs143, e144, hv, hrs143, hps143⟩ := hq
                cases hv
                have Gs143 := fm_ts Gs113 Fs143 (by decide) (by decide)
                have b145 : (0 : Int) ≤ iI s143 73 ∧ iI s143 73 ≤ 3 := Is143.1 73
                show WS k 97 [(0, .ref (A 179)), (1, .int (Int32.ofInt x)), (2, .int (Int32.ofInt y)), (3, .int (Int32.ofInt z))] [.int (Int32.ofInt e144)] (Wd A dT s143) 0 0
                refine z_if_eq X (t := 102) (show cdA 235 97 = some (.ifCond .eq 5, 3, 0, 0, 0) from rfl) (by decide) ⟨by omega, by omega⟩ (fun g146 => ?_) (fun g146 => ?_)
                ·
                  refine z_const X (show cdA 235 102 = some (.iconst 0, 1, 0, 0, 0) from rfl) ?_
                  refine z_store X (lv' := [(4, .int (Int32.ofInt 0)), (0, .ref (A 179)), (1, .int (Int32.ofInt x)), (2, .int (Int32.ofInt y)), (3, .int (Int32.ofInt z))]) (show cdA 235 103 = some (.istore 4, 2, 0, 0, 0) from rfl) (by decide) (fun _ h => h) ?_
                  refine z_bipush X (show cdA 235 105 = some (.bipush 64, 2, 0, 0, 64) from rfl) ?_
                  refine z_load_n X (x := x) (show cdA 235 107 = some (.iload_n 1, 1, 0, 0, 0) from rfl) (List.Mem.tail _ (List.Mem.tail _ (List.Mem.head _))) ?_
                  refine z_bipush X (show cdA 235 108 = some (.bipush 64, 2, 0, 0, 64) from rfl) ?_
                  refine z_quot X (show cdA 235 110 = some (.idiv, 1, 0, 0, 0) from rfl) (by omega) ⟨by omega, by omega⟩ (by omega) ⟨by omega, by omega⟩ ?_
                  refine z_mul X (show cdA 235 111 = some (.imul, 1, 0, 0, 0) from rfl) ?_
                  refine z_store X (lv' := [(5, .int (Int32.ofInt (64 * (x / 64)))), (4, .int (Int32.ofInt 0)), (0, .ref (A 179)), (1, .int (Int32.ofInt x)), (2, .int (Int32.ofInt y)), (3, .int (Int32.ofInt z))]) (show cdA 235 112 = some (.istore 5, 2, 0, 0, 0) from rfl) (by decide) (fun _ h => h) ?_
                  refine WS_lv (lv := [(0, .ref (A 179)), (1, .int (Int32.ofInt x)), (2, .int (Int32.ofInt y)), (3, .int (Int32.ofInt z)), (4, .int (Int32.ofInt 0)), (5, .int (Int32.ofInt (64 * (x / 64))))]) (List.forall_mem_cons.mpr ⟨(List.Mem.tail _ (List.Mem.tail _ (List.Mem.head _))), (List.forall_mem_cons.mpr ⟨(List.Mem.tail _ (List.Mem.tail _ (List.Mem.tail _ (List.Mem.head _)))), (List.forall_mem_cons.mpr ⟨(List.Mem.tail _ (List.Mem.tail _ (List.Mem.tail _ (List.Mem.tail _ (List.Mem.head _))))), (List.forall_mem_cons.mpr ⟨(List.Mem.tail _ (List.Mem.tail _ (List.Mem.tail _ (List.Mem.tail _ (List.Mem.tail _ (List.Mem.head _)))))), (List.forall_mem_cons.mpr ⟨(List.Mem.tail _ (List.Mem.head _)), (List.forall_mem_cons.mpr ⟨(List.Mem.head _), (fun q h => absurd h List.not_mem_nil)⟩)⟩)⟩)⟩)⟩)⟩) ?_
                  refine L114 ((64 * (x / 64) + 64 - (64 * (x / 64)) : Int)).toNat s143 x y z 0 (64 * (x / 64)) Is143 Gs143 (by omega) (by omega) ?_
                  intro s147 x148 x149 Is147 Fs147 hs147
                  have b150 : (0 : Int) ≤ iI s147 73 ∧ iI s147 73 ≤ 3 := Is147.1 73
                  refine z_load X (x := x148) (show cdA 235 214 = some (.iload 4, 2, 0, 0, 0) from rfl) (List.Mem.tail _ (List.Mem.tail _ (List.Mem.tail _ (List.Mem.tail _ (List.Mem.head _))))) ?_
                  exact w_iret X.1 q hRt rfl (ax_d X (show cdA 235 216 = some (.ireturn, 1, 0, 0, 0) from rfl)) (Nat.zero_le _) (Nat.zero_le _) ⟨_, rfl, Is147, Fs147, x148, rfl, ⟨by omega, by omega⟩, trivial⟩
                ·
                  refine z_const X (show cdA 235 100 = some (.iconst 0, 1, 0, 0, 0) from rfl) ?_
                  exact w_iret X.1 q hRt rfl (ax_d X (show cdA 235 101 = some (.ireturn, 1, 0, 0, 0) from rfl)) (Nat.zero_le _) (Nat.zero_le _) ⟨_, rfl, Is143, Gs143, 0, rfl, ⟨by omega, by omega⟩, trivial⟩
              ·
                refine z_const X (show cdA 235 88 = some (.iconst 1, 1, 0, 0, 0) from rfl) ?_
                refine z_goto X (t := 93) (show cdA 235 89 = some (.goto 4, 3, 0, 0, 0) from rfl) (by decide) ?_
                refine z_const X (show cdA 235 93 = some (.iconst 2, 1, 0, 0, 0) from rfl) ?_
                refine z_callV X 179 (rm := rmN 187) (As := [.int (Int32.ofInt 1), .int (Int32.ofInt 2)]) (st := []) (show cdA 235 94 = some (.invokevirtual 229, 3, 187, 0, 0) from rfl) rfl (by decide) rfl (by rw [E.1, E.2.1, E.2.2.1]; exact k_bad G Is113 (by omega) (by omega)) ⟨by rw [E.2.2.2]; exact (show (rmN 187).frames + 1 ≤ (rmN 235).frames by decide), by rw [E.2.2.2]; exact (show 8 + (mNL (miB 187) + 11) + (rmN 187).locals ≤ (rmN 235).locals by decide), by rw [E.2.2.2]; exact (show 0 + (rmN 187).cells ≤ (rmN 235).cells by decide), by rw [E.2.2.2]; exact (show 0 + (rmN 187).slots ≤ (rmN 235).slots by decide)⟩ (Nat.le_of_ble_eq_true rfl) (fun vv s151 hq => ?_) (fun ee s151 hq => ?_)
                rotate_left
                · obtain ⟨Is151, Fs151, e152, hv, hrs151, hps151⟩ := hq; cases hv
                obtain ⟨Is151, Fs151, e152, hv, hrs151, hps151⟩ := hq
                cases hv
                have Gs151 := fm_ts Gs113 Fs151 (by decide) (by decide)
                have b153 : (0 : Int) ≤ iI s151 73 ∧ iI s151 73 ≤ 3 := Is151.1 73
                show WS k 97 [(0, .ref (A 179)), (1, .int (Int32.ofInt x)), (2, .int (Int32.ofInt y)), (3, .int (Int32.ofInt z))] [.int (Int32.ofInt e152)] (Wd A dT s151) 0 0
                refine z_if_eq X (t := 102) (show cdA 235 97 = some (.ifCond .eq 5, 3, 0, 0, 0) from rfl) (by decide) ⟨by omega, by omega⟩ (fun g154 => ?_) (fun g154 => ?_)
                ·
                  refine z_const X (show cdA 235 102 = some (.iconst 0, 1, 0, 0, 0) from rfl) ?_
                  refine z_store X (lv' := [(4, .int (Int32.ofInt 0)), (0, .ref (A 179)), (1, .int (Int32.ofInt x)), (2, .int (Int32.ofInt y)), (3, .int (Int32.ofInt z))]) (show cdA 235 103 = some (.istore 4, 2, 0, 0, 0) from rfl) (by decide) (fun _ h => h) ?_
                  refine z_bipush X (show cdA 235 105 = some (.bipush 64, 2, 0, 0, 64) from rfl) ?_
                  refine z_load_n X (x := x) (show cdA 235 107 = some (.iload_n 1, 1, 0, 0, 0) from rfl) (List.Mem.tail _ (List.Mem.tail _ (List.Mem.head _))) ?_
                  refine z_bipush X (show cdA 235 108 = some (.bipush 64, 2, 0, 0, 64) from rfl) ?_
                  refine z_quot X (show cdA 235 110 = some (.idiv, 1, 0, 0, 0) from rfl) (by omega) ⟨by omega, by omega⟩ (by omega) ⟨by omega, by omega⟩ ?_
                  refine z_mul X (show cdA 235 111 = some (.imul, 1, 0, 0, 0) from rfl) ?_
                  refine z_store X (lv' := [(5, .int (Int32.ofInt (64 * (x / 64)))), (4, .int (Int32.ofInt 0)), (0, .ref (A 179)), (1, .int (Int32.ofInt x)), (2, .int (Int32.ofInt y)), (3, .int (Int32.ofInt z))]) (show cdA 235 112 = some (.istore 5, 2, 0, 0, 0) from rfl) (by decide) (fun _ h => h) ?_
                  refine WS_lv (lv := [(0, .ref (A 179)), (1, .int (Int32.ofInt x)), (2, .int (Int32.ofInt y)), (3, .int (Int32.ofInt z)), (4, .int (Int32.ofInt 0)), (5, .int (Int32.ofInt (64 * (x / 64))))]) (List.forall_mem_cons.mpr ⟨(List.Mem.tail _ (List.Mem.tail _ (List.Mem.head _))), (List.forall_mem_cons.mpr ⟨(List.Mem.tail _ (List.Mem.tail _ (List.Mem.tail _ (List.Mem.head _)))), (List.forall_mem_cons.mpr ⟨(List.Mem.tail _ (List.Mem.tail _ (List.Mem.tail _ (List.Mem.tail _ (List.Mem.head _))))), (List.forall_mem_cons.mpr ⟨(List.Mem.tail _ (List.Mem.tail _ (List.Mem.tail _ (List.Mem.tail _ (List.Mem.tail _ (List.Mem.head _)))))), (List.forall_mem_cons.mpr ⟨(List.Mem.tail _ (List.Mem.head _)), (List.forall_mem_cons.mpr ⟨(List.Mem.head _), (fun q h => absurd h List.not_mem_nil)⟩)⟩)⟩)⟩)⟩)⟩) ?_
                  refine L114 ((64 * (x / 64) + 64 - (64 * (x / 64)) : Int)).toNat s151 x y z 0 (64 * (x / 64)) Is151 Gs151 (by omega) (by omega) ?_
                  intro s155 x156 x157 Is155 Fs155 hs155
                  have b158 : (0 : Int) ≤ iI s155 73 ∧ iI s155 73 ≤ 3 := Is155.1 73
                  refine z_load X (x := x156) (show cdA 235 214 = some (.iload 4, 2, 0, 0, 0) from rfl) (List.Mem.tail _ (List.Mem.tail _ (List.Mem.tail _ (List.Mem.tail _ (List.Mem.head _))))) ?_
                  exact w_iret X.1 q hRt rfl (ax_d X (show cdA 235 216 = some (.ireturn, 1, 0, 0, 0) from rfl)) (Nat.zero_le _) (Nat.zero_le _) ⟨_, rfl, Is155, Fs155, x156, rfl, ⟨by omega, by omega⟩, trivial⟩
                ·
                  refine z_const X (show cdA 235 100 = some (.iconst 0, 1, 0, 0, 0) from rfl) ?_
                  exact w_iret X.1 q hRt rfl (ax_d X (show cdA 235 101 = some (.ireturn, 1, 0, 0, 0) from rfl)) (Nat.zero_le _) (Nat.zero_le _) ⟨_, rfl, Is151, Gs151, 0, rfl, ⟨by omega, by omega⟩, trivial⟩
end M39
