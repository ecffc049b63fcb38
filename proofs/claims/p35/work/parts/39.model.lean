/-! The model: paint -/
section M39
variable {l : Launch} {s0 : State} {D : va_G} {tys : List (ClassId × FieldType)} {a0 : Array Value} {A : Nat → Nat} {dT : Nat → ClassId} {s : PS}
theorem k_paint (G : GX l s0 D tys a0 dT) (I : Bd s) {x y z : Int} (p0 : rng x) (p1 : rng y) (p2 : rng z) : CT l s0 D A dT 235 (rmN 235) [.ref (A 179), .int (Int32.ofInt x), .int (Int32.ofInt y), .int (Int32.ofInt z)] s (fun o t => Bd t ∧ Fm [73] [228] s t ∧ ∃ e, o = .inl (some (.int (Int32.ofInt e))) ∧ rng e ∧ (True)) := by
  refine ct_of G (by decide) (Nat.le_of_ble_eq_true rfl) (fun k X E hRt hXt q => ?_)
  show WS k 0 [(0, .ref (A 179)), (1, .int (Int32.ofInt x)), (2, .int (Int32.ofInt y)), (3, .int (Int32.ofInt z))] [] _ 0 0
  have F : Fm [73] [228] s s := fm_rf _ _ s
  have b1 : (0 : Int) ≤ iI s 73 ∧ iI s 73 ≤ 3 := I.1 73
  have L114 : ∀ (n : Nat) (t : PS) (xv yv zv nv c : Int), Bd t → Fm [73] [228] s t → ((0 ≤ xv ∧ xv ≤ 127) ∧ (0 ≤ yv ∧ yv ≤ 127) ∧ (-1 ≤ zv ∧ zv ≤ 7) ∧ 0 ≤ nv ∧ nv ≤ c ∧ 64 * (xv / 64) ≤ c ∧ c ≤ 64 * (xv / 64) + 64) → (64 * (xv / 64) + 64 - c : Int).toNat < n → (∀ (t' : PS) (nv' c' : Int), Bd t' → Fm [73] [228] s t' → ((0 ≤ xv ∧ xv ≤ 127) ∧ (0 ≤ yv ∧ yv ≤ 127) ∧ (-1 ≤ zv ∧ zv ≤ 7) ∧ 0 ≤ nv' ∧ nv' ≤ c' ∧ 64 * (xv / 64) ≤ c' ∧ c' ≤ 64 * (xv / 64) + 64) → WS k 214 [(0, .ref (A 179)), (1, .int (Int32.ofInt xv)), (2, .int (Int32.ofInt yv)), (3, .int (Int32.ofInt zv)), (4, .int (Int32.ofInt nv')), (5, .int (Int32.ofInt c'))] [] (Wd A dT t') 0 0) → WS k 114 [(0, .ref (A 179)), (1, .int (Int32.ofInt xv)), (2, .int (Int32.ofInt yv)), (3, .int (Int32.ofInt zv)), (4, .int (Int32.ofInt nv)), (5, .int (Int32.ofInt c))] [] (Wd A dT t) 0 0 := by
    intro n
    induction n with
    | zero =>
      intro t xv yv zv nv c I F hi hm kx
      exact absurd hm (Nat.not_lt_zero _)
    | succ n ih =>
      intro t xv yv zv nv c I F hi hm kx
      have b1001 : (0 : Int) ≤ iI t 73 ∧ iI t 73 ≤ 3 := I.1 73
      refine z_load X (x := c) (show cdA 235 114 = some (.iload 5, 2, 0, 0, 0) from rfl) (List.Mem.tail _ (List.Mem.tail _ (List.Mem.tail _ (List.Mem.tail _ (List.Mem.tail _ (List.Mem.head _)))))) ?_
      refine z_bipush X (show cdA 235 116 = some (.bipush 64, 2, 0, 0, 64) from rfl) ?_
      refine z_load_n X (x := xv) (show cdA 235 118 = some (.iload_n 1, 1, 0, 0, 0) from rfl) (List.Mem.tail _ (List.Mem.head _)) ?_
      refine z_bipush X (show cdA 235 119 = some (.bipush 64, 2, 0, 0, 64) from rfl) ?_
      refine z_quot X (show cdA 235 121 = some (.idiv, 1, 0, 0, 0) from rfl) (by first | exact hi.1.1 | omega) ⟨by first | exact oq_fa4e5087 hi.1.1 | omega, by first | exact oq_07d346ce hi.1.2 | omega⟩ (by decide) (by decide) ?_
      refine z_mul X (show cdA 235 122 = some (.imul, 1, 0, 0, 0) from rfl) ?_
      refine z_bipush X (show cdA 235 123 = some (.bipush 64, 2, 0, 0, 64) from rfl) ?_
      refine z_add X (show cdA 235 125 = some (.iadd, 1, 0, 0, 0) from rfl) ?_
      refine z_icmp_ge X (t := 214) (show cdA 235 126 = some (.if_icmp .ge 88, 3, 3, 0, 0) from rfl) (by decide) ⟨by first | exact oq_e001bc0d hi.2.2.2.2.1 hi.2.2.2.1 | omega, by first | exact oq_58735585 hi.2.2.2.2.2.2 hi.1.2 | omega⟩ ⟨by first | exact oq_b5059247 hi.2.2.2.2.2.2 hi.2.2.2.2.1 hi.2.2.2.1 | omega, by first | exact oq_9cbdfb3c hi.1.2 | omega⟩ (fun g1002 => ?_) (fun g1002 => ?_)
      ·
        refine WS_lv (lv := [(0, .ref (A 179)), (1, .int (Int32.ofInt xv)), (2, .int (Int32.ofInt yv)), (3, .int (Int32.ofInt zv)), (4, .int (Int32.ofInt nv)), (5, .int (Int32.ofInt c))]) (List.forall_mem_cons.mpr ⟨(List.Mem.head _), (List.forall_mem_cons.mpr ⟨(List.Mem.tail _ (List.Mem.head _)), (List.forall_mem_cons.mpr ⟨(List.Mem.tail _ (List.Mem.tail _ (List.Mem.head _))), (List.forall_mem_cons.mpr ⟨(List.Mem.tail _ (List.Mem.tail _ (List.Mem.tail _ (List.Mem.head _)))), (List.forall_mem_cons.mpr ⟨(List.Mem.tail _ (List.Mem.tail _ (List.Mem.tail _ (List.Mem.tail _ (List.Mem.head _))))), (List.forall_mem_cons.mpr ⟨(List.Mem.tail _ (List.Mem.tail _ (List.Mem.tail _ (List.Mem.tail _ (List.Mem.tail _ (List.Mem.head _)))))), (fun q h => absurd h List.not_mem_nil)⟩)⟩)⟩)⟩)⟩)⟩) ?_
        exact kx _ nv c I F (by first | exact ⟨And.intro (hi.1.1) (hi.1.2), And.intro (hi.2.1.1) (hi.2.1.2), And.intro (hi.2.2.1.1) (hi.2.2.1.2), hi.2.2.2.1, hi.2.2.2.2.1, hi.2.2.2.2.2.1, hi.2.2.2.2.2.2⟩ | omega)
      ·
        refine z_load X (x := c) (show cdA 235 129 = some (.iload 5, 2, 0, 0, 0) from rfl) (List.Mem.tail _ (List.Mem.tail _ (List.Mem.tail _ (List.Mem.tail _ (List.Mem.tail _ (List.Mem.head _)))))) ?_
        refine z_bipush X (show cdA 235 131 = some (.bipush 8, 2, 0, 0, 8) from rfl) ?_
        refine z_mod X (show cdA 235 133 = some (.irem, 1, 0, 0, 0) from rfl) (by first | exact oq_12a1f9e1 hi.2.2.2.2.1 hi.2.2.2.1 | omega) ⟨by first | exact oq_e001bc0d hi.2.2.2.2.1 hi.2.2.2.1 | omega, by first | exact oq_722d72a6 g1002 hi.1.2 | omega⟩ (by decide) (by decide) ?_
        refine z_load_n X (x := xv) (show cdA 235 134 = some (.iload_n 1, 1, 0, 0, 0) from rfl) (List.Mem.tail _ (List.Mem.head _)) ?_
        refine z_bipush X (show cdA 235 135 = some (.bipush 8, 2, 0, 0, 8) from rfl) ?_
        refine z_mod X (show cdA 235 137 = some (.irem, 1, 0, 0, 0) from rfl) (by first | exact hi.1.1 | omega) ⟨by first | exact oq_fa4e5087 hi.1.1 | omega, by first | exact oq_07d346ce hi.1.2 | omega⟩ (by decide) (by decide) ?_
        refine z_load_n X (x := yv) (show cdA 235 138 = some (.iload_n 2, 1, 0, 0, 0) from rfl) (List.Mem.tail _ (List.Mem.tail _ (List.Mem.head _))) ?_
        refine z_bipush X (show cdA 235 139 = some (.bipush 8, 2, 0, 0, 8) from rfl) ?_
        refine z_mod X (show cdA 235 141 = some (.irem, 1, 0, 0, 0) from rfl) (by first | exact hi.2.1.1 | omega) ⟨by first | exact oq_fa4e5087 hi.2.1.1 | omega, by first | exact oq_07d346ce hi.2.1.2 | omega⟩ (by decide) (by decide) ?_
        refine z_callS X (rm := rmN 188) (As := [.int (Int32.ofInt (c % 8)), .int (Int32.ofInt (xv % 8)), .int (Int32.ofInt (yv % 8))]) (st := []) (show cdA 235 142 = some (.invokestatic 209, 3, 188, 1, 0) from rfl) rfl (by rw [E.1, E.2.1, E.2.2.1]; exact k_in G I (by first | exact ⟨oq_e86162eb, oq_70086759⟩ | omega) (by first | exact ⟨oq_e86162eb, oq_70086759⟩ | omega) (by first | exact ⟨oq_e86162eb, oq_70086759⟩ | omega)) ⟨by rw [E.2.2.2]; exact (show (rmN 188).frames + 1 ≤ (rmN 235).frames by decide), by rw [E.2.2.2]; exact (show 8 + (mNL (miB 188) + 11) + (rmN 188).locals ≤ (rmN 235).locals by decide), by rw [E.2.2.2]; exact (show 0 + (rmN 188).cells ≤ (rmN 235).cells by decide), by rw [E.2.2.2]; exact (show 0 + (rmN 188).slots ≤ (rmN 235).slots by decide)⟩ (Nat.le_of_ble_eq_true rfl) (fun vv s1003 hq => ?_) (fun ee s1003 hq => ?_)
        rotate_left
        · obtain ⟨Is1003, Fs1003, e1004, hv, hrs1003, hps1003⟩ := hq; cases hv
        obtain ⟨Is1003, Fs1003, e1004, hv, hrs1003, hps1003⟩ := hq
        cases hv
        have Gs1003 := fm_ts F Fs1003 (by decide) (by decide)
        have ws1003_73 : iI s1003 73 = iI t 73 := fm_i Fs1003 (by decide)
        show WS k 145 [(0, .ref (A 179)), (1, .int (Int32.ofInt xv)), (2, .int (Int32.ofInt yv)), (3, .int (Int32.ofInt zv)), (4, .int (Int32.ofInt nv)), (5, .int (Int32.ofInt c))] [.int (Int32.ofInt e1004)] (Wd A dT s1003) 0 0
        refine z_if_eq X (t := 208) (show cdA 235 145 = some (.ifCond .eq 63, 3, 0, 0, 0) from rfl) (by decide) hrs1003 (fun g1005 => ?_) (fun g1005 => ?_)
        ·
          refine z_inc X (x := c) (lv' := [(5, .int (Int32.ofInt (c + 1))), (0, .ref (A 179)), (1, .int (Int32.ofInt xv)), (2, .int (Int32.ofInt yv)), (3, .int (Int32.ofInt zv)), (4, .int (Int32.ofInt nv))]) (show cdA 235 208 = some (.iinc 5 1, 3, 0, 0, 0) from rfl) (by decide) (List.Mem.tail _ (List.Mem.tail _ (List.Mem.tail _ (List.Mem.tail _ (List.Mem.tail _ (List.Mem.head _)))))) (fun _ h => h) ?_
          refine z_goto X (t := 114) (show cdA 235 211 = some (.goto (-97), 3, 0, 0, 0) from rfl) (by decide) ?_
          refine WS_lv (lv := [(0, .ref (A 179)), (1, .int (Int32.ofInt xv)), (2, .int (Int32.ofInt yv)), (3, .int (Int32.ofInt zv)), (4, .int (Int32.ofInt nv)), (5, .int (Int32.ofInt (c + 1)))]) (List.forall_mem_cons.mpr ⟨(List.Mem.tail _ (List.Mem.head _)), (List.forall_mem_cons.mpr ⟨(List.Mem.tail _ (List.Mem.tail _ (List.Mem.head _))), (List.forall_mem_cons.mpr ⟨(List.Mem.tail _ (List.Mem.tail _ (List.Mem.tail _ (List.Mem.head _)))), (List.forall_mem_cons.mpr ⟨(List.Mem.tail _ (List.Mem.tail _ (List.Mem.tail _ (List.Mem.tail _ (List.Mem.head _))))), (List.forall_mem_cons.mpr ⟨(List.Mem.tail _ (List.Mem.tail _ (List.Mem.tail _ (List.Mem.tail _ (List.Mem.tail _ (List.Mem.head _)))))), (List.forall_mem_cons.mpr ⟨(List.Mem.head _), (fun q h => absurd h List.not_mem_nil)⟩)⟩)⟩)⟩)⟩)⟩) ?_
          exact ih _ xv yv zv nv (c + 1) Is1003 Gs1003 (by first | exact ⟨And.intro (hi.1.1) (hi.1.2), And.intro (hi.2.1.1) (hi.2.1.2), And.intro (hi.2.2.1.1) (hi.2.2.1.2), hi.2.2.2.1, oq_03182e9e hi.2.2.2.2.1, oq_0501f4f7 hi.2.2.2.2.2.1, oq_1d10317a g1002⟩ | omega) (by first | exact qk_me hm (by decide) (oq_c0915417 g1002) | omega) kx
        ·
          refine z_load X (x := c) (show cdA 235 148 = some (.iload 5, 2, 0, 0, 0) from rfl) (List.Mem.tail _ (List.Mem.tail _ (List.Mem.tail _ (List.Mem.tail _ (List.Mem.tail _ (List.Mem.head _)))))) ?_
          refine z_bipush X (show cdA 235 150 = some (.bipush 8, 2, 0, 0, 8) from rfl) ?_
          refine z_quot X (show cdA 235 152 = some (.idiv, 1, 0, 0, 0) from rfl) (by first | exact oq_12a1f9e1 hi.2.2.2.2.1 hi.2.2.2.1 | omega) ⟨by first | exact oq_e001bc0d hi.2.2.2.2.1 hi.2.2.2.1 | omega, by first | exact oq_722d72a6 g1002 hi.1.2 | omega⟩ (by decide) (by decide) ?_
          refine z_bipush X (show cdA 235 153 = some (.bipush 8, 2, 0, 0, 8) from rfl) ?_
          refine z_mod X (show cdA 235 155 = some (.irem, 1, 0, 0, 0) from rfl) (by first | exact oq_36b78649 hi.2.2.2.2.1 hi.2.2.2.1 | omega) ⟨by first | exact oq_fb4875cb hi.2.2.2.2.1 hi.2.2.2.1 | omega, by first | exact oq_c356bf53 g1002 hi.1.2 | omega⟩ (by decide) (by decide) ?_
          refine z_load_n X (x := xv) (show cdA 235 156 = some (.iload_n 1, 1, 0, 0, 0) from rfl) (List.Mem.tail _ (List.Mem.head _)) ?_
          refine z_bipush X (show cdA 235 157 = some (.bipush 8, 2, 0, 0, 8) from rfl) ?_
          refine z_quot X (show cdA 235 159 = some (.idiv, 1, 0, 0, 0) from rfl) (by first | exact hi.1.1 | omega) ⟨by first | exact oq_fa4e5087 hi.1.1 | omega, by first | exact oq_07d346ce hi.1.2 | omega⟩ (by decide) (by decide) ?_
          refine z_bipush X (show cdA 235 160 = some (.bipush 8, 2, 0, 0, 8) from rfl) ?_
          refine z_mod X (show cdA 235 162 = some (.irem, 1, 0, 0, 0) from rfl) (by first | exact oq_064ec12a hi.1.1 | omega) ⟨by first | exact oq_e9761868 hi.1.1 | omega, by first | exact oq_9e7a8b87 hi.1.2 | omega⟩ (by decide) (by decide) ?_
          refine z_load_n X (x := yv) (show cdA 235 163 = some (.iload_n 2, 1, 0, 0, 0) from rfl) (List.Mem.tail _ (List.Mem.tail _ (List.Mem.head _))) ?_
          refine z_bipush X (show cdA 235 164 = some (.bipush 8, 2, 0, 0, 8) from rfl) ?_
          refine z_quot X (show cdA 235 166 = some (.idiv, 1, 0, 0, 0) from rfl) (by first | exact hi.2.1.1 | omega) ⟨by first | exact oq_fa4e5087 hi.2.1.1 | omega, by first | exact oq_07d346ce hi.2.1.2 | omega⟩ (by decide) (by decide) ?_
          refine z_bipush X (show cdA 235 167 = some (.bipush 8, 2, 0, 0, 8) from rfl) ?_
          refine z_mod X (show cdA 235 169 = some (.irem, 1, 0, 0, 0) from rfl) (by first | exact oq_064ec12a hi.2.1.1 | omega) ⟨by first | exact oq_e9761868 hi.2.1.1 | omega, by first | exact oq_9e7a8b87 hi.2.1.2 | omega⟩ (by decide) (by decide) ?_
          refine z_callS X (rm := rmN 188) (As := [.int (Int32.ofInt ((c / 8) % 8)), .int (Int32.ofInt ((xv / 8) % 8)), .int (Int32.ofInt ((yv / 8) % 8))]) (st := []) (show cdA 235 170 = some (.invokestatic 209, 3, 188, 1, 0) from rfl) rfl (by rw [E.1, E.2.1, E.2.2.1]; exact k_in G Is1003 (by first | exact ⟨oq_452e8fda, oq_267eaf70⟩ | omega) (by first | exact ⟨oq_452e8fda, oq_267eaf70⟩ | omega) (by first | exact ⟨oq_452e8fda, oq_267eaf70⟩ | omega)) ⟨by rw [E.2.2.2]; exact (show (rmN 188).frames + 1 ≤ (rmN 235).frames by decide), by rw [E.2.2.2]; exact (show 8 + (mNL (miB 188) + 11) + (rmN 188).locals ≤ (rmN 235).locals by decide), by rw [E.2.2.2]; exact (show 0 + (rmN 188).cells ≤ (rmN 235).cells by decide), by rw [E.2.2.2]; exact (show 0 + (rmN 188).slots ≤ (rmN 235).slots by decide)⟩ (Nat.le_of_ble_eq_true rfl) (fun vv s1006 hq => ?_) (fun ee s1006 hq => ?_)
          rotate_left
          · obtain ⟨Is1006, Fs1006, e1007, hv, hrs1006, hps1006⟩ := hq; cases hv
          obtain ⟨Is1006, Fs1006, e1007, hv, hrs1006, hps1006⟩ := hq
          cases hv
          have Gs1006 := fm_ts Gs1003 Fs1006 (by decide) (by decide)
          have ws1006_73 : iI s1006 73 = iI s1003 73 := fm_i Fs1006 (by decide)
          show WS k 173 [(0, .ref (A 179)), (1, .int (Int32.ofInt xv)), (2, .int (Int32.ofInt yv)), (3, .int (Int32.ofInt zv)), (4, .int (Int32.ofInt nv)), (5, .int (Int32.ofInt c))] [.int (Int32.ofInt e1007)] (Wd A dT s1006) 0 0
          refine z_if_ne X (t := 179) (show cdA 235 173 = some (.ifCond .ne 6, 3, 1, 0, 0) from rfl) (by decide) hrs1006 (fun g1008 => ?_) (fun g1008 => ?_)
          ·
            refine z_load X (x := nv) (show cdA 235 179 = some (.iload 4, 2, 0, 0, 0) from rfl) (List.Mem.tail _ (List.Mem.tail _ (List.Mem.tail _ (List.Mem.tail _ (List.Mem.head _))))) ?_
            refine z_aload_n X (x := A 179) (show cdA 235 181 = some (.aload_n 0, 1, 0, 0, 0) from rfl) (List.Mem.head _) ?_
            refine s_getR X 179 (show cdA 235 182 = some (.getfield 70, 3, 12, 35, 0) from rfl) (by decide) rfl rfl ?_
            refine z_load X (x := c) (show cdA 235 185 = some (.iload 5, 2, 0, 0, 0) from rfl) (List.Mem.tail _ (List.Mem.tail _ (List.Mem.tail _ (List.Mem.tail _ (List.Mem.tail _ (List.Mem.head _)))))) ?_
            refine z_ald X 256 (show cdA 235 187 = some (.iaload, 1, 0, 0, 0) from rfl) (by decide) rfl (by first | exact oq_12a1f9e1 hi.2.2.2.2.1 hi.2.2.2.1 | omega) (show c < 128 by omega) (by decide) ?_
            have b1009 : ((-1) : Int) ≤ iC s1006 228 (c).toNat ∧ iC s1006 228 (c).toNat ≤ 7 := Is1006.2 228 _ (show (c).toNat < 128 by omega)
            refine z_load_n X (x := zv) (show cdA 235 188 = some (.iload_n 3, 1, 0, 0, 0) from rfl) (List.Mem.tail _ (List.Mem.tail _ (List.Mem.tail _ (List.Mem.head _)))) ?_
            have N1010 : ∀ e1011 : Int, ((((iC s1006 228 (c).toNat) ≠ zv) ∧ e1011 = 1) ∨ (((iC s1006 228 (c).toNat) = zv) ∧ e1011 = 0)) → WS k 197 [(0, .ref (A 179)), (1, .int (Int32.ofInt xv)), (2, .int (Int32.ofInt yv)), (3, .int (Int32.ofInt zv)), (4, .int (Int32.ofInt nv)), (5, .int (Int32.ofInt c))] [.int (Int32.ofInt e1011), .int (Int32.ofInt nv)] (Wd A dT s1006) 0 0 := by
              intro e1011 he1011
              have re1011 : 0 ≤ e1011 ∧ e1011 ≤ 1 := by omega
              refine z_add X (show cdA 235 197 = some (.iadd, 1, 0, 0, 0) from rfl) ?_
              refine z_store X (lv' := [(4, .int (Int32.ofInt (nv + e1011))), (0, .ref (A 179)), (1, .int (Int32.ofInt xv)), (2, .int (Int32.ofInt yv)), (3, .int (Int32.ofInt zv)), (5, .int (Int32.ofInt c))]) (show cdA 235 198 = some (.istore 4, 2, 0, 0, 0) from rfl) (by decide) (fun _ h => h) ?_
              refine z_aload_n X (x := A 179) (show cdA 235 200 = some (.aload_n 0, 1, 0, 0, 0) from rfl) (List.Mem.tail _ (List.Mem.head _)) ?_
              refine s_getR X 179 (show cdA 235 201 = some (.getfield 70, 3, 12, 35, 0) from rfl) (by decide) rfl rfl ?_
              refine z_load X (x := c) (show cdA 235 204 = some (.iload 5, 2, 0, 0, 0) from rfl) (List.Mem.tail _ (List.Mem.tail _ (List.Mem.tail _ (List.Mem.tail _ (List.Mem.tail _ (List.Mem.head _)))))) ?_
              refine z_load_n X (x := zv) (show cdA 235 206 = some (.iload_n 3, 1, 0, 0, 0) from rfl) (List.Mem.tail _ (List.Mem.tail _ (List.Mem.tail _ (List.Mem.tail _ (List.Mem.head _))))) ?_
              refine z_ast X 256 (show cdA 235 207 = some (.iastore, 1, 0, 0, 0) from rfl) (by decide) rfl (by first | exact oq_12a1f9e1 hi.2.2.2.2.1 hi.2.2.2.1 | omega) (show c < 128 by omega) (by decide) ?_
              obtain ⟨s1012, hs1012⟩ : ∃ x0, x0 = uC s1006 228 (c).toNat (Int32.ofInt zv) := ⟨_, rfl⟩
              rw [← hs1012]
              have Is1012 : Bd s1012 := by rw [hs1012]; exact bd_C Is1006 (show ((-1) : Int) ≤ zv ∧ zv ≤ 7 by first | exact ⟨hi.2.2.1.1, hi.2.2.1.2⟩ | omega) ⟨by first | exact oq_97ee2c2a hi.2.2.1.1 | omega, by first | exact oq_0e78ca7d hi.2.2.1.2 | omega⟩
              have Fs1012 := fm_C (i := (c).toNat) (x := Int32.ofInt zv) Gs1006 (show 228 ∈ _ by decide)
              rw [← hs1012] at Fs1012
              have ws1012_73 : iI s1012 73 = iI s1006 73 := by rw [hs1012]; rfl
              refine z_inc X (x := c) (lv' := [(5, .int (Int32.ofInt (c + 1))), (4, .int (Int32.ofInt (nv + e1011))), (0, .ref (A 179)), (1, .int (Int32.ofInt xv)), (2, .int (Int32.ofInt yv)), (3, .int (Int32.ofInt zv))]) (show cdA 235 208 = some (.iinc 5 1, 3, 0, 0, 0) from rfl) (by decide) (List.Mem.tail _ (List.Mem.tail _ (List.Mem.tail _ (List.Mem.tail _ (List.Mem.tail _ (List.Mem.head _)))))) (fun _ h => h) ?_
              refine z_goto X (t := 114) (show cdA 235 211 = some (.goto (-97), 3, 0, 0, 0) from rfl) (by decide) ?_
              refine WS_lv (lv := [(0, .ref (A 179)), (1, .int (Int32.ofInt xv)), (2, .int (Int32.ofInt yv)), (3, .int (Int32.ofInt zv)), (4, .int (Int32.ofInt (nv + e1011))), (5, .int (Int32.ofInt (c + 1)))]) (List.forall_mem_cons.mpr ⟨(List.Mem.tail _ (List.Mem.tail _ (List.Mem.head _))), (List.forall_mem_cons.mpr ⟨(List.Mem.tail _ (List.Mem.tail _ (List.Mem.tail _ (List.Mem.head _)))), (List.forall_mem_cons.mpr ⟨(List.Mem.tail _ (List.Mem.tail _ (List.Mem.tail _ (List.Mem.tail _ (List.Mem.head _))))), (List.forall_mem_cons.mpr ⟨(List.Mem.tail _ (List.Mem.tail _ (List.Mem.tail _ (List.Mem.tail _ (List.Mem.tail _ (List.Mem.head _)))))), (List.forall_mem_cons.mpr ⟨(List.Mem.tail _ (List.Mem.head _)), (List.forall_mem_cons.mpr ⟨(List.Mem.head _), (fun q h => absurd h List.not_mem_nil)⟩)⟩)⟩)⟩)⟩)⟩) ?_
              exact ih _ xv yv zv (nv + e1011) (c + 1) Is1012 Fs1012 (by first | exact ⟨And.intro (hi.1.1) (hi.1.2), And.intro (hi.2.1.1) (hi.2.1.2), And.intro (hi.2.2.1.1) (hi.2.2.1.2), oq_dd29f52d hi.2.2.2.1 re1011.1, oq_273e42a6 hi.2.2.2.2.1 re1011.2, oq_0501f4f7 hi.2.2.2.2.2.1, oq_1d10317a g1002⟩ | omega) (by first | exact qk_me hm (by decide) (oq_c0915417 g1002) | omega) kx
            refine z_icmp_ne X (t := 196) (show cdA 235 189 = some (.if_icmp .ne 7, 3, 1, 0, 0) from rfl) (by decide) (rng_to _) ⟨by first | exact oq_97ee2c2a hi.2.2.1.1 | omega, by first | exact oq_0e78ca7d hi.2.2.1.2 | omega⟩ (fun g1013 => ?_) (fun g1013 => ?_)
            ·
              refine z_const X (show cdA 235 196 = some (.iconst 1, 1, 0, 0, 0) from rfl) ?_
              exact N1010 _ (Or.inl ⟨g1013, rfl⟩)
            ·
              refine z_const X (show cdA 235 192 = some (.iconst 0, 1, 0, 0, 0) from rfl) ?_
              refine z_goto X (t := 197) (show cdA 235 193 = some (.goto 4, 3, 0, 0, 0) from rfl) (by decide) ?_
              exact N1010 _ (Or.inr (⟨g1013, rfl⟩))
          ·
            refine z_goto X (t := 208) (show cdA 235 176 = some (.goto 32, 3, 0, 0, 0) from rfl) (by decide) ?_
            refine z_inc X (x := c) (lv' := [(5, .int (Int32.ofInt (c + 1))), (0, .ref (A 179)), (1, .int (Int32.ofInt xv)), (2, .int (Int32.ofInt yv)), (3, .int (Int32.ofInt zv)), (4, .int (Int32.ofInt nv))]) (show cdA 235 208 = some (.iinc 5 1, 3, 0, 0, 0) from rfl) (by decide) (List.Mem.tail _ (List.Mem.tail _ (List.Mem.tail _ (List.Mem.tail _ (List.Mem.tail _ (List.Mem.head _)))))) (fun _ h => h) ?_
            refine z_goto X (t := 114) (show cdA 235 211 = some (.goto (-97), 3, 0, 0, 0) from rfl) (by decide) ?_
            refine WS_lv (lv := [(0, .ref (A 179)), (1, .int (Int32.ofInt xv)), (2, .int (Int32.ofInt yv)), (3, .int (Int32.ofInt zv)), (4, .int (Int32.ofInt nv)), (5, .int (Int32.ofInt (c + 1)))]) (List.forall_mem_cons.mpr ⟨(List.Mem.tail _ (List.Mem.head _)), (List.forall_mem_cons.mpr ⟨(List.Mem.tail _ (List.Mem.tail _ (List.Mem.head _))), (List.forall_mem_cons.mpr ⟨(List.Mem.tail _ (List.Mem.tail _ (List.Mem.tail _ (List.Mem.head _)))), (List.forall_mem_cons.mpr ⟨(List.Mem.tail _ (List.Mem.tail _ (List.Mem.tail _ (List.Mem.tail _ (List.Mem.head _))))), (List.forall_mem_cons.mpr ⟨(List.Mem.tail _ (List.Mem.tail _ (List.Mem.tail _ (List.Mem.tail _ (List.Mem.tail _ (List.Mem.head _)))))), (List.forall_mem_cons.mpr ⟨(List.Mem.head _), (fun q h => absurd h List.not_mem_nil)⟩)⟩)⟩)⟩)⟩)⟩) ?_
            exact ih _ xv yv zv nv (c + 1) Is1006 Gs1006 (by first | exact ⟨And.intro (hi.1.1) (hi.1.2), And.intro (hi.2.1.1) (hi.2.1.2), And.intro (hi.2.2.1.1) (hi.2.2.1.2), hi.2.2.2.1, oq_03182e9e hi.2.2.2.2.1, oq_0501f4f7 hi.2.2.2.2.2.1, oq_1d10317a g1002⟩ | omega) (by first | exact qk_me hm (by decide) (oq_c0915417 g1002) | omega) kx
  refine z_aload_n X (x := A 179) (show cdA 235 0 = some (.aload_n 0, 1, 0, 0, 0) from rfl) (List.Mem.head _) ?_
  refine z_const X (show cdA 235 1 = some (.iconst 0, 1, 0, 0, 0) from rfl) ?_
  refine s_putI X 179 (show cdA 235 2 = some (.putfield 172, 3, 12, 0, 0) from rfl) (by decide) rfl rfl (by decide) rfl rfl rfl ?_
  obtain ⟨s2, hs2⟩ : ∃ x0, x0 = uI s 73 (Int32.ofInt 0) := ⟨_, rfl⟩
  rw [← hs2]
  have Is2 : Bd s2 := by rw [hs2]; exact bd_I I (show (0 : Int) ≤ 0 ∧ 0 ≤ 3 by first | exact ⟨by decide, by decide⟩ | omega) (by decide)
  have Fs2 := fm_I (x := Int32.ofInt 0) F (show 73 ∈ _ by decide)
  rw [← hs2] at Fs2
  have vs2 : iI s2 73 = 0 := by rw [hs2]; exact iI_u (by decide)
  refine z_aload_n X (x := A 179) (show cdA 235 5 = some (.aload_n 0, 1, 0, 0, 0) from rfl) (List.Mem.head _) ?_
  refine z_load_n X (x := x) (show cdA 235 6 = some (.iload_n 1, 1, 0, 0, 0) from rfl) (List.Mem.tail _ (List.Mem.head _)) ?_
  refine z_const X (show cdA 235 7 = some (.iconst 0, 1, 0, 0, 0) from rfl) ?_
  refine z_bipush X (show cdA 235 8 = some (.bipush 127, 2, 0, 0, 127) from rfl) ?_
  refine z_callS X (rm := rmN 188) (As := [.int (Int32.ofInt x), .int (Int32.ofInt 0), .int (Int32.ofInt 127)]) (st := [.ref (A 179)]) (show cdA 235 10 = some (.invokestatic 209, 3, 188, 1, 0) from rfl) rfl (by rw [E.1, E.2.1, E.2.2.1]; exact k_in G Is2 (by first | exact ⟨p0.1, p0.2⟩ | omega) (by first | exact ⟨by decide, by decide⟩ | omega) (by first | exact ⟨by decide, by decide⟩ | omega)) ⟨by rw [E.2.2.2]; exact (show (rmN 188).frames + 1 ≤ (rmN 235).frames by decide), by rw [E.2.2.2]; exact (show 8 + (mNL (miB 188) + 11) + (rmN 188).locals ≤ (rmN 235).locals by decide), by rw [E.2.2.2]; exact (show 0 + (rmN 188).cells ≤ (rmN 235).cells by decide), by rw [E.2.2.2]; exact (show 0 + (rmN 188).slots ≤ (rmN 235).slots by decide)⟩ (Nat.le_of_ble_eq_true rfl) (fun vv s3 hq => ?_) (fun ee s3 hq => ?_)
  rotate_left
  · obtain ⟨Is3, Fs3, e4, hv, hrs3, hps3⟩ := hq; cases hv
  obtain ⟨Is3, Fs3, e4, hv, hrs3, hps3⟩ := hq
  cases hv
  have Gs3 := fm_ts Fs2 Fs3 (by decide) (by decide)
  have ws3_73 : iI s3 73 = iI s2 73 := fm_i Fs3 (by decide)
  show WS k 13 [(0, .ref (A 179)), (1, .int (Int32.ofInt x)), (2, .int (Int32.ofInt y)), (3, .int (Int32.ofInt z))] [.int (Int32.ofInt e4), .ref (A 179)] (Wd A dT s3) 0 0
  refine z_if_eq X (t := 26) (show cdA 235 13 = some (.ifCond .eq 13, 3, 0, 0, 0) from rfl) (by decide) hrs3 (fun g5 => ?_) (fun g5 => ?_)
  ·
    refine z_const X (show cdA 235 26 = some (.iconst 1, 1, 0, 0, 0) from rfl) ?_
    refine z_goto X (t := 31) (show cdA 235 27 = some (.goto 4, 3, 0, 0, 0) from rfl) (by decide) ?_
    refine z_const X (show cdA 235 31 = some (.iconst 1, 1, 0, 0, 0) from rfl) ?_
    refine z_callV X 179 (rm := rmN 187) (As := [.int (Int32.ofInt 1), .int (Int32.ofInt 1)]) (st := []) (show cdA 235 32 = some (.invokevirtual 229, 3, 187, 0, 0) from rfl) rfl (by decide) rfl (by rw [E.1, E.2.1, E.2.2.1]; exact k_bad G Is3 (by first | exact Or.inr (by decide) | omega) (by first | exact ⟨by decide, by decide⟩ | omega)) ⟨by rw [E.2.2.2]; exact (show (rmN 187).frames + 1 ≤ (rmN 235).frames by decide), by rw [E.2.2.2]; exact (show 8 + (mNL (miB 187) + 11) + (rmN 187).locals ≤ (rmN 235).locals by decide), by rw [E.2.2.2]; exact (show 0 + (rmN 187).cells ≤ (rmN 235).cells by decide), by rw [E.2.2.2]; exact (show 0 + (rmN 187).slots ≤ (rmN 235).slots by decide)⟩ (Nat.le_of_ble_eq_true rfl) (fun vv s6 hq => ?_) (fun ee s6 hq => ?_)
    rotate_left
    · obtain ⟨Is6, Fs6, e7, hv, hrs6, hps6⟩ := hq; cases hv
    obtain ⟨Is6, Fs6, e7, hv, hrs6, hps6⟩ := hq
    cases hv
    have Gs6 := fm_ts Gs3 Fs6 (by decide) (by decide)
    have b8 : (0 : Int) ≤ iI s6 73 ∧ iI s6 73 ≤ 3 := Is6.1 73
    show WS k 35 [(0, .ref (A 179)), (1, .int (Int32.ofInt x)), (2, .int (Int32.ofInt y)), (3, .int (Int32.ofInt z))] [.int (Int32.ofInt e7)] (Wd A dT s6) 0 0
    refine z_if_ne X (t := 100) (show cdA 235 35 = some (.ifCond .ne 65, 3, 1, 0, 0) from rfl) (by decide) hrs6 (fun g9 => ?_) (fun g9 => ?_)
    ·
      refine z_const X (show cdA 235 100 = some (.iconst 0, 1, 0, 0, 0) from rfl) ?_
      exact w_iret X.1 q hRt rfl (ax_d X (show cdA 235 101 = some (.ireturn, 1, 0, 0, 0) from rfl)) (Nat.zero_le _) (Nat.zero_le _) ⟨_, rfl, Is6, Gs6, 0, rfl, (by decide), trivial⟩
    ·
      refine z_aload_n X (x := A 179) (show cdA 235 38 = some (.aload_n 0, 1, 0, 0, 0) from rfl) (List.Mem.head _) ?_
      refine z_load_n X (x := z) (show cdA 235 39 = some (.iload_n 3, 1, 0, 0, 0) from rfl) (List.Mem.tail _ (List.Mem.tail _ (List.Mem.tail _ (List.Mem.head _)))) ?_
      refine z_const X (show cdA 235 40 = some (.iconst (-1), 1, 0, 0, 0) from rfl) ?_
      refine z_bipush X (show cdA 235 41 = some (.bipush 7, 2, 0, 0, 7) from rfl) ?_
      refine z_callS X (rm := rmN 188) (As := [.int (Int32.ofInt z), .int (Int32.ofInt (-1)), .int (Int32.ofInt 7)]) (st := [.ref (A 179)]) (show cdA 235 43 = some (.invokestatic 209, 3, 188, 1, 0) from rfl) rfl (by rw [E.1, E.2.1, E.2.2.1]; exact k_in G Is6 (by first | exact ⟨p2.1, p2.2⟩ | omega) (by first | exact ⟨by decide, by decide⟩ | omega) (by first | exact ⟨by decide, by decide⟩ | omega)) ⟨by rw [E.2.2.2]; exact (show (rmN 188).frames + 1 ≤ (rmN 235).frames by decide), by rw [E.2.2.2]; exact (show 8 + (mNL (miB 188) + 11) + (rmN 188).locals ≤ (rmN 235).locals by decide), by rw [E.2.2.2]; exact (show 0 + (rmN 188).cells ≤ (rmN 235).cells by decide), by rw [E.2.2.2]; exact (show 0 + (rmN 188).slots ≤ (rmN 235).slots by decide)⟩ (Nat.le_of_ble_eq_true rfl) (fun vv s10 hq => ?_) (fun ee s10 hq => ?_)
      rotate_left
      · obtain ⟨Is10, Fs10, e11, hv, hrs10, hps10⟩ := hq; cases hv
      obtain ⟨Is10, Fs10, e11, hv, hrs10, hps10⟩ := hq
      cases hv
      have Gs10 := fm_ts Gs6 Fs10 (by decide) (by decide)
      have ws10_73 : iI s10 73 = iI s6 73 := fm_i Fs10 (by decide)
      show WS k 46 [(0, .ref (A 179)), (1, .int (Int32.ofInt x)), (2, .int (Int32.ofInt y)), (3, .int (Int32.ofInt z))] [.int (Int32.ofInt e11), .ref (A 179)] (Wd A dT s10) 0 0
      refine z_if_eq X (t := 88) (show cdA 235 46 = some (.ifCond .eq 42, 3, 0, 0, 0) from rfl) (by decide) hrs10 (fun g12 => ?_) (fun g12 => ?_)
      ·
        refine z_const X (show cdA 235 88 = some (.iconst 1, 1, 0, 0, 0) from rfl) ?_
        refine z_goto X (t := 93) (show cdA 235 89 = some (.goto 4, 3, 0, 0, 0) from rfl) (by decide) ?_
        refine z_const X (show cdA 235 93 = some (.iconst 2, 1, 0, 0, 0) from rfl) ?_
        refine z_callV X 179 (rm := rmN 187) (As := [.int (Int32.ofInt 1), .int (Int32.ofInt 2)]) (st := []) (show cdA 235 94 = some (.invokevirtual 229, 3, 187, 0, 0) from rfl) rfl (by decide) rfl (by rw [E.1, E.2.1, E.2.2.1]; exact k_bad G Is10 (by first | exact Or.inr (by decide) | omega) (by first | exact ⟨by decide, by decide⟩ | omega)) ⟨by rw [E.2.2.2]; exact (show (rmN 187).frames + 1 ≤ (rmN 235).frames by decide), by rw [E.2.2.2]; exact (show 8 + (mNL (miB 187) + 11) + (rmN 187).locals ≤ (rmN 235).locals by decide), by rw [E.2.2.2]; exact (show 0 + (rmN 187).cells ≤ (rmN 235).cells by decide), by rw [E.2.2.2]; exact (show 0 + (rmN 187).slots ≤ (rmN 235).slots by decide)⟩ (Nat.le_of_ble_eq_true rfl) (fun vv s13 hq => ?_) (fun ee s13 hq => ?_)
        rotate_left
        · obtain ⟨Is13, Fs13, e14, hv, hrs13, hps13⟩ := hq; cases hv
        obtain ⟨Is13, Fs13, e14, hv, hrs13, hps13⟩ := hq
        cases hv
        have Gs13 := fm_ts Gs10 Fs13 (by decide) (by decide)
        have b15 : (0 : Int) ≤ iI s13 73 ∧ iI s13 73 ≤ 3 := Is13.1 73
        show WS k 97 [(0, .ref (A 179)), (1, .int (Int32.ofInt x)), (2, .int (Int32.ofInt y)), (3, .int (Int32.ofInt z))] [.int (Int32.ofInt e14)] (Wd A dT s13) 0 0
        refine z_if_eq X (t := 102) (show cdA 235 97 = some (.ifCond .eq 5, 3, 0, 0, 0) from rfl) (by decide) hrs13 (fun g16 => ?_) (fun g16 => ?_)
        ·
          refine z_const X (show cdA 235 102 = some (.iconst 0, 1, 0, 0, 0) from rfl) ?_
          refine z_store X (lv' := [(4, .int (Int32.ofInt 0)), (0, .ref (A 179)), (1, .int (Int32.ofInt x)), (2, .int (Int32.ofInt y)), (3, .int (Int32.ofInt z))]) (show cdA 235 103 = some (.istore 4, 2, 0, 0, 0) from rfl) (by decide) (fun _ h => h) ?_
          refine z_bipush X (show cdA 235 105 = some (.bipush 64, 2, 0, 0, 64) from rfl) ?_
          refine z_load_n X (x := x) (show cdA 235 107 = some (.iload_n 1, 1, 0, 0, 0) from rfl) (List.Mem.tail _ (List.Mem.tail _ (List.Mem.head _))) ?_
          refine z_bipush X (show cdA 235 108 = some (.bipush 64, 2, 0, 0, 64) from rfl) ?_
          refine z_quot X (show cdA 235 110 = some (.idiv, 1, 0, 0, 0) from rfl) (by first | exact oq_65cab3da g16 hps13.2.1 | omega) ⟨by first | exact p0.1 | omega, by first | exact p0.2 | omega⟩ (by decide) (by decide) ?_
          refine z_mul X (show cdA 235 111 = some (.imul, 1, 0, 0, 0) from rfl) ?_
          refine z_store X (lv' := [(5, .int (Int32.ofInt (64 * (x / 64)))), (4, .int (Int32.ofInt 0)), (0, .ref (A 179)), (1, .int (Int32.ofInt x)), (2, .int (Int32.ofInt y)), (3, .int (Int32.ofInt z))]) (show cdA 235 112 = some (.istore 5, 2, 0, 0, 0) from rfl) (by decide) (fun _ h => h) ?_
          refine WS_lv (lv := [(0, .ref (A 179)), (1, .int (Int32.ofInt x)), (2, .int (Int32.ofInt y)), (3, .int (Int32.ofInt z)), (4, .int (Int32.ofInt 0)), (5, .int (Int32.ofInt (64 * (x / 64))))]) (List.forall_mem_cons.mpr ⟨(List.Mem.tail _ (List.Mem.tail _ (List.Mem.head _))), (List.forall_mem_cons.mpr ⟨(List.Mem.tail _ (List.Mem.tail _ (List.Mem.tail _ (List.Mem.head _)))), (List.forall_mem_cons.mpr ⟨(List.Mem.tail _ (List.Mem.tail _ (List.Mem.tail _ (List.Mem.tail _ (List.Mem.head _))))), (List.forall_mem_cons.mpr ⟨(List.Mem.tail _ (List.Mem.tail _ (List.Mem.tail _ (List.Mem.tail _ (List.Mem.tail _ (List.Mem.head _)))))), (List.forall_mem_cons.mpr ⟨(List.Mem.tail _ (List.Mem.head _)), (List.forall_mem_cons.mpr ⟨(List.Mem.head _), (fun q h => absurd h List.not_mem_nil)⟩)⟩)⟩)⟩)⟩)⟩) ?_
          refine L114 ((64 * (x / 64) + 64 - (64 * (x / 64)) : Int).toNat + 1) s13 x y z 0 (64 * (x / 64)) Is13 Gs13 (by first | exact ⟨oq_9604615f g16 hps13.2.1, oq_9604615f g16 hps13.2.1, oq_dc25914b g16 hps13.2.1, by decide, oq_96ccba6c g16 hps13.2.1, by decide, by decide⟩ | omega) (Nat.lt_succ_self _) ?_
          intro s17 x18 x19 Is17 Fs17 hs17
          have b20 : (0 : Int) ≤ iI s17 73 ∧ iI s17 73 ≤ 3 := Is17.1 73
          refine z_load X (x := x18) (show cdA 235 214 = some (.iload 4, 2, 0, 0, 0) from rfl) (List.Mem.tail _ (List.Mem.tail _ (List.Mem.tail _ (List.Mem.tail _ (List.Mem.head _))))) ?_
          exact w_iret X.1 q hRt rfl (ax_d X (show cdA 235 216 = some (.ireturn, 1, 0, 0, 0) from rfl)) (Nat.zero_le _) (Nat.zero_le _) ⟨_, rfl, Is17, Fs17, x18, rfl, ⟨by first | exact oq_fa4e5087 hs17.2.2.2.1 | omega, by first | exact oq_850460f6 hs17.2.2.2.2.2.2 hs17.2.2.2.2.1 hs17.1.2 | omega⟩, trivial⟩
        ·
          refine z_const X (show cdA 235 100 = some (.iconst 0, 1, 0, 0, 0) from rfl) ?_
          exact w_iret X.1 q hRt rfl (ax_d X (show cdA 235 101 = some (.ireturn, 1, 0, 0, 0) from rfl)) (Nat.zero_le _) (Nat.zero_le _) ⟨_, rfl, Is13, Gs13, 0, rfl, (by decide), trivial⟩
      ·
        refine z_load_n X (x := x) (show cdA 235 49 = some (.iload_n 1, 1, 0, 0, 0) from rfl) (List.Mem.tail _ (List.Mem.head _)) ?_
        refine z_bipush X (show cdA 235 50 = some (.bipush 64, 2, 0, 0, 64) from rfl) ?_
        refine z_quot X (show cdA 235 52 = some (.idiv, 1, 0, 0, 0) from rfl) (by first | exact oq_65cab3da g9 hps6.2.1 | omega) ⟨by first | exact p0.1 | omega, by first | exact p0.2 | omega⟩ (by decide) (by decide) ?_
        refine z_load_n X (x := y) (show cdA 235 53 = some (.iload_n 2, 1, 0, 0, 0) from rfl) (List.Mem.tail _ (List.Mem.tail _ (List.Mem.head _))) ?_
        refine z_bipush X (show cdA 235 54 = some (.bipush 64, 2, 0, 0, 64) from rfl) ?_
        refine z_quot X (show cdA 235 56 = some (.idiv, 1, 0, 0, 0) from rfl) (by first | exact oq_65cab3da g9 hps6.2.1 | omega) ⟨by first | exact p1.1 | omega, by first | exact p1.2 | omega⟩ (by decide) (by decide) ?_
        refine z_icmp_ne X (t := 88) (show cdA 235 57 = some (.if_icmp .ne 31, 3, 1, 0, 0) from rfl) (by decide) ⟨by first | exact oq_f457fe4f p0.1 | omega, by first | exact oq_e42dd4bd p0.2 | omega⟩ ⟨by first | exact oq_f457fe4f p1.1 | omega, by first | exact oq_e42dd4bd p1.2 | omega⟩ (fun g21 => ?_) (fun g21 => ?_)
        ·
          refine z_const X (show cdA 235 88 = some (.iconst 1, 1, 0, 0, 0) from rfl) ?_
          refine z_goto X (t := 93) (show cdA 235 89 = some (.goto 4, 3, 0, 0, 0) from rfl) (by decide) ?_
          refine z_const X (show cdA 235 93 = some (.iconst 2, 1, 0, 0, 0) from rfl) ?_
          refine z_callV X 179 (rm := rmN 187) (As := [.int (Int32.ofInt 1), .int (Int32.ofInt 2)]) (st := []) (show cdA 235 94 = some (.invokevirtual 229, 3, 187, 0, 0) from rfl) rfl (by decide) rfl (by rw [E.1, E.2.1, E.2.2.1]; exact k_bad G Is10 (by first | exact Or.inr (by decide) | omega) (by first | exact ⟨by decide, by decide⟩ | omega)) ⟨by rw [E.2.2.2]; exact (show (rmN 187).frames + 1 ≤ (rmN 235).frames by decide), by rw [E.2.2.2]; exact (show 8 + (mNL (miB 187) + 11) + (rmN 187).locals ≤ (rmN 235).locals by decide), by rw [E.2.2.2]; exact (show 0 + (rmN 187).cells ≤ (rmN 235).cells by decide), by rw [E.2.2.2]; exact (show 0 + (rmN 187).slots ≤ (rmN 235).slots by decide)⟩ (Nat.le_of_ble_eq_true rfl) (fun vv s22 hq => ?_) (fun ee s22 hq => ?_)
          rotate_left
          · obtain ⟨Is22, Fs22, e23, hv, hrs22, hps22⟩ := hq; cases hv
          obtain ⟨Is22, Fs22, e23, hv, hrs22, hps22⟩ := hq
          cases hv
          have Gs22 := fm_ts Gs10 Fs22 (by decide) (by decide)
          have b24 : (0 : Int) ≤ iI s22 73 ∧ iI s22 73 ≤ 3 := Is22.1 73
          show WS k 97 [(0, .ref (A 179)), (1, .int (Int32.ofInt x)), (2, .int (Int32.ofInt y)), (3, .int (Int32.ofInt z))] [.int (Int32.ofInt e23)] (Wd A dT s22) 0 0
          refine z_if_eq X (t := 102) (show cdA 235 97 = some (.ifCond .eq 5, 3, 0, 0, 0) from rfl) (by decide) hrs22 (fun g25 => ?_) (fun g25 => ?_)
          ·
            refine z_const X (show cdA 235 102 = some (.iconst 0, 1, 0, 0, 0) from rfl) ?_
            refine z_store X (lv' := [(4, .int (Int32.ofInt 0)), (0, .ref (A 179)), (1, .int (Int32.ofInt x)), (2, .int (Int32.ofInt y)), (3, .int (Int32.ofInt z))]) (show cdA 235 103 = some (.istore 4, 2, 0, 0, 0) from rfl) (by decide) (fun _ h => h) ?_
            refine z_bipush X (show cdA 235 105 = some (.bipush 64, 2, 0, 0, 64) from rfl) ?_
            refine z_load_n X (x := x) (show cdA 235 107 = some (.iload_n 1, 1, 0, 0, 0) from rfl) (List.Mem.tail _ (List.Mem.tail _ (List.Mem.head _))) ?_
            refine z_bipush X (show cdA 235 108 = some (.bipush 64, 2, 0, 0, 64) from rfl) ?_
            refine z_quot X (show cdA 235 110 = some (.idiv, 1, 0, 0, 0) from rfl) (by first | exact oq_65cab3da g25 hps22.2.1 | omega) ⟨by first | exact p0.1 | omega, by first | exact p0.2 | omega⟩ (by decide) (by decide) ?_
            refine z_mul X (show cdA 235 111 = some (.imul, 1, 0, 0, 0) from rfl) ?_
            refine z_store X (lv' := [(5, .int (Int32.ofInt (64 * (x / 64)))), (4, .int (Int32.ofInt 0)), (0, .ref (A 179)), (1, .int (Int32.ofInt x)), (2, .int (Int32.ofInt y)), (3, .int (Int32.ofInt z))]) (show cdA 235 112 = some (.istore 5, 2, 0, 0, 0) from rfl) (by decide) (fun _ h => h) ?_
            refine WS_lv (lv := [(0, .ref (A 179)), (1, .int (Int32.ofInt x)), (2, .int (Int32.ofInt y)), (3, .int (Int32.ofInt z)), (4, .int (Int32.ofInt 0)), (5, .int (Int32.ofInt (64 * (x / 64))))]) (List.forall_mem_cons.mpr ⟨(List.Mem.tail _ (List.Mem.tail _ (List.Mem.head _))), (List.forall_mem_cons.mpr ⟨(List.Mem.tail _ (List.Mem.tail _ (List.Mem.tail _ (List.Mem.head _)))), (List.forall_mem_cons.mpr ⟨(List.Mem.tail _ (List.Mem.tail _ (List.Mem.tail _ (List.Mem.tail _ (List.Mem.head _))))), (List.forall_mem_cons.mpr ⟨(List.Mem.tail _ (List.Mem.tail _ (List.Mem.tail _ (List.Mem.tail _ (List.Mem.tail _ (List.Mem.head _)))))), (List.forall_mem_cons.mpr ⟨(List.Mem.tail _ (List.Mem.head _)), (List.forall_mem_cons.mpr ⟨(List.Mem.head _), (fun q h => absurd h List.not_mem_nil)⟩)⟩)⟩)⟩)⟩)⟩) ?_
            refine L114 ((64 * (x / 64) + 64 - (64 * (x / 64)) : Int).toNat + 1) s22 x y z 0 (64 * (x / 64)) Is22 Gs22 (by first | exact ⟨oq_9604615f g25 hps22.2.1, oq_9604615f g25 hps22.2.1, oq_8d05831f g12 hps10, by decide, oq_96ccba6c g25 hps22.2.1, by decide, by decide⟩ | omega) (Nat.lt_succ_self _) ?_
            intro s26 x27 x28 Is26 Fs26 hs26
            have b29 : (0 : Int) ≤ iI s26 73 ∧ iI s26 73 ≤ 3 := Is26.1 73
            refine z_load X (x := x27) (show cdA 235 214 = some (.iload 4, 2, 0, 0, 0) from rfl) (List.Mem.tail _ (List.Mem.tail _ (List.Mem.tail _ (List.Mem.tail _ (List.Mem.head _))))) ?_
            exact w_iret X.1 q hRt rfl (ax_d X (show cdA 235 216 = some (.ireturn, 1, 0, 0, 0) from rfl)) (Nat.zero_le _) (Nat.zero_le _) ⟨_, rfl, Is26, Fs26, x27, rfl, ⟨by first | exact oq_fa4e5087 hs26.2.2.2.1 | omega, by first | exact oq_850460f6 hs26.2.2.2.2.2.2 hs26.2.2.2.2.1 hs26.1.2 | omega⟩, trivial⟩
          ·
            refine z_const X (show cdA 235 100 = some (.iconst 0, 1, 0, 0, 0) from rfl) ?_
            exact w_iret X.1 q hRt rfl (ax_d X (show cdA 235 101 = some (.ireturn, 1, 0, 0, 0) from rfl)) (Nat.zero_le _) (Nat.zero_le _) ⟨_, rfl, Is22, Gs22, 0, rfl, (by decide), trivial⟩
        ·
          refine z_load_n X (x := x) (show cdA 235 60 = some (.iload_n 1, 1, 0, 0, 0) from rfl) (List.Mem.tail _ (List.Mem.head _)) ?_
          refine z_bipush X (show cdA 235 61 = some (.bipush 8, 2, 0, 0, 8) from rfl) ?_
          refine z_mod X (show cdA 235 63 = some (.irem, 1, 0, 0, 0) from rfl) (by first | exact oq_65cab3da g9 hps6.2.1 | omega) ⟨by first | exact p0.1 | omega, by first | exact p0.2 | omega⟩ (by decide) (by decide) ?_
          refine z_load_n X (x := y) (show cdA 235 64 = some (.iload_n 2, 1, 0, 0, 0) from rfl) (List.Mem.tail _ (List.Mem.tail _ (List.Mem.head _))) ?_
          refine z_bipush X (show cdA 235 65 = some (.bipush 8, 2, 0, 0, 8) from rfl) ?_
          refine z_mod X (show cdA 235 67 = some (.irem, 1, 0, 0, 0) from rfl) (by first | exact oq_65cab3da g9 hps6.2.1 | omega) ⟨by first | exact p1.1 | omega, by first | exact p1.2 | omega⟩ (by decide) (by decide) ?_
          refine z_icmp_gt X (t := 88) (show cdA 235 68 = some (.if_icmp .gt 20, 3, 4, 0, 0) from rfl) (by decide) ⟨by first | exact oq_e86162eb | omega, by first | exact oq_70086759 | omega⟩ ⟨by first | exact oq_e86162eb | omega, by first | exact oq_70086759 | omega⟩ (fun g30 => ?_) (fun g30 => ?_)
          ·
            refine z_const X (show cdA 235 88 = some (.iconst 1, 1, 0, 0, 0) from rfl) ?_
            refine z_goto X (t := 93) (show cdA 235 89 = some (.goto 4, 3, 0, 0, 0) from rfl) (by decide) ?_
            refine z_const X (show cdA 235 93 = some (.iconst 2, 1, 0, 0, 0) from rfl) ?_
            refine z_callV X 179 (rm := rmN 187) (As := [.int (Int32.ofInt 1), .int (Int32.ofInt 2)]) (st := []) (show cdA 235 94 = some (.invokevirtual 229, 3, 187, 0, 0) from rfl) rfl (by decide) rfl (by rw [E.1, E.2.1, E.2.2.1]; exact k_bad G Is10 (by first | exact Or.inr (by decide) | omega) (by first | exact ⟨by decide, by decide⟩ | omega)) ⟨by rw [E.2.2.2]; exact (show (rmN 187).frames + 1 ≤ (rmN 235).frames by decide), by rw [E.2.2.2]; exact (show 8 + (mNL (miB 187) + 11) + (rmN 187).locals ≤ (rmN 235).locals by decide), by rw [E.2.2.2]; exact (show 0 + (rmN 187).cells ≤ (rmN 235).cells by decide), by rw [E.2.2.2]; exact (show 0 + (rmN 187).slots ≤ (rmN 235).slots by decide)⟩ (Nat.le_of_ble_eq_true rfl) (fun vv s31 hq => ?_) (fun ee s31 hq => ?_)
            rotate_left
            · obtain ⟨Is31, Fs31, e32, hv, hrs31, hps31⟩ := hq; cases hv
            obtain ⟨Is31, Fs31, e32, hv, hrs31, hps31⟩ := hq
            cases hv
            have Gs31 := fm_ts Gs10 Fs31 (by decide) (by decide)
            have b33 : (0 : Int) ≤ iI s31 73 ∧ iI s31 73 ≤ 3 := Is31.1 73
            show WS k 97 [(0, .ref (A 179)), (1, .int (Int32.ofInt x)), (2, .int (Int32.ofInt y)), (3, .int (Int32.ofInt z))] [.int (Int32.ofInt e32)] (Wd A dT s31) 0 0
            refine z_if_eq X (t := 102) (show cdA 235 97 = some (.ifCond .eq 5, 3, 0, 0, 0) from rfl) (by decide) hrs31 (fun g34 => ?_) (fun g34 => ?_)
            ·
              refine z_const X (show cdA 235 102 = some (.iconst 0, 1, 0, 0, 0) from rfl) ?_
              refine z_store X (lv' := [(4, .int (Int32.ofInt 0)), (0, .ref (A 179)), (1, .int (Int32.ofInt x)), (2, .int (Int32.ofInt y)), (3, .int (Int32.ofInt z))]) (show cdA 235 103 = some (.istore 4, 2, 0, 0, 0) from rfl) (by decide) (fun _ h => h) ?_
              refine z_bipush X (show cdA 235 105 = some (.bipush 64, 2, 0, 0, 64) from rfl) ?_
              refine z_load_n X (x := x) (show cdA 235 107 = some (.iload_n 1, 1, 0, 0, 0) from rfl) (List.Mem.tail _ (List.Mem.tail _ (List.Mem.head _))) ?_
              refine z_bipush X (show cdA 235 108 = some (.bipush 64, 2, 0, 0, 64) from rfl) ?_
              refine z_quot X (show cdA 235 110 = some (.idiv, 1, 0, 0, 0) from rfl) (by first | exact oq_65cab3da g34 hps31.2.1 | omega) ⟨by first | exact p0.1 | omega, by first | exact p0.2 | omega⟩ (by decide) (by decide) ?_
              refine z_mul X (show cdA 235 111 = some (.imul, 1, 0, 0, 0) from rfl) ?_
              refine z_store X (lv' := [(5, .int (Int32.ofInt (64 * (x / 64)))), (4, .int (Int32.ofInt 0)), (0, .ref (A 179)), (1, .int (Int32.ofInt x)), (2, .int (Int32.ofInt y)), (3, .int (Int32.ofInt z))]) (show cdA 235 112 = some (.istore 5, 2, 0, 0, 0) from rfl) (by decide) (fun _ h => h) ?_
              refine WS_lv (lv := [(0, .ref (A 179)), (1, .int (Int32.ofInt x)), (2, .int (Int32.ofInt y)), (3, .int (Int32.ofInt z)), (4, .int (Int32.ofInt 0)), (5, .int (Int32.ofInt (64 * (x / 64))))]) (List.forall_mem_cons.mpr ⟨(List.Mem.tail _ (List.Mem.tail _ (List.Mem.head _))), (List.forall_mem_cons.mpr ⟨(List.Mem.tail _ (List.Mem.tail _ (List.Mem.tail _ (List.Mem.head _)))), (List.forall_mem_cons.mpr ⟨(List.Mem.tail _ (List.Mem.tail _ (List.Mem.tail _ (List.Mem.tail _ (List.Mem.head _))))), (List.forall_mem_cons.mpr ⟨(List.Mem.tail _ (List.Mem.tail _ (List.Mem.tail _ (List.Mem.tail _ (List.Mem.tail _ (List.Mem.head _)))))), (List.forall_mem_cons.mpr ⟨(List.Mem.tail _ (List.Mem.head _)), (List.forall_mem_cons.mpr ⟨(List.Mem.head _), (fun q h => absurd h List.not_mem_nil)⟩)⟩)⟩)⟩)⟩)⟩) ?_
              refine L114 ((64 * (x / 64) + 64 - (64 * (x / 64)) : Int).toNat + 1) s31 x y z 0 (64 * (x / 64)) Is31 Gs31 (by first | exact ⟨oq_9604615f g34 hps31.2.1, oq_9604615f g34 hps31.2.1, oq_8d05831f g12 hps10, by decide, oq_96ccba6c g34 hps31.2.1, by decide, by decide⟩ | omega) (Nat.lt_succ_self _) ?_
              intro s35 x36 x37 Is35 Fs35 hs35
              have b38 : (0 : Int) ≤ iI s35 73 ∧ iI s35 73 ≤ 3 := Is35.1 73
              refine z_load X (x := x36) (show cdA 235 214 = some (.iload 4, 2, 0, 0, 0) from rfl) (List.Mem.tail _ (List.Mem.tail _ (List.Mem.tail _ (List.Mem.tail _ (List.Mem.head _))))) ?_
              exact w_iret X.1 q hRt rfl (ax_d X (show cdA 235 216 = some (.ireturn, 1, 0, 0, 0) from rfl)) (Nat.zero_le _) (Nat.zero_le _) ⟨_, rfl, Is35, Fs35, x36, rfl, ⟨by first | exact oq_fa4e5087 hs35.2.2.2.1 | omega, by first | exact oq_850460f6 hs35.2.2.2.2.2.2 hs35.2.2.2.2.1 hs35.1.2 | omega⟩, trivial⟩
            ·
              refine z_const X (show cdA 235 100 = some (.iconst 0, 1, 0, 0, 0) from rfl) ?_
              exact w_iret X.1 q hRt rfl (ax_d X (show cdA 235 101 = some (.ireturn, 1, 0, 0, 0) from rfl)) (Nat.zero_le _) (Nat.zero_le _) ⟨_, rfl, Is31, Gs31, 0, rfl, (by decide), trivial⟩
          ·
            refine z_load_n X (x := x) (show cdA 235 71 = some (.iload_n 1, 1, 0, 0, 0) from rfl) (List.Mem.tail _ (List.Mem.head _)) ?_
            refine z_bipush X (show cdA 235 72 = some (.bipush 8, 2, 0, 0, 8) from rfl) ?_
            refine z_quot X (show cdA 235 74 = some (.idiv, 1, 0, 0, 0) from rfl) (by first | exact oq_65cab3da g9 hps6.2.1 | omega) ⟨by first | exact p0.1 | omega, by first | exact p0.2 | omega⟩ (by decide) (by decide) ?_
            refine z_bipush X (show cdA 235 75 = some (.bipush 8, 2, 0, 0, 8) from rfl) ?_
            refine z_mod X (show cdA 235 77 = some (.irem, 1, 0, 0, 0) from rfl) (by first | exact oq_385d4e05 g9 hps6.2.1 | omega) ⟨by first | exact oq_186a3934 p0.1 | omega, by first | exact oq_2590a617 p0.2 | omega⟩ (by decide) (by decide) ?_
            refine z_load_n X (x := y) (show cdA 235 78 = some (.iload_n 2, 1, 0, 0, 0) from rfl) (List.Mem.tail _ (List.Mem.tail _ (List.Mem.head _))) ?_
            refine z_bipush X (show cdA 235 79 = some (.bipush 8, 2, 0, 0, 8) from rfl) ?_
            refine z_quot X (show cdA 235 81 = some (.idiv, 1, 0, 0, 0) from rfl) (by first | exact oq_65cab3da g9 hps6.2.1 | omega) ⟨by first | exact p1.1 | omega, by first | exact p1.2 | omega⟩ (by decide) (by decide) ?_
            refine z_bipush X (show cdA 235 82 = some (.bipush 8, 2, 0, 0, 8) from rfl) ?_
            refine z_mod X (show cdA 235 84 = some (.irem, 1, 0, 0, 0) from rfl) (by first | exact oq_385d4e05 g9 hps6.2.1 | omega) ⟨by first | exact oq_186a3934 p1.1 | omega, by first | exact oq_2590a617 p1.2 | omega⟩ (by decide) (by decide) ?_
            have N39 : ∀ e40 : Int, (((((x / 8) % 8) ≤ ((y / 8) % 8)) ∧ e40 = 0) ∨ ((((y / 8) % 8) < ((x / 8) % 8)) ∧ e40 = 1)) → WS k 93 [(0, .ref (A 179)), (1, .int (Int32.ofInt x)), (2, .int (Int32.ofInt y)), (3, .int (Int32.ofInt z))] [.int (Int32.ofInt e40), .ref (A 179)] (Wd A dT s10) 0 0 := by
              intro e40 he40
              have re40 : 0 ≤ e40 ∧ e40 ≤ 1 := by omega
              refine z_const X (show cdA 235 93 = some (.iconst 2, 1, 0, 0, 0) from rfl) ?_
              refine z_callV X 179 (rm := rmN 187) (As := [.int (Int32.ofInt e40), .int (Int32.ofInt 2)]) (st := []) (show cdA 235 94 = some (.invokevirtual 229, 3, 187, 0, 0) from rfl) rfl (by decide) rfl (by rw [E.1, E.2.1, E.2.2.1]; exact k_bad G Is10 (by first | exact oq_6a416fd5 re40.2 re40.1 he40 | omega) (by first | exact ⟨by decide, by decide⟩ | omega)) ⟨by rw [E.2.2.2]; exact (show (rmN 187).frames + 1 ≤ (rmN 235).frames by decide), by rw [E.2.2.2]; exact (show 8 + (mNL (miB 187) + 11) + (rmN 187).locals ≤ (rmN 235).locals by decide), by rw [E.2.2.2]; exact (show 0 + (rmN 187).cells ≤ (rmN 235).cells by decide), by rw [E.2.2.2]; exact (show 0 + (rmN 187).slots ≤ (rmN 235).slots by decide)⟩ (Nat.le_of_ble_eq_true rfl) (fun vv s41 hq => ?_) (fun ee s41 hq => ?_)
              rotate_left
              · obtain ⟨Is41, Fs41, e42, hv, hrs41, hps41⟩ := hq; cases hv
              obtain ⟨Is41, Fs41, e42, hv, hrs41, hps41⟩ := hq
              cases hv
              have Gs41 := fm_ts Gs10 Fs41 (by decide) (by decide)
              have b43 : (0 : Int) ≤ iI s41 73 ∧ iI s41 73 ≤ 3 := Is41.1 73
              show WS k 97 [(0, .ref (A 179)), (1, .int (Int32.ofInt x)), (2, .int (Int32.ofInt y)), (3, .int (Int32.ofInt z))] [.int (Int32.ofInt e42)] (Wd A dT s41) 0 0
              refine z_if_eq X (t := 102) (show cdA 235 97 = some (.ifCond .eq 5, 3, 0, 0, 0) from rfl) (by decide) hrs41 (fun g44 => ?_) (fun g44 => ?_)
              ·
                refine z_const X (show cdA 235 102 = some (.iconst 0, 1, 0, 0, 0) from rfl) ?_
                refine z_store X (lv' := [(4, .int (Int32.ofInt 0)), (0, .ref (A 179)), (1, .int (Int32.ofInt x)), (2, .int (Int32.ofInt y)), (3, .int (Int32.ofInt z))]) (show cdA 235 103 = some (.istore 4, 2, 0, 0, 0) from rfl) (by decide) (fun _ h => h) ?_
                refine z_bipush X (show cdA 235 105 = some (.bipush 64, 2, 0, 0, 64) from rfl) ?_
                refine z_load_n X (x := x) (show cdA 235 107 = some (.iload_n 1, 1, 0, 0, 0) from rfl) (List.Mem.tail _ (List.Mem.tail _ (List.Mem.head _))) ?_
                refine z_bipush X (show cdA 235 108 = some (.bipush 64, 2, 0, 0, 64) from rfl) ?_
                refine z_quot X (show cdA 235 110 = some (.idiv, 1, 0, 0, 0) from rfl) (by first | exact oq_65cab3da g9 hps6.2.1 | omega) ⟨by first | exact p0.1 | omega, by first | exact p0.2 | omega⟩ (by decide) (by decide) ?_
                refine z_mul X (show cdA 235 111 = some (.imul, 1, 0, 0, 0) from rfl) ?_
                refine z_store X (lv' := [(5, .int (Int32.ofInt (64 * (x / 64)))), (4, .int (Int32.ofInt 0)), (0, .ref (A 179)), (1, .int (Int32.ofInt x)), (2, .int (Int32.ofInt y)), (3, .int (Int32.ofInt z))]) (show cdA 235 112 = some (.istore 5, 2, 0, 0, 0) from rfl) (by decide) (fun _ h => h) ?_
                refine WS_lv (lv := [(0, .ref (A 179)), (1, .int (Int32.ofInt x)), (2, .int (Int32.ofInt y)), (3, .int (Int32.ofInt z)), (4, .int (Int32.ofInt 0)), (5, .int (Int32.ofInt (64 * (x / 64))))]) (List.forall_mem_cons.mpr ⟨(List.Mem.tail _ (List.Mem.tail _ (List.Mem.head _))), (List.forall_mem_cons.mpr ⟨(List.Mem.tail _ (List.Mem.tail _ (List.Mem.tail _ (List.Mem.head _)))), (List.forall_mem_cons.mpr ⟨(List.Mem.tail _ (List.Mem.tail _ (List.Mem.tail _ (List.Mem.tail _ (List.Mem.head _))))), (List.forall_mem_cons.mpr ⟨(List.Mem.tail _ (List.Mem.tail _ (List.Mem.tail _ (List.Mem.tail _ (List.Mem.tail _ (List.Mem.head _)))))), (List.forall_mem_cons.mpr ⟨(List.Mem.tail _ (List.Mem.head _)), (List.forall_mem_cons.mpr ⟨(List.Mem.head _), (fun q h => absurd h List.not_mem_nil)⟩)⟩)⟩)⟩)⟩)⟩) ?_
                refine L114 ((64 * (x / 64) + 64 - (64 * (x / 64)) : Int).toNat + 1) s41 x y z 0 (64 * (x / 64)) Is41 Gs41 (by first | exact ⟨oq_9604615f g9 hps6.2.1, oq_9604615f g9 hps6.2.1, oq_8d05831f g12 hps10, by decide, oq_96ccba6c g9 hps6.2.1, by decide, by decide⟩ | omega) (Nat.lt_succ_self _) ?_
                intro s45 x46 x47 Is45 Fs45 hs45
                have b48 : (0 : Int) ≤ iI s45 73 ∧ iI s45 73 ≤ 3 := Is45.1 73
                refine z_load X (x := x46) (show cdA 235 214 = some (.iload 4, 2, 0, 0, 0) from rfl) (List.Mem.tail _ (List.Mem.tail _ (List.Mem.tail _ (List.Mem.tail _ (List.Mem.head _))))) ?_
                exact w_iret X.1 q hRt rfl (ax_d X (show cdA 235 216 = some (.ireturn, 1, 0, 0, 0) from rfl)) (Nat.zero_le _) (Nat.zero_le _) ⟨_, rfl, Is45, Fs45, x46, rfl, ⟨by first | exact oq_fa4e5087 hs45.2.2.2.1 | omega, by first | exact oq_850460f6 hs45.2.2.2.2.2.2 hs45.2.2.2.2.1 hs45.1.2 | omega⟩, trivial⟩
              ·
                refine z_const X (show cdA 235 100 = some (.iconst 0, 1, 0, 0, 0) from rfl) ?_
                exact w_iret X.1 q hRt rfl (ax_d X (show cdA 235 101 = some (.ireturn, 1, 0, 0, 0) from rfl)) (Nat.zero_le _) (Nat.zero_le _) ⟨_, rfl, Is41, Gs41, 0, rfl, (by decide), trivial⟩
            refine z_icmp_le X (t := 92) (show cdA 235 85 = some (.if_icmp .le 7, 3, 5, 0, 0) from rfl) (by decide) ⟨by first | exact oq_452e8fda | omega, by first | exact oq_267eaf70 | omega⟩ ⟨by first | exact oq_452e8fda | omega, by first | exact oq_267eaf70 | omega⟩ (fun g49 => ?_) (fun g49 => ?_)
            ·
              refine z_const X (show cdA 235 92 = some (.iconst 0, 1, 0, 0, 0) from rfl) ?_
              exact N39 _ (Or.inl ⟨g49, rfl⟩)
            ·
              refine z_const X (show cdA 235 88 = some (.iconst 1, 1, 0, 0, 0) from rfl) ?_
              refine z_goto X (t := 93) (show cdA 235 89 = some (.goto 4, 3, 0, 0, 0) from rfl) (by decide) ?_
              exact N39 _ (Or.inr (⟨g49, rfl⟩))
  ·
    refine z_load_n X (x := y) (show cdA 235 16 = some (.iload_n 2, 1, 0, 0, 0) from rfl) (List.Mem.tail _ (List.Mem.tail _ (List.Mem.head _))) ?_
    refine z_const X (show cdA 235 17 = some (.iconst 0, 1, 0, 0, 0) from rfl) ?_
    refine z_bipush X (show cdA 235 18 = some (.bipush 127, 2, 0, 0, 127) from rfl) ?_
    refine z_callS X (rm := rmN 188) (As := [.int (Int32.ofInt y), .int (Int32.ofInt 0), .int (Int32.ofInt 127)]) (st := [.ref (A 179)]) (show cdA 235 20 = some (.invokestatic 209, 3, 188, 1, 0) from rfl) rfl (by rw [E.1, E.2.1, E.2.2.1]; exact k_in G Is3 (by first | exact ⟨p1.1, p1.2⟩ | omega) (by first | exact ⟨by decide, by decide⟩ | omega) (by first | exact ⟨by decide, by decide⟩ | omega)) ⟨by rw [E.2.2.2]; exact (show (rmN 188).frames + 1 ≤ (rmN 235).frames by decide), by rw [E.2.2.2]; exact (show 8 + (mNL (miB 188) + 11) + (rmN 188).locals ≤ (rmN 235).locals by decide), by rw [E.2.2.2]; exact (show 0 + (rmN 188).cells ≤ (rmN 235).cells by decide), by rw [E.2.2.2]; exact (show 0 + (rmN 188).slots ≤ (rmN 235).slots by decide)⟩ (Nat.le_of_ble_eq_true rfl) (fun vv s50 hq => ?_) (fun ee s50 hq => ?_)
    rotate_left
    · obtain ⟨Is50, Fs50, e51, hv, hrs50, hps50⟩ := hq; cases hv
    obtain ⟨Is50, Fs50, e51, hv, hrs50, hps50⟩ := hq
    cases hv
    have Gs50 := fm_ts Gs3 Fs50 (by decide) (by decide)
    have ws50_73 : iI s50 73 = iI s3 73 := fm_i Fs50 (by decide)
    show WS k 23 [(0, .ref (A 179)), (1, .int (Int32.ofInt x)), (2, .int (Int32.ofInt y)), (3, .int (Int32.ofInt z))] [.int (Int32.ofInt e51), .ref (A 179)] (Wd A dT s50) 0 0
    have N52 : ∀ e53 : Int, (((e51 ≠ 0) ∧ e53 = 0) ∨ ((e51 = 0) ∧ e53 = 1)) → WS k 31 [(0, .ref (A 179)), (1, .int (Int32.ofInt x)), (2, .int (Int32.ofInt y)), (3, .int (Int32.ofInt z))] [.int (Int32.ofInt e53), .ref (A 179)] (Wd A dT s50) 0 0 := by
      intro e53 he53
      have re53 : 0 ≤ e53 ∧ e53 ≤ 1 := by omega
      refine z_const X (show cdA 235 31 = some (.iconst 1, 1, 0, 0, 0) from rfl) ?_
      refine z_callV X 179 (rm := rmN 187) (As := [.int (Int32.ofInt e53), .int (Int32.ofInt 1)]) (st := []) (show cdA 235 32 = some (.invokevirtual 229, 3, 187, 0, 0) from rfl) rfl (by decide) rfl (by rw [E.1, E.2.1, E.2.2.1]; exact k_bad G Is50 (by first | exact oq_31e518ae re53.2 re53.1 | omega) (by first | exact ⟨by decide, by decide⟩ | omega)) ⟨by rw [E.2.2.2]; exact (show (rmN 187).frames + 1 ≤ (rmN 235).frames by decide), by rw [E.2.2.2]; exact (show 8 + (mNL (miB 187) + 11) + (rmN 187).locals ≤ (rmN 235).locals by decide), by rw [E.2.2.2]; exact (show 0 + (rmN 187).cells ≤ (rmN 235).cells by decide), by rw [E.2.2.2]; exact (show 0 + (rmN 187).slots ≤ (rmN 235).slots by decide)⟩ (Nat.le_of_ble_eq_true rfl) (fun vv s54 hq => ?_) (fun ee s54 hq => ?_)
      rotate_left
      · obtain ⟨Is54, Fs54, e55, hv, hrs54, hps54⟩ := hq; cases hv
      obtain ⟨Is54, Fs54, e55, hv, hrs54, hps54⟩ := hq
      cases hv
      have Gs54 := fm_ts Gs50 Fs54 (by decide) (by decide)
      have b56 : (0 : Int) ≤ iI s54 73 ∧ iI s54 73 ≤ 3 := Is54.1 73
      show WS k 35 [(0, .ref (A 179)), (1, .int (Int32.ofInt x)), (2, .int (Int32.ofInt y)), (3, .int (Int32.ofInt z))] [.int (Int32.ofInt e55)] (Wd A dT s54) 0 0
      refine z_if_ne X (t := 100) (show cdA 235 35 = some (.ifCond .ne 65, 3, 1, 0, 0) from rfl) (by decide) hrs54 (fun g57 => ?_) (fun g57 => ?_)
      ·
        refine z_const X (show cdA 235 100 = some (.iconst 0, 1, 0, 0, 0) from rfl) ?_
        exact w_iret X.1 q hRt rfl (ax_d X (show cdA 235 101 = some (.ireturn, 1, 0, 0, 0) from rfl)) (Nat.zero_le _) (Nat.zero_le _) ⟨_, rfl, Is54, Gs54, 0, rfl, (by decide), trivial⟩
      ·
        refine z_aload_n X (x := A 179) (show cdA 235 38 = some (.aload_n 0, 1, 0, 0, 0) from rfl) (List.Mem.head _) ?_
        refine z_load_n X (x := z) (show cdA 235 39 = some (.iload_n 3, 1, 0, 0, 0) from rfl) (List.Mem.tail _ (List.Mem.tail _ (List.Mem.tail _ (List.Mem.head _)))) ?_
        refine z_const X (show cdA 235 40 = some (.iconst (-1), 1, 0, 0, 0) from rfl) ?_
        refine z_bipush X (show cdA 235 41 = some (.bipush 7, 2, 0, 0, 7) from rfl) ?_
        refine z_callS X (rm := rmN 188) (As := [.int (Int32.ofInt z), .int (Int32.ofInt (-1)), .int (Int32.ofInt 7)]) (st := [.ref (A 179)]) (show cdA 235 43 = some (.invokestatic 209, 3, 188, 1, 0) from rfl) rfl (by rw [E.1, E.2.1, E.2.2.1]; exact k_in G Is54 (by first | exact ⟨p2.1, p2.2⟩ | omega) (by first | exact ⟨by decide, by decide⟩ | omega) (by first | exact ⟨by decide, by decide⟩ | omega)) ⟨by rw [E.2.2.2]; exact (show (rmN 188).frames + 1 ≤ (rmN 235).frames by decide), by rw [E.2.2.2]; exact (show 8 + (mNL (miB 188) + 11) + (rmN 188).locals ≤ (rmN 235).locals by decide), by rw [E.2.2.2]; exact (show 0 + (rmN 188).cells ≤ (rmN 235).cells by decide), by rw [E.2.2.2]; exact (show 0 + (rmN 188).slots ≤ (rmN 235).slots by decide)⟩ (Nat.le_of_ble_eq_true rfl) (fun vv s58 hq => ?_) (fun ee s58 hq => ?_)
        rotate_left
        · obtain ⟨Is58, Fs58, e59, hv, hrs58, hps58⟩ := hq; cases hv
        obtain ⟨Is58, Fs58, e59, hv, hrs58, hps58⟩ := hq
        cases hv
        have Gs58 := fm_ts Gs54 Fs58 (by decide) (by decide)
        have ws58_73 : iI s58 73 = iI s54 73 := fm_i Fs58 (by decide)
        show WS k 46 [(0, .ref (A 179)), (1, .int (Int32.ofInt x)), (2, .int (Int32.ofInt y)), (3, .int (Int32.ofInt z))] [.int (Int32.ofInt e59), .ref (A 179)] (Wd A dT s58) 0 0
        refine z_if_eq X (t := 88) (show cdA 235 46 = some (.ifCond .eq 42, 3, 0, 0, 0) from rfl) (by decide) hrs58 (fun g60 => ?_) (fun g60 => ?_)
        ·
          refine z_const X (show cdA 235 88 = some (.iconst 1, 1, 0, 0, 0) from rfl) ?_
          refine z_goto X (t := 93) (show cdA 235 89 = some (.goto 4, 3, 0, 0, 0) from rfl) (by decide) ?_
          refine z_const X (show cdA 235 93 = some (.iconst 2, 1, 0, 0, 0) from rfl) ?_
          refine z_callV X 179 (rm := rmN 187) (As := [.int (Int32.ofInt 1), .int (Int32.ofInt 2)]) (st := []) (show cdA 235 94 = some (.invokevirtual 229, 3, 187, 0, 0) from rfl) rfl (by decide) rfl (by rw [E.1, E.2.1, E.2.2.1]; exact k_bad G Is58 (by first | exact Or.inr (by decide) | omega) (by first | exact ⟨by decide, by decide⟩ | omega)) ⟨by rw [E.2.2.2]; exact (show (rmN 187).frames + 1 ≤ (rmN 235).frames by decide), by rw [E.2.2.2]; exact (show 8 + (mNL (miB 187) + 11) + (rmN 187).locals ≤ (rmN 235).locals by decide), by rw [E.2.2.2]; exact (show 0 + (rmN 187).cells ≤ (rmN 235).cells by decide), by rw [E.2.2.2]; exact (show 0 + (rmN 187).slots ≤ (rmN 235).slots by decide)⟩ (Nat.le_of_ble_eq_true rfl) (fun vv s61 hq => ?_) (fun ee s61 hq => ?_)
          rotate_left
          · obtain ⟨Is61, Fs61, e62, hv, hrs61, hps61⟩ := hq; cases hv
          obtain ⟨Is61, Fs61, e62, hv, hrs61, hps61⟩ := hq
          cases hv
          have Gs61 := fm_ts Gs58 Fs61 (by decide) (by decide)
          have b63 : (0 : Int) ≤ iI s61 73 ∧ iI s61 73 ≤ 3 := Is61.1 73
          show WS k 97 [(0, .ref (A 179)), (1, .int (Int32.ofInt x)), (2, .int (Int32.ofInt y)), (3, .int (Int32.ofInt z))] [.int (Int32.ofInt e62)] (Wd A dT s61) 0 0
          refine z_if_eq X (t := 102) (show cdA 235 97 = some (.ifCond .eq 5, 3, 0, 0, 0) from rfl) (by decide) hrs61 (fun g64 => ?_) (fun g64 => ?_)
          ·
            refine z_const X (show cdA 235 102 = some (.iconst 0, 1, 0, 0, 0) from rfl) ?_
            refine z_store X (lv' := [(4, .int (Int32.ofInt 0)), (0, .ref (A 179)), (1, .int (Int32.ofInt x)), (2, .int (Int32.ofInt y)), (3, .int (Int32.ofInt z))]) (show cdA 235 103 = some (.istore 4, 2, 0, 0, 0) from rfl) (by decide) (fun _ h => h) ?_
            refine z_bipush X (show cdA 235 105 = some (.bipush 64, 2, 0, 0, 64) from rfl) ?_
            refine z_load_n X (x := x) (show cdA 235 107 = some (.iload_n 1, 1, 0, 0, 0) from rfl) (List.Mem.tail _ (List.Mem.tail _ (List.Mem.head _))) ?_
            refine z_bipush X (show cdA 235 108 = some (.bipush 64, 2, 0, 0, 64) from rfl) ?_
            refine z_quot X (show cdA 235 110 = some (.idiv, 1, 0, 0, 0) from rfl) (by first | exact oq_77708b6d g5 hps3 | omega) ⟨by first | exact p0.1 | omega, by first | exact p0.2 | omega⟩ (by decide) (by decide) ?_
            refine z_mul X (show cdA 235 111 = some (.imul, 1, 0, 0, 0) from rfl) ?_
            refine z_store X (lv' := [(5, .int (Int32.ofInt (64 * (x / 64)))), (4, .int (Int32.ofInt 0)), (0, .ref (A 179)), (1, .int (Int32.ofInt x)), (2, .int (Int32.ofInt y)), (3, .int (Int32.ofInt z))]) (show cdA 235 112 = some (.istore 5, 2, 0, 0, 0) from rfl) (by decide) (fun _ h => h) ?_
            refine WS_lv (lv := [(0, .ref (A 179)), (1, .int (Int32.ofInt x)), (2, .int (Int32.ofInt y)), (3, .int (Int32.ofInt z)), (4, .int (Int32.ofInt 0)), (5, .int (Int32.ofInt (64 * (x / 64))))]) (List.forall_mem_cons.mpr ⟨(List.Mem.tail _ (List.Mem.tail _ (List.Mem.head _))), (List.forall_mem_cons.mpr ⟨(List.Mem.tail _ (List.Mem.tail _ (List.Mem.tail _ (List.Mem.head _)))), (List.forall_mem_cons.mpr ⟨(List.Mem.tail _ (List.Mem.tail _ (List.Mem.tail _ (List.Mem.tail _ (List.Mem.head _))))), (List.forall_mem_cons.mpr ⟨(List.Mem.tail _ (List.Mem.tail _ (List.Mem.tail _ (List.Mem.tail _ (List.Mem.tail _ (List.Mem.head _)))))), (List.forall_mem_cons.mpr ⟨(List.Mem.tail _ (List.Mem.head _)), (List.forall_mem_cons.mpr ⟨(List.Mem.head _), (fun q h => absurd h List.not_mem_nil)⟩)⟩)⟩)⟩)⟩)⟩) ?_
            refine L114 ((64 * (x / 64) + 64 - (64 * (x / 64)) : Int).toNat + 1) s61 x y z 0 (64 * (x / 64)) Is61 Gs61 (by first | exact ⟨oq_e339be55 g5 hps3, oq_9604615f g64 hps61.2.1, oq_dc25914b g64 hps61.2.1, by decide, oq_96ccba6c g64 hps61.2.1, by decide, by decide⟩ | omega) (Nat.lt_succ_self _) ?_
            intro s65 x66 x67 Is65 Fs65 hs65
            have b68 : (0 : Int) ≤ iI s65 73 ∧ iI s65 73 ≤ 3 := Is65.1 73
            refine z_load X (x := x66) (show cdA 235 214 = some (.iload 4, 2, 0, 0, 0) from rfl) (List.Mem.tail _ (List.Mem.tail _ (List.Mem.tail _ (List.Mem.tail _ (List.Mem.head _))))) ?_
            exact w_iret X.1 q hRt rfl (ax_d X (show cdA 235 216 = some (.ireturn, 1, 0, 0, 0) from rfl)) (Nat.zero_le _) (Nat.zero_le _) ⟨_, rfl, Is65, Fs65, x66, rfl, ⟨by first | exact oq_fa4e5087 hs65.2.2.2.1 | omega, by first | exact oq_850460f6 hs65.2.2.2.2.2.2 hs65.2.2.2.2.1 hs65.1.2 | omega⟩, trivial⟩
          ·
            refine z_const X (show cdA 235 100 = some (.iconst 0, 1, 0, 0, 0) from rfl) ?_
            exact w_iret X.1 q hRt rfl (ax_d X (show cdA 235 101 = some (.ireturn, 1, 0, 0, 0) from rfl)) (Nat.zero_le _) (Nat.zero_le _) ⟨_, rfl, Is61, Gs61, 0, rfl, (by decide), trivial⟩
        ·
          refine z_load_n X (x := x) (show cdA 235 49 = some (.iload_n 1, 1, 0, 0, 0) from rfl) (List.Mem.tail _ (List.Mem.head _)) ?_
          refine z_bipush X (show cdA 235 50 = some (.bipush 64, 2, 0, 0, 64) from rfl) ?_
          refine z_quot X (show cdA 235 52 = some (.idiv, 1, 0, 0, 0) from rfl) (by first | exact oq_77708b6d g5 hps3 | omega) ⟨by first | exact p0.1 | omega, by first | exact p0.2 | omega⟩ (by decide) (by decide) ?_
          refine z_load_n X (x := y) (show cdA 235 53 = some (.iload_n 2, 1, 0, 0, 0) from rfl) (List.Mem.tail _ (List.Mem.tail _ (List.Mem.head _))) ?_
          refine z_bipush X (show cdA 235 54 = some (.bipush 64, 2, 0, 0, 64) from rfl) ?_
          refine z_quot X (show cdA 235 56 = some (.idiv, 1, 0, 0, 0) from rfl) (by first | exact oq_d2f74293 g57 hps54.2.1 re53.2 he53 hps50 | omega) ⟨by first | exact p1.1 | omega, by first | exact p1.2 | omega⟩ (by decide) (by decide) ?_
          refine z_icmp_ne X (t := 88) (show cdA 235 57 = some (.if_icmp .ne 31, 3, 1, 0, 0) from rfl) (by decide) ⟨by first | exact oq_f457fe4f p0.1 | omega, by first | exact oq_e42dd4bd p0.2 | omega⟩ ⟨by first | exact oq_f457fe4f p1.1 | omega, by first | exact oq_e42dd4bd p1.2 | omega⟩ (fun g69 => ?_) (fun g69 => ?_)
          ·
            refine z_const X (show cdA 235 88 = some (.iconst 1, 1, 0, 0, 0) from rfl) ?_
            refine z_goto X (t := 93) (show cdA 235 89 = some (.goto 4, 3, 0, 0, 0) from rfl) (by decide) ?_
            refine z_const X (show cdA 235 93 = some (.iconst 2, 1, 0, 0, 0) from rfl) ?_
            refine z_callV X 179 (rm := rmN 187) (As := [.int (Int32.ofInt 1), .int (Int32.ofInt 2)]) (st := []) (show cdA 235 94 = some (.invokevirtual 229, 3, 187, 0, 0) from rfl) rfl (by decide) rfl (by rw [E.1, E.2.1, E.2.2.1]; exact k_bad G Is58 (by first | exact Or.inr (by decide) | omega) (by first | exact ⟨by decide, by decide⟩ | omega)) ⟨by rw [E.2.2.2]; exact (show (rmN 187).frames + 1 ≤ (rmN 235).frames by decide), by rw [E.2.2.2]; exact (show 8 + (mNL (miB 187) + 11) + (rmN 187).locals ≤ (rmN 235).locals by decide), by rw [E.2.2.2]; exact (show 0 + (rmN 187).cells ≤ (rmN 235).cells by decide), by rw [E.2.2.2]; exact (show 0 + (rmN 187).slots ≤ (rmN 235).slots by decide)⟩ (Nat.le_of_ble_eq_true rfl) (fun vv s70 hq => ?_) (fun ee s70 hq => ?_)
            rotate_left
            · obtain ⟨Is70, Fs70, e71, hv, hrs70, hps70⟩ := hq; cases hv
            obtain ⟨Is70, Fs70, e71, hv, hrs70, hps70⟩ := hq
            cases hv
            have Gs70 := fm_ts Gs58 Fs70 (by decide) (by decide)
            have b72 : (0 : Int) ≤ iI s70 73 ∧ iI s70 73 ≤ 3 := Is70.1 73
            show WS k 97 [(0, .ref (A 179)), (1, .int (Int32.ofInt x)), (2, .int (Int32.ofInt y)), (3, .int (Int32.ofInt z))] [.int (Int32.ofInt e71)] (Wd A dT s70) 0 0
            refine z_if_eq X (t := 102) (show cdA 235 97 = some (.ifCond .eq 5, 3, 0, 0, 0) from rfl) (by decide) hrs70 (fun g73 => ?_) (fun g73 => ?_)
            ·
              refine z_const X (show cdA 235 102 = some (.iconst 0, 1, 0, 0, 0) from rfl) ?_
              refine z_store X (lv' := [(4, .int (Int32.ofInt 0)), (0, .ref (A 179)), (1, .int (Int32.ofInt x)), (2, .int (Int32.ofInt y)), (3, .int (Int32.ofInt z))]) (show cdA 235 103 = some (.istore 4, 2, 0, 0, 0) from rfl) (by decide) (fun _ h => h) ?_
              refine z_bipush X (show cdA 235 105 = some (.bipush 64, 2, 0, 0, 64) from rfl) ?_
              refine z_load_n X (x := x) (show cdA 235 107 = some (.iload_n 1, 1, 0, 0, 0) from rfl) (List.Mem.tail _ (List.Mem.tail _ (List.Mem.head _))) ?_
              refine z_bipush X (show cdA 235 108 = some (.bipush 64, 2, 0, 0, 64) from rfl) ?_
              refine z_quot X (show cdA 235 110 = some (.idiv, 1, 0, 0, 0) from rfl) (by first | exact oq_77708b6d g5 hps3 | omega) ⟨by first | exact p0.1 | omega, by first | exact p0.2 | omega⟩ (by decide) (by decide) ?_
              refine z_mul X (show cdA 235 111 = some (.imul, 1, 0, 0, 0) from rfl) ?_
              refine z_store X (lv' := [(5, .int (Int32.ofInt (64 * (x / 64)))), (4, .int (Int32.ofInt 0)), (0, .ref (A 179)), (1, .int (Int32.ofInt x)), (2, .int (Int32.ofInt y)), (3, .int (Int32.ofInt z))]) (show cdA 235 112 = some (.istore 5, 2, 0, 0, 0) from rfl) (by decide) (fun _ h => h) ?_
              refine WS_lv (lv := [(0, .ref (A 179)), (1, .int (Int32.ofInt x)), (2, .int (Int32.ofInt y)), (3, .int (Int32.ofInt z)), (4, .int (Int32.ofInt 0)), (5, .int (Int32.ofInt (64 * (x / 64))))]) (List.forall_mem_cons.mpr ⟨(List.Mem.tail _ (List.Mem.tail _ (List.Mem.head _))), (List.forall_mem_cons.mpr ⟨(List.Mem.tail _ (List.Mem.tail _ (List.Mem.tail _ (List.Mem.head _)))), (List.forall_mem_cons.mpr ⟨(List.Mem.tail _ (List.Mem.tail _ (List.Mem.tail _ (List.Mem.tail _ (List.Mem.head _))))), (List.forall_mem_cons.mpr ⟨(List.Mem.tail _ (List.Mem.tail _ (List.Mem.tail _ (List.Mem.tail _ (List.Mem.tail _ (List.Mem.head _)))))), (List.forall_mem_cons.mpr ⟨(List.Mem.tail _ (List.Mem.head _)), (List.forall_mem_cons.mpr ⟨(List.Mem.head _), (fun q h => absurd h List.not_mem_nil)⟩)⟩)⟩)⟩)⟩)⟩) ?_
              refine L114 ((64 * (x / 64) + 64 - (64 * (x / 64)) : Int).toNat + 1) s70 x y z 0 (64 * (x / 64)) Is70 Gs70 (by first | exact ⟨oq_e339be55 g5 hps3, oq_9604615f g73 hps70.2.1, oq_8d05831f g60 hps58, by decide, oq_96ccba6c g73 hps70.2.1, by decide, by decide⟩ | omega) (Nat.lt_succ_self _) ?_
              intro s74 x75 x76 Is74 Fs74 hs74
              have b77 : (0 : Int) ≤ iI s74 73 ∧ iI s74 73 ≤ 3 := Is74.1 73
              refine z_load X (x := x75) (show cdA 235 214 = some (.iload 4, 2, 0, 0, 0) from rfl) (List.Mem.tail _ (List.Mem.tail _ (List.Mem.tail _ (List.Mem.tail _ (List.Mem.head _))))) ?_
              exact w_iret X.1 q hRt rfl (ax_d X (show cdA 235 216 = some (.ireturn, 1, 0, 0, 0) from rfl)) (Nat.zero_le _) (Nat.zero_le _) ⟨_, rfl, Is74, Fs74, x75, rfl, ⟨by first | exact oq_fa4e5087 hs74.2.2.2.1 | omega, by first | exact oq_850460f6 hs74.2.2.2.2.2.2 hs74.2.2.2.2.1 hs74.1.2 | omega⟩, trivial⟩
            ·
              refine z_const X (show cdA 235 100 = some (.iconst 0, 1, 0, 0, 0) from rfl) ?_
              exact w_iret X.1 q hRt rfl (ax_d X (show cdA 235 101 = some (.ireturn, 1, 0, 0, 0) from rfl)) (Nat.zero_le _) (Nat.zero_le _) ⟨_, rfl, Is70, Gs70, 0, rfl, (by decide), trivial⟩
          ·
            refine z_load_n X (x := x) (show cdA 235 60 = some (.iload_n 1, 1, 0, 0, 0) from rfl) (List.Mem.tail _ (List.Mem.head _)) ?_
            refine z_bipush X (show cdA 235 61 = some (.bipush 8, 2, 0, 0, 8) from rfl) ?_
            refine z_mod X (show cdA 235 63 = some (.irem, 1, 0, 0, 0) from rfl) (by first | exact oq_77708b6d g5 hps3 | omega) ⟨by first | exact p0.1 | omega, by first | exact p0.2 | omega⟩ (by decide) (by decide) ?_
            refine z_load_n X (x := y) (show cdA 235 64 = some (.iload_n 2, 1, 0, 0, 0) from rfl) (List.Mem.tail _ (List.Mem.tail _ (List.Mem.head _))) ?_
            refine z_bipush X (show cdA 235 65 = some (.bipush 8, 2, 0, 0, 8) from rfl) ?_
            refine z_mod X (show cdA 235 67 = some (.irem, 1, 0, 0, 0) from rfl) (by first | exact oq_d2f74293 g57 hps54.2.1 re53.2 he53 hps50 | omega) ⟨by first | exact p1.1 | omega, by first | exact p1.2 | omega⟩ (by decide) (by decide) ?_
            refine z_icmp_gt X (t := 88) (show cdA 235 68 = some (.if_icmp .gt 20, 3, 4, 0, 0) from rfl) (by decide) ⟨by first | exact oq_e86162eb | omega, by first | exact oq_70086759 | omega⟩ ⟨by first | exact oq_e86162eb | omega, by first | exact oq_70086759 | omega⟩ (fun g78 => ?_) (fun g78 => ?_)
            ·
              refine z_const X (show cdA 235 88 = some (.iconst 1, 1, 0, 0, 0) from rfl) ?_
              refine z_goto X (t := 93) (show cdA 235 89 = some (.goto 4, 3, 0, 0, 0) from rfl) (by decide) ?_
              refine z_const X (show cdA 235 93 = some (.iconst 2, 1, 0, 0, 0) from rfl) ?_
              refine z_callV X 179 (rm := rmN 187) (As := [.int (Int32.ofInt 1), .int (Int32.ofInt 2)]) (st := []) (show cdA 235 94 = some (.invokevirtual 229, 3, 187, 0, 0) from rfl) rfl (by decide) rfl (by rw [E.1, E.2.1, E.2.2.1]; exact k_bad G Is58 (by first | exact Or.inr (by decide) | omega) (by first | exact ⟨by decide, by decide⟩ | omega)) ⟨by rw [E.2.2.2]; exact (show (rmN 187).frames + 1 ≤ (rmN 235).frames by decide), by rw [E.2.2.2]; exact (show 8 + (mNL (miB 187) + 11) + (rmN 187).locals ≤ (rmN 235).locals by decide), by rw [E.2.2.2]; exact (show 0 + (rmN 187).cells ≤ (rmN 235).cells by decide), by rw [E.2.2.2]; exact (show 0 + (rmN 187).slots ≤ (rmN 235).slots by decide)⟩ (Nat.le_of_ble_eq_true rfl) (fun vv s79 hq => ?_) (fun ee s79 hq => ?_)
              rotate_left
              · obtain ⟨Is79, Fs79, e80, hv, hrs79, hps79⟩ := hq; cases hv
              obtain ⟨Is79, Fs79, e80, hv, hrs79, hps79⟩ := hq
              cases hv
              have Gs79 := fm_ts Gs58 Fs79 (by decide) (by decide)
              have b81 : (0 : Int) ≤ iI s79 73 ∧ iI s79 73 ≤ 3 := Is79.1 73
              show WS k 97 [(0, .ref (A 179)), (1, .int (Int32.ofInt x)), (2, .int (Int32.ofInt y)), (3, .int (Int32.ofInt z))] [.int (Int32.ofInt e80)] (Wd A dT s79) 0 0
              refine z_if_eq X (t := 102) (show cdA 235 97 = some (.ifCond .eq 5, 3, 0, 0, 0) from rfl) (by decide) hrs79 (fun g82 => ?_) (fun g82 => ?_)
              ·
                refine z_const X (show cdA 235 102 = some (.iconst 0, 1, 0, 0, 0) from rfl) ?_
                refine z_store X (lv' := [(4, .int (Int32.ofInt 0)), (0, .ref (A 179)), (1, .int (Int32.ofInt x)), (2, .int (Int32.ofInt y)), (3, .int (Int32.ofInt z))]) (show cdA 235 103 = some (.istore 4, 2, 0, 0, 0) from rfl) (by decide) (fun _ h => h) ?_
                refine z_bipush X (show cdA 235 105 = some (.bipush 64, 2, 0, 0, 64) from rfl) ?_
                refine z_load_n X (x := x) (show cdA 235 107 = some (.iload_n 1, 1, 0, 0, 0) from rfl) (List.Mem.tail _ (List.Mem.tail _ (List.Mem.head _))) ?_
                refine z_bipush X (show cdA 235 108 = some (.bipush 64, 2, 0, 0, 64) from rfl) ?_
                refine z_quot X (show cdA 235 110 = some (.idiv, 1, 0, 0, 0) from rfl) (by first | exact oq_77708b6d g5 hps3 | omega) ⟨by first | exact p0.1 | omega, by first | exact p0.2 | omega⟩ (by decide) (by decide) ?_
                refine z_mul X (show cdA 235 111 = some (.imul, 1, 0, 0, 0) from rfl) ?_
                refine z_store X (lv' := [(5, .int (Int32.ofInt (64 * (x / 64)))), (4, .int (Int32.ofInt 0)), (0, .ref (A 179)), (1, .int (Int32.ofInt x)), (2, .int (Int32.ofInt y)), (3, .int (Int32.ofInt z))]) (show cdA 235 112 = some (.istore 5, 2, 0, 0, 0) from rfl) (by decide) (fun _ h => h) ?_
                refine WS_lv (lv := [(0, .ref (A 179)), (1, .int (Int32.ofInt x)), (2, .int (Int32.ofInt y)), (3, .int (Int32.ofInt z)), (4, .int (Int32.ofInt 0)), (5, .int (Int32.ofInt (64 * (x / 64))))]) (List.forall_mem_cons.mpr ⟨(List.Mem.tail _ (List.Mem.tail _ (List.Mem.head _))), (List.forall_mem_cons.mpr ⟨(List.Mem.tail _ (List.Mem.tail _ (List.Mem.tail _ (List.Mem.head _)))), (List.forall_mem_cons.mpr ⟨(List.Mem.tail _ (List.Mem.tail _ (List.Mem.tail _ (List.Mem.tail _ (List.Mem.head _))))), (List.forall_mem_cons.mpr ⟨(List.Mem.tail _ (List.Mem.tail _ (List.Mem.tail _ (List.Mem.tail _ (List.Mem.tail _ (List.Mem.head _)))))), (List.forall_mem_cons.mpr ⟨(List.Mem.tail _ (List.Mem.head _)), (List.forall_mem_cons.mpr ⟨(List.Mem.head _), (fun q h => absurd h List.not_mem_nil)⟩)⟩)⟩)⟩)⟩)⟩) ?_
                refine L114 ((64 * (x / 64) + 64 - (64 * (x / 64)) : Int).toNat + 1) s79 x y z 0 (64 * (x / 64)) Is79 Gs79 (by first | exact ⟨oq_e339be55 g5 hps3, oq_9604615f g82 hps79.2.1, oq_8d05831f g60 hps58, by decide, oq_96ccba6c g82 hps79.2.1, by decide, by decide⟩ | omega) (Nat.lt_succ_self _) ?_
                intro s83 x84 x85 Is83 Fs83 hs83
                have b86 : (0 : Int) ≤ iI s83 73 ∧ iI s83 73 ≤ 3 := Is83.1 73
                refine z_load X (x := x84) (show cdA 235 214 = some (.iload 4, 2, 0, 0, 0) from rfl) (List.Mem.tail _ (List.Mem.tail _ (List.Mem.tail _ (List.Mem.tail _ (List.Mem.head _))))) ?_
                exact w_iret X.1 q hRt rfl (ax_d X (show cdA 235 216 = some (.ireturn, 1, 0, 0, 0) from rfl)) (Nat.zero_le _) (Nat.zero_le _) ⟨_, rfl, Is83, Fs83, x84, rfl, ⟨by first | exact oq_fa4e5087 hs83.2.2.2.1 | omega, by first | exact oq_850460f6 hs83.2.2.2.2.2.2 hs83.2.2.2.2.1 hs83.1.2 | omega⟩, trivial⟩
              ·
                refine z_const X (show cdA 235 100 = some (.iconst 0, 1, 0, 0, 0) from rfl) ?_
                exact w_iret X.1 q hRt rfl (ax_d X (show cdA 235 101 = some (.ireturn, 1, 0, 0, 0) from rfl)) (Nat.zero_le _) (Nat.zero_le _) ⟨_, rfl, Is79, Gs79, 0, rfl, (by decide), trivial⟩
            ·
              refine z_load_n X (x := x) (show cdA 235 71 = some (.iload_n 1, 1, 0, 0, 0) from rfl) (List.Mem.tail _ (List.Mem.head _)) ?_
              refine z_bipush X (show cdA 235 72 = some (.bipush 8, 2, 0, 0, 8) from rfl) ?_
              refine z_quot X (show cdA 235 74 = some (.idiv, 1, 0, 0, 0) from rfl) (by first | exact oq_77708b6d g5 hps3 | omega) ⟨by first | exact p0.1 | omega, by first | exact p0.2 | omega⟩ (by decide) (by decide) ?_
              refine z_bipush X (show cdA 235 75 = some (.bipush 8, 2, 0, 0, 8) from rfl) ?_
              refine z_mod X (show cdA 235 77 = some (.irem, 1, 0, 0, 0) from rfl) (by first | exact oq_88610498 g5 hps3 | omega) ⟨by first | exact oq_186a3934 p0.1 | omega, by first | exact oq_2590a617 p0.2 | omega⟩ (by decide) (by decide) ?_
              refine z_load_n X (x := y) (show cdA 235 78 = some (.iload_n 2, 1, 0, 0, 0) from rfl) (List.Mem.tail _ (List.Mem.tail _ (List.Mem.head _))) ?_
              refine z_bipush X (show cdA 235 79 = some (.bipush 8, 2, 0, 0, 8) from rfl) ?_
              refine z_quot X (show cdA 235 81 = some (.idiv, 1, 0, 0, 0) from rfl) (by first | exact oq_d2f74293 g57 hps54.2.1 re53.2 he53 hps50 | omega) ⟨by first | exact p1.1 | omega, by first | exact p1.2 | omega⟩ (by decide) (by decide) ?_
              refine z_bipush X (show cdA 235 82 = some (.bipush 8, 2, 0, 0, 8) from rfl) ?_
              refine z_mod X (show cdA 235 84 = some (.irem, 1, 0, 0, 0) from rfl) (by first | exact oq_589b9ea4 g57 hps54.2.1 re53.2 he53 hps50 | omega) ⟨by first | exact oq_186a3934 p1.1 | omega, by first | exact oq_2590a617 p1.2 | omega⟩ (by decide) (by decide) ?_
              have N87 : ∀ e88 : Int, (((((x / 8) % 8) ≤ ((y / 8) % 8)) ∧ e88 = 0) ∨ ((((y / 8) % 8) < ((x / 8) % 8)) ∧ e88 = 1)) → WS k 93 [(0, .ref (A 179)), (1, .int (Int32.ofInt x)), (2, .int (Int32.ofInt y)), (3, .int (Int32.ofInt z))] [.int (Int32.ofInt e88), .ref (A 179)] (Wd A dT s58) 0 0 := by
                intro e88 he88
                have re88 : 0 ≤ e88 ∧ e88 ≤ 1 := by omega
                refine z_const X (show cdA 235 93 = some (.iconst 2, 1, 0, 0, 0) from rfl) ?_
                refine z_callV X 179 (rm := rmN 187) (As := [.int (Int32.ofInt e88), .int (Int32.ofInt 2)]) (st := []) (show cdA 235 94 = some (.invokevirtual 229, 3, 187, 0, 0) from rfl) rfl (by decide) rfl (by rw [E.1, E.2.1, E.2.2.1]; exact k_bad G Is58 (by first | exact oq_6a416fd5 re88.2 re88.1 he88 | omega) (by first | exact ⟨by decide, by decide⟩ | omega)) ⟨by rw [E.2.2.2]; exact (show (rmN 187).frames + 1 ≤ (rmN 235).frames by decide), by rw [E.2.2.2]; exact (show 8 + (mNL (miB 187) + 11) + (rmN 187).locals ≤ (rmN 235).locals by decide), by rw [E.2.2.2]; exact (show 0 + (rmN 187).cells ≤ (rmN 235).cells by decide), by rw [E.2.2.2]; exact (show 0 + (rmN 187).slots ≤ (rmN 235).slots by decide)⟩ (Nat.le_of_ble_eq_true rfl) (fun vv s89 hq => ?_) (fun ee s89 hq => ?_)
                rotate_left
                · obtain ⟨Is89, Fs89, e90, hv, hrs89, hps89⟩ := hq; cases hv
                obtain ⟨Is89, Fs89, e90, hv, hrs89, hps89⟩ := hq
                cases hv
                have Gs89 := fm_ts Gs58 Fs89 (by decide) (by decide)
                have b91 : (0 : Int) ≤ iI s89 73 ∧ iI s89 73 ≤ 3 := Is89.1 73
                show WS k 97 [(0, .ref (A 179)), (1, .int (Int32.ofInt x)), (2, .int (Int32.ofInt y)), (3, .int (Int32.ofInt z))] [.int (Int32.ofInt e90)] (Wd A dT s89) 0 0
                refine z_if_eq X (t := 102) (show cdA 235 97 = some (.ifCond .eq 5, 3, 0, 0, 0) from rfl) (by decide) hrs89 (fun g92 => ?_) (fun g92 => ?_)
                ·
                  refine z_const X (show cdA 235 102 = some (.iconst 0, 1, 0, 0, 0) from rfl) ?_
                  refine z_store X (lv' := [(4, .int (Int32.ofInt 0)), (0, .ref (A 179)), (1, .int (Int32.ofInt x)), (2, .int (Int32.ofInt y)), (3, .int (Int32.ofInt z))]) (show cdA 235 103 = some (.istore 4, 2, 0, 0, 0) from rfl) (by decide) (fun _ h => h) ?_
                  refine z_bipush X (show cdA 235 105 = some (.bipush 64, 2, 0, 0, 64) from rfl) ?_
                  refine z_load_n X (x := x) (show cdA 235 107 = some (.iload_n 1, 1, 0, 0, 0) from rfl) (List.Mem.tail _ (List.Mem.tail _ (List.Mem.head _))) ?_
                  refine z_bipush X (show cdA 235 108 = some (.bipush 64, 2, 0, 0, 64) from rfl) ?_
                  refine z_quot X (show cdA 235 110 = some (.idiv, 1, 0, 0, 0) from rfl) (by first | exact oq_77708b6d g5 hps3 | omega) ⟨by first | exact p0.1 | omega, by first | exact p0.2 | omega⟩ (by decide) (by decide) ?_
                  refine z_mul X (show cdA 235 111 = some (.imul, 1, 0, 0, 0) from rfl) ?_
                  refine z_store X (lv' := [(5, .int (Int32.ofInt (64 * (x / 64)))), (4, .int (Int32.ofInt 0)), (0, .ref (A 179)), (1, .int (Int32.ofInt x)), (2, .int (Int32.ofInt y)), (3, .int (Int32.ofInt z))]) (show cdA 235 112 = some (.istore 5, 2, 0, 0, 0) from rfl) (by decide) (fun _ h => h) ?_
                  refine WS_lv (lv := [(0, .ref (A 179)), (1, .int (Int32.ofInt x)), (2, .int (Int32.ofInt y)), (3, .int (Int32.ofInt z)), (4, .int (Int32.ofInt 0)), (5, .int (Int32.ofInt (64 * (x / 64))))]) (List.forall_mem_cons.mpr ⟨(List.Mem.tail _ (List.Mem.tail _ (List.Mem.head _))), (List.forall_mem_cons.mpr ⟨(List.Mem.tail _ (List.Mem.tail _ (List.Mem.tail _ (List.Mem.head _)))), (List.forall_mem_cons.mpr ⟨(List.Mem.tail _ (List.Mem.tail _ (List.Mem.tail _ (List.Mem.tail _ (List.Mem.head _))))), (List.forall_mem_cons.mpr ⟨(List.Mem.tail _ (List.Mem.tail _ (List.Mem.tail _ (List.Mem.tail _ (List.Mem.tail _ (List.Mem.head _)))))), (List.forall_mem_cons.mpr ⟨(List.Mem.tail _ (List.Mem.head _)), (List.forall_mem_cons.mpr ⟨(List.Mem.head _), (fun q h => absurd h List.not_mem_nil)⟩)⟩)⟩)⟩)⟩)⟩) ?_
                  refine L114 ((64 * (x / 64) + 64 - (64 * (x / 64)) : Int).toNat + 1) s89 x y z 0 (64 * (x / 64)) Is89 Gs89 (by omega) (Nat.lt_succ_self _) ?_
                  intro s93 x94 x95 Is93 Fs93 hs93
                  have b96 : (0 : Int) ≤ iI s93 73 ∧ iI s93 73 ≤ 3 := Is93.1 73
                  refine z_load X (x := x94) (show cdA 235 214 = some (.iload 4, 2, 0, 0, 0) from rfl) (List.Mem.tail _ (List.Mem.tail _ (List.Mem.tail _ (List.Mem.tail _ (List.Mem.head _))))) ?_
                  exact w_iret X.1 q hRt rfl (ax_d X (show cdA 235 216 = some (.ireturn, 1, 0, 0, 0) from rfl)) (Nat.zero_le _) (Nat.zero_le _) ⟨_, rfl, Is93, Fs93, x94, rfl, ⟨by first | exact oq_fa4e5087 hs93.2.2.2.1 | omega, by first | exact oq_850460f6 hs93.2.2.2.2.2.2 hs93.2.2.2.2.1 hs93.1.2 | omega⟩, trivial⟩
                ·
                  refine z_const X (show cdA 235 100 = some (.iconst 0, 1, 0, 0, 0) from rfl) ?_
                  exact w_iret X.1 q hRt rfl (ax_d X (show cdA 235 101 = some (.ireturn, 1, 0, 0, 0) from rfl)) (Nat.zero_le _) (Nat.zero_le _) ⟨_, rfl, Is89, Gs89, 0, rfl, (by decide), trivial⟩
              refine z_icmp_le X (t := 92) (show cdA 235 85 = some (.if_icmp .le 7, 3, 5, 0, 0) from rfl) (by decide) ⟨by first | exact oq_452e8fda | omega, by first | exact oq_267eaf70 | omega⟩ ⟨by first | exact oq_452e8fda | omega, by first | exact oq_267eaf70 | omega⟩ (fun g97 => ?_) (fun g97 => ?_)
              ·
                refine z_const X (show cdA 235 92 = some (.iconst 0, 1, 0, 0, 0) from rfl) ?_
                exact N87 _ (Or.inl ⟨g97, rfl⟩)
              ·
                refine z_const X (show cdA 235 88 = some (.iconst 1, 1, 0, 0, 0) from rfl) ?_
                refine z_goto X (t := 93) (show cdA 235 89 = some (.goto 4, 3, 0, 0, 0) from rfl) (by decide) ?_
                exact N87 _ (Or.inr (⟨g97, rfl⟩))
    refine z_if_ne X (t := 30) (show cdA 235 23 = some (.ifCond .ne 7, 3, 1, 0, 0) from rfl) (by decide) hrs50 (fun g98 => ?_) (fun g98 => ?_)
    ·
      refine z_const X (show cdA 235 30 = some (.iconst 0, 1, 0, 0, 0) from rfl) ?_
      exact N52 _ (Or.inl ⟨g98, rfl⟩)
    ·
      refine z_const X (show cdA 235 26 = some (.iconst 1, 1, 0, 0, 0) from rfl) ?_
      refine z_goto X (t := 31) (show cdA 235 27 = some (.goto 4, 3, 0, 0, 0) from rfl) (by decide) ?_
      exact N52 _ (Or.inr (⟨g98, rfl⟩))
end M39
