set_option maxHeartbeats 8000000 in
set_option maxRecDepth 100000 in
theorem c_K_leastMeeting_before (l : Launch) (dC : Nat → ClassId) (dI : Nat → Nat → Nat) (cy : Nat → ClassId) (ad : Nat → Nat) (sz : Nat) (N : Nat) (a1 : Int32) (a2 : Int32) (iK : Nat → Int32) (lK : Nat → Nat → Int64) (aK : Nat → Nat → Int32) (iB : Nat → Int32) (lB : Nat → Nat → Int64) (aB : Nat → Nat → Int32) (iC : Nat → Int32) (aC : Nat → Nat → Int32) (q : Int32) (h : f_K_leastMeeting_before N a1 a2 (iB 13) (iC 9) (aC 5) (lK 4) (lK 11) (aK 5) (aK 6) = some q) : Met l yX2_leastMeeting wsX2_leastMeeting ({ frames := 2, cells := 0, slots := 0, locals := 42 } : Room) (cP (dC, dI) cy [.ref (ad 0), .int a1, .int a2, .ref (ad 8)] (zzK ad cy (ad 11) (ad 18) iK lK aK iB lB aB iC aC) sz) (cQi (dC, dI) cy q (zzK ad cy (ad 11) (ad 18) iK lK aK iB lB aB iC aC) (va_A (zzK ad cy (ad 11) (ad 18) iK lK aK iB lB aB iC aC) sz)) 0 0 (va_A (zzK ad cy (ad 11) (ad 18) iK lK aK iB lB aB iC aC) sz) := by
  refine Met.ofW (cc := cX2_leastMeeting) (maxL := 11) (ret := (some .int)) (by decide) rfl ?_
  intro p e s m args below meth c s₁ B hml hv
  obtain ⟨hav, hsz, hP, hK, hD0, hN⟩ := hv
  have hx := B.exec
  have hb := B.bytes
  have hr := B.returns
  have hts := atoms_spec (ws := wsX2_leastMeeting) B.pre
  have hown : s.vm.findClass RX2 = some m.cls := findClass_of_methodNamed B.named
  have hlocks := B.notSynchronized
  subst hsz
  have hD := hD0.self (sz := s.heap.size)
  generalize hAe : va_A (zzK ad cy (ad 11) (ad 18) iK lK aK iB lB aB iC aC) s.heap.size = A at hD ⊢
  have hA : ∀ q : Nat, s.heap.size ≤ q → A q := fun q h => by rw [← hAe]; exact Or.inr h
  have hS : va_S A s.heap s.heap [] := va_S.rf
  generalize hWQ : (zzK ad cy (ad 11) (ad 18) iK lK aK iB lB aB iC aC) = WQ
  generalize hQQ : MQ below (cQi (dC, dI) cy q WQ A) args s 0 0 A = QQ
  have hl := lv_entry ([.ref (ad 0), .int a1, .int a2, .ref (ad 8)] : List Value) (n := 11) (Nat.le_of_ble_eq_true rfl)
  have hfr := lg_entry_eq m ([.ref (ad 0), .int a1, .int a2, .ref (ad 8)] : List Value) 11
  rw [← hav] at hfr
  rw [hfr]
  clear hfr hav
  generalize (lg_sl ([.ref (ad 0), .int a1, .int a2, .ref (ad 8)] : List Value) ++ List.replicate (11 - (lg_sl ([.ref (ad 0), .int a1, .int a2, .ref (ad 8)] : List Value)).length) Slot.unset).toArray = ls at hl ⊢
  have hl : lv_has ls 11 [(0, .ref (ad 0)), (1, .int a1), (2, .int a2), (3, .ref (ad 8))] := hl
  have kf15 := hts _ (List.mem_cons_of_mem _ m_fl_X2_15)
  have ki2 := (fun w h => List.mem_cons_of_mem _ (i_X2 w h) : ∀ w ∈ u_ws RX2 TX2 15, w ∈ wsX2_leastMeeting)
  have kc88 := hts _ (List.mem_cons_of_mem _ m_kl_X2_88)
  have kf22 := hts _ (List.mem_cons_of_mem _ m_fl_X2_22)
  have kf54 := hts _ (List.mem_cons_of_mem _ m_fl_X2_54)
  have kf44 := hts _ (List.mem_cons_of_mem _ m_fl_X2_44)
  have kf18 := hts _ (List.mem_cons_of_mem _ m_fl_X2_18)
  refine (?_ : ∀ (H : Heap) (locs : List Loc), va_P (dC, dI) vwCl (zzK ad cy (ad 11) (ad 18) iK lK aK iB lB aB iC aC) H → va_D A (zzK ad cy (ad 11) (ad 18) iK lK aK iB lB aB iC aC) → va_S A s.heap H locs → W p l e ({ frames := 2, cells := 0, slots := 0, locals := 42 } : Room) s m args below meth c H locs 0 0 QQ (F0 m 0 ls [])) s.heap [] hP hD hS
  clear hP hD hS
  have B176 : ∀ (v5 : Int32) (v6 : Int32) (v7 : Int32) (v8 : Int64) (k68 : Int32 → Option Int32) (hk68 : ∀ (v7' : Int32) (H : Heap) (locs : List Loc) (ls : Array Slot), k68 v7' = some q → va_P (dC, dI) vwCl (zzK ad cy (ad 11) (ad 18) iK lK aK iB lB aB iC aC) H → va_D A (zzK ad cy (ad 11) (ad 18) iK lK aK iB lB aB iC aC) → va_S A s.heap H locs → lv_has ls 11 [(0, .ref (ad 0)), (3, .ref (ad 8)), (5, .int v5), (6, .int v6), (7, .int v7')] → W p l e ({ frames := 2, cells := 0, slots := 0, locals := 42 } : Room) s m args below meth c H locs 0 0 QQ (F0 m 68 ls [])) (H : Heap) (locs : List Loc) (ls : Array Slot), f_K_leastMeeting_before_176 N (iB 13) (iC 9) (aC 5) (lK 4) (lK 11) (aK 5) (aK 6) k68 v5 v6 v7 v8 = some q → va_P (dC, dI) vwCl (zzK ad cy (ad 11) (ad 18) iK lK aK iB lB aB iC aC) H → va_D A (zzK ad cy (ad 11) (ad 18) iK lK aK iB lB aB iC aC) → va_S A s.heap H locs → lv_has ls 11 [(0, .ref (ad 0)), (3, .ref (ad 8)), (5, .int v5), (6, .int v6), (7, .int v7), (8, .long v8)] → W p l e ({ frames := 2, cells := 0, slots := 0, locals := 42 } : Room) s m args below meth c H locs 0 0 QQ (F0 m 176 ls []) := by
    intro v5 v6 v7 v8 k68 hk68 H locs ls h hP hD hS hl
    unfold f_K_leastMeeting_before_176 at h
    refine lv_lload hx hb dX2_leastMeeting_176 (lv_at hl 5 rfl) ?_
    refine lv_lconst (v := 0) hx hb dX2_leastMeeting_178 (by decide) ?_
    refine W.lcmp hx hb dX2_leastMeeting_179 ?_
    refine lv_if_eq (tgt := 195) hx hb dX2_leastMeeting_180 (by decide) (fun cz => ?_) (fun cz => ?_)
    · have h := g_t h (lg_cmp0.mp cz)
      refine lv_iinc (v := (v7 + (1 : Int32))) (lv' := [(7, .int ((v7 + (1 : Int32)))), (0, .ref (ad 0)), (3, .ref (ad 8)), (5, .int v5), (6, .int v6), (8, .long v8)]) hx hb dX2_leastMeeting_195 hl (k := 4) rfl rfl (by decide) rfl (fun ls hl => ?_)
      refine lv_goto (tgt := 68) hx hb dX2_leastMeeting_198 (by decide) ?_
      exact hk68 ((v7 + (1 : Int32))) H locs ls h hP hD hS (lv_sub hl [1, 2, 3, 4, 0] rfl)
    · have h := g_f h (fun z => cz (lg_cmp0.mpr z))
      refine lv_bipush (v := 64) hx hb dX2_leastMeeting_183 (by decide) ?_
      refine lv_iload hx hb dX2_leastMeeting_185 (lv_at hl 4 rfl) ?_
      refine lv_imul hx hb dX2_leastMeeting_187 ?_
      refine lv_lload hx hb dX2_leastMeeting_188 (lv_at hl 5 rfl) ?_
      obtain ⟨q190, e190, h⟩ := g_b h
      refine callSi (cc := cX2_leastMeeting) (ws' := zzK ad cy (ad 11) (ad 18) iK lK aK iB lB aB iC aC) (As := [.long v8]) (rest := [.int (((64 : Int32) * v7))]) ⟨hx, hb, hml, hown, hts⟩ (c_K_lowestBit l dC dI cy ad H.size v8 q190 e190) (va_cwS 1 hts (goodS m_ml_X2_180 m_st_X2_lowestBit m_in_X2 m_cd_X2_lowestBit) rfl rfl rfl (by decide +kernel) ⟨Nat.le_of_ble_eq_true rfl, Nat.le_of_ble_eq_true rfl⟩) hN hK hP hD hS hA [] [none, none, none, none, none, none, none, none, none, none, none, none, none, none, none, none, none, none, none, none, none, none, none, none, none, none, none] rfl rfl rfl rfl rfl rfl rfl hl.1 rfl (Nat.le_of_ble_eq_true rfl) dX2_leastMeeting_190 ⟨Nat.zero_le _, Nat.zero_le _⟩ (fun H locs hP hD hS => ?_)
      refine lv_iadd hx hb dX2_leastMeeting_193 ?_
      have h' := Option.some.inj h
      rw [← hQQ]
      exact W.iret (v := (((64 : Int32) * v7) + q190)) hx hb hr (fun t ht hW => ⟨⟨(((64 : Int32) * v7) + q190), (), rfl, by rw [← h'], by rw [← hWQ, ht]; exact hP, va_K.moved hW.alike hK⟩, hS.F ht⟩) hS.2.2 dX2_leastMeeting_194
  have B91 : ∀ (n : Nat) (v5 : Int32) (v6 : Int32) (v7 : Int32) (k68 : Int32 → Option Int32) (hk68 : ∀ (v7' : Int32) (H : Heap) (locs : List Loc) (ls : Array Slot), k68 v7' = some q → va_P (dC, dI) vwCl (zzK ad cy (ad 11) (ad 18) iK lK aK iB lB aB iC aC) H → va_D A (zzK ad cy (ad 11) (ad 18) iK lK aK iB lB aB iC aC) → va_S A s.heap H locs → lv_has ls 11 [(0, .ref (ad 0)), (3, .ref (ad 8)), (5, .int v5), (6, .int v6), (7, .int v7')] → W p l e ({ frames := 2, cells := 0, slots := 0, locals := 42 } : Room) s m args below meth c H locs 0 0 QQ (F0 m 68 ls [])) (v8 : Int64) (v10 : Int32) (H : Heap) (locs : List Loc) (ls : Array Slot), f_K_leastMeeting_before_91 N (iB 13) (iC 9) (aC 5) (lK 4) (lK 11) (aK 5) (aK 6) k68 v5 v6 v7 n v8 v10 = some q → va_P (dC, dI) vwCl (zzK ad cy (ad 11) (ad 18) iK lK aK iB lB aB iC aC) H → va_D A (zzK ad cy (ad 11) (ad 18) iK lK aK iB lB aB iC aC) → va_S A s.heap H locs → lv_has ls 11 [(0, .ref (ad 0)), (3, .ref (ad 8)), (5, .int v5), (6, .int v6), (7, .int v7), (8, .long v8), (10, .int v10)] → W p l e ({ frames := 2, cells := 0, slots := 0, locals := 42 } : Room) s m args below meth c H locs 0 0 QQ (F0 m 91 ls []) := by
    intro n
    induction n with
    | zero =>
      intro v5 v6 v7 k68 hk68 v8 v10 H locs ls h hP hD hS hl
      rw [f_K_leastMeeting_before_91] at h
      cases h
    | succ n ih =>
      intro v5 v6 v7 k68 hk68 v8 v10 H locs ls h hP hD hS hl
      rw [f_K_leastMeeting_before_91] at h
      refine lv_iload hx hb dX2_leastMeeting_91 (lv_at hl 6 rfl) ?_
      refine lv_bipush (v := 9) hx hb dX2_leastMeeting_93 (by decide) ?_
      refine lv_icmp_ge (tgt := 176) hx hb dX2_leastMeeting_95 (by decide) (fun cz => ?_) (fun cz => ?_)
      · have h := g_t h cz
        exact B176 v5 v6 v7 v8 k68 hk68 H locs ls h hP hD hS (lv_sub hl [0, 1, 2, 3, 4, 5] rfl)
      · have h := g_f h cz
        refine lv_lload hx hb dX2_leastMeeting_98 (lv_at hl 5 rfl) ?_
        refine lv_lconst (v := 0) hx hb dX2_leastMeeting_100 (by decide) ?_
        refine W.lcmp hx hb dX2_leastMeeting_101 ?_
        refine lv_if_eq (tgt := 176) hx hb dX2_leastMeeting_102 (by decide) (fun cz => ?_) (fun cz => ?_)
        · have h := g_t h (lg_cmp0.mp cz)
          exact B176 v5 v6 v7 v8 k68 hk68 H locs ls h hP hD hS (lv_sub hl [0, 1, 2, 3, 4, 5] rfl)
        · have h := g_f h (fun z => cz (lg_cmp0.mpr z))
          refine lv_iload hx hb dX2_leastMeeting_105 (lv_at hl 2 rfl) ?_
          refine lv_iload hx hb dX2_leastMeeting_107 (lv_at hl 6 rfl) ?_
          refine lv_ishr hx hb dX2_leastMeeting_109 ?_
          refine lv_iconst (v := 1) hx hb dX2_leastMeeting_110 (by decide) ?_
          refine lv_iand hx hb dX2_leastMeeting_111 ?_
          refine lv_iconst (v := 1) hx hb dX2_leastMeeting_112 (by decide) ?_
          refine lv_icmp_ne (tgt := 137) hx hb dX2_leastMeeting_113 (by decide) (fun cz => ?_) (fun cz => ?_)
          · have h := g_f h cz
            refine lv_iload hx hb dX2_leastMeeting_137 (lv_at hl 3 rfl) ?_
            refine lv_iload hx hb dX2_leastMeeting_139 (lv_at hl 6 rfl) ?_
            refine lv_ishr hx hb dX2_leastMeeting_141 ?_
            refine lv_iconst (v := 1) hx hb dX2_leastMeeting_142 (by decide) ?_
            refine lv_iand hx hb dX2_leastMeeting_143 ?_
            refine lv_iconst (v := 1) hx hb dX2_leastMeeting_144 (by decide) ?_
            refine lv_icmp_ne (tgt := 170) hx hb dX2_leastMeeting_145 (by decide) (fun cz => ?_) (fun cz => ?_)
            · have h := g_f h cz
              refine lv_iinc (v := (v10 + (1 : Int32))) (lv' := [(10, .int ((v10 + (1 : Int32)))), (0, .ref (ad 0)), (3, .ref (ad 8)), (5, .int v5), (6, .int v6), (7, .int v7), (8, .long v8)]) hx hb dX2_leastMeeting_170 hl (k := 6) rfl rfl (by decide) rfl (fun ls hl => ?_)
              refine lv_goto (tgt := 91) hx hb dX2_leastMeeting_173 (by decide) ?_
              exact ih v5 v6 v7 k68 hk68 v8 ((v10 + (1 : Int32))) H locs ls h hP hD hS (lv_sub hl [1, 2, 3, 4, 5, 6, 0] rfl)
            · have h := g_t h cz
              refine lv_lload hx hb dX2_leastMeeting_148 (lv_at hl 5 rfl) ?_
              refine lv_aload_n hx hb dX2_leastMeeting_150 rfl (lv_at hl 0 rfl) ?_
              refine va_get (D := (dC, dI)) (ci := 2) (v := .ref (ad 2)) (C := RX2) (T := TX2) (N := 15) hx hb hts ki2 hown hK hP 0 rfl rfl 4 (by decide) kf15 (fun _ h9 => h9) rfl dX2_leastMeeting_151 ?_
              refine lv_iload hx hb dX2_leastMeeting_154 (lv_at hl 6 rfl) ?_
              refine lv_bipush (v := 8) hx hb dX2_leastMeeting_156 (by decide) ?_
              refine lv_imul hx hb dX2_leastMeeting_158 ?_
              refine lv_iload hx hb dX2_leastMeeting_159 (lv_at hl 4 rfl) ?_
              refine lv_iadd hx hb dX2_leastMeeting_161 ?_
              obtain ⟨g_25, h⟩ := g_n h
              refine va_lald (f := (lK 4)) hx hb hK hP 2 2 rfl rfl g_25 dX2_leastMeeting_162 ?_
              refine lv_ldc2 (v := (-1)) hx hb hown kc88 dX2_leastMeeting_163 ?_
              refine lv_lxor hx hb dX2_leastMeeting_166 ?_
              refine lv_land hx hb dX2_leastMeeting_167 ?_
              refine lv_lstore (lv' := [(8, .long ((v8 &&& (((lK 4) (((v10 * (8 : Int32)) + v7)).toNatClampNeg) ^^^ (-1 : Int64))))), (0, .ref (ad 0)), (3, .ref (ad 8)), (5, .int v5), (6, .int v6), (7, .int v7), (10, .int v10)]) hx hb dX2_leastMeeting_168 hl (by decide) rfl (fun ls hl => ?_)
              refine lv_iinc (v := (v10 + (1 : Int32))) (lv' := [(10, .int ((v10 + (1 : Int32)))), (8, .long ((v8 &&& (((lK 4) (((v10 * (8 : Int32)) + v7)).toNatClampNeg) ^^^ (-1 : Int64))))), (0, .ref (ad 0)), (3, .ref (ad 8)), (5, .int v5), (6, .int v6), (7, .int v7)]) hx hb dX2_leastMeeting_170 hl (k := 6) rfl rfl (by decide) rfl (fun ls hl => ?_)
              refine lv_goto (tgt := 91) hx hb dX2_leastMeeting_173 (by decide) ?_
              exact ih v5 v6 v7 k68 hk68 ((v8 &&& (((lK 4) (((v10 * (8 : Int32)) + v7)).toNatClampNeg) ^^^ (-1 : Int64)))) ((v10 + (1 : Int32))) H locs ls h hP hD hS (lv_sub hl [2, 3, 4, 5, 6, 1, 0] rfl)
          · have h := g_t h cz
            refine lv_lload hx hb dX2_leastMeeting_116 (lv_at hl 5 rfl) ?_
            refine lv_aload_n hx hb dX2_leastMeeting_118 rfl (lv_at hl 0 rfl) ?_
            refine va_get (D := (dC, dI)) (ci := 2) (v := .ref (ad 2)) (C := RX2) (T := TX2) (N := 15) hx hb hts ki2 hown hK hP 0 rfl rfl 4 (by decide) kf15 (fun _ h9 => h9) rfl dX2_leastMeeting_119 ?_
            refine lv_iload hx hb dX2_leastMeeting_122 (lv_at hl 6 rfl) ?_
            refine lv_bipush (v := 8) hx hb dX2_leastMeeting_124 (by decide) ?_
            refine lv_imul hx hb dX2_leastMeeting_126 ?_
            refine lv_iload hx hb dX2_leastMeeting_127 (lv_at hl 4 rfl) ?_
            refine lv_iadd hx hb dX2_leastMeeting_129 ?_
            obtain ⟨g_25, h⟩ := g_n h
            refine va_lald (f := (lK 4)) hx hb hK hP 2 2 rfl rfl g_25 dX2_leastMeeting_130 ?_
            refine lv_land hx hb dX2_leastMeeting_131 ?_
            refine lv_lstore (lv' := [(8, .long ((v8 &&& ((lK 4) (((v10 * (8 : Int32)) + v7)).toNatClampNeg)))), (0, .ref (ad 0)), (3, .ref (ad 8)), (5, .int v5), (6, .int v6), (7, .int v7), (10, .int v10)]) hx hb dX2_leastMeeting_132 hl (by decide) rfl (fun ls hl => ?_)
            refine lv_goto (tgt := 170) hx hb dX2_leastMeeting_134 (by decide) ?_
            refine lv_iinc (v := (v10 + (1 : Int32))) (lv' := [(10, .int ((v10 + (1 : Int32)))), (8, .long ((v8 &&& ((lK 4) (((v10 * (8 : Int32)) + v7)).toNatClampNeg)))), (0, .ref (ad 0)), (3, .ref (ad 8)), (5, .int v5), (6, .int v6), (7, .int v7)]) hx hb dX2_leastMeeting_170 hl (k := 6) rfl rfl (by decide) rfl (fun ls hl => ?_)
            refine lv_goto (tgt := 91) hx hb dX2_leastMeeting_173 (by decide) ?_
            exact ih v5 v6 v7 k68 hk68 ((v8 &&& ((lK 4) (((v10 * (8 : Int32)) + v7)).toNatClampNeg))) ((v10 + (1 : Int32))) H locs ls h hP hD hS (lv_sub hl [2, 3, 4, 5, 6, 1, 0] rfl)
  have B68 : ∀ (n : Nat) (v5 : Int32) (v6 : Int32) (v7 : Int32) (H : Heap) (locs : List Loc) (ls : Array Slot), f_K_leastMeeting_before_68 N (iB 13) (iC 9) (aC 5) (lK 4) (lK 11) (aK 5) (aK 6) v5 v6 n v7 = some q → va_P (dC, dI) vwCl (zzK ad cy (ad 11) (ad 18) iK lK aK iB lB aB iC aC) H → va_D A (zzK ad cy (ad 11) (ad 18) iK lK aK iB lB aB iC aC) → va_S A s.heap H locs → lv_has ls 11 [(0, .ref (ad 0)), (3, .ref (ad 8)), (5, .int v5), (6, .int v6), (7, .int v7)] → W p l e ({ frames := 2, cells := 0, slots := 0, locals := 42 } : Room) s m args below meth c H locs 0 0 QQ (F0 m 68 ls []) := by
    intro n
    induction n with
    | zero =>
      intro v5 v6 v7 H locs ls h hP hD hS hl
      rw [f_K_leastMeeting_before_68] at h
      cases h
    | succ n ih =>
      intro v5 v6 v7 H locs ls h hP hD hS hl
      rw [f_K_leastMeeting_before_68] at h
      refine lv_iload hx hb dX2_leastMeeting_68 (lv_at hl 4 rfl) ?_
      refine lv_bipush (v := 8) hx hb dX2_leastMeeting_70 (by decide) ?_
      refine lv_icmp_ge (tgt := 201) hx hb dX2_leastMeeting_72 (by decide) (fun cz => ?_) (fun cz => ?_)
      · have h := g_t h cz
        refine lv_iconst (v := (-1)) hx hb dX2_leastMeeting_201 (by decide) ?_
        have h' := Option.some.inj h
        rw [← hQQ]
        exact W.iret (v := (-1 : Int32)) hx hb hr (fun t ht hW => ⟨⟨(-1 : Int32), (), rfl, by rw [← h'], by rw [← hWQ, ht]; exact hP, va_K.moved hW.alike hK⟩, hS.F ht⟩) hS.2.2 dX2_leastMeeting_202
      · have h := g_f h cz
        refine lv_iload hx hb dX2_leastMeeting_75 (lv_at hl 4 rfl) ?_
        refine lv_aload_n hx hb dX2_leastMeeting_77 rfl (lv_at hl 1 rfl) ?_
        refine va_alen (v := (8 : Int32)) hx hb hK hP 8 2 rfl rfl rfl dX2_leastMeeting_78 ?_
        refine lv_icmp_ge (tgt := 201) hx hb dX2_leastMeeting_79 (by decide) (fun cz => ?_) (fun cz => ?_)
        · have h := g_t h cz
          refine lv_iconst (v := (-1)) hx hb dX2_leastMeeting_201 (by decide) ?_
          have h' := Option.some.inj h
          rw [← hQQ]
          exact W.iret (v := (-1 : Int32)) hx hb hr (fun t ht hW => ⟨⟨(-1 : Int32), (), rfl, by rw [← h'], by rw [← hWQ, ht]; exact hP, va_K.moved hW.alike hK⟩, hS.F ht⟩) hS.2.2 dX2_leastMeeting_202
        · have h := g_f h cz
          refine lv_aload_n hx hb dX2_leastMeeting_82 rfl (lv_at hl 1 rfl) ?_
          refine lv_iload hx hb dX2_leastMeeting_83 (lv_at hl 4 rfl) ?_
          obtain ⟨g_26, h⟩ := g_n h
          refine va_lald (f := (lK 11)) hx hb hK hP 8 2 rfl rfl g_26 dX2_leastMeeting_85 ?_
          refine lv_lstore (lv' := [(8, .long (((lK 11) v7.toNatClampNeg))), (0, .ref (ad 0)), (3, .ref (ad 8)), (5, .int v5), (6, .int v6), (7, .int v7)]) hx hb dX2_leastMeeting_86 hl (by decide) rfl (fun ls hl => ?_)
          refine lv_iconst (v := 0) hx hb dX2_leastMeeting_88 (by decide) ?_
          refine lv_istore (lv' := [(10, .int ((0 : Int32))), (8, .long (((lK 11) v7.toNatClampNeg))), (0, .ref (ad 0)), (3, .ref (ad 8)), (5, .int v5), (6, .int v6), (7, .int v7)]) hx hb dX2_leastMeeting_89 hl (by decide) rfl (fun ls hl => ?_)
          exact B91 N v5 v6 v7 (f_K_leastMeeting_before_68 N (iB 13) (iC 9) (aC 5) (lK 4) (lK 11) (aK 5) (aK 6) v5 v6 n) (ih v5 v6) (((lK 11) v7.toNatClampNeg)) ((0 : Int32)) H locs ls h hP hD hS (lv_sub hl [2, 3, 4, 5, 6, 1, 0] rfl)
  have B50 : ∀ (v1 : Int32) (v4 : Int32) (s0 : Int32) (H : Heap) (locs : List Loc) (ls : Array Slot), f_K_leastMeeting_before_50 N (iB 13) (iC 9) (aC 5) (lK 4) (lK 11) (aK 5) (aK 6) v1 v4 s0 = some q → va_P (dC, dI) vwCl (zzK ad cy (ad 11) (ad 18) iK lK aK iB lB aB iC aC) H → va_D A (zzK ad cy (ad 11) (ad 18) iK lK aK iB lB aB iC aC) → va_S A s.heap H locs → lv_has ls 11 [(0, .ref (ad 0)), (1, .int v1), (3, .ref (ad 8)), (4, .int v4)] → W p l e ({ frames := 2, cells := 0, slots := 0, locals := 42 } : Room) s m args below meth c H locs 0 0 QQ (F0 m 50 ls [.int s0]) := by
    intro v1 v4 s0 H locs ls h hP hD hS hl
    unfold f_K_leastMeeting_before_50 at h
    refine lv_istore (lv' := [(5, .int s0), (0, .ref (ad 0)), (1, .int v1), (3, .ref (ad 8)), (4, .int v4)]) hx hb dX2_leastMeeting_50 hl (by decide) rfl (fun ls hl => ?_)
    refine lv_aload_n hx hb dX2_leastMeeting_52 rfl (lv_at hl 1 rfl) ?_
    refine va_get (D := (dC, dI)) (ci := 2) (v := .ref (ad 4)) (C := RX2) (T := TX2) (N := 15) hx hb hts ki2 hown hK hP 0 rfl rfl 6 (by decide) kf22 (fun _ h9 => h9) rfl dX2_leastMeeting_53 ?_
    refine lv_iload hx hb dX2_leastMeeting_56 (lv_at hl 4 rfl) ?_
    obtain ⟨g_17, h⟩ := g_n h
    refine va_iald (f := (aK 6)) hx hb hK hP 4 0 rfl rfl g_17 dX2_leastMeeting_58 ?_
    refine lv_iload_n hx hb dX2_leastMeeting_59 rfl (lv_at hl 2 rfl) ?_
    refine lv_iconst (v := (-1)) hx hb dX2_leastMeeting_60 (by decide) ?_
    refine lv_ixor hx hb dX2_leastMeeting_61 ?_
    refine lv_iand hx hb dX2_leastMeeting_62 ?_
    refine lv_istore (lv' := [(6, .int ((((aK 6) v4.toNatClampNeg) &&& (v1 ^^^ (-1 : Int32))))), (5, .int s0), (0, .ref (ad 0)), (1, .int v1), (3, .ref (ad 8)), (4, .int v4)]) hx hb dX2_leastMeeting_63 hl (by decide) rfl (fun ls hl => ?_)
    refine lv_iconst (v := 0) hx hb dX2_leastMeeting_65 (by decide) ?_
    refine lv_istore (lv' := [(7, .int ((0 : Int32))), (6, .int ((((aK 6) v4.toNatClampNeg) &&& (v1 ^^^ (-1 : Int32))))), (5, .int s0), (0, .ref (ad 0)), (1, .int v1), (3, .ref (ad 8)), (4, .int v4)]) hx hb dX2_leastMeeting_66 hl (by decide) rfl (fun ls hl => ?_)
    exact B68 N s0 ((((aK 6) v4.toNatClampNeg) &&& (v1 ^^^ (-1 : Int32)))) ((0 : Int32)) H locs ls h hP hD hS (lv_sub hl [3, 5, 2, 1, 0] rfl)
  intro H locs hP hD hS
  unfold f_K_leastMeeting_before at h
  refine lv_aload_n hx hb dX2_leastMeeting_0 rfl (lv_at hl 0 rfl) ?_
  refine va_get (D := (dC, dI)) (ci := 2) (v := .ref (ad 18)) (C := RX2) (T := TX2) (N := 15) hx hb hts ki2 hown hK hP 0 rfl rfl 1 (by decide) kf54 (fun _ h9 => h9) rfl dX2_leastMeeting_1 ?_
  refine lv_iload_n hx hb dX2_leastMeeting_4 rfl (lv_at hl 2 rfl) ?_
  obtain ⟨q5, e5, h⟩ := g_b h
  refine callVi (cc := cX2_leastMeeting) (ws' := zzK ad cy (ad 11) (ad 18) iK lK aK iB lB aB iC aC) (As := [.int a2]) (rest := []) ⟨hx, hb, hml, hown, hts⟩ (c_C_roleOfAtom l dC dI cy (fun i => ad (i + 18)) H.size a2 iC aC q5 e5) (cwV 1 hts (goodV m_ml_X2_147 m_im_X1_roleOfAtom m_se_X1_roleOfAtom m_in_X1 m_cd_X1_roleOfAtom) rfl rfl rfl (by decide +kernel) ⟨Nat.le_of_ble_eq_true rfl, Nat.le_of_ble_eq_true rfl⟩) hN hK hP hD hS hA [18, 19, 20, 21, 22, 23, 24, 25, 26] [none, none, none, none, none, none, none, none, none, none, none, none, none, none, none, none, none, none, some 0, some 1, some 2, some 3, some 4, some 5, some 6, some 7, some 8] rfl rfl rfl rfl rfl rfl 18 rfl rfl rfl hl.1 rfl (Nat.le_of_ble_eq_true rfl) dX2_leastMeeting_5 ⟨Nat.zero_le _, Nat.zero_le _⟩ (fun H locs hP hD hS => ?_)
  refine lv_istore (lv' := [(4, .int q5), (0, .ref (ad 0)), (1, .int a1), (2, .int a2), (3, .ref (ad 8))]) hx hb dX2_leastMeeting_8 hl (by decide) rfl (fun ls hl => ?_)
  refine lv_iload hx hb dX2_leastMeeting_10 (lv_at hl 0 rfl) ?_
  refine lv_if_lt (tgt := 21) hx hb dX2_leastMeeting_12 (by decide) (fun cz => ?_) (fun cz => ?_)
  · have h := g_t h cz
    refine lv_iconst (v := (-1)) hx hb dX2_leastMeeting_21 (by decide) ?_
    have h' := Option.some.inj h
    rw [← hQQ]
    exact W.iret (v := (-1 : Int32)) hx hb hr (fun t ht hW => ⟨⟨(-1 : Int32), (), rfl, by rw [← h'], by rw [← hWQ, ht]; exact hP, va_K.moved hW.alike hK⟩, hS.F ht⟩) hS.2.2 dX2_leastMeeting_22
  · have h := g_f h cz
    refine lv_iload hx hb dX2_leastMeeting_15 (lv_at hl 0 rfl) ?_
    refine lv_iconst (v := 3) hx hb dX2_leastMeeting_17 (by decide) ?_
    refine lv_icmp_lt (tgt := 23) hx hb dX2_leastMeeting_18 (by decide) (fun cz => ?_) (fun cz => ?_)
    · have h := g_t h cz
      refine lv_aload_n hx hb dX2_leastMeeting_23 rfl (lv_at hl 1 rfl) ?_
      refine va_get (D := (dC, dI)) (ci := 2) (v := .ref (ad 11)) (C := RX2) (T := TX2) (N := 15) hx hb hts ki2 hown hK hP 0 rfl rfl 0 (by decide) kf44 (fun _ h9 => h9) rfl dX2_leastMeeting_24 ?_
      refine lv_iload hx hb dX2_leastMeeting_27 (lv_at hl 0 rfl) ?_
      obtain ⟨q29, e29, h⟩ := g_b h
      refine callVi (cc := cX2_leastMeeting) (ws' := zzK ad cy (ad 11) (ad 18) iK lK aK iB lB aB iC aC) (As := [.int q5]) (rest := []) ⟨hx, hb, hml, hown, hts⟩ (c_B_isSingle l dC dI cy (fun i => ad (i + 11)) H.size q5 iB lB aB iC aC q29 e29) (cwV 1 hts (goodV m_ml_X2_177 m_im_X0_isSingle m_se_X0_isSingle m_in_X0 m_cd_X0_isSingle) rfl rfl rfl (by decide +kernel) ⟨Nat.le_of_ble_eq_true rfl, Nat.le_of_ble_eq_true rfl⟩) hN hK hP hD hS hA [11, 12, 13, 14, 15, 16, 17, 18, 19, 20, 21, 22, 23, 24, 25, 26] [none, none, none, none, none, none, none, none, none, none, none, some 0, some 1, some 2, some 3, some 4, some 5, some 6, some 7, some 8, some 9, some 10, some 11, some 12, some 13, some 14, some 15] rfl rfl rfl rfl rfl rfl 11 rfl rfl rfl hl.1 rfl (Nat.le_of_ble_eq_true rfl) dX2_leastMeeting_29 ⟨Nat.zero_le _, Nat.zero_le _⟩ (fun H locs hP hD hS => ?_)
      refine lv_if_eq (tgt := 47) hx hb dX2_leastMeeting_32 (by decide) (fun cz => ?_) (fun cz => ?_)
      · have h := g_t h cz
        refine lv_iconst (v := 1) hx hb dX2_leastMeeting_47 (by decide) ?_
        refine lv_iload_n hx hb dX2_leastMeeting_48 rfl (lv_at hl 3 rfl) ?_
        refine lv_ishl hx hb dX2_leastMeeting_49 ?_
        exact B50 a1 q5 (((1 : Int32) <<< (a2 &&& 31))) H locs ls h hP hD hS (lv_sub hl [1, 2, 4, 0] rfl)
      · have h := g_f h cz
        refine lv_aload_n hx hb dX2_leastMeeting_35 rfl (lv_at hl 1 rfl) ?_
        refine va_get (D := (dC, dI)) (ci := 2) (v := .ref (ad 3)) (C := RX2) (T := TX2) (N := 15) hx hb hts ki2 hown hK hP 0 rfl rfl 5 (by decide) kf18 (fun _ h9 => h9) rfl dX2_leastMeeting_36 ?_
        refine lv_iload hx hb dX2_leastMeeting_39 (lv_at hl 0 rfl) ?_
        obtain ⟨g_27, h⟩ := g_n h
        refine va_iald (f := (aK 5)) hx hb hK hP 3 0 rfl rfl g_27 dX2_leastMeeting_41 ?_
        refine lv_iload_n hx hb dX2_leastMeeting_42 rfl (lv_at hl 2 rfl) ?_
        refine lv_iand hx hb dX2_leastMeeting_43 ?_
        refine lv_goto (tgt := 50) hx hb dX2_leastMeeting_44 (by decide) ?_
        exact B50 a1 q5 ((((aK 5) q5.toNatClampNeg) &&& a1)) H locs ls h hP hD hS (lv_sub hl [1, 2, 4, 0] rfl)
    · have h := g_f h cz
      refine lv_iconst (v := (-1)) hx hb dX2_leastMeeting_21 (by decide) ?_
      have h' := Option.some.inj h
      rw [← hQQ]
      exact W.iret (v := (-1 : Int32)) hx hb hr (fun t ht hW => ⟨⟨(-1 : Int32), (), rfl, by rw [← h'], by rw [← hWQ, ht]; exact hP, va_K.moved hW.alike hK⟩, hS.F ht⟩) hS.2.2 dX2_leastMeeting_22
set_option maxHeartbeats 8000000 in
set_option maxRecDepth 100000 in
theorem c_K_isMet (l : Launch) (dC : Nat → ClassId) (dI : Nat → Nat → Nat) (cy : Nat → ClassId) (ad : Nat → Nat) (sz : Nat) (N : Nat) (a1 : Int32) (iK : Nat → Int32) (lK : Nat → Nat → Int64) (aK : Nat → Nat → Int32) (iB : Nat → Int32) (lB : Nat → Nat → Int64) (aB : Nat → Nat → Int32) (iC : Nat → Int32) (aC : Nat → Nat → Int32) (q : Int32) (h : f_K_isMet N a1 (iB 13) (iC 9) (aC 5) (lK 4) (lK 11) (aK 5) (aK 6) = some q) : Met l yX2_isMet wsX2_isMet ({ frames := 3, cells := 0, slots := 0, locals := 72 } : Room) (cP (dC, dI) cy [.ref (ad 0), .int a1] (zzK ad cy (ad 11) (ad 18) iK lK aK iB lB aB iC aC) sz) (cQi (dC, dI) cy q (zzK ad cy (ad 11) (ad 18) iK lK aK iB lB aB iC aC) (va_A (zzK ad cy (ad 11) (ad 18) iK lK aK iB lB aB iC aC) sz)) 0 0 (va_A (zzK ad cy (ad 11) (ad 18) iK lK aK iB lB aB iC aC) sz) := by
  refine Met.ofW (cc := cX2_isMet) (maxL := 4) (ret := (some .boolean)) (by decide) rfl ?_
  intro p e s m args below meth c s₁ B hml hv
  obtain ⟨hav, hsz, hP, hK, hD0, hN⟩ := hv
  have hx := B.exec
  have hb := B.bytes
  have hr := B.returns
  have hts := atoms_spec (ws := wsX2_isMet) B.pre
  have hown : s.vm.findClass RX2 = some m.cls := findClass_of_methodNamed B.named
  have hlocks := B.notSynchronized
  subst hsz
  have hD := hD0.self (sz := s.heap.size)
  generalize hAe : va_A (zzK ad cy (ad 11) (ad 18) iK lK aK iB lB aB iC aC) s.heap.size = A at hD ⊢
  have hA : ∀ q : Nat, s.heap.size ≤ q → A q := fun q h => by rw [← hAe]; exact Or.inr h
  have hS : va_S A s.heap s.heap [] := va_S.rf
  generalize hWQ : (zzK ad cy (ad 11) (ad 18) iK lK aK iB lB aB iC aC) = WQ
  generalize hQQ : MQ below (cQi (dC, dI) cy q WQ A) args s 0 0 A = QQ
  have hl := lv_entry ([.ref (ad 0), .int a1] : List Value) (n := 4) (Nat.le_of_ble_eq_true rfl)
  have hfr := lg_entry_eq m ([.ref (ad 0), .int a1] : List Value) 4
  rw [← hav] at hfr
  rw [hfr]
  clear hfr hav
  generalize (lg_sl ([.ref (ad 0), .int a1] : List Value) ++ List.replicate (4 - (lg_sl ([.ref (ad 0), .int a1] : List Value)).length) Slot.unset).toArray = ls at hl ⊢
  have hl : lv_has ls 4 [(0, .ref (ad 0)), (1, .int a1)] := hl
  have kf34 := hts _ (List.mem_cons_of_mem _ m_fl_X2_34)
  have ki2 := (fun w h => List.mem_cons_of_mem _ (i_X2 w h) : ∀ w ∈ u_ws RX2 TX2 15, w ∈ wsX2_isMet)
  have kf54 := hts _ (List.mem_cons_of_mem _ m_fl_X2_54)
  have kf55 := hts _ (List.mem_cons_of_mem _ m_fl_X2_55)
  have ki1 := (fun w h => List.mem_cons_of_mem _ (i_X1 w h) : ∀ w ∈ u_ws RX1 TX1 10, w ∈ wsX2_isMet)
  refine (?_ : ∀ (H : Heap) (locs : List Loc), va_P (dC, dI) vwCl (zzK ad cy (ad 11) (ad 18) iK lK aK iB lB aB iC aC) H → va_D A (zzK ad cy (ad 11) (ad 18) iK lK aK iB lB aB iC aC) → va_S A s.heap H locs → W p l e ({ frames := 3, cells := 0, slots := 0, locals := 72 } : Room) s m args below meth c H locs 0 0 QQ (F0 m 0 ls [])) s.heap [] hP hD hS
  clear hP hD hS
  have B39 : ∀ (v1 : Int32) (v2 : Int32) (s0 : Int32) (k2 : Int32 → Option Int32) (hk2 : ∀ (v2' : Int32) (H : Heap) (locs : List Loc) (ls : Array Slot), k2 v2' = some q → va_P (dC, dI) vwCl (zzK ad cy (ad 11) (ad 18) iK lK aK iB lB aB iC aC) H → va_D A (zzK ad cy (ad 11) (ad 18) iK lK aK iB lB aB iC aC) → va_S A s.heap H locs → lv_has ls 4 [(0, .ref (ad 0)), (1, .int v1), (2, .int v2')] → W p l e ({ frames := 3, cells := 0, slots := 0, locals := 72 } : Room) s m args below meth c H locs 0 0 QQ (F0 m 2 ls [])) (H : Heap) (locs : List Loc) (ls : Array Slot), f_K_isMet_39 N (iB 13) (iC 9) (aC 5) (lK 4) (lK 11) (aK 5) (aK 6) k2 v1 v2 s0 = some q → va_P (dC, dI) vwCl (zzK ad cy (ad 11) (ad 18) iK lK aK iB lB aB iC aC) H → va_D A (zzK ad cy (ad 11) (ad 18) iK lK aK iB lB aB iC aC) → va_S A s.heap H locs → lv_has ls 4 [(0, .ref (ad 0)), (1, .int v1), (2, .int v2)] → W p l e ({ frames := 3, cells := 0, slots := 0, locals := 72 } : Room) s m args below meth c H locs 0 0 QQ (F0 m 39 ls [.int s0]) := by
    intro v1 v2 s0 k2 hk2 H locs ls h hP hD hS hl
    unfold f_K_isMet_39 at h
    refine lv_istore_n (lv' := [(3, .int s0), (0, .ref (ad 0)), (1, .int v1), (2, .int v2)]) hx hb dX2_isMet_39 rfl hl (by decide) rfl (fun ls hl => ?_)
    refine lv_iload_n hx hb dX2_isMet_40 rfl (lv_at hl 0 rfl) ?_
    refine lv_if_eq (tgt := 60) hx hb dX2_isMet_41 (by decide) (fun cz => ?_) (fun cz => ?_)
    · have h := g_t h cz
      refine lv_iinc (v := (v2 + (1 : Int32))) (lv' := [(2, .int ((v2 + (1 : Int32)))), (3, .int s0), (0, .ref (ad 0)), (1, .int v1)]) hx hb dX2_isMet_60 hl (k := 3) rfl rfl (by decide) rfl (fun ls hl => ?_)
      refine lv_goto (tgt := 2) hx hb dX2_isMet_63 (by decide) ?_
      exact hk2 ((v2 + (1 : Int32))) H locs ls h hP hD hS (lv_sub hl [2, 3, 0] rfl)
    · have h := g_f h cz
      refine lv_aload_n hx hb dX2_isMet_44 rfl (lv_at hl 1 rfl) ?_
      refine lv_iload_n hx hb dX2_isMet_45 rfl (lv_at hl 2 rfl) ?_
      refine lv_iload_n hx hb dX2_isMet_46 rfl (lv_at hl 3 rfl) ?_
      refine lv_aload_n hx hb dX2_isMet_47 rfl (lv_at hl 1 rfl) ?_
      refine va_get (D := (dC, dI)) (ci := 2) (v := .ref (ad 8)) (C := RX2) (T := TX2) (N := 15) hx hb hts ki2 hown hK hP 0 rfl rfl 11 (by decide) kf34 (fun _ h9 => h9) rfl dX2_isMet_48 ?_
      obtain ⟨q51, e51, h⟩ := g_b h
      refine callVis (cc := cX2_isMet) (w1 := zzK ad cy (ad 11) (ad 18) iK lK aK iB lB aB iC aC) (As := [.int v1, .int v2, .ref (ad 8)]) (rest := []) ⟨hx, hb, hml, hown, hts⟩ (c_K_leastMeeting_before l dC dI cy ad H.size N v1 v2 iK lK aK iB lB aB iC aC q51 e51) (cwV 3 hts (goodV m_ml_X2_173 m_im_X2_leastMeeting m_se_X2_leastMeeting m_in_X2 m_cd_X2_leastMeeting) rfl rfl rfl (by decide +kernel) ⟨Nat.le_of_ble_eq_true rfl, Nat.le_of_ble_eq_true rfl⟩) hN hK hP hD hS hA rfl 0 rfl rfl rfl hl.1 rfl (Nat.le_of_ble_eq_true rfl) dX2_isMet_51 ⟨Nat.zero_le _, Nat.zero_le _⟩ (fun H locs hP hD hS => ?_)
      refine lv_iconst (v := (-1)) hx hb dX2_isMet_54 (by decide) ?_
      refine lv_icmp_ne (tgt := 60) hx hb dX2_isMet_55 (by decide) (fun cz => ?_) (fun cz => ?_)
      · have h := g_f h cz
        refine lv_iinc (v := (v2 + (1 : Int32))) (lv' := [(2, .int ((v2 + (1 : Int32)))), (3, .int s0), (0, .ref (ad 0)), (1, .int v1)]) hx hb dX2_isMet_60 hl (k := 3) rfl rfl (by decide) rfl (fun ls hl => ?_)
        refine lv_goto (tgt := 2) hx hb dX2_isMet_63 (by decide) ?_
        exact hk2 ((v2 + (1 : Int32))) H locs ls h hP hD hS (lv_sub hl [2, 3, 0] rfl)
      · have h := g_t h cz
        refine lv_iconst (v := 0) hx hb dX2_isMet_58 (by decide) ?_
        have h' := Option.some.inj h
        rw [← hQQ]
        exact W.zret (v := (0 : Int32)) hx hb hr rfl (fun t ht hW => ⟨⟨(0 : Int32), (), rfl, by rw [← h'], by rw [← hWQ, ht]; exact hP, va_K.moved hW.alike hK⟩, hS.F ht⟩) hS.2.2 dX2_isMet_59
  have B2 : ∀ (n : Nat) (v1 : Int32) (v2 : Int32) (H : Heap) (locs : List Loc) (ls : Array Slot), f_K_isMet_2 N (iB 13) (iC 9) (aC 5) (lK 4) (lK 11) (aK 5) (aK 6) v1 n v2 = some q → va_P (dC, dI) vwCl (zzK ad cy (ad 11) (ad 18) iK lK aK iB lB aB iC aC) H → va_D A (zzK ad cy (ad 11) (ad 18) iK lK aK iB lB aB iC aC) → va_S A s.heap H locs → lv_has ls 4 [(0, .ref (ad 0)), (1, .int v1), (2, .int v2)] → W p l e ({ frames := 3, cells := 0, slots := 0, locals := 72 } : Room) s m args below meth c H locs 0 0 QQ (F0 m 2 ls []) := by
    intro n
    induction n with
    | zero =>
      intro v1 v2 H locs ls h hP hD hS hl
      rw [f_K_isMet_2] at h
      cases h
    | succ n ih =>
      intro v1 v2 H locs ls h hP hD hS hl
      rw [f_K_isMet_2] at h
      refine lv_iload_n hx hb dX2_isMet_2 rfl (lv_at hl 2 rfl) ?_
      refine lv_aload_n hx hb dX2_isMet_3 rfl (lv_at hl 0 rfl) ?_
      refine va_get (D := (dC, dI)) (ci := 2) (v := .ref (ad 18)) (C := RX2) (T := TX2) (N := 15) hx hb hts ki2 hown hK hP 0 rfl rfl 1 (by decide) kf54 (fun _ h9 => h9) rfl dX2_isMet_4 ?_
      refine va_get (D := (dC, dI)) (ci := 1) (v := .int (iC 9)) (C := RX1) (T := TX1) (N := 10) hx hb hts ki1 hown hK hP 18 rfl rfl 9 (by decide) kf55 (fun _ h9 => h9) rfl dX2_isMet_7 ?_
      refine lv_icmp_ge (tgt := 66) hx hb dX2_isMet_10 (by decide) (fun cz => ?_) (fun cz => ?_)
      · have h := g_t h cz
        refine lv_iconst (v := 1) hx hb dX2_isMet_66 (by decide) ?_
        have h' := Option.some.inj h
        rw [← hQQ]
        exact W.zret (v := (1 : Int32)) hx hb hr rfl (fun t ht hW => ⟨⟨(1 : Int32), (), rfl, by rw [← h'], by rw [← hWQ, ht]; exact hP, va_K.moved hW.alike hK⟩, hS.F ht⟩) hS.2.2 dX2_isMet_67
      · have h := g_f h cz
        refine lv_iload_n hx hb dX2_isMet_13 rfl (lv_at hl 1 rfl) ?_
        refine lv_iload_n hx hb dX2_isMet_14 rfl (lv_at hl 2 rfl) ?_
        refine lv_ishr hx hb dX2_isMet_15 ?_
        refine lv_iconst (v := 1) hx hb dX2_isMet_16 (by decide) ?_
        refine lv_iand hx hb dX2_isMet_17 ?_
        refine lv_iconst (v := 1) hx hb dX2_isMet_18 (by decide) ?_
        refine lv_icmp_ne (tgt := 38) hx hb dX2_isMet_19 (by decide) (fun cz => ?_) (fun cz => ?_)
        · have h := g_f h cz
          refine lv_iconst (v := 0) hx hb dX2_isMet_38 (by decide) ?_
          exact B39 v1 v2 ((0 : Int32)) (f_K_isMet_2 N (iB 13) (iC 9) (aC 5) (lK 4) (lK 11) (aK 5) (aK 6) v1 n) (ih v1) H locs ls h hP hD hS (lv_sub hl [0, 1, 2] rfl)
        · have h := g_t h cz
          refine lv_aload_n hx hb dX2_isMet_22 rfl (lv_at hl 0 rfl) ?_
          refine va_get (D := (dC, dI)) (ci := 2) (v := .ref (ad 18)) (C := RX2) (T := TX2) (N := 15) hx hb hts ki2 hown hK hP 0 rfl rfl 1 (by decide) kf54 (fun _ h9 => h9) rfl dX2_isMet_23 ?_
          refine lv_iload_n hx hb dX2_isMet_26 rfl (lv_at hl 2 rfl) ?_
          obtain ⟨q27, e27, h⟩ := g_b h
          refine callVi (cc := cX2_isMet) (ws' := zzK ad cy (ad 11) (ad 18) iK lK aK iB lB aB iC aC) (As := [.int v2]) (rest := []) ⟨hx, hb, hml, hown, hts⟩ (c_C_roleOfAtom l dC dI cy (fun i => ad (i + 18)) H.size v2 iC aC q27 e27) (cwV 1 hts (goodV m_ml_X2_147 m_im_X1_roleOfAtom m_se_X1_roleOfAtom m_in_X1 m_cd_X1_roleOfAtom) rfl rfl rfl (by decide +kernel) ⟨Nat.le_of_ble_eq_true rfl, Nat.le_of_ble_eq_true rfl⟩) hN hK hP hD hS hA [18, 19, 20, 21, 22, 23, 24, 25, 26] [none, none, none, none, none, none, none, none, none, none, none, none, none, none, none, none, none, none, some 0, some 1, some 2, some 3, some 4, some 5, some 6, some 7, some 8] rfl rfl rfl rfl rfl rfl 18 rfl rfl rfl hl.1 rfl (Nat.le_of_ble_eq_true rfl) dX2_isMet_27 ⟨Nat.zero_le _, Nat.zero_le _⟩ (fun H locs hP hD hS => ?_)
          refine lv_iconst (v := (-1)) hx hb dX2_isMet_30 (by decide) ?_
          refine lv_icmp_eq (tgt := 38) hx hb dX2_isMet_31 (by decide) (fun cz => ?_) (fun cz => ?_)
          · have h := g_t h cz
            refine lv_iconst (v := 0) hx hb dX2_isMet_38 (by decide) ?_
            exact B39 v1 v2 ((0 : Int32)) (f_K_isMet_2 N (iB 13) (iC 9) (aC 5) (lK 4) (lK 11) (aK 5) (aK 6) v1 n) (ih v1) H locs ls h hP hD hS (lv_sub hl [0, 1, 2] rfl)
          · have h := g_f h cz
            refine lv_iconst (v := 1) hx hb dX2_isMet_34 (by decide) ?_
            refine lv_goto (tgt := 39) hx hb dX2_isMet_35 (by decide) ?_
            exact B39 v1 v2 ((1 : Int32)) (f_K_isMet_2 N (iB 13) (iC 9) (aC 5) (lK 4) (lK 11) (aK 5) (aK 6) v1 n) (ih v1) H locs ls h hP hD hS (lv_sub hl [0, 1, 2] rfl)
  intro H locs hP hD hS
  unfold f_K_isMet at h
  refine lv_iconst (v := 0) hx hb dX2_isMet_0 (by decide) ?_
  refine lv_istore_n (lv' := [(2, .int ((0 : Int32))), (0, .ref (ad 0)), (1, .int a1)]) hx hb dX2_isMet_1 rfl hl (by decide) rfl (fun ls hl => ?_)
  exact B2 N a1 ((0 : Int32)) H locs ls h hP hD hS (lv_sub hl [1, 2, 0] rfl)
set_option maxHeartbeats 8000000 in
set_option maxRecDepth 100000 in
theorem c_K_goRound_standing (l : Launch) (dC : Nat → ClassId) (dI : Nat → Nat → Nat) (cy : Nat → ClassId) (ad : Nat → Nat) (sz : Nat) (N : Nat) (a2 : Int32) (iK : Nat → Int32) (lK : Nat → Nat → Int64) (aK : Nat → Nat → Int32) (iB : Nat → Int32) (lB : Nat → Nat → Int64) (aB : Nat → Nat → Int32) (iC : Nat → Int32) (aC : Nat → Nat → Int32) (q : Int32 × (Nat → Int64) × (Nat → Int64) × (Nat → Int64) × (Nat → Int32)) (h : f_K_goRound_standing N a2 (iB 13) (iC 9) (aC 5) (iK 2) (iK 7) (lK 4) (lK 9) (lK 11) (lK 12) (aK 5) (aK 6) (aK 13) = some q) : Met l yX2_goRound wsX2_goRound ({ frames := 4, cells := 0, slots := 0, locals := 100 } : Room) (cP (dC, dI) cy [.ref (ad 0), .ref (ad 6), .int a2] (zzK ad cy (ad 11) (ad 18) iK lK aK iB lB aB iC aC) sz) (cQi (dC, dI) cy q.1 (zzK ad cy (ad 11) (ad 18) iK (us lK [(9, q.2.1), (11, q.2.2.1), (12, q.2.2.2.1)]) (us aK [(13, q.2.2.2.2)]) iB lB aB iC aC) (va_A (zzK ad cy (ad 11) (ad 18) iK lK aK iB lB aB iC aC) sz)) 0 0 (va_A (zzK ad cy (ad 11) (ad 18) iK lK aK iB lB aB iC aC) sz) := by
  refine Met.ofW (cc := cX2_goRound) (maxL := 6) (ret := (some .boolean)) (by decide) rfl ?_
  intro p e s m args below meth c s₁ B hml hv
  obtain ⟨hav, hsz, hP, hK, hD0, hN⟩ := hv
  have hx := B.exec
  have hb := B.bytes
  have hr := B.returns
  have hts := atoms_spec (ws := wsX2_goRound) B.pre
  have hown : s.vm.findClass RX2 = some m.cls := findClass_of_methodNamed B.named
  have hlocks := B.notSynchronized
  subst hsz
  have hD := hD0.self (sz := s.heap.size)
  generalize hAe : va_A (zzK ad cy (ad 11) (ad 18) iK lK aK iB lB aB iC aC) s.heap.size = A at hD ⊢
  have hA : ∀ q : Nat, s.heap.size ≤ q → A q := fun q h => by rw [← hAe]; exact Or.inr h
  have hS : va_S A s.heap s.heap [] := va_S.rf
  generalize hWQ : (zzK ad cy (ad 11) (ad 18) iK (us lK [(9, q.2.1), (11, q.2.2.1), (12, q.2.2.2.1)]) (us aK [(13, q.2.2.2.2)]) iB lB aB iC aC) = WQ
  generalize hQQ : MQ below (cQi (dC, dI) cy q.1 WQ A) args s 0 0 A = QQ
  have hl := lv_entry ([.ref (ad 0), .ref (ad 6), .int a2] : List Value) (n := 6) (Nat.le_of_ble_eq_true rfl)
  have hfr := lg_entry_eq m ([.ref (ad 0), .ref (ad 6), .int a2] : List Value) 6
  rw [← hav] at hfr
  rw [hfr]
  clear hfr hav
  generalize (lg_sl ([.ref (ad 0), .ref (ad 6), .int a2] : List Value) ++ List.replicate (6 - (lg_sl ([.ref (ad 0), .ref (ad 6), .int a2] : List Value)).length) Slot.unset).toArray = ls at hl ⊢
  have hl : lv_has ls 6 [(0, .ref (ad 0)), (1, .ref (ad 6)), (2, .int a2)] := hl
  have kf34 := hts _ (List.mem_cons_of_mem _ m_fl_X2_34)
  have ki2 := (fun w h => List.mem_cons_of_mem _ (i_X2 w h) : ∀ w ∈ u_ws RX2 TX2 15, w ∈ wsX2_goRound)
  have kf37 := hts _ (List.mem_cons_of_mem _ m_fl_X2_37)
  have kf40 := hts _ (List.mem_cons_of_mem _ m_fl_X2_40)
  have kf67 := hts _ (List.mem_cons_of_mem _ m_fl_X2_67)
  have kf144 := hts _ (List.mem_cons_of_mem _ m_fl_X2_144)
  have ka1 := hts _ (List.mem_cons_of_mem _ m_ml_X2_100)
  have ka2 := hts _ (List.mem_cons_of_mem _ m_na_java_lang_System_arraycopy)
  have ka3 := hts _ (List.mem_cons_of_mem _ m_st_java_lang_System_arraycopy)
  have ka4 := hts _ (List.mem_cons_of_mem _ m_in_java_lang_System)
  refine (?_ : ∀ (H : Heap) (locs : List Loc), va_P (dC, dI) vwCl (zzK ad cy (ad 11) (ad 18) iK lK aK iB lB aB iC aC) H → va_D A (zzK ad cy (ad 11) (ad 18) iK lK aK iB lB aB iC aC) → va_S A s.heap H locs → W p l e ({ frames := 4, cells := 0, slots := 0, locals := 100 } : Room) s m args below meth c H locs 0 0 QQ (F0 m 0 ls [])) s.heap [] hP hD hS
  clear hP hD hS
  have B65 : ∀ (v2 : Int32) (v3 : Int32) (v4 : Int32) (v5 : Int32) (x_lK9 : Nat → Int64) (x_lK11 : Nat → Int64) (x_lK12 : Nat → Int64) (x_aK13 : Nat → Int32) (k17 : Int32 → Int32 → (Nat → Int64) → (Nat → Int64) → (Nat → Int32) → Option (Int32 × (Nat → Int64) × (Nat → Int64) × (Nat → Int64) × (Nat → Int32))) (hk17 : ∀ (v3' : Int32) (v4' : Int32) (x_lK9' : Nat → Int64) (x_lK12' : Nat → Int64) (x_aK13' : Nat → Int32) (H : Heap) (locs : List Loc) (ls : Array Slot), k17 v3' v4' x_lK9' x_lK12' x_aK13' = some q → va_P (dC, dI) vwCl (zzK ad cy (ad 11) (ad 18) iK (us lK [(9, x_lK9'), (11, x_lK11), (12, x_lK12')]) (us aK [(13, x_aK13')]) iB lB aB iC aC) H → va_D A (zzK ad cy (ad 11) (ad 18) iK (us lK [(9, x_lK9'), (11, x_lK11), (12, x_lK12')]) (us aK [(13, x_aK13')]) iB lB aB iC aC) → va_S A s.heap H locs → lv_has ls 6 [(0, .ref (ad 0)), (1, .ref (ad 6)), (2, .int v2), (3, .int v3'), (4, .int v4')] → W p l e ({ frames := 4, cells := 0, slots := 0, locals := 100 } : Room) s m args below meth c H locs 0 0 QQ (F0 m 17 ls [])) (H : Heap) (locs : List Loc) (ls : Array Slot), f_K_goRound_standing_65 N (iB 13) (iC 9) (aC 5) (iK 2) (iK 7) (lK 4) (lK 9) (lK 11) (lK 12) (aK 5) (aK 6) (aK 13) k17 v2 v3 v4 v5 x_lK9 x_lK11 x_lK12 x_aK13 = some q → va_P (dC, dI) vwCl (zzK ad cy (ad 11) (ad 18) iK (us lK [(9, x_lK9), (11, x_lK11), (12, x_lK12)]) (us aK [(13, x_aK13)]) iB lB aB iC aC) H → va_D A (zzK ad cy (ad 11) (ad 18) iK (us lK [(9, x_lK9), (11, x_lK11), (12, x_lK12)]) (us aK [(13, x_aK13)]) iB lB aB iC aC) → va_S A s.heap H locs → lv_has ls 6 [(0, .ref (ad 0)), (1, .ref (ad 6)), (2, .int v2), (3, .int v3), (4, .int v4), (5, .int v5)] → W p l e ({ frames := 4, cells := 0, slots := 0, locals := 100 } : Room) s m args below meth c H locs 0 0 QQ (F0 m 65 ls []) := by
    intro v2 v3 v4 v5 x_lK9 x_lK11 x_lK12 x_aK13 k17 hk17 H locs ls h hP hD hS hl
    unfold f_K_goRound_standing_65 at h
    refine lv_aload_n hx hb dX2_goRound_65 rfl (lv_at hl 0 rfl) ?_
    refine va_get (D := (dC, dI)) (ci := 2) (v := .ref (ad 8)) (C := RX2) (T := TX2) (N := 15) hx hb hts ki2 hown hK hP 0 rfl rfl 11 (by decide) kf34 (fun _ h9 => h9) rfl dX2_goRound_66 ?_
    refine lv_iload hx hb dX2_goRound_69 (lv_at hl 4 rfl) ?_
    obtain ⟨q71, e71, h⟩ := g_b h
    refine callSi (cc := cX2_goRound) (ws' := zzK ad cy (ad 11) (ad 18) iK (us lK [(9, x_lK9), (11, x_lK11), (12, x_lK12)]) (us aK [(13, x_aK13)]) iB lB aB iC aC) (As := [.ref (ad 8), .int v4]) (rest := []) ⟨hx, hb, hml, hown, hts⟩ (c_K_has l dC dI cy (fun i => ad (i + 8)) H.size 8 v4 x_lK11 q71 e71) (va_cwS 2 hts (goodS m_ml_X2_106 m_st_X2_has m_in_X2 m_cd_X2_has) rfl rfl rfl (by decide +kernel) ⟨Nat.le_of_ble_eq_true rfl, Nat.le_of_ble_eq_true rfl⟩) hN hK hP hD hS hA [8] [none, none, none, none, none, none, none, none, some 0, none, none, none, none, none, none, none, none, none, none, none, none, none, none, none, none, none, none] rfl rfl rfl rfl rfl rfl rfl hl.1 rfl (Nat.le_of_ble_eq_true rfl) dX2_goRound_71 ⟨Nat.zero_le _, Nat.zero_le _⟩ (fun H locs hP hD hS => ?_)
    refine lv_if_eq (tgt := 111) hx hb dX2_goRound_74 (by decide) (fun cz => ?_) (fun cz => ?_)
    · have h := g_t h cz
      refine lv_iinc (v := (v4 + (1 : Int32))) (lv' := [(4, .int ((v4 + (1 : Int32)))), (0, .ref (ad 0)), (1, .ref (ad 6)), (2, .int v2), (3, .int v3), (5, .int v5)]) hx hb dX2_goRound_111 hl (k := 4) rfl rfl (by decide) rfl (fun ls hl => ?_)
      refine lv_goto (tgt := 17) hx hb dX2_goRound_114 (by decide) ?_
      exact hk17 v3 ((v4 + (1 : Int32))) x_lK9 x_lK12 x_aK13 H locs ls h hP hD hS (lv_sub hl [1, 2, 3, 4, 0] rfl)
    · have h := g_f h cz
      refine lv_aload_n hx hb dX2_goRound_77 rfl (lv_at hl 0 rfl) ?_
      refine va_get (D := (dC, dI)) (ci := 2) (v := .ref (ad 9)) (C := RX2) (T := TX2) (N := 15) hx hb hts ki2 hown hK hP 0 rfl rfl 12 (by decide) kf37 (fun _ h9 => h9) rfl dX2_goRound_78 ?_
      refine lv_iload hx hb dX2_goRound_81 (lv_at hl 5 rfl) ?_
      obtain ⟨q83, e83, h⟩ := g_b h
      refine callSi (cc := cX2_goRound) (ws' := zzK ad cy (ad 11) (ad 18) iK (us lK [(9, x_lK9), (11, x_lK11), (12, x_lK12)]) (us aK [(13, x_aK13)]) iB lB aB iC aC) (As := [.ref (ad 9), .int v5]) (rest := []) ⟨hx, hb, hml, hown, hts⟩ (c_K_has l dC dI cy (fun i => ad (i + 9)) H.size 8 v5 x_lK12 q83 e83) (va_cwS 2 hts (goodS m_ml_X2_106 m_st_X2_has m_in_X2 m_cd_X2_has) rfl rfl rfl (by decide +kernel) ⟨Nat.le_of_ble_eq_true rfl, Nat.le_of_ble_eq_true rfl⟩) hN hK hP hD hS hA [9] [none, none, none, none, none, none, none, none, none, some 0, none, none, none, none, none, none, none, none, none, none, none, none, none, none, none, none, none] rfl rfl rfl rfl rfl rfl rfl hl.1 rfl (Nat.le_of_ble_eq_true rfl) dX2_goRound_83 ⟨Nat.zero_le _, Nat.zero_le _⟩ (fun H locs hP hD hS => ?_)
      refine lv_if_ne (tgt := 111) hx hb dX2_goRound_86 (by decide) (fun cz => ?_) (fun cz => ?_)
      · have h := g_f h cz
        refine lv_iinc (v := (v4 + (1 : Int32))) (lv' := [(4, .int ((v4 + (1 : Int32)))), (0, .ref (ad 0)), (1, .ref (ad 6)), (2, .int v2), (3, .int v3), (5, .int v5)]) hx hb dX2_goRound_111 hl (k := 4) rfl rfl (by decide) rfl (fun ls hl => ?_)
        refine lv_goto (tgt := 17) hx hb dX2_goRound_114 (by decide) ?_
        exact hk17 v3 ((v4 + (1 : Int32))) x_lK9 x_lK12 x_aK13 H locs ls h hP hD hS (lv_sub hl [1, 2, 3, 4, 0] rfl)
      · have h := g_t h cz
        refine lv_aload_n hx hb dX2_goRound_89 rfl (lv_at hl 1 rfl) ?_
        refine lv_iload hx hb dX2_goRound_90 (lv_at hl 4 rfl) ?_
        refine lv_iconst (v := 0) hx hb dX2_goRound_92 (by decide) ?_
        obtain ⟨q93, e93, h⟩ := g_b h
        refine callSv (cc := cX2_goRound) (ws' := zzK ad cy (ad 11) (ad 18) iK (us lK [(9, q93), (11, x_lK11), (12, x_lK12)]) (us aK [(13, x_aK13)]) iB lB aB iC aC) (As := [.ref (ad 6), .int v4, .int ((0 : Int32))]) (rest := []) ⟨hx, hb, hml, hown, hts⟩ (c_K_put l dC dI cy (fun i => ad (i + 6)) H.size 8 v4 ((0 : Int32)) x_lK9 q93 e93) (va_cwS 3 hts (goodS m_ml_X2_169 m_st_X2_put m_in_X2 m_cd_X2_put) rfl rfl rfl (by decide +kernel) ⟨Nat.le_of_ble_eq_true rfl, Nat.le_of_ble_eq_true rfl⟩) hN hK hP hD hS hA [6] [none, none, none, none, none, none, some 0, none, none, none, none, none, none, none, none, none, none, none, none, none, none, none, none, none, none, none, none] rfl rfl rfl rfl rfl rfl rfl hl.1 rfl (Nat.le_of_ble_eq_true rfl) dX2_goRound_93 ⟨Nat.zero_le _, Nat.zero_le _⟩ (fun H locs hP hD hS => ?_)
        refine lv_iconst (v := 1) hx hb dX2_goRound_96 (by decide) ?_
        refine lv_istore_n (lv' := [(3, .int ((1 : Int32))), (0, .ref (ad 0)), (1, .ref (ad 6)), (2, .int v2), (4, .int v4), (5, .int v5)]) hx hb dX2_goRound_97 rfl hl (by decide) rfl (fun ls hl => ?_)
        refine lv_iload_n hx hb dX2_goRound_98 rfl (lv_at hl 3 rfl) ?_
        refine lv_if_le (tgt := 111) hx hb dX2_goRound_99 (by decide) (fun cz => ?_) (fun cz => ?_)
        · have h := g_t h cz
          refine lv_iinc (v := (v4 + (1 : Int32))) (lv' := [(4, .int ((v4 + (1 : Int32)))), (3, .int ((1 : Int32))), (0, .ref (ad 0)), (1, .ref (ad 6)), (2, .int v2), (5, .int v5)]) hx hb dX2_goRound_111 hl (k := 4) rfl rfl (by decide) rfl (fun ls hl => ?_)
          refine lv_goto (tgt := 17) hx hb dX2_goRound_114 (by decide) ?_
          exact hk17 ((1 : Int32)) ((v4 + (1 : Int32))) q93 x_lK12 x_aK13 H locs ls h hP hD hS (lv_sub hl [2, 3, 4, 1, 0] rfl)
        · have h := g_f h cz
          refine lv_aload_n hx hb dX2_goRound_102 rfl (lv_at hl 1 rfl) ?_
          refine va_get (D := (dC, dI)) (ci := 2) (v := .ref (ad 10)) (C := RX2) (T := TX2) (N := 15) hx hb hts ki2 hown hK hP 0 rfl rfl 13 (by decide) kf40 (fun _ h9 => h9) rfl dX2_goRound_103 ?_
          refine lv_iload hx hb dX2_goRound_106 (lv_at hl 4 rfl) ?_
          refine lv_iload_n hx hb dX2_goRound_108 rfl (lv_at hl 3 rfl) ?_
          refine lv_i2s (v := (v2).toInt16.toInt32) hx hb dX2_goRound_109 rfl ?_
          obtain ⟨g_28, h⟩ := g_n h
          refine va_sast (f := x_aK13) hx hb hK hP hD hS 10 3 rfl rfl g_28 dX2_goRound_110 (fun H locs hP hD hS => ?_)
          have hP : va_P (dC, dI) vwCl (zzK ad cy (ad 11) (ad 18) iK (us lK [(9, q93), (11, x_lK11), (12, x_lK12)]) (us aK [(13, (upd x_aK13 v4.toNatClampNeg (vp_nar .short (v2).toInt16.toInt32)))]) iB lB aB iC aC) H := Eq.mp (congrArg (fun w => va_P (dC, dI) vwCl w H) (stK_aK13 ad cy (ad 11) (ad 18) iK (us lK [(9, q93), (11, x_lK11), (12, x_lK12)]) aK iB lB aB iC aC [(13, x_aK13)] ((upd x_aK13 v4.toNatClampNeg (vp_nar .short (v2).toInt16.toInt32))))) hP
          have hD : va_D A (zzK ad cy (ad 11) (ad 18) iK (us lK [(9, q93), (11, x_lK11), (12, x_lK12)]) (us aK [(13, (upd x_aK13 v4.toNatClampNeg (vp_nar .short (v2).toInt16.toInt32)))]) iB lB aB iC aC) := Eq.mp (congrArg (fun w => va_D A w) (stK_aK13 ad cy (ad 11) (ad 18) iK (us lK [(9, q93), (11, x_lK11), (12, x_lK12)]) aK iB lB aB iC aC [(13, x_aK13)] ((upd x_aK13 v4.toNatClampNeg (vp_nar .short (v2).toInt16.toInt32))))) hD
          refine lv_iinc (v := (v4 + (1 : Int32))) (lv' := [(4, .int ((v4 + (1 : Int32)))), (3, .int ((1 : Int32))), (0, .ref (ad 0)), (1, .ref (ad 6)), (2, .int v2), (5, .int v5)]) hx hb dX2_goRound_111 hl (k := 4) rfl rfl (by decide) rfl (fun ls hl => ?_)
          refine lv_goto (tgt := 17) hx hb dX2_goRound_114 (by decide) ?_
          exact hk17 ((1 : Int32)) ((v4 + (1 : Int32))) q93 x_lK12 ((upd x_aK13 v4.toNatClampNeg (vp_nar .short (v2).toInt16.toInt32))) H locs ls h hP hD hS (lv_sub hl [2, 3, 4, 1, 0] rfl)
  have B17 : ∀ (n : Nat) (v2 : Int32) (x_lK11 : Nat → Int64) (v3 : Int32) (v4 : Int32) (x_lK9 : Nat → Int64) (x_lK12 : Nat → Int64) (x_aK13 : Nat → Int32) (H : Heap) (locs : List Loc) (ls : Array Slot), f_K_goRound_standing_17 N (iB 13) (iC 9) (aC 5) (iK 2) (iK 7) (lK 4) (lK 9) (lK 11) (lK 12) (aK 5) (aK 6) (aK 13) v2 x_lK11 n v3 v4 x_lK9 x_lK12 x_aK13 = some q → va_P (dC, dI) vwCl (zzK ad cy (ad 11) (ad 18) iK (us lK [(9, x_lK9), (11, x_lK11), (12, x_lK12)]) (us aK [(13, x_aK13)]) iB lB aB iC aC) H → va_D A (zzK ad cy (ad 11) (ad 18) iK (us lK [(9, x_lK9), (11, x_lK11), (12, x_lK12)]) (us aK [(13, x_aK13)]) iB lB aB iC aC) → va_S A s.heap H locs → lv_has ls 6 [(0, .ref (ad 0)), (1, .ref (ad 6)), (2, .int v2), (3, .int v3), (4, .int v4)] → W p l e ({ frames := 4, cells := 0, slots := 0, locals := 100 } : Room) s m args below meth c H locs 0 0 QQ (F0 m 17 ls []) := by
    intro n
    induction n with
    | zero =>
      intro v2 x_lK11 v3 v4 x_lK9 x_lK12 x_aK13 H locs ls h hP hD hS hl
      rw [f_K_goRound_standing_17] at h
      cases h
    | succ n ih =>
      intro v2 x_lK11 v3 v4 x_lK9 x_lK12 x_aK13 H locs ls h hP hD hS hl
      rw [f_K_goRound_standing_17] at h
      refine lv_iload hx hb dX2_goRound_17 (lv_at hl 4 rfl) ?_
      refine lv_aload_n hx hb dX2_goRound_19 rfl (lv_at hl 0 rfl) ?_
      refine va_get (D := (dC, dI)) (ci := 2) (v := .int (iK 2)) (C := RX2) (T := TX2) (N := 15) hx hb hts ki2 hown hK hP 0 rfl rfl 2 (by decide) kf67 (fun _ h9 => h9) rfl dX2_goRound_20 ?_
      refine lv_icmp_ge (tgt := 117) hx hb dX2_goRound_23 (by decide) (fun cz => ?_) (fun cz => ?_)
      · have h := g_t h cz
        refine lv_iload_n hx hb dX2_goRound_117 rfl (lv_at hl 3 rfl) ?_
        obtain ⟨gz, h⟩ := g_p h
        have h' := Option.some.inj h
        rw [← hQQ]
        exact W.zret (v := v3) hx hb hr (g_zr _ gz) (fun t ht hW => ⟨⟨v3, (), rfl, by rw [← h'], by rw [← hWQ, ← h', ht]; exact hP, va_K.moved hW.alike hK⟩, hS.F ht⟩) hS.2.2 dX2_goRound_118
      · have h := g_f h cz
        refine lv_iload hx hb dX2_goRound_26 (lv_at hl 4 rfl) ?_
        refine lv_sipush (v := 512) hx hb dX2_goRound_28 (by decide) ?_
        refine lv_icmp_ge (tgt := 117) hx hb dX2_goRound_31 (by decide) (fun cz => ?_) (fun cz => ?_)
        · have h := g_t h cz
          refine lv_iload_n hx hb dX2_goRound_117 rfl (lv_at hl 3 rfl) ?_
          obtain ⟨gz, h⟩ := g_p h
          have h' := Option.some.inj h
          rw [← hQQ]
          exact W.zret (v := v3) hx hb hr (g_zr _ gz) (fun t ht hW => ⟨⟨v3, (), rfl, by rw [← h'], by rw [← hWQ, ← h', ht]; exact hP, va_K.moved hW.alike hK⟩, hS.F ht⟩) hS.2.2 dX2_goRound_118
        · have h := g_f h cz
          refine lv_iload hx hb dX2_goRound_34 (lv_at hl 4 rfl) ?_
          refine lv_aload_n hx hb dX2_goRound_36 rfl (lv_at hl 0 rfl) ?_
          refine va_get (D := (dC, dI)) (ci := 2) (v := .int (iK 7)) (C := RX2) (T := TX2) (N := 15) hx hb hts ki2 hown hK hP 0 rfl rfl 7 (by decide) kf144 (fun _ h9 => h9) rfl dX2_goRound_37 ?_
          refine lv_iand hx hb dX2_goRound_40 ?_
          refine lv_istore (lv' := [(5, .int ((v4 &&& (iK 7)))), (0, .ref (ad 0)), (1, .ref (ad 6)), (2, .int v2), (3, .int v3), (4, .int v4)]) hx hb dX2_goRound_41 hl (by decide) rfl (fun ls hl => ?_)
          refine lv_iload hx hb dX2_goRound_43 (lv_at hl 0 rfl) ?_
          refine lv_iload hx hb dX2_goRound_45 (lv_at hl 5 rfl) ?_
          refine lv_icmp_ne (tgt := 65) hx hb dX2_goRound_47 (by decide) (fun cz => ?_) (fun cz => ?_)
          · have h := g_f h cz
            exact B65 v2 v3 v4 ((v4 &&& (iK 7))) x_lK9 x_lK11 x_lK12 x_aK13 (f_K_goRound_standing_17 N (iB 13) (iC 9) (aC 5) (iK 2) (iK 7) (lK 4) (lK 9) (lK 11) (lK 12) (aK 5) (aK 6) (aK 13) v2 x_lK11 n) (ih v2 x_lK11) H locs ls h hP hD hS (lv_sub hl [1, 2, 3, 4, 5, 0] rfl)
          · have h := g_t h cz
            refine lv_aload_n hx hb dX2_goRound_50 rfl (lv_at hl 1 rfl) ?_
            refine va_get (D := (dC, dI)) (ci := 2) (v := .ref (ad 9)) (C := RX2) (T := TX2) (N := 15) hx hb hts ki2 hown hK hP 0 rfl rfl 12 (by decide) kf37 (fun _ h9 => h9) rfl dX2_goRound_51 ?_
            refine lv_iload hx hb dX2_goRound_54 (lv_at hl 5 rfl) ?_
            refine lv_aload_n hx hb dX2_goRound_56 rfl (lv_at hl 1 rfl) ?_
            refine lv_iload hx hb dX2_goRound_57 (lv_at hl 5 rfl) ?_
            obtain ⟨q59, e59, h⟩ := g_b h
            refine callVis (cc := cX2_goRound) (w1 := zzK ad cy (ad 11) (ad 18) iK (us lK [(9, x_lK9), (11, x_lK11), (12, x_lK12)]) (us aK [(13, x_aK13)]) iB lB aB iC aC) (As := [.int v4]) (rest := [.int v4, .ref (ad 9)]) ⟨hx, hb, hml, hown, hts⟩ (c_K_isMet l dC dI cy ad H.size N v4 iK ((us lK [(9, x_lK9), (11, x_lK11), (12, x_lK12)])) ((us aK [(13, x_aK13)])) iB lB aB iC aC q59 e59) (cwV 1 hts (goodV m_ml_X2_166 m_im_X2_isMet m_se_X2_isMet m_in_X2 m_cd_X2_isMet) rfl rfl rfl (by decide +kernel) ⟨Nat.le_of_ble_eq_true rfl, Nat.le_of_ble_eq_true rfl⟩) hN hK hP hD hS hA rfl 0 rfl rfl rfl hl.1 rfl (Nat.le_of_ble_eq_true rfl) dX2_goRound_59 ⟨Nat.zero_le _, Nat.zero_le _⟩ (fun H locs hP hD hS => ?_)
            obtain ⟨q62, e62, h⟩ := g_b h
            refine callSv (cc := cX2_goRound) (ws' := zzK ad cy (ad 11) (ad 18) iK (us lK [(9, x_lK9), (11, x_lK11), (12, q62)]) (us aK [(13, x_aK13)]) iB lB aB iC aC) (As := [.ref (ad 9), .int v4, .int q59]) (rest := []) ⟨hx, hb, hml, hown, hts⟩ (c_K_put l dC dI cy (fun i => ad (i + 9)) H.size 8 v4 q59 x_lK12 q62 e62) (va_cwS 3 hts (goodS m_ml_X2_169 m_st_X2_put m_in_X2 m_cd_X2_put) rfl rfl rfl (by decide +kernel) ⟨Nat.le_of_ble_eq_true rfl, Nat.le_of_ble_eq_true rfl⟩) hN hK hP hD hS hA [9] [none, none, none, none, none, none, none, none, none, some 0, none, none, none, none, none, none, none, none, none, none, none, none, none, none, none, none, none] rfl rfl rfl rfl rfl rfl rfl hl.1 rfl (Nat.le_of_ble_eq_true rfl) dX2_goRound_62 ⟨Nat.zero_le _, Nat.zero_le _⟩ (fun H locs hP hD hS => ?_)
            exact B65 v2 v3 v4 ((v4 &&& (iK 7))) x_lK9 x_lK11 q62 x_aK13 (f_K_goRound_standing_17 N (iB 13) (iC 9) (aC 5) (iK 2) (iK 7) (lK 4) (lK 9) (lK 11) (lK 12) (aK 5) (aK 6) (aK 13) v2 x_lK11 n) (ih v2 x_lK11) H locs ls h hP hD hS (lv_sub hl [1, 2, 3, 4, 5, 0] rfl)
  intro H locs hP hD hS
  unfold f_K_goRound_standing at h
  refine lv_aload_n hx hb dX2_goRound_0 rfl (lv_at hl 1 rfl) ?_
  refine lv_iconst (v := 0) hx hb dX2_goRound_1 (by decide) ?_
  refine lv_aload_n hx hb dX2_goRound_2 rfl (lv_at hl 0 rfl) ?_
  refine va_get (D := (dC, dI)) (ci := 2) (v := .ref (ad 8)) (C := RX2) (T := TX2) (N := 15) hx hb hts ki2 hown hK hP 0 rfl rfl 11 (by decide) kf34 (fun _ h9 => h9) rfl dX2_goRound_3 ?_
  refine lv_iconst (v := 0) hx hb dX2_goRound_6 (by decide) ?_
  refine lv_bipush (v := 8) hx hb dX2_goRound_7 (by decide) ?_
  refine va_copyl (f := (lK 9)) (g := (lK 11)) hx hb (by rw [hml]; exact hl.1.symm) hown ka1 ka2 ka3 ka4 hK hP hD hS 6 8 2 2 rfl rfl rfl rfl rfl (by decide) (by decide) (by decide) (by decide) (by decide) (fun _ _ => rfl) (Nat.le_of_ble_eq_true rfl) (Nat.le_of_ble_eq_true rfl) dX2_goRound_9 (fun H locs hP hD hS => ?_)
  have hP : va_P (dC, dI) vwCl (zzK ad cy (ad 11) (ad 18) iK (us lK [(11, (va_cpy (lK 9) (lK 11) ((0 : Int32)).toNatClampNeg ((0 : Int32)).toNatClampNeg ((8 : Int32)).toNatClampNeg))]) aK iB lB aB iC aC) H := Eq.mp (congrArg (fun w => va_P (dC, dI) vwCl w H) (sfK_lK11 ad cy (ad 11) (ad 18) iK lK aK iB lB aB iC aC ((va_cpy (lK 9) (lK 11) ((0 : Int32)).toNatClampNeg ((0 : Int32)).toNatClampNeg ((8 : Int32)).toNatClampNeg)))) hP
  have hD : va_D A (zzK ad cy (ad 11) (ad 18) iK (us lK [(11, (va_cpy (lK 9) (lK 11) ((0 : Int32)).toNatClampNeg ((0 : Int32)).toNatClampNeg ((8 : Int32)).toNatClampNeg))]) aK iB lB aB iC aC) := Eq.mp (congrArg (fun w => va_D A w) (sfK_lK11 ad cy (ad 11) (ad 18) iK lK aK iB lB aB iC aC ((va_cpy (lK 9) (lK 11) ((0 : Int32)).toNatClampNeg ((0 : Int32)).toNatClampNeg ((8 : Int32)).toNatClampNeg)))) hD
  refine lv_iconst (v := 0) hx hb dX2_goRound_12 (by decide) ?_
  refine lv_istore_n (lv' := [(3, .int ((0 : Int32))), (0, .ref (ad 0)), (1, .ref (ad 6)), (2, .int a2)]) hx hb dX2_goRound_13 rfl hl (by decide) rfl (fun ls hl => ?_)
  refine lv_iconst (v := 0) hx hb dX2_goRound_14 (by decide) ?_
  refine lv_istore (lv' := [(4, .int ((0 : Int32))), (3, .int ((0 : Int32))), (0, .ref (ad 0)), (1, .ref (ad 6)), (2, .int a2)]) hx hb dX2_goRound_15 hl (by decide) rfl (fun ls hl => ?_)
  exact B17 N a2 ((va_cpy (lK 9) (lK 11) ((0 : Int32)).toNatClampNeg ((0 : Int32)).toNatClampNeg ((8 : Int32)).toNatClampNeg)) ((0 : Int32)) ((0 : Int32)) (lK 9) (lK 12) (aK 13) H locs ls h hP hD hS (lv_sub hl [2, 3, 4, 1, 0] rfl)
set_option maxHeartbeats 8000000 in
set_option maxRecDepth 100000 in
theorem c_K_settle_standing (l : Launch) (dC : Nat → ClassId) (dI : Nat → Nat → Nat) (cy : Nat → ClassId) (ad : Nat → Nat) (sz : Nat) (N : Nat) (a2 : Int32) (iK : Nat → Int32) (lK : Nat → Nat → Int64) (aK : Nat → Nat → Int32) (iB : Nat → Int32) (lB : Nat → Nat → Int64) (aB : Nat → Nat → Int32) (iC : Nat → Int32) (aC : Nat → Nat → Int32) (q : Int32 × (Nat → Int64) × (Nat → Int64) × (Nat → Int64) × (Nat → Int32)) (h : f_K_settle_standing N a2 (iB 13) (iC 9) (aC 5) (iK 2) (iK 7) (lK 4) (lK 9) (lK 11) (lK 12) (aK 5) (aK 6) (aK 13) = some q) : Met l yX2_settle wsX2_settle ({ frames := 5, cells := 0, slots := 0, locals := 125 } : Room) (cP (dC, dI) cy [.ref (ad 0), .ref (ad 6), .int a2] (zzK ad cy (ad 11) (ad 18) iK lK aK iB lB aB iC aC) sz) (cQi (dC, dI) cy q.1 (zzK ad cy (ad 11) (ad 18) iK (us lK [(9, q.2.1), (11, q.2.2.1), (12, q.2.2.2.1)]) (us aK [(13, q.2.2.2.2)]) iB lB aB iC aC) (va_A (zzK ad cy (ad 11) (ad 18) iK lK aK iB lB aB iC aC) sz)) 0 0 (va_A (zzK ad cy (ad 11) (ad 18) iK lK aK iB lB aB iC aC) sz) := by
  refine Met.ofW (cc := cX2_settle) (maxL := 4) (ret := (some .int)) (by decide) rfl ?_
  intro p e s m args below meth c s₁ B hml hv
  obtain ⟨hav, hsz, hP, hK, hD0, hN⟩ := hv
  have hx := B.exec
  have hb := B.bytes
  have hr := B.returns
  have hts := atoms_spec (ws := wsX2_settle) B.pre
  have hown : s.vm.findClass RX2 = some m.cls := findClass_of_methodNamed B.named
  have hlocks := B.notSynchronized
  subst hsz
  have hD := hD0.self (sz := s.heap.size)
  generalize hAe : va_A (zzK ad cy (ad 11) (ad 18) iK lK aK iB lB aB iC aC) s.heap.size = A at hD ⊢
  have hA : ∀ q : Nat, s.heap.size ≤ q → A q := fun q h => by rw [← hAe]; exact Or.inr h
  have hS : va_S A s.heap s.heap [] := va_S.rf
  generalize hWQ : (zzK ad cy (ad 11) (ad 18) iK (us lK [(9, q.2.1), (11, q.2.2.1), (12, q.2.2.2.1)]) (us aK [(13, q.2.2.2.2)]) iB lB aB iC aC) = WQ
  generalize hQQ : MQ below (cQi (dC, dI) cy q.1 WQ A) args s 0 0 A = QQ
  have hl := lv_entry ([.ref (ad 0), .ref (ad 6), .int a2] : List Value) (n := 4) (Nat.le_of_ble_eq_true rfl)
  have hfr := lg_entry_eq m ([.ref (ad 0), .ref (ad 6), .int a2] : List Value) 4
  rw [← hav] at hfr
  rw [hfr]
  clear hfr hav
  generalize (lg_sl ([.ref (ad 0), .ref (ad 6), .int a2] : List Value) ++ List.replicate (4 - (lg_sl ([.ref (ad 0), .ref (ad 6), .int a2] : List Value)).length) Slot.unset).toArray = ls at hl ⊢
  have hl : lv_has ls 4 [(0, .ref (ad 0)), (1, .ref (ad 6)), (2, .int a2)] := hl
  refine (?_ : ∀ (H : Heap) (locs : List Loc), va_P (dC, dI) vwCl (zzK ad cy (ad 11) (ad 18) iK lK aK iB lB aB iC aC) H → va_D A (zzK ad cy (ad 11) (ad 18) iK lK aK iB lB aB iC aC) → va_S A s.heap H locs → W p l e ({ frames := 5, cells := 0, slots := 0, locals := 125 } : Room) s m args below meth c H locs 0 0 QQ (F0 m 0 ls [])) s.heap [] hP hD hS
  clear hP hD hS
  have B20 : ∀ (v2 : Int32) (v3 : Int32) (s2 : Int32) (x_lK9 : Nat → Int64) (x_lK11 : Nat → Int64) (x_lK12 : Nat → Int64) (x_aK13 : Nat → Int32) (k2 : Int32 → (Nat → Int64) → (Nat → Int64) → (Nat → Int64) → (Nat → Int32) → Option (Int32 × (Nat → Int64) × (Nat → Int64) × (Nat → Int64) × (Nat → Int32))) (hk2 : ∀ (v3' : Int32) (x_lK9' : Nat → Int64) (x_lK11' : Nat → Int64) (x_lK12' : Nat → Int64) (x_aK13' : Nat → Int32) (H : Heap) (locs : List Loc) (ls : Array Slot), k2 v3' x_lK9' x_lK11' x_lK12' x_aK13' = some q → va_P (dC, dI) vwCl (zzK ad cy (ad 11) (ad 18) iK (us lK [(9, x_lK9'), (11, x_lK11'), (12, x_lK12')]) (us aK [(13, x_aK13')]) iB lB aB iC aC) H → va_D A (zzK ad cy (ad 11) (ad 18) iK (us lK [(9, x_lK9'), (11, x_lK11'), (12, x_lK12')]) (us aK [(13, x_aK13')]) iB lB aB iC aC) → va_S A s.heap H locs → lv_has ls 4 [(0, .ref (ad 0)), (1, .ref (ad 6)), (2, .int v2), (3, .int v3')] → W p l e ({ frames := 5, cells := 0, slots := 0, locals := 125 } : Room) s m args below meth c H locs 0 0 QQ (F0 m 2 ls [])) (H : Heap) (locs : List Loc) (ls : Array Slot), f_K_settle_standing_20 N (iB 13) (iC 9) (aC 5) (iK 2) (iK 7) (lK 4) (lK 9) (lK 11) (lK 12) (aK 5) (aK 6) (aK 13) k2 v2 v3 s2 x_lK9 x_lK11 x_lK12 x_aK13 = some q → va_P (dC, dI) vwCl (zzK ad cy (ad 11) (ad 18) iK (us lK [(9, x_lK9), (11, x_lK11), (12, x_lK12)]) (us aK [(13, x_aK13)]) iB lB aB iC aC) H → va_D A (zzK ad cy (ad 11) (ad 18) iK (us lK [(9, x_lK9), (11, x_lK11), (12, x_lK12)]) (us aK [(13, x_aK13)]) iB lB aB iC aC) → va_S A s.heap H locs → lv_has ls 4 [(0, .ref (ad 0)), (1, .ref (ad 6)), (2, .int v2), (3, .int v3)] → W p l e ({ frames := 5, cells := 0, slots := 0, locals := 125 } : Room) s m args below meth c H locs 0 0 QQ (F0 m 20 ls [.int s2, .ref (ad 6), .ref (ad 0)]) := by
    intro v2 v3 s2 x_lK9 x_lK11 x_lK12 x_aK13 k2 hk2 H locs ls h hP hD hS hl
    unfold f_K_settle_standing_20 at h
    obtain ⟨q20, e20, h⟩ := g_b h
    refine callVis (cc := cX2_settle) (w1 := zzK ad cy (ad 11) (ad 18) iK (us lK [(9, q20.2.1), (11, q20.2.2.1), (12, q20.2.2.2.1)]) (us aK [(13, q20.2.2.2.2)]) iB lB aB iC aC) (As := [.ref (ad 6), .int s2]) (rest := []) ⟨hx, hb, hml, hown, hts⟩ (c_K_goRound_standing l dC dI cy ad H.size N s2 iK ((us lK [(9, x_lK9), (11, x_lK11), (12, x_lK12)])) ((us aK [(13, x_aK13)])) iB lB aB iC aC q20 e20) (cwV 2 hts (goodV m_ml_X2_163 m_im_X2_goRound m_se_X2_goRound m_in_X2 m_cd_X2_goRound) rfl rfl rfl (by decide +kernel) ⟨Nat.le_of_ble_eq_true rfl, Nat.le_of_ble_eq_true rfl⟩) hN hK hP hD hS hA rfl 0 rfl rfl rfl hl.1 rfl (Nat.le_of_ble_eq_true rfl) dX2_settle_20 ⟨Nat.zero_le _, Nat.zero_le _⟩ (fun H locs hP hD hS => ?_)
    refine lv_if_ne (tgt := 30) hx hb dX2_settle_23 (by decide) (fun cz => ?_) (fun cz => ?_)
    · have h := g_f h cz
      refine lv_iinc (v := (v3 + (1 : Int32))) (lv' := [(3, .int ((v3 + (1 : Int32)))), (0, .ref (ad 0)), (1, .ref (ad 6)), (2, .int v2)]) hx hb dX2_settle_30 hl (k := 3) rfl rfl (by decide) rfl (fun ls hl => ?_)
      refine lv_goto (tgt := 2) hx hb dX2_settle_33 (by decide) ?_
      exact hk2 ((v3 + (1 : Int32))) q20.2.1 q20.2.2.1 q20.2.2.2.1 q20.2.2.2.2 H locs ls h hP hD hS (lv_sub hl [1, 2, 3, 0] rfl)
    · have h := g_t h cz
      refine lv_iload_n hx hb dX2_settle_26 rfl (lv_at hl 3 rfl) ?_
      refine lv_iconst (v := 1) hx hb dX2_settle_27 (by decide) ?_
      refine lv_isub hx hb dX2_settle_28 ?_
      have h' := Option.some.inj h
      rw [← hQQ]
      exact W.iret (v := (v3 - (1 : Int32))) hx hb hr (fun t ht hW => ⟨⟨(v3 - (1 : Int32)), (), rfl, by rw [← h'], by rw [← hWQ, ← h', ht]; exact hP, va_K.moved hW.alike hK⟩, hS.F ht⟩) hS.2.2 dX2_settle_29
  have B2 : ∀ (n : Nat) (v2 : Int32) (v3 : Int32) (x_lK9 : Nat → Int64) (x_lK11 : Nat → Int64) (x_lK12 : Nat → Int64) (x_aK13 : Nat → Int32) (H : Heap) (locs : List Loc) (ls : Array Slot), f_K_settle_standing_2 N (iB 13) (iC 9) (aC 5) (iK 2) (iK 7) (lK 4) (lK 9) (lK 11) (lK 12) (aK 5) (aK 6) (aK 13) v2 n v3 x_lK9 x_lK11 x_lK12 x_aK13 = some q → va_P (dC, dI) vwCl (zzK ad cy (ad 11) (ad 18) iK (us lK [(9, x_lK9), (11, x_lK11), (12, x_lK12)]) (us aK [(13, x_aK13)]) iB lB aB iC aC) H → va_D A (zzK ad cy (ad 11) (ad 18) iK (us lK [(9, x_lK9), (11, x_lK11), (12, x_lK12)]) (us aK [(13, x_aK13)]) iB lB aB iC aC) → va_S A s.heap H locs → lv_has ls 4 [(0, .ref (ad 0)), (1, .ref (ad 6)), (2, .int v2), (3, .int v3)] → W p l e ({ frames := 5, cells := 0, slots := 0, locals := 125 } : Room) s m args below meth c H locs 0 0 QQ (F0 m 2 ls []) := by
    intro n
    induction n with
    | zero =>
      intro v2 v3 x_lK9 x_lK11 x_lK12 x_aK13 H locs ls h hP hD hS hl
      rw [f_K_settle_standing_2] at h
      cases h
    | succ n ih =>
      intro v2 v3 x_lK9 x_lK11 x_lK12 x_aK13 H locs ls h hP hD hS hl
      rw [f_K_settle_standing_2] at h
      refine lv_iload_n hx hb dX2_settle_2 rfl (lv_at hl 3 rfl) ?_
      refine lv_sipush (v := 512) hx hb dX2_settle_3 (by decide) ?_
      refine lv_icmp_gt (tgt := 36) hx hb dX2_settle_6 (by decide) (fun cz => ?_) (fun cz => ?_)
      · have h := g_t h cz
        refine lv_sipush (v := 512) hx hb dX2_settle_36 (by decide) ?_
        have h' := Option.some.inj h
        rw [← hQQ]
        exact W.iret (v := (512 : Int32)) hx hb hr (fun t ht hW => ⟨⟨(512 : Int32), (), rfl, by rw [← h'], by rw [← hWQ, ← h', ht]; exact hP, va_K.moved hW.alike hK⟩, hS.F ht⟩) hS.2.2 dX2_settle_39
      · have h := g_f h cz
        refine lv_aload_n hx hb dX2_settle_9 rfl (lv_at hl 0 rfl) ?_
        refine lv_aload_n hx hb dX2_settle_10 rfl (lv_at hl 1 rfl) ?_
        refine lv_iload_n hx hb dX2_settle_11 rfl (lv_at hl 2 rfl) ?_
        refine lv_if_eq (tgt := 19) hx hb dX2_settle_12 (by decide) (fun cz => ?_) (fun cz => ?_)
        · have h := g_t h cz
          refine lv_iconst (v := 0) hx hb dX2_settle_19 (by decide) ?_
          exact B20 v2 v3 ((0 : Int32)) x_lK9 x_lK11 x_lK12 x_aK13 (f_K_settle_standing_2 N (iB 13) (iC 9) (aC 5) (iK 2) (iK 7) (lK 4) (lK 9) (lK 11) (lK 12) (aK 5) (aK 6) (aK 13) v2 n) (ih v2) H locs ls h hP hD hS (lv_sub hl [0, 1, 2, 3] rfl)
        · have h := g_f h cz
          refine lv_iload_n hx hb dX2_settle_15 rfl (lv_at hl 3 rfl) ?_
          refine lv_goto (tgt := 20) hx hb dX2_settle_16 (by decide) ?_
          exact B20 v2 v3 v3 x_lK9 x_lK11 x_lK12 x_aK13 (f_K_settle_standing_2 N (iB 13) (iC 9) (aC 5) (iK 2) (iK 7) (lK 4) (lK 9) (lK 11) (lK 12) (aK 5) (aK 6) (aK 13) v2 n) (ih v2) H locs ls h hP hD hS (lv_sub hl [0, 1, 2, 3] rfl)
  intro H locs hP hD hS
  unfold f_K_settle_standing at h
  refine lv_iconst (v := 1) hx hb dX2_settle_0 (by decide) ?_
  refine lv_istore_n (lv' := [(3, .int ((1 : Int32))), (0, .ref (ad 0)), (1, .ref (ad 6)), (2, .int a2)]) hx hb dX2_settle_1 rfl hl (by decide) rfl (fun ls hl => ?_)
  exact B2 N a2 ((1 : Int32)) (lK 9) (lK 11) (lK 12) (aK 13) H locs ls h hP hD hS (lv_sub hl [1, 2, 3, 0] rfl)
set_option maxHeartbeats 8000000 in
set_option maxRecDepth 100000 in
theorem c_C_partOfAtom (l : Launch) (dC : Nat → ClassId) (dI : Nat → Nat → Nat) (cy : Nat → ClassId) (ad : Nat → Nat) (sz : Nat) (a1 : Int32) (iC : Nat → Int32) (aC : Nat → Nat → Int32) (q : Int32) (h : f_C_partOfAtom a1 (iC 9) (aC 7) = some q) : Met l yX1_partOfAtom wsX1_partOfAtom ({ frames := 0, cells := 0, slots := 0, locals := 0 } : Room) (cP (dC, dI) cy [.ref (ad 0), .int a1] (zzC ad cy iC aC) sz) (cQi (dC, dI) cy q (zzC ad cy iC aC) (va_A (zzC ad cy iC aC) sz)) 0 0 (va_A (zzC ad cy iC aC) sz) := by
  refine Met.ofW (cc := cX1_partOfAtom) (maxL := 2) (ret := (some .int)) (by decide) rfl ?_
  intro p e s m args below meth c s₁ B hml hv
  obtain ⟨hav, hsz, hP, hK, hD0, hN⟩ := hv
  have hx := B.exec
  have hb := B.bytes
  have hr := B.returns
  have hts := atoms_spec (ws := wsX1_partOfAtom) B.pre
  have hown : s.vm.findClass RX1 = some m.cls := findClass_of_methodNamed B.named
  have hlocks := B.notSynchronized
  subst hsz
  have hD := hD0.self (sz := s.heap.size)
  generalize hAe : va_A (zzC ad cy iC aC) s.heap.size = A at hD ⊢
  have hA : ∀ q : Nat, s.heap.size ≤ q → A q := fun q h => by rw [← hAe]; exact Or.inr h
  have hS : va_S A s.heap s.heap [] := va_S.rf
  generalize hWQ : (zzC ad cy iC aC) = WQ
  generalize hQQ : MQ below (cQi (dC, dI) cy q WQ A) args s 0 0 A = QQ
  have hl := lv_entry ([.ref (ad 0), .int a1] : List Value) (n := 2) (Nat.le_of_ble_eq_true rfl)
  have hfr := lg_entry_eq m ([.ref (ad 0), .int a1] : List Value) 2
  rw [← hav] at hfr
  rw [hfr]
  clear hfr hav
  generalize (lg_sl ([.ref (ad 0), .int a1] : List Value) ++ List.replicate (2 - (lg_sl ([.ref (ad 0), .int a1] : List Value)).length) Slot.unset).toArray = ls at hl ⊢
  have hl : lv_has ls 2 [(0, .ref (ad 0)), (1, .int a1)] := hl
  have kf40 := hts _ (List.mem_cons_of_mem _ m_fl_X1_40)
  have ki1 := (fun w h => List.mem_cons_of_mem _ (i_X1 w h) : ∀ w ∈ u_ws RX1 TX1 10, w ∈ wsX1_partOfAtom)
  have kf30 := hts _ (List.mem_cons_of_mem _ m_fl_X1_30)
  refine (?_ : ∀ (H : Heap) (locs : List Loc), va_P (dC, dI) vwCl (zzC ad cy iC aC) H → va_D A (zzC ad cy iC aC) → va_S A s.heap H locs → W p l e ({ frames := 0, cells := 0, slots := 0, locals := 0 } : Room) s m args below meth c H locs 0 0 QQ (F0 m 0 ls [])) s.heap [] hP hD hS
  clear hP hD hS
  intro H locs hP hD hS
  unfold f_C_partOfAtom at h
  refine lv_iload_n hx hb dX1_partOfAtom_0 rfl (lv_at hl 1 rfl) ?_
  refine lv_if_lt (tgt := 21) hx hb dX1_partOfAtom_1 (by decide) (fun cz => ?_) (fun cz => ?_)
  · have h := g_t h cz
    refine lv_iconst (v := (-1)) hx hb dX1_partOfAtom_21 (by decide) ?_
    have h' := Option.some.inj h
    rw [← hQQ]
    exact W.iret (v := (-1 : Int32)) hx hb hr (fun t ht hW => ⟨⟨(-1 : Int32), (), rfl, by rw [← h'], by rw [← hWQ, ht]; exact hP, va_K.moved hW.alike hK⟩, hS.F ht⟩) hS.2.2 dX1_partOfAtom_22
  · have h := g_f h cz
    refine lv_iload_n hx hb dX1_partOfAtom_4 rfl (lv_at hl 1 rfl) ?_
    refine lv_aload_n hx hb dX1_partOfAtom_5 rfl (lv_at hl 0 rfl) ?_
    refine va_get (D := (dC, dI)) (ci := 1) (v := .int (iC 9)) (C := RX1) (T := TX1) (N := 10) hx hb hts ki1 hown hK hP 0 rfl rfl 9 (by decide) kf40 (fun _ h9 => h9) rfl dX1_partOfAtom_6 ?_
    refine lv_icmp_ge (tgt := 21) hx hb dX1_partOfAtom_9 (by decide) (fun cz => ?_) (fun cz => ?_)
    · have h := g_t h cz
      refine lv_iconst (v := (-1)) hx hb dX1_partOfAtom_21 (by decide) ?_
      have h' := Option.some.inj h
      rw [← hQQ]
      exact W.iret (v := (-1 : Int32)) hx hb hr (fun t ht hW => ⟨⟨(-1 : Int32), (), rfl, by rw [← h'], by rw [← hWQ, ht]; exact hP, va_K.moved hW.alike hK⟩, hS.F ht⟩) hS.2.2 dX1_partOfAtom_22
    · have h := g_f h cz
      refine lv_aload_n hx hb dX1_partOfAtom_12 rfl (lv_at hl 0 rfl) ?_
      refine va_get (D := (dC, dI)) (ci := 1) (v := .ref (ad 7)) (C := RX1) (T := TX1) (N := 10) hx hb hts ki1 hown hK hP 0 rfl rfl 7 (by decide) kf30 (fun _ h9 => h9) rfl dX1_partOfAtom_13 ?_
      refine lv_iload_n hx hb dX1_partOfAtom_16 rfl (lv_at hl 1 rfl) ?_
      obtain ⟨g_19, h⟩ := g_n h
      refine va_iald (f := (aC 7)) hx hb hK hP 7 0 rfl rfl g_19 dX1_partOfAtom_17 ?_
      refine lv_goto (tgt := 22) hx hb dX1_partOfAtom_18 (by decide) ?_
      have h' := Option.some.inj h
      rw [← hQQ]
      exact W.iret (v := ((aC 7) a1.toNatClampNeg)) hx hb hr (fun t ht hW => ⟨⟨((aC 7) a1.toNatClampNeg), (), rfl, by rw [← h'], by rw [← hWQ, ht]; exact hP, va_K.moved hW.alike hK⟩, hS.F ht⟩) hS.2.2 dX1_partOfAtom_22
set_option maxHeartbeats 8000000 in
set_option maxRecDepth 100000 in
theorem c_C_isTurned (l : Launch) (dC : Nat → ClassId) (dI : Nat → Nat → Nat) (cy : Nat → ClassId) (ad : Nat → Nat) (sz : Nat) (a1 : Int32) (iC : Nat → Int32) (aC : Nat → Nat → Int32) (q : Int32) (h : f_C_isTurned a1 (iC 9) (aC 8) = some q) : Met l yX1_isTurned wsX1_isTurned ({ frames := 0, cells := 0, slots := 0, locals := 0 } : Room) (cP (dC, dI) cy [.ref (ad 0), .int a1] (zzC ad cy iC aC) sz) (cQi (dC, dI) cy q (zzC ad cy iC aC) (va_A (zzC ad cy iC aC) sz)) 0 0 (va_A (zzC ad cy iC aC) sz) := by
  refine Met.ofW (cc := cX1_isTurned) (maxL := 2) (ret := (some .boolean)) (by decide) rfl ?_
  intro p e s m args below meth c s₁ B hml hv
  obtain ⟨hav, hsz, hP, hK, hD0, hN⟩ := hv
  have hx := B.exec
  have hb := B.bytes
  have hr := B.returns
  have hts := atoms_spec (ws := wsX1_isTurned) B.pre
  have hown : s.vm.findClass RX1 = some m.cls := findClass_of_methodNamed B.named
  have hlocks := B.notSynchronized
  subst hsz
  have hD := hD0.self (sz := s.heap.size)
  generalize hAe : va_A (zzC ad cy iC aC) s.heap.size = A at hD ⊢
  have hA : ∀ q : Nat, s.heap.size ≤ q → A q := fun q h => by rw [← hAe]; exact Or.inr h
  have hS : va_S A s.heap s.heap [] := va_S.rf
  generalize hWQ : (zzC ad cy iC aC) = WQ
  generalize hQQ : MQ below (cQi (dC, dI) cy q WQ A) args s 0 0 A = QQ
  have hl := lv_entry ([.ref (ad 0), .int a1] : List Value) (n := 2) (Nat.le_of_ble_eq_true rfl)
  have hfr := lg_entry_eq m ([.ref (ad 0), .int a1] : List Value) 2
  rw [← hav] at hfr
  rw [hfr]
  clear hfr hav
  generalize (lg_sl ([.ref (ad 0), .int a1] : List Value) ++ List.replicate (2 - (lg_sl ([.ref (ad 0), .int a1] : List Value)).length) Slot.unset).toArray = ls at hl ⊢
  have hl : lv_has ls 2 [(0, .ref (ad 0)), (1, .int a1)] := hl
  have kf40 := hts _ (List.mem_cons_of_mem _ m_fl_X1_40)
  have ki1 := (fun w h => List.mem_cons_of_mem _ (i_X1 w h) : ∀ w ∈ u_ws RX1 TX1 10, w ∈ wsX1_isTurned)
  have kf33 := hts _ (List.mem_cons_of_mem _ m_fl_X1_33)
  refine (?_ : ∀ (H : Heap) (locs : List Loc), va_P (dC, dI) vwCl (zzC ad cy iC aC) H → va_D A (zzC ad cy iC aC) → va_S A s.heap H locs → W p l e ({ frames := 0, cells := 0, slots := 0, locals := 0 } : Room) s m args below meth c H locs 0 0 QQ (F0 m 0 ls [])) s.heap [] hP hD hS
  clear hP hD hS
  intro H locs hP hD hS
  unfold f_C_isTurned at h
  refine lv_iload_n hx hb dX1_isTurned_0 rfl (lv_at hl 1 rfl) ?_
  refine lv_if_lt (tgt := 26) hx hb dX1_isTurned_1 (by decide) (fun cz => ?_) (fun cz => ?_)
  · have h := g_t h cz
    refine lv_iconst (v := 0) hx hb dX1_isTurned_26 (by decide) ?_
    have h' := Option.some.inj h
    rw [← hQQ]
    exact W.zret (v := (0 : Int32)) hx hb hr rfl (fun t ht hW => ⟨⟨(0 : Int32), (), rfl, by rw [← h'], by rw [← hWQ, ht]; exact hP, va_K.moved hW.alike hK⟩, hS.F ht⟩) hS.2.2 dX1_isTurned_27
  · have h := g_f h cz
    refine lv_iload_n hx hb dX1_isTurned_4 rfl (lv_at hl 1 rfl) ?_
    refine lv_aload_n hx hb dX1_isTurned_5 rfl (lv_at hl 0 rfl) ?_
    refine va_get (D := (dC, dI)) (ci := 1) (v := .int (iC 9)) (C := RX1) (T := TX1) (N := 10) hx hb hts ki1 hown hK hP 0 rfl rfl 9 (by decide) kf40 (fun _ h9 => h9) rfl dX1_isTurned_6 ?_
    refine lv_icmp_ge (tgt := 26) hx hb dX1_isTurned_9 (by decide) (fun cz => ?_) (fun cz => ?_)
    · have h := g_t h cz
      refine lv_iconst (v := 0) hx hb dX1_isTurned_26 (by decide) ?_
      have h' := Option.some.inj h
      rw [← hQQ]
      exact W.zret (v := (0 : Int32)) hx hb hr rfl (fun t ht hW => ⟨⟨(0 : Int32), (), rfl, by rw [← h'], by rw [← hWQ, ht]; exact hP, va_K.moved hW.alike hK⟩, hS.F ht⟩) hS.2.2 dX1_isTurned_27
    · have h := g_f h cz
      refine lv_aload_n hx hb dX1_isTurned_12 rfl (lv_at hl 0 rfl) ?_
      refine va_get (D := (dC, dI)) (ci := 1) (v := .ref (ad 8)) (C := RX1) (T := TX1) (N := 10) hx hb hts ki1 hown hK hP 0 rfl rfl 8 (by decide) kf33 (fun _ h9 => h9) rfl dX1_isTurned_13 ?_
      refine lv_iload_n hx hb dX1_isTurned_16 rfl (lv_at hl 1 rfl) ?_
      obtain ⟨g_19, h⟩ := g_n h
      refine va_iald (f := (aC 8)) hx hb hK hP 8 0 rfl rfl g_19 dX1_isTurned_17 ?_
      refine lv_iconst (v := 1) hx hb dX1_isTurned_18 (by decide) ?_
      refine lv_icmp_ne (tgt := 26) hx hb dX1_isTurned_19 (by decide) (fun cz => ?_) (fun cz => ?_)
      · have h := g_f h cz
        refine lv_iconst (v := 0) hx hb dX1_isTurned_26 (by decide) ?_
        have h' := Option.some.inj h
        rw [← hQQ]
        exact W.zret (v := (0 : Int32)) hx hb hr rfl (fun t ht hW => ⟨⟨(0 : Int32), (), rfl, by rw [← h'], by rw [← hWQ, ht]; exact hP, va_K.moved hW.alike hK⟩, hS.F ht⟩) hS.2.2 dX1_isTurned_27
      · have h := g_t h cz
        refine lv_iconst (v := 1) hx hb dX1_isTurned_22 (by decide) ?_
        refine lv_goto (tgt := 27) hx hb dX1_isTurned_23 (by decide) ?_
        have h' := Option.some.inj h
        rw [← hQQ]
        exact W.zret (v := (1 : Int32)) hx hb hr rfl (fun t ht hW => ⟨⟨(1 : Int32), (), rfl, by rw [← h'], by rw [← hWQ, ht]; exact hP, va_K.moved hW.alike hK⟩, hS.F ht⟩) hS.2.2 dX1_isTurned_27
set_option maxHeartbeats 8000000 in
set_option maxRecDepth 100000 in
theorem c_C_rightOf (l : Launch) (dC : Nat → ClassId) (dI : Nat → Nat → Nat) (cy : Nat → ClassId) (ad : Nat → Nat) (sz : Nat) (a1 : Int32) (iC : Nat → Int32) (aC : Nat → Nat → Int32) (q : Int32) (h : f_C_rightOf a1 (iC 4) (aC 2) = some q) : Met l yX1_rightOf wsX1_rightOf ({ frames := 0, cells := 0, slots := 0, locals := 0 } : Room) (cP (dC, dI) cy [.ref (ad 0), .int a1] (zzC ad cy iC aC) sz) (cQi (dC, dI) cy q (zzC ad cy iC aC) (va_A (zzC ad cy iC aC) sz)) 0 0 (va_A (zzC ad cy iC aC) sz) := by
  refine Met.ofW (cc := cX1_rightOf) (maxL := 2) (ret := (some .int)) (by decide) rfl ?_
  intro p e s m args below meth c s₁ B hml hv
  obtain ⟨hav, hsz, hP, hK, hD0, hN⟩ := hv
  have hx := B.exec
  have hb := B.bytes
  have hr := B.returns
  have hts := atoms_spec (ws := wsX1_rightOf) B.pre
  have hown : s.vm.findClass RX1 = some m.cls := findClass_of_methodNamed B.named
  have hlocks := B.notSynchronized
  subst hsz
  have hD := hD0.self (sz := s.heap.size)
  generalize hAe : va_A (zzC ad cy iC aC) s.heap.size = A at hD ⊢
  have hA : ∀ q : Nat, s.heap.size ≤ q → A q := fun q h => by rw [← hAe]; exact Or.inr h
  have hS : va_S A s.heap s.heap [] := va_S.rf
  generalize hWQ : (zzC ad cy iC aC) = WQ
  generalize hQQ : MQ below (cQi (dC, dI) cy q WQ A) args s 0 0 A = QQ
  have hl := lv_entry ([.ref (ad 0), .int a1] : List Value) (n := 2) (Nat.le_of_ble_eq_true rfl)
  have hfr := lg_entry_eq m ([.ref (ad 0), .int a1] : List Value) 2
  rw [← hav] at hfr
  rw [hfr]
  clear hfr hav
  generalize (lg_sl ([.ref (ad 0), .int a1] : List Value) ++ List.replicate (2 - (lg_sl ([.ref (ad 0), .int a1] : List Value)).length) Slot.unset).toArray = ls at hl ⊢
  have hl : lv_has ls 2 [(0, .ref (ad 0)), (1, .int a1)] := hl
  have kf36 := hts _ (List.mem_cons_of_mem _ m_fl_X1_36)
  have ki1 := (fun w h => List.mem_cons_of_mem _ (i_X1 w h) : ∀ w ∈ u_ws RX1 TX1 10, w ∈ wsX1_rightOf)
  have kf18 := hts _ (List.mem_cons_of_mem _ m_fl_X1_18)
  refine (?_ : ∀ (H : Heap) (locs : List Loc), va_P (dC, dI) vwCl (zzC ad cy iC aC) H → va_D A (zzC ad cy iC aC) → va_S A s.heap H locs → W p l e ({ frames := 0, cells := 0, slots := 0, locals := 0 } : Room) s m args below meth c H locs 0 0 QQ (F0 m 0 ls [])) s.heap [] hP hD hS
  clear hP hD hS
  intro H locs hP hD hS
  unfold f_C_rightOf at h
  refine lv_iload_n hx hb dX1_rightOf_0 rfl (lv_at hl 1 rfl) ?_
  refine lv_if_lt (tgt := 21) hx hb dX1_rightOf_1 (by decide) (fun cz => ?_) (fun cz => ?_)
  · have h := g_t h cz
    refine lv_iconst (v := (-1)) hx hb dX1_rightOf_21 (by decide) ?_
    have h' := Option.some.inj h
    rw [← hQQ]
    exact W.iret (v := (-1 : Int32)) hx hb hr (fun t ht hW => ⟨⟨(-1 : Int32), (), rfl, by rw [← h'], by rw [← hWQ, ht]; exact hP, va_K.moved hW.alike hK⟩, hS.F ht⟩) hS.2.2 dX1_rightOf_22
  · have h := g_f h cz
    refine lv_iload_n hx hb dX1_rightOf_4 rfl (lv_at hl 1 rfl) ?_
    refine lv_aload_n hx hb dX1_rightOf_5 rfl (lv_at hl 0 rfl) ?_
    refine va_get (D := (dC, dI)) (ci := 1) (v := .int (iC 4)) (C := RX1) (T := TX1) (N := 10) hx hb hts ki1 hown hK hP 0 rfl rfl 4 (by decide) kf36 (fun _ h9 => h9) rfl dX1_rightOf_6 ?_
    refine lv_icmp_ge (tgt := 21) hx hb dX1_rightOf_9 (by decide) (fun cz => ?_) (fun cz => ?_)
    · have h := g_t h cz
      refine lv_iconst (v := (-1)) hx hb dX1_rightOf_21 (by decide) ?_
      have h' := Option.some.inj h
      rw [← hQQ]
      exact W.iret (v := (-1 : Int32)) hx hb hr (fun t ht hW => ⟨⟨(-1 : Int32), (), rfl, by rw [← h'], by rw [← hWQ, ht]; exact hP, va_K.moved hW.alike hK⟩, hS.F ht⟩) hS.2.2 dX1_rightOf_22
    · have h := g_f h cz
      refine lv_aload_n hx hb dX1_rightOf_12 rfl (lv_at hl 0 rfl) ?_
      refine va_get (D := (dC, dI)) (ci := 1) (v := .ref (ad 3)) (C := RX1) (T := TX1) (N := 10) hx hb hts ki1 hown hK hP 0 rfl rfl 2 (by decide) kf18 (fun _ h9 => h9) rfl dX1_rightOf_13 ?_
      refine lv_iload_n hx hb dX1_rightOf_16 rfl (lv_at hl 1 rfl) ?_
      obtain ⟨g_9, h⟩ := g_n h
      refine va_iald (f := (aC 2)) hx hb hK hP 3 0 rfl rfl g_9 dX1_rightOf_17 ?_
      refine lv_goto (tgt := 22) hx hb dX1_rightOf_18 (by decide) ?_
      have h' := Option.some.inj h
      rw [← hQQ]
      exact W.iret (v := ((aC 2) a1.toNatClampNeg)) hx hb hr (fun t ht hW => ⟨⟨((aC 2) a1.toNatClampNeg), (), rfl, by rw [← h'], by rw [← hWQ, ht]; exact hP, va_K.moved hW.alike hK⟩, hS.F ht⟩) hS.2.2 dX1_rightOf_22
set_option maxHeartbeats 8000000 in
set_option maxRecDepth 100000 in
theorem c_C_atomOf (l : Launch) (dC : Nat → ClassId) (dI : Nat → Nat → Nat) (cy : Nat → ClassId) (ad : Nat → Nat) (sz : Nat) (a1 : Int32) (iC : Nat → Int32) (aC : Nat → Nat → Int32) (q : Int32) (h : f_C_atomOf a1 (iC 4) (aC 3) = some q) : Met l yX1_atomOf wsX1_atomOf ({ frames := 0, cells := 0, slots := 0, locals := 0 } : Room) (cP (dC, dI) cy [.ref (ad 0), .int a1] (zzC ad cy iC aC) sz) (cQi (dC, dI) cy q (zzC ad cy iC aC) (va_A (zzC ad cy iC aC) sz)) 0 0 (va_A (zzC ad cy iC aC) sz) := by
  refine Met.ofW (cc := cX1_atomOf) (maxL := 2) (ret := (some .int)) (by decide) rfl ?_
  intro p e s m args below meth c s₁ B hml hv
  obtain ⟨hav, hsz, hP, hK, hD0, hN⟩ := hv
  have hx := B.exec
  have hb := B.bytes
  have hr := B.returns
  have hts := atoms_spec (ws := wsX1_atomOf) B.pre
  have hown : s.vm.findClass RX1 = some m.cls := findClass_of_methodNamed B.named
  have hlocks := B.notSynchronized
  subst hsz
  have hD := hD0.self (sz := s.heap.size)
  generalize hAe : va_A (zzC ad cy iC aC) s.heap.size = A at hD ⊢
  have hA : ∀ q : Nat, s.heap.size ≤ q → A q := fun q h => by rw [← hAe]; exact Or.inr h
  have hS : va_S A s.heap s.heap [] := va_S.rf
  generalize hWQ : (zzC ad cy iC aC) = WQ
  generalize hQQ : MQ below (cQi (dC, dI) cy q WQ A) args s 0 0 A = QQ
  have hl := lv_entry ([.ref (ad 0), .int a1] : List Value) (n := 2) (Nat.le_of_ble_eq_true rfl)
  have hfr := lg_entry_eq m ([.ref (ad 0), .int a1] : List Value) 2
  rw [← hav] at hfr
  rw [hfr]
  clear hfr hav
  generalize (lg_sl ([.ref (ad 0), .int a1] : List Value) ++ List.replicate (2 - (lg_sl ([.ref (ad 0), .int a1] : List Value)).length) Slot.unset).toArray = ls at hl ⊢
  have hl : lv_has ls 2 [(0, .ref (ad 0)), (1, .int a1)] := hl
  have kf36 := hts _ (List.mem_cons_of_mem _ m_fl_X1_36)
  have ki1 := (fun w h => List.mem_cons_of_mem _ (i_X1 w h) : ∀ w ∈ u_ws RX1 TX1 10, w ∈ wsX1_atomOf)
  have kf21 := hts _ (List.mem_cons_of_mem _ m_fl_X1_21)
  refine (?_ : ∀ (H : Heap) (locs : List Loc), va_P (dC, dI) vwCl (zzC ad cy iC aC) H → va_D A (zzC ad cy iC aC) → va_S A s.heap H locs → W p l e ({ frames := 0, cells := 0, slots := 0, locals := 0 } : Room) s m args below meth c H locs 0 0 QQ (F0 m 0 ls [])) s.heap [] hP hD hS
  clear hP hD hS
  intro H locs hP hD hS
  unfold f_C_atomOf at h
  refine lv_iload_n hx hb dX1_atomOf_0 rfl (lv_at hl 1 rfl) ?_
  refine lv_if_lt (tgt := 21) hx hb dX1_atomOf_1 (by decide) (fun cz => ?_) (fun cz => ?_)
  · have h := g_t h cz
    refine lv_iconst (v := (-1)) hx hb dX1_atomOf_21 (by decide) ?_
    have h' := Option.some.inj h
    rw [← hQQ]
    exact W.iret (v := (-1 : Int32)) hx hb hr (fun t ht hW => ⟨⟨(-1 : Int32), (), rfl, by rw [← h'], by rw [← hWQ, ht]; exact hP, va_K.moved hW.alike hK⟩, hS.F ht⟩) hS.2.2 dX1_atomOf_22
  · have h := g_f h cz
    refine lv_iload_n hx hb dX1_atomOf_4 rfl (lv_at hl 1 rfl) ?_
    refine lv_aload_n hx hb dX1_atomOf_5 rfl (lv_at hl 0 rfl) ?_
    refine va_get (D := (dC, dI)) (ci := 1) (v := .int (iC 4)) (C := RX1) (T := TX1) (N := 10) hx hb hts ki1 hown hK hP 0 rfl rfl 4 (by decide) kf36 (fun _ h9 => h9) rfl dX1_atomOf_6 ?_
    refine lv_icmp_ge (tgt := 21) hx hb dX1_atomOf_9 (by decide) (fun cz => ?_) (fun cz => ?_)
    · have h := g_t h cz
      refine lv_iconst (v := (-1)) hx hb dX1_atomOf_21 (by decide) ?_
      have h' := Option.some.inj h
      rw [← hQQ]
      exact W.iret (v := (-1 : Int32)) hx hb hr (fun t ht hW => ⟨⟨(-1 : Int32), (), rfl, by rw [← h'], by rw [← hWQ, ht]; exact hP, va_K.moved hW.alike hK⟩, hS.F ht⟩) hS.2.2 dX1_atomOf_22
    · have h := g_f h cz
      refine lv_aload_n hx hb dX1_atomOf_12 rfl (lv_at hl 0 rfl) ?_
      refine va_get (D := (dC, dI)) (ci := 1) (v := .ref (ad 4)) (C := RX1) (T := TX1) (N := 10) hx hb hts ki1 hown hK hP 0 rfl rfl 3 (by decide) kf21 (fun _ h9 => h9) rfl dX1_atomOf_13 ?_
      refine lv_iload_n hx hb dX1_atomOf_16 rfl (lv_at hl 1 rfl) ?_
      obtain ⟨g_9, h⟩ := g_n h
      refine va_iald (f := (aC 3)) hx hb hK hP 4 0 rfl rfl g_9 dX1_atomOf_17 ?_
      refine lv_goto (tgt := 22) hx hb dX1_atomOf_18 (by decide) ?_
      have h' := Option.some.inj h
      rw [← hQQ]
      exact W.iret (v := ((aC 3) a1.toNatClampNeg)) hx hb hr (fun t ht hW => ⟨⟨((aC 3) a1.toNatClampNeg), (), rfl, by rw [← h'], by rw [← hWQ, ht]; exact hP, va_K.moved hW.alike hK⟩, hS.F ht⟩) hS.2.2 dX1_atomOf_22
set_option maxHeartbeats 8000000 in
set_option maxRecDepth 100000 in
theorem c_K_bitPattern (l : Launch) (dC : Nat → ClassId) (dI : Nat → Nat → Nat) (cy : Nat → ClassId) (ad : Nat → Nat) (sz : Nat) (a0 : Int32) (a1 : Int32) (q : Int64) (h : f_K_bitPattern a0 a1 = some q) : Met l yX2_bitPattern wsX2_bitPattern ({ frames := 0, cells := 0, slots := 0, locals := 0 } : Room) (cP (dC, dI) cy [.int a0, .int a1] (zzE ad cy) sz) (cQl (dC, dI) cy q (zzE ad cy) (va_A (zzE ad cy) sz)) 0 0 (va_A (zzE ad cy) sz) := by
  refine Met.ofW (cc := cX2_bitPattern) (maxL := 2) (ret := (some .long)) (by decide) rfl ?_
  intro p e s m args below meth c s₁ B hml hv
  obtain ⟨hav, hsz, hP, hK, hD0, hN⟩ := hv
  have hx := B.exec
  have hb := B.bytes
  have hr := B.returns
  have hts := atoms_spec (ws := wsX2_bitPattern) B.pre
  have hown : s.vm.findClass RX2 = some m.cls := findClass_of_methodNamed B.named
  have hlocks := B.notSynchronized
  subst hsz
  have hD := hD0.self (sz := s.heap.size)
  generalize hAe : va_A (zzE ad cy) s.heap.size = A at hD ⊢
  have hA : ∀ q : Nat, s.heap.size ≤ q → A q := fun q h => by rw [← hAe]; exact Or.inr h
  have hS : va_S A s.heap s.heap [] := va_S.rf
  generalize hWQ : (zzE ad cy) = WQ
  generalize hQQ : MQ below (cQl (dC, dI) cy q WQ A) args s 0 0 A = QQ
  have hl := lv_entry ([.int a0, .int a1] : List Value) (n := 2) (Nat.le_of_ble_eq_true rfl)
  have hfr := lg_entry_eq m ([.int a0, .int a1] : List Value) 2
  rw [← hav] at hfr
  rw [hfr]
  clear hfr hav
  generalize (lg_sl ([.int a0, .int a1] : List Value) ++ List.replicate (2 - (lg_sl ([.int a0, .int a1] : List Value)).length) Slot.unset).toArray = ls at hl ⊢
  have hl : lv_has ls 2 [(0, .int a0), (1, .int a1)] := hl
  have kc132 := hts _ (List.mem_cons_of_mem _ m_kl_X2_132)
  have kc134 := hts _ (List.mem_cons_of_mem _ m_kl_X2_134)
  have kc136 := hts _ (List.mem_cons_of_mem _ m_kl_X2_136)
  have kc138 := hts _ (List.mem_cons_of_mem _ m_kl_X2_138)
  have kc140 := hts _ (List.mem_cons_of_mem _ m_kl_X2_140)
  have kc142 := hts _ (List.mem_cons_of_mem _ m_kl_X2_142)
  have kc88 := hts _ (List.mem_cons_of_mem _ m_kl_X2_88)
  refine (?_ : ∀ (H : Heap) (locs : List Loc), va_P (dC, dI) vwCl (zzE ad cy) H → va_D A (zzE ad cy) → va_S A s.heap H locs → W p l e ({ frames := 0, cells := 0, slots := 0, locals := 0 } : Room) s m args below meth c H locs 0 0 QQ (F0 m 0 ls [])) s.heap [] hP hD hS
  clear hP hD hS
  intro H locs hP hD hS
  unfold f_K_bitPattern at h
  refine lv_iload_n hx hb dX2_bitPattern_0 rfl (lv_at hl 0 rfl) ?_
  rcases Decidable.em (a0 = (0 : Int32)) with c0 | c0
  · have h := g_t h c0
    refine lv_tableIn (off := 39) (tgt := 40) hx hb dX2_bitPattern_1 (by rw [c0]; decide) (by rw [c0]; decide) (by rw [c0]; rfl) (by decide) ?_
    refine lv_ldc2 (v := (-6148914691236517206)) hx hb hown kc132 dX2_bitPattern_40 ?_
    have h' := Option.some.inj h
    rw [← hQQ]
    exact W.lret (v := (-6148914691236517206 : Int64)) hx hb hr (fun t ht hW => ⟨⟨(-6148914691236517206 : Int64), (), rfl, by rw [← h'], by rw [← hWQ, ht]; exact hP, va_K.moved hW.alike hK⟩, hS.F ht⟩) hS.2.2 dX2_bitPattern_43
  · have h := g_f h c0
    rcases Decidable.em (a0 = (1 : Int32)) with c1 | c1
    · have h := g_t h c1
      refine lv_tableIn (off := 43) (tgt := 44) hx hb dX2_bitPattern_1 (by rw [c1]; decide) (by rw [c1]; decide) (by rw [c1]; rfl) (by decide) ?_
      refine lv_ldc2 (v := (-3689348814741910324)) hx hb hown kc134 dX2_bitPattern_44 ?_
      have h' := Option.some.inj h
      rw [← hQQ]
      exact W.lret (v := (-3689348814741910324 : Int64)) hx hb hr (fun t ht hW => ⟨⟨(-3689348814741910324 : Int64), (), rfl, by rw [← h'], by rw [← hWQ, ht]; exact hP, va_K.moved hW.alike hK⟩, hS.F ht⟩) hS.2.2 dX2_bitPattern_47
    · have h := g_f h c1
      rcases Decidable.em (a0 = (2 : Int32)) with c2 | c2
      · have h := g_t h c2
        refine lv_tableIn (off := 47) (tgt := 48) hx hb dX2_bitPattern_1 (by rw [c2]; decide) (by rw [c2]; decide) (by rw [c2]; rfl) (by decide) ?_
        refine lv_ldc2 (v := (-1085102592571150096)) hx hb hown kc136 dX2_bitPattern_48 ?_
        have h' := Option.some.inj h
        rw [← hQQ]
        exact W.lret (v := (-1085102592571150096 : Int64)) hx hb hr (fun t ht hW => ⟨⟨(-1085102592571150096 : Int64), (), rfl, by rw [← h'], by rw [← hWQ, ht]; exact hP, va_K.moved hW.alike hK⟩, hS.F ht⟩) hS.2.2 dX2_bitPattern_51
      · have h := g_f h c2
        rcases Decidable.em (a0 = (3 : Int32)) with c3 | c3
        · have h := g_t h c3
          refine lv_tableIn (off := 51) (tgt := 52) hx hb dX2_bitPattern_1 (by rw [c3]; decide) (by rw [c3]; decide) (by rw [c3]; rfl) (by decide) ?_
          refine lv_ldc2 (v := (-71777214294589696)) hx hb hown kc138 dX2_bitPattern_52 ?_
          have h' := Option.some.inj h
          rw [← hQQ]
          exact W.lret (v := (-71777214294589696 : Int64)) hx hb hr (fun t ht hW => ⟨⟨(-71777214294589696 : Int64), (), rfl, by rw [← h'], by rw [← hWQ, ht]; exact hP, va_K.moved hW.alike hK⟩, hS.F ht⟩) hS.2.2 dX2_bitPattern_55
        · have h := g_f h c3
          rcases Decidable.em (a0 = (4 : Int32)) with c4 | c4
          · have h := g_t h c4
            refine lv_tableIn (off := 55) (tgt := 56) hx hb dX2_bitPattern_1 (by rw [c4]; decide) (by rw [c4]; decide) (by rw [c4]; rfl) (by decide) ?_
            refine lv_ldc2 (v := (-281470681808896)) hx hb hown kc140 dX2_bitPattern_56 ?_
            have h' := Option.some.inj h
            rw [← hQQ]
            exact W.lret (v := (-281470681808896 : Int64)) hx hb hr (fun t ht hW => ⟨⟨(-281470681808896 : Int64), (), rfl, by rw [← h'], by rw [← hWQ, ht]; exact hP, va_K.moved hW.alike hK⟩, hS.F ht⟩) hS.2.2 dX2_bitPattern_59
          · have h := g_f h c4
            rcases Decidable.em (a0 = (5 : Int32)) with c5 | c5
            · have h := g_t h c5
              refine lv_tableIn (off := 59) (tgt := 60) hx hb dX2_bitPattern_1 (by rw [c5]; decide) (by rw [c5]; decide) (by rw [c5]; rfl) (by decide) ?_
              refine lv_ldc2 (v := (-4294967296)) hx hb hown kc142 dX2_bitPattern_60 ?_
              have h' := Option.some.inj h
              rw [← hQQ]
              exact W.lret (v := (-4294967296 : Int64)) hx hb hr (fun t ht hW => ⟨⟨(-4294967296 : Int64), (), rfl, by rw [← h'], by rw [← hWQ, ht]; exact hP, va_K.moved hW.alike hK⟩, hS.F ht⟩) hS.2.2 dX2_bitPattern_63
            · have h := g_f h c5
              refine lv_tableOut (tgt := 64) hx hb dX2_bitPattern_1 (by have z0 := tne (n := 0) (by decide) c0; have z1 := tne (n := 1) (by decide) c1; have z2 := tne (n := 2) (by decide) c2; have z3 := tne (n := 3) (by decide) c3; have z4 := tne (n := 4) (by decide) c4; have z5 := tne (n := 5) (by decide) c5; omega) (by decide) ?_
              refine lv_iload_n hx hb dX2_bitPattern_64 rfl (lv_at hl 0 rfl) ?_
              refine lv_iconst (v := 5) hx hb dX2_bitPattern_65 (by decide) ?_
              refine lv_icmp_le (tgt := 87) hx hb dX2_bitPattern_66 (by decide) (fun cz => ?_) (fun cz => ?_)
              · have h := g_t h cz
                refine lv_lconst (v := 0) hx hb dX2_bitPattern_87 (by decide) ?_
                have h' := Option.some.inj h
                rw [← hQQ]
                exact W.lret (v := (0 : Int64)) hx hb hr (fun t ht hW => ⟨⟨(0 : Int64), (), rfl, by rw [← h'], by rw [← hWQ, ht]; exact hP, va_K.moved hW.alike hK⟩, hS.F ht⟩) hS.2.2 dX2_bitPattern_88
              · have h := g_f h cz
                refine lv_iload_n hx hb dX2_bitPattern_69 rfl (lv_at hl 1 rfl) ?_
                refine lv_iload_n hx hb dX2_bitPattern_70 rfl (lv_at hl 0 rfl) ?_
                refine lv_bipush (v := 6) hx hb dX2_bitPattern_71 (by decide) ?_
                refine lv_isub hx hb dX2_bitPattern_73 ?_
                refine lv_ishr hx hb dX2_bitPattern_74 ?_
                refine lv_iconst (v := 1) hx hb dX2_bitPattern_75 (by decide) ?_
                refine lv_iand hx hb dX2_bitPattern_76 ?_
                refine lv_iconst (v := 1) hx hb dX2_bitPattern_77 (by decide) ?_
                refine lv_icmp_ne (tgt := 87) hx hb dX2_bitPattern_78 (by decide) (fun cz => ?_) (fun cz => ?_)
                · have h := g_f h cz
                  refine lv_lconst (v := 0) hx hb dX2_bitPattern_87 (by decide) ?_
                  have h' := Option.some.inj h
                  rw [← hQQ]
                  exact W.lret (v := (0 : Int64)) hx hb hr (fun t ht hW => ⟨⟨(0 : Int64), (), rfl, by rw [← h'], by rw [← hWQ, ht]; exact hP, va_K.moved hW.alike hK⟩, hS.F ht⟩) hS.2.2 dX2_bitPattern_88
                · have h := g_t h cz
                  refine lv_ldc2 (v := (-1)) hx hb hown kc88 dX2_bitPattern_81 ?_
                  refine lv_goto (tgt := 88) hx hb dX2_bitPattern_84 (by decide) ?_
                  have h' := Option.some.inj h
                  rw [← hQQ]
                  exact W.lret (v := (-1 : Int64)) hx hb hr (fun t ht hW => ⟨⟨(-1 : Int64), (), rfl, by rw [← h'], by rw [← hWQ, ht]; exact hP, va_K.moved hW.alike hK⟩, hS.F ht⟩) hS.2.2 dX2_bitPattern_88
set_option maxHeartbeats 8000000 in
set_option maxRecDepth 100000 in
theorem c_K_truthWord (l : Launch) (dC : Nat → ClassId) (dI : Nat → Nat → Nat) (cy : Nat → ClassId) (ad : Nat → Nat) (sz : Nat) (a1 : Int32) (a2 : Int32) (iK : Nat → Int32) (lK : Nat → Nat → Int64) (aK : Nat → Nat → Int32) (iB : Nat → Int32) (lB : Nat → Nat → Int64) (aB : Nat → Nat → Int32) (iC : Nat → Int32) (aC : Nat → Nat → Int32) (q : Int64) (h : f_K_truthWord a1 a2 (iC 4) (aC 0) (aC 1) (aC 2) (aC 3) (lK 3) = some q) : Met l yX2_truthWord wsX2_truthWord ({ frames := 1, cells := 0, slots := 0, locals := 22 } : Room) (cP (dC, dI) cy [.ref (ad 0), .int a1, .int a2] (zzK ad cy (ad 11) (ad 18) iK lK aK iB lB aB iC aC) sz) (cQl (dC, dI) cy q (zzK ad cy (ad 11) (ad 18) iK lK aK iB lB aB iC aC) (va_A (zzK ad cy (ad 11) (ad 18) iK lK aK iB lB aB iC aC) sz)) 0 0 (va_A (zzK ad cy (ad 11) (ad 18) iK lK aK iB lB aB iC aC) sz) := by
  refine Met.ofW (cc := cX2_truthWord) (maxL := 5) (ret := (some .long)) (by decide) rfl ?_
  intro p e s m args below meth c s₁ B hml hv
  obtain ⟨hav, hsz, hP, hK, hD0, hN⟩ := hv
  have hx := B.exec
  have hb := B.bytes
  have hr := B.returns
  have hts := atoms_spec (ws := wsX2_truthWord) B.pre
  have hown : s.vm.findClass RX2 = some m.cls := findClass_of_methodNamed B.named
  have hlocks := B.notSynchronized
  subst hsz
  have hD := hD0.self (sz := s.heap.size)
  generalize hAe : va_A (zzK ad cy (ad 11) (ad 18) iK lK aK iB lB aB iC aC) s.heap.size = A at hD ⊢
  have hA : ∀ q : Nat, s.heap.size ≤ q → A q := fun q h => by rw [← hAe]; exact Or.inr h
  have hS : va_S A s.heap s.heap [] := va_S.rf
  generalize hWQ : (zzK ad cy (ad 11) (ad 18) iK lK aK iB lB aB iC aC) = WQ
  generalize hQQ : MQ below (cQl (dC, dI) cy q WQ A) args s 0 0 A = QQ
  have hl := lv_entry ([.ref (ad 0), .int a1, .int a2] : List Value) (n := 5) (Nat.le_of_ble_eq_true rfl)
  have hfr := lg_entry_eq m ([.ref (ad 0), .int a1, .int a2] : List Value) 5
  rw [← hav] at hfr
  rw [hfr]
  clear hfr hav
  generalize (lg_sl ([.ref (ad 0), .int a1, .int a2] : List Value) ++ List.replicate (5 - (lg_sl ([.ref (ad 0), .int a1, .int a2] : List Value)).length) Slot.unset).toArray = ls at hl ⊢
  have hl : lv_has ls 5 [(0, .ref (ad 0)), (1, .int a1), (2, .int a2)] := hl
  have kf54 := hts _ (List.mem_cons_of_mem _ m_fl_X2_54)
  have ki2 := (fun w h => List.mem_cons_of_mem _ (i_X2 w h) : ∀ w ∈ u_ws RX2 TX2 15, w ∈ wsX2_truthWord)
  have kc88 := hts _ (List.mem_cons_of_mem _ m_kl_X2_88)
  refine (?_ : ∀ (H : Heap) (locs : List Loc), va_P (dC, dI) vwCl (zzK ad cy (ad 11) (ad 18) iK lK aK iB lB aB iC aC) H → va_D A (zzK ad cy (ad 11) (ad 18) iK lK aK iB lB aB iC aC) → va_S A s.heap H locs → W p l e ({ frames := 1, cells := 0, slots := 0, locals := 22 } : Room) s m args below meth c H locs 0 0 QQ (F0 m 0 ls [])) s.heap [] hP hD hS
  clear hP hD hS
  intro H locs hP hD hS
  unfold f_K_truthWord at h
  refine lv_aload_n hx hb dX2_truthWord_0 rfl (lv_at hl 0 rfl) ?_
  refine va_get (D := (dC, dI)) (ci := 2) (v := .ref (ad 18)) (C := RX2) (T := TX2) (N := 15) hx hb hts ki2 hown hK hP 0 rfl rfl 1 (by decide) kf54 (fun _ h9 => h9) rfl dX2_truthWord_1 ?_
  refine lv_iload_n hx hb dX2_truthWord_4 rfl (lv_at hl 1 rfl) ?_
  obtain ⟨q5, e5, h⟩ := g_b h
  refine callVi (cc := cX2_truthWord) (ws' := zzK ad cy (ad 11) (ad 18) iK lK aK iB lB aB iC aC) (As := [.int a1]) (rest := []) ⟨hx, hb, hml, hown, hts⟩ (c_C_leftOf l dC dI cy (fun i => ad (i + 18)) H.size a1 iC aC q5 e5) (cwV 1 hts (goodV m_ml_X2_117 m_im_X1_leftOf m_se_X1_leftOf m_in_X1 m_cd_X1_leftOf) rfl rfl rfl (by decide +kernel) ⟨Nat.le_of_ble_eq_true rfl, Nat.le_of_ble_eq_true rfl⟩) hN hK hP hD hS hA [18, 19, 20, 21, 22, 23, 24, 25, 26] [none, none, none, none, none, none, none, none, none, none, none, none, none, none, none, none, none, none, some 0, some 1, some 2, some 3, some 4, some 5, some 6, some 7, some 8] rfl rfl rfl rfl rfl rfl 18 rfl rfl rfl hl.1 rfl (Nat.le_of_ble_eq_true rfl) dX2_truthWord_5 ⟨Nat.zero_le _, Nat.zero_le _⟩ (fun H locs hP hD hS => ?_)
  refine lv_istore_n (lv' := [(3, .int q5), (0, .ref (ad 0)), (1, .int a1), (2, .int a2)]) hx hb dX2_truthWord_8 rfl hl (by decide) rfl (fun ls hl => ?_)
  refine lv_aload_n hx hb dX2_truthWord_9 rfl (lv_at hl 1 rfl) ?_
  refine va_get (D := (dC, dI)) (ci := 2) (v := .ref (ad 18)) (C := RX2) (T := TX2) (N := 15) hx hb hts ki2 hown hK hP 0 rfl rfl 1 (by decide) kf54 (fun _ h9 => h9) rfl dX2_truthWord_10 ?_
  refine lv_iload_n hx hb dX2_truthWord_13 rfl (lv_at hl 2 rfl) ?_
  obtain ⟨q14, e14, h⟩ := g_b h
  refine callVi (cc := cX2_truthWord) (ws' := zzK ad cy (ad 11) (ad 18) iK lK aK iB lB aB iC aC) (As := [.int a1]) (rest := []) ⟨hx, hb, hml, hown, hts⟩ (c_C_rightOf l dC dI cy (fun i => ad (i + 18)) H.size a1 iC aC q14 e14) (cwV 1 hts (goodV m_ml_X2_120 m_im_X1_rightOf m_se_X1_rightOf m_in_X1 m_cd_X1_rightOf) rfl rfl rfl (by decide +kernel) ⟨Nat.le_of_ble_eq_true rfl, Nat.le_of_ble_eq_true rfl⟩) hN hK hP hD hS hA [18, 19, 20, 21, 22, 23, 24, 25, 26] [none, none, none, none, none, none, none, none, none, none, none, none, none, none, none, none, none, none, some 0, some 1, some 2, some 3, some 4, some 5, some 6, some 7, some 8] rfl rfl rfl rfl rfl rfl 18 rfl rfl rfl hl.1 rfl (Nat.le_of_ble_eq_true rfl) dX2_truthWord_14 ⟨Nat.zero_le _, Nat.zero_le _⟩ (fun H locs hP hD hS => ?_)
  refine lv_istore (lv' := [(4, .int q14), (3, .int q5), (0, .ref (ad 0)), (1, .int a1), (2, .int a2)]) hx hb dX2_truthWord_17 hl (by decide) rfl (fun ls hl => ?_)
  refine lv_aload_n hx hb dX2_truthWord_19 rfl (lv_at hl 2 rfl) ?_
  refine va_get (D := (dC, dI)) (ci := 2) (v := .ref (ad 18)) (C := RX2) (T := TX2) (N := 15) hx hb hts ki2 hown hK hP 0 rfl rfl 1 (by decide) kf54 (fun _ h9 => h9) rfl dX2_truthWord_20 ?_
  refine lv_iload_n hx hb dX2_truthWord_23 rfl (lv_at hl 3 rfl) ?_
  obtain ⟨q24, e24, h⟩ := g_b h
  refine callVi (cc := cX2_truthWord) (ws' := zzK ad cy (ad 11) (ad 18) iK lK aK iB lB aB iC aC) (As := [.int a1]) (rest := []) ⟨hx, hb, hml, hown, hts⟩ (c_C_sortOf l dC dI cy (fun i => ad (i + 18)) H.size a1 iC aC q24 e24) (cwV 1 hts (goodV m_ml_X2_123 m_im_X1_sortOf m_se_X1_sortOf m_in_X1 m_cd_X1_sortOf) rfl rfl rfl (by decide +kernel) ⟨Nat.le_of_ble_eq_true rfl, Nat.le_of_ble_eq_true rfl⟩) hN hK hP hD hS hA [18, 19, 20, 21, 22, 23, 24, 25, 26] [none, none, none, none, none, none, none, none, none, none, none, none, none, none, none, none, none, none, some 0, some 1, some 2, some 3, some 4, some 5, some 6, some 7, some 8] rfl rfl rfl rfl rfl rfl 18 rfl rfl rfl hl.1 rfl (Nat.le_of_ble_eq_true rfl) dX2_truthWord_24 ⟨Nat.zero_le _, Nat.zero_le _⟩ (fun H locs hP hD hS => ?_)
  rcases Decidable.em (q24 = (1 : Int32)) with c0 | c0
  · have h := g_t h c0
    refine lv_tableIn (off := 41) (tgt := 68) hx hb dX2_truthWord_27 (by rw [c0]; decide) (by rw [c0]; decide) (by rw [c0]; rfl) (by decide) ?_
    refine lv_ldc2 (v := (-1)) hx hb hown kc88 dX2_truthWord_68 ?_
    have h' := Option.some.inj h
    rw [← hQQ]
    exact W.lret (v := (-1 : Int64)) hx hb hr (fun t ht hW => ⟨⟨(-1 : Int64), (), rfl, by rw [← h'], by rw [← hWQ, ht]; exact hP, va_K.moved hW.alike hK⟩, hS.F ht⟩) hS.2.2 dX2_truthWord_71
  · have h := g_f h c0
    rcases Decidable.em (q24 = (2 : Int32)) with c1 | c1
    · have h := g_t h c1
      refine lv_tableIn (off := 45) (tgt := 72) hx hb dX2_truthWord_27 (by rw [c1]; decide) (by rw [c1]; decide) (by rw [c1]; rfl) (by decide) ?_
      refine lv_lconst (v := 0) hx hb dX2_truthWord_72 (by decide) ?_
      have h' := Option.some.inj h
      rw [← hQQ]
      exact W.lret (v := (0 : Int64)) hx hb hr (fun t ht hW => ⟨⟨(0 : Int64), (), rfl, by rw [← h'], by rw [← hWQ, ht]; exact hP, va_K.moved hW.alike hK⟩, hS.F ht⟩) hS.2.2 dX2_truthWord_73
    · have h := g_f h c1
      rcases Decidable.em (q24 = (3 : Int32)) with c2 | c2
      · have h := g_t h c2
        refine lv_tableIn (off := 47) (tgt := 74) hx hb dX2_truthWord_27 (by rw [c2]; decide) (by rw [c2]; decide) (by rw [c2]; rfl) (by decide) ?_
        refine lv_aload_n hx hb dX2_truthWord_74 rfl (lv_at hl 2 rfl) ?_
        refine lv_iload_n hx hb dX2_truthWord_75 rfl (lv_at hl 1 rfl) ?_
        refine lv_iload_n hx hb dX2_truthWord_76 rfl (lv_at hl 4 rfl) ?_
        obtain ⟨q77, e77, h⟩ := g_b h
        refine callVls (cc := cX2_truthWord) (w1 := zzK ad cy (ad 11) (ad 18) iK lK aK iB lB aB iC aC) (As := [.int q5, .int a2]) (rest := []) ⟨hx, hb, hml, hown, hts⟩ (c_K_truthOf l dC dI cy ad H.size q5 a2 iK lK aK iB lB aB iC aC q77 e77) (cwV 2 hts (goodV m_ml_X2_81 m_im_X2_truthOf m_se_X2_truthOf m_in_X2 m_cd_X2_truthOf) rfl rfl rfl (by decide +kernel) ⟨Nat.le_of_ble_eq_true rfl, Nat.le_of_ble_eq_true rfl⟩) hN hK hP hD hS hA rfl 0 rfl rfl rfl hl.1 rfl (Nat.le_of_ble_eq_true rfl) dX2_truthWord_77 ⟨Nat.zero_le _, Nat.zero_le _⟩ (fun H locs hP hD hS => ?_)
        refine lv_ldc2 (v := (-1)) hx hb hown kc88 dX2_truthWord_80 ?_
        refine lv_lxor hx hb dX2_truthWord_83 ?_
        have h' := Option.some.inj h
        rw [← hQQ]
        exact W.lret (v := (q77 ^^^ (-1 : Int64))) hx hb hr (fun t ht hW => ⟨⟨(q77 ^^^ (-1 : Int64)), (), rfl, by rw [← h'], by rw [← hWQ, ht]; exact hP, va_K.moved hW.alike hK⟩, hS.F ht⟩) hS.2.2 dX2_truthWord_84
      · have h := g_f h c2
        rcases Decidable.em (q24 = (4 : Int32)) with c3 | c3
        · have h := g_t h c3
          refine lv_tableIn (off := 105) (tgt := 132) hx hb dX2_truthWord_27 (by rw [c3]; decide) (by rw [c3]; decide) (by rw [c3]; rfl) (by decide) ?_
          refine lv_aload_n hx hb dX2_truthWord_132 rfl (lv_at hl 2 rfl) ?_
          refine va_get (D := (dC, dI)) (ci := 2) (v := .ref (ad 18)) (C := RX2) (T := TX2) (N := 15) hx hb hts ki2 hown hK hP 0 rfl rfl 1 (by decide) kf54 (fun _ h9 => h9) rfl dX2_truthWord_133 ?_
          refine lv_iload_n hx hb dX2_truthWord_136 rfl (lv_at hl 3 rfl) ?_
          obtain ⟨q137, e137, h⟩ := g_b h
          refine callVi (cc := cX2_truthWord) (ws' := zzK ad cy (ad 11) (ad 18) iK lK aK iB lB aB iC aC) (As := [.int a1]) (rest := []) ⟨hx, hb, hml, hown, hts⟩ (c_C_atomOf l dC dI cy (fun i => ad (i + 18)) H.size a1 iC aC q137 e137) (cwV 1 hts (goodV m_ml_X2_126 m_im_X1_atomOf m_se_X1_atomOf m_in_X1 m_cd_X1_atomOf) rfl rfl rfl (by decide +kernel) ⟨Nat.le_of_ble_eq_true rfl, Nat.le_of_ble_eq_true rfl⟩) hN hK hP hD hS hA [18, 19, 20, 21, 22, 23, 24, 25, 26] [none, none, none, none, none, none, none, none, none, none, none, none, none, none, none, none, none, none, some 0, some 1, some 2, some 3, some 4, some 5, some 6, some 7, some 8] rfl rfl rfl rfl rfl rfl 18 rfl rfl rfl hl.1 rfl (Nat.le_of_ble_eq_true rfl) dX2_truthWord_137 ⟨Nat.zero_le _, Nat.zero_le _⟩ (fun H locs hP hD hS => ?_)
          refine lv_iload_n hx hb dX2_truthWord_140 rfl (lv_at hl 4 rfl) ?_
          obtain ⟨q141, e141, h⟩ := g_b h
          refine callSl (cc := cX2_truthWord) (ws' := zzK ad cy (ad 11) (ad 18) iK lK aK iB lB aB iC aC) (As := [.int q137, .int a2]) (rest := []) ⟨hx, hb, hml, hown, hts⟩ (c_K_bitPattern l dC dI cy ad H.size q137 a2 q141 e141) (va_cwS 2 hts (goodS m_ml_X2_129 m_st_X2_bitPattern m_in_X2 m_cd_X2_bitPattern) rfl rfl rfl (by decide +kernel) ⟨Nat.le_of_ble_eq_true rfl, Nat.le_of_ble_eq_true rfl⟩) hN hK hP hD hS hA [] [none, none, none, none, none, none, none, none, none, none, none, none, none, none, none, none, none, none, none, none, none, none, none, none, none, none, none] rfl rfl rfl rfl rfl rfl rfl hl.1 rfl (Nat.le_of_ble_eq_true rfl) dX2_truthWord_141 ⟨Nat.zero_le _, Nat.zero_le _⟩ (fun H locs hP hD hS => ?_)
          have h' := Option.some.inj h
          rw [← hQQ]
          exact W.lret (v := q141) hx hb hr (fun t ht hW => ⟨⟨q141, (), rfl, by rw [← h'], by rw [← hWQ, ht]; exact hP, va_K.moved hW.alike hK⟩, hS.F ht⟩) hS.2.2 dX2_truthWord_144
        · have h := g_f h c3
          rcases Decidable.em (q24 = (5 : Int32)) with c4 | c4
          · have h := g_t h c4
            refine lv_tableIn (off := 88) (tgt := 115) hx hb dX2_truthWord_27 (by rw [c4]; decide) (by rw [c4]; decide) (by rw [c4]; rfl) (by decide) ?_
            refine lv_aload_n hx hb dX2_truthWord_115 rfl (lv_at hl 2 rfl) ?_
            refine va_get (D := (dC, dI)) (ci := 2) (v := .ref (ad 18)) (C := RX2) (T := TX2) (N := 15) hx hb hts ki2 hown hK hP 0 rfl rfl 1 (by decide) kf54 (fun _ h9 => h9) rfl dX2_truthWord_116 ?_
            refine lv_iload_n hx hb dX2_truthWord_119 rfl (lv_at hl 3 rfl) ?_
            obtain ⟨q120, e120, h⟩ := g_b h
            refine callVi (cc := cX2_truthWord) (ws' := zzK ad cy (ad 11) (ad 18) iK lK aK iB lB aB iC aC) (As := [.int a1]) (rest := []) ⟨hx, hb, hml, hown, hts⟩ (c_C_atomOf l dC dI cy (fun i => ad (i + 18)) H.size a1 iC aC q120 e120) (cwV 1 hts (goodV m_ml_X2_126 m_im_X1_atomOf m_se_X1_atomOf m_in_X1 m_cd_X1_atomOf) rfl rfl rfl (by decide +kernel) ⟨Nat.le_of_ble_eq_true rfl, Nat.le_of_ble_eq_true rfl⟩) hN hK hP hD hS hA [18, 19, 20, 21, 22, 23, 24, 25, 26] [none, none, none, none, none, none, none, none, none, none, none, none, none, none, none, none, none, none, some 0, some 1, some 2, some 3, some 4, some 5, some 6, some 7, some 8] rfl rfl rfl rfl rfl rfl 18 rfl rfl rfl hl.1 rfl (Nat.le_of_ble_eq_true rfl) dX2_truthWord_120 ⟨Nat.zero_le _, Nat.zero_le _⟩ (fun H locs hP hD hS => ?_)
            refine lv_iload_n hx hb dX2_truthWord_123 rfl (lv_at hl 4 rfl) ?_
            obtain ⟨q124, e124, h⟩ := g_b h
            refine callSl (cc := cX2_truthWord) (ws' := zzK ad cy (ad 11) (ad 18) iK lK aK iB lB aB iC aC) (As := [.int q120, .int a2]) (rest := []) ⟨hx, hb, hml, hown, hts⟩ (c_K_bitPattern l dC dI cy ad H.size q120 a2 q124 e124) (va_cwS 2 hts (goodS m_ml_X2_129 m_st_X2_bitPattern m_in_X2 m_cd_X2_bitPattern) rfl rfl rfl (by decide +kernel) ⟨Nat.le_of_ble_eq_true rfl, Nat.le_of_ble_eq_true rfl⟩) hN hK hP hD hS hA [] [none, none, none, none, none, none, none, none, none, none, none, none, none, none, none, none, none, none, none, none, none, none, none, none, none, none, none] rfl rfl rfl rfl rfl rfl rfl hl.1 rfl (Nat.le_of_ble_eq_true rfl) dX2_truthWord_124 ⟨Nat.zero_le _, Nat.zero_le _⟩ (fun H locs hP hD hS => ?_)
            refine lv_ldc2 (v := (-1)) hx hb hown kc88 dX2_truthWord_127 ?_
            refine lv_lxor hx hb dX2_truthWord_130 ?_
            have h' := Option.some.inj h
            rw [← hQQ]
            exact W.lret (v := (q124 ^^^ (-1 : Int64))) hx hb hr (fun t ht hW => ⟨⟨(q124 ^^^ (-1 : Int64)), (), rfl, by rw [← h'], by rw [← hWQ, ht]; exact hP, va_K.moved hW.alike hK⟩, hS.F ht⟩) hS.2.2 dX2_truthWord_131
          · have h := g_f h c4
            rcases Decidable.em (q24 = (6 : Int32)) with c5 | c5
            · have h := g_t h c5
              refine lv_tableIn (off := 58) (tgt := 85) hx hb dX2_truthWord_27 (by rw [c5]; decide) (by rw [c5]; decide) (by rw [c5]; rfl) (by decide) ?_
              refine lv_aload_n hx hb dX2_truthWord_85 rfl (lv_at hl 2 rfl) ?_
              refine lv_iload_n hx hb dX2_truthWord_86 rfl (lv_at hl 1 rfl) ?_
              refine lv_iload_n hx hb dX2_truthWord_87 rfl (lv_at hl 4 rfl) ?_
              obtain ⟨q88, e88, h⟩ := g_b h
              refine callVls (cc := cX2_truthWord) (w1 := zzK ad cy (ad 11) (ad 18) iK lK aK iB lB aB iC aC) (As := [.int q5, .int a2]) (rest := []) ⟨hx, hb, hml, hown, hts⟩ (c_K_truthOf l dC dI cy ad H.size q5 a2 iK lK aK iB lB aB iC aC q88 e88) (cwV 2 hts (goodV m_ml_X2_81 m_im_X2_truthOf m_se_X2_truthOf m_in_X2 m_cd_X2_truthOf) rfl rfl rfl (by decide +kernel) ⟨Nat.le_of_ble_eq_true rfl, Nat.le_of_ble_eq_true rfl⟩) hN hK hP hD hS hA rfl 0 rfl rfl rfl hl.1 rfl (Nat.le_of_ble_eq_true rfl) dX2_truthWord_88 ⟨Nat.zero_le _, Nat.zero_le _⟩ (fun H locs hP hD hS => ?_)
              refine lv_aload_n hx hb dX2_truthWord_91 rfl (lv_at hl 2 rfl) ?_
              refine lv_iload hx hb dX2_truthWord_92 (lv_at hl 0 rfl) ?_
              refine lv_iload_n hx hb dX2_truthWord_94 rfl (lv_at hl 4 rfl) ?_
              obtain ⟨q95, e95, h⟩ := g_b h
              refine callVls (cc := cX2_truthWord) (w1 := zzK ad cy (ad 11) (ad 18) iK lK aK iB lB aB iC aC) (As := [.int q14, .int a2]) (rest := [.long q88]) ⟨hx, hb, hml, hown, hts⟩ (c_K_truthOf l dC dI cy ad H.size q14 a2 iK lK aK iB lB aB iC aC q95 e95) (cwV 2 hts (goodV m_ml_X2_81 m_im_X2_truthOf m_se_X2_truthOf m_in_X2 m_cd_X2_truthOf) rfl rfl rfl (by decide +kernel) ⟨Nat.le_of_ble_eq_true rfl, Nat.le_of_ble_eq_true rfl⟩) hN hK hP hD hS hA rfl 0 rfl rfl rfl hl.1 rfl (Nat.le_of_ble_eq_true rfl) dX2_truthWord_95 ⟨Nat.zero_le _, Nat.zero_le _⟩ (fun H locs hP hD hS => ?_)
              refine lv_land hx hb dX2_truthWord_98 ?_
              have h' := Option.some.inj h
              rw [← hQQ]
              exact W.lret (v := (q88 &&& q95)) hx hb hr (fun t ht hW => ⟨⟨(q88 &&& q95), (), rfl, by rw [← h'], by rw [← hWQ, ht]; exact hP, va_K.moved hW.alike hK⟩, hS.F ht⟩) hS.2.2 dX2_truthWord_99
            · have h := g_f h c5
              rcases Decidable.em (q24 = (7 : Int32)) with c6 | c6
              · have h := g_t h c6
                refine lv_tableIn (off := 73) (tgt := 100) hx hb dX2_truthWord_27 (by rw [c6]; decide) (by rw [c6]; decide) (by rw [c6]; rfl) (by decide) ?_
                refine lv_aload_n hx hb dX2_truthWord_100 rfl (lv_at hl 2 rfl) ?_
                refine lv_iload_n hx hb dX2_truthWord_101 rfl (lv_at hl 1 rfl) ?_
                refine lv_iload_n hx hb dX2_truthWord_102 rfl (lv_at hl 4 rfl) ?_
                obtain ⟨q103, e103, h⟩ := g_b h
                refine callVls (cc := cX2_truthWord) (w1 := zzK ad cy (ad 11) (ad 18) iK lK aK iB lB aB iC aC) (As := [.int q5, .int a2]) (rest := []) ⟨hx, hb, hml, hown, hts⟩ (c_K_truthOf l dC dI cy ad H.size q5 a2 iK lK aK iB lB aB iC aC q103 e103) (cwV 2 hts (goodV m_ml_X2_81 m_im_X2_truthOf m_se_X2_truthOf m_in_X2 m_cd_X2_truthOf) rfl rfl rfl (by decide +kernel) ⟨Nat.le_of_ble_eq_true rfl, Nat.le_of_ble_eq_true rfl⟩) hN hK hP hD hS hA rfl 0 rfl rfl rfl hl.1 rfl (Nat.le_of_ble_eq_true rfl) dX2_truthWord_103 ⟨Nat.zero_le _, Nat.zero_le _⟩ (fun H locs hP hD hS => ?_)
                refine lv_aload_n hx hb dX2_truthWord_106 rfl (lv_at hl 2 rfl) ?_
                refine lv_iload hx hb dX2_truthWord_107 (lv_at hl 0 rfl) ?_
                refine lv_iload_n hx hb dX2_truthWord_109 rfl (lv_at hl 4 rfl) ?_
                obtain ⟨q110, e110, h⟩ := g_b h
                refine callVls (cc := cX2_truthWord) (w1 := zzK ad cy (ad 11) (ad 18) iK lK aK iB lB aB iC aC) (As := [.int q14, .int a2]) (rest := [.long q103]) ⟨hx, hb, hml, hown, hts⟩ (c_K_truthOf l dC dI cy ad H.size q14 a2 iK lK aK iB lB aB iC aC q110 e110) (cwV 2 hts (goodV m_ml_X2_81 m_im_X2_truthOf m_se_X2_truthOf m_in_X2 m_cd_X2_truthOf) rfl rfl rfl (by decide +kernel) ⟨Nat.le_of_ble_eq_true rfl, Nat.le_of_ble_eq_true rfl⟩) hN hK hP hD hS hA rfl 0 rfl rfl rfl hl.1 rfl (Nat.le_of_ble_eq_true rfl) dX2_truthWord_110 ⟨Nat.zero_le _, Nat.zero_le _⟩ (fun H locs hP hD hS => ?_)
                refine lv_lor hx hb dX2_truthWord_113 ?_
                have h' := Option.some.inj h
                rw [← hQQ]
                exact W.lret (v := (q103 ||| q110)) hx hb hr (fun t ht hW => ⟨⟨(q103 ||| q110), (), rfl, by rw [← h'], by rw [← hWQ, ht]; exact hP, va_K.moved hW.alike hK⟩, hS.F ht⟩) hS.2.2 dX2_truthWord_114
              · have h := g_f h c6
                refine lv_tableOut (tgt := 132) hx hb dX2_truthWord_27 (by have z0 := tne (n := 1) (by decide) c0; have z1 := tne (n := 2) (by decide) c1; have z2 := tne (n := 3) (by decide) c2; have z3 := tne (n := 4) (by decide) c3; have z4 := tne (n := 5) (by decide) c4; have z5 := tne (n := 6) (by decide) c5; have z6 := tne (n := 7) (by decide) c6; omega) (by decide) ?_
                refine lv_aload_n hx hb dX2_truthWord_132 rfl (lv_at hl 2 rfl) ?_
                refine va_get (D := (dC, dI)) (ci := 2) (v := .ref (ad 18)) (C := RX2) (T := TX2) (N := 15) hx hb hts ki2 hown hK hP 0 rfl rfl 1 (by decide) kf54 (fun _ h9 => h9) rfl dX2_truthWord_133 ?_
                refine lv_iload_n hx hb dX2_truthWord_136 rfl (lv_at hl 3 rfl) ?_
                obtain ⟨q137, e137, h⟩ := g_b h
                refine callVi (cc := cX2_truthWord) (ws' := zzK ad cy (ad 11) (ad 18) iK lK aK iB lB aB iC aC) (As := [.int a1]) (rest := []) ⟨hx, hb, hml, hown, hts⟩ (c_C_atomOf l dC dI cy (fun i => ad (i + 18)) H.size a1 iC aC q137 e137) (cwV 1 hts (goodV m_ml_X2_126 m_im_X1_atomOf m_se_X1_atomOf m_in_X1 m_cd_X1_atomOf) rfl rfl rfl (by decide +kernel) ⟨Nat.le_of_ble_eq_true rfl, Nat.le_of_ble_eq_true rfl⟩) hN hK hP hD hS hA [18, 19, 20, 21, 22, 23, 24, 25, 26] [none, none, none, none, none, none, none, none, none, none, none, none, none, none, none, none, none, none, some 0, some 1, some 2, some 3, some 4, some 5, some 6, some 7, some 8] rfl rfl rfl rfl rfl rfl 18 rfl rfl rfl hl.1 rfl (Nat.le_of_ble_eq_true rfl) dX2_truthWord_137 ⟨Nat.zero_le _, Nat.zero_le _⟩ (fun H locs hP hD hS => ?_)
                refine lv_iload_n hx hb dX2_truthWord_140 rfl (lv_at hl 4 rfl) ?_
                obtain ⟨q141, e141, h⟩ := g_b h
                refine callSl (cc := cX2_truthWord) (ws' := zzK ad cy (ad 11) (ad 18) iK lK aK iB lB aB iC aC) (As := [.int q137, .int a2]) (rest := []) ⟨hx, hb, hml, hown, hts⟩ (c_K_bitPattern l dC dI cy ad H.size q137 a2 q141 e141) (va_cwS 2 hts (goodS m_ml_X2_129 m_st_X2_bitPattern m_in_X2 m_cd_X2_bitPattern) rfl rfl rfl (by decide +kernel) ⟨Nat.le_of_ble_eq_true rfl, Nat.le_of_ble_eq_true rfl⟩) hN hK hP hD hS hA [] [none, none, none, none, none, none, none, none, none, none, none, none, none, none, none, none, none, none, none, none, none, none, none, none, none, none, none] rfl rfl rfl rfl rfl rfl rfl hl.1 rfl (Nat.le_of_ble_eq_true rfl) dX2_truthWord_141 ⟨Nat.zero_le _, Nat.zero_le _⟩ (fun H locs hP hD hS => ?_)
                have h' := Option.some.inj h
                rw [← hQQ]
                exact W.lret (v := q141) hx hb hr (fun t ht hW => ⟨⟨q141, (), rfl, by rw [← h'], by rw [← hWQ, ht]; exact hP, va_K.moved hW.alike hK⟩, hS.F ht⟩) hS.2.2 dX2_truthWord_144
set_option maxHeartbeats 8000000 in
set_option maxRecDepth 100000 in
theorem c_K_workOut (l : Launch) (dC : Nat → ClassId) (dI : Nat → Nat → Nat) (cy : Nat → ClassId) (ad : Nat → Nat) (sz : Nat) (kb : Nat) (kc : Nat) (N : Nat) (iK : Nat → Int32) (lK : Nat → Nat → Int64) (aK : Nat → Nat → Int32) (iB : Nat → Int32) (lB : Nat → Nat → Int64) (aB : Nat → Nat → Int32) (iC : Nat → Int32) (aC : Nat → Nat → Int32) (q : (Nat → Int32) × (Nat → Nat → Int64) × (Nat → Nat → Int32)) (h : f_K_workOut N iK lK aK iB lB aB iC aC = some q) : Met l yX2_workOut wsX2_workOut ({ frames := 6, cells := 0, slots := 0, locals := 148 } : Room) (cP (dC, dI) cy [.ref (ad 0), .ref (ad 11)] (zzK ad cy kb kc iK lK aK iB lB aB iC aC) sz) (cQv (dC, dI) cy (zzK ad cy (ad 11) (ad 18) q.1 q.2.1 q.2.2 iB lB aB iC aC) (va_A (zzK ad cy kb kc iK lK aK iB lB aB iC aC) sz)) 0 0 (va_A (zzK ad cy kb kc iK lK aK iB lB aB iC aC) sz) := by
  refine Met.ofW (cc := cX2_workOut) (maxL := 6) (ret := none) (by decide) rfl ?_
  intro p e s m args below meth c s₁ B hml hv
  obtain ⟨hav, hsz, hP, hK, hD0, hN⟩ := hv
  have hx := B.exec
  have hb := B.bytes
  have hr := B.returns
  have hts := atoms_spec (ws := wsX2_workOut) B.pre
  have hown : s.vm.findClass RX2 = some m.cls := findClass_of_methodNamed B.named
  have hlocks := B.notSynchronized
  subst hsz
  have hD := hD0.self (sz := s.heap.size)
  generalize hAe : va_A (zzK ad cy kb kc iK lK aK iB lB aB iC aC) s.heap.size = A at hD ⊢
  have hA : ∀ q : Nat, s.heap.size ≤ q → A q := fun q h => by rw [← hAe]; exact Or.inr h
  have hS : va_S A s.heap s.heap [] := va_S.rf
  generalize hWQ : (zzK ad cy (ad 11) (ad 18) q.1 q.2.1 q.2.2 iB lB aB iC aC) = WQ
  generalize hQQ : MQ below (cQv (dC, dI) cy WQ A) args s 0 0 A = QQ
  have hl := lv_entry ([.ref (ad 0), .ref (ad 11)] : List Value) (n := 6) (Nat.le_of_ble_eq_true rfl)
  have hfr := lg_entry_eq m ([.ref (ad 0), .ref (ad 11)] : List Value) 6
  rw [← hav] at hfr
  rw [hfr]
  clear hfr hav
  generalize (lg_sl ([.ref (ad 0), .ref (ad 11)] : List Value) ++ List.replicate (6 - (lg_sl ([.ref (ad 0), .ref (ad 11)] : List Value)).length) Slot.unset).toArray = ls at hl ⊢
  have hl : lv_has ls 6 [(0, .ref (ad 0)), (1, .ref (ad 11))] := hl
  have kf9 := hts _ (List.mem_cons_of_mem _ m_fl_X2_9)
  have ki2 := (fun w h => List.mem_cons_of_mem _ (i_X2 w h) : ∀ w ∈ u_ws RX2 TX2 15, w ∈ wsX2_workOut)
  have kf54 := hts _ (List.mem_cons_of_mem _ m_fl_X2_54)
  have kf15 := hts _ (List.mem_cons_of_mem _ m_fl_X2_15)
  have kc88 := hts _ (List.mem_cons_of_mem _ m_kl_X2_88)
  have kf28 := hts _ (List.mem_cons_of_mem _ m_fl_X2_28)
  have kf114 := hts _ (List.mem_cons_of_mem _ m_fl_X2_114)
  have kf67 := hts _ (List.mem_cons_of_mem _ m_fl_X2_67)
  have kf40 := hts _ (List.mem_cons_of_mem _ m_fl_X2_40)
  have kf25 := hts _ (List.mem_cons_of_mem _ m_fl_X2_25)
  have kf44 := hts _ (List.mem_cons_of_mem _ m_fl_X2_44)
  have kf93 := hts _ (List.mem_cons_of_mem _ m_fl_X2_93)
  have ki0 := (fun w h => List.mem_cons_of_mem _ (i_X0 w h) : ∀ w ∈ u_ws RX0 TX0 15, w ∈ wsX2_workOut)
  have ka1 := hts _ (List.mem_cons_of_mem _ m_ml_X2_100)
  have ka2 := hts _ (List.mem_cons_of_mem _ m_na_java_lang_System_arraycopy)
  have ka3 := hts _ (List.mem_cons_of_mem _ m_st_java_lang_System_arraycopy)
  have ka4 := hts _ (List.mem_cons_of_mem _ m_in_java_lang_System)
  have kf55 := hts _ (List.mem_cons_of_mem _ m_fl_X2_55)
  have ki1 := (fun w h => List.mem_cons_of_mem _ (i_X1 w h) : ∀ w ∈ u_ws RX1 TX1 10, w ∈ wsX2_workOut)
  have kf70 := hts _ (List.mem_cons_of_mem _ m_fl_X2_70)
  have kf48 := hts _ (List.mem_cons_of_mem _ m_fl_X2_48)
  have km1 := hts _ (List.mem_cons_of_mem _ m_ml_X2_61)
  have km2 := hts _ (List.mem_cons_of_mem _ m_st_java_lang_Math_min)
  have km3 := hts _ (List.mem_cons_of_mem _ m_in_java_lang_Math)
  have km4 := hts _ (List.mem_cons_of_mem _ m_cd_java_lang_Math_min)
  refine (?_ : ∀ (H : Heap) (locs : List Loc), va_P (dC, dI) vwCl (zzK ad cy kb kc iK lK aK iB lB aB iC aC) H → va_D A (zzK ad cy kb kc iK lK aK iB lB aB iC aC) → va_S A s.heap H locs → W p l e ({ frames := 6, cells := 0, slots := 0, locals := 148 } : Room) s m args below meth c H locs 0 0 QQ (F0 m 0 ls [])) s.heap [] hP hD hS
  clear hP hD hS
  have B53 : ∀ (n : Nat) (v2 : Int32) (x_iK : Nat → Int32) (k33 : Int32 → (Nat → Nat → Int64) → Option ((Nat → Int32) × (Nat → Nat → Int64) × (Nat → Nat → Int32))) (hk33 : ∀ (v2' : Int32) (x_lK' : Nat → Nat → Int64) (H : Heap) (locs : List Loc) (ls : Array Slot), k33 v2' x_lK' = some q → va_P (dC, dI) vwCl (zzK ad cy (ad 11) (ad 18) x_iK x_lK' aK iB lB aB iC aC) H → va_D A (zzK ad cy (ad 11) (ad 18) x_iK x_lK' aK iB lB aB iC aC) → va_S A s.heap H locs → lv_has ls 6 [(0, .ref (ad 0)), (2, .int v2')] → W p l e ({ frames := 6, cells := 0, slots := 0, locals := 148 } : Room) s m args below meth c H locs 0 0 QQ (F0 m 33 ls [])) (v3 : Int32) (x_lK : Nat → Nat → Int64) (H : Heap) (locs : List Loc) (ls : Array Slot), f_K_workOut_53 N iK lK aK iB lB aB iC aC k33 v2 x_iK n v3 x_lK = some q → va_P (dC, dI) vwCl (zzK ad cy (ad 11) (ad 18) x_iK x_lK aK iB lB aB iC aC) H → va_D A (zzK ad cy (ad 11) (ad 18) x_iK x_lK aK iB lB aB iC aC) → va_S A s.heap H locs → lv_has ls 6 [(0, .ref (ad 0)), (2, .int v2), (3, .int v3)] → W p l e ({ frames := 6, cells := 0, slots := 0, locals := 148 } : Room) s m args below meth c H locs 0 0 QQ (F0 m 53 ls []) := by
    intro n
    induction n with
    | zero =>
      intro v2 x_iK k33 hk33 v3 x_lK H locs ls h hP hD hS hl
      rw [f_K_workOut_53] at h
      cases h
    | succ n ih =>
      intro v2 x_iK k33 hk33 v3 x_lK H locs ls h hP hD hS hl
      rw [f_K_workOut_53] at h
      refine lv_iload_n hx hb dX2_workOut_53 rfl (lv_at hl 2 rfl) ?_
      refine lv_bipush (v := 8) hx hb dX2_workOut_54 (by decide) ?_
      refine lv_icmp_ge (tgt := 82) hx hb dX2_workOut_56 (by decide) (fun cz => ?_) (fun cz => ?_)
      · have h := g_t h cz
        refine lv_iinc (v := (v2 + (1 : Int32))) (lv' := [(2, .int ((v2 + (1 : Int32)))), (0, .ref (ad 0)), (3, .int v3)]) hx hb dX2_workOut_82 hl (k := 1) rfl rfl (by decide) rfl (fun ls hl => ?_)
        refine lv_goto (tgt := 33) hx hb dX2_workOut_85 (by decide) ?_
        exact hk33 ((v2 + (1 : Int32))) x_lK H locs ls h hP hD hS (lv_sub hl [1, 0] rfl)
      · have h := g_f h cz
        refine lv_aload_n hx hb dX2_workOut_59 rfl (lv_at hl 0 rfl) ?_
        refine va_get (D := (dC, dI)) (ci := 2) (v := .ref (ad 1)) (C := RX2) (T := TX2) (N := 15) hx hb hts ki2 hown hK hP 0 rfl rfl 3 (by decide) kf9 (fun _ h9 => h9) rfl dX2_workOut_60 ?_
        refine lv_iload_n hx hb dX2_workOut_63 rfl (lv_at hl 1 rfl) ?_
        refine lv_bipush (v := 8) hx hb dX2_workOut_64 (by decide) ?_
        refine lv_imul hx hb dX2_workOut_66 ?_
        refine lv_iload_n hx hb dX2_workOut_67 rfl (lv_at hl 2 rfl) ?_
        refine lv_iadd hx hb dX2_workOut_68 ?_
        refine lv_aload_n hx hb dX2_workOut_69 rfl (lv_at hl 0 rfl) ?_
        refine lv_iload_n hx hb dX2_workOut_70 rfl (lv_at hl 1 rfl) ?_
        refine lv_iload_n hx hb dX2_workOut_71 rfl (lv_at hl 2 rfl) ?_
        obtain ⟨q72, e72, h⟩ := g_b h
        refine callVls (cc := cX2_workOut) (w1 := zzK ad cy (ad 11) (ad 18) x_iK x_lK aK iB lB aB iC aC) (As := [.int v2, .int v3]) (rest := [.int (((v2 * (8 : Int32)) + v3)), .ref (ad 1)]) ⟨hx, hb, hml, hown, hts⟩ (c_K_truthWord l dC dI cy ad H.size v2 v3 x_iK x_lK aK iB lB aB iC aC q72 e72) (cwV 2 hts (goodV m_ml_X2_73 m_im_X2_truthWord m_se_X2_truthWord m_in_X2 m_cd_X2_truthWord) rfl rfl rfl (by decide +kernel) ⟨Nat.le_of_ble_eq_true rfl, Nat.le_of_ble_eq_true rfl⟩) hN hK hP hD hS hA rfl 0 rfl rfl rfl hl.1 rfl (Nat.le_of_ble_eq_true rfl) dX2_workOut_72 ⟨Nat.zero_le _, Nat.zero_le _⟩ (fun H locs hP hD hS => ?_)
        obtain ⟨g_29, h⟩ := g_n h
        refine va_last (f := (x_lK 3)) hx hb hK hP hD hS 1 2 rfl rfl g_29 dX2_workOut_75 (fun H locs hP hD hS => ?_)
        have hP : va_P (dC, dI) vwCl (zzK ad cy (ad 11) (ad 18) x_iK (us x_lK [(3, (vp_updL ((x_lK 3)) (((v2 * (8 : Int32)) + v3)).toNatClampNeg q72))]) aK iB lB aB iC aC) H := Eq.mp (congrArg (fun w => va_P (dC, dI) vwCl w H) (sfK_lK3 ad cy (ad 11) (ad 18) x_iK x_lK aK iB lB aB iC aC ((vp_updL ((x_lK 3)) (((v2 * (8 : Int32)) + v3)).toNatClampNeg q72)))) hP
        have hD : va_D A (zzK ad cy (ad 11) (ad 18) x_iK (us x_lK [(3, (vp_updL ((x_lK 3)) (((v2 * (8 : Int32)) + v3)).toNatClampNeg q72))]) aK iB lB aB iC aC) := Eq.mp (congrArg (fun w => va_D A w) (sfK_lK3 ad cy (ad 11) (ad 18) x_iK x_lK aK iB lB aB iC aC ((vp_updL ((x_lK 3)) (((v2 * (8 : Int32)) + v3)).toNatClampNeg q72)))) hD
        refine lv_iinc (v := (v3 + (1 : Int32))) (lv' := [(3, .int ((v3 + (1 : Int32)))), (0, .ref (ad 0)), (2, .int v2)]) hx hb dX2_workOut_76 hl (k := 2) rfl rfl (by decide) rfl (fun ls hl => ?_)
        refine lv_goto (tgt := 53) hx hb dX2_workOut_79 (by decide) ?_
        exact ih v2 x_iK k33 hk33 ((v3 + (1 : Int32))) ((us x_lK [(3, (vp_updL ((x_lK 3)) (((v2 * (8 : Int32)) + v3)).toNatClampNeg q72))])) H locs ls h hP hD hS (lv_sub hl [1, 2, 0] rfl)
  have B162 : ∀ (v2 : Int32) (v3 : Int32) (s1 : Int32) (s2 : Int64) (x_iK : Nat → Int32) (x_lK : Nat → Nat → Int64) (k109 : Int32 → (Nat → Nat → Int64) → Option ((Nat → Int32) × (Nat → Nat → Int64) × (Nat → Nat → Int32))) (hk109 : ∀ (v3' : Int32) (x_lK' : Nat → Nat → Int64) (H : Heap) (locs : List Loc) (ls : Array Slot), k109 v3' x_lK' = some q → va_P (dC, dI) vwCl (zzK ad cy (ad 11) (ad 18) x_iK x_lK' aK iB lB aB iC aC) H → va_D A (zzK ad cy (ad 11) (ad 18) x_iK x_lK' aK iB lB aB iC aC) → va_S A s.heap H locs → lv_has ls 6 [(0, .ref (ad 0)), (2, .int v2), (3, .int v3')] → W p l e ({ frames := 6, cells := 0, slots := 0, locals := 148 } : Room) s m args below meth c H locs 0 0 QQ (F0 m 109 ls [])) (H : Heap) (locs : List Loc) (ls : Array Slot), f_K_workOut_162 N iK lK aK iB lB aB iC aC k109 v2 v3 s1 s2 x_iK x_lK = some q → va_P (dC, dI) vwCl (zzK ad cy (ad 11) (ad 18) x_iK x_lK aK iB lB aB iC aC) H → va_D A (zzK ad cy (ad 11) (ad 18) x_iK x_lK aK iB lB aB iC aC) → va_S A s.heap H locs → lv_has ls 6 [(0, .ref (ad 0)), (2, .int v2), (3, .int v3)] → W p l e ({ frames := 6, cells := 0, slots := 0, locals := 148 } : Room) s m args below meth c H locs 0 0 QQ (F0 m 162 ls [.long s2, .int s1, .ref (ad 2)]) := by
    intro v2 v3 s1 s2 x_iK x_lK k109 hk109 H locs ls h hP hD hS hl
    unfold f_K_workOut_162 at h
    obtain ⟨g_30, h⟩ := g_n h
    refine va_last (f := (x_lK 4)) hx hb hK hP hD hS 2 2 rfl rfl g_30 dX2_workOut_162 (fun H locs hP hD hS => ?_)
    have hP : va_P (dC, dI) vwCl (zzK ad cy (ad 11) (ad 18) x_iK (us x_lK [(4, (vp_updL ((x_lK 4)) s1.toNatClampNeg s2))]) aK iB lB aB iC aC) H := Eq.mp (congrArg (fun w => va_P (dC, dI) vwCl w H) (sfK_lK4 ad cy (ad 11) (ad 18) x_iK x_lK aK iB lB aB iC aC ((vp_updL ((x_lK 4)) s1.toNatClampNeg s2)))) hP
    have hD : va_D A (zzK ad cy (ad 11) (ad 18) x_iK (us x_lK [(4, (vp_updL ((x_lK 4)) s1.toNatClampNeg s2))]) aK iB lB aB iC aC) := Eq.mp (congrArg (fun w => va_D A w) (sfK_lK4 ad cy (ad 11) (ad 18) x_iK x_lK aK iB lB aB iC aC ((vp_updL ((x_lK 4)) s1.toNatClampNeg s2)))) hD
    refine lv_iinc (v := (v3 + (1 : Int32))) (lv' := [(3, .int ((v3 + (1 : Int32)))), (0, .ref (ad 0)), (2, .int v2)]) hx hb dX2_workOut_163 hl (k := 2) rfl rfl (by decide) rfl (fun ls hl => ?_)
    refine lv_goto (tgt := 109) hx hb dX2_workOut_166 (by decide) ?_
    exact hk109 ((v3 + (1 : Int32))) ((us x_lK [(4, (vp_updL ((x_lK 4)) s1.toNatClampNeg s2))])) H locs ls h hP hD hS (lv_sub hl [1, 2, 0] rfl)
  have B109 : ∀ (n : Nat) (v2 : Int32) (x_iK : Nat → Int32) (k90 : Int32 → (Nat → Nat → Int64) → Option ((Nat → Int32) × (Nat → Nat → Int64) × (Nat → Nat → Int32))) (hk90 : ∀ (v2' : Int32) (x_lK' : Nat → Nat → Int64) (H : Heap) (locs : List Loc) (ls : Array Slot), k90 v2' x_lK' = some q → va_P (dC, dI) vwCl (zzK ad cy (ad 11) (ad 18) x_iK x_lK' aK iB lB aB iC aC) H → va_D A (zzK ad cy (ad 11) (ad 18) x_iK x_lK' aK iB lB aB iC aC) → va_S A s.heap H locs → lv_has ls 6 [(0, .ref (ad 0)), (2, .int v2')] → W p l e ({ frames := 6, cells := 0, slots := 0, locals := 148 } : Room) s m args below meth c H locs 0 0 QQ (F0 m 90 ls [])) (v3 : Int32) (x_lK : Nat → Nat → Int64) (H : Heap) (locs : List Loc) (ls : Array Slot), f_K_workOut_109 N iK lK aK iB lB aB iC aC k90 v2 x_iK n v3 x_lK = some q → va_P (dC, dI) vwCl (zzK ad cy (ad 11) (ad 18) x_iK x_lK aK iB lB aB iC aC) H → va_D A (zzK ad cy (ad 11) (ad 18) x_iK x_lK aK iB lB aB iC aC) → va_S A s.heap H locs → lv_has ls 6 [(0, .ref (ad 0)), (2, .int v2), (3, .int v3)] → W p l e ({ frames := 6, cells := 0, slots := 0, locals := 148 } : Room) s m args below meth c H locs 0 0 QQ (F0 m 109 ls []) := by
    intro n
    induction n with
    | zero =>
      intro v2 x_iK k90 hk90 v3 x_lK H locs ls h hP hD hS hl
      rw [f_K_workOut_109] at h
      cases h
    | succ n ih =>
      intro v2 x_iK k90 hk90 v3 x_lK H locs ls h hP hD hS hl
      rw [f_K_workOut_109] at h
      refine lv_iload_n hx hb dX2_workOut_109 rfl (lv_at hl 2 rfl) ?_
      refine lv_bipush (v := 8) hx hb dX2_workOut_110 (by decide) ?_
      refine lv_icmp_ge (tgt := 169) hx hb dX2_workOut_112 (by decide) (fun cz => ?_) (fun cz => ?_)
      · have h := g_t h cz
        refine lv_iinc (v := (v2 + (1 : Int32))) (lv' := [(2, .int ((v2 + (1 : Int32)))), (0, .ref (ad 0)), (3, .int v3)]) hx hb dX2_workOut_169 hl (k := 1) rfl rfl (by decide) rfl (fun ls hl => ?_)
        refine lv_goto (tgt := 90) hx hb dX2_workOut_172 (by decide) ?_
        exact hk90 ((v2 + (1 : Int32))) x_lK H locs ls h hP hD hS (lv_sub hl [1, 0] rfl)
      · have h := g_f h cz
        refine lv_aload_n hx hb dX2_workOut_115 rfl (lv_at hl 0 rfl) ?_
        refine lv_aload_n hx hb dX2_workOut_116 rfl (lv_at hl 0 rfl) ?_
        refine va_get (D := (dC, dI)) (ci := 2) (v := .ref (ad 18)) (C := RX2) (T := TX2) (N := 15) hx hb hts ki2 hown hK hP 0 rfl rfl 1 (by decide) kf54 (fun _ h9 => h9) rfl dX2_workOut_117 ?_
        refine lv_iload_n hx hb dX2_workOut_120 rfl (lv_at hl 1 rfl) ?_
        obtain ⟨q121, e121, h⟩ := g_b h
        refine callVi (cc := cX2_workOut) (ws' := zzK ad cy (ad 11) (ad 18) x_iK x_lK aK iB lB aB iC aC) (As := [.int v2]) (rest := [.ref (ad 0)]) ⟨hx, hb, hml, hown, hts⟩ (c_C_partOfAtom l dC dI cy (fun i => ad (i + 18)) H.size v2 iC aC q121 e121) (cwV 1 hts (goodV m_ml_X2_77 m_im_X1_partOfAtom m_se_X1_partOfAtom m_in_X1 m_cd_X1_partOfAtom) rfl rfl rfl (by decide +kernel) ⟨Nat.le_of_ble_eq_true rfl, Nat.le_of_ble_eq_true rfl⟩) hN hK hP hD hS hA [18, 19, 20, 21, 22, 23, 24, 25, 26] [none, none, none, none, none, none, none, none, none, none, none, none, none, none, none, none, none, none, some 0, some 1, some 2, some 3, some 4, some 5, some 6, some 7, some 8] rfl rfl rfl rfl rfl rfl 18 rfl rfl rfl hl.1 rfl (Nat.le_of_ble_eq_true rfl) dX2_workOut_121 ⟨Nat.zero_le _, Nat.zero_le _⟩ (fun H locs hP hD hS => ?_)
        refine lv_iload_n hx hb dX2_workOut_124 rfl (lv_at hl 2 rfl) ?_
        obtain ⟨q125, e125, h⟩ := g_b h
        refine callVls (cc := cX2_workOut) (w1 := zzK ad cy (ad 11) (ad 18) x_iK x_lK aK iB lB aB iC aC) (As := [.int q121, .int v3]) (rest := []) ⟨hx, hb, hml, hown, hts⟩ (c_K_truthOf l dC dI cy ad H.size q121 v3 x_iK x_lK aK iB lB aB iC aC q125 e125) (cwV 2 hts (goodV m_ml_X2_81 m_im_X2_truthOf m_se_X2_truthOf m_in_X2 m_cd_X2_truthOf) rfl rfl rfl (by decide +kernel) ⟨Nat.le_of_ble_eq_true rfl, Nat.le_of_ble_eq_true rfl⟩) hN hK hP hD hS hA rfl 0 rfl rfl rfl hl.1 rfl (Nat.le_of_ble_eq_true rfl) dX2_workOut_125 ⟨Nat.zero_le _, Nat.zero_le _⟩ (fun H locs hP hD hS => ?_)
        refine lv_lstore (lv' := [(4, .long q125), (0, .ref (ad 0)), (2, .int v2), (3, .int v3)]) hx hb dX2_workOut_128 hl (by decide) rfl (fun ls hl => ?_)
        refine lv_aload_n hx hb dX2_workOut_130 rfl (lv_at hl 1 rfl) ?_
        refine va_get (D := (dC, dI)) (ci := 2) (v := .ref (ad 2)) (C := RX2) (T := TX2) (N := 15) hx hb hts ki2 hown hK hP 0 rfl rfl 4 (by decide) kf15 (fun _ h9 => h9) rfl dX2_workOut_131 ?_
        refine lv_iload_n hx hb dX2_workOut_134 rfl (lv_at hl 2 rfl) ?_
        refine lv_bipush (v := 8) hx hb dX2_workOut_135 (by decide) ?_
        refine lv_imul hx hb dX2_workOut_137 ?_
        refine lv_iload_n hx hb dX2_workOut_138 rfl (lv_at hl 3 rfl) ?_
        refine lv_iadd hx hb dX2_workOut_139 ?_
        refine lv_aload_n hx hb dX2_workOut_140 rfl (lv_at hl 1 rfl) ?_
        refine va_get (D := (dC, dI)) (ci := 2) (v := .ref (ad 18)) (C := RX2) (T := TX2) (N := 15) hx hb hts ki2 hown hK hP 0 rfl rfl 1 (by decide) kf54 (fun _ h9 => h9) rfl dX2_workOut_141 ?_
        refine lv_iload_n hx hb dX2_workOut_144 rfl (lv_at hl 2 rfl) ?_
        obtain ⟨q145, e145, h⟩ := g_b h
        refine callVi (cc := cX2_workOut) (ws' := zzK ad cy (ad 11) (ad 18) x_iK x_lK aK iB lB aB iC aC) (As := [.int v2]) (rest := [.int (((v2 * (8 : Int32)) + v3)), .ref (ad 2)]) ⟨hx, hb, hml, hown, hts⟩ (c_C_isTurned l dC dI cy (fun i => ad (i + 18)) H.size v2 iC aC q145 e145) (cwV 1 hts (goodV m_ml_X2_84 m_im_X1_isTurned m_se_X1_isTurned m_in_X1 m_cd_X1_isTurned) rfl rfl rfl (by decide +kernel) ⟨Nat.le_of_ble_eq_true rfl, Nat.le_of_ble_eq_true rfl⟩) hN hK hP hD hS hA [18, 19, 20, 21, 22, 23, 24, 25, 26] [none, none, none, none, none, none, none, none, none, none, none, none, none, none, none, none, none, none, some 0, some 1, some 2, some 3, some 4, some 5, some 6, some 7, some 8] rfl rfl rfl rfl rfl rfl 18 rfl rfl rfl hl.1 rfl (Nat.le_of_ble_eq_true rfl) dX2_workOut_145 ⟨Nat.zero_le _, Nat.zero_le _⟩ (fun H locs hP hD hS => ?_)
        refine lv_if_eq (tgt := 160) hx hb dX2_workOut_148 (by decide) (fun cz => ?_) (fun cz => ?_)
        · have h := g_t h cz
          refine lv_lload hx hb dX2_workOut_160 (lv_at hl 0 rfl) ?_
          exact B162 v2 v3 (((v2 * (8 : Int32)) + v3)) q125 x_iK x_lK (f_K_workOut_109 N iK lK aK iB lB aB iC aC k90 v2 x_iK n) (ih v2 x_iK k90 hk90) H locs ls h hP hD hS (lv_sub hl [1, 2, 3] rfl)
        · have h := g_f h cz
          refine lv_lload hx hb dX2_workOut_151 (lv_at hl 0 rfl) ?_
          refine lv_ldc2 (v := (-1)) hx hb hown kc88 dX2_workOut_153 ?_
          refine lv_lxor hx hb dX2_workOut_156 ?_
          refine lv_goto (tgt := 162) hx hb dX2_workOut_157 (by decide) ?_
          exact B162 v2 v3 (((v2 * (8 : Int32)) + v3)) ((q125 ^^^ (-1 : Int64))) x_iK x_lK (f_K_workOut_109 N iK lK aK iB lB aB iC aC k90 v2 x_iK n) (ih v2 x_iK k90 hk90) H locs ls h hP hD hS (lv_sub hl [1, 2, 3] rfl)
  have B251 : ∀ (v2 : Int32) (s1 : Int32) (s2 : Int32) (x_iK : Nat → Int32) (x_lK : Nat → Nat → Int64) (x_aK : Nat → Nat → Int32) (k215 : Int32 → (Nat → Nat → Int32) → Option ((Nat → Int32) × (Nat → Nat → Int64) × (Nat → Nat → Int32))) (hk215 : ∀ (v2' : Int32) (x_aK' : Nat → Nat → Int32) (H : Heap) (locs : List Loc) (ls : Array Slot), k215 v2' x_aK' = some q → va_P (dC, dI) vwCl (zzK ad cy (ad 11) (ad 18) x_iK x_lK x_aK' iB lB aB iC aC) H → va_D A (zzK ad cy (ad 11) (ad 18) x_iK x_lK x_aK' iB lB aB iC aC) → va_S A s.heap H locs → lv_has ls 6 [(0, .ref (ad 0)), (2, .int v2')] → W p l e ({ frames := 6, cells := 0, slots := 0, locals := 148 } : Room) s m args below meth c H locs 0 0 QQ (F0 m 215 ls [])) (H : Heap) (locs : List Loc) (ls : Array Slot), f_K_workOut_251 N iK lK aK iB lB aB iC aC k215 v2 s1 s2 x_iK x_lK x_aK = some q → va_P (dC, dI) vwCl (zzK ad cy (ad 11) (ad 18) x_iK x_lK x_aK iB lB aB iC aC) H → va_D A (zzK ad cy (ad 11) (ad 18) x_iK x_lK x_aK iB lB aB iC aC) → va_S A s.heap H locs → lv_has ls 6 [(0, .ref (ad 0)), (2, .int v2)] → W p l e ({ frames := 6, cells := 0, slots := 0, locals := 148 } : Room) s m args below meth c H locs 0 0 QQ (F0 m 251 ls [.int s2, .int s1, .ref (ad 10)]) := by
    intro v2 s1 s2 x_iK x_lK x_aK k215 hk215 H locs ls h hP hD hS hl
    unfold f_K_workOut_251 at h
    refine lv_i2s (v := (s2).toInt16.toInt32) hx hb dX2_workOut_251 rfl ?_
    obtain ⟨g_31, h⟩ := g_n h
    refine va_sast (f := (x_aK 13)) hx hb hK hP hD hS 10 3 rfl rfl g_31 dX2_workOut_252 (fun H locs hP hD hS => ?_)
    have hP : va_P (dC, dI) vwCl (zzK ad cy (ad 11) (ad 18) x_iK x_lK (us x_aK [(13, (upd ((x_aK 13)) s1.toNatClampNeg (vp_nar .short (s2).toInt16.toInt32)))]) iB lB aB iC aC) H := Eq.mp (congrArg (fun w => va_P (dC, dI) vwCl w H) (sfK_aK13 ad cy (ad 11) (ad 18) x_iK x_lK x_aK iB lB aB iC aC ((upd ((x_aK 13)) s1.toNatClampNeg (vp_nar .short (s2).toInt16.toInt32))))) hP
    have hD : va_D A (zzK ad cy (ad 11) (ad 18) x_iK x_lK (us x_aK [(13, (upd ((x_aK 13)) s1.toNatClampNeg (vp_nar .short (s2).toInt16.toInt32)))]) iB lB aB iC aC) := Eq.mp (congrArg (fun w => va_D A w) (sfK_aK13 ad cy (ad 11) (ad 18) x_iK x_lK x_aK iB lB aB iC aC ((upd ((x_aK 13)) s1.toNatClampNeg (vp_nar .short (s2).toInt16.toInt32))))) hD
    refine lv_iinc (v := (v2 + (1 : Int32))) (lv' := [(2, .int ((v2 + (1 : Int32)))), (0, .ref (ad 0))]) hx hb dX2_workOut_253 hl (k := 1) rfl rfl (by decide) rfl (fun ls hl => ?_)
    refine lv_goto (tgt := 215) hx hb dX2_workOut_256 (by decide) ?_
    exact hk215 ((v2 + (1 : Int32))) ((us x_aK [(13, (upd ((x_aK 13)) s1.toNatClampNeg (vp_nar .short (s2).toInt16.toInt32)))])) H locs ls h hP hD hS (lv_sub hl [1, 0] rfl)
  have B259 : ∀ (x_iK : Nat → Int32) (x_lK : Nat → Nat → Int64) (x_aK : Nat → Nat → Int32) (H : Heap) (locs : List Loc) (ls : Array Slot), f_K_workOut_259 N iK lK aK iB lB aB iC aC x_iK x_lK x_aK = some q → va_P (dC, dI) vwCl (zzK ad cy (ad 11) (ad 18) x_iK x_lK x_aK iB lB aB iC aC) H → va_D A (zzK ad cy (ad 11) (ad 18) x_iK x_lK x_aK iB lB aB iC aC) → va_S A s.heap H locs → lv_has ls 6 [(0, .ref (ad 0))] → W p l e ({ frames := 6, cells := 0, slots := 0, locals := 148 } : Room) s m args below meth c H locs 0 0 QQ (F0 m 259 ls []) := by
    intro x_iK x_lK x_aK H locs ls h hP hD hS hl
    unfold f_K_workOut_259 at h
    refine lv_aload_n hx hb dX2_workOut_259 rfl (lv_at hl 0 rfl) ?_
    refine lv_aload_n hx hb dX2_workOut_260 rfl (lv_at hl 0 rfl) ?_
    refine lv_aload_n hx hb dX2_workOut_261 rfl (lv_at hl 0 rfl) ?_
    refine va_get (D := (dC, dI)) (ci := 2) (v := .ref (ad 6)) (C := RX2) (T := TX2) (N := 15) hx hb hts ki2 hown hK hP 0 rfl rfl 9 (by decide) kf28 (fun _ h9 => h9) rfl dX2_workOut_262 ?_
    refine lv_iconst (v := 1) hx hb dX2_workOut_265 (by decide) ?_
    obtain ⟨q266, e266, h⟩ := g_b h
    refine callVis (cc := cX2_workOut) (w1 := zzK ad cy (ad 11) (ad 18) x_iK (us x_lK [(9, q266.2.1), (11, q266.2.2.1), (12, q266.2.2.2.1)]) (us x_aK [(13, q266.2.2.2.2)]) iB lB aB iC aC) (As := [.ref (ad 6), .int ((1 : Int32))]) (rest := [.ref (ad 0)]) ⟨hx, hb, hml, hown, hts⟩ (c_K_settle_standing l dC dI cy ad H.size N ((1 : Int32)) x_iK x_lK x_aK iB lB aB iC aC q266 e266) (cwV 2 hts (goodV m_ml_X2_110 m_im_X2_settle m_se_X2_settle m_in_X2 m_cd_X2_settle) rfl rfl rfl (by decide +kernel) ⟨Nat.le_of_ble_eq_true rfl, Nat.le_of_ble_eq_true rfl⟩) hN hK hP hD hS hA rfl 0 rfl rfl rfl hl.1 rfl (Nat.le_of_ble_eq_true rfl) dX2_workOut_266 ⟨Nat.zero_le _, Nat.zero_le _⟩ (fun H locs hP hD hS => ?_)
    refine va_put (D := (dC, dI)) (ci := 2) (v := .int q266.1) (ty := .int) (C := RX2) (T := TX2) (N := 15) hx hb hts ki2 tyX2 tyX2_ok nmX2 hown hK hP hD hS 0 rfl rfl 14 (by decide) kf114 (fun _ h9 => h9) rfl (by decide +kernel) rfl rfl (Nat.le_of_ble_eq_true rfl) dX2_workOut_269 (fun H locs hP hD hS => ?_)
    have hP : va_P (dC, dI) vwCl (zzK ad cy (ad 11) (ad 18) (us x_iK [(14, q266.1)]) (us x_lK [(9, q266.2.1), (11, q266.2.2.1), (12, q266.2.2.2.1)]) (us x_aK [(13, q266.2.2.2.2)]) iB lB aB iC aC) H := Eq.mp (congrArg (fun w => va_P (dC, dI) vwCl w H) (sfK_iK14 ad cy (ad 11) (ad 18) x_iK (us x_lK [(9, q266.2.1), (11, q266.2.2.1), (12, q266.2.2.2.1)]) (us x_aK [(13, q266.2.2.2.2)]) iB lB aB iC aC q266.1)) hP
    have hD : va_D A (zzK ad cy (ad 11) (ad 18) (us x_iK [(14, q266.1)]) (us x_lK [(9, q266.2.1), (11, q266.2.2.1), (12, q266.2.2.2.1)]) (us x_aK [(13, q266.2.2.2.2)]) iB lB aB iC aC) := Eq.mp (congrArg (fun w => va_D A w) (sfK_iK14 ad cy (ad 11) (ad 18) x_iK (us x_lK [(9, q266.2.1), (11, q266.2.2.1), (12, q266.2.2.2.1)]) (us x_aK [(13, q266.2.2.2.2)]) iB lB aB iC aC q266.1)) hD
    have h' := Option.some.inj h
    rw [← hQQ]
    exact W.vret hx hb hr (fun t ht hW => ⟨⟨(), rfl, trivial, by rw [← hWQ, ← h', ht]; exact hP, va_K.moved hW.alike hK⟩, hS.F ht⟩) hS.2.2 dX2_workOut_272
  have B215 : ∀ (n : Nat) (x_iK : Nat → Int32) (x_lK : Nat → Nat → Int64) (v2 : Int32) (x_aK : Nat → Nat → Int32) (H : Heap) (locs : List Loc) (ls : Array Slot), f_K_workOut_215 N iK lK aK iB lB aB iC aC x_iK x_lK n v2 x_aK = some q → va_P (dC, dI) vwCl (zzK ad cy (ad 11) (ad 18) x_iK x_lK x_aK iB lB aB iC aC) H → va_D A (zzK ad cy (ad 11) (ad 18) x_iK x_lK x_aK iB lB aB iC aC) → va_S A s.heap H locs → lv_has ls 6 [(0, .ref (ad 0)), (2, .int v2)] → W p l e ({ frames := 6, cells := 0, slots := 0, locals := 148 } : Room) s m args below meth c H locs 0 0 QQ (F0 m 215 ls []) := by
    intro n
    induction n with
    | zero =>
      intro x_iK x_lK v2 x_aK H locs ls h hP hD hS hl
      rw [f_K_workOut_215] at h
      cases h
    | succ n ih =>
      intro x_iK x_lK v2 x_aK H locs ls h hP hD hS hl
      rw [f_K_workOut_215] at h
      refine lv_iload_n hx hb dX2_workOut_215 rfl (lv_at hl 1 rfl) ?_
      refine lv_aload_n hx hb dX2_workOut_216 rfl (lv_at hl 0 rfl) ?_
      refine va_get (D := (dC, dI)) (ci := 2) (v := .int ((x_iK 2))) (C := RX2) (T := TX2) (N := 15) hx hb hts ki2 hown hK hP 0 rfl rfl 2 (by decide) kf67 (fun _ h9 => h9) rfl dX2_workOut_217 ?_
      refine lv_icmp_ge (tgt := 259) hx hb dX2_workOut_220 (by decide) (fun cz => ?_) (fun cz => ?_)
      · have h := g_t h cz
        exact B259 x_iK x_lK x_aK H locs ls h hP hD hS (lv_sub hl [0] rfl)
      · have h := g_f h cz
        refine lv_iload_n hx hb dX2_workOut_223 rfl (lv_at hl 1 rfl) ?_
        refine lv_sipush (v := 512) hx hb dX2_workOut_224 (by decide) ?_
        refine lv_icmp_ge (tgt := 259) hx hb dX2_workOut_227 (by decide) (fun cz => ?_) (fun cz => ?_)
        · have h := g_t h cz
          exact B259 x_iK x_lK x_aK H locs ls h hP hD hS (lv_sub hl [0] rfl)
        · have h := g_f h cz
          refine lv_aload_n hx hb dX2_workOut_230 rfl (lv_at hl 0 rfl) ?_
          refine va_get (D := (dC, dI)) (ci := 2) (v := .ref (ad 10)) (C := RX2) (T := TX2) (N := 15) hx hb hts ki2 hown hK hP 0 rfl rfl 13 (by decide) kf40 (fun _ h9 => h9) rfl dX2_workOut_231 ?_
          refine lv_iload_n hx hb dX2_workOut_234 rfl (lv_at hl 1 rfl) ?_
          refine lv_aload_n hx hb dX2_workOut_235 rfl (lv_at hl 0 rfl) ?_
          refine va_get (D := (dC, dI)) (ci := 2) (v := .ref (ad 5)) (C := RX2) (T := TX2) (N := 15) hx hb hts ki2 hown hK hP 0 rfl rfl 8 (by decide) kf25 (fun _ h9 => h9) rfl dX2_workOut_236 ?_
          refine lv_iload_n hx hb dX2_workOut_239 rfl (lv_at hl 1 rfl) ?_
          obtain ⟨q240, e240, h⟩ := g_b h
          refine callSi (cc := cX2_workOut) (ws' := zzK ad cy (ad 11) (ad 18) x_iK x_lK x_aK iB lB aB iC aC) (As := [.ref (ad 5), .int v2]) (rest := [.int v2, .ref (ad 10)]) ⟨hx, hb, hml, hown, hts⟩ (c_K_has l dC dI cy (fun i => ad (i + 5)) H.size 8 v2 ((x_lK 8)) q240 e240) (va_cwS 2 hts (goodS m_ml_X2_106 m_st_X2_has m_in_X2 m_cd_X2_has) rfl rfl rfl (by decide +kernel) ⟨Nat.le_of_ble_eq_true rfl, Nat.le_of_ble_eq_true rfl⟩) hN hK hP hD hS hA [5] [none, none, none, none, none, some 0, none, none, none, none, none, none, none, none, none, none, none, none, none, none, none, none, none, none, none, none, none] rfl rfl rfl rfl rfl rfl rfl hl.1 rfl (Nat.le_of_ble_eq_true rfl) dX2_workOut_240 ⟨Nat.zero_le _, Nat.zero_le _⟩ (fun H locs hP hD hS => ?_)
          refine lv_if_eq (tgt := 250) hx hb dX2_workOut_243 (by decide) (fun cz => ?_) (fun cz => ?_)
          · have h := g_t h cz
            refine lv_iconst (v := 0) hx hb dX2_workOut_250 (by decide) ?_
            exact B251 v2 v2 ((0 : Int32)) x_iK x_lK x_aK (f_K_workOut_215 N iK lK aK iB lB aB iC aC x_iK x_lK n) (ih x_iK x_lK) H locs ls h hP hD hS (lv_sub hl [0, 1] rfl)
          · have h := g_f h cz
            refine lv_iconst (v := (-1)) hx hb dX2_workOut_246 (by decide) ?_
            refine lv_goto (tgt := 251) hx hb dX2_workOut_247 (by decide) ?_
            exact B251 v2 v2 ((-1 : Int32)) x_iK x_lK x_aK (f_K_workOut_215 N iK lK aK iB lB aB iC aC x_iK x_lK n) (ih x_iK x_lK) H locs ls h hP hD hS (lv_sub hl [0, 1] rfl)
  have B175 : ∀ (x_iK : Nat → Int32) (x_lK : Nat → Nat → Int64) (H : Heap) (locs : List Loc) (ls : Array Slot), f_K_workOut_175 N iK lK aK iB lB aB iC aC x_iK x_lK = some q → va_P (dC, dI) vwCl (zzK ad cy (ad 11) (ad 18) x_iK x_lK aK iB lB aB iC aC) H → va_D A (zzK ad cy (ad 11) (ad 18) x_iK x_lK aK iB lB aB iC aC) → va_S A s.heap H locs → lv_has ls 6 [(0, .ref (ad 0))] → W p l e ({ frames := 6, cells := 0, slots := 0, locals := 148 } : Room) s m args below meth c H locs 0 0 QQ (F0 m 175 ls []) := by
    intro x_iK x_lK H locs ls h hP hD hS hl
    unfold f_K_workOut_175 at h
    refine lv_aload_n hx hb dX2_workOut_175 rfl (lv_at hl 0 rfl) ?_
    obtain ⟨q176, e176, h⟩ := g_b h
    refine callVvs (cc := cX2_workOut) (w1 := zzK ad cy (ad 11) (ad 18) (us x_iK [(7, q176.1)]) x_lK (us aK [(5, q176.2.1), (6, q176.2.2)]) iB lB aB iC aC) (As := []) (rest := []) ⟨hx, hb, hml, hown, hts⟩ (c_K_gatherAtoms l dC dI cy ad H.size N x_iK x_lK aK iB lB aB iC aC q176 e176) (cwV 0 hts (goodV m_ml_X2_90 m_im_X2_gatherAtoms m_se_X2_gatherAtoms m_in_X2 m_cd_X2_gatherAtoms) rfl rfl rfl (by decide +kernel) ⟨Nat.le_of_ble_eq_true rfl, Nat.le_of_ble_eq_true rfl⟩) hN hK hP hD hS hA rfl 0 rfl rfl rfl hl.1 rfl (Nat.le_of_ble_eq_true rfl) dX2_workOut_176 ⟨Nat.zero_le _, Nat.zero_le _⟩ (fun H locs hP hD hS => ?_)
    refine lv_aload_n hx hb dX2_workOut_179 rfl (lv_at hl 0 rfl) ?_
    refine lv_iconst (v := 1) hx hb dX2_workOut_180 (by decide) ?_
    refine lv_aload_n hx hb dX2_workOut_181 rfl (lv_at hl 0 rfl) ?_
    refine va_get (D := (dC, dI)) (ci := 2) (v := .ref (ad 11)) (C := RX2) (T := TX2) (N := 15) hx hb hts ki2 hown hK hP 0 rfl rfl 0 (by decide) kf44 (fun _ h9 => h9) rfl dX2_workOut_182 ?_
    refine va_get (D := (dC, dI)) (ci := 0) (v := .int ((iB 9))) (C := RX0) (T := TX0) (N := 15) hx hb hts ki0 hown hK hP 11 rfl rfl 9 (by decide) kf93 (fun _ h9 => h9) rfl dX2_workOut_185 ?_
    refine lv_ishl hx hb dX2_workOut_188 ?_
    refine lv_iconst (v := 1) hx hb dX2_workOut_189 (by decide) ?_
    refine lv_isub hx hb dX2_workOut_190 ?_
    refine lv_aload_n hx hb dX2_workOut_191 rfl (lv_at hl 0 rfl) ?_
    refine va_get (D := (dC, dI)) (ci := 2) (v := .ref (ad 5)) (C := RX2) (T := TX2) (N := 15) hx hb hts ki2 hown hK hP 0 rfl rfl 8 (by decide) kf25 (fun _ h9 => h9) rfl dX2_workOut_192 ?_
    obtain ⟨q195, e195, h⟩ := g_b h
    refine callVvs (cc := cX2_workOut) (w1 := zzK ad cy (ad 11) (ad 18) (us x_iK [(7, q176.1)]) (us x_lK [(8, q195)]) (us aK [(5, q176.2.1), (6, q176.2.2)]) iB lB aB iC aC) (As := [.int ((((1 : Int32) <<< ((iB 9) &&& 31)) - (1 : Int32))), .ref (ad 5)]) (rest := []) ⟨hx, hb, hml, hown, hts⟩ (c_K_takeFair_fair l dC dI cy ad H.size N ((((1 : Int32) <<< ((iB 9) &&& 31)) - (1 : Int32))) ((us x_iK [(7, q176.1)])) x_lK ((us aK [(5, q176.2.1), (6, q176.2.2)])) iB lB aB iC aC q195 e195) (cwV 2 hts (goodV m_ml_X2_96 m_im_X2_takeFair m_se_X2_takeFair m_in_X2 m_cd_X2_takeFair) rfl rfl rfl (by decide +kernel) ⟨Nat.le_of_ble_eq_true rfl, Nat.le_of_ble_eq_true rfl⟩) hN hK hP hD hS hA rfl 0 rfl rfl rfl hl.1 rfl (Nat.le_of_ble_eq_true rfl) dX2_workOut_195 ⟨Nat.zero_le _, Nat.zero_le _⟩ (fun H locs hP hD hS => ?_)
    refine lv_aload_n hx hb dX2_workOut_198 rfl (lv_at hl 0 rfl) ?_
    refine va_get (D := (dC, dI)) (ci := 2) (v := .ref (ad 5)) (C := RX2) (T := TX2) (N := 15) hx hb hts ki2 hown hK hP 0 rfl rfl 8 (by decide) kf25 (fun _ h9 => h9) rfl dX2_workOut_199 ?_
    refine lv_iconst (v := 0) hx hb dX2_workOut_202 (by decide) ?_
    refine lv_aload_n hx hb dX2_workOut_203 rfl (lv_at hl 0 rfl) ?_
    refine va_get (D := (dC, dI)) (ci := 2) (v := .ref (ad 6)) (C := RX2) (T := TX2) (N := 15) hx hb hts ki2 hown hK hP 0 rfl rfl 9 (by decide) kf28 (fun _ h9 => h9) rfl dX2_workOut_204 ?_
    refine lv_iconst (v := 0) hx hb dX2_workOut_207 (by decide) ?_
    refine lv_bipush (v := 8) hx hb dX2_workOut_208 (by decide) ?_
    refine va_copyl (f := q195) (g := (x_lK 9)) hx hb (by rw [hml]; exact hl.1.symm) hown ka1 ka2 ka3 ka4 hK hP hD hS 5 6 2 2 rfl rfl rfl rfl rfl (by decide) (by decide) (by decide) (by decide) (by decide) (fun _ _ => rfl) (Nat.le_of_ble_eq_true rfl) (Nat.le_of_ble_eq_true rfl) dX2_workOut_210 (fun H locs hP hD hS => ?_)
    have hP : va_P (dC, dI) vwCl (zzK ad cy (ad 11) (ad 18) (us x_iK [(7, q176.1)]) (us x_lK [(8, q195), (9, (va_cpy q195 ((x_lK 9)) ((0 : Int32)).toNatClampNeg ((0 : Int32)).toNatClampNeg ((8 : Int32)).toNatClampNeg))]) (us aK [(5, q176.2.1), (6, q176.2.2)]) iB lB aB iC aC) H := Eq.mp (congrArg (fun w => va_P (dC, dI) vwCl w H) (stK_lK9 ad cy (ad 11) (ad 18) (us x_iK [(7, q176.1)]) x_lK (us aK [(5, q176.2.1), (6, q176.2.2)]) iB lB aB iC aC [(8, q195)] ((va_cpy q195 ((x_lK 9)) ((0 : Int32)).toNatClampNeg ((0 : Int32)).toNatClampNeg ((8 : Int32)).toNatClampNeg)))) hP
    have hD : va_D A (zzK ad cy (ad 11) (ad 18) (us x_iK [(7, q176.1)]) (us x_lK [(8, q195), (9, (va_cpy q195 ((x_lK 9)) ((0 : Int32)).toNatClampNeg ((0 : Int32)).toNatClampNeg ((8 : Int32)).toNatClampNeg))]) (us aK [(5, q176.2.1), (6, q176.2.2)]) iB lB aB iC aC) := Eq.mp (congrArg (fun w => va_D A w) (stK_lK9 ad cy (ad 11) (ad 18) (us x_iK [(7, q176.1)]) x_lK (us aK [(5, q176.2.1), (6, q176.2.2)]) iB lB aB iC aC [(8, q195)] ((va_cpy q195 ((x_lK 9)) ((0 : Int32)).toNatClampNeg ((0 : Int32)).toNatClampNeg ((8 : Int32)).toNatClampNeg)))) hD
    refine lv_iconst (v := 0) hx hb dX2_workOut_213 (by decide) ?_
    refine lv_istore_n (lv' := [(2, .int ((0 : Int32))), (0, .ref (ad 0))]) hx hb dX2_workOut_214 rfl hl (by decide) rfl (fun ls hl => ?_)
    exact B215 N ((us x_iK [(7, q176.1)])) ((us x_lK [(8, q195), (9, (va_cpy q195 ((x_lK 9)) ((0 : Int32)).toNatClampNeg ((0 : Int32)).toNatClampNeg ((8 : Int32)).toNatClampNeg))])) ((0 : Int32)) ((us aK [(5, q176.2.1), (6, q176.2.2)])) H locs ls h hP hD hS (lv_sub hl [1, 0] rfl)
  have B90 : ∀ (n : Nat) (x_iK : Nat → Int32) (v2 : Int32) (x_lK : Nat → Nat → Int64) (H : Heap) (locs : List Loc) (ls : Array Slot), f_K_workOut_90 N iK lK aK iB lB aB iC aC x_iK n v2 x_lK = some q → va_P (dC, dI) vwCl (zzK ad cy (ad 11) (ad 18) x_iK x_lK aK iB lB aB iC aC) H → va_D A (zzK ad cy (ad 11) (ad 18) x_iK x_lK aK iB lB aB iC aC) → va_S A s.heap H locs → lv_has ls 6 [(0, .ref (ad 0)), (2, .int v2)] → W p l e ({ frames := 6, cells := 0, slots := 0, locals := 148 } : Room) s m args below meth c H locs 0 0 QQ (F0 m 90 ls []) := by
    intro n
    induction n with
    | zero =>
      intro x_iK v2 x_lK H locs ls h hP hD hS hl
      rw [f_K_workOut_90] at h
      cases h
    | succ n ih =>
      intro x_iK v2 x_lK H locs ls h hP hD hS hl
      rw [f_K_workOut_90] at h
      refine lv_iload_n hx hb dX2_workOut_90 rfl (lv_at hl 1 rfl) ?_
      refine lv_aload_n hx hb dX2_workOut_91 rfl (lv_at hl 0 rfl) ?_
      refine va_get (D := (dC, dI)) (ci := 2) (v := .ref (ad 18)) (C := RX2) (T := TX2) (N := 15) hx hb hts ki2 hown hK hP 0 rfl rfl 1 (by decide) kf54 (fun _ h9 => h9) rfl dX2_workOut_92 ?_
      refine va_get (D := (dC, dI)) (ci := 1) (v := .int ((iC 9))) (C := RX1) (T := TX1) (N := 10) hx hb hts ki1 hown hK hP 18 rfl rfl 9 (by decide) kf55 (fun _ h9 => h9) rfl dX2_workOut_95 ?_
      refine lv_icmp_ge (tgt := 175) hx hb dX2_workOut_98 (by decide) (fun cz => ?_) (fun cz => ?_)
      · have h := g_t h cz
        exact B175 x_iK x_lK H locs ls h hP hD hS (lv_sub hl [0] rfl)
      · have h := g_f h cz
        refine lv_iload_n hx hb dX2_workOut_101 rfl (lv_at hl 1 rfl) ?_
        refine lv_bipush (v := 9) hx hb dX2_workOut_102 (by decide) ?_
        refine lv_icmp_ge (tgt := 175) hx hb dX2_workOut_104 (by decide) (fun cz => ?_) (fun cz => ?_)
        · have h := g_t h cz
          exact B175 x_iK x_lK H locs ls h hP hD hS (lv_sub hl [0] rfl)
        · have h := g_f h cz
          refine lv_iconst (v := 0) hx hb dX2_workOut_107 (by decide) ?_
          refine lv_istore_n (lv' := [(3, .int ((0 : Int32))), (0, .ref (ad 0)), (2, .int v2)]) hx hb dX2_workOut_108 rfl hl (by decide) rfl (fun ls hl => ?_)
          exact B109 N v2 x_iK (f_K_workOut_90 N iK lK aK iB lB aB iC aC x_iK n) (ih x_iK) ((0 : Int32)) x_lK H locs ls h hP hD hS (lv_sub hl [1, 2, 0] rfl)
  have B33 : ∀ (n : Nat) (x_iK : Nat → Int32) (v2 : Int32) (x_lK : Nat → Nat → Int64) (H : Heap) (locs : List Loc) (ls : Array Slot), f_K_workOut_33 N iK lK aK iB lB aB iC aC x_iK n v2 x_lK = some q → va_P (dC, dI) vwCl (zzK ad cy (ad 11) (ad 18) x_iK x_lK aK iB lB aB iC aC) H → va_D A (zzK ad cy (ad 11) (ad 18) x_iK x_lK aK iB lB aB iC aC) → va_S A s.heap H locs → lv_has ls 6 [(0, .ref (ad 0)), (2, .int v2)] → W p l e ({ frames := 6, cells := 0, slots := 0, locals := 148 } : Room) s m args below meth c H locs 0 0 QQ (F0 m 33 ls []) := by
    intro n
    induction n with
    | zero =>
      intro x_iK v2 x_lK H locs ls h hP hD hS hl
      rw [f_K_workOut_33] at h
      cases h
    | succ n ih =>
      intro x_iK v2 x_lK H locs ls h hP hD hS hl
      rw [f_K_workOut_33] at h
      refine lv_iload_n hx hb dX2_workOut_33 rfl (lv_at hl 1 rfl) ?_
      refine lv_aload_n hx hb dX2_workOut_34 rfl (lv_at hl 0 rfl) ?_
      refine va_get (D := (dC, dI)) (ci := 2) (v := .ref (ad 18)) (C := RX2) (T := TX2) (N := 15) hx hb hts ki2 hown hK hP 0 rfl rfl 1 (by decide) kf54 (fun _ h9 => h9) rfl dX2_workOut_35 ?_
      refine va_get (D := (dC, dI)) (ci := 1) (v := .int ((iC 4))) (C := RX1) (T := TX1) (N := 10) hx hb hts ki1 hown hK hP 18 rfl rfl 4 (by decide) kf70 (fun _ h9 => h9) rfl dX2_workOut_38 ?_
      refine lv_icmp_ge (tgt := 88) hx hb dX2_workOut_41 (by decide) (fun cz => ?_) (fun cz => ?_)
      · have h := g_t h cz
        refine lv_iconst (v := 0) hx hb dX2_workOut_88 (by decide) ?_
        refine lv_istore_n (lv' := [(2, .int ((0 : Int32))), (0, .ref (ad 0))]) hx hb dX2_workOut_89 rfl hl (by decide) rfl (fun ls hl => ?_)
        exact B90 N x_iK ((0 : Int32)) x_lK H locs ls h hP hD hS (lv_sub hl [1, 0] rfl)
      · have h := g_f h cz
        refine lv_iload_n hx hb dX2_workOut_44 rfl (lv_at hl 1 rfl) ?_
        refine lv_sipush (v := 200) hx hb dX2_workOut_45 (by decide) ?_
        refine lv_icmp_ge (tgt := 88) hx hb dX2_workOut_48 (by decide) (fun cz => ?_) (fun cz => ?_)
        · have h := g_t h cz
          refine lv_iconst (v := 0) hx hb dX2_workOut_88 (by decide) ?_
          refine lv_istore_n (lv' := [(2, .int ((0 : Int32))), (0, .ref (ad 0))]) hx hb dX2_workOut_89 rfl hl (by decide) rfl (fun ls hl => ?_)
          exact B90 N x_iK ((0 : Int32)) x_lK H locs ls h hP hD hS (lv_sub hl [1, 0] rfl)
        · have h := g_f h cz
          refine lv_iconst (v := 0) hx hb dX2_workOut_51 (by decide) ?_
          refine lv_istore_n (lv' := [(3, .int ((0 : Int32))), (0, .ref (ad 0)), (2, .int v2)]) hx hb dX2_workOut_52 rfl hl (by decide) rfl (fun ls hl => ?_)
          exact B53 N v2 x_iK (f_K_workOut_33 N iK lK aK iB lB aB iC aC x_iK n) (ih x_iK) ((0 : Int32)) x_lK H locs ls h hP hD hS (lv_sub hl [1, 2, 0] rfl)
  intro H locs hP hD hS
  unfold f_K_workOut at h
  refine lv_aload_n hx hb dX2_workOut_0 rfl (lv_at hl 0 rfl) ?_
  refine lv_aload_n hx hb dX2_workOut_1 rfl (lv_at hl 1 rfl) ?_
  refine va_put (D := (dC, dI)) (ci := 2) (v := .ref (ad 11)) (ty := (.object "TypeCourt$Book")) (C := RX2) (T := TX2) (N := 15) hx hb hts ki2 tyX2 tyX2_ok nmX2 hown hK hP hD hS 0 rfl rfl 0 (by decide) kf44 (fun _ h9 => h9) rfl (by decide +kernel) rfl rfl (Nat.le_of_ble_eq_true rfl) dX2_workOut_2 (fun H locs hP hD hS => ?_)
  have hP : va_P (dC, dI) vwCl (zzK ad cy (ad 11) kc iK lK aK iB lB aB iC aC) H := hP
  have hD : va_D A (zzK ad cy (ad 11) kc iK lK aK iB lB aB iC aC) := hD
  refine lv_aload_n hx hb dX2_workOut_5 rfl (lv_at hl 0 rfl) ?_
  refine lv_aload_n hx hb dX2_workOut_6 rfl (lv_at hl 1 rfl) ?_
  refine va_get (D := (dC, dI)) (ci := 0) (v := .ref (ad 18)) (C := RX0) (T := TX0) (N := 15) hx hb hts ki0 hown hK hP 11 rfl rfl 0 (by decide) kf48 (fun _ h9 => h9) rfl dX2_workOut_7 ?_
  refine va_put (D := (dC, dI)) (ci := 2) (v := .ref (ad 18)) (ty := (.object "TypeCourt$Concepts")) (C := RX2) (T := TX2) (N := 15) hx hb hts ki2 tyX2 tyX2_ok nmX2 hown hK hP hD hS 0 rfl rfl 1 (by decide) kf54 (fun _ h9 => h9) rfl (by decide +kernel) rfl rfl (Nat.le_of_ble_eq_true rfl) dX2_workOut_10 (fun H locs hP hD hS => ?_)
  have hP : va_P (dC, dI) vwCl (zzK ad cy (ad 11) (ad 18) iK lK aK iB lB aB iC aC) H := hP
  have hD : va_D A (zzK ad cy (ad 11) (ad 18) iK lK aK iB lB aB iC aC) := hD
  refine lv_aload_n hx hb dX2_workOut_13 rfl (lv_at hl 0 rfl) ?_
  refine lv_iconst (v := 1) hx hb dX2_workOut_14 (by decide) ?_
  refine lv_aload_n hx hb dX2_workOut_15 rfl (lv_at hl 0 rfl) ?_
  refine va_get (D := (dC, dI)) (ci := 2) (v := .ref (ad 18)) (C := RX2) (T := TX2) (N := 15) hx hb hts ki2 hown hK hP 0 rfl rfl 1 (by decide) kf54 (fun _ h9 => h9) rfl dX2_workOut_16 ?_
  refine va_get (D := (dC, dI)) (ci := 1) (v := .int ((iC 9))) (C := RX1) (T := TX1) (N := 10) hx hb hts ki1 hown hK hP 18 rfl rfl 9 (by decide) kf55 (fun _ h9 => h9) rfl dX2_workOut_19 ?_
  refine lv_bipush (v := 9) hx hb dX2_workOut_22 (by decide) ?_
  refine va_mmin hx hb (by rw [hml]; exact hl.1.symm) hown km1 km2 km3 km4 (Nat.le_of_ble_eq_true rfl) (Nat.le_of_ble_eq_true rfl) (Nat.zero_le _) (Nat.zero_le _) dX2_workOut_24 ?_
  refine lv_ishl hx hb dX2_workOut_27 ?_
  refine va_put (D := (dC, dI)) (ci := 2) (v := .int (((1 : Int32) <<< ((if (9 : Int32) < (iC 9) then (9 : Int32) else (iC 9)) &&& 31)))) (ty := .int) (C := RX2) (T := TX2) (N := 15) hx hb hts ki2 tyX2 tyX2_ok nmX2 hown hK hP hD hS 0 rfl rfl 2 (by decide) kf67 (fun _ h9 => h9) rfl (by decide +kernel) rfl rfl (Nat.le_of_ble_eq_true rfl) dX2_workOut_28 (fun H locs hP hD hS => ?_)
  have hP : va_P (dC, dI) vwCl (zzK ad cy (ad 11) (ad 18) (us iK [(2, ((1 : Int32) <<< ((if (9 : Int32) < (iC 9) then (9 : Int32) else (iC 9)) &&& 31)))]) lK aK iB lB aB iC aC) H := Eq.mp (congrArg (fun w => va_P (dC, dI) vwCl w H) (sfK_iK2 ad cy (ad 11) (ad 18) iK lK aK iB lB aB iC aC (((1 : Int32) <<< ((if (9 : Int32) < (iC 9) then (9 : Int32) else (iC 9)) &&& 31))))) hP
  have hD : va_D A (zzK ad cy (ad 11) (ad 18) (us iK [(2, ((1 : Int32) <<< ((if (9 : Int32) < (iC 9) then (9 : Int32) else (iC 9)) &&& 31)))]) lK aK iB lB aB iC aC) := Eq.mp (congrArg (fun w => va_D A w) (sfK_iK2 ad cy (ad 11) (ad 18) iK lK aK iB lB aB iC aC (((1 : Int32) <<< ((if (9 : Int32) < (iC 9) then (9 : Int32) else (iC 9)) &&& 31))))) hD
  refine lv_iconst (v := 0) hx hb dX2_workOut_31 (by decide) ?_
  refine lv_istore_n (lv' := [(2, .int ((0 : Int32))), (0, .ref (ad 0)), (1, .ref (ad 11))]) hx hb dX2_workOut_32 rfl hl (by decide) rfl (fun ls hl => ?_)
  exact B33 N ((us iK [(2, ((1 : Int32) <<< ((if (9 : Int32) < (iC 9) then (9 : Int32) else (iC 9)) &&& 31)))])) ((0 : Int32)) lK H locs ls h hP hD hS (lv_sub hl [1, 0] rfl)
