def f_K_leastMeeting_standing_176 (N : Nat) (iB13 : Int32) (iC9 : Int32) (aC5 : Nat → Int32) (lK4 : Nat → Int64) (lK9 : Nat → Int64) (aK5 : Nat → Int32) (aK6 : Nat → Int32) (k68 : Int32 → Option Int32) (v5 : Int32) (v6 : Int32) (v7 : Int32) (v8 : Int64) : Option Int32 := if v8 = (0 : Int64) then (k68 ((v7 + (1 : Int32)))) else ((f_K_lowestBit v8).bind fun q190 => (some (((64 : Int32) * v7) + q190)))
def f_K_leastMeeting_standing_91 (N : Nat) (iB13 : Int32) (iC9 : Int32) (aC5 : Nat → Int32) (lK4 : Nat → Int64) (lK9 : Nat → Int64) (aK5 : Nat → Int32) (aK6 : Nat → Int32) (k68 : Int32 → Option Int32) (v5 : Int32) (v6 : Int32) (v7 : Int32) : Nat → Int64 → Int32 → Option Int32
  | 0, _, _ => none
  | n + 1, v8, v10 => if (9 : Int32) ≤ v10 then (f_K_leastMeeting_standing_176 N iB13 iC9 aC5 lK4 lK9 aK5 aK6 k68 v5 v6 v7 v8) else (if v8 = (0 : Int64) then (f_K_leastMeeting_standing_176 N iB13 iC9 aC5 lK4 lK9 aK5 aK6 k68 v5 v6 v7 v8) else (if ((v5 >>> (v10 &&& 31)) &&& (1 : Int32)) = (1 : Int32) then (if ((v10 * (8 : Int32)) + v7) < 0 ∨ 72 ≤ (((v10 * (8 : Int32)) + v7)).toNatClampNeg then none else (f_K_leastMeeting_standing_91 N iB13 iC9 aC5 lK4 lK9 aK5 aK6 k68 v5 v6 v7 n ((v8 &&& (lK4 (((v10 * (8 : Int32)) + v7)).toNatClampNeg))) ((v10 + (1 : Int32))))) else (if ((v6 >>> (v10 &&& 31)) &&& (1 : Int32)) = (1 : Int32) then (if ((v10 * (8 : Int32)) + v7) < 0 ∨ 72 ≤ (((v10 * (8 : Int32)) + v7)).toNatClampNeg then none else (f_K_leastMeeting_standing_91 N iB13 iC9 aC5 lK4 lK9 aK5 aK6 k68 v5 v6 v7 n ((v8 &&& ((lK4 (((v10 * (8 : Int32)) + v7)).toNatClampNeg) ^^^ (-1 : Int64)))) ((v10 + (1 : Int32))))) else (f_K_leastMeeting_standing_91 N iB13 iC9 aC5 lK4 lK9 aK5 aK6 k68 v5 v6 v7 n v8 ((v10 + (1 : Int32)))))))
def f_K_leastMeeting_standing_68 (N : Nat) (iB13 : Int32) (iC9 : Int32) (aC5 : Nat → Int32) (lK4 : Nat → Int64) (lK9 : Nat → Int64) (aK5 : Nat → Int32) (aK6 : Nat → Int32) (v5 : Int32) (v6 : Int32) : Nat → Int32 → Option Int32
  | 0, _ => none
  | n + 1, v7 => if (8 : Int32) ≤ v7 then (some (-1 : Int32)) else (if (8 : Int32) ≤ v7 then (some (-1 : Int32)) else (if v7 < 0 ∨ 8 ≤ v7.toNatClampNeg then none else (f_K_leastMeeting_standing_91 N iB13 iC9 aC5 lK4 lK9 aK5 aK6 (f_K_leastMeeting_standing_68 N iB13 iC9 aC5 lK4 lK9 aK5 aK6 v5 v6 n) v5 v6 v7 N ((lK9 v7.toNatClampNeg)) ((0 : Int32)))))
def f_K_leastMeeting_standing_50 (N : Nat) (iB13 : Int32) (iC9 : Int32) (aC5 : Nat → Int32) (lK4 : Nat → Int64) (lK9 : Nat → Int64) (aK5 : Nat → Int32) (aK6 : Nat → Int32) (v1 : Int32) (v4 : Int32) (s0 : Int32) : Option Int32 := if v4 < 0 ∨ 3 ≤ v4.toNatClampNeg then none else (f_K_leastMeeting_standing_68 N iB13 iC9 aC5 lK4 lK9 aK5 aK6 s0 (((aK6 v4.toNatClampNeg) &&& (v1 ^^^ (-1 : Int32)))) N ((0 : Int32)))
def f_K_leastMeeting_standing (N : Nat) (a1 : Int32) (a2 : Int32) (iB13 : Int32) (iC9 : Int32) (aC5 : Nat → Int32) (lK4 : Nat → Int64) (lK9 : Nat → Int64) (aK5 : Nat → Int32) (aK6 : Nat → Int32) : Option Int32 := (f_C_roleOfAtom a2 iC9 aC5).bind fun q5 => (if q5 < 0 then (some (-1 : Int32)) else (if q5 < (3 : Int32) then ((f_B_isSingle q5 iB13).bind fun q29 => (if q29 = 0 then (f_K_leastMeeting_standing_50 N iB13 iC9 aC5 lK4 lK9 aK5 aK6 a1 q5 (((1 : Int32) <<< (a2 &&& 31)))) else (if q5 < 0 ∨ 3 ≤ q5.toNatClampNeg then none else (f_K_leastMeeting_standing_50 N iB13 iC9 aC5 lK4 lK9 aK5 aK6 a1 q5 (((aK5 q5.toNatClampNeg) &&& a1)))))) else (some (-1 : Int32))))
set_option maxHeartbeats 8000000 in
set_option maxRecDepth 100000 in
theorem c_K_leastMeeting_standing (l : Launch) (dC : Nat → ClassId) (dI : Nat → Nat → Nat) (cy : Nat → ClassId) (ad : Nat → Nat) (sz : Nat) (N : Nat) (a1 : Int32) (a2 : Int32) (iK : Nat → Int32) (lK : Nat → Nat → Int64) (aK : Nat → Nat → Int32) (iB : Nat → Int32) (lB : Nat → Nat → Int64) (aB : Nat → Nat → Int32) (iC : Nat → Int32) (aC : Nat → Nat → Int32) (q : Int32) (h : f_K_leastMeeting_standing N a1 a2 (iB 13) (iC 9) (aC 5) (lK 4) (lK 9) (aK 5) (aK 6) = some q) : Met l yX2_leastMeeting wsX2_leastMeeting ({ frames := 2, cells := 0, slots := 0, locals := 42 } : Room) (cP (dC, dI) cy [.ref (ad 0), .int a1, .int a2, .ref (ad 6)] (zzK ad cy (ad 11) (ad 18) iK lK aK iB lB aB iC aC) sz) (cQi (dC, dI) cy q (zzK ad cy (ad 11) (ad 18) iK lK aK iB lB aB iC aC) (va_A (zzK ad cy (ad 11) (ad 18) iK lK aK iB lB aB iC aC) sz)) 0 0 (va_A (zzK ad cy (ad 11) (ad 18) iK lK aK iB lB aB iC aC) sz) := by
  refine Met.ofW (cc := cX2_leastMeeting) (maxL := 11) (ret := (some .int)) (by decide) rfl ?_
  intro p e s m args below meth c s₁ B hml hv
  obtain ⟨hav, hsz, hP, hK, hD0, hN⟩ := hv
  have hx := B.exec
  have hb := B.bytes
  have hr := B.returns
  have hts := atoms_spec (ws := wsX2_leastMeeting) B.pre
  have hown : s.vm.findClass RX2 = some m.cls := findClass_of_methodNamed B.named
  have hlocks := B.notSynchronized
  subst hsz
  have hD := hD0.self (sz := s.heap.size)
  generalize hAe : va_A (zzK ad cy (ad 11) (ad 18) iK lK aK iB lB aB iC aC) s.heap.size = A at hD ⊢
  have hA : ∀ q : Nat, s.heap.size ≤ q → A q := fun q h => by rw [← hAe]; exact Or.inr h
  have hS : va_S A s.heap s.heap [] := va_S.rf
  generalize hWQ : (zzK ad cy (ad 11) (ad 18) iK lK aK iB lB aB iC aC) = WQ
  generalize hQQ : MQ below (cQi (dC, dI) cy q WQ A) args s 0 0 A = QQ
  have hl := lv_entry ([.ref (ad 0), .int a1, .int a2, .ref (ad 6)] : List Value) (n := 11) (Nat.le_of_ble_eq_true rfl)
  have hfr := lg_entry_eq m ([.ref (ad 0), .int a1, .int a2, .ref (ad 6)] : List Value) 11
  rw [← hav] at hfr
  rw [hfr]
  clear hfr hav
  generalize (lg_sl ([.ref (ad 0), .int a1, .int a2, .ref (ad 6)] : List Value) ++ List.replicate (11 - (lg_sl ([.ref (ad 0), .int a1, .int a2, .ref (ad 6)] : List Value)).length) Slot.unset).toArray = ls at hl ⊢
  have hl : lv_has ls 11 [(0, .ref (ad 0)), (1, .int a1), (2, .int a2), (3, .ref (ad 6))] := hl
  have kf15 := hts _ (List.mem_cons_of_mem _ m_fl_X2_15)
  have ki2 := (fun w h => List.mem_cons_of_mem _ (i_X2 w h) : ∀ w ∈ u_ws RX2 TX2 15, w ∈ wsX2_leastMeeting)
  have kc88 := hts _ (List.mem_cons_of_mem _ m_kl_X2_88)
  have kf22 := hts _ (List.mem_cons_of_mem _ m_fl_X2_22)
  have kf54 := hts _ (List.mem_cons_of_mem _ m_fl_X2_54)
  have kf44 := hts _ (List.mem_cons_of_mem _ m_fl_X2_44)
  have kf18 := hts _ (List.mem_cons_of_mem _ m_fl_X2_18)
  refine (?_ : ∀ (H : Heap) (locs : List Loc), va_P (dC, dI) vwCl (zzK ad cy (ad 11) (ad 18) iK lK aK iB lB aB iC aC) H → va_D A (zzK ad cy (ad 11) (ad 18) iK lK aK iB lB aB iC aC) → va_S A s.heap H locs → W p l e ({ frames := 2, cells := 0, slots := 0, locals := 42 } : Room) s m args below meth c H locs 0 0 QQ (F0 m 0 ls [])) s.heap [] hP hD hS
  clear hP hD hS
  have B176 : ∀ (v5 : Int32) (v6 : Int32) (v7 : Int32) (v8 : Int64) (k68 : Int32 → Option Int32) (hk68 : ∀ (v7' : Int32) (H : Heap) (locs : List Loc) (ls : Array Slot), k68 v7' = some q → va_P (dC, dI) vwCl (zzK ad cy (ad 11) (ad 18) iK lK aK iB lB aB iC aC) H → va_D A (zzK ad cy (ad 11) (ad 18) iK lK aK iB lB aB iC aC) → va_S A s.heap H locs → lv_has ls 11 [(0, .ref (ad 0)), (3, .ref (ad 6)), (5, .int v5), (6, .int v6), (7, .int v7')] → W p l e ({ frames := 2, cells := 0, slots := 0, locals := 42 } : Room) s m args below meth c H locs 0 0 QQ (F0 m 68 ls [])) (H : Heap) (locs : List Loc) (ls : Array Slot), f_K_leastMeeting_standing_176 N (iB 13) (iC 9) (aC 5) (lK 4) (lK 9) (aK 5) (aK 6) k68 v5 v6 v7 v8 = some q → va_P (dC, dI) vwCl (zzK ad cy (ad 11) (ad 18) iK lK aK iB lB aB iC aC) H → va_D A (zzK ad cy (ad 11) (ad 18) iK lK aK iB lB aB iC aC) → va_S A s.heap H locs → lv_has ls 11 [(0, .ref (ad 0)), (3, .ref (ad 6)), (5, .int v5), (6, .int v6), (7, .int v7), (8, .long v8)] → W p l e ({ frames := 2, cells := 0, slots := 0, locals := 42 } : Room) s m args below meth c H locs 0 0 QQ (F0 m 176 ls []) := by
    intro v5 v6 v7 v8 k68 hk68 H locs ls h hP hD hS hl
    unfold f_K_leastMeeting_standing_176 at h
    refine lv_lload hx hb dX2_leastMeeting_176 (lv_at hl 5 rfl) ?_
    refine lv_lconst (v := 0) hx hb dX2_leastMeeting_178 (by decide) ?_
    refine W.lcmp hx hb dX2_leastMeeting_179 ?_
    refine lv_if_eq (tgt := 195) hx hb dX2_leastMeeting_180 (by decide) (fun cz => ?_) (fun cz => ?_)
    · have h := g_t h (lg_cmp0.mp cz)
      refine lv_iinc (v := (v7 + (1 : Int32))) (lv' := [(7, .int ((v7 + (1 : Int32)))), (0, .ref (ad 0)), (3, .ref (ad 6)), (5, .int v5), (6, .int v6), (8, .long v8)]) hx hb dX2_leastMeeting_195 hl (k := 4) rfl rfl (by decide) rfl (fun ls hl => ?_)
      refine lv_goto (tgt := 68) hx hb dX2_leastMeeting_198 (by decide) ?_
      exact hk68 ((v7 + (1 : Int32))) H locs ls h hP hD hS (lv_sub hl [1, 2, 3, 4, 0] rfl)
    · have h := g_f h (fun z => cz (lg_cmp0.mpr z))
      refine lv_bipush (v := 64) hx hb dX2_leastMeeting_183 (by decide) ?_
      refine lv_iload hx hb dX2_leastMeeting_185 (lv_at hl 4 rfl) ?_
      refine lv_imul hx hb dX2_leastMeeting_187 ?_
      refine lv_lload hx hb dX2_leastMeeting_188 (lv_at hl 5 rfl) ?_
      obtain ⟨q190, e190, h⟩ := g_b h
      refine callSi (cc := cX2_leastMeeting) (ws' := zzK ad cy (ad 11) (ad 18) iK lK aK iB lB aB iC aC) (As := [.long v8]) (rest := [.int (((64 : Int32) * v7))]) ⟨hx, hb, hml, hown, hts⟩ (c_K_lowestBit l dC dI cy ad H.size v8 q190 e190) (va_cwS 1 hts (goodS m_ml_X2_180 m_st_X2_lowestBit m_in_X2 m_cd_X2_lowestBit) rfl rfl rfl (by decide +kernel) ⟨Nat.le_of_ble_eq_true rfl, Nat.le_of_ble_eq_true rfl⟩) hN hK hP hD hS hA [] [none, none, none, none, none, none, none, none, none, none, none, none, none, none, none, none, none, none, none, none, none, none, none, none, none, none, none] rfl rfl rfl rfl rfl rfl rfl hl.1 rfl (Nat.le_of_ble_eq_true rfl) dX2_leastMeeting_190 ⟨Nat.zero_le _, Nat.zero_le _⟩ (fun H locs hP hD hS => ?_)
      refine lv_iadd hx hb dX2_leastMeeting_193 ?_
      have h' := Option.some.inj h
      rw [← hQQ]
      exact W.iret (v := (((64 : Int32) * v7) + q190)) hx hb hr (fun t ht hW => ⟨⟨(((64 : Int32) * v7) + q190), (), rfl, by rw [← h'], by rw [← hWQ, ht]; exact hP, va_K.moved hW.alike hK⟩, hS.F ht⟩) hS.2.2 dX2_leastMeeting_194
  have B91 : ∀ (n : Nat) (v5 : Int32) (v6 : Int32) (v7 : Int32) (k68 : Int32 → Option Int32) (hk68 : ∀ (v7' : Int32) (H : Heap) (locs : List Loc) (ls : Array Slot), k68 v7' = some q → va_P (dC, dI) vwCl (zzK ad cy (ad 11) (ad 18) iK lK aK iB lB aB iC aC) H → va_D A (zzK ad cy (ad 11) (ad 18) iK lK aK iB lB aB iC aC) → va_S A s.heap H locs → lv_has ls 11 [(0, .ref (ad 0)), (3, .ref (ad 6)), (5, .int v5), (6, .int v6), (7, .int v7')] → W p l e ({ frames := 2, cells := 0, slots := 0, locals := 42 } : Room) s m args below meth c H locs 0 0 QQ (F0 m 68 ls [])) (v8 : Int64) (v10 : Int32) (H : Heap) (locs : List Loc) (ls : Array Slot), f_K_leastMeeting_standing_91 N (iB 13) (iC 9) (aC 5) (lK 4) (lK 9) (aK 5) (aK 6) k68 v5 v6 v7 n v8 v10 = some q → va_P (dC, dI) vwCl (zzK ad cy (ad 11) (ad 18) iK lK aK iB lB aB iC aC) H → va_D A (zzK ad cy (ad 11) (ad 18) iK lK aK iB lB aB iC aC) → va_S A s.heap H locs → lv_has ls 11 [(0, .ref (ad 0)), (3, .ref (ad 6)), (5, .int v5), (6, .int v6), (7, .int v7), (8, .long v8), (10, .int v10)] → W p l e ({ frames := 2, cells := 0, slots := 0, locals := 42 } : Room) s m args below meth c H locs 0 0 QQ (F0 m 91 ls []) := by
    intro n
    induction n with
    | zero =>
      intro v5 v6 v7 k68 hk68 v8 v10 H locs ls h hP hD hS hl
      rw [f_K_leastMeeting_standing_91] at h
      cases h
    | succ n ih =>
      intro v5 v6 v7 k68 hk68 v8 v10 H locs ls h hP hD hS hl
      rw [f_K_leastMeeting_standing_91] at h
      refine lv_iload hx hb dX2_leastMeeting_91 (lv_at hl 6 rfl) ?_
      refine lv_bipush (v := 9) hx hb dX2_leastMeeting_93 (by decide) ?_
      refine lv_icmp_ge (tgt := 176) hx hb dX2_leastMeeting_95 (by decide) (fun cz => ?_) (fun cz => ?_)
      · have h := g_t h cz
        exact B176 v5 v6 v7 v8 k68 hk68 H locs ls h hP hD hS (lv_sub hl [0, 1, 2, 3, 4, 5] rfl)
      · have h := g_f h cz
        refine lv_lload hx hb dX2_leastMeeting_98 (lv_at hl 5 rfl) ?_
        refine lv_lconst (v := 0) hx hb dX2_leastMeeting_100 (by decide) ?_
        refine W.lcmp hx hb dX2_leastMeeting_101 ?_
        refine lv_if_eq (tgt := 176) hx hb dX2_leastMeeting_102 (by decide) (fun cz => ?_) (fun cz => ?_)
        · have h := g_t h (lg_cmp0.mp cz)
          exact B176 v5 v6 v7 v8 k68 hk68 H locs ls h hP hD hS (lv_sub hl [0, 1, 2, 3, 4, 5] rfl)
        · have h := g_f h (fun z => cz (lg_cmp0.mpr z))
          refine lv_iload hx hb dX2_leastMeeting_105 (lv_at hl 2 rfl) ?_
          refine lv_iload hx hb dX2_leastMeeting_107 (lv_at hl 6 rfl) ?_
          refine lv_ishr hx hb dX2_leastMeeting_109 ?_
          refine lv_iconst (v := 1) hx hb dX2_leastMeeting_110 (by decide) ?_
          refine lv_iand hx hb dX2_leastMeeting_111 ?_
          refine lv_iconst (v := 1) hx hb dX2_leastMeeting_112 (by decide) ?_
          refine lv_icmp_ne (tgt := 137) hx hb dX2_leastMeeting_113 (by decide) (fun cz => ?_) (fun cz => ?_)
          · have h := g_f h cz
            refine lv_iload hx hb dX2_leastMeeting_137 (lv_at hl 3 rfl) ?_
            refine lv_iload hx hb dX2_leastMeeting_139 (lv_at hl 6 rfl) ?_
            refine lv_ishr hx hb dX2_leastMeeting_141 ?_
            refine lv_iconst (v := 1) hx hb dX2_leastMeeting_142 (by decide) ?_
            refine lv_iand hx hb dX2_leastMeeting_143 ?_
            refine lv_iconst (v := 1) hx hb dX2_leastMeeting_144 (by decide) ?_
            refine lv_icmp_ne (tgt := 170) hx hb dX2_leastMeeting_145 (by decide) (fun cz => ?_) (fun cz => ?_)
            · have h := g_f h cz
              refine lv_iinc (v := (v10 + (1 : Int32))) (lv' := [(10, .int ((v10 + (1 : Int32)))), (0, .ref (ad 0)), (3, .ref (ad 6)), (5, .int v5), (6, .int v6), (7, .int v7), (8, .long v8)]) hx hb dX2_leastMeeting_170 hl (k := 6) rfl rfl (by decide) rfl (fun ls hl => ?_)
              refine lv_goto (tgt := 91) hx hb dX2_leastMeeting_173 (by decide) ?_
              exact ih v5 v6 v7 k68 hk68 v8 ((v10 + (1 : Int32))) H locs ls h hP hD hS (lv_sub hl [1, 2, 3, 4, 5, 6, 0] rfl)
            · have h := g_t h cz
              refine lv_lload hx hb dX2_leastMeeting_148 (lv_at hl 5 rfl) ?_
              refine lv_aload_n hx hb dX2_leastMeeting_150 rfl (lv_at hl 0 rfl) ?_
              refine va_get (D := (dC, dI)) (ci := 2) (v := .ref (ad 2)) (C := RX2) (T := TX2) (N := 15) hx hb hts ki2 hown hK hP 0 rfl rfl 4 (by decide) kf15 (fun _ h9 => h9) rfl dX2_leastMeeting_151 ?_
              refine lv_iload hx hb dX2_leastMeeting_154 (lv_at hl 6 rfl) ?_
              refine lv_bipush (v := 8) hx hb dX2_leastMeeting_156 (by decide) ?_
              refine lv_imul hx hb dX2_leastMeeting_158 ?_
              refine lv_iload hx hb dX2_leastMeeting_159 (lv_at hl 4 rfl) ?_
              refine lv_iadd hx hb dX2_leastMeeting_161 ?_
              obtain ⟨g_25, h⟩ := g_n h
              refine va_lald (f := (lK 4)) hx hb hK hP 2 2 rfl rfl g_25 dX2_leastMeeting_162 ?_
              refine lv_ldc2 (v := (-1)) hx hb hown kc88 dX2_leastMeeting_163 ?_
              refine lv_lxor hx hb dX2_leastMeeting_166 ?_
              refine lv_land hx hb dX2_leastMeeting_167 ?_
              refine lv_lstore (lv' := [(8, .long ((v8 &&& (((lK 4) (((v10 * (8 : Int32)) + v7)).toNatClampNeg) ^^^ (-1 : Int64))))), (0, .ref (ad 0)), (3, .ref (ad 6)), (5, .int v5), (6, .int v6), (7, .int v7), (10, .int v10)]) hx hb dX2_leastMeeting_168 hl (by decide) rfl (fun ls hl => ?_)
              refine lv_iinc (v := (v10 + (1 : Int32))) (lv' := [(10, .int ((v10 + (1 : Int32)))), (8, .long ((v8 &&& (((lK 4) (((v10 * (8 : Int32)) + v7)).toNatClampNeg) ^^^ (-1 : Int64))))), (0, .ref (ad 0)), (3, .ref (ad 6)), (5, .int v5), (6, .int v6), (7, .int v7)]) hx hb dX2_leastMeeting_170 hl (k := 6) rfl rfl (by decide) rfl (fun ls hl => ?_)
              refine lv_goto (tgt := 91) hx hb dX2_leastMeeting_173 (by decide) ?_
              exact ih v5 v6 v7 k68 hk68 ((v8 &&& (((lK 4) (((v10 * (8 : Int32)) + v7)).toNatClampNeg) ^^^ (-1 : Int64)))) ((v10 + (1 : Int32))) H locs ls h hP hD hS (lv_sub hl [2, 3, 4, 5, 6, 1, 0] rfl)
          · have h := g_t h cz
            refine lv_lload hx hb dX2_leastMeeting_116 (lv_at hl 5 rfl) ?_
            refine lv_aload_n hx hb dX2_leastMeeting_118 rfl (lv_at hl 0 rfl) ?_
            refine va_get (D := (dC, dI)) (ci := 2) (v := .ref (ad 2)) (C := RX2) (T := TX2) (N := 15) hx hb hts ki2 hown hK hP 0 rfl rfl 4 (by decide) kf15 (fun _ h9 => h9) rfl dX2_leastMeeting_119 ?_
            refine lv_iload hx hb dX2_leastMeeting_122 (lv_at hl 6 rfl) ?_
            refine lv_bipush (v := 8) hx hb dX2_leastMeeting_124 (by decide) ?_
            refine lv_imul hx hb dX2_leastMeeting_126 ?_
            refine lv_iload hx hb dX2_leastMeeting_127 (lv_at hl 4 rfl) ?_
            refine lv_iadd hx hb dX2_leastMeeting_129 ?_
            obtain ⟨g_25, h⟩ := g_n h
            refine va_lald (f := (lK 4)) hx hb hK hP 2 2 rfl rfl g_25 dX2_leastMeeting_130 ?_
            refine lv_land hx hb dX2_leastMeeting_131 ?_
            refine lv_lstore (lv' := [(8, .long ((v8 &&& ((lK 4) (((v10 * (8 : Int32)) + v7)).toNatClampNeg)))), (0, .ref (ad 0)), (3, .ref (ad 6)), (5, .int v5), (6, .int v6), (7, .int v7), (10, .int v10)]) hx hb dX2_leastMeeting_132 hl (by decide) rfl (fun ls hl => ?_)
            refine lv_goto (tgt := 170) hx hb dX2_leastMeeting_134 (by decide) ?_
            refine lv_iinc (v := (v10 + (1 : Int32))) (lv' := [(10, .int ((v10 + (1 : Int32)))), (8, .long ((v8 &&& ((lK 4) (((v10 * (8 : Int32)) + v7)).toNatClampNeg)))), (0, .ref (ad 0)), (3, .ref (ad 6)), (5, .int v5), (6, .int v6), (7, .int v7)]) hx hb dX2_leastMeeting_170 hl (k := 6) rfl rfl (by decide) rfl (fun ls hl => ?_)
            refine lv_goto (tgt := 91) hx hb dX2_leastMeeting_173 (by decide) ?_
            exact ih v5 v6 v7 k68 hk68 ((v8 &&& ((lK 4) (((v10 * (8 : Int32)) + v7)).toNatClampNeg))) ((v10 + (1 : Int32))) H locs ls h hP hD hS (lv_sub hl [2, 3, 4, 5, 6, 1, 0] rfl)
  have B68 : ∀ (n : Nat) (v5 : Int32) (v6 : Int32) (v7 : Int32) (H : Heap) (locs : List Loc) (ls : Array Slot), f_K_leastMeeting_standing_68 N (iB 13) (iC 9) (aC 5) (lK 4) (lK 9) (aK 5) (aK 6) v5 v6 n v7 = some q → va_P (dC, dI) vwCl (zzK ad cy (ad 11) (ad 18) iK lK aK iB lB aB iC aC) H → va_D A (zzK ad cy (ad 11) (ad 18) iK lK aK iB lB aB iC aC) → va_S A s.heap H locs → lv_has ls 11 [(0, .ref (ad 0)), (3, .ref (ad 6)), (5, .int v5), (6, .int v6), (7, .int v7)] → W p l e ({ frames := 2, cells := 0, slots := 0, locals := 42 } : Room) s m args below meth c H locs 0 0 QQ (F0 m 68 ls []) := by
    intro n
    induction n with
    | zero =>
      intro v5 v6 v7 H locs ls h hP hD hS hl
      rw [f_K_leastMeeting_standing_68] at h
      cases h
    | succ n ih =>
      intro v5 v6 v7 H locs ls h hP hD hS hl
      rw [f_K_leastMeeting_standing_68] at h
      refine lv_iload hx hb dX2_leastMeeting_68 (lv_at hl 4 rfl) ?_
      refine lv_bipush (v := 8) hx hb dX2_leastMeeting_70 (by decide) ?_
      refine lv_icmp_ge (tgt := 201) hx hb dX2_leastMeeting_72 (by decide) (fun cz => ?_) (fun cz => ?_)
      · have h := g_t h cz
        refine lv_iconst (v := (-1)) hx hb dX2_leastMeeting_201 (by decide) ?_
        have h' := Option.some.inj h
        rw [← hQQ]
        exact W.iret (v := (-1 : Int32)) hx hb hr (fun t ht hW => ⟨⟨(-1 : Int32), (), rfl, by rw [← h'], by rw [← hWQ, ht]; exact hP, va_K.moved hW.alike hK⟩, hS.F ht⟩) hS.2.2 dX2_leastMeeting_202
      · have h := g_f h cz
        refine lv_iload hx hb dX2_leastMeeting_75 (lv_at hl 4 rfl) ?_
        refine lv_aload_n hx hb dX2_leastMeeting_77 rfl (lv_at hl 1 rfl) ?_
        refine va_alen (v := (8 : Int32)) hx hb hK hP 6 2 rfl rfl rfl dX2_leastMeeting_78 ?_
        refine lv_icmp_ge (tgt := 201) hx hb dX2_leastMeeting_79 (by decide) (fun cz => ?_) (fun cz => ?_)
        · have h := g_t h cz
          refine lv_iconst (v := (-1)) hx hb dX2_leastMeeting_201 (by decide) ?_
          have h' := Option.some.inj h
          rw [← hQQ]
          exact W.iret (v := (-1 : Int32)) hx hb hr (fun t ht hW => ⟨⟨(-1 : Int32), (), rfl, by rw [← h'], by rw [← hWQ, ht]; exact hP, va_K.moved hW.alike hK⟩, hS.F ht⟩) hS.2.2 dX2_leastMeeting_202
        · have h := g_f h cz
          refine lv_aload_n hx hb dX2_leastMeeting_82 rfl (lv_at hl 1 rfl) ?_
          refine lv_iload hx hb dX2_leastMeeting_83 (lv_at hl 4 rfl) ?_
          obtain ⟨g_26, h⟩ := g_n h
          refine va_lald (f := (lK 9)) hx hb hK hP 6 2 rfl rfl g_26 dX2_leastMeeting_85 ?_
          refine lv_lstore (lv' := [(8, .long (((lK 9) v7.toNatClampNeg))), (0, .ref (ad 0)), (3, .ref (ad 6)), (5, .int v5), (6, .int v6), (7, .int v7)]) hx hb dX2_leastMeeting_86 hl (by decide) rfl (fun ls hl => ?_)
          refine lv_iconst (v := 0) hx hb dX2_leastMeeting_88 (by decide) ?_
          refine lv_istore (lv' := [(10, .int ((0 : Int32))), (8, .long (((lK 9) v7.toNatClampNeg))), (0, .ref (ad 0)), (3, .ref (ad 6)), (5, .int v5), (6, .int v6), (7, .int v7)]) hx hb dX2_leastMeeting_89 hl (by decide) rfl (fun ls hl => ?_)
          exact B91 N v5 v6 v7 (f_K_leastMeeting_standing_68 N (iB 13) (iC 9) (aC 5) (lK 4) (lK 9) (aK 5) (aK 6) v5 v6 n) (ih v5 v6) (((lK 9) v7.toNatClampNeg)) ((0 : Int32)) H locs ls h hP hD hS (lv_sub hl [2, 3, 4, 5, 6, 1, 0] rfl)
  have B50 : ∀ (v1 : Int32) (v4 : Int32) (s0 : Int32) (H : Heap) (locs : List Loc) (ls : Array Slot), f_K_leastMeeting_standing_50 N (iB 13) (iC 9) (aC 5) (lK 4) (lK 9) (aK 5) (aK 6) v1 v4 s0 = some q → va_P (dC, dI) vwCl (zzK ad cy (ad 11) (ad 18) iK lK aK iB lB aB iC aC) H → va_D A (zzK ad cy (ad 11) (ad 18) iK lK aK iB lB aB iC aC) → va_S A s.heap H locs → lv_has ls 11 [(0, .ref (ad 0)), (1, .int v1), (3, .ref (ad 6)), (4, .int v4)] → W p l e ({ frames := 2, cells := 0, slots := 0, locals := 42 } : Room) s m args below meth c H locs 0 0 QQ (F0 m 50 ls [.int s0]) := by
    intro v1 v4 s0 H locs ls h hP hD hS hl
    unfold f_K_leastMeeting_standing_50 at h
    refine lv_istore (lv' := [(5, .int s0), (0, .ref (ad 0)), (1, .int v1), (3, .ref (ad 6)), (4, .int v4)]) hx hb dX2_leastMeeting_50 hl (by decide) rfl (fun ls hl => ?_)
    refine lv_aload_n hx hb dX2_leastMeeting_52 rfl (lv_at hl 1 rfl) ?_
    refine va_get (D := (dC, dI)) (ci := 2) (v := .ref (ad 4)) (C := RX2) (T := TX2) (N := 15) hx hb hts ki2 hown hK hP 0 rfl rfl 6 (by decide) kf22 (fun _ h9 => h9) rfl dX2_leastMeeting_53 ?_
    refine lv_iload hx hb dX2_leastMeeting_56 (lv_at hl 4 rfl) ?_
    obtain ⟨g_17, h⟩ := g_n h
    refine va_iald (f := (aK 6)) hx hb hK hP 4 0 rfl rfl g_17 dX2_leastMeeting_58 ?_
    refine lv_iload_n hx hb dX2_leastMeeting_59 rfl (lv_at hl 2 rfl) ?_
    refine lv_iconst (v := (-1)) hx hb dX2_leastMeeting_60 (by decide) ?_
    refine lv_ixor hx hb dX2_leastMeeting_61 ?_
    refine lv_iand hx hb dX2_leastMeeting_62 ?_
    refine lv_istore (lv' := [(6, .int ((((aK 6) v4.toNatClampNeg) &&& (v1 ^^^ (-1 : Int32))))), (5, .int s0), (0, .ref (ad 0)), (1, .int v1), (3, .ref (ad 6)), (4, .int v4)]) hx hb dX2_leastMeeting_63 hl (by decide) rfl (fun ls hl => ?_)
    refine lv_iconst (v := 0) hx hb dX2_leastMeeting_65 (by decide) ?_
    refine lv_istore (lv' := [(7, .int ((0 : Int32))), (6, .int ((((aK 6) v4.toNatClampNeg) &&& (v1 ^^^ (-1 : Int32))))), (5, .int s0), (0, .ref (ad 0)), (1, .int v1), (3, .ref (ad 6)), (4, .int v4)]) hx hb dX2_leastMeeting_66 hl (by decide) rfl (fun ls hl => ?_)
    exact B68 N s0 ((((aK 6) v4.toNatClampNeg) &&& (v1 ^^^ (-1 : Int32)))) ((0 : Int32)) H locs ls h hP hD hS (lv_sub hl [3, 5, 2, 1, 0] rfl)
  intro H locs hP hD hS
  unfold f_K_leastMeeting_standing at h
  refine lv_aload_n hx hb dX2_leastMeeting_0 rfl (lv_at hl 0 rfl) ?_
  refine va_get (D := (dC, dI)) (ci := 2) (v := .ref (ad 18)) (C := RX2) (T := TX2) (N := 15) hx hb hts ki2 hown hK hP 0 rfl rfl 1 (by decide) kf54 (fun _ h9 => h9) rfl dX2_leastMeeting_1 ?_
  refine lv_iload_n hx hb dX2_leastMeeting_4 rfl (lv_at hl 2 rfl) ?_
  obtain ⟨q5, e5, h⟩ := g_b h
  refine callVi (cc := cX2_leastMeeting) (ws' := zzK ad cy (ad 11) (ad 18) iK lK aK iB lB aB iC aC) (As := [.int a2]) (rest := []) ⟨hx, hb, hml, hown, hts⟩ (c_C_roleOfAtom l dC dI cy (fun i => ad (i + 18)) H.size a2 iC aC q5 e5) (cwV 1 hts (goodV m_ml_X2_147 m_im_X1_roleOfAtom m_se_X1_roleOfAtom m_in_X1 m_cd_X1_roleOfAtom) rfl rfl rfl (by decide +kernel) ⟨Nat.le_of_ble_eq_true rfl, Nat.le_of_ble_eq_true rfl⟩) hN hK hP hD hS hA [18, 19, 20, 21, 22, 23, 24, 25, 26] [none, none, none, none, none, none, none, none, none, none, none, none, none, none, none, none, none, none, some 0, some 1, some 2, some 3, some 4, some 5, some 6, some 7, some 8] rfl rfl rfl rfl rfl rfl 18 rfl rfl rfl hl.1 rfl (Nat.le_of_ble_eq_true rfl) dX2_leastMeeting_5 ⟨Nat.zero_le _, Nat.zero_le _⟩ (fun H locs hP hD hS => ?_)
  refine lv_istore (lv' := [(4, .int q5), (0, .ref (ad 0)), (1, .int a1), (2, .int a2), (3, .ref (ad 6))]) hx hb dX2_leastMeeting_8 hl (by decide) rfl (fun ls hl => ?_)
  refine lv_iload hx hb dX2_leastMeeting_10 (lv_at hl 0 rfl) ?_
  refine lv_if_lt (tgt := 21) hx hb dX2_leastMeeting_12 (by decide) (fun cz => ?_) (fun cz => ?_)
  · have h := g_t h cz
    refine lv_iconst (v := (-1)) hx hb dX2_leastMeeting_21 (by decide) ?_
    have h' := Option.some.inj h
    rw [← hQQ]
    exact W.iret (v := (-1 : Int32)) hx hb hr (fun t ht hW => ⟨⟨(-1 : Int32), (), rfl, by rw [← h'], by rw [← hWQ, ht]; exact hP, va_K.moved hW.alike hK⟩, hS.F ht⟩) hS.2.2 dX2_leastMeeting_22
  · have h := g_f h cz
    refine lv_iload hx hb dX2_leastMeeting_15 (lv_at hl 0 rfl) ?_
    refine lv_iconst (v := 3) hx hb dX2_leastMeeting_17 (by decide) ?_
    refine lv_icmp_lt (tgt := 23) hx hb dX2_leastMeeting_18 (by decide) (fun cz => ?_) (fun cz => ?_)
    · have h := g_t h cz
      refine lv_aload_n hx hb dX2_leastMeeting_23 rfl (lv_at hl 1 rfl) ?_
      refine va_get (D := (dC, dI)) (ci := 2) (v := .ref (ad 11)) (C := RX2) (T := TX2) (N := 15) hx hb hts ki2 hown hK hP 0 rfl rfl 0 (by decide) kf44 (fun _ h9 => h9) rfl dX2_leastMeeting_24 ?_
      refine lv_iload hx hb dX2_leastMeeting_27 (lv_at hl 0 rfl) ?_
      obtain ⟨q29, e29, h⟩ := g_b h
      refine callVi (cc := cX2_leastMeeting) (ws' := zzK ad cy (ad 11) (ad 18) iK lK aK iB lB aB iC aC) (As := [.int q5]) (rest := []) ⟨hx, hb, hml, hown, hts⟩ (c_B_isSingle l dC dI cy (fun i => ad (i + 11)) H.size q5 iB lB aB iC aC q29 e29) (cwV 1 hts (goodV m_ml_X2_177 m_im_X0_isSingle m_se_X0_isSingle m_in_X0 m_cd_X0_isSingle) rfl rfl rfl (by decide +kernel) ⟨Nat.le_of_ble_eq_true rfl, Nat.le_of_ble_eq_true rfl⟩) hN hK hP hD hS hA [11, 12, 13, 14, 15, 16, 17, 18, 19, 20, 21, 22, 23, 24, 25, 26] [none, none, none, none, none, none, none, none, none, none, none, some 0, some 1, some 2, some 3, some 4, some 5, some 6, some 7, some 8, some 9, some 10, some 11, some 12, some 13, some 14, some 15] rfl rfl rfl rfl rfl rfl 11 rfl rfl rfl hl.1 rfl (Nat.le_of_ble_eq_true rfl) dX2_leastMeeting_29 ⟨Nat.zero_le _, Nat.zero_le _⟩ (fun H locs hP hD hS => ?_)
      refine lv_if_eq (tgt := 47) hx hb dX2_leastMeeting_32 (by decide) (fun cz => ?_) (fun cz => ?_)
      · have h := g_t h cz
        refine lv_iconst (v := 1) hx hb dX2_leastMeeting_47 (by decide) ?_
        refine lv_iload_n hx hb dX2_leastMeeting_48 rfl (lv_at hl 3 rfl) ?_
        refine lv_ishl hx hb dX2_leastMeeting_49 ?_
        exact B50 a1 q5 (((1 : Int32) <<< (a2 &&& 31))) H locs ls h hP hD hS (lv_sub hl [1, 2, 4, 0] rfl)
      · have h := g_f h cz
        refine lv_aload_n hx hb dX2_leastMeeting_35 rfl (lv_at hl 1 rfl) ?_
        refine va_get (D := (dC, dI)) (ci := 2) (v := .ref (ad 3)) (C := RX2) (T := TX2) (N := 15) hx hb hts ki2 hown hK hP 0 rfl rfl 5 (by decide) kf18 (fun _ h9 => h9) rfl dX2_leastMeeting_36 ?_
        refine lv_iload hx hb dX2_leastMeeting_39 (lv_at hl 0 rfl) ?_
        obtain ⟨g_27, h⟩ := g_n h
        refine va_iald (f := (aK 5)) hx hb hK hP 3 0 rfl rfl g_27 dX2_leastMeeting_41 ?_
        refine lv_iload_n hx hb dX2_leastMeeting_42 rfl (lv_at hl 2 rfl) ?_
        refine lv_iand hx hb dX2_leastMeeting_43 ?_
        refine lv_goto (tgt := 50) hx hb dX2_leastMeeting_44 (by decide) ?_
        exact B50 a1 q5 ((((aK 5) q5.toNatClampNeg) &&& a1)) H locs ls h hP hD hS (lv_sub hl [1, 2, 4, 0] rfl)
    · have h := g_f h cz
      refine lv_iconst (v := (-1)) hx hb dX2_leastMeeting_21 (by decide) ?_
      have h' := Option.some.inj h
      rw [← hQQ]
      exact W.iret (v := (-1 : Int32)) hx hb hr (fun t ht hW => ⟨⟨(-1 : Int32), (), rfl, by rw [← h'], by rw [← hWQ, ht]; exact hP, va_K.moved hW.alike hK⟩, hS.F ht⟩) hS.2.2 dX2_leastMeeting_22
