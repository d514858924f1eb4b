def f_R_takeOneB_206 (N : Nat) (one : Int32 → (Nat → Int32) → (Nat → Int32) → Int64 → (Nat → Int32) → (Nat → Int32) → (Nat → Nat → Int64) → (Nat → Nat → Int32) → (Nat → Int32) → (Nat → Nat → Int32) → Option (Int32 × (Nat → Int32) × (Nat → Int32) × Int64 × (Nat → Int32) × (Nat → Nat → Int64) × (Nat → Int32) × (Nat → Nat → Int32))) (iR : Nat → Int32) (iT : Nat → Int32) (wT : Int64) (tx : Nat → Int32) (iB : Nat → Int32) (lB : Nat → Nat → Int64) (aB : Nat → Nat → Int32) (iC : Nat → Int32) (aC : Nat → Nat → Int32) (v1 : Int32) (v2 : Int32) (s1 : Int32) (x_iR : Nat → Int32) (x_iT : Nat → Int32) (x_wT : Int64) (x_iB : Nat → Int32) : Option (Int32 × (Nat → Int32) × (Nat → Int32) × Int64 × (Nat → Int32) × (Nat → Nat → Int64) × (Nat → Int32) × (Nat → Nat → Int32)) := (f_R_takeQuantified N one s1 v2 ((v1 + (1 : Int32))) x_iR x_iT x_wT tx x_iB lB aB iC aC).bind fun q210 => (some (q210.1, q210.2.1, q210.2.2.1, q210.2.2.2.1, q210.2.2.2.2.1, q210.2.2.2.2.2.1, q210.2.2.2.2.2.2.1, q210.2.2.2.2.2.2.2))
def f_R_takeOneB_60 (N : Nat) (one : Int32 → (Nat → Int32) → (Nat → Int32) → Int64 → (Nat → Int32) → (Nat → Int32) → (Nat → Nat → Int64) → (Nat → Nat → Int32) → (Nat → Int32) → (Nat → Nat → Int32) → Option (Int32 × (Nat → Int32) × (Nat → Int32) × Int64 × (Nat → Int32) × (Nat → Nat → Int64) × (Nat → Int32) × (Nat → Nat → Int32))) (iR : Nat → Int32) (iT : Nat → Int32) (wT : Int64) (tx : Nat → Int32) (iB : Nat → Int32) (lB : Nat → Nat → Int64) (aB : Nat → Nat → Int32) (iC : Nat → Int32) (aC : Nat → Nat → Int32) (v1 : Int32) (x_iR : Nat → Int32) (x_iB : Nat → Int32) : Option (Int32 × (Nat → Int32) × (Nat → Int32) × Int64 × (Nat → Int32) × (Nat → Nat → Int64) × (Nat → Int32) × (Nat → Nat → Int32)) := if (iT 4) = (4 : Int32) then ((f_R_takeName N x_iR iT wT tx x_iB lB aB iC aC).bind fun q72 => (some (q72.1, q72.2.1, q72.2.2.1, q72.2.2.2.1, q72.2.2.2.2.1, q72.2.2.2.2.2.1, q72.2.2.2.2.2.2.1, q72.2.2.2.2.2.2.2))) else ((f_T_step N ((iT 1)) ((iT 2)) ((iT 3)) ((iT 4)) wT tx).bind fun q96 => (if wT = (40 : Int64) then ((f_R_takeBracketed N one ((v1 + (1 : Int32))) x_iR ((us iT [(2, q96.1), (3, q96.2.1), (4, q96.2.2.1)])) q96.2.2.2 tx x_iB lB aB iC aC).bind fun q111 => (some (q111.1, q111.2.1, q111.2.2.1, q111.2.2.2.1, q111.2.2.2.2.1, q111.2.2.2.2.2.1, q111.2.2.2.2.2.2.1, q111.2.2.2.2.2.2.2))) else (if wT = (7630704 : Int64) then ((f_C_make N ((1 : Int32)) ((0 : Int32)) ((0 : Int32)) ((iC 4)) ((iC 9)) ((aC 0)) ((aC 1)) ((aC 2)) ((aC 3)) ((aC 5)) ((aC 6)) ((aC 7)) ((aC 8))).bind fun q130 => (some (q130.1, x_iR, (us iT [(2, q96.1), (3, q96.2.1), (4, q96.2.2.1)]), q96.2.2.2, x_iB, lB, (us iC [(4, q130.2.1), (9, q130.2.2.1)]), (us aC [(0, q130.2.2.2.1), (1, q130.2.2.2.2.1), (2, q130.2.2.2.2.2.1), (3, q130.2.2.2.2.2.2.1), (5, q130.2.2.2.2.2.2.2.1), (6, q130.2.2.2.2.2.2.2.2.1), (7, q130.2.2.2.2.2.2.2.2.2.1), (8, q130.2.2.2.2.2.2.2.2.2.2)])))) else (if wT = (108230834679661 : Int64) then ((f_C_make N ((2 : Int32)) ((0 : Int32)) ((0 : Int32)) ((iC 4)) ((iC 9)) ((aC 0)) ((aC 1)) ((aC 2)) ((aC 3)) ((aC 5)) ((aC 6)) ((aC 7)) ((aC 8))).bind fun q149 => (some (q149.1, x_iR, (us iT [(2, q96.1), (3, q96.2.1), (4, q96.2.2.1)]), q96.2.2.2, x_iB, lB, (us iC [(4, q149.2.1), (9, q149.2.2.1)]), (us aC [(0, q149.2.2.2.1), (1, q149.2.2.2.2.1), (2, q149.2.2.2.2.2.1), (3, q149.2.2.2.2.2.2.1), (5, q149.2.2.2.2.2.2.2.1), (6, q149.2.2.2.2.2.2.2.2.1), (7, q149.2.2.2.2.2.2.2.2.2.1), (8, q149.2.2.2.2.2.2.2.2.2.2)])))) else (if wT = (7237492 : Int64) then ((one ((v1 + (1 : Int32))) x_iR ((us iT [(2, q96.1), (3, q96.2.1), (4, q96.2.2.1)])) q96.2.2.2 tx x_iB lB aB iC aC).bind fun q165 => (if q165.1 = (-1 : Int32) then (some ((-1 : Int32), q165.2.1, q165.2.2.1, q165.2.2.2.1, q165.2.2.2.2.1, q165.2.2.2.2.2.1, q165.2.2.2.2.2.2.1, q165.2.2.2.2.2.2.2)) else ((f_C_make N ((3 : Int32)) q165.1 ((0 : Int32)) ((q165.2.2.2.2.2.2.1 4)) ((q165.2.2.2.2.2.2.1 9)) ((q165.2.2.2.2.2.2.2 0)) ((q165.2.2.2.2.2.2.2 1)) ((q165.2.2.2.2.2.2.2 2)) ((q165.2.2.2.2.2.2.2 3)) ((q165.2.2.2.2.2.2.2 5)) ((q165.2.2.2.2.2.2.2 6)) ((q165.2.2.2.2.2.2.2 7)) ((q165.2.2.2.2.2.2.2 8))).bind fun q188 => (some (q188.1, q165.2.1, q165.2.2.1, q165.2.2.2.1, q165.2.2.2.2.1, q165.2.2.2.2.2.1, (us q165.2.2.2.2.2.2.1 [(4, q188.2.1), (9, q188.2.2.1)]), (us q165.2.2.2.2.2.2.2 [(0, q188.2.2.2.1), (1, q188.2.2.2.2.1), (2, q188.2.2.2.2.2.1), (3, q188.2.2.2.2.2.2.1), (5, q188.2.2.2.2.2.2.2.1), (6, q188.2.2.2.2.2.2.2.2.1), (7, q188.2.2.2.2.2.2.2.2.2.1), (8, q188.2.2.2.2.2.2.2.2.2.2)])))))) else (if wT = (1936682341 : Int64) then (f_R_takeOneB_206 N one iR iT wT tx iB lB aB iC aC v1 ((iT 3)) ((4 : Int32)) x_iR ((us iT [(2, q96.1), (3, q96.2.1), (4, q96.2.2.1)])) q96.2.2.2 x_iB) else (f_R_takeOneB_206 N one iR iT wT tx iB lB aB iC aC v1 ((iT 3)) ((5 : Int32)) x_iR ((us iT [(2, q96.1), (3, q96.2.1), (4, q96.2.2.1)])) q96.2.2.2 x_iB)))))))
def f_R_takeOneB_37 (N : Nat) (one : Int32 → (Nat → Int32) → (Nat → Int32) → Int64 → (Nat → Int32) → (Nat → Int32) → (Nat → Nat → Int64) → (Nat → Nat → Int32) → (Nat → Int32) → (Nat → Nat → Int32) → Option (Int32 × (Nat → Int32) × (Nat → Int32) × Int64 × (Nat → Int32) × (Nat → Nat → Int64) × (Nat → Int32) × (Nat → Nat → Int32))) (iR : Nat → Int32) (iT : Nat → Int32) (wT : Int64) (tx : Nat → Int32) (iB : Nat → Int32) (lB : Nat → Nat → Int64) (aB : Nat → Nat → Int32) (iC : Nat → Int32) (aC : Nat → Nat → Int32) (v1 : Int32) : Option (Int32 × (Nat → Int32) × (Nat → Int32) × Int64 × (Nat → Int32) × (Nat → Nat → Int64) × (Nat → Int32) × (Nat → Nat → Int32)) := if wT = (40 : Int64) then (f_R_takeOneB_60 N one iR iT wT tx iB lB aB iC aC v1 iR iB) else ((f_R_countConcept ((iR 3)) ((iR 4)) ((iT 3)) ((iB 1))).bind fun q52 => (if q52.1 = 0 then (some ((-1 : Int32), (us iR [(3, q52.2.1), (4, q52.2.2.1)]), iT, wT, (us iB [(1, q52.2.2.2)]), lB, iC, aC)) else (f_R_takeOneB_60 N one iR iT wT tx iB lB aB iC aC v1 ((us iR [(3, q52.2.1), (4, q52.2.2.1)])) ((us iB [(1, q52.2.2.2)])))))
def f_R_takeOneB (N : Nat) (one : Int32 → (Nat → Int32) → (Nat → Int32) → Int64 → (Nat → Int32) → (Nat → Int32) → (Nat → Nat → Int64) → (Nat → Nat → Int32) → (Nat → Int32) → (Nat → Nat → Int32) → Option (Int32 × (Nat → Int32) × (Nat → Int32) × Int64 × (Nat → Int32) × (Nat → Nat → Int64) × (Nat → Int32) × (Nat → Nat → Int32))) (a1 : Int32) (iR : Nat → Int32) (iT : Nat → Int32) (wT : Int64) (tx : Nat → Int32) (iB : Nat → Int32) (lB : Nat → Nat → Int64) (aB : Nat → Nat → Int32) (iC : Nat → Int32) (aC : Nat → Nat → Int32) : Option (Int32 × (Nat → Int32) × (Nat → Int32) × Int64 × (Nat → Int32) × (Nat → Nat → Int64) × (Nat → Int32) × (Nat → Nat → Int32)) := (f_T_beginsConcept ((iT 4)) wT).bind fun q4 => (if q4 = 0 then ((f_R_misplaced ((iR 3)) ((iR 4)) ((iT 3)) ((iT 4))).bind fun q11 => (some (q11.1, (us iR [(3, q11.2.1), (4, q11.2.2)]), iT, wT, iB, lB, iC, aC))) else (if a1 < (12 : Int32) then (f_R_takeOneB_37 N one iR iT wT tx iB lB aB iC aC a1) else ((f_T_holdsConcept wT).bind fun q25 => (if q25 = 0 then (f_R_takeOneB_37 N one iR iT wT tx iB lB aB iC aC a1) else ((f_R_failHere ((3 : Int32)) ((iR 3)) ((iR 4)) ((iT 3))).bind fun q33 => (some (q33.1, (us iR [(3, q33.2.1), (4, q33.2.2)]), iT, wT, iB, lB, iC, aC)))))))
def f_R_takeOne (N : Nat) : Nat → Int32 → (Nat → Int32) → (Nat → Int32) → Int64 → (Nat → Int32) → (Nat → Int32) → (Nat → Nat → Int64) → (Nat → Nat → Int32) → (Nat → Int32) → (Nat → Nat → Int32) → Option (Int32 × (Nat → Int32) × (Nat → Int32) × Int64 × (Nat → Int32) × (Nat → Nat → Int64) × (Nat → Int32) × (Nat → Nat → Int32))
  | 0, _, _, _, _, _, _, _, _, _, _ => none
  | d + 1, a1, iR, iT, wT, tx, iB, lB, aB, iC, aC => f_R_takeOneB N (f_R_takeOne N d) a1 iR iT wT tx iB lB aB iC aC
set_option maxHeartbeats 8000000 in
set_option maxRecDepth 100000 in
theorem c_R_takeOneB (l : Launch) (dC : Nat → ClassId) (dI : Nat → Nat → Nat) (cy : Nat → ClassId) (ad : Nat → Nat) (sz : Nat) (N : Nat) (fo lo : Nat) (one : Int32 → (Nat → Int32) → (Nat → Int32) → Int64 → (Nat → Int32) → (Nat → Int32) → (Nat → Nat → Int64) → (Nat → Nat → Int32) → (Nat → Int32) → (Nat → Nat → Int32) → Option (Int32 × (Nat → Int32) × (Nat → Int32) × Int64 × (Nat → Int32) × (Nat → Nat → Int64) × (Nat → Int32) × (Nat → Nat → Int32))) (hone : ∀ (sz : Nat) (a1 : Int32) (iR : Nat → Int32) (iT : Nat → Int32) (wT : Int64) (tx : Nat → Int32) (iB : Nat → Int32) (lB : Nat → Nat → Int64) (aB : Nat → Nat → Int32) (iC : Nat → Int32) (aC : Nat → Nat → Int32) (q : Int32 × (Nat → Int32) × (Nat → Int32) × Int64 × (Nat → Int32) × (Nat → Nat → Int64) × (Nat → Int32) × (Nat → Nat → Int32)), one a1 iR iT wT tx iB lB aB iC aC = some q → Met l yX4_takeOne wsX4_takeOne ({ frames := fo, cells := 0, slots := 0, locals := lo } : Room) (cP (dC, dI) cy [.ref (ad 0), .int a1] (zzR ad cy (ad 3) (ad 10) iR iT wT tx iB lB aB iC aC) sz) (cQi (dC, dI) cy q.1 (zzR ad cy (ad 3) (ad 10) q.2.1 q.2.2.1 q.2.2.2.1 tx q.2.2.2.2.1 q.2.2.2.2.2.1 aB q.2.2.2.2.2.2.1 q.2.2.2.2.2.2.2) (va_A (zzR ad cy (ad 3) (ad 10) iR iT wT tx iB lB aB iC aC) sz)) 0 0 (va_A (zzR ad cy (ad 3) (ad 10) iR iT wT tx iB lB aB iC aC) sz)) (a1 : Int32) (iR : Nat → Int32) (iT : Nat → Int32) (wT : Int64) (tx : Nat → Int32) (iB : Nat → Int32) (lB : Nat → Nat → Int64) (aB : Nat → Nat → Int32) (iC : Nat → Int32) (aC : Nat → Nat → Int32) (q : Int32 × (Nat → Int32) × (Nat → Int32) × Int64 × (Nat → Int32) × (Nat → Nat → Int64) × (Nat → Int32) × (Nat → Nat → Int32)) (h : f_R_takeOneB N one a1 iR iT wT tx iB lB aB iC aC = some q) : Met l yX4_takeOne wsX4_takeOne ({ frames := fo + 6, cells := 0, slots := 0, locals := lo + 144 } : Room) (cP (dC, dI) cy [.ref (ad 0), .int a1] (zzR ad cy (ad 3) (ad 10) iR iT wT tx iB lB aB iC aC) sz) (cQi (dC, dI) cy q.1 (zzR ad cy (ad 3) (ad 10) q.2.1 q.2.2.1 q.2.2.2.1 tx q.2.2.2.2.1 q.2.2.2.2.2.1 aB q.2.2.2.2.2.2.1 q.2.2.2.2.2.2.2) (va_A (zzR ad cy (ad 3) (ad 10) iR iT wT tx iB lB aB iC aC) sz)) 0 0 (va_A (zzR ad cy (ad 3) (ad 10) iR iT wT tx iB lB aB iC aC) sz) := by
  refine Met.ofW (cc := cX4_takeOne) (maxL := 6) (ret := (some .int)) (by decide) rfl ?_
  intro p e s m args below meth c s₁ B hml hv
  obtain ⟨hav, hsz, hP, hK, hD0, hN⟩ := hv
  have hx := B.exec
  have hb := B.bytes
  have hr := B.returns
  have hts := atoms_spec (ws := wsX4_takeOne) B.pre
  have hown : s.vm.findClass RX4 = some m.cls := findClass_of_methodNamed B.named
  have hlocks := B.notSynchronized
  subst hsz
  have hD := hD0.self (sz := s.heap.size)
  generalize hAe : va_A (zzR ad cy (ad 3) (ad 10) iR iT wT tx iB lB aB iC aC) s.heap.size = A at hD ⊢
  have hA : ∀ q : Nat, s.heap.size ≤ q → A q := fun q h => by rw [← hAe]; exact Or.inr h
  have hS : va_S A s.heap s.heap [] := va_S.rf
  generalize hWQ : (zzR ad cy (ad 3) (ad 10) q.2.1 q.2.2.1 q.2.2.2.1 tx q.2.2.2.2.1 q.2.2.2.2.2.1 aB q.2.2.2.2.2.2.1 q.2.2.2.2.2.2.2) = WQ
  generalize hQQ : MQ below (cQi (dC, dI) cy q.1 WQ A) args s 0 0 A = QQ
  have hl := lv_entry ([.ref (ad 0), .int a1] : List Value) (n := 6) (Nat.le_of_ble_eq_true rfl)
  have hfr := lg_entry_eq m ([.ref (ad 0), .int a1] : List Value) 6
  rw [← hav] at hfr
  rw [hfr]
  clear hfr hav
  generalize (lg_sl ([.ref (ad 0), .int a1] : List Value) ++ List.replicate (6 - (lg_sl ([.ref (ad 0), .int a1] : List Value)).length) Slot.unset).toArray = ls at hl ⊢
  have hl : lv_has ls 6 [(0, .ref (ad 0)), (1, .int a1)] := hl
  have kf20 := hts _ (List.mem_cons_of_mem _ m_fl_X4_20)
  have ki4 := (fun w h => List.mem_cons_of_mem _ (i_X4 w h) : ∀ w ∈ u_ws RX4 TX4 5, w ∈ wsX4_takeOne)
  have kf45 := hts _ (List.mem_cons_of_mem _ m_fl_X4_45)
  have ki5 := (fun w h => List.mem_cons_of_mem _ (i_X5 w h) : ∀ w ∈ u_ws RX5 TX5 6, w ∈ wsX4_takeOne)
  have kf70 := hts _ (List.mem_cons_of_mem _ m_fl_X4_70)
  have kf48 := hts _ (List.mem_cons_of_mem _ m_fl_X4_48)
  have kc170 := hts _ (List.mem_cons_of_mem _ m_kl_X4_170)
  have kc178 := hts _ (List.mem_cons_of_mem _ m_kl_X4_178)
  have kc180 := hts _ (List.mem_cons_of_mem _ m_kl_X4_180)
  have kc182 := hts _ (List.mem_cons_of_mem _ m_kl_X4_182)
  have kc184 := hts _ (List.mem_cons_of_mem _ m_kl_X4_184)
  have kf34 := hts _ (List.mem_cons_of_mem _ m_fl_X4_34)
  refine (?_ : ∀ (H : Heap) (locs : List Loc), va_P (dC, dI) vwCl (zzR ad cy (ad 3) (ad 10) iR iT wT tx iB lB aB iC aC) H → va_D A (zzR ad cy (ad 3) (ad 10) iR iT wT tx iB lB aB iC aC) → va_S A s.heap H locs → W p l e ({ frames := fo + 6, cells := 0, slots := 0, locals := lo + 144 } : Room) s m args below meth c H locs 0 0 QQ (F0 m 0 ls [])) s.heap [] hP hD hS
  clear hP hD hS
  have B206 : ∀ (v1 : Int32) (v2 : Int32) (s1 : Int32) (x_iR : Nat → Int32) (x_iT : Nat → Int32) (x_wT : Int64) (x_iB : Nat → Int32) (H : Heap) (locs : List Loc) (ls : Array Slot), f_R_takeOneB_206 N one iR iT wT tx iB lB aB iC aC v1 v2 s1 x_iR x_iT x_wT x_iB = some q → va_P (dC, dI) vwCl (zzR ad cy (ad 3) (ad 10) x_iR x_iT x_wT tx x_iB lB aB iC aC) H → va_D A (zzR ad cy (ad 3) (ad 10) x_iR x_iT x_wT tx x_iB lB aB iC aC) → va_S A s.heap H locs → lv_has ls 6 [(1, .int v1), (2, .int v2)] → W p l e ({ frames := fo + 6, cells := 0, slots := 0, locals := lo + 144 } : Room) s m args below meth c H locs 0 0 QQ (F0 m 206 ls [.int s1, .ref (ad 0)]) := by
    intro v1 v2 s1 x_iR x_iT x_wT x_iB H locs ls h hP hD hS hl
    unfold f_R_takeOneB_206 at h
    refine lv_iload_n hx hb dX4_takeOne_206 rfl (lv_at hl 1 rfl) ?_
    refine lv_iload_n hx hb dX4_takeOne_207 rfl (lv_at hl 0 rfl) ?_
    refine lv_iconst (v := 1) hx hb dX4_takeOne_208 (by decide) ?_
    refine lv_iadd hx hb dX4_takeOne_209 ?_
    obtain ⟨q210, e210, h⟩ := g_b h
    refine callVis (cc := cX4_takeOne) (w1 := zzR ad cy (ad 3) (ad 10) q210.2.1 q210.2.2.1 q210.2.2.2.1 tx q210.2.2.2.2.1 q210.2.2.2.2.2.1 aB q210.2.2.2.2.2.2.1 q210.2.2.2.2.2.2.2) (As := [.int s1, .int v2, .int ((v1 + (1 : Int32)))]) (rest := []) ⟨hx, hb, hml, hown, hts⟩ (c_R_takeQuantified l dC dI cy ad H.size N fo lo one hone s1 v2 ((v1 + (1 : Int32))) x_iR x_iT x_wT tx x_iB lB aB iC aC q210 e210) (cwV 3 hts (goodV m_ml_X4_186 m_im_X4_takeQuantified m_se_X4_takeQuantified m_in_X4 m_cd_X4_takeQuantified) rfl rfl rfl (by decide +kernel) ⟨(show fo + 4 + 1 ≤ fo + 6 by omega), (show 8 + (7 + 11) + (lo + 84) ≤ lo + 144 by omega)⟩) hN hK hP hD hS hA rfl 0 rfl rfl rfl hl.1 rfl (Nat.le_of_ble_eq_true rfl) dX4_takeOne_210 ⟨Nat.zero_le _, Nat.zero_le _⟩ (fun H locs hP hD hS => ?_)
    have h' := Option.some.inj h
    rw [← hQQ]
    exact W.iret (v := q210.1) hx hb hr (fun t ht hW => ⟨⟨q210.1, (), rfl, by rw [← h'], by rw [← hWQ, ← h', ht]; exact hP, va_K.moved hW.alike hK⟩, hS.F ht⟩) hS.2.2 dX4_takeOne_213
  have B60 : ∀ (v1 : Int32) (x_iR : Nat → Int32) (x_iB : Nat → Int32) (H : Heap) (locs : List Loc) (ls : Array Slot), f_R_takeOneB_60 N one iR iT wT tx iB lB aB iC aC v1 x_iR x_iB = some q → va_P (dC, dI) vwCl (zzR ad cy (ad 3) (ad 10) x_iR iT wT tx x_iB lB aB iC aC) H → va_D A (zzR ad cy (ad 3) (ad 10) x_iR iT wT tx x_iB lB aB iC aC) → va_S A s.heap H locs → lv_has ls 6 [(0, .ref (ad 0)), (1, .int v1)] → W p l e ({ frames := fo + 6, cells := 0, slots := 0, locals := lo + 144 } : Room) s m args below meth c H locs 0 0 QQ (F0 m 60 ls []) := by
    intro v1 x_iR x_iB H locs ls h hP hD hS hl
    unfold f_R_takeOneB_60 at h
    refine lv_aload_n hx hb dX4_takeOne_60 rfl (lv_at hl 0 rfl) ?_
    refine va_get (D := (dC, dI)) (ci := 4) (v := .ref (ad 1)) (C := RX4) (T := TX4) (N := 5) hx hb hts ki4 hown hK hP 0 rfl rfl 0 (by decide) kf20 (fun _ h9 => h9) rfl dX4_takeOne_61 ?_
    refine va_get (D := (dC, dI)) (ci := 5) (v := .int ((iT 4))) (C := RX5) (T := TX5) (N := 6) hx hb hts ki5 hown hK hP 1 rfl rfl 4 (by decide) kf45 (fun _ h9 => h9) rfl dX4_takeOne_64 ?_
    refine lv_iconst (v := 4) hx hb dX4_takeOne_67 (by decide) ?_
    refine lv_icmp_ne (tgt := 76) hx hb dX4_takeOne_68 (by decide) (fun cz => ?_) (fun cz => ?_)
    · have h := g_f h cz
      refine lv_aload_n hx hb dX4_takeOne_76 rfl (lv_at hl 0 rfl) ?_
      refine va_get (D := (dC, dI)) (ci := 4) (v := .ref (ad 1)) (C := RX4) (T := TX4) (N := 5) hx hb hts ki4 hown hK hP 0 rfl rfl 0 (by decide) kf20 (fun _ h9 => h9) rfl dX4_takeOne_77 ?_
      refine va_get (D := (dC, dI)) (ci := 5) (v := .int ((iT 3))) (C := RX5) (T := TX5) (N := 6) hx hb hts ki5 hown hK hP 1 rfl rfl 3 (by decide) kf70 (fun _ h9 => h9) rfl dX4_takeOne_80 ?_
      refine lv_istore_n (lv' := [(2, .int ((iT 3))), (0, .ref (ad 0)), (1, .int v1)]) hx hb dX4_takeOne_83 rfl hl (by decide) rfl (fun ls hl => ?_)
      refine lv_aload_n hx hb dX4_takeOne_84 rfl (lv_at hl 1 rfl) ?_
      refine va_get (D := (dC, dI)) (ci := 4) (v := .ref (ad 1)) (C := RX4) (T := TX4) (N := 5) hx hb hts ki4 hown hK hP 0 rfl rfl 0 (by decide) kf20 (fun _ h9 => h9) rfl dX4_takeOne_85 ?_
      refine va_get (D := (dC, dI)) (ci := 5) (v := .long wT) (C := RX5) (T := TX5) (N := 6) hx hb hts ki5 hown hK hP 1 rfl rfl 5 (by decide) kf48 (fun _ h9 => h9) rfl dX4_takeOne_88 ?_
      refine lv_lstore_n (lv' := [(3, .long wT), (2, .int ((iT 3))), (0, .ref (ad 0)), (1, .int v1)]) hx hb dX4_takeOne_91 rfl hl (by decide) rfl (fun ls hl => ?_)
      refine lv_aload_n hx hb dX4_takeOne_92 rfl (lv_at hl 2 rfl) ?_
      refine va_get (D := (dC, dI)) (ci := 4) (v := .ref (ad 1)) (C := RX4) (T := TX4) (N := 5) hx hb hts ki4 hown hK hP 0 rfl rfl 0 (by decide) kf20 (fun _ h9 => h9) rfl dX4_takeOne_93 ?_
      obtain ⟨q96, e96, h⟩ := g_b h
      refine callVv (cc := cX4_takeOne) (ws' := zzR ad cy (ad 3) (ad 10) x_iR (us iT [(2, q96.1), (3, q96.2.1), (4, q96.2.2.1)]) q96.2.2.2 tx x_iB lB aB iC aC) (As := []) (rest := []) ⟨hx, hb, hml, hown, hts⟩ (c_T_step l dC dI cy (fun i => ad (i + 1)) H.size N iT wT tx q96 e96) (cwV 0 hts (goodV m_ml_X4_87 m_im_X5_step m_se_X5_step m_in_X5 m_cd_X5_step) rfl rfl rfl (by decide +kernel) ⟨(show 2 + 1 ≤ fo + 6 by omega), (show 8 + (1 + 11) + (42) ≤ lo + 144 by omega)⟩) hN hK hP hD hS hA [1, 2] [none, some 0, some 1, none, none, none, none, none, none, none, none, none, none, none, none, none, none, none, none] rfl rfl rfl rfl rfl rfl 1 rfl rfl rfl hl.1 rfl (Nat.le_of_ble_eq_true rfl) dX4_takeOne_96 ⟨Nat.zero_le _, Nat.zero_le _⟩ (fun H locs hP hD hS => ?_)
      refine lv_lload_n hx hb dX4_takeOne_99 rfl (lv_at hl 0 rfl) ?_
      refine lv_ldc2 (v := 40) hx hb hown kc170 dX4_takeOne_100 ?_
      refine W.lcmp hx hb dX4_takeOne_103 ?_
      refine lv_if_ne (tgt := 115) hx hb dX4_takeOne_104 (by decide) (fun cz => ?_) (fun cz => ?_)
      · have h := g_f h (fun z => cz (lg_cmp0.mpr z))
        refine lv_lload_n hx hb dX4_takeOne_115 rfl (lv_at hl 0 rfl) ?_
        refine lv_ldc2 (v := 7630704) hx hb hown kc178 dX4_takeOne_116 ?_
        refine W.lcmp hx hb dX4_takeOne_119 ?_
        refine lv_if_ne (tgt := 134) hx hb dX4_takeOne_120 (by decide) (fun cz => ?_) (fun cz => ?_)
        · have h := g_f h (fun z => cz (lg_cmp0.mpr z))
          refine lv_lload_n hx hb dX4_takeOne_134 rfl (lv_at hl 0 rfl) ?_
          refine lv_ldc2 (v := 108230834679661) hx hb hown kc180 dX4_takeOne_135 ?_
          refine W.lcmp hx hb dX4_takeOne_138 ?_
          refine lv_if_ne (tgt := 153) hx hb dX4_takeOne_139 (by decide) (fun cz => ?_) (fun cz => ?_)
          · have h := g_f h (fun z => cz (lg_cmp0.mpr z))
            refine lv_lload_n hx hb dX4_takeOne_153 rfl (lv_at hl 0 rfl) ?_
            refine lv_ldc2 (v := 7237492) hx hb hown kc182 dX4_takeOne_154 ?_
            refine W.lcmp hx hb dX4_takeOne_157 ?_
            refine lv_if_ne (tgt := 192) hx hb dX4_takeOne_158 (by decide) (fun cz => ?_) (fun cz => ?_)
            · have h := g_f h (fun z => cz (lg_cmp0.mpr z))
              refine lv_aload_n hx hb dX4_takeOne_192 rfl (lv_at hl 2 rfl) ?_
              refine lv_lload_n hx hb dX4_takeOne_193 rfl (lv_at hl 0 rfl) ?_
              refine lv_ldc2 (v := 1936682341) hx hb hown kc184 dX4_takeOne_194 ?_
              refine W.lcmp hx hb dX4_takeOne_197 ?_
              refine lv_if_ne (tgt := 205) hx hb dX4_takeOne_198 (by decide) (fun cz => ?_) (fun cz => ?_)
              · have h := g_f h (fun z => cz (lg_cmp0.mpr z))
                refine lv_iconst (v := 5) hx hb dX4_takeOne_205 (by decide) ?_
                exact B206 v1 ((iT 3)) ((5 : Int32)) x_iR ((us iT [(2, q96.1), (3, q96.2.1), (4, q96.2.2.1)])) q96.2.2.2 x_iB H locs ls h hP hD hS (lv_sub hl [3, 1] rfl)
              · have h := g_t h (lg_cmp0.mp cz)
                refine lv_iconst (v := 4) hx hb dX4_takeOne_201 (by decide) ?_
                refine lv_goto (tgt := 206) hx hb dX4_takeOne_202 (by decide) ?_
                exact B206 v1 ((iT 3)) ((4 : Int32)) x_iR ((us iT [(2, q96.1), (3, q96.2.1), (4, q96.2.2.1)])) q96.2.2.2 x_iB H locs ls h hP hD hS (lv_sub hl [3, 1] rfl)
            · have h := g_t h (lg_cmp0.mp cz)
              refine lv_aload_n hx hb dX4_takeOne_161 rfl (lv_at hl 2 rfl) ?_
              refine lv_iload_n hx hb dX4_takeOne_162 rfl (lv_at hl 3 rfl) ?_
              refine lv_iconst (v := 1) hx hb dX4_takeOne_163 (by decide) ?_
              refine lv_iadd hx hb dX4_takeOne_164 ?_
              obtain ⟨q165, e165, h⟩ := g_b h
              refine callVis (cc := cX4_takeOne) (w1 := zzR ad cy (ad 3) (ad 10) q165.2.1 q165.2.2.1 q165.2.2.2.1 tx q165.2.2.2.2.1 q165.2.2.2.2.2.1 aB q165.2.2.2.2.2.2.1 q165.2.2.2.2.2.2.2) (As := [.int ((v1 + (1 : Int32)))]) (rest := []) ⟨hx, hb, hml, hown, hts⟩ (hone H.size ((v1 + (1 : Int32))) x_iR ((us iT [(2, q96.1), (3, q96.2.1), (4, q96.2.2.1)])) q96.2.2.2 tx x_iB lB aB iC aC q165 e165) (cwV 1 hts (goodV m_ml_X4_162 m_im_X4_takeOne m_se_X4_takeOne m_in_X4 m_cd_X4_takeOne) rfl rfl rfl (by decide +kernel) ⟨(show fo + 0 + 1 ≤ fo + 6 by omega), (show 8 + (6 + 11) + (lo + 0) ≤ lo + 144 by omega)⟩) hN hK hP hD hS hA rfl 0 rfl rfl rfl hl.1 rfl (Nat.le_of_ble_eq_true rfl) dX4_takeOne_165 ⟨Nat.zero_le _, Nat.zero_le _⟩ (fun H locs hP hD hS => ?_)
              refine lv_istore (lv' := [(5, .int q165.1), (3, .long wT), (2, .int ((iT 3))), (0, .ref (ad 0)), (1, .int v1)]) hx hb dX4_takeOne_168 hl (by decide) rfl (fun ls hl => ?_)
              refine lv_iload hx hb dX4_takeOne_170 (lv_at hl 0 rfl) ?_
              refine lv_iconst (v := (-1)) hx hb dX4_takeOne_172 (by decide) ?_
              refine lv_icmp_ne (tgt := 180) hx hb dX4_takeOne_173 (by decide) (fun cz => ?_) (fun cz => ?_)
              · have h := g_f h cz
                refine lv_aload_n hx hb dX4_takeOne_180 rfl (lv_at hl 3 rfl) ?_
                refine va_get (D := (dC, dI)) (ci := 4) (v := .ref (ad 10)) (C := RX4) (T := TX4) (N := 5) hx hb hts ki4 hown hK hP 0 rfl rfl 2 (by decide) kf34 (fun _ h9 => h9) rfl dX4_takeOne_181 ?_
                refine lv_iconst (v := 3) hx hb dX4_takeOne_184 (by decide) ?_
                refine lv_iload hx hb dX4_takeOne_185 (lv_at hl 0 rfl) ?_
                refine lv_iconst (v := 0) hx hb dX4_takeOne_187 (by decide) ?_
                obtain ⟨q188, e188, h⟩ := g_b h
                refine callVi (cc := cX4_takeOne) (ws' := zzR ad cy (ad 3) (ad 10) q165.2.1 q165.2.2.1 q165.2.2.2.1 tx q165.2.2.2.2.1 q165.2.2.2.2.2.1 aB (us q165.2.2.2.2.2.2.1 [(4, q188.2.1), (9, q188.2.2.1)]) (us q165.2.2.2.2.2.2.2 [(0, q188.2.2.2.1), (1, q188.2.2.2.2.1), (2, q188.2.2.2.2.2.1), (3, q188.2.2.2.2.2.2.1), (5, q188.2.2.2.2.2.2.2.1), (6, q188.2.2.2.2.2.2.2.2.1), (7, q188.2.2.2.2.2.2.2.2.2.1), (8, q188.2.2.2.2.2.2.2.2.2.2)])) (As := [.int ((3 : Int32)), .int q165.1, .int ((0 : Int32))]) (rest := []) ⟨hx, hb, hml, hown, hts⟩ (c_C_make l dC dI cy (fun i => ad (i + 10)) H.size N ((3 : Int32)) q165.1 ((0 : Int32)) q165.2.2.2.2.2.2.1 q165.2.2.2.2.2.2.2 q188 e188) (cwV 3 hts (goodV m_ml_X4_156 m_im_X1_make m_se_X1_make m_in_X1 m_cd_X1_make) rfl rfl rfl (by decide +kernel) ⟨(show 2 + 1 ≤ fo + 6 by omega), (show 8 + (7 + 11) + (48) ≤ lo + 144 by omega)⟩) hN hK hP hD hS hA [10, 11, 12, 13, 14, 15, 16, 17, 18] [none, none, none, none, none, none, none, none, none, none, some 0, some 1, some 2, some 3, some 4, some 5, some 6, some 7, some 8] rfl rfl rfl rfl rfl rfl 10 rfl rfl rfl hl.1 rfl (Nat.le_of_ble_eq_true rfl) dX4_takeOne_188 ⟨Nat.zero_le _, Nat.zero_le _⟩ (fun H locs hP hD hS => ?_)
                have h' := Option.some.inj h
                rw [← hQQ]
                exact W.iret (v := q188.1) hx hb hr (fun t ht hW => ⟨⟨q188.1, (), rfl, by rw [← h'], by rw [← hWQ, ← h', ht]; exact hP, va_K.moved hW.alike hK⟩, hS.F ht⟩) hS.2.2 dX4_takeOne_191
              · have h := g_t h cz
                refine lv_iconst (v := (-1)) hx hb dX4_takeOne_176 (by decide) ?_
                refine lv_goto (tgt := 191) hx hb dX4_takeOne_177 (by decide) ?_
                have h' := Option.some.inj h
                rw [← hQQ]
                exact W.iret (v := (-1 : Int32)) hx hb hr (fun t ht hW => ⟨⟨(-1 : Int32), (), rfl, by rw [← h'], by rw [← hWQ, ← h', ht]; exact hP, va_K.moved hW.alike hK⟩, hS.F ht⟩) hS.2.2 dX4_takeOne_191
          · have h := g_t h (lg_cmp0.mp cz)
            refine lv_aload_n hx hb dX4_takeOne_142 rfl (lv_at hl 2 rfl) ?_
            refine va_get (D := (dC, dI)) (ci := 4) (v := .ref (ad 10)) (C := RX4) (T := TX4) (N := 5) hx hb hts ki4 hown hK hP 0 rfl rfl 2 (by decide) kf34 (fun _ h9 => h9) rfl dX4_takeOne_143 ?_
            refine lv_iconst (v := 2) hx hb dX4_takeOne_146 (by decide) ?_
            refine lv_iconst (v := 0) hx hb dX4_takeOne_147 (by decide) ?_
            refine lv_iconst (v := 0) hx hb dX4_takeOne_148 (by decide) ?_
            obtain ⟨q149, e149, h⟩ := g_b h
            refine callVi (cc := cX4_takeOne) (ws' := zzR ad cy (ad 3) (ad 10) x_iR (us iT [(2, q96.1), (3, q96.2.1), (4, q96.2.2.1)]) q96.2.2.2 tx x_iB lB aB (us iC [(4, q149.2.1), (9, q149.2.2.1)]) (us aC [(0, q149.2.2.2.1), (1, q149.2.2.2.2.1), (2, q149.2.2.2.2.2.1), (3, q149.2.2.2.2.2.2.1), (5, q149.2.2.2.2.2.2.2.1), (6, q149.2.2.2.2.2.2.2.2.1), (7, q149.2.2.2.2.2.2.2.2.2.1), (8, q149.2.2.2.2.2.2.2.2.2.2)])) (As := [.int ((2 : Int32)), .int ((0 : Int32)), .int ((0 : Int32))]) (rest := []) ⟨hx, hb, hml, hown, hts⟩ (c_C_make l dC dI cy (fun i => ad (i + 10)) H.size N ((2 : Int32)) ((0 : Int32)) ((0 : Int32)) iC aC q149 e149) (cwV 3 hts (goodV m_ml_X4_156 m_im_X1_make m_se_X1_make m_in_X1 m_cd_X1_make) rfl rfl rfl (by decide +kernel) ⟨(show 2 + 1 ≤ fo + 6 by omega), (show 8 + (7 + 11) + (48) ≤ lo + 144 by omega)⟩) hN hK hP hD hS hA [10, 11, 12, 13, 14, 15, 16, 17, 18] [none, none, none, none, none, none, none, none, none, none, some 0, some 1, some 2, some 3, some 4, some 5, some 6, some 7, some 8] rfl rfl rfl rfl rfl rfl 10 rfl rfl rfl hl.1 rfl (Nat.le_of_ble_eq_true rfl) dX4_takeOne_149 ⟨Nat.zero_le _, Nat.zero_le _⟩ (fun H locs hP hD hS => ?_)
            have h' := Option.some.inj h
            rw [← hQQ]
            exact W.iret (v := q149.1) hx hb hr (fun t ht hW => ⟨⟨q149.1, (), rfl, by rw [← h'], by rw [← hWQ, ← h', ht]; exact hP, va_K.moved hW.alike hK⟩, hS.F ht⟩) hS.2.2 dX4_takeOne_152
        · have h := g_t h (lg_cmp0.mp cz)
          refine lv_aload_n hx hb dX4_takeOne_123 rfl (lv_at hl 2 rfl) ?_
          refine va_get (D := (dC, dI)) (ci := 4) (v := .ref (ad 10)) (C := RX4) (T := TX4) (N := 5) hx hb hts ki4 hown hK hP 0 rfl rfl 2 (by decide) kf34 (fun _ h9 => h9) rfl dX4_takeOne_124 ?_
          refine lv_iconst (v := 1) hx hb dX4_takeOne_127 (by decide) ?_
          refine lv_iconst (v := 0) hx hb dX4_takeOne_128 (by decide) ?_
          refine lv_iconst (v := 0) hx hb dX4_takeOne_129 (by decide) ?_
          obtain ⟨q130, e130, h⟩ := g_b h
          refine callVi (cc := cX4_takeOne) (ws' := zzR ad cy (ad 3) (ad 10) x_iR (us iT [(2, q96.1), (3, q96.2.1), (4, q96.2.2.1)]) q96.2.2.2 tx x_iB lB aB (us iC [(4, q130.2.1), (9, q130.2.2.1)]) (us aC [(0, q130.2.2.2.1), (1, q130.2.2.2.2.1), (2, q130.2.2.2.2.2.1), (3, q130.2.2.2.2.2.2.1), (5, q130.2.2.2.2.2.2.2.1), (6, q130.2.2.2.2.2.2.2.2.1), (7, q130.2.2.2.2.2.2.2.2.2.1), (8, q130.2.2.2.2.2.2.2.2.2.2)])) (As := [.int ((1 : Int32)), .int ((0 : Int32)), .int ((0 : Int32))]) (rest := []) ⟨hx, hb, hml, hown, hts⟩ (c_C_make l dC dI cy (fun i => ad (i + 10)) H.size N ((1 : Int32)) ((0 : Int32)) ((0 : Int32)) iC aC q130 e130) (cwV 3 hts (goodV m_ml_X4_156 m_im_X1_make m_se_X1_make m_in_X1 m_cd_X1_make) rfl rfl rfl (by decide +kernel) ⟨(show 2 + 1 ≤ fo + 6 by omega), (show 8 + (7 + 11) + (48) ≤ lo + 144 by omega)⟩) hN hK hP hD hS hA [10, 11, 12, 13, 14, 15, 16, 17, 18] [none, none, none, none, none, none, none, none, none, none, some 0, some 1, some 2, some 3, some 4, some 5, some 6, some 7, some 8] rfl rfl rfl rfl rfl rfl 10 rfl rfl rfl hl.1 rfl (Nat.le_of_ble_eq_true rfl) dX4_takeOne_130 ⟨Nat.zero_le _, Nat.zero_le _⟩ (fun H locs hP hD hS => ?_)
          have h' := Option.some.inj h
          rw [← hQQ]
          exact W.iret (v := q130.1) hx hb hr (fun t ht hW => ⟨⟨q130.1, (), rfl, by rw [← h'], by rw [← hWQ, ← h', ht]; exact hP, va_K.moved hW.alike hK⟩, hS.F ht⟩) hS.2.2 dX4_takeOne_133
      · have h := g_t h (lg_cmp0.mp cz)
        refine lv_aload_n hx hb dX4_takeOne_107 rfl (lv_at hl 2 rfl) ?_
        refine lv_iload_n hx hb dX4_takeOne_108 rfl (lv_at hl 3 rfl) ?_
        refine lv_iconst (v := 1) hx hb dX4_takeOne_109 (by decide) ?_
        refine lv_iadd hx hb dX4_takeOne_110 ?_
        obtain ⟨q111, e111, h⟩ := g_b h
        refine callVis (cc := cX4_takeOne) (w1 := zzR ad cy (ad 3) (ad 10) q111.2.1 q111.2.2.1 q111.2.2.2.1 tx q111.2.2.2.2.1 q111.2.2.2.2.2.1 aB q111.2.2.2.2.2.2.1 q111.2.2.2.2.2.2.2) (As := [.int ((v1 + (1 : Int32)))]) (rest := []) ⟨hx, hb, hml, hown, hts⟩ (c_R_takeBracketed l dC dI cy ad H.size N fo lo one hone ((v1 + (1 : Int32))) x_iR ((us iT [(2, q96.1), (3, q96.2.1), (4, q96.2.2.1)])) q96.2.2.2 tx x_iB lB aB iC aC q111 e111) (cwV 1 hts (goodV m_ml_X4_175 m_im_X4_takeBracketed m_se_X4_takeBracketed m_in_X4 m_cd_X4_takeBracketed) rfl rfl rfl (by decide +kernel) ⟨(show fo + 5 + 1 ≤ fo + 6 by omega), (show 8 + (3 + 11) + (lo + 122) ≤ lo + 144 by omega)⟩) hN hK hP hD hS hA rfl 0 rfl rfl rfl hl.1 rfl (Nat.le_of_ble_eq_true rfl) dX4_takeOne_111 ⟨Nat.zero_le _, Nat.zero_le _⟩ (fun H locs hP hD hS => ?_)
        have h' := Option.some.inj h
        rw [← hQQ]
        exact W.iret (v := q111.1) hx hb hr (fun t ht hW => ⟨⟨q111.1, (), rfl, by rw [← h'], by rw [← hWQ, ← h', ht]; exact hP, va_K.moved hW.alike hK⟩, hS.F ht⟩) hS.2.2 dX4_takeOne_114
    · have h := g_t h cz
      refine lv_aload_n hx hb dX4_takeOne_71 rfl (lv_at hl 0 rfl) ?_
      obtain ⟨q72, e72, h⟩ := g_b h
      refine callVis (cc := cX4_takeOne) (w1 := zzR ad cy (ad 3) (ad 10) q72.2.1 q72.2.2.1 q72.2.2.2.1 tx q72.2.2.2.2.1 q72.2.2.2.2.2.1 aB q72.2.2.2.2.2.2.1 q72.2.2.2.2.2.2.2) (As := []) (rest := []) ⟨hx, hb, hml, hown, hts⟩ (c_R_takeName l dC dI cy ad H.size N x_iR iT wT tx x_iB lB aB iC aC q72 e72) (cwV 0 hts (goodV m_ml_X4_172 m_im_X4_takeName m_se_X4_takeName m_in_X4 m_cd_X4_takeName) rfl rfl rfl (by decide +kernel) ⟨(show 3 + 1 ≤ fo + 6 by omega), (show 8 + (3 + 11) + (74) ≤ lo + 144 by omega)⟩) hN hK hP hD hS hA rfl 0 rfl rfl rfl hl.1 rfl (Nat.le_of_ble_eq_true rfl) dX4_takeOne_72 ⟨Nat.zero_le _, Nat.zero_le _⟩ (fun H locs hP hD hS => ?_)
      have h' := Option.some.inj h
      rw [← hQQ]
      exact W.iret (v := q72.1) hx hb hr (fun t ht hW => ⟨⟨q72.1, (), rfl, by rw [← h'], by rw [← hWQ, ← h', ht]; exact hP, va_K.moved hW.alike hK⟩, hS.F ht⟩) hS.2.2 dX4_takeOne_75
  have B37 : ∀ (v1 : Int32) (H : Heap) (locs : List Loc) (ls : Array Slot), f_R_takeOneB_37 N one iR iT wT tx iB lB aB iC aC v1 = some q → va_P (dC, dI) vwCl (zzR ad cy (ad 3) (ad 10) iR iT wT tx iB lB aB iC aC) H → va_D A (zzR ad cy (ad 3) (ad 10) iR iT wT tx iB lB aB iC aC) → va_S A s.heap H locs → lv_has ls 6 [(0, .ref (ad 0)), (1, .int v1)] → W p l e ({ frames := fo + 6, cells := 0, slots := 0, locals := lo + 144 } : Room) s m args below meth c H locs 0 0 QQ (F0 m 37 ls []) := by
    intro v1 H locs ls h hP hD hS hl
    unfold f_R_takeOneB_37 at h
    refine lv_aload_n hx hb dX4_takeOne_37 rfl (lv_at hl 0 rfl) ?_
    refine va_get (D := (dC, dI)) (ci := 4) (v := .ref (ad 1)) (C := RX4) (T := TX4) (N := 5) hx hb hts ki4 hown hK hP 0 rfl rfl 0 (by decide) kf20 (fun _ h9 => h9) rfl dX4_takeOne_38 ?_
    refine va_get (D := (dC, dI)) (ci := 5) (v := .long wT) (C := RX5) (T := TX5) (N := 6) hx hb hts ki5 hown hK hP 1 rfl rfl 5 (by decide) kf48 (fun _ h9 => h9) rfl dX4_takeOne_41 ?_
    refine lv_ldc2 (v := 40) hx hb hown kc170 dX4_takeOne_44 ?_
    refine W.lcmp hx hb dX4_takeOne_47 ?_
    refine lv_if_eq (tgt := 60) hx hb dX4_takeOne_48 (by decide) (fun cz => ?_) (fun cz => ?_)
    · have h := g_t h (lg_cmp0.mp cz)
      exact B60 v1 iR iB H locs ls h hP hD hS (lv_sub hl [0, 1] rfl)
    · have h := g_f h (fun z => cz (lg_cmp0.mpr z))
      refine lv_aload_n hx hb dX4_takeOne_51 rfl (lv_at hl 0 rfl) ?_
      obtain ⟨q52, e52, h⟩ := g_b h
      refine callVis (cc := cX4_takeOne) (w1 := zzR ad cy (ad 3) (ad 10) (us iR [(3, q52.2.1), (4, q52.2.2.1)]) iT wT tx (us iB [(1, q52.2.2.2)]) lB aB iC aC) (As := []) (rest := []) ⟨hx, hb, hml, hown, hts⟩ (c_R_countConcept l dC dI cy ad H.size iR iT wT tx iB lB aB iC aC q52 e52) (cwV 0 hts (goodV m_ml_X4_153 m_im_X4_countConcept m_se_X4_countConcept m_in_X4 m_cd_X4_countConcept) rfl rfl rfl (by decide +kernel) ⟨(show 2 + 1 ≤ fo + 6 by omega), (show 8 + (1 + 11) + (43) ≤ lo + 144 by omega)⟩) hN hK hP hD hS hA rfl 0 rfl rfl rfl hl.1 rfl (Nat.le_of_ble_eq_true rfl) dX4_takeOne_52 ⟨Nat.zero_le _, Nat.zero_le _⟩ (fun H locs hP hD hS => ?_)
      refine lv_if_ne (tgt := 60) hx hb dX4_takeOne_55 (by decide) (fun cz => ?_) (fun cz => ?_)
      · have h := g_f h cz
        exact B60 v1 ((us iR [(3, q52.2.1), (4, q52.2.2.1)])) ((us iB [(1, q52.2.2.2)])) H locs ls h hP hD hS (lv_sub hl [0, 1] rfl)
      · have h := g_t h cz
        refine lv_iconst (v := (-1)) hx hb dX4_takeOne_58 (by decide) ?_
        have h' := Option.some.inj h
        rw [← hQQ]
        exact W.iret (v := (-1 : Int32)) hx hb hr (fun t ht hW => ⟨⟨(-1 : Int32), (), rfl, by rw [← h'], by rw [← hWQ, ← h', ht]; exact hP, va_K.moved hW.alike hK⟩, hS.F ht⟩) hS.2.2 dX4_takeOne_59
  intro H locs hP hD hS
  unfold f_R_takeOneB at h
  refine lv_aload_n hx hb dX4_takeOne_0 rfl (lv_at hl 0 rfl) ?_
  refine va_get (D := (dC, dI)) (ci := 4) (v := .ref (ad 1)) (C := RX4) (T := TX4) (N := 5) hx hb hts ki4 hown hK hP 0 rfl rfl 0 (by decide) kf20 (fun _ h9 => h9) rfl dX4_takeOne_1 ?_
  obtain ⟨q4, e4, h⟩ := g_b h
  refine callVi (cc := cX4_takeOne) (ws' := zzR ad cy (ad 3) (ad 10) iR iT wT tx iB lB aB iC aC) (As := []) (rest := []) ⟨hx, hb, hml, hown, hts⟩ (c_T_beginsConcept l dC dI cy (fun i => ad (i + 1)) H.size iT wT tx q4 e4) (cwV 0 hts (goodV m_ml_X4_90 m_im_X5_beginsConcept m_se_X5_beginsConcept m_in_X5 m_cd_X5_beginsConcept) rfl rfl rfl (by decide +kernel) ⟨(show 1 + 1 ≤ fo + 6 by omega), (show 8 + (1 + 11) + (20) ≤ lo + 144 by omega)⟩) hN hK hP hD hS hA [1, 2] [none, some 0, some 1, none, none, none, none, none, none, none, none, none, none, none, none, none, none, none, none] rfl rfl rfl rfl rfl rfl 1 rfl rfl rfl hl.1 rfl (Nat.le_of_ble_eq_true rfl) dX4_takeOne_4 ⟨Nat.zero_le _, Nat.zero_le _⟩ (fun H locs hP hD hS => ?_)
  refine lv_if_ne (tgt := 15) hx hb dX4_takeOne_7 (by decide) (fun cz => ?_) (fun cz => ?_)
  · have h := g_f h cz
    refine lv_iload_n hx hb dX4_takeOne_15 rfl (lv_at hl 1 rfl) ?_
    refine lv_bipush (v := 12) hx hb dX4_takeOne_16 (by decide) ?_
    refine lv_icmp_lt (tgt := 37) hx hb dX4_takeOne_18 (by decide) (fun cz => ?_) (fun cz => ?_)
    · have h := g_t h cz
      exact B37 a1 H locs ls h hP hD hS (lv_sub hl [0, 1] rfl)
    · have h := g_f h cz
      refine lv_aload_n hx hb dX4_takeOne_21 rfl (lv_at hl 0 rfl) ?_
      refine va_get (D := (dC, dI)) (ci := 4) (v := .ref (ad 1)) (C := RX4) (T := TX4) (N := 5) hx hb hts ki4 hown hK hP 0 rfl rfl 0 (by decide) kf20 (fun _ h9 => h9) rfl dX4_takeOne_22 ?_
      obtain ⟨q25, e25, h⟩ := g_b h
      refine callVi (cc := cX4_takeOne) (ws' := zzR ad cy (ad 3) (ad 10) iR iT wT tx iB lB aB iC aC) (As := []) (rest := []) ⟨hx, hb, hml, hown, hts⟩ (c_T_holdsConcept l dC dI cy (fun i => ad (i + 1)) H.size iT wT tx q25 e25) (cwV 0 hts (goodV m_ml_X4_167 m_im_X5_holdsConcept m_se_X5_holdsConcept m_in_X5 m_cd_X5_holdsConcept) rfl rfl rfl (by decide +kernel) ⟨(show 0 + 1 ≤ fo + 6 by omega), (show 8 + (1 + 11) + (0) ≤ lo + 144 by omega)⟩) hN hK hP hD hS hA [1, 2] [none, some 0, some 1, none, none, none, none, none, none, none, none, none, none, none, none, none, none, none, none] rfl rfl rfl rfl rfl rfl 1 rfl rfl rfl hl.1 rfl (Nat.le_of_ble_eq_true rfl) dX4_takeOne_25 ⟨Nat.zero_le _, Nat.zero_le _⟩ (fun H locs hP hD hS => ?_)
      refine lv_if_eq (tgt := 37) hx hb dX4_takeOne_28 (by decide) (fun cz => ?_) (fun cz => ?_)
      · have h := g_t h cz
        exact B37 a1 H locs ls h hP hD hS (lv_sub hl [0, 1] rfl)
      · have h := g_f h cz
        refine lv_aload_n hx hb dX4_takeOne_31 rfl (lv_at hl 0 rfl) ?_
        refine lv_iconst (v := 3) hx hb dX4_takeOne_32 (by decide) ?_
        obtain ⟨q33, e33, h⟩ := g_b h
        refine callVis (cc := cX4_takeOne) (w1 := zzR ad cy (ad 3) (ad 10) (us iR [(3, q33.2.1), (4, q33.2.2)]) iT wT tx iB lB aB iC aC) (As := [.int ((3 : Int32))]) (rest := []) ⟨hx, hb, hml, hown, hts⟩ (c_R_failHere l dC dI cy ad H.size ((3 : Int32)) iR iT wT tx iB lB aB iC aC q33 e33) (cwV 1 hts (goodV m_ml_X4_77 m_im_X4_failHere m_se_X4_failHere m_in_X4 m_cd_X4_failHere) rfl rfl rfl (by decide +kernel) ⟨(show 1 + 1 ≤ fo + 6 by omega), (show 8 + (2 + 11) + (22) ≤ lo + 144 by omega)⟩) hN hK hP hD hS hA rfl 0 rfl rfl rfl hl.1 rfl (Nat.le_of_ble_eq_true rfl) dX4_takeOne_33 ⟨Nat.zero_le _, Nat.zero_le _⟩ (fun H locs hP hD hS => ?_)
        have h' := Option.some.inj h
        rw [← hQQ]
        exact W.iret (v := q33.1) hx hb hr (fun t ht hW => ⟨⟨q33.1, (), rfl, by rw [← h'], by rw [← hWQ, ← h', ht]; exact hP, va_K.moved hW.alike hK⟩, hS.F ht⟩) hS.2.2 dX4_takeOne_36
  · have h := g_t h cz
    refine lv_aload_n hx hb dX4_takeOne_10 rfl (lv_at hl 0 rfl) ?_
    obtain ⟨q11, e11, h⟩ := g_b h
    refine callVis (cc := cX4_takeOne) (w1 := zzR ad cy (ad 3) (ad 10) (us iR [(3, q11.2.1), (4, q11.2.2)]) iT wT tx iB lB aB iC aC) (As := []) (rest := []) ⟨hx, hb, hml, hown, hts⟩ (c_R_misplaced l dC dI cy ad H.size iR iT wT tx iB lB aB iC aC q11 e11) (cwV 0 hts (goodV m_ml_X4_83 m_im_X4_misplaced m_se_X4_misplaced m_in_X4 m_cd_X4_misplaced) rfl rfl rfl (by decide +kernel) ⟨(show 2 + 1 ≤ fo + 6 by omega), (show 8 + (1 + 11) + (43) ≤ lo + 144 by omega)⟩) hN hK hP hD hS hA rfl 0 rfl rfl rfl hl.1 rfl (Nat.le_of_ble_eq_true rfl) dX4_takeOne_11 ⟨Nat.zero_le _, Nat.zero_le _⟩ (fun H locs hP hD hS => ?_)
    have h' := Option.some.inj h
    rw [← hQQ]
    exact W.iret (v := q11.1) hx hb hr (fun t ht hW => ⟨⟨q11.1, (), rfl, by rw [← h'], by rw [← hWQ, ← h', ht]; exact hP, va_K.moved hW.alike hK⟩, hS.F ht⟩) hS.2.2 dX4_takeOne_14
theorem c_R_takeOne (l : Launch) (dC : Nat → ClassId) (dI : Nat → Nat → Nat) (cy : Nat → ClassId) (ad : Nat → Nat) (sz : Nat) (N : Nat) (d : Nat) (a1 : Int32) (iR : Nat → Int32) (iT : Nat → Int32) (wT : Int64) (tx : Nat → Int32) (iB : Nat → Int32) (lB : Nat → Nat → Int64) (aB : Nat → Nat → Int32) (iC : Nat → Int32) (aC : Nat → Nat → Int32) (q : Int32 × (Nat → Int32) × (Nat → Int32) × Int64 × (Nat → Int32) × (Nat → Nat → Int64) × (Nat → Int32) × (Nat → Nat → Int32)) (h : f_R_takeOne N d a1 iR iT wT tx iB lB aB iC aC = some q) : Met l yX4_takeOne wsX4_takeOne ({ frames := 6 * d, cells := 0, slots := 0, locals := 144 * d } : Room) (cP (dC, dI) cy [.ref (ad 0), .int a1] (zzR ad cy (ad 3) (ad 10) iR iT wT tx iB lB aB iC aC) sz) (cQi (dC, dI) cy q.1 (zzR ad cy (ad 3) (ad 10) q.2.1 q.2.2.1 q.2.2.2.1 tx q.2.2.2.2.1 q.2.2.2.2.2.1 aB q.2.2.2.2.2.2.1 q.2.2.2.2.2.2.2) (va_A (zzR ad cy (ad 3) (ad 10) iR iT wT tx iB lB aB iC aC) sz)) 0 0 (va_A (zzR ad cy (ad 3) (ad 10) iR iT wT tx iB lB aB iC aC) sz) := by
  induction d generalizing sz a1 iR iT wT tx iB lB aB iC aC q with
  | zero => rw [f_R_takeOne] at h; cases h
  | succ d ih =>
    rw [f_R_takeOne] at h
    exact c_R_takeOneB l dC dI cy ad sz N (6 * d) (144 * d) (f_R_takeOne N d) (fun sz a1 iR iT wT tx iB lB aB iC aC q h => ih sz a1 iR iT wT tx iB lB aB iC aC q h) a1 iR iT wT tx iB lB aB iC aC q h
