def mm_kbr (E : mmE) (f d m : Nat) (is : List mmI) (L : List Value) (h : mmH) : Bool → Nat → List Value → Option (Option Value × mmH) := fun c b S => if c then mm_run E f d m (mm_blk m b) L S h else mm_run E f d m is L S h
def mm_kcl (E : mmE) (f d m : Nat) (is : List mmI) (L : List Value) (h : mmH) : Nat → List Value → List Value → Option (Option Value × mmH) := fun c as r => match d with
  | 0 => none
  | d' + 1 => if (mm_lay as).length ≤ mm_maxL c ∧ (mm_iss.getD c true || mm_hr as) = true then (match mm_run E f d' c (mm_blk c 0) (mm_ent (mm_maxL c) as) [] h with
    | some (v, h') => mm_run E f d m is L (v.toList ++ r) h'
    | none => none) else none
theorem mm_run_cons (E : mmE) (f d m : Nat) (i : mmI) (is : List mmI) (L S : List Value) (h : mmH) : mm_run E (f + 1) d m (i :: is) L S h = mm_then (mm_step E L S h i.2.1 i.2.2) none (fun L S h => mm_run E f d m is L S h) (mm_kbr E f d m is L h) (fun b S => mm_run E f d m (mm_blk m b) L S h) (fun v => some (v, h)) (mm_kcl E f d m is L h) := by
  rw [mm_run]
  rfl
set_option maxHeartbeats 8000000 in
set_option maxRecDepth 100000 in
/-- WHAT THE SMALL MACHINE DOES, THE JVM DOES -/
theorem mm_W (l : Launch) : ∀ f, mm_Wst l f := by
  intro f
  induction f with
  | zero => intro p e R s mth args below meth c Q E D dA m d is L S h r hF H ls locs z0 z1 _ _ hrun; cases hrun
  | succ f ih =>
    intro p e R s mth args below meth c Q E D dA m d is L S h r hF H ls locs z0 z1 cx hok hrun hfr hlo hcR hsR hz0 hz1 hr hS hloc hLn hfin
    cases is with
    | nil => cases hrun
    | cons i is =>
      obtain ⟨pc, ins, ex⟩ := i
      simp only [mm_okL, Bool.and_eq_true] at hok
      obtain ⟨⟨⟨hdk, htk⟩, hlk⟩, hok'⟩ := hok
      have hsz : ls.size = mm_maxL m := hloc.1.trans hLn
      have hx := cx.1
      have hb := cx.2.1
      have hown := cx.2.2.2.2.1
      have hts := cx.2.2.2.2.2.1
      have hrun0 := hrun
      rw [mm_run_cons] at hrun
      have hfr1 : 1 ≤ R.frames := by omega
      have hlo60 : 60 ≤ R.locals := by omega
      have hmono : h.1 ≤ hF.1 ∧ h.2.1 ≤ hF.2.1 := mm_mono (f + 1) d m ((pc, ins, ex) :: is) L S h r hF hrun0
      have hhas := hloc.has
      have K : mm_gen ins = true → ∀ (L' S' : List Value) (h' : mmH) (H' : Heap) (ls' : Array Slot) (locs' : List Loc), mm_run E f d m is L' S' h' = some (r, hF) → z0 ≤ h'.1 → z1 ≤ h'.2.1 → mm_rel E D dA h' H' → va_S (mm_A E) s.heap H' locs' → mm_loc L' ls' → L'.length = mm_maxL m → W p l e R s mth args below meth c H' locs' (h'.1 - z0) (h'.2.1 - z1) Q (F0 mth (pc + mm_ln ins) ls' S') := by
        intro hg L' S' h' H' ls' locs' hrun' a1 a2 a3 a4 a5 a6
        have hp : mm_pcH is = pc + mm_ln ins := by
          cases is with
          | nil => cases f <;> cases hrun'
          | cons j js => exact (mm_dkS hg hdk).2 _ rfl
        rw [← hp]
        exact ih p e R s mth args below meth c Q E D dA m d is L' S' h' r hF H' ls' locs' z0 z1 cx hok' hrun' hfr hlo hcR hsR a1 a2 a3 a4 a5 a6 hfin
      have K1 : mm_gen ins = true → ∀ (S' : List Value), mm_run E f d m is L S' h = some (r, hF) → W p l e R s mth args below meth c H locs (h.1 - z0) (h.2.1 - z1) Q (F0 mth (pc + mm_ln ins) ls S') := fun hg S' hrun' => K hg L S' h H ls locs hrun' hz0 hz1 hr hS hloc hLn
      have KL : mm_gen ins = true → ∀ (L' S' : List Value) (ls' : Array Slot), mm_run E f d m is L' S' h = some (r, hF) → mm_loc L' ls' → L'.length = L.length → W p l e R s mth args below meth c H locs (h.1 - z0) (h.2.1 - z1) Q (F0 mth (pc + mm_ln ins) ls' S') := fun hg L' S' ls' hrun' g1 g2 => K hg L' S' h H ls' locs hrun' hz0 hz1 hr hS g1 (g2.trans hLn)
      have KH : mm_gen ins = true → ∀ (S' : List Value) (a : Nat) (cc : mmC), mm_run E f d m is L S' (mm_set h a cc) = some (r, hF) → ∀ (H1 : Heap) (locs1 : List Loc), mm_rel E D dA (mm_set h a cc) H1 → va_S (mm_A E) s.heap H1 locs1 → W p l e R s mth args below meth c H1 locs1 (h.1 - z0) (h.2.1 - z1) Q (F0 mth (pc + mm_ln ins) ls S') := fun hg S' a cc hrun' H1 locs1 g1 g2 => K hg L S' (mm_set h a cc) H1 ls locs1 hrun' hz0 hz1 g1 g2 hloc hLn
      have KN : mm_gen ins = true → ∀ (S' : List Value) (n : Nat) (cc : mmC), mm_run E f d m is L S' (mm_new h n cc) = some (r, hF) → (h.1 - z0 + 1 ≤ R.cells ∧ h.2.1 - z1 + n ≤ R.slots) ∧ ∀ (H1 : Heap), mm_rel E D dA (mm_new h n cc) H1 → va_S (mm_A E) s.heap H1 locs → W p l e R s mth args below meth c H1 locs (h.1 - z0 + 1) (h.2.1 - z1 + n) Q (F0 mth (pc + mm_ln ins) ls S') := by
        intro hg S' n cc hrun'
        have hm := mm_mono _ _ _ _ _ _ _ _ _ hrun'
        have e1 : (mm_new h n cc).1 = h.1 + 1 := rfl
        have e2 : (mm_new h n cc).2.1 = h.2.1 + n := rfl
        rw [e1, e2] at hm
        refine ⟨⟨by omega, by omega⟩, fun H1 g1 g2 => ?_⟩
        have hW := K hg L S' (mm_new h n cc) H1 ls locs hrun' (by rw [e1]; omega) (by rw [e2]; omega) g1 g2 hloc hLn
        rw [e1, e2, show h.1 + 1 - z0 = h.1 - z0 + 1 by omega, show h.2.1 + n - z1 = h.2.1 - z1 + n by omega] at hW
        exact hW
      have KB : ∀ (b t : Nat) (S' : List Value), mm_hd m b = some t → mm_run E f d m (mm_blk m b) L S' h = some (r, hF) → W p l e R s mth args below meth c H locs (h.1 - z0) (h.2.1 - z1) Q (F0 mth t ls S') := by
        intro b t S' ht hrun'
        have hp : mm_pcH (mm_blk m b) = t := by
          unfold mm_pcH
          unfold mm_hd at ht
          rw [ht]
          rfl
        rw [← hp]
        exact ih p e R s mth args below meth c Q E D dA m d (mm_blk m b) L S' h r hF H ls locs z0 z1 cx (mm_okB m b) hrun' hfr hlo hcR hsR hz0 hz1 hr hS hloc hLn hfin
      have hd : mm_gen ins = true → decode (mm_by m) pc = .ok (ins, mm_ln ins) := fun hg => (mm_dkS hg hdk).1
      show W p l e R s mth args below meth c H locs (h.1 - z0) (h.2.1 - z1) Q (F0 mth pc ls S)
      unfold mm_step at hrun
      cases ins with
      | nop =>
        exact KB _ _ _ (of_decide_eq_true htk) hrun
      | aconst_null =>
        exact lv_null hx hb (hd rfl) (K1 rfl _ hrun)
      | iconst n =>
        exact lv_iconst hx hb (hd rfl) rfl (K1 rfl _ hrun)
      | lconst n =>
        exact lv_lconst hx hb (hd rfl) rfl (K1 rfl _ hrun)
      | bipush n =>
        exact lv_bipush hx hb (hd rfl) rfl (K1 rfl _ hrun)
      | sipush n =>
        exact lv_sipush hx hb (hd rfl) rfl (K1 rfl _ hrun)
      | ldc idx =>
        unfold mm_lk at hlk
        dsimp only at hlk hrun
        by_cases h0 : mm_k0 ex = 0
        · rw [if_pos h0] at hlk hrun
          exact lv_ldc hx hb hown (hts _ (mm_win (mm_wdm (of_decide_eq_true hlk)) rfl)) (hd rfl) (K1 rfl _ hrun)
        · rw [if_neg h0] at hlk hrun
          by_cases h3 : mm_k1 ex = 3
          · rw [if_pos h3] at hlk
            rw [h3] at hrun
            obtain ⟨mi, e1, hM⟩ := cx.2.2.2.2.2.2.2.2.2.2.1
            rw [e1] at hrun
            exact va_ldcM hx hb hown (hts _ (mm_win (mm_wdm (of_decide_eq_true hlk)) rfl)) hM (hd rfl) (K1 rfl _ hrun)
          · rw [if_neg h3] at hlk
            rw [Bool.and_eq_true] at hlk
            obtain ⟨h10, hlk⟩ := hlk
            have h10 : 10 ≤ mm_k1 ex := of_decide_eq_true h10
            split at hlk
            · rename_i o x t ht
              simp only [Bool.and_eq_true, decide_eq_true_eq] at hlk
              obtain ⟨rfl, rfl⟩ := hlk
              obtain ⟨a, e1, hR⟩ := cx.2.2.2.2.2.2.2.2.2.2.2.1 _ _ _ _ ht
              rw [show 10 + (mm_k1 ex - 10) = mm_k1 ex by omega] at e1
              rw [e1] at hrun
              exact va_ldcS hx hb hown hR (hd rfl) (K1 rfl _ hrun)
            · cases hlk
      | ldc2_w idx =>
        exact lv_ldc2 hx hb hown (hts _ (mm_win (mm_wdm (of_decide_eq_true hlk)) rfl)) (hd rfl) (K1 rfl _ hrun)
      | getstatic idx =>
        have hlk2 := (Bool.and_eq_true _ _).mp hlk
        exact mr_gets cx hS (of_decide_eq_true hlk2.1) (mm_win (mm_wdm (of_decide_eq_true hlk2.2)) rfl) (hd rfl) (K1 rfl _ hrun)
      | iload i =>
        obtain ⟨w, hw, hun, hrun, hc⟩ := inv_ld hrun
        rcases hc with ⟨h2, q⟩ | ⟨h2, q⟩ | ⟨h2, q⟩
        · first | (cases h2; done) | (obtain ⟨x, rfl⟩ := q; exact lv_iload hx hb (hd rfl) (hloc.2.2 _ _ hw hun) (K1 rfl _ hrun))
        · first | (cases h2; done) | (obtain ⟨x, rfl⟩ := q; exact lv_iload hx hb (hd rfl) (hloc.2.2 _ _ hw hun) (K1 rfl _ hrun))
        · cases h2
      | iload_n i =>
        obtain ⟨w, hw, hun, hrun, hc⟩ := inv_ld hrun
        rcases hc with ⟨h2, q⟩ | ⟨h2, q⟩ | ⟨h2, q⟩
        · first | (cases h2; done) | (obtain ⟨x, rfl⟩ := q; exact lv_iload_n hx hb (hd rfl) rfl (hloc.2.2 _ _ hw hun) (K1 rfl _ hrun))
        · first | (cases h2; done) | (obtain ⟨x, rfl⟩ := q; exact lv_iload_n hx hb (hd rfl) rfl (hloc.2.2 _ _ hw hun) (K1 rfl _ hrun))
        · cases h2
      | lload i =>
        obtain ⟨w, hw, hun, hrun, hc⟩ := inv_ld hrun
        rcases hc with ⟨h2, q⟩ | ⟨h2, q⟩ | ⟨h2, q⟩
        · first | (cases h2; done) | (obtain ⟨x, rfl⟩ := q; exact lv_lload hx hb (hd rfl) (hloc.2.2 _ _ hw hun) (K1 rfl _ hrun))
        · first | (cases h2; done) | (obtain ⟨x, rfl⟩ := q; exact lv_lload hx hb (hd rfl) (hloc.2.2 _ _ hw hun) (K1 rfl _ hrun))
        · cases h2
      | lload_n i =>
        obtain ⟨w, hw, hun, hrun, hc⟩ := inv_ld hrun
        rcases hc with ⟨h2, q⟩ | ⟨h2, q⟩ | ⟨h2, q⟩
        · first | (cases h2; done) | (obtain ⟨x, rfl⟩ := q; exact lv_lload_n hx hb (hd rfl) rfl (hloc.2.2 _ _ hw hun) (K1 rfl _ hrun))
        · first | (cases h2; done) | (obtain ⟨x, rfl⟩ := q; exact lv_lload_n hx hb (hd rfl) rfl (hloc.2.2 _ _ hw hun) (K1 rfl _ hrun))
        · cases h2
      | aload i =>
        obtain ⟨w, hw, hun, hrun, hc⟩ := inv_ld hrun
        rcases hc with ⟨h2, q⟩ | ⟨h2, q⟩ | ⟨h2, q⟩
        · cases h2
        · cases h2
        · rcases q with rfl | ⟨a, rfl⟩
          · exact lv_aloadN hx hb (hd rfl) (hloc.2.2 _ _ hw hun) (K1 rfl _ hrun)
          · exact lv_aload hx hb (hd rfl) (hloc.2.2 _ _ hw hun) (K1 rfl _ hrun)
      | aload_n i =>
        obtain ⟨w, hw, hun, hrun, hc⟩ := inv_ld hrun
        rcases hc with ⟨h2, q⟩ | ⟨h2, q⟩ | ⟨h2, q⟩
        · cases h2
        · cases h2
        · rcases q with rfl | ⟨a, rfl⟩
          · exact lv_aload_nN hx hb (hd rfl) rfl (hloc.2.2 _ _ hw hun) (K1 rfl _ hrun)
          · exact lv_aload_n hx hb (hd rfl) rfl (hloc.2.2 _ _ hw hun) (K1 rfl _ hrun)
      | istore i =>
        obtain ⟨w, rest, rfl, hc⟩ := inv_sto hrun
        rcases hc with ⟨h2, hi, q, hrun⟩ | ⟨h2, hi, q, hrun⟩ | ⟨h2, hi, q, hrun⟩
        · obtain ⟨x, rfl⟩ := q
          exact lv_istore hx hb (hd rfl) hhas hi rfl (fun ls' h' => KL rfl _ _ ls' hrun (mm_st1_loc h') (by unfold mm_st1; rw [List.length_set, mm_clr_len]))
        · cases h2
        · cases h2
      | lstore i =>
        obtain ⟨w, rest, rfl, hc⟩ := inv_sto hrun
        rcases hc with ⟨h2, hi, q, hrun⟩ | ⟨h2, hi, q, hrun⟩ | ⟨h2, hi, q, hrun⟩
        · cases h2
        · obtain ⟨x, rfl⟩ := q
          exact lv_lstore hx hb (hd rfl) hhas hi rfl (fun ls' h' => KL rfl _ _ ls' hrun (mm_st2_loc h') (by unfold mm_st2; rw [List.length_set, List.length_set, mm_clr_len]))
        · cases h2
      | astore i =>
        obtain ⟨w, rest, rfl, hc⟩ := inv_sto hrun
        rcases hc with ⟨h2, hi, q, hrun⟩ | ⟨h2, hi, q, hrun⟩ | ⟨h2, hi, q, hrun⟩
        · cases h2
        · cases h2
        · rcases q with rfl | ⟨a, rfl⟩
          · exact lv_astoreN hx hb (hd rfl) hhas hi rfl (fun ls' h' => KL rfl _ _ ls' hrun (mm_st1_loc h') (by unfold mm_st1; rw [List.length_set, mm_clr_len]))
          · exact lv_astore hx hb (hd rfl) hhas hi rfl (fun ls' h' => KL rfl _ _ ls' hrun (mm_st1_loc h') (by unfold mm_st1; rw [List.length_set, mm_clr_len]))
      | istore_n i =>
        obtain ⟨w, rest, rfl, hc⟩ := inv_sto hrun
        rcases hc with ⟨h2, hi, q, hrun⟩ | ⟨h2, hi, q, hrun⟩ | ⟨h2, hi, q, hrun⟩
        · obtain ⟨x, rfl⟩ := q
          exact lv_istore_n hx hb (hd rfl) rfl hhas hi rfl (fun ls' h' => KL rfl _ _ ls' hrun (mm_st1_loc h') (by unfold mm_st1; rw [List.length_set, mm_clr_len]))
        · cases h2
        · cases h2
      | lstore_n i =>
        obtain ⟨w, rest, rfl, hc⟩ := inv_sto hrun
        rcases hc with ⟨h2, hi, q, hrun⟩ | ⟨h2, hi, q, hrun⟩ | ⟨h2, hi, q, hrun⟩
        · cases h2
        · obtain ⟨x, rfl⟩ := q
          exact lv_lstore_n hx hb (hd rfl) rfl hhas hi rfl (fun ls' h' => KL rfl _ _ ls' hrun (mm_st2_loc h') (by unfold mm_st2; rw [List.length_set, List.length_set, mm_clr_len]))
        · cases h2
      | astore_n i =>
        obtain ⟨w, rest, rfl, hc⟩ := inv_sto hrun
        rcases hc with ⟨h2, hi, q, hrun⟩ | ⟨h2, hi, q, hrun⟩ | ⟨h2, hi, q, hrun⟩
        · cases h2
        · cases h2
        · rcases q with rfl | ⟨a, rfl⟩
          · exact lv_astore_nN hx hb (hd rfl) rfl hhas hi rfl (fun ls' h' => KL rfl _ _ ls' hrun (mm_st1_loc h') (by unfold mm_st1; rw [List.length_set, mm_clr_len]))
          · exact lv_astore_n hx hb (hd rfl) rfl hhas hi rfl (fun ls' h' => KL rfl _ _ ls' hrun (mm_st1_loc h') (by unfold mm_st1; rw [List.length_set, mm_clr_len]))
      | iinc i n =>
        dsimp only at hrun
        split at hrun
        · rename_i x hxl
          obtain ⟨k, hk⟩ := List.mem_iff_getElem?.mp (mm_prs_mem.mpr ⟨hxl, fun q => by cases q⟩)
          exact lv_iinc hx hb (hd rfl) hhas hk rfl (List.getElem?_eq_some_iff.mp hxl).1 rfl (fun ls' h' => KL rfl _ _ ls' hrun (mm_st1_loc h') (by unfold mm_st1; rw [List.length_set, mm_clr_len]))
        · cases hrun
      | pop =>
        dsimp only at hrun
        split at hrun
        · rename_i v rest
          obtain ⟨hw, hrun⟩ := inv_fi hrun
          exact lv_pop hx hb (hd rfl) (mm_cat1 hw) (K1 rfl _ hrun)
        · cases hrun
      | dup =>
        dsimp only at hrun
        split at hrun
        · rename_i v rest
          obtain ⟨hw, hrun⟩ := inv_fi hrun
          exact lv_dup hx hb (hd rfl) (mm_cat1 hw) (K1 rfl _ hrun)
        · cases hrun
      | dup_x1 =>
        dsimp only at hrun
        split at hrun
        · rename_i v w rest
          obtain ⟨hw, hrun⟩ := inv_fi hrun
          rw [Bool.or_eq_true, not_or] at hw
          exact lv_dup_x1 hx hb (hd rfl) (mm_cat1 hw.1) (mm_cat1 hw.2) (K1 rfl _ hrun)
        · cases hrun
      | dup2 =>
        dsimp only at hrun
        split at hrun
        · rename_i v w rest
          obtain ⟨hw, hrun⟩ := inv_fi hrun
          rw [Bool.or_eq_true, not_or] at hw
          exact lv_dup2_11 hx hb (hd rfl) (mm_cat1 hw.1) (mm_cat1 hw.2) (K1 rfl _ hrun)
        · cases hrun
      | iadd =>
        obtain ⟨x, y, rest, hSS, hrun1⟩ := inv_ii hrun
        clear hrun
        subst hSS
        have hrun := hrun1
        clear hrun1
        try dsimp only at hrun
        exact lv_iadd hx hb (hd rfl) (K1 rfl _ hrun)
      | isub =>
        obtain ⟨x, y, rest, hSS, hrun1⟩ := inv_ii hrun
        clear hrun
        subst hSS
        have hrun := hrun1
        clear hrun1
        try dsimp only at hrun
        exact lv_isub hx hb (hd rfl) (K1 rfl _ hrun)
      | imul =>
        obtain ⟨x, y, rest, hSS, hrun1⟩ := inv_ii hrun
        clear hrun
        subst hSS
        have hrun := hrun1
        clear hrun1
        try dsimp only at hrun
        exact lv_imul hx hb (hd rfl) (K1 rfl _ hrun)
      | iand =>
        obtain ⟨x, y, rest, hSS, hrun1⟩ := inv_ii hrun
        clear hrun
        subst hSS
        have hrun := hrun1
        clear hrun1
        try dsimp only at hrun
        exact lv_iand hx hb (hd rfl) (K1 rfl _ hrun)
      | ior =>
        obtain ⟨x, y, rest, hSS, hrun1⟩ := inv_ii hrun
        clear hrun
        subst hSS
        have hrun := hrun1
        clear hrun1
        try dsimp only at hrun
        exact lv_ior hx hb (hd rfl) (K1 rfl _ hrun)
      | ishl =>
        obtain ⟨x, y, rest, hSS, hrun1⟩ := inv_ii hrun
        clear hrun
        subst hSS
        have hrun := hrun1
        clear hrun1
        try dsimp only at hrun
        exact lv_ishl hx hb (hd rfl) (K1 rfl _ hrun)
      | ishr =>
        obtain ⟨x, y, rest, hSS, hrun1⟩ := inv_ii hrun
        clear hrun
        subst hSS
        have hrun := hrun1
        clear hrun1
        try dsimp only at hrun
        exact lv_ishr hx hb (hd rfl) (K1 rfl _ hrun)
      | idiv =>
        obtain ⟨x, y, rest, hSS, hrun1⟩ := inv_ii hrun
        clear hrun
        subst hSS
        have hrun := hrun1
        clear hrun1
        try dsimp only at hrun
        obtain ⟨hne, hrun⟩ := inv_fi hrun
        exact lv_idiv hx hb (hd rfl) hne (K1 rfl _ hrun)
      | irem =>
        obtain ⟨x, y, rest, hSS, hrun1⟩ := inv_ii hrun
        clear hrun
        subst hSS
        have hrun := hrun1
        clear hrun1
        try dsimp only at hrun
        obtain ⟨hne, hrun⟩ := inv_fi hrun
        exact lv_irem hx hb (hd rfl) hne (K1 rfl _ hrun)
      | iushr =>
        obtain ⟨x, y, rest, hSS, hrun1⟩ := inv_ii hrun
        clear hrun
        subst hSS
        have hrun := hrun1
        clear hrun1
        try dsimp only at hrun
        exact lv_iushr hx hb (hd rfl) rfl (K1 rfl _ hrun)
      | ladd =>
        obtain ⟨x, y, rest, hSS, hrun1⟩ := inv_ll hrun
        clear hrun
        subst hSS
        have hrun := hrun1
        clear hrun1
        try dsimp only at hrun
        exact lv_ladd hx hb (hd rfl) (K1 rfl _ hrun)
      | lmul =>
        obtain ⟨x, y, rest, hSS, hrun1⟩ := inv_ll hrun
        clear hrun
        subst hSS
        have hrun := hrun1
        clear hrun1
        try dsimp only at hrun
        exact lv_lmul hx hb (hd rfl) (K1 rfl _ hrun)
      | land =>
        obtain ⟨x, y, rest, hSS, hrun1⟩ := inv_ll hrun
        clear hrun
        subst hSS
        have hrun := hrun1
        clear hrun1
        try dsimp only at hrun
        exact lv_land hx hb (hd rfl) (K1 rfl _ hrun)
      | lor =>
        obtain ⟨x, y, rest, hSS, hrun1⟩ := inv_ll hrun
        clear hrun
        subst hSS
        have hrun := hrun1
        clear hrun1
        try dsimp only at hrun
        exact lv_lor hx hb (hd rfl) (K1 rfl _ hrun)
      | lcmp =>
        obtain ⟨x, y, rest, hSS, hrun1⟩ := inv_ll hrun
        clear hrun
        subst hSS
        have hrun := hrun1
        clear hrun1
        try dsimp only at hrun
        exact W.lcmp hx hb (hd rfl) (K1 rfl _ hrun)
      | lshl =>
        obtain ⟨x, y, rest, hSS, hrun1⟩ := inv_li hrun
        clear hrun
        subst hSS
        have hrun := hrun1
        clear hrun1
        try dsimp only at hrun
        exact lv_lshl hx hb (hd rfl) rfl (K1 rfl _ hrun)
      | lshr =>
        obtain ⟨x, y, rest, hSS, hrun1⟩ := inv_li hrun
        clear hrun
        subst hSS
        have hrun := hrun1
        clear hrun1
        try dsimp only at hrun
        exact lv_lshr hx hb (hd rfl) rfl (K1 rfl _ hrun)
      | i2l =>
        obtain ⟨x, rest, hSS, hrun1⟩ := inv_i hrun
        clear hrun
        subst hSS
        have hrun := hrun1
        clear hrun1
        try dsimp only at hrun
        exact lv_i2l hx hb (hd rfl) rfl (K1 rfl _ hrun)
      | i2b =>
        obtain ⟨x, rest, hSS, hrun1⟩ := inv_i hrun
        clear hrun
        subst hSS
        have hrun := hrun1
        clear hrun1
        try dsimp only at hrun
        exact lv_i2b hx hb (hd rfl) rfl (K1 rfl _ hrun)
      | i2c =>
        obtain ⟨x, rest, hSS, hrun1⟩ := inv_i hrun
        clear hrun
        subst hSS
        have hrun := hrun1
        clear hrun1
        try dsimp only at hrun
        exact lv_i2c hx hb (hd rfl) rfl (K1 rfl _ hrun)
      | l2i =>
        obtain ⟨x, rest, hSS, hrun1⟩ := inv_l hrun
        clear hrun
        subst hSS
        have hrun := hrun1
        clear hrun1
        try dsimp only at hrun
        exact lv_l2i hx hb (hd rfl) rfl (K1 rfl _ hrun)
      | goto o =>
        obtain ⟨t, ht, hto⟩ := mm_toS htk
        exact lv_goto hx hb (hd rfl) hto (KB _ _ _ ht hrun)
      | ifCond cn o =>
        obtain ⟨x, rest, hSS, hrun1⟩ := inv_i hrun
        clear hrun
        subst hSS
        have hrun := hrun1
        clear hrun1
        try dsimp only at hrun
        obtain ⟨t, ht, hto⟩ := mm_toS htk
        have hrun : (if mm_con cn x 0 = true then mm_run E f d m (mm_blk m (mm_k0 ex)) L rest h else mm_run E f d m is L rest h) = some (r, hF) := hrun
        cases cn with
        | eq => exact lv_if_eq hx hb (hd rfl) hto (fun q => KB _ _ _ ht ((if_pos (decide_eq_true q)).symm.trans hrun)) (fun q => K1 rfl _ ((if_neg (fun z => q (of_decide_eq_true z))).symm.trans hrun))
        | ne => exact lv_if_ne hx hb (hd rfl) hto (fun q => KB _ _ _ ht ((if_pos (decide_eq_true q)).symm.trans hrun)) (fun q => K1 rfl _ ((if_neg (fun z => absurd q (of_decide_eq_true z))).symm.trans hrun))
        | lt => exact lv_if_lt hx hb (hd rfl) hto (fun q => KB _ _ _ ht ((if_pos (decide_eq_true q)).symm.trans hrun)) (fun q => K1 rfl _ ((if_neg (fun z => q (of_decide_eq_true z))).symm.trans hrun))
        | ge => exact lv_if_ge hx hb (hd rfl) hto (fun q => KB _ _ _ ht ((if_pos (decide_eq_true q)).symm.trans hrun)) (fun q => K1 rfl _ ((if_neg (fun z => q (of_decide_eq_true z))).symm.trans hrun))
        | gt => exact lv_if_gt hx hb (hd rfl) hto (fun q => KB _ _ _ ht ((if_pos (decide_eq_true q)).symm.trans hrun)) (fun q => K1 rfl _ ((if_neg (fun z => q (of_decide_eq_true z))).symm.trans hrun))
        | le => exact lv_if_le hx hb (hd rfl) hto (fun q => KB _ _ _ ht ((if_pos (decide_eq_true q)).symm.trans hrun)) (fun q => K1 rfl _ ((if_neg (fun z => q (of_decide_eq_true z))).symm.trans hrun))
      | if_icmp cn o =>
        obtain ⟨x, y, rest, hSS, hrun1⟩ := inv_ii hrun
        clear hrun
        subst hSS
        have hrun := hrun1
        clear hrun1
        try dsimp only at hrun
        obtain ⟨t, ht, hto⟩ := mm_toS htk
        have hrun : (if mm_con cn x y = true then mm_run E f d m (mm_blk m (mm_k0 ex)) L rest h else mm_run E f d m is L rest h) = some (r, hF) := hrun
        cases cn with
        | eq => exact lv_icmp_eq hx hb (hd rfl) hto (fun q => KB _ _ _ ht ((if_pos (decide_eq_true q)).symm.trans hrun)) (fun q => K1 rfl _ ((if_neg (fun z => q (of_decide_eq_true z))).symm.trans hrun))
        | ne => exact lv_icmp_ne hx hb (hd rfl) hto (fun q => KB _ _ _ ht ((if_pos (decide_eq_true q)).symm.trans hrun)) (fun q => K1 rfl _ ((if_neg (fun z => absurd q (of_decide_eq_true z))).symm.trans hrun))
        | lt => exact lv_icmp_lt hx hb (hd rfl) hto (fun q => KB _ _ _ ht ((if_pos (decide_eq_true q)).symm.trans hrun)) (fun q => K1 rfl _ ((if_neg (fun z => q (of_decide_eq_true z))).symm.trans hrun))
        | ge => exact lv_icmp_ge hx hb (hd rfl) hto (fun q => KB _ _ _ ht ((if_pos (decide_eq_true q)).symm.trans hrun)) (fun q => K1 rfl _ ((if_neg (fun z => q (of_decide_eq_true z))).symm.trans hrun))
        | gt => exact lv_icmp_gt hx hb (hd rfl) hto (fun q => KB _ _ _ ht ((if_pos (decide_eq_true q)).symm.trans hrun)) (fun q => K1 rfl _ ((if_neg (fun z => q (of_decide_eq_true z))).symm.trans hrun))
        | le => exact lv_icmp_le hx hb (hd rfl) hto (fun q => KB _ _ _ ht ((if_pos (decide_eq_true q)).symm.trans hrun)) (fun q => K1 rfl _ ((if_neg (fun z => q (of_decide_eq_true z))).symm.trans hrun))
      | if_acmp cn o =>
        dsimp only at hrun
        split at hrun
        · rename_i w v rest
          split at hrun
          · rename_i x y hvx hwy
            obtain ⟨t, ht, hto⟩ := mm_toS htk
            have hrun : (if mm_acm cn x y = true then mm_run E f d m (mm_blk m (mm_k0 ex)) L rest h else mm_run E f d m is L rest h) = some (r, hF) := hrun
            rw [mm_orefS hvx, mm_orefS hwy]
            cases cn with
            | eq => exact lv_acmp_eq hx hb (hd rfl) hto (fun q => KB _ _ _ ht ((if_pos (decide_eq_true q)).symm.trans hrun)) (fun q => K1 rfl _ ((if_neg (fun z => q (of_decide_eq_true z))).symm.trans hrun))
            | ne => exact lv_acmp_ne hx hb (hd rfl) hto (fun q => KB _ _ _ ht ((if_pos (decide_eq_true q)).symm.trans hrun)) (fun q => K1 rfl _ ((if_neg (fun z => absurd q (of_decide_eq_true z))).symm.trans hrun))
          · cases hrun
        · cases hrun
      | ifnull o =>
        dsimp only at hrun
        obtain ⟨t, ht, hto⟩ := mm_toS htk
        split at hrun
        · exact lv_ifnullN hx hb (hd rfl) hto (KB _ _ _ ht hrun)
        · exact lv_ifnull hx hb (hd rfl) (K1 rfl _ hrun)
        · cases hrun
      | ifnonnull o =>
        dsimp only at hrun
        obtain ⟨t, ht, hto⟩ := mm_toS htk
        split at hrun
        · exact lv_ifnonnullN hx hb (hd rfl) (K1 rfl _ hrun)
        · exact lv_ifnonnull hx hb (hd rfl) hto (KB _ _ _ ht hrun)
        · cases hrun
      | tableswitch df lo hi offs =>
        obtain ⟨x, rest, hSS, hrun1⟩ := inv_i hrun
        clear hrun
        subst hSS
        have hrun := hrun1
        clear hrun1
        try dsimp only at hrun
        have hdec : ∃ n, decode (mm_by m) pc = .ok (.tableswitch df lo hi offs, n) := mm_dtS hdk
        obtain ⟨n, hdec⟩ := hdec
        have hrun : mm_run E f d m (mm_blk m (mm_sw (mm_k0 ex) lo ex.tail x)) L rest h = some (r, hF) := hrun
        have htk2 : (mm_to m pc df (mm_k0 ex) && decide (ex.tail.length = offs.size) && decide (hi - lo + 1 = (offs.size : Int)) && (List.range offs.size).all (fun j => mm_to m pc (offs.getD j 0) (ex.tail.getD j 0))) = true := htk
        simp only [Bool.and_eq_true, decide_eq_true_eq] at htk2
        obtain ⟨⟨⟨t1, t2⟩, t3⟩, t4⟩ := htk2
        obtain ⟨td, htd, hdo⟩ := mm_toS t1
        unfold mm_sw at hrun
        by_cases hlo2 : x.toInt < lo
        · rw [if_pos hlo2] at hrun
          exact lv_tableOut hx hb hdec (Or.inl hlo2) hdo (KB _ _ _ htd hrun)
        · rw [if_neg hlo2] at hrun
          by_cases hhi2 : hi < x.toInt
          · have e1 : ex.tail.getD (x.toInt - lo).toNat (mm_k0 ex) = mm_k0 ex := by
              rw [List.getD_eq_getElem?_getD, List.getElem?_eq_none (by omega)]
              rfl
            rw [e1] at hrun
            exact lv_tableOut hx hb hdec (Or.inr hhi2) hdo (KB _ _ _ htd hrun)
          · have hj : (x.toInt - lo).toNat < offs.size := by omega
            have t5 := List.all_eq_true.mp t4 _ (List.mem_range.mpr hj)
            obtain ⟨tt, htt, hto⟩ := mm_toS t5
            have e1 : ex.tail.getD (x.toInt - lo).toNat (mm_k0 ex) = ex.tail.getD (x.toInt - lo).toNat 0 := by
              rw [List.getD_eq_getElem?_getD, List.getD_eq_getElem?_getD, List.getElem?_eq_getElem (by omega)]
              rfl
            rw [e1] at hrun
            refine lv_tableIn hx hb hdec hlo2 hhi2 ?_ hto (KB _ _ _ htt hrun)
            rw [Array.getD_eq_getD_getElem?, Array.getElem?_eq_getElem hj]
            rfl
      | arraylength =>
        obtain ⟨a, rest, hSS, hrun1⟩ := inv_a hrun
        clear hrun
        subst hSS
        have hrun := hrun1
        clear hrun1
        try dsimp only at hrun
        split at hrun
        · rename_i n hn
          exact mr_alen cx hr hS hn (hd rfl) (K1 rfl _ hrun)
        · cases hrun
      | iaload =>
        obtain ⟨j, a, rest, hSS, hrun1⟩ := inv_ia hrun
        clear hrun
        subst hSS
        have hrun := hrun1
        clear hrun1
        try dsimp only at hrun
        split at hrun
        · rename_i t n g hn
          obtain ⟨hC, hrun1⟩ := inv_if hrun
          clear hrun
          have hrun := hrun1
          clear hrun1
          obtain ⟨rfl, hin⟩ := hC
          exact mr_iald cx hr hS hn hin (hd rfl) (K1 rfl _ hrun)
        · cases hrun
      | baload =>
        obtain ⟨j, a, rest, hSS, hrun1⟩ := inv_ia hrun
        clear hrun
        subst hSS
        have hrun := hrun1
        clear hrun1
        try dsimp only at hrun
        split at hrun
        · rename_i t n g hn
          obtain ⟨hC, hrun1⟩ := inv_if hrun
          clear hrun
          have hrun := hrun1
          clear hrun1
          obtain ⟨ht, hin⟩ := hC
          exact mr_bald cx hr hS hn ht hin (hd rfl) (K1 rfl _ hrun)
        · cases hrun
      | aaload =>
        obtain ⟨j, a, rest, hSS, hrun1⟩ := inv_ia hrun
        clear hrun
        subst hSS
        have hrun := hrun1
        clear hrun1
        try dsimp only at hrun
        split at hrun
        · rename_i t n g hn
          obtain ⟨hC, hrun1⟩ := inv_if hrun
          clear hrun
          have hrun := hrun1
          clear hrun1
          have hin := hC
          exact mr_aald cx hr hn hin (hd rfl) (K1 rfl _ hrun)
        · cases hrun
      | iastore =>
        obtain ⟨x, S1, hSS, hrun1⟩ := inv_i hrun
        clear hrun
        subst hSS
        have hrun := hrun1
        clear hrun1
        try dsimp only at hrun
        obtain ⟨j, a, rest, hSS, hrun1⟩ := inv_ia hrun
        clear hrun
        subst hSS
        have hrun := hrun1
        clear hrun1
        try dsimp only at hrun
        split at hrun
        · rename_i t n g hn
          obtain ⟨hC, hrun1⟩ := inv_if hrun
          clear hrun
          have hrun := hrun1
          clear hrun1
          obtain ⟨rfl, hin⟩ := hC
          exact mr_iast cx hr hS hn hin (hd rfl) (KH rfl _ _ _ hrun)
        · cases hrun
      | bastore =>
        obtain ⟨x, S1, hSS, hrun1⟩ := inv_i hrun
        clear hrun
        subst hSS
        have hrun := hrun1
        clear hrun1
        try dsimp only at hrun
        obtain ⟨j, a, rest, hSS, hrun1⟩ := inv_ia hrun
        clear hrun
        subst hSS
        have hrun := hrun1
        clear hrun1
        try dsimp only at hrun
        split at hrun
        · rename_i t n g hn
          obtain ⟨hC, hrun1⟩ := inv_if hrun
          clear hrun
          have hrun := hrun1
          clear hrun1
          obtain ⟨ht, hin⟩ := hC
          exact mr_bast cx hr hS hn ht hin (hd rfl) (KH rfl _ _ _ hrun)
        · cases hrun
      | aastore =>
        dsimp only at hrun
        split at hrun
        · rename_i v S1
          obtain ⟨j, a, rest, hSS, hrun1⟩ := inv_ia hrun
          clear hrun
          subst hSS
          have hrun := hrun1
          clear hrun1
          try dsimp only at hrun
          split at hrun
          · rename_i t n g hn
            split at hrun
            · obtain ⟨hin, hrun⟩ := inv_if hrun
              exact mr_aastN cx hr hS hn hin (hd rfl) (KH rfl _ _ _ hrun)
            · obtain ⟨⟨hin, hm⟩, hrun⟩ := inv_if hrun
              exact mr_aast cx hr hS hn hm hin (hd rfl) (KH rfl _ _ _ hrun)
            · cases hrun
          · cases hrun
        · cases hrun
      | getfield idx =>
        obtain ⟨a, rest, hSS, hrun1⟩ := inv_a hrun
        clear hrun
        subst hSS
        have hrun := hrun1
        clear hrun1
        try dsimp only at hrun
        unfold mm_lk at hlk
        dsimp only at hlk
        by_cases h99 : mm_k0 ex = 99
        · rw [if_pos h99] at hlk hrun
          split at hrun
          · rename_i fs hfs
            obtain ⟨hC, hrun1⟩ := inv_if hrun
            clear hrun
            have hrun := hrun1
            clear hrun1
            skip
            rw [Bool.and_eq_true] at hlk
            exact mr_gstr cx hS hfs (of_decide_eq_true hlk.1) (mm_win (mm_wdm (of_decide_eq_true hlk.2)) rfl) (hd rfl) (K1 rfl _ hrun)
          · cases hrun
        · rw [if_neg h99] at hlk hrun
          split at hrun
          · rename_i ci fs hfs
            obtain ⟨hC, hrun1⟩ := inv_if hrun
            clear hrun
            have hrun := hrun1
            clear hrun1
            subst hC
            split at hrun
            · rename_i v hv
              exact mr_get cx hr hfs hlk hv (hd rfl) (K1 rfl _ hrun)
            · cases hrun
          · cases hrun
      | putfield idx =>
        dsimp only at hrun
        split at hrun
        · rename_i v S1
          obtain ⟨a, rest, hSS, hrun1⟩ := inv_a hrun
          clear hrun
          subst hSS
          have hrun := hrun1
          clear hrun1
          try dsimp only at hrun
          split at hrun
          · rename_i ci fs hfs
            obtain ⟨hC, hrun1⟩ := inv_if hrun
            clear hrun
            have hrun := hrun1
            clear hrun1
            obtain ⟨rfl, hkl, hft⟩ := hC
            have hlk2 := (Bool.and_eq_true _ _).mp hlk
            exact mr_put cx hr hS hfs hlk2.1 hlk2.2 hkl hft (hd rfl) (KH rfl _ _ _ hrun)
          · cases hrun
        · cases hrun
      | new idx =>
        unfold mm_lk at hlk
        dsimp only at hlk
        split at hlk
        · rename_i C T N hc
          simp only [Bool.and_eq_true, decide_eq_true_eq] at hlk
          obtain ⟨⟨⟨l1, l2⟩, l3⟩, l4⟩ := hlk
          have hrun : mm_run E f d m is L (.ref h.1 :: S) (mm_new h (mm_defs (mm_k0 ex)).length (.inr (mm_k0 ex, mm_defs (mm_k0 ex)))) = some (r, hF) := hrun
          rw [l4] at hrun
          obtain ⟨g1, g2⟩ := KN rfl _ _ _ hrun
          exact mr_new cx hr hS hc (mm_win (mm_wdm l1) rfl) (mm_win (mm_wdm l2) rfl) (mm_win (mm_wdm l3) rfl) g1.1 g1.2 (hd rfl) g2
        · cases hlk
      | newarray at_ =>
        obtain ⟨n, rest, hSS, hrun1⟩ := inv_i hrun
        clear hrun
        subst hSS
        have hrun := hrun1
        clear hrun1
        try dsimp only at hrun
        obtain ⟨hn, hrun⟩ := inv_fi hrun
        have hlk2 := (Bool.and_eq_true _ _).mp hlk
        obtain ⟨g1, g2⟩ := KN rfl _ _ _ hrun
        exact mr_newa cx hr hS (of_decide_eq_true hlk2.1) (of_decide_eq_true hlk2.2) hn g1.1 g1.2 (hd rfl) g2
      | anewarray idx =>
        obtain ⟨n, rest, hSS, hrun1⟩ := inv_i hrun
        clear hrun
        subst hSS
        have hrun := hrun1
        clear hrun1
        try dsimp only at hrun
        obtain ⟨hn, hrun⟩ := inv_fi hrun
        unfold mm_lk at hlk
        simp only [Bool.and_eq_true, Bool.or_eq_true, decide_eq_true_eq] at hlk
        obtain ⟨g1, g2⟩ := KN rfl _ _ _ hrun
        exact mr_anew cx hr hS hlk.1 (mm_win (mm_wdm hlk.2) rfl) hn g1.1 g1.2 (hd rfl) g2
      | checkcast idx =>
        dsimp only at hrun
        split at hrun
        · exact lv_castN hx hb (hd rfl) (K1 rfl _ hrun)
        · rename_i a rest
          unfold mm_lk at hlk
          dsimp only at hlk
          split at hrun
          · rename_i ci fs hfs
            obtain ⟨hC, hrun1⟩ := inv_if hrun
            clear hrun
            have hrun := hrun1
            clear hrun1
            obtain ⟨h0, rfl⟩ := hC
            rw [if_pos h0] at hlk
            rw [Bool.and_eq_true] at hlk
            exact mr_castO cx hr hfs (mm_win (mm_wdm (of_decide_eq_true hlk.2)) rfl) (hd rfl) (K1 rfl _ hrun)
          · rename_i t x hfs
            obtain ⟨hC, hrun1⟩ := inv_if hrun
            clear hrun
            have hrun := hrun1
            clear hrun1
            obtain ⟨h0, rfl⟩ := hC
            rw [if_neg (by omega)] at hlk
            simp only [Bool.and_eq_true, Bool.or_eq_true, decide_eq_true_eq] at hlk
            exact mr_castA cx hr hfs hlk.1 (mm_win (mm_wdm hlk.2) rfl) (hd rfl) (K1 rfl _ hrun)
          · cases hrun
        · cases hrun
      | ireturn =>
        dsimp only at hrun
        split at hrun
        · rename_i x
          obtain ⟨hC, hrun1⟩ := inv_if hrun
          clear hrun
          have hrun := hrun1
          clear hrun1
          have hft := hC
          cases hrun
          unfold mm_lk at hlk
          dsimp only at hlk
          split at hlk
          · rename_i ty hty
            simp only [Bool.and_eq_true, decide_eq_true_eq] at hlk
            exact hfin H locs pc ls hr hS ⟨hd rfl, ty, hty, (mm_fit_ok hft hlk.1.1).1⟩
          · cases hlk
        · cases hrun
      | lreturn =>
        dsimp only at hrun
        split at hrun
        · rename_i x
          cases hrun
          exact hfin H locs pc ls hr hS ⟨hd rfl, of_decide_eq_true hlk⟩
        · cases hrun
      | areturn =>
        have hrt : ∃ rt, mm_re m = some rt ∧ ((∃ n, rt = .object n) ∨ ∃ t, rt = .array t) := by
          unfold mm_lk at hlk
          dsimp only at hlk
          split at hlk
          · rename_i ty hty
            have h3 : mm_tg ty = 3 := of_decide_eq_true hlk
            refine ⟨ty, hty, ?_⟩
            cases ty <;> first | exact Or.inl ⟨_, rfl⟩ | exact Or.inr ⟨_, rfl⟩ | cases h3
          · cases hlk
        dsimp only at hrun
        split at hrun
        · cases hrun
          exact hfin H locs pc ls hr hS ⟨hd rfl, hrt, Or.inl rfl⟩
        · cases hrun
          exact hfin H locs pc ls hr hS ⟨hd rfl, hrt, Or.inr ⟨_, rfl⟩⟩
        · cases hrun
      | return_ =>
        dsimp only at hrun
        split at hrun
        · cases hrun
          exact hfin H locs pc ls hr hS ⟨hd rfl, of_decide_eq_true hlk⟩
        · cases hrun
      | invokestatic idx =>
        unfold mm_lk at hlk
        dsimp only at hlk hrun
        by_cases h1000 : mm_k0 ex = 1000
        · rw [if_pos h1000] at hlk hrun
          have hl := mm_win (mm_wdm (of_decide_eq_true hlk)) rfl
          unfold mm_copy at hrun
          split at hrun
          · split at hrun
            · rename_i hb0 ha0
              obtain ⟨hC, hrun1⟩ := inv_if hrun
              clear hrun
              have hrun := hrun1
              clear hrun1
              obtain ⟨q1, q2, q3, rfl, q5, q6, q7, q8⟩ := hC
              exact mr_copyI cx hr hS hb0 ha0 q5 q1 q2 q3 q6 q7 q8 hl hsz hfr1 hlo60 (hd rfl) (KH rfl _ _ _ hrun)
            · rename_i hb0 ha0
              obtain ⟨hC, hrun1⟩ := inv_if hrun
              clear hrun
              have hrun := hrun1
              clear hrun1
              obtain ⟨q1, q2, q3, rfl, rfl, q6, q7, q8⟩ := hC
              exact mr_copyR cx hr hS hb0 ha0 q1 q2 q3 q6 q7 q8 hl hsz hfr1 hlo60 (hd rfl) (KH rfl _ _ _ hrun)
            · cases hrun
          · cases hrun
        · rw [if_neg h1000] at hlk hrun
          have hcm := mm_callS (ins := .invokestatic idx) (if_neg h1000) hrun0
          simp only [Bool.and_eq_true, decide_eq_true_eq] at hlk
          obtain ⟨⟨⟨hcw, hk2⟩, hst⟩, hnar⟩ := hlk
          obtain ⟨hcal, hlink, hini⟩ := mm_cwS hcw
          obtain ⟨c1, c2, c3, d', rfl, c4, c5, w, h', hw, hgo⟩ := hcm
          rw [hk2] at c2
          have hm1 := mm_mono _ _ _ _ _ _ _ _ _ hw
          have hm2 := mm_mono _ _ _ _ _ _ _ _ _ hgo
          have hf : h.1 - z0 + (h'.1 - h.1) ≤ R.cells ∧ h.2.1 - z1 + (h'.2.1 - h.2.1) ≤ R.slots := ⟨by omega, by omega⟩
          have kk : ∀ (H1 : Heap) (locs1 : List Loc), mm_rel E D dA h' H1 → va_S (mm_A E) s.heap H1 locs1 → W p l e R s mth args below meth c H1 locs1 (h.1 - z0 + (h'.1 - h.1)) (h.2.1 - z1 + (h'.2.1 - h.2.1)) Q (F0 mth (pc + 3) ls (w.toList ++ S.drop (mm_k1 ex))) := by
            intro H1 locs1 g1 g2
            have hW := K rfl _ _ h' H1 ls locs1 hgo (by omega) (by omega) g1 g2 hloc hLn
            rw [show h'.1 - z0 = h.1 - z0 + (h'.1 - h.1) by omega, show h'.2.1 - z1 = h.2.1 - z1 + (h'.2.1 - h.2.1) by omega] at hW
            exact hW
          have hspl : S = (S.take (mm_k1 ex)).reverse.reverse ++ S.drop (mm_k1 ex) := by rw [List.reverse_reverse, List.take_append_drop]
          rw [hspl]
          rcases hlink with hlink | hlink
          · exact mr_callS cx hr hS (mm_met ih hcal c4 hw) hcal (mm_win hlink rfl) (mm_win (mm_wdm hst) rfl) (mm_win hini rfl) hnar (by rw [List.length_reverse, List.length_take]; omega) ⟨hfr, hlo⟩ hsz c2 hf (hd rfl) kk
          · exact mr_callSN cx hr hS (mm_met ih hcal c4 hw) hcal (cx.2.2.2.2.2.2.2.2.2.2.2.2.2.1 _ hlink) (mm_win (mm_wdm hst) rfl) (mm_win hini rfl) hnar (by rw [List.length_reverse, List.length_take]; omega) ⟨hfr, hlo⟩ hsz c2 hf (hd rfl) kk
      | invokevirtual idx =>
        unfold mm_lk at hlk
        dsimp only at hlk hrun
        by_cases h1001 : mm_k0 ex = 1001
        · rw [if_pos h1001] at hlk hrun
          have hl := mm_win (mm_wdm (of_decide_eq_true hlk)) rfl
          obtain ⟨a, rest, hSS, hrun1⟩ := inv_a hrun
          clear hrun
          subst hSS
          have hrun := hrun1
          clear hrun1
          try dsimp only at hrun
          split at hrun
          · rename_i t n g hn
            obtain ⟨hC, hrun1⟩ := inv_if hrun
            clear hrun
            have hrun := hrun1
            clear hrun1
            obtain ⟨rfl, hsum⟩ := hC
            obtain ⟨g1, g2⟩ := KN rfl _ _ _ hrun
            exact mr_clone cx hr hS hn hl hsum hsz hfr1 hlo60 g1.1 g1.2 (hd rfl) g2
          · cases hrun
        · rw [if_neg h1001] at hlk hrun
          by_cases h1002 : mm_k0 ex = 1002
          · rw [if_pos h1002] at hlk hrun
            simp only [Bool.and_eq_true, decide_eq_true_eq] at hlk
            obtain ⟨a, rest, hSS, hrun1⟩ := inv_a hrun
            clear hrun
            subst hSS
            have hrun := hrun1
            clear hrun1
            try dsimp only at hrun
            split at hrun
            · rename_i t x hn
              obtain ⟨hC, hrun1⟩ := inv_if hrun
              clear hrun
              have hrun := hrun1
              clear hrun1
              obtain ⟨rfl, hsum⟩ := hC
              rw [hlk.1] at hrun
              exact mr_getC cx hr hn (mm_win (mm_wdm hlk.2) rfl) hsum hsz hfr1 hlo60 (hd rfl) (K1 rfl _ hrun)
            · cases hrun
          · rw [if_neg h1002] at hlk hrun
            have hcm := mm_callS (ins := .invokevirtual idx) ((if_neg h1001).trans (if_neg h1002)) hrun0
            simp only [Bool.and_eq_true, decide_eq_true_eq] at hlk
            obtain ⟨⟨⟨⟨⟨⟨hcw, hk1⟩, hk2⟩, hcn⟩, hit⟩, hse⟩, hnar⟩ := hlk
            obtain ⟨hcal, hlink, hini⟩ := mm_cwS hcw
            obtain ⟨c1, c2, c3, d', rfl, c4, c5, w, h', hw, hgo⟩ := hcm
            have c2 := Nat.le_trans c2 (mm_lim_le _)
            have hm1 := mm_mono _ _ _ _ _ _ _ _ _ hw
            have hm2 := mm_mono _ _ _ _ _ _ _ _ _ hgo
            have hf : h.1 - z0 + (h'.1 - h.1) ≤ R.cells ∧ h.2.1 - z1 + (h'.2.1 - h.2.1) ≤ R.slots := ⟨by omega, by omega⟩
            have kk : ∀ (H1 : Heap) (locs1 : List Loc), mm_rel E D dA h' H1 → va_S (mm_A E) s.heap H1 locs1 → W p l e R s mth args below meth c H1 locs1 (h.1 - z0 + (h'.1 - h.1)) (h.2.1 - z1 + (h'.2.1 - h.2.1)) Q (F0 mth (pc + 3) ls (w.toList ++ S.drop (mm_k1 ex))) := by
              intro H1 locs1 g1 g2
              have hW := K rfl _ _ h' H1 ls locs1 hgo (by omega) (by omega) g1 g2 hloc hLn
              rw [show h'.1 - z0 = h.1 - z0 + (h'.1 - h.1) by omega, show h'.2.1 - z1 = h.2.1 - z1 + (h'.2.1 - h.2.1) by omega] at hW
              exact hW
            have hrc : mm_rcv E h (mm_k2 ex) (S[mm_k1 ex - 1]?) = true := by
              rcases c3 with c3 | c3
              · omega
              · exact c3
            obtain ⟨b, hbS⟩ := mm_rcvS hrc
            rw [hbS] at hrc
            obtain ⟨as, e1, e2, e3⟩ := mm_spl hk1 c1 hbS
            rw [e1] at hw c4
            rw [e3]
            rcases hlink with hlink | hlink
            · exact mr_callV cx hr hS (mm_met ih hcal c4 hw) hcal (mm_win hlink rfl) (mm_win (mm_wdm hit) rfl) (mm_win (mm_wdm hse) rfl) (mm_win hini rfl) hnar e2 hk2 hcn hrc ⟨hfr, hlo⟩ hsz c2 hf (hd rfl) kk
            · exact mr_callVN cx hr hS (mm_met ih hcal c4 hw) hcal (cx.2.2.2.2.2.2.2.2.2.2.2.2.2.1 _ hlink) (mm_win (mm_wdm hit) rfl) (mm_win (mm_wdm hse) rfl) (mm_win hini rfl) hnar e2 hk2 hcn hrc ⟨hfr, hlo⟩ hsz c2 hf (hd rfl) kk
      | invokespecial idx =>
        unfold mm_lk at hlk
        dsimp only at hlk hrun
        by_cases h1003 : mm_k0 ex = 1003
        · rw [if_pos h1003] at hlk hrun
          obtain ⟨a, rest, hSS, hrun1⟩ := inv_a hrun
          clear hrun
          subst hSS
          have hrun := hrun1
          clear hrun1
          try dsimp only at hrun
          obtain ⟨hC, hrun1⟩ := inv_if hrun
          clear hrun
          have hrun := hrun1
          clear hrun1
          have hsum := hC
          exact mr_oinit cx (mm_win (mm_wdm (of_decide_eq_true hlk)) rfl) hsum hsz hfr1 hlo60 (hd rfl) (K1 rfl _ hrun)
        · rw [if_neg h1003] at hlk hrun
          have hcm := mm_callS (ins := .invokespecial idx) (if_neg h1003) hrun0
          simp only [Bool.and_eq_true, decide_eq_true_eq] at hlk
          obtain ⟨⟨⟨⟨⟨⟨hcw, hk1⟩, hk2⟩, hnm⟩, hre⟩, hit⟩, hnar⟩ := hlk
          obtain ⟨hcal, hlink, hini⟩ := mm_cwS hcw
          obtain ⟨c1, c2, c3, d', rfl, c4, c5, w, h', hw, hgo⟩ := hcm
          rw [hk2] at c2
          have hm1 := mm_mono _ _ _ _ _ _ _ _ _ hw
          have hm2 := mm_mono _ _ _ _ _ _ _ _ _ hgo
          have hf : h.1 - z0 + (h'.1 - h.1) ≤ R.cells ∧ h.2.1 - z1 + (h'.2.1 - h.2.1) ≤ R.slots := ⟨by omega, by omega⟩
          have kk : ∀ (H1 : Heap) (locs1 : List Loc), mm_rel E D dA h' H1 → va_S (mm_A E) s.heap H1 locs1 → W p l e R s mth args below meth c H1 locs1 (h.1 - z0 + (h'.1 - h.1)) (h.2.1 - z1 + (h'.2.1 - h.2.1)) Q (F0 mth (pc + 3) ls (w.toList ++ S.drop (mm_k1 ex))) := by
            intro H1 locs1 g1 g2
            have hW := K rfl _ _ h' H1 ls locs1 hgo (by omega) (by omega) g1 g2 hloc hLn
            rw [show h'.1 - z0 = h.1 - z0 + (h'.1 - h.1) by omega, show h'.2.1 - z1 = h.2.1 - z1 + (h'.2.1 - h.2.1) by omega] at hW
            exact hW
          have hc6 := mm_issI _ hcal hnm
          rw [hc6, Bool.false_or] at c5
          obtain ⟨b, bs, hbs⟩ := mm_hrS c5
          obtain ⟨as, e1, e2, e3⟩ := mm_spl hk1 c1 (mm_hrT hk1 c1 hbs)
          rw [e1] at hw c4
          rw [e3]
          rcases hlink with hlink | hlink
          · exact mr_callI cx hr hS (mm_met ih hcal c4 hw) hcal (mm_win hlink rfl) (mm_win (mm_wdm hit) rfl) hre hnm (mm_win hini rfl) hnar e2 ⟨hfr, hlo⟩ hsz c2 hf (hd rfl) kk
          · exact mr_callIN cx hr hS (mm_met ih hcal c4 hw) hcal (cx.2.2.2.2.2.2.2.2.2.2.2.2.2.1 _ hlink) (mm_win (mm_wdm hit) rfl) hre hnm (mm_win hini rfl) hnar e2 ⟨hfr, hlo⟩ hsz c2 hf (hd rfl) kk
      | _ =>
        cases hrun
