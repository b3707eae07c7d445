/-! The law: cases 8 to 15 -/
theorem law_feed {E : aG} {Γ : aC} {nm : String} {ci : aI} {cl : aL} {cr : Nat → Nat → Option Nat} {dy : aM} {nx n ce sl k : Nat} (C : LC E Γ nm) (h : INV ci cl cr dy nx n) (hk : 6 * k + 6 ≤ gL E) (hce : ce + 3 ≤ 601024) (hsl : sl + 62 ≤ 7293034) (K : KK E Γ (ce + 3) (sl + 62) k) : SV E Γ 8 (mm ci cl cr dy) nx ce sl 584 (LVk k) [] := by
  obtain ⟨hΓ, hSX, hL, hNW, hNX, hX, hXN, htr⟩ := C
  refine sv_aload_n hΓ dL_law_584 rfl 3 rfl rfl ?_
  refine sv_arg hΓ hSX 1 hk hL (by decide) dL_law_585 dL_law_586 dL_law_588 (by decide) dL_law_589 dL_law_590 4 0 rfl rfl rfl ?_
  refine sv_arg hΓ hSX 2 hk hL (by decide) dL_law_591 dL_law_592 dL_law_594 (by decide) dL_law_595 dL_law_596 4 0 rfl rfl rfl ?_
  refine sv_i2l hΓ dL_law_597 rfl rfl ?_
  refine sv_bipush (v := 32) hΓ dL_law_598 (by decide) rfl ?_
  refine sv_lshl hΓ dL_law_600 rfl rfl ?_
  refine sv_arg hΓ hSX 3 hk hL (by decide) dL_law_601 dL_law_602 dL_law_604 (by decide) dL_law_605 dL_law_606 4 0 rfl rfl rfl ?_
  refine sv_i2l hΓ dL_law_607 rfl rfl ?_
  refine sv_ldc2 (v := 4294967295) hΓ dL_law_608 tb_1357 rfl ?_
  refine sv_land hΓ dL_law_611 rfl ?_
  refine sv_lor hΓ dL_law_612 rfl ?_
  show SV E Γ 8 _ _ _ _ 613 (LVk k) [.long (lgV (gX E (6 * k + 2)) (gX E (6 * k + 3))), .int (gX E (6 * k + 1)), .ref 1]
  refine sv_callV hΓ (fun l => ct_X11_feed l (gX E (6 * k + 1)) (lgV (gX E (6 * k + 2)) (gX E (6 * k + 3))) h.2.1.2.1 h.hfd) wv_L_72 vs_X11_feed rfl m_1 rfl rfl (by decide) (by omega) (by omega) (Nat.le_of_ble_eq_true rfl) dL_law_613 rfl (fun r M' nx' p1 => ?_)
  obtain ⟨v, c1, l1, rfl, rfl, rfl, hfd, hF⟩ := A_feed h p1
  show SV E Γ 8 _ _ _ _ 616 (LVk k) [.int v]
  refine sv_aload_n hΓ dL_law_616 rfl 2 rfl rfl ?_
  refine sv_arg hΓ hSX 1 hk hL (by decide) dL_law_617 dL_law_618 dL_law_620 (by decide) dL_law_621 dL_law_622 4 0 rfl rfl rfl ?_
  refine sv_arg hΓ hSX 2 hk hL (by decide) dL_law_623 dL_law_624 dL_law_626 (by decide) dL_law_627 dL_law_628 4 0 rfl rfl rfl ?_
  refine sv_i2l hΓ dL_law_629 rfl rfl ?_
  refine sv_bipush (v := 32) hΓ dL_law_630 (by decide) rfl ?_
  refine sv_lshl hΓ dL_law_632 rfl rfl ?_
  refine sv_arg hΓ hSX 3 hk hL (by decide) dL_law_633 dL_law_634 dL_law_636 (by decide) dL_law_637 dL_law_638 4 0 rfl rfl rfl ?_
  refine sv_i2l hΓ dL_law_639 rfl rfl ?_
  refine sv_ldc2 (v := 4294967295) hΓ dL_law_640 tb_1357 rfl ?_
  refine sv_land hΓ dL_law_643 rfl ?_
  refine sv_lor hΓ dL_law_644 rfl ?_
  show SV E Γ 8 _ _ _ _ 645 (LVk k) [.long (lgV (gX E (6 * k + 2)) (gX E (6 * k + 3))), .int (gX E (6 * k + 1)), .ref 43, .int v]
  refine sv_callV hΓ (fun l => ct_X12_feed l (gX E (6 * k + 1)) (lgV (gX E (6 * k + 2)) (gX E (6 * k + 3))) hfd) wv_L_76 vs_X12_feed rfl m_43 rfl rfl (by decide) (by omega) (by omega) (Nat.le_of_ble_eq_true rfl) dL_law_645 rfl (fun r M' nx' p2 => ?_)
  obtain ⟨rfl, ci2, cl2, cr2, dy2, n2, rfl, h2⟩ := hF _ _ _ p2
  show SV E Γ 8 _ _ _ _ 648 (LVk k) [.int v, .int v]
  refine sv_icmp_eq (tgt := 1595) hΓ dL_law_648 (by decide) rfl (fun _ => ?_) (fun z => absurd rfl z)
  exact SV_w (by omega) (by omega) (K _ _ _ _ _ _ h2)
theorem law_place {E : aG} {Γ : aC} {nm : String} {ci : aI} {cl : aL} {cr : Nat → Nat → Option Nat} {dy : aM} {nx n ce sl k : Nat} (C : LC E Γ nm) (h : INV ci cl cr dy nx n) (hk : 6 * k + 6 ≤ gL E) (hce : ce + 3 ≤ 601024) (hsl : sl + 62 ≤ 7293034) (K : KK E Γ (ce + 3) (sl + 62) k) : SV E Γ 8 (mm ci cl cr dy) nx ce sl 653 (LVk k) [] := by
  obtain ⟨hΓ, hSX, hL, hNW, hNX, hX, hXN, htr⟩ := C
  refine sv_aload_n hΓ dL_law_653 rfl 3 rfl rfl ?_
  refine sv_arg hΓ hSX 1 hk hL (by decide) dL_law_654 dL_law_655 dL_law_657 (by decide) dL_law_658 dL_law_659 4 0 rfl rfl rfl ?_
  refine sv_arg hΓ hSX 2 hk hL (by decide) dL_law_660 dL_law_661 dL_law_663 (by decide) dL_law_664 dL_law_665 4 0 rfl rfl rfl ?_
  refine sv_i2l hΓ dL_law_666 rfl rfl ?_
  refine sv_bipush (v := 32) hΓ dL_law_667 (by decide) rfl ?_
  refine sv_lshl hΓ dL_law_669 rfl rfl ?_
  refine sv_arg hΓ hSX 3 hk hL (by decide) dL_law_670 dL_law_671 dL_law_673 (by decide) dL_law_674 dL_law_675 4 0 rfl rfl rfl ?_
  refine sv_i2l hΓ dL_law_676 rfl rfl ?_
  refine sv_ldc2 (v := 4294967295) hΓ dL_law_677 tb_1357 rfl ?_
  refine sv_land hΓ dL_law_680 rfl ?_
  refine sv_lor hΓ dL_law_681 rfl ?_
  show SV E Γ 8 _ _ _ _ 682 (LVk k) [.long (lgV (gX E (6 * k + 2)) (gX E (6 * k + 3))), .int (gX E (6 * k + 1)), .ref 1]
  refine sv_callV hΓ (fun l => ct_X11_place l (gX E (6 * k + 1)) (lgV (gX E (6 * k + 2)) (gX E (6 * k + 3)))) wv_L_77 vs_X11_place rfl m_1 rfl rfl (by decide) (by omega) (by omega) (Nat.le_of_ble_eq_true rfl) dL_law_682 rfl (fun r M' nx' p1 => ?_)
  obtain ⟨v, l1, rfl, rfl, rfl, hF⟩ := A_place h p1
  show SV E Γ 8 _ _ _ _ 685 (LVk k) [.int v]
  refine sv_aload_n hΓ dL_law_685 rfl 2 rfl rfl ?_
  refine sv_arg hΓ hSX 1 hk hL (by decide) dL_law_686 dL_law_687 dL_law_689 (by decide) dL_law_690 dL_law_691 4 0 rfl rfl rfl ?_
  refine sv_arg hΓ hSX 2 hk hL (by decide) dL_law_692 dL_law_693 dL_law_695 (by decide) dL_law_696 dL_law_697 4 0 rfl rfl rfl ?_
  refine sv_i2l hΓ dL_law_698 rfl rfl ?_
  refine sv_bipush (v := 32) hΓ dL_law_699 (by decide) rfl ?_
  refine sv_lshl hΓ dL_law_701 rfl rfl ?_
  refine sv_arg hΓ hSX 3 hk hL (by decide) dL_law_702 dL_law_703 dL_law_705 (by decide) dL_law_706 dL_law_707 4 0 rfl rfl rfl ?_
  refine sv_i2l hΓ dL_law_708 rfl rfl ?_
  refine sv_ldc2 (v := 4294967295) hΓ dL_law_709 tb_1357 rfl ?_
  refine sv_land hΓ dL_law_712 rfl ?_
  refine sv_lor hΓ dL_law_713 rfl ?_
  show SV E Γ 8 _ _ _ _ 714 (LVk k) [.long (lgV (gX E (6 * k + 2)) (gX E (6 * k + 3))), .int (gX E (6 * k + 1)), .ref 43, .int v]
  refine sv_callV hΓ (fun l => ct_X12_place l (gX E (6 * k + 1)) (lgV (gX E (6 * k + 2)) (gX E (6 * k + 3)))) wv_L_80 vs_X12_place rfl m_43 rfl rfl (by decide) (by omega) (by omega) (Nat.le_of_ble_eq_true rfl) dL_law_714 rfl (fun r M' nx' p2 => ?_)
  obtain ⟨rfl, ci2, cl2, cr2, dy2, n2, rfl, h2⟩ := hF _ _ _ p2
  show SV E Γ 8 _ _ _ _ 717 (LVk k) [.int v, .int v]
  refine sv_icmp_eq (tgt := 1595) hΓ dL_law_717 (by decide) rfl (fun _ => ?_) (fun z => absurd rfl z)
  exact SV_w (by omega) (by omega) (K _ _ _ _ _ _ h2)
theorem law_act {E : aG} {Γ : aC} {nm : String} {ci : aI} {cl : aL} {cr : Nat → Nat → Option Nat} {dy : aM} {nx n ce sl k : Nat} (C : LC E Γ nm) (h : INV ci cl cr dy nx n) (hk : 6 * k + 6 ≤ gL E) (hce : ce + 3 ≤ 601024) (hsl : sl + 62 ≤ 7293034) (K : KK E Γ (ce + 3) (sl + 62) k) : SV E Γ 8 (mm ci cl cr dy) nx ce sl 722 (LVk k) [] := by
  obtain ⟨hΓ, hSX, hL, hNW, hNX, hX, hXN, htr⟩ := C
  refine sv_aload_n hΓ dL_law_722 rfl 3 rfl rfl ?_
  refine sv_arg hΓ hSX 1 hk hL (by decide) dL_law_723 dL_law_724 dL_law_726 (by decide) dL_law_727 dL_law_728 4 0 rfl rfl rfl ?_
  refine sv_arg hΓ hSX 2 hk hL (by decide) dL_law_729 dL_law_730 dL_law_732 (by decide) dL_law_733 dL_law_734 4 0 rfl rfl rfl ?_
  show SV E Γ 8 _ _ _ _ 735 (LVk k) [.int (gX E (6 * k + 2)), .int (gX E (6 * k + 1)), .ref 1]
  refine sv_callV hΓ (fun l => ct_X11_act l (up2 ci 43 0 0) (cl 48) (gX E (6 * k + 1)) (gX E (6 * k + 2)) n h.B0) wv_L_81 vs_X11_act rfl m_1 rfl rfl (by decide) (by omega) (by omega) (Nat.le_of_ble_eq_true rfl) dL_law_735 rfl (fun r M' nx' p1 => ?_)
  obtain ⟨v, rfl, rfl, rfl, hF⟩ := A_act h p1
  show SV E Γ 8 _ _ _ _ 738 (LVk k) [.int v]
  refine sv_aload_n hΓ dL_law_738 rfl 2 rfl rfl ?_
  refine sv_arg hΓ hSX 1 hk hL (by decide) dL_law_739 dL_law_740 dL_law_742 (by decide) dL_law_743 dL_law_744 4 0 rfl rfl rfl ?_
  refine sv_arg hΓ hSX 2 hk hL (by decide) dL_law_745 dL_law_746 dL_law_748 (by decide) dL_law_749 dL_law_750 4 0 rfl rfl rfl ?_
  show SV E Γ 8 _ _ _ _ 751 (LVk k) [.int (gX E (6 * k + 2)), .int (gX E (6 * k + 1)), .ref 43, .int v]
  refine sv_callV hΓ (fun l => ct_X12_act2 l (gX E (6 * k + 1)) (gX E (6 * k + 2)) n h.1.2.1 h.n6 h.wf) wv_L_84 vs_X12_act rfl m_43 rfl rfl (by decide) (by omega) (by omega) (Nat.le_of_ble_eq_true rfl) dL_law_751 rfl (fun r M' nx' p2 => ?_)
  obtain ⟨rfl, ci2, cl2, cr2, dy2, n2, rfl, h2⟩ := hF _ _ _ p2
  show SV E Γ 8 _ _ _ _ 754 (LVk k) [.int v, .int v]
  refine sv_icmp_eq (tgt := 1595) hΓ dL_law_754 (by decide) rfl (fun _ => ?_) (fun z => absurd rfl z)
  exact SV_w (by omega) (by omega) (K _ _ _ _ _ _ h2)
theorem law_span {E : aG} {Γ : aC} {nm : String} {ci : aI} {cl : aL} {cr : Nat → Nat → Option Nat} {dy : aM} {nx n ce sl k : Nat} (C : LC E Γ nm) (h : INV ci cl cr dy nx n) (hk : 6 * k + 6 ≤ gL E) (hce : ce + 3 ≤ 601024) (hsl : sl + 62 ≤ 7293034) (K : KK E Γ (ce + 3) (sl + 62) k) : SV E Γ 8 (mm ci cl cr dy) nx ce sl 759 (LVk k) [] := by
  obtain ⟨hΓ, hSX, hL, hNW, hNX, hX, hXN, htr⟩ := C
  refine sv_aload_n hΓ dL_law_759 rfl 3 rfl rfl ?_
  refine sv_arg hΓ hSX 1 hk hL (by decide) dL_law_760 dL_law_761 dL_law_763 (by decide) dL_law_764 dL_law_765 4 0 rfl rfl rfl ?_
  refine sv_arg hΓ hSX 2 hk hL (by decide) dL_law_766 dL_law_767 dL_law_769 (by decide) dL_law_770 dL_law_771 4 0 rfl rfl rfl ?_
  refine sv_nz hΓ dL_law_772 dL_law_775 dL_law_776 dL_law_779 rfl ?_
  refine sv_aload_n hΓ dL_law_780 rfl 1 rfl rfl ?_
  show SV E Γ 8 _ _ _ _ 781 (LVk k) [.ref 73, .int (nzI (gX E (6 * k + 2))), .int (gX E (6 * k + 1)), .ref 1]
  refine sv_callSW hΓ (cw_L_span _ (up2 ci 43 0 0) (cl 48) (gX E (6 * k + 1)) (nzI (gX E (6 * k + 2))) n h.B0 hX htr) ww_span rfl rfl (by decide) (by omega) (by omega) (Nat.le_of_ble_eq_true rfl) dL_law_781 rfl (fun r M' nx' p1 => ?_)
  obtain ⟨v, l1, rfl, rfl, h1, hF⟩ := A_span h p1
  show SV E Γ 8 _ _ _ _ 784 (LVk k) [.int v]
  refine sv_istore (lv' := (5, .int v) :: LVk k) hΓ dL_law_784 (by decide) rfl rfl ?_
  refine sv_aload_n hΓ dL_law_786 rfl 3 rfl rfl ?_
  refine sv_arg hΓ hSX 1 hk hL (by decide) dL_law_787 dL_law_788 dL_law_790 (by decide) dL_law_791 dL_law_792 5 1 rfl rfl rfl ?_
  refine sv_arg hΓ hSX 2 hk hL (by decide) dL_law_793 dL_law_794 dL_law_796 (by decide) dL_law_797 dL_law_798 5 1 rfl rfl rfl ?_
  refine sv_nz hΓ dL_law_799 dL_law_802 dL_law_803 dL_law_806 rfl ?_
  show SV E Γ 8 _ _ _ _ 807 ((5, .int v) :: LVk k) [.int (nzI (gX E (6 * k + 2))), .int (gX E (6 * k + 1)), .ref 43]
  refine sv_callV hΓ (fun l => ct_X12_span l (gX E (6 * k + 1)) (nzI (gX E (6 * k + 2))) n h1.1.2.1 h1.n6 h1.wf) wv_L_90 vs_X12_span rfl m_43 rfl rfl (by decide) (by omega) (by omega) (Nat.le_of_ble_eq_true rfl) dL_law_807 rfl (fun r M' nx' p2 => ?_)
  obtain ⟨y, ci2, cl2, cr2, dy2, n2, rfl, rfl, h2, e0, e1⟩ := hF _ _ _ p2
  show SV E Γ 8 _ _ _ _ 810 ((5, .int v) :: LVk k) [.long y]
  refine sv_lstore (lv' := (6, .long y) :: (5, .int v) :: LVk k) hΓ dL_law_810 (by decide) rfl rfl ?_
  refine sv_aload_n hΓ dL_law_812 rfl 4 rfl rfl ?_
  refine sv_callV hΓ (fun l => ct_X12_thrown l) wv_L_91 vs_X12_thrown rfl m_43 rfl rfl (by decide) (by omega) (by omega) (Nat.le_of_ble_eq_true rfl) dL_law_813 rfl (fun r M' nx' p3 => ?_)
  obtain ⟨rfl, rfl, rfl⟩ := p3
  show SV E Γ 8 _ _ _ _ 816 ((6, .long y) :: (5, .int v) :: LVk k) [.int (ci2 43 0)]
  refine sv_iload hΓ dL_law_816 1 rfl rfl ?_
  refine sv_icmp_eq (tgt := 823) hΓ dL_law_818 (by decide) rfl (fun _ => ?_) (fun z => absurd e0 z)
  refine sv_iload hΓ dL_law_823 1 rfl rfl ?_
  have K2 : SV E Γ 8 (mm ci2 cl2 cr2 dy2) _ (ce + 1 + 0 + 0) (sl + 6 + 0 + 0) 839 ((6, .long y) :: (5, .int v) :: LVk k) [] := sv_goto (pc' := 1595) hΓ dL_law_839 (by decide) (SV_lv [2, 3, 4, 5, 6] rfl (SV_w (by omega) (by omega) (K _ _ _ _ _ _ h2)))
  refine sv_if_ne (tgt := 839) hΓ dL_law_825 (by decide) rfl (fun _ => K2) (fun z => ?_)
  refine sv_aload_n hΓ dL_law_828 rfl 3 rfl rfl ?_
  refine sv_iconst (v := 0) hΓ dL_law_829 (by decide) rfl ?_
  refine al_73 hΓ 0 rfl (by decide) dL_law_830 rfl ?_
  refine sv_lload hΓ dL_law_831 0 rfl rfl ?_
  refine sv_lcmp hΓ dL_law_833 rfl ?_
  exact sv_if_eq (tgt := 839) hΓ dL_law_834 (by decide) rfl (fun _ => K2) (fun q => absurd (lgc_eq.mpr (e1 z)) q)
theorem law_needs {E : aG} {Γ : aC} {nm : String} {ci : aI} {cl : aL} {cr : Nat → Nat → Option Nat} {dy : aM} {nx n ce sl k : Nat} (C : LC E Γ nm) (h : INV ci cl cr dy nx n) (hk : 6 * k + 6 ≤ gL E) (hce : ce + 3 ≤ 601024) (hsl : sl + 62 ≤ 7293034) (K : KK E Γ (ce + 3) (sl + 62) k) : SV E Γ 8 (mm ci cl cr dy) nx ce sl 842 (LVk k) [] := by
  obtain ⟨hΓ, hSX, hL, hNW, hNX, hX, hXN, htr⟩ := C
  refine sv_aload_n hΓ dL_law_842 rfl 3 rfl rfl ?_
  refine sv_arg hΓ hSX 1 hk hL (by decide) dL_law_843 dL_law_844 dL_law_846 (by decide) dL_law_847 dL_law_848 4 0 rfl rfl rfl ?_
  refine sv_arg hΓ hSX 2 hk hL (by decide) dL_law_849 dL_law_850 dL_law_852 (by decide) dL_law_853 dL_law_854 4 0 rfl rfl rfl ?_
  show SV E Γ 8 _ _ _ _ 855 (LVk k) [.int (gX E (6 * k + 2)), .int (gX E (6 * k + 1)), .ref 1]
  refine sv_callV hΓ (fun l => ct_X11_needs l (up2 ci 43 0 0) (cl 48) (gX E (6 * k + 1)) (gX E (6 * k + 2)) n h.B0) wv_L_94 vs_X11_needs rfl m_1 rfl rfl (by decide) (by omega) (by omega) (Nat.le_of_ble_eq_true rfl) dL_law_855 rfl (fun r M' nx' p1 => ?_)
  obtain ⟨v, rfl, rfl, rfl, hF⟩ := A_needs h p1
  show SV E Γ 8 _ _ _ _ 858 (LVk k) [.int v]
  refine sv_aload_n hΓ dL_law_858 rfl 2 rfl rfl ?_
  refine sv_arg hΓ hSX 1 hk hL (by decide) dL_law_859 dL_law_860 dL_law_862 (by decide) dL_law_863 dL_law_864 4 0 rfl rfl rfl ?_
  refine sv_arg hΓ hSX 2 hk hL (by decide) dL_law_865 dL_law_866 dL_law_868 (by decide) dL_law_869 dL_law_870 4 0 rfl rfl rfl ?_
  show SV E Γ 8 _ _ _ _ 871 (LVk k) [.int (gX E (6 * k + 2)), .int (gX E (6 * k + 1)), .ref 43, .int v]
  refine sv_callV hΓ (fun l => ct_X12_needs l (gX E (6 * k + 1)) (gX E (6 * k + 2)) n h.1.2.1 h.n6 h.wf) wv_L_97 vs_X12_needs rfl m_43 rfl rfl (by decide) (by omega) (by omega) (Nat.le_of_ble_eq_true rfl) dL_law_871 rfl (fun r M' nx' p2 => ?_)
  obtain ⟨rfl, ci2, cl2, cr2, dy2, n2, rfl, h2⟩ := hF _ _ _ p2
  show SV E Γ 8 _ _ _ _ 874 (LVk k) [.int v, .int v]
  refine sv_icmp_eq (tgt := 1595) hΓ dL_law_874 (by decide) rfl (fun _ => ?_) (fun z => absurd rfl z)
  exact SV_w (by omega) (by omega) (K _ _ _ _ _ _ h2)
theorem law_lay {E : aG} {Γ : aC} {nm : String} {ci : aI} {cl : aL} {cr : Nat → Nat → Option Nat} {dy : aM} {nx n ce sl k : Nat} (C : LC E Γ nm) (h : INV ci cl cr dy nx n) (hk : 6 * k + 6 ≤ gL E) (hce : ce + 3 ≤ 601024) (hsl : sl + 62 ≤ 7293034) (K : KK E Γ (ce + 3) (sl + 62) k) : SV E Γ 8 (mm ci cl cr dy) nx ce sl 879 (LVk k) [] := by
  obtain ⟨hΓ, hSX, hL, hNW, hNX, hX, hXN, htr⟩ := C
  obtain ⟨T, t1, t2, t3, t4, t5⟩ := h.L1
  refine sv_aload_n hΓ dL_law_879 rfl 3 rfl rfl ?_
  show SV E Γ 8 _ _ _ _ 880 (LVk k) [.ref 1]
  refine sv_callV hΓ (fun l => ct_X11_lay l (cL ci) (cl 48) n (T + 1) t4 cL_16 t5 (by omega) t3) wv_L_98 vs_X11_lay rfl m_1 rfl rfl (by decide) (by omega) (by omega) (Nat.le_of_ble_eq_true rfl) dL_law_880 rfl (fun r M' nx' p1 => ?_)
  obtain ⟨v, c1, rfl, rfl, rfl, hs, hn1, hF⟩ := A_lay h t1 t2 p1
  obtain ⟨w1, w2, w3, w4⟩ := h.L2 hs
  show SV E Γ 8 _ _ _ _ 883 (LVk k) [.int v]
  refine sv_aload_n hΓ dL_law_883 rfl 2 rfl rfl ?_
  show SV E Γ 8 _ _ _ _ 884 (LVk k) [.ref 43, .int v]
  refine sv_callV hΓ (fun l => ct_X12_lay l n hn1 h.n6 w1 w2 w3 w4) wv_L_101 vs_X12_lay rfl m_43 rfl rfl (by decide) (by omega) (by omega) (Nat.le_of_ble_eq_true rfl) dL_law_884 rfl (fun r M' nx' p2 => ?_)
  obtain ⟨rfl, ci2, cl2, cr2, dy2, n2, rfl, h2⟩ := hF _ _ _ p2
  show SV E Γ 8 _ _ _ _ 887 (LVk k) [.int v, .int v]
  refine sv_icmp_eq (tgt := 1595) hΓ dL_law_887 (by decide) rfl (fun _ => ?_) (fun z => absurd rfl z)
  exact SV_w (by omega) (by omega) (K _ _ _ _ _ _ h2)
theorem law_tick {E : aG} {Γ : aC} {nm : String} {ci : aI} {cl : aL} {cr : Nat → Nat → Option Nat} {dy : aM} {nx n ce sl k : Nat} (C : LC E Γ nm) (h : INV ci cl cr dy nx n) (hk : 6 * k + 6 ≤ gL E) (hce : ce + 3 ≤ 601024) (hsl : sl + 62 ≤ 7293034) (K : KK E Γ (ce + 3) (sl + 62) k) : SV E Γ 8 (mm ci cl cr dy) nx ce sl 892 (LVk k) [] := by
  obtain ⟨hΓ, hSX, hL, hNW, hNX, hX, hXN, htr⟩ := C
  refine sv_aload_n hΓ dL_law_892 rfl 3 rfl rfl ?_
  refine sv_arg hΓ hSX 1 hk hL (by decide) dL_law_893 dL_law_894 dL_law_896 (by decide) dL_law_897 dL_law_898 4 0 rfl rfl rfl ?_
  refine sv_arg hΓ hSX 2 hk hL (by decide) dL_law_899 dL_law_900 dL_law_902 (by decide) dL_law_903 dL_law_904 4 0 rfl rfl rfl ?_
  show SV E Γ 8 _ _ _ _ 905 (LVk k) [.int (gX E (6 * k + 2)), .int (gX E (6 * k + 1)), .ref 1]
  refine sv_callV hΓ (fun l => ct_X11_tick l (up2 ci 43 0 0) (cl 48) (gX E (6 * k + 1)) (gX E (6 * k + 2)) n h.B0 h.ht) wv_L_102 vs_X11_tick rfl m_1 rfl rfl (by decide) (by omega) (by omega) (Nat.le_of_ble_eq_true rfl) dL_law_905 rfl (fun r M' nx' p1 => ?_)
  obtain ⟨v, rfl, rfl, rfl, hF⟩ := A_tick h p1
  show SV E Γ 8 _ _ _ _ 908 (LVk k) [.int v]
  refine sv_aload_n hΓ dL_law_908 rfl 2 rfl rfl ?_
  refine sv_arg hΓ hSX 1 hk hL (by decide) dL_law_909 dL_law_910 dL_law_912 (by decide) dL_law_913 dL_law_914 4 0 rfl rfl rfl ?_
  refine sv_arg hΓ hSX 2 hk hL (by decide) dL_law_915 dL_law_916 dL_law_918 (by decide) dL_law_919 dL_law_920 4 0 rfl rfl rfl ?_
  show SV E Γ 8 _ _ _ _ 921 (LVk k) [.int (gX E (6 * k + 2)), .int (gX E (6 * k + 1)), .ref 43, .int v]
  refine sv_callV hΓ (fun l => ct_X12_tick l (gX E (6 * k + 1)) (gX E (6 * k + 2)) n h.1.2.1 h.n6 h.wf) wv_L_105 vs_X12_tick rfl m_43 rfl rfl (by decide) (by omega) (by omega) (Nat.le_of_ble_eq_true rfl) dL_law_921 rfl (fun r M' nx' p2 => ?_)
  obtain ⟨rfl, ci2, cl2, cr2, dy2, n2, rfl, h2⟩ := hF _ _ _ p2
  show SV E Γ 8 _ _ _ _ 924 (LVk k) [.int v, .int v]
  refine sv_icmp_eq (tgt := 1595) hΓ dL_law_924 (by decide) rfl (fun _ => ?_) (fun z => absurd rfl z)
  exact SV_w (by omega) (by omega) (K _ _ _ _ _ _ h2)
theorem law_bound {E : aG} {Γ : aC} {nm : String} {ci : aI} {cl : aL} {cr : Nat → Nat → Option Nat} {dy : aM} {nx n ce sl k : Nat} (C : LC E Γ nm) (h : INV ci cl cr dy nx n) (hk : 6 * k + 6 ≤ gL E) (hce : ce + 3 ≤ 601024) (hsl : sl + 62 ≤ 7293034) (K : KK E Γ (ce + 3) (sl + 62) k) : SV E Γ 8 (mm ci cl cr dy) nx ce sl 929 (LVk k) [] := by
  obtain ⟨hΓ, hSX, hL, hNW, hNX, hX, hXN, htr⟩ := C
  refine sv_aload_n hΓ dL_law_929 rfl 3 rfl rfl ?_
  refine sv_arg hΓ hSX 1 hk hL (by decide) dL_law_930 dL_law_931 dL_law_933 (by decide) dL_law_934 dL_law_935 4 0 rfl rfl rfl ?_
  show SV E Γ 8 _ _ _ _ 936 (LVk k) [.int (gX E (6 * k + 1)), .ref 1]
  refine sv_callV hΓ (fun l => ct_X11_bound l (up2 ci 43 0 0) (cl 48) (gX E (6 * k + 1)) n h.B0 h.hp1) wv_L_106 vs_X11_bound rfl m_1 rfl rfl (by decide) (by omega) (by omega) (Nat.le_of_ble_eq_true rfl) dL_law_936 rfl (fun r M' nx' p1 => ?_)
  obtain ⟨v, c1, rfl, rfl, rfl, h1, hF⟩ := A_bound h p1
  show SV E Γ 8 _ _ _ _ 939 (LVk k) [.int v]
  refine sv_aload_n hΓ dL_law_939 rfl 2 rfl rfl ?_
  refine sv_arg hΓ hSX 1 hk hL (by decide) dL_law_940 dL_law_941 dL_law_943 (by decide) dL_law_944 dL_law_945 4 0 rfl rfl rfl ?_
  show SV E Γ 8 _ _ _ _ 946 (LVk k) [.int (gX E (6 * k + 1)), .ref 43, .int v]
  refine sv_callV hΓ (fun l => ct_X12_bound2 l (gX E (6 * k + 1)) n h1.1.2.1 h1.n6 h1.wf h1.1.2.2.2.1) wv_L_110 vs_X12_bound rfl m_43 rfl rfl (by decide) (by omega) (by omega) (Nat.le_of_ble_eq_true rfl) dL_law_946 rfl (fun r M' nx' p2 => ?_)
  obtain ⟨rfl, ci2, cl2, cr2, dy2, n2, rfl, h2⟩ := hF _ _ _ p2
  show SV E Γ 8 _ _ _ _ 949 (LVk k) [.int v, .int v]
  refine sv_icmp_eq (tgt := 1595) hΓ dL_law_949 (by decide) rfl (fun _ => ?_) (fun z => absurd rfl z)
  exact SV_w (by omega) (by omega) (K _ _ _ _ _ _ h2)
