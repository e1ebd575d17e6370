set_option maxRecDepth 100000 in
set_option maxHeartbeats 400000 in
theorem lc_36 {X : ow_X} {cs sl : Nat} {Z : Nat → Nat} {b L i x m o B z : Nat} {xs : Nat → Int32} {S : Nat → Option ow_Sh} {I : ow_I} {V : Nat → Nat → Value} (W : lwE X Z b L xs) (hI : lwI Z x m o B S I V) (hB : B + 4000 < 2 ^ 29) (hi : i + 6 ≤ L) (hc : cs + 44 ≤ 601024) (hs : sl + 5596 ≤ 7293034) (tl : ∀ (S1 : Nat → Option ow_Sh) (I1 : ow_I) (V1 : Nat → Nat → Value) (z1 : Nat), lwI Z x m o (B + 4000) S1 I1 V1 → ow_W X (cs + 44) (sl + 5596) (S1, I1, V1, z1) 3148 (lwv b x m o i) []) : ow_W X cs sl (S, I, V, z) 1744 (lwv b x m o i) [] := by
  obtain ⟨E, G, GS, hL⟩ := id W
  have hX := hI.2.2.1.1.1
  refine or_aload_n (j := 1) E rfl dL_law_1744 ?_
  refine or_arg (j := 1) W rfl rfl dL_law_1745 dL_law_1746 dL_law_1748 dL_law_1749 dL_law_1750 (by omega) ?_
  refine or_aload_n (j := 3) E rfl dL_law_1751 ?_
  refine oy_S (st := []) [.ref x, .int (xs (i + 1)), .ref o] (wL_middleLength (cA_middleLength hI.1.1 hX) hI.1.1.1 (fun r h0 hk => wr_I hI.1.2.2.1 hk) (fun c' h1 h0 hk => by rw [wk_c hk] at h0 ⊢; exact tc_middleLength.resolve_left (by omega))) E G lh_L_288 dL_law_1752 rfl (by decide) (by decide) ⟨by omega, by omega⟩ (Nat.le_of_ble_eq_true rfl) (fun r h1 hk => ?_)
  obtain ⟨rfl, V1, z1, rfl, -, hv0, hvo⟩ := wK_I hk
  refine or_istore E dL_law_1755 (by decide) ?_
  have hg := @fA_r x I
  have hJ := lw_J hI hg
  have hr := q_middleLength (b := (xs (i + 1))) hJ
  refine or_aload_n (j := 2) E rfl dL_law_1757 ?_
  refine or_arg (j := 1) W rfl rfl dL_law_1758 dL_law_1759 dL_law_1761 dL_law_1762 dL_law_1763 (by omega) ?_
  refine or_cV1r (cM_middleLength hI.1.2.1 hJ.2.1.2.1) E lk_L_290 dL_law_1764 hI.1.2.1.1 rfl rfl (by decide) (by decide) ⟨by omega, by omega⟩ (Nat.le_of_ble_eq_true rfl) ?_
  refine or_istore E dL_law_1767 (by decide) ?_
  have hst := lw_step hI hg (RR_up hr.1 (show B ≤ B + 4000 by omega)) (fM_middleLength (a := (xs (i + 1)))) (lw_V0 hI (fun b hb => hvo b (by omega))) (lw_V2 hI (fun b hb => hvo b (by omega)))
  refine or_fin W hI.1.2.1 hr.2.1 (kx_lt (by decide)) hI.1.2.2.1 (fun hz => by rw [hv0 (kx_z hz), hr.2.2 (kx_z hz)]) rfl rfl rfl rfl (by omega) (by omega) dL_law_1769 dL_law_1770 dL_law_1773 dL_law_1775 dL_law_1780 dL_law_1782 dL_law_1785 dL_law_1786 dL_law_1787 dL_law_1788 dL_law_1790 dL_law_1791 dL_law_1792 ?_
  refine or_goto 3148 E dL_law_1797 rfl ?_
  refine or_lv (lwv b x m o i) rfl ?_
  exact or_wd (by omega) (by omega) (tl _ _ _ _ hst)
set_option maxRecDepth 100000 in
set_option maxHeartbeats 400000 in
theorem lc_37 {X : ow_X} {cs sl : Nat} {Z : Nat → Nat} {b L i x m o B z : Nat} {xs : Nat → Int32} {S : Nat → Option ow_Sh} {I : ow_I} {V : Nat → Nat → Value} (W : lwE X Z b L xs) (hI : lwI Z x m o B S I V) (hB : B + 4000 < 2 ^ 29) (hi : i + 6 ≤ L) (hc : cs + 44 ≤ 601024) (hs : sl + 5596 ≤ 7293034) (tl : ∀ (S1 : Nat → Option ow_Sh) (I1 : ow_I) (V1 : Nat → Nat → Value) (z1 : Nat), lwI Z x m o (B + 4000) S1 I1 V1 → ow_W X (cs + 44) (sl + 5596) (S1, I1, V1, z1) 3148 (lwv b x m o i) []) : ow_W X cs sl (S, I, V, z) 1800 (lwv b x m o i) [] := by
  obtain ⟨E, G, GS, hL⟩ := id W
  have hX := hI.2.2.1.1.1
  refine or_aload_n (j := 1) E rfl dL_law_1800 ?_
  refine or_arg (j := 1) W rfl rfl dL_law_1801 dL_law_1802 dL_law_1804 dL_law_1805 dL_law_1806 (by omega) ?_
  refine or_aload_n (j := 3) E rfl dL_law_1807 ?_
  refine oy_S (st := []) [.ref x, .int (xs (i + 1)), .ref o] (wL_reserve (cA_reserve hI.1.1 hX.1) hI.1.1.1 (fun r h0 hk => wr_I hI.1.2.2.1 hk) (fun c' h1 h0 hk => by rw [wk_c hk] at h0 ⊢; exact tc_reserve.resolve_left (by omega))) E G lh_L_291 dL_law_1808 rfl (by decide) (by decide) ⟨by omega, by omega⟩ (Nat.le_of_ble_eq_true rfl) (fun r h1 hk => ?_)
  obtain ⟨rfl, V1, z1, rfl, -, hv0, hvo⟩ := wK_I hk
  refine or_istore E dL_law_1811 (by decide) ?_
  have hg := @fA_r x I
  have hJ := lw_J hI hg
  have hr := q_reserve (b := (xs (i + 1))) hJ
  refine or_aload_n (j := 2) E rfl dL_law_1813 ?_
  refine or_arg (j := 1) W rfl rfl dL_law_1814 dL_law_1815 dL_law_1817 dL_law_1818 dL_law_1819 (by omega) ?_
  refine or_cV1r (cM_reserve hI.1.2.1 hJ.2.1.2.1) E lk_L_293 dL_law_1820 hI.1.2.1.1 rfl rfl (by decide) (by decide) ⟨by omega, by omega⟩ (Nat.le_of_ble_eq_true rfl) ?_
  refine or_istore E dL_law_1823 (by decide) ?_
  have hst := lw_step hI hg (RR_up hr.1 (show B ≤ B + 4000 by omega)) (fM_reserve (a := (xs (i + 1)))) (lw_V0 hI (fun b hb => hvo b (by omega))) (lw_V2 hI (fun b hb => hvo b (by omega)))
  refine or_fin W hI.1.2.1 hr.2.1 (kx_lt (by decide)) hI.1.2.2.1 (fun hz => by rw [hv0 (kx_z hz), hr.2.2 (kx_z hz)]) rfl rfl rfl rfl (by omega) (by omega) dL_law_1825 dL_law_1826 dL_law_1829 dL_law_1831 dL_law_1836 dL_law_1838 dL_law_1841 dL_law_1842 dL_law_1843 dL_law_1844 dL_law_1846 dL_law_1847 dL_law_1848 ?_
  refine or_goto 3148 E dL_law_1853 rfl ?_
  refine or_lv (lwv b x m o i) rfl ?_
  exact or_wd (by omega) (by omega) (tl _ _ _ _ hst)
set_option maxRecDepth 100000 in
set_option maxHeartbeats 400000 in
theorem lc_38 {X : ow_X} {cs sl : Nat} {Z : Nat → Nat} {b L i x m o B z : Nat} {xs : Nat → Int32} {S : Nat → Option ow_Sh} {I : ow_I} {V : Nat → Nat → Value} (W : lwE X Z b L xs) (hI : lwI Z x m o B S I V) (hB : B + 4000 < 2 ^ 29) (hi : i + 6 ≤ L) (hc : cs + 44 ≤ 601024) (hs : sl + 5596 ≤ 7293034) (tl : ∀ (S1 : Nat → Option ow_Sh) (I1 : ow_I) (V1 : Nat → Nat → Value) (z1 : Nat), lwI Z x m o (B + 4000) S1 I1 V1 → ow_W X (cs + 44) (sl + 5596) (S1, I1, V1, z1) 3148 (lwv b x m o i) []) : ow_W X cs sl (S, I, V, z) 1856 (lwv b x m o i) [] := by
  obtain ⟨E, G, GS, hL⟩ := id W
  have hX := hI.2.2.1.1.1
  refine or_aload_n (j := 1) E rfl dL_law_1856 ?_
  refine or_arg (j := 1) W rfl rfl dL_law_1857 dL_law_1858 dL_law_1860 dL_law_1861 dL_law_1862 (by omega) ?_
  refine or_aload_n (j := 3) E rfl dL_law_1863 ?_
  refine oy_S (st := []) [.ref x, .int (xs (i + 1)), .ref o] (wL_stateOf (cA_stateOf hI.1.1 hX.1) hI.1.1.1 (fun r h0 hk => wr_I hI.1.2.2.1 hk) (fun c' h1 h0 hk => by rw [wk_c hk] at h0 ⊢; exact tc_stateOf.resolve_left (by omega))) E G lh_L_294 dL_law_1864 rfl (by decide) (by decide) ⟨by omega, by omega⟩ (Nat.le_of_ble_eq_true rfl) (fun r h1 hk => ?_)
  obtain ⟨rfl, V1, z1, rfl, -, hv0, hvo⟩ := wK_I hk
  refine or_istore E dL_law_1867 (by decide) ?_
  have hg := @fA_r x I
  have hJ := lw_J hI hg
  have hr := q_stateOf (b := (xs (i + 1))) hJ
  refine or_aload_n (j := 2) E rfl dL_law_1869 ?_
  refine or_arg (j := 1) W rfl rfl dL_law_1870 dL_law_1871 dL_law_1873 dL_law_1874 dL_law_1875 (by omega) ?_
  refine or_cV1r (cM_stateOf hI.1.2.1 hJ.2.1.2.1) E lk_L_296 dL_law_1876 hI.1.2.1.1 rfl rfl (by decide) (by decide) ⟨by omega, by omega⟩ (Nat.le_of_ble_eq_true rfl) ?_
  refine or_istore E dL_law_1879 (by decide) ?_
  have hst := lw_step hI hg (RR_up hr.1 (show B ≤ B + 4000 by omega)) (fM_stateOf (a := (xs (i + 1)))) (lw_V0 hI (fun b hb => hvo b (by omega))) (lw_V2 hI (fun b hb => hvo b (by omega)))
  refine or_fin W hI.1.2.1 hr.2.1 (kx_lt (by decide)) hI.1.2.2.1 (fun hz => by rw [hv0 (kx_z hz), hr.2.2 (kx_z hz)]) rfl rfl rfl rfl (by omega) (by omega) dL_law_1881 dL_law_1882 dL_law_1885 dL_law_1887 dL_law_1892 dL_law_1894 dL_law_1897 dL_law_1898 dL_law_1899 dL_law_1900 dL_law_1902 dL_law_1903 dL_law_1904 ?_
  refine or_goto 3148 E dL_law_1909 rfl ?_
  refine or_lv (lwv b x m o i) rfl ?_
  exact or_wd (by omega) (by omega) (tl _ _ _ _ hst)
set_option maxRecDepth 100000 in
set_option maxHeartbeats 400000 in
theorem lc_39 {X : ow_X} {cs sl : Nat} {Z : Nat → Nat} {b L i x m o B z : Nat} {xs : Nat → Int32} {S : Nat → Option ow_Sh} {I : ow_I} {V : Nat → Nat → Value} (W : lwE X Z b L xs) (hI : lwI Z x m o B S I V) (hB : B + 4000 < 2 ^ 29) (hi : i + 6 ≤ L) (hc : cs + 44 ≤ 601024) (hs : sl + 5596 ≤ 7293034) (tl : ∀ (S1 : Nat → Option ow_Sh) (I1 : ow_I) (V1 : Nat → Nat → Value) (z1 : Nat), lwI Z x m o (B + 4000) S1 I1 V1 → ow_W X (cs + 44) (sl + 5596) (S1, I1, V1, z1) 3148 (lwv b x m o i) []) : ow_W X cs sl (S, I, V, z) 1912 (lwv b x m o i) [] := by
  obtain ⟨E, G, GS, hL⟩ := id W
  have hX := hI.2.2.1.1.1
  refine or_aload_n (j := 1) E rfl dL_law_1912 ?_
  refine or_arg (j := 1) W rfl rfl dL_law_1913 dL_law_1914 dL_law_1916 dL_law_1917 dL_law_1918 (by omega) ?_
  refine or_aload_n (j := 3) E rfl dL_law_1919 ?_
  refine oy_S (st := []) [.ref x, .int (xs (i + 1)), .ref o] (wL_returns (cA_returns hI.1.1 hX.1) hI.1.1.1 (fun r h0 hk => wr_I hI.1.2.2.1 hk) (fun c' h1 h0 hk => by rw [wk_c hk] at h0 ⊢; exact tc_returns.resolve_left (by omega))) E G lh_L_297 dL_law_1920 rfl (by decide) (by decide) ⟨by omega, by omega⟩ (Nat.le_of_ble_eq_true rfl) (fun r h1 hk => ?_)
  obtain ⟨rfl, V1, z1, rfl, -, hv0, hvo⟩ := wK_I hk
  refine or_istore E dL_law_1923 (by decide) ?_
  have hg := @fA_r x I
  have hJ := lw_J hI hg
  have hr := q_returns (b := (xs (i + 1))) hJ
  refine or_aload_n (j := 2) E rfl dL_law_1925 ?_
  refine or_arg (j := 1) W rfl rfl dL_law_1926 dL_law_1927 dL_law_1929 dL_law_1930 dL_law_1931 (by omega) ?_
  refine or_cV1r (cM_returns hI.1.2.1 hJ.2.1.2.1) E lk_L_299 dL_law_1932 hI.1.2.1.1 rfl rfl (by decide) (by decide) ⟨by omega, by omega⟩ (Nat.le_of_ble_eq_true rfl) ?_
  refine or_istore E dL_law_1935 (by decide) ?_
  have hst := lw_step hI hg (RR_up hr.1 (show B ≤ B + 4000 by omega)) (fM_returns (a := (xs (i + 1)))) (lw_V0 hI (fun b hb => hvo b (by omega))) (lw_V2 hI (fun b hb => hvo b (by omega)))
  refine or_fin W hI.1.2.1 hr.2.1 (kx_lt (by decide)) hI.1.2.2.1 (fun hz => by rw [hv0 (kx_z hz), hr.2.2 (kx_z hz)]) rfl rfl rfl rfl (by omega) (by omega) dL_law_1937 dL_law_1938 dL_law_1941 dL_law_1943 dL_law_1948 dL_law_1950 dL_law_1953 dL_law_1954 dL_law_1955 dL_law_1956 dL_law_1958 dL_law_1959 dL_law_1960 ?_
  refine or_goto 3148 E dL_law_1965 rfl ?_
  refine or_lv (lwv b x m o i) rfl ?_
  exact or_wd (by omega) (by omega) (tl _ _ _ _ hst)
set_option maxRecDepth 100000 in
set_option maxHeartbeats 400000 in
theorem lc_40 {X : ow_X} {cs sl : Nat} {Z : Nat → Nat} {b L i x m o B z : Nat} {xs : Nat → Int32} {S : Nat → Option ow_Sh} {I : ow_I} {V : Nat → Nat → Value} (W : lwE X Z b L xs) (hI : lwI Z x m o B S I V) (hB : B + 4000 < 2 ^ 29) (hi : i + 6 ≤ L) (hc : cs + 44 ≤ 601024) (hs : sl + 5596 ≤ 7293034) (tl : ∀ (S1 : Nat → Option ow_Sh) (I1 : ow_I) (V1 : Nat → Nat → Value) (z1 : Nat), lwI Z x m o (B + 4000) S1 I1 V1 → ow_W X (cs + 44) (sl + 5596) (S1, I1, V1, z1) 3148 (lwv b x m o i) []) : ow_W X cs sl (S, I, V, z) 1968 (lwv b x m o i) [] := by
  obtain ⟨E, G, GS, hL⟩ := id W
  have hX := hI.2.2.1.1.1
  refine or_aload_n (j := 1) E rfl dL_law_1968 ?_
  refine or_arg (j := 1) W rfl rfl dL_law_1969 dL_law_1970 dL_law_1972 dL_law_1973 dL_law_1974 (by omega) ?_
  refine or_aload_n (j := 3) E rfl dL_law_1975 ?_
  refine oy_S (st := []) [.ref x, .int (xs (i + 1)), .ref o] (wL_buyerOf (cA_buyerOf hI.1.1 hX.1) hI.1.1.1 (fun r h0 hk => wr_I hI.1.2.2.1 hk) (fun c' h1 h0 hk => by rw [wk_c hk] at h0 ⊢; exact tc_buyerOf.resolve_left (by omega))) E G lh_L_300 dL_law_1976 rfl (by decide) (by decide) ⟨by omega, by omega⟩ (Nat.le_of_ble_eq_true rfl) (fun r h1 hk => ?_)
  obtain ⟨rfl, V1, z1, rfl, -, hv0, hvo⟩ := wK_I hk
  refine or_istore E dL_law_1979 (by decide) ?_
  have hg := @fA_r x I
  have hJ := lw_J hI hg
  have hr := q_buyerOf (b := (xs (i + 1))) hJ
  refine or_aload_n (j := 2) E rfl dL_law_1981 ?_
  refine or_arg (j := 1) W rfl rfl dL_law_1982 dL_law_1983 dL_law_1985 dL_law_1986 dL_law_1987 (by omega) ?_
  refine or_cV1r (cM_buyerOf hI.1.2.1 hJ.2.1.2.1) E lk_L_302 dL_law_1988 hI.1.2.1.1 rfl rfl (by decide) (by decide) ⟨by omega, by omega⟩ (Nat.le_of_ble_eq_true rfl) ?_
  refine or_istore E dL_law_1991 (by decide) ?_
  have hst := lw_step hI hg (RR_up hr.1 (show B ≤ B + 4000 by omega)) (fM_buyerOf (a := (xs (i + 1)))) (lw_V0 hI (fun b hb => hvo b (by omega))) (lw_V2 hI (fun b hb => hvo b (by omega)))
  refine or_fin W hI.1.2.1 hr.2.1 (kx_lt (by decide)) hI.1.2.2.1 (fun hz => by rw [hv0 (kx_z hz), hr.2.2 (kx_z hz)]) rfl rfl rfl rfl (by omega) (by omega) dL_law_1993 dL_law_1994 dL_law_1997 dL_law_1999 dL_law_2004 dL_law_2006 dL_law_2009 dL_law_2010 dL_law_2011 dL_law_2012 dL_law_2014 dL_law_2015 dL_law_2016 ?_
  refine or_goto 3148 E dL_law_2021 rfl ?_
  refine or_lv (lwv b x m o i) rfl ?_
  exact or_wd (by omega) (by omega) (tl _ _ _ _ hst)
set_option maxRecDepth 100000 in
set_option maxHeartbeats 400000 in
theorem lc_41 {X : ow_X} {cs sl : Nat} {Z : Nat → Nat} {b L i x m o B z : Nat} {xs : Nat → Int32} {S : Nat → Option ow_Sh} {I : ow_I} {V : Nat → Nat → Value} (W : lwE X Z b L xs) (hI : lwI Z x m o B S I V) (hB : B + 4000 < 2 ^ 29) (hi : i + 6 ≤ L) (hc : cs + 44 ≤ 601024) (hs : sl + 5596 ≤ 7293034) (tl : ∀ (S1 : Nat → Option ow_Sh) (I1 : ow_I) (V1 : Nat → Nat → Value) (z1 : Nat), lwI Z x m o (B + 4000) S1 I1 V1 → ow_W X (cs + 44) (sl + 5596) (S1, I1, V1, z1) 3148 (lwv b x m o i) []) : ow_W X cs sl (S, I, V, z) 2024 (lwv b x m o i) [] := by
  obtain ⟨E, G, GS, hL⟩ := id W
  have hX := hI.2.2.1.1.1
  refine or_aload_n (j := 1) E rfl dL_law_2024 ?_
  refine or_arg (j := 1) W rfl rfl dL_law_2025 dL_law_2026 dL_law_2028 dL_law_2029 dL_law_2030 (by omega) ?_
  refine or_aload_n (j := 3) E rfl dL_law_2031 ?_
  refine oy_S (st := []) [.ref x, .int (xs (i + 1)), .ref o] (wL_priceOf (cA_priceOf hI.1.1 hX.1) hI.1.1.1 (fun r h0 hk => wr_I hI.1.2.2.1 hk) (fun c' h1 h0 hk => by rw [wk_c hk] at h0 ⊢; exact tc_priceOf.resolve_left (by omega))) E G lh_L_303 dL_law_2032 rfl (by decide) (by decide) ⟨by omega, by omega⟩ (Nat.le_of_ble_eq_true rfl) (fun r h1 hk => ?_)
  obtain ⟨rfl, V1, z1, rfl, -, hv0, hvo⟩ := wK_I hk
  refine or_istore E dL_law_2035 (by decide) ?_
  have hg := @fA_r x I
  have hJ := lw_J hI hg
  have hr := q_priceOf (b := (xs (i + 1))) hJ
  refine or_aload_n (j := 2) E rfl dL_law_2037 ?_
  refine or_arg (j := 1) W rfl rfl dL_law_2038 dL_law_2039 dL_law_2041 dL_law_2042 dL_law_2043 (by omega) ?_
  refine or_cV1r (cM_priceOf hI.1.2.1 hJ.2.1.2.1) E lk_L_305 dL_law_2044 hI.1.2.1.1 rfl rfl (by decide) (by decide) ⟨by omega, by omega⟩ (Nat.le_of_ble_eq_true rfl) ?_
  refine or_istore E dL_law_2047 (by decide) ?_
  have hst := lw_step hI hg (RR_up hr.1 (show B ≤ B + 4000 by omega)) (fM_priceOf (a := (xs (i + 1)))) (lw_V0 hI (fun b hb => hvo b (by omega))) (lw_V2 hI (fun b hb => hvo b (by omega)))
  refine or_fin W hI.1.2.1 hr.2.1 (kx_lt (by decide)) hI.1.2.2.1 (fun hz => by rw [hv0 (kx_z hz), hr.2.2 (kx_z hz)]) rfl rfl rfl rfl (by omega) (by omega) dL_law_2049 dL_law_2050 dL_law_2053 dL_law_2055 dL_law_2060 dL_law_2062 dL_law_2065 dL_law_2066 dL_law_2067 dL_law_2068 dL_law_2070 dL_law_2071 dL_law_2072 ?_
  refine or_goto 3148 E dL_law_2077 rfl ?_
  refine or_lv (lwv b x m o i) rfl ?_
  exact or_wd (by omega) (by omega) (tl _ _ _ _ hst)
set_option maxRecDepth 100000 in
set_option maxHeartbeats 400000 in
theorem lc_44 {X : ow_X} {cs sl : Nat} {Z : Nat → Nat} {b L i x m o B z : Nat} {xs : Nat → Int32} {S : Nat → Option ow_Sh} {I : ow_I} {V : Nat → Nat → Value} (W : lwE X Z b L xs) (hI : lwI Z x m o B S I V) (hB : B + 4000 < 2 ^ 29) (hi : i + 6 ≤ L) (hc : cs + 44 ≤ 601024) (hs : sl + 5596 ≤ 7293034) (tl : ∀ (S1 : Nat → Option ow_Sh) (I1 : ow_I) (V1 : Nat → Nat → Value) (z1 : Nat), lwI Z x m o (B + 4000) S1 I1 V1 → ow_W X (cs + 44) (sl + 5596) (S1, I1, V1, z1) 3148 (lwv b x m o i) []) : ow_W X cs sl (S, I, V, z) 2171 (lwv b x m o i) [] := by
  obtain ⟨E, G, GS, hL⟩ := id W
  have hX := hI.2.2.1.1.1
  refine or_aload_n (j := 1) E rfl dL_law_2171 ?_
  refine or_arg (j := 1) W rfl rfl dL_law_2172 dL_law_2173 dL_law_2175 dL_law_2176 dL_law_2177 (by omega) ?_
  refine or_aload_n (j := 3) E rfl dL_law_2178 ?_
  refine oy_S (st := []) [.ref x, .int (xs (i + 1)), .ref o] (wL_purse (cA_purse hI.1.1 hX.1) hI.1.1.1 (fun r h0 hk => wr_I hI.1.2.2.1 hk) (fun c' h1 h0 hk => by rw [wk_c hk] at h0 ⊢; exact tc_purse.resolve_left (by omega))) E G lh_L_314 dL_law_2179 rfl (by decide) (by decide) ⟨by omega, by omega⟩ (Nat.le_of_ble_eq_true rfl) (fun r h1 hk => ?_)
  obtain ⟨rfl, V1, z1, rfl, -, hv0, hvo⟩ := wK_I hk
  refine or_istore E dL_law_2182 (by decide) ?_
  have hg := @fA_r x I
  have hJ := lw_J hI hg
  have hr := q_purse (b := (xs (i + 1))) hJ
  refine or_aload_n (j := 2) E rfl dL_law_2184 ?_
  refine or_arg (j := 1) W rfl rfl dL_law_2185 dL_law_2186 dL_law_2188 dL_law_2189 dL_law_2190 (by omega) ?_
  refine or_cV1r (cM_purse hI.1.2.1 hJ.2.1.2.1) E lk_L_316 dL_law_2191 hI.1.2.1.1 rfl rfl (by decide) (by decide) ⟨by omega, by omega⟩ (Nat.le_of_ble_eq_true rfl) ?_
  refine or_istore E dL_law_2194 (by decide) ?_
  have hst := lw_step hI hg (RR_up hr.1 (show B ≤ B + 4000 by omega)) (fM_purse (a := (xs (i + 1)))) (lw_V0 hI (fun b hb => hvo b (by omega))) (lw_V2 hI (fun b hb => hvo b (by omega)))
  refine or_fin W hI.1.2.1 hr.2.1 (kx_lt (by decide)) hI.1.2.2.1 (fun hz => by rw [hv0 (kx_z hz), hr.2.2 (kx_z hz)]) rfl rfl rfl rfl (by omega) (by omega) dL_law_2196 dL_law_2197 dL_law_2200 dL_law_2202 dL_law_2207 dL_law_2209 dL_law_2212 dL_law_2213 dL_law_2214 dL_law_2215 dL_law_2217 dL_law_2218 dL_law_2219 ?_
  refine or_goto 3148 E dL_law_2224 rfl ?_
  refine or_lv (lwv b x m o i) rfl ?_
  exact or_wd (by omega) (by omega) (tl _ _ _ _ hst)
set_option maxRecDepth 100000 in
set_option maxHeartbeats 400000 in
theorem lc_45 {X : ow_X} {cs sl : Nat} {Z : Nat → Nat} {b L i x m o B z : Nat} {xs : Nat → Int32} {S : Nat → Option ow_Sh} {I : ow_I} {V : Nat → Nat → Value} (W : lwE X Z b L xs) (hI : lwI Z x m o B S I V) (hB : B + 4000 < 2 ^ 29) (hi : i + 6 ≤ L) (hc : cs + 44 ≤ 601024) (hs : sl + 5596 ≤ 7293034) (tl : ∀ (S1 : Nat → Option ow_Sh) (I1 : ow_I) (V1 : Nat → Nat → Value) (z1 : Nat), lwI Z x m o (B + 4000) S1 I1 V1 → ow_W X (cs + 44) (sl + 5596) (S1, I1, V1, z1) 3148 (lwv b x m o i) []) : ow_W X cs sl (S, I, V, z) 2227 (lwv b x m o i) [] := by
  obtain ⟨E, G, GS, hL⟩ := id W
  have hX := hI.2.2.1.1.1
  refine or_aload_n (j := 1) E rfl dL_law_2227 ?_
  refine or_arg (j := 1) W rfl rfl dL_law_2228 dL_law_2229 dL_law_2231 dL_law_2232 dL_law_2233 (by omega) ?_
  refine or_aload_n (j := 3) E rfl dL_law_2234 ?_
  refine oy_S (st := []) [.ref x, .int (xs (i + 1)), .ref o] (wL_style (cA_style hI.1.1 hX.1) hI.1.1.1 (fun r h0 hk => wr_I hI.1.2.2.1 hk) (fun c' h1 h0 hk => by rw [wk_c hk] at h0 ⊢; exact tc_style.resolve_left (by omega))) E G lh_L_317 dL_law_2235 rfl (by decide) (by decide) ⟨by omega, by omega⟩ (Nat.le_of_ble_eq_true rfl) (fun r h1 hk => ?_)
  obtain ⟨rfl, V1, z1, rfl, -, hv0, hvo⟩ := wK_I hk
  refine or_istore E dL_law_2238 (by decide) ?_
  have hg := @fA_r x I
  have hJ := lw_J hI hg
  have hr := q_style (b := (xs (i + 1))) hJ
  refine or_aload_n (j := 2) E rfl dL_law_2240 ?_
  refine or_arg (j := 1) W rfl rfl dL_law_2241 dL_law_2242 dL_law_2244 dL_law_2245 dL_law_2246 (by omega) ?_
  refine or_cV1r (cM_style hI.1.2.1 hJ.2.1.2.1) E lk_L_319 dL_law_2247 hI.1.2.1.1 rfl rfl (by decide) (by decide) ⟨by omega, by omega⟩ (Nat.le_of_ble_eq_true rfl) ?_
  refine or_istore E dL_law_2250 (by decide) ?_
  have hst := lw_step hI hg (RR_up hr.1 (show B ≤ B + 4000 by omega)) (fM_style (a := (xs (i + 1)))) (lw_V0 hI (fun b hb => hvo b (by omega))) (lw_V2 hI (fun b hb => hvo b (by omega)))
  refine or_fin W hI.1.2.1 hr.2.1 (kx_lt (by decide)) hI.1.2.2.1 (fun hz => by rw [hv0 (kx_z hz), hr.2.2 (kx_z hz)]) rfl rfl rfl rfl (by omega) (by omega) dL_law_2252 dL_law_2253 dL_law_2256 dL_law_2258 dL_law_2263 dL_law_2265 dL_law_2268 dL_law_2269 dL_law_2270 dL_law_2271 dL_law_2273 dL_law_2274 dL_law_2275 ?_
  refine or_goto 3148 E dL_law_2280 rfl ?_
  refine or_lv (lwv b x m o i) rfl ?_
  exact or_wd (by omega) (by omega) (tl _ _ _ _ hst)
set_option maxRecDepth 100000 in
set_option maxHeartbeats 400000 in
theorem lc_46 {X : ow_X} {cs sl : Nat} {Z : Nat → Nat} {b L i x m o B z : Nat} {xs : Nat → Int32} {S : Nat → Option ow_Sh} {I : ow_I} {V : Nat → Nat → Value} (W : lwE X Z b L xs) (hI : lwI Z x m o B S I V) (hB : B + 4000 < 2 ^ 29) (hi : i + 6 ≤ L) (hc : cs + 44 ≤ 601024) (hs : sl + 5596 ≤ 7293034) (tl : ∀ (S1 : Nat → Option ow_Sh) (I1 : ow_I) (V1 : Nat → Nat → Value) (z1 : Nat), lwI Z x m o (B + 4000) S1 I1 V1 → ow_W X (cs + 44) (sl + 5596) (S1, I1, V1, z1) 3148 (lwv b x m o i) []) : ow_W X cs sl (S, I, V, z) 2283 (lwv b x m o i) [] := by
  obtain ⟨E, G, GS, hL⟩ := id W
  have hX := hI.2.2.1.1.1
  refine or_aload_n (j := 1) E rfl dL_law_2283 ?_
  refine or_arg (j := 1) W rfl rfl dL_law_2284 dL_law_2285 dL_law_2287 dL_law_2288 dL_law_2289 (by omega) ?_
  refine or_aload_n (j := 3) E rfl dL_law_2290 ?_
  refine oy_S (st := []) [.ref x, .int (xs (i + 1)), .ref o] (wL_factor (cA_factor hI.1.1 hX.1) hI.1.1.1 (fun r h0 hk => wr_I hI.1.2.2.1 hk) (fun c' h1 h0 hk => by rw [wk_c hk] at h0 ⊢; exact tc_factor.resolve_left (by omega))) E G lh_L_320 dL_law_2291 rfl (by decide) (by decide) ⟨by omega, by omega⟩ (Nat.le_of_ble_eq_true rfl) (fun r h1 hk => ?_)
  obtain ⟨rfl, V1, z1, rfl, -, hv0, hvo⟩ := wK_I hk
  refine or_istore E dL_law_2294 (by decide) ?_
  have hg := @fA_r x I
  have hJ := lw_J hI hg
  have hr := q_factor (b := (xs (i + 1))) hJ
  refine or_aload_n (j := 2) E rfl dL_law_2296 ?_
  refine or_arg (j := 1) W rfl rfl dL_law_2297 dL_law_2298 dL_law_2300 dL_law_2301 dL_law_2302 (by omega) ?_
  refine or_cV1r (cM_factor hI.1.2.1 hJ.2.1.2.1) E lk_L_322 dL_law_2303 hI.1.2.1.1 rfl rfl (by decide) (by decide) ⟨by omega, by omega⟩ (Nat.le_of_ble_eq_true rfl) ?_
  refine or_istore E dL_law_2306 (by decide) ?_
  have hst := lw_step hI hg (RR_up hr.1 (show B ≤ B + 4000 by omega)) (fM_factor (a := (xs (i + 1)))) (lw_V0 hI (fun b hb => hvo b (by omega))) (lw_V2 hI (fun b hb => hvo b (by omega)))
  refine or_fin W hI.1.2.1 hr.2.1 (kx_lt (by decide)) hI.1.2.2.1 (fun hz => by rw [hv0 (kx_z hz), hr.2.2 (kx_z hz)]) rfl rfl rfl rfl (by omega) (by omega) dL_law_2308 dL_law_2309 dL_law_2312 dL_law_2314 dL_law_2319 dL_law_2321 dL_law_2324 dL_law_2325 dL_law_2326 dL_law_2327 dL_law_2329 dL_law_2330 dL_law_2331 ?_
  refine or_goto 3148 E dL_law_2336 rfl ?_
  refine or_lv (lwv b x m o i) rfl ?_
  exact or_wd (by omega) (by omega) (tl _ _ _ _ hst)
set_option maxRecDepth 100000 in
set_option maxHeartbeats 400000 in
theorem lc_47 {X : ow_X} {cs sl : Nat} {Z : Nat → Nat} {b L i x m o B z : Nat} {xs : Nat → Int32} {S : Nat → Option ow_Sh} {I : ow_I} {V : Nat → Nat → Value} (W : lwE X Z b L xs) (hI : lwI Z x m o B S I V) (hB : B + 4000 < 2 ^ 29) (hi : i + 6 ≤ L) (hc : cs + 44 ≤ 601024) (hs : sl + 5596 ≤ 7293034) (tl : ∀ (S1 : Nat → Option ow_Sh) (I1 : ow_I) (V1 : Nat → Nat → Value) (z1 : Nat), lwI Z x m o (B + 4000) S1 I1 V1 → ow_W X (cs + 44) (sl + 5596) (S1, I1, V1, z1) 3148 (lwv b x m o i) []) : ow_W X cs sl (S, I, V, z) 2339 (lwv b x m o i) [] := by
  obtain ⟨E, G, GS, hL⟩ := id W
  have hX := hI.2.2.1.1.1
  refine or_aload_n (j := 1) E rfl dL_law_2339 ?_
  refine or_arg (j := 1) W rfl rfl dL_law_2340 dL_law_2341 dL_law_2343 dL_law_2344 dL_law_2345 (by omega) ?_
  refine or_aload_n (j := 3) E rfl dL_law_2346 ?_
  refine oy_S (st := []) [.ref x, .int (xs (i + 1)), .ref o] (wL_bought (cA_bought hI.1.1 hX.1) hI.1.1.1 (fun r h0 hk => wr_I hI.1.2.2.1 hk) (fun c' h1 h0 hk => by rw [wk_c hk] at h0 ⊢; exact tc_bought.resolve_left (by omega))) E G lh_L_323 dL_law_2347 rfl (by decide) (by decide) ⟨by omega, by omega⟩ (Nat.le_of_ble_eq_true rfl) (fun r h1 hk => ?_)
  obtain ⟨rfl, V1, z1, rfl, -, hv0, hvo⟩ := wK_I hk
  refine or_istore E dL_law_2350 (by decide) ?_
  have hg := @fA_r x I
  have hJ := lw_J hI hg
  have hr := q_bought (b := (xs (i + 1))) hJ
  refine or_aload_n (j := 2) E rfl dL_law_2352 ?_
  refine or_arg (j := 1) W rfl rfl dL_law_2353 dL_law_2354 dL_law_2356 dL_law_2357 dL_law_2358 (by omega) ?_
  refine or_cV1r (cM_bought hI.1.2.1 hJ.2.1.2.1) E lk_L_325 dL_law_2359 hI.1.2.1.1 rfl rfl (by decide) (by decide) ⟨by omega, by omega⟩ (Nat.le_of_ble_eq_true rfl) ?_
  refine or_istore E dL_law_2362 (by decide) ?_
  have hst := lw_step hI hg (RR_up hr.1 (show B ≤ B + 4000 by omega)) (fM_bought (a := (xs (i + 1)))) (lw_V0 hI (fun b hb => hvo b (by omega))) (lw_V2 hI (fun b hb => hvo b (by omega)))
  refine or_fin W hI.1.2.1 hr.2.1 (kx_lt (by decide)) hI.1.2.2.1 (fun hz => by rw [hv0 (kx_z hz), hr.2.2 (kx_z hz)]) rfl rfl rfl rfl (by omega) (by omega) dL_law_2364 dL_law_2365 dL_law_2368 dL_law_2370 dL_law_2375 dL_law_2377 dL_law_2380 dL_law_2381 dL_law_2382 dL_law_2383 dL_law_2385 dL_law_2386 dL_law_2387 ?_
  refine or_goto 3148 E dL_law_2392 rfl ?_
  refine or_lv (lwv b x m o i) rfl ?_
  exact or_wd (by omega) (by omega) (tl _ _ _ _ hst)
set_option maxRecDepth 100000 in
set_option maxHeartbeats 400000 in
theorem lc_48 {X : ow_X} {cs sl : Nat} {Z : Nat → Nat} {b L i x m o B z : Nat} {xs : Nat → Int32} {S : Nat → Option ow_Sh} {I : ow_I} {V : Nat → Nat → Value} (W : lwE X Z b L xs) (hI : lwI Z x m o B S I V) (hB : B + 4000 < 2 ^ 29) (hi : i + 6 ≤ L) (hc : cs + 44 ≤ 601024) (hs : sl + 5596 ≤ 7293034) (tl : ∀ (S1 : Nat → Option ow_Sh) (I1 : ow_I) (V1 : Nat → Nat → Value) (z1 : Nat), lwI Z x m o (B + 4000) S1 I1 V1 → ow_W X (cs + 44) (sl + 5596) (S1, I1, V1, z1) 3148 (lwv b x m o i) []) : ow_W X cs sl (S, I, V, z) 2395 (lwv b x m o i) [] := by
  obtain ⟨E, G, GS, hL⟩ := id W
  have hX := hI.2.2.1.1.1
  refine or_aload_n (j := 1) E rfl dL_law_2395 ?_
  refine or_arg (j := 1) W rfl rfl dL_law_2396 dL_law_2397 dL_law_2399 dL_law_2400 dL_law_2401 (by omega) ?_
  refine or_aload_n (j := 3) E rfl dL_law_2402 ?_
  refine oy_S (st := []) [.ref x, .int (xs (i + 1)), .ref o] (wL_nods (cA_nods hI.1.1 hX.1) hI.1.1.1 (fun r h0 hk => wr_I hI.1.2.2.1 hk) (fun c' h1 h0 hk => by rw [wk_c hk] at h0 ⊢; exact tc_nods.resolve_left (by omega))) E G lh_L_326 dL_law_2403 rfl (by decide) (by decide) ⟨by omega, by omega⟩ (Nat.le_of_ble_eq_true rfl) (fun r h1 hk => ?_)
  obtain ⟨rfl, V1, z1, rfl, -, hv0, hvo⟩ := wK_I hk
  refine or_istore E dL_law_2406 (by decide) ?_
  have hg := @fA_r x I
  have hJ := lw_J hI hg
  have hr := q_nods (b := (xs (i + 1))) hJ
  refine or_aload_n (j := 2) E rfl dL_law_2408 ?_
  refine or_arg (j := 1) W rfl rfl dL_law_2409 dL_law_2410 dL_law_2412 dL_law_2413 dL_law_2414 (by omega) ?_
  refine or_cV1r (cM_nods hI.1.2.1 hJ.2.1.2.1) E lk_L_328 dL_law_2415 hI.1.2.1.1 rfl rfl (by decide) (by decide) ⟨by omega, by omega⟩ (Nat.le_of_ble_eq_true rfl) ?_
  refine or_istore E dL_law_2418 (by decide) ?_
  have hst := lw_step hI hg (RR_up hr.1 (show B ≤ B + 4000 by omega)) (fM_nods (a := (xs (i + 1)))) (lw_V0 hI (fun b hb => hvo b (by omega))) (lw_V2 hI (fun b hb => hvo b (by omega)))
  refine or_fin W hI.1.2.1 hr.2.1 (kx_lt (by decide)) hI.1.2.2.1 (fun hz => by rw [hv0 (kx_z hz), hr.2.2 (kx_z hz)]) rfl rfl rfl rfl (by omega) (by omega) dL_law_2420 dL_law_2421 dL_law_2424 dL_law_2426 dL_law_2431 dL_law_2433 dL_law_2436 dL_law_2437 dL_law_2438 dL_law_2439 dL_law_2441 dL_law_2442 dL_law_2443 ?_
  refine or_goto 3148 E dL_law_2448 rfl ?_
  refine or_lv (lwv b x m o i) rfl ?_
  exact or_wd (by omega) (by omega) (tl _ _ _ _ hst)
set_option maxRecDepth 100000 in
set_option maxHeartbeats 400000 in
theorem lc_50 {X : ow_X} {cs sl : Nat} {Z : Nat → Nat} {b L i x m o B z : Nat} {xs : Nat → Int32} {S : Nat → Option ow_Sh} {I : ow_I} {V : Nat → Nat → Value} (W : lwE X Z b L xs) (hI : lwI Z x m o B S I V) (hB : B + 4000 < 2 ^ 29) (hi : i + 6 ≤ L) (hc : cs + 44 ≤ 601024) (hs : sl + 5596 ≤ 7293034) (tl : ∀ (S1 : Nat → Option ow_Sh) (I1 : ow_I) (V1 : Nat → Nat → Value) (z1 : Nat), lwI Z x m o (B + 4000) S1 I1 V1 → ow_W X (cs + 44) (sl + 5596) (S1, I1, V1, z1) 3148 (lwv b x m o i) []) : ow_W X cs sl (S, I, V, z) 2540 (lwv b x m o i) [] := by
  obtain ⟨E, G, GS, hL⟩ := id W
  have hX := hI.2.2.1.1.1
  refine or_aload_n (j := 1) E rfl dL_law_2540 ?_
  refine or_arg (j := 1) W rfl rfl dL_law_2541 dL_law_2542 dL_law_2544 dL_law_2545 dL_law_2546 (by omega) ?_
  refine or_aload_n (j := 3) E rfl dL_law_2547 ?_
  refine oy_S (st := []) [.ref x, .int (xs (i + 1)), .ref o] (wL_whyNotNod (cA_whyNotNod hI.1.1 hX) hI.1.1.1 (fun r h0 hk => wr_I hI.1.2.2.1 hk) (fun c' h1 h0 hk => by rw [wk_c hk] at h0 ⊢; exact tc_whyNotNod.resolve_left (by omega))) E G lh_L_333 dL_law_2548 rfl (by decide) (by decide) ⟨by omega, by omega⟩ (Nat.le_of_ble_eq_true rfl) (fun r h1 hk => ?_)
  obtain ⟨rfl, V1, z1, rfl, -, hv0, hvo⟩ := wK_I hk
  refine or_istore E dL_law_2551 (by decide) ?_
  have hg := @fA_r x I
  have hJ := lw_J hI hg
  have hr := q_whyNotNod (b := (xs (i + 1))) hJ
  refine or_aload_n (j := 2) E rfl dL_law_2553 ?_
  refine or_arg (j := 1) W rfl rfl dL_law_2554 dL_law_2555 dL_law_2557 dL_law_2558 dL_law_2559 (by omega) ?_
  refine or_cV1r (cM_whyNotNod hI.1.2.1 hJ.2.1.2.1) E lk_L_335 dL_law_2560 hI.1.2.1.1 rfl rfl (by decide) (by decide) ⟨by omega, by omega⟩ (Nat.le_of_ble_eq_true rfl) ?_
  refine or_istore E dL_law_2563 (by decide) ?_
  have hst := lw_step hI hg (RR_up hr.1 (show B ≤ B + 4000 by omega)) (fM_whyNotNod (a := (xs (i + 1)))) (lw_V0 hI (fun b hb => hvo b (by omega))) (lw_V2 hI (fun b hb => hvo b (by omega)))
  refine or_fin W hI.1.2.1 hr.2.1 (kx_lt (by decide)) hI.1.2.2.1 (fun hz => by rw [hv0 (kx_z hz), hr.2.2 (kx_z hz)]) rfl rfl rfl rfl (by omega) (by omega) dL_law_2565 dL_law_2566 dL_law_2569 dL_law_2571 dL_law_2576 dL_law_2578 dL_law_2581 dL_law_2582 dL_law_2583 dL_law_2584 dL_law_2586 dL_law_2587 dL_law_2588 ?_
  refine or_goto 3148 E dL_law_2593 rfl ?_
  refine or_lv (lwv b x m o i) rfl ?_
  exact or_wd (by omega) (by omega) (tl _ _ _ _ hst)
set_option maxRecDepth 100000 in
set_option maxHeartbeats 400000 in
theorem lc_51 {X : ow_X} {cs sl : Nat} {Z : Nat → Nat} {b L i x m o B z : Nat} {xs : Nat → Int32} {S : Nat → Option ow_Sh} {I : ow_I} {V : Nat → Nat → Value} (W : lwE X Z b L xs) (hI : lwI Z x m o B S I V) (hB : B + 4000 < 2 ^ 29) (hi : i + 6 ≤ L) (hc : cs + 44 ≤ 601024) (hs : sl + 5596 ≤ 7293034) (tl : ∀ (S1 : Nat → Option ow_Sh) (I1 : ow_I) (V1 : Nat → Nat → Value) (z1 : Nat), lwI Z x m o (B + 4000) S1 I1 V1 → ow_W X (cs + 44) (sl + 5596) (S1, I1, V1, z1) 3148 (lwv b x m o i) []) : ow_W X cs sl (S, I, V, z) 2596 (lwv b x m o i) [] := by
  obtain ⟨E, G, GS, hL⟩ := id W
  have hX := hI.2.2.1.1.1
  refine or_aload_n (j := 1) E rfl dL_law_2596 ?_
  refine or_arg (j := 1) W rfl rfl dL_law_2597 dL_law_2598 dL_law_2600 dL_law_2601 dL_law_2602 (by omega) ?_
  refine or_aload_n (j := 3) E rfl dL_law_2603 ?_
  refine oy_S (st := []) [.ref x, .int (xs (i + 1)), .ref o] (wL_costOf (cA_costOf hI.1.1) hI.1.1.1 (fun r h0 hk => wr_I hI.1.2.2.1 hk) (fun c' h1 h0 hk => by rw [wk_c hk] at h0 ⊢; exact tc_costOf.resolve_left (by omega))) E G lh_L_336 dL_law_2604 rfl (by decide) (by decide) ⟨by omega, by omega⟩ (Nat.le_of_ble_eq_true rfl) (fun r h1 hk => ?_)
  obtain ⟨rfl, V1, z1, rfl, -, hv0, hvo⟩ := wK_I hk
  refine or_istore E dL_law_2607 (by decide) ?_
  have hg := @fA_r x I
  have hJ := lw_J hI hg
  have hr := q_costOf (p := (xs (i + 1))) hJ
  refine or_aload_n (j := 2) E rfl dL_law_2609 ?_
  refine or_arg (j := 1) W rfl rfl dL_law_2610 dL_law_2611 dL_law_2613 dL_law_2614 dL_law_2615 (by omega) ?_
  refine or_cV1r (cM_costOf hI.1.2.1) E lk_L_338 dL_law_2616 hI.1.2.1.1 rfl rfl (by decide) (by decide) ⟨by omega, by omega⟩ (Nat.le_of_ble_eq_true rfl) ?_
  refine or_istore E dL_law_2619 (by decide) ?_
  have hst := lw_step hI hg (RR_up hr.1 (show B ≤ B + 4000 by omega)) (fM_costOf (a := (xs (i + 1)))) (lw_V0 hI (fun b hb => hvo b (by omega))) (lw_V2 hI (fun b hb => hvo b (by omega)))
  refine or_fin W hI.1.2.1 hr.2.1 (kx_lt (by decide)) hI.1.2.2.1 (fun hz => by rw [hv0 (kx_z hz), hr.2.2 (kx_z hz)]) rfl rfl rfl rfl (by omega) (by omega) dL_law_2621 dL_law_2622 dL_law_2625 dL_law_2627 dL_law_2632 dL_law_2634 dL_law_2637 dL_law_2638 dL_law_2639 dL_law_2640 dL_law_2642 dL_law_2643 dL_law_2644 ?_
  refine or_goto 3148 E dL_law_2649 rfl ?_
  refine or_lv (lwv b x m o i) rfl ?_
  exact or_wd (by omega) (by omega) (tl _ _ _ _ hst)
set_option maxRecDepth 100000 in
set_option maxHeartbeats 400000 in
theorem lc_53 {X : ow_X} {cs sl : Nat} {Z : Nat → Nat} {b L i x m o B z : Nat} {xs : Nat → Int32} {S : Nat → Option ow_Sh} {I : ow_I} {V : Nat → Nat → Value} (W : lwE X Z b L xs) (hI : lwI Z x m o B S I V) (hB : B + 4000 < 2 ^ 29) (hi : i + 6 ≤ L) (hc : cs + 44 ≤ 601024) (hs : sl + 5596 ≤ 7293034) (tl : ∀ (S1 : Nat → Option ow_Sh) (I1 : ow_I) (V1 : Nat → Nat → Value) (z1 : Nat), lwI Z x m o (B + 4000) S1 I1 V1 → ow_W X (cs + 44) (sl + 5596) (S1, I1, V1, z1) 3148 (lwv b x m o i) []) : ow_W X cs sl (S, I, V, z) 2665 (lwv b x m o i) [] := by
  obtain ⟨E, G, GS, hL⟩ := id W
  have hX := hI.2.2.1.1.1
  refine or_aload_n (j := 1) E rfl dL_law_2665 ?_
  refine or_arg (j := 1) W rfl rfl dL_law_2666 dL_law_2667 dL_law_2669 dL_law_2670 dL_law_2671 (by omega) ?_
  refine or_aload_n (j := 3) E rfl dL_law_2672 ?_
  refine oy_S (st := []) [.ref x, .int (xs (i + 1)), .ref o] (wL_keenestBuyer (cA_keenestBuyer hI.1.1 hX) hI.1.1.1 (fun r h0 hk => wr_I hI.1.2.2.1 hk) (fun c' h1 h0 hk => by rw [wk_c hk] at h0 ⊢; exact tc_keenestBuyer.resolve_left (by omega))) E G lh_L_343 dL_law_2673 rfl (by decide) (by decide) ⟨by omega, by omega⟩ (Nat.le_of_ble_eq_true rfl) (fun r h1 hk => ?_)
  obtain ⟨rfl, V1, z1, rfl, -, hv0, hvo⟩ := wK_I hk
  refine or_istore E dL_law_2676 (by decide) ?_
  have hg := @fA_r x I
  have hJ := lw_J hI hg
  have hr := q_keenestBuyer (b := (xs (i + 1))) hJ
  refine or_aload_n (j := 2) E rfl dL_law_2678 ?_
  refine or_arg (j := 1) W rfl rfl dL_law_2679 dL_law_2680 dL_law_2682 dL_law_2683 dL_law_2684 (by omega) ?_
  refine or_cV1r (cM_keenestBuyer hI.1.2.1 hJ.2.1.2.1) E lk_L_345 dL_law_2685 hI.1.2.1.1 rfl rfl (by decide) (by decide) ⟨by omega, by omega⟩ (Nat.le_of_ble_eq_true rfl) ?_
  refine or_istore E dL_law_2688 (by decide) ?_
  have hst := lw_step hI hg (RR_up hr.1 (show B ≤ B + 4000 by omega)) (fM_keenestBuyer (a := (xs (i + 1)))) (lw_V0 hI (fun b hb => hvo b (by omega))) (lw_V2 hI (fun b hb => hvo b (by omega)))
  refine or_fin W hI.1.2.1 hr.2.1 (kx_lt (by decide)) hI.1.2.2.1 (fun hz => by rw [hv0 (kx_z hz), hr.2.2 (kx_z hz)]) rfl rfl rfl rfl (by omega) (by omega) dL_law_2690 dL_law_2691 dL_law_2694 dL_law_2696 dL_law_2701 dL_law_2703 dL_law_2706 dL_law_2707 dL_law_2708 dL_law_2709 dL_law_2711 dL_law_2712 dL_law_2713 ?_
  refine or_goto 3148 E dL_law_2718 rfl ?_
  refine or_lv (lwv b x m o i) rfl ?_
  exact or_wd (by omega) (by omega) (tl _ _ _ _ hst)
set_option maxRecDepth 100000 in
set_option maxHeartbeats 400000 in
theorem lc_54 {X : ow_X} {cs sl : Nat} {Z : Nat → Nat} {b L i x m o B z : Nat} {xs : Nat → Int32} {S : Nat → Option ow_Sh} {I : ow_I} {V : Nat → Nat → Value} (W : lwE X Z b L xs) (hI : lwI Z x m o B S I V) (hB : B + 4000 < 2 ^ 29) (hi : i + 6 ≤ L) (hc : cs + 44 ≤ 601024) (hs : sl + 5596 ≤ 7293034) (tl : ∀ (S1 : Nat → Option ow_Sh) (I1 : ow_I) (V1 : Nat → Nat → Value) (z1 : Nat), lwI Z x m o (B + 4000) S1 I1 V1 → ow_W X (cs + 44) (sl + 5596) (S1, I1, V1, z1) 3148 (lwv b x m o i) []) : ow_W X cs sl (S, I, V, z) 2721 (lwv b x m o i) [] := by
  obtain ⟨E, G, GS, hL⟩ := id W
  have hX := hI.2.2.1.1.1
  refine or_aload_n (j := 1) E rfl dL_law_2721 ?_
  refine or_arg (j := 1) W rfl rfl dL_law_2722 dL_law_2723 dL_law_2725 dL_law_2726 dL_law_2727 (by omega) ?_
  refine or_aload_n (j := 3) E rfl dL_law_2728 ?_
  refine oy_S (st := []) [.ref x, .int (xs (i + 1)), .ref o] (wL_minutesToSale (cA_minutesToSale hI.1.1 hX) hI.1.1.1 (fun r h0 hk => wr_I hI.1.2.2.1 hk) (fun c' h1 h0 hk => by rw [wk_c hk] at h0 ⊢; exact tc_minutesToSale.resolve_left (by omega))) E G lh_L_346 dL_law_2729 rfl (by decide) (by decide) ⟨by omega, by omega⟩ (Nat.le_of_ble_eq_true rfl) (fun r h1 hk => ?_)
  obtain ⟨rfl, V1, z1, rfl, -, hv0, hvo⟩ := wK_I hk
  refine or_istore E dL_law_2732 (by decide) ?_
  have hA := fA_minutesToSale (x := x) (I := I) (b := (xs (i + 1))) hX
  have hg := fA_gh hA
  have hJ := lw_J hI hg
  have hr := r_minutesToSale (b := (xs (i + 1))) hJ (by omega)
  refine or_ghs (gh_S (I := I) hI.1.1) ?_
  refine or_aload_n (j := 2) E rfl dL_law_2734 ?_
  refine or_arg (j := 1) W rfl rfl dL_law_2735 dL_law_2736 dL_law_2738 dL_law_2739 dL_law_2740 (by omega) ?_
  refine or_cV1r (cM_minutesToSale hI.1.2.1 hJ.2.1.2.1) E lk_L_348 dL_law_2741 hI.1.2.1.1 rfl rfl (by decide) (by decide) ⟨by omega, by omega⟩ (Nat.le_of_ble_eq_true rfl) ?_
  refine or_istore E dL_law_2744 (by decide) ?_
  have hst := lw_step hI hg (RR_up (RR_gh hr.1 hI.2.2.1.1.2) (show B ≤ B + 4000 by omega)) (fM_minutesToSale (a := (xs (i + 1)))) (lw_V hI (fun b hb => hvo b (by omega))) (lw_V2 hI (fun b hb => hvo b (by omega)))
  refine or_fin W hI.1.2.1 hr.2.1 (kx_lt (by decide)) hI.1.2.2.1 (fun hz => by rw [hv0 (kx_z hz), hr.2.2 (kx_z hz)]) rfl rfl rfl rfl (by omega) (by omega) dL_law_2746 dL_law_2747 dL_law_2750 dL_law_2752 dL_law_2757 dL_law_2759 dL_law_2762 dL_law_2763 dL_law_2764 dL_law_2765 dL_law_2767 dL_law_2768 dL_law_2769 ?_
  refine or_goto 3148 E dL_law_2774 rfl ?_
  refine or_lv (lwv b x m o i) rfl ?_
  exact or_wd (by omega) (by omega) (tl _ _ _ _ hst)
set_option maxRecDepth 100000 in
set_option maxHeartbeats 400000 in
theorem lc_55 {X : ow_X} {cs sl : Nat} {Z : Nat → Nat} {b L i x m o B z : Nat} {xs : Nat → Int32} {S : Nat → Option ow_Sh} {I : ow_I} {V : Nat → Nat → Value} (W : lwE X Z b L xs) (hI : lwI Z x m o B S I V) (hB : B + 4000 < 2 ^ 29) (hi : i + 6 ≤ L) (hc : cs + 44 ≤ 601024) (hs : sl + 5596 ≤ 7293034) (tl : ∀ (S1 : Nat → Option ow_Sh) (I1 : ow_I) (V1 : Nat → Nat → Value) (z1 : Nat), lwI Z x m o (B + 4000) S1 I1 V1 → ow_W X (cs + 44) (sl + 5596) (S1, I1, V1, z1) 3148 (lwv b x m o i) []) : ow_W X cs sl (S, I, V, z) 2777 (lwv b x m o i) [] := by
  obtain ⟨E, G, GS, hL⟩ := id W
  have hX := hI.2.2.1.1.1
  refine or_aload_n (j := 1) E rfl dL_law_2777 ?_
  refine or_arg (j := 1) W rfl rfl dL_law_2778 dL_law_2779 dL_law_2781 dL_law_2782 dL_law_2783 (by omega) ?_
  refine or_arg (j := 2) W rfl rfl dL_law_2784 dL_law_2785 dL_law_2787 dL_law_2788 dL_law_2789 (by omega) ?_
  refine or_aload_n (j := 3) E rfl dL_law_2790 ?_
  refine oy_S (st := []) [.ref x, .int (xs (i + 1)), .int (xs (i + 2)), .ref o] (wL_buyerAfter (cA_buyerAfter hI.1.1 hX) hI.1.1.1 (fun r h0 hk => wr_I hI.1.2.2.1 hk) (fun c' h1 h0 hk => by rw [wk_c hk] at h0 ⊢; exact tc_buyerAfter.resolve_left (by omega))) E G lh_L_349 dL_law_2791 rfl (by decide) (by decide) ⟨by omega, by omega⟩ (Nat.le_of_ble_eq_true rfl) (fun r h1 hk => ?_)
  obtain ⟨rfl, V1, z1, rfl, -, hv0, hvo⟩ := wK_I hk
  refine or_istore E dL_law_2794 (by decide) ?_
  have hA := fA_buyerAfter (x := x) (I := I) (b := (xs (i + 1))) (n := (xs (i + 2))) hX
  have hg := fA_gh hA
  have hJ := lw_J hI hg
  have hr := r_buyerAfter (b := (xs (i + 1))) (n := (xs (i + 2))) hJ (by omega)
  refine or_ghs (gh_S (I := I) hI.1.1) ?_
  refine or_aload_n (j := 2) E rfl dL_law_2796 ?_
  refine or_arg (j := 1) W rfl rfl dL_law_2797 dL_law_2798 dL_law_2800 dL_law_2801 dL_law_2802 (by omega) ?_
  refine or_arg (j := 2) W rfl rfl dL_law_2803 dL_law_2804 dL_law_2806 dL_law_2807 dL_law_2808 (by omega) ?_
  refine or_cV2r (cM_buyerAfter hI.1.2.1 hJ.2.1.2.1) E lk_L_351 dL_law_2809 hI.1.2.1.1 rfl rfl (by decide) (by decide) ⟨by omega, by omega⟩ (Nat.le_of_ble_eq_true rfl) ?_
  refine or_istore E dL_law_2812 (by decide) ?_
  have hst := lw_step hI hg (RR_up (RR_gh hr.1 hI.2.2.1.1.2) (show B ≤ B + 4000 by omega)) (fM_buyerAfter (a := (xs (i + 1))) (b := (xs (i + 2)))) (lw_V hI (fun b hb => hvo b (by omega))) (lw_V2 hI (fun b hb => hvo b (by omega)))
  refine or_fin W hI.1.2.1 hr.2.1 (kx_lt (by decide)) hI.1.2.2.1 (fun hz => by rw [hv0 (kx_z hz), hr.2.2 (kx_z hz)]) rfl rfl rfl rfl (by omega) (by omega) dL_law_2814 dL_law_2815 dL_law_2818 dL_law_2820 dL_law_2825 dL_law_2827 dL_law_2830 dL_law_2831 dL_law_2832 dL_law_2833 dL_law_2835 dL_law_2836 dL_law_2837 ?_
  refine or_goto 3148 E dL_law_2842 rfl ?_
  refine or_lv (lwv b x m o i) rfl ?_
  exact or_wd (by omega) (by omega) (tl _ _ _ _ hst)
set_option maxRecDepth 100000 in
set_option maxHeartbeats 400000 in
theorem lc_56 {X : ow_X} {cs sl : Nat} {Z : Nat → Nat} {b L i x m o B z : Nat} {xs : Nat → Int32} {S : Nat → Option ow_Sh} {I : ow_I} {V : Nat → Nat → Value} (W : lwE X Z b L xs) (hI : lwI Z x m o B S I V) (hB : B + 4000 < 2 ^ 29) (hi : i + 6 ≤ L) (hc : cs + 44 ≤ 601024) (hs : sl + 5596 ≤ 7293034) (tl : ∀ (S1 : Nat → Option ow_Sh) (I1 : ow_I) (V1 : Nat → Nat → Value) (z1 : Nat), lwI Z x m o (B + 4000) S1 I1 V1 → ow_W X (cs + 44) (sl + 5596) (S1, I1, V1, z1) 3148 (lwv b x m o i) []) : ow_W X cs sl (S, I, V, z) 2845 (lwv b x m o i) [] := by
  obtain ⟨E, G, GS, hL⟩ := id W
  have hX := hI.2.2.1.1.1
  refine or_aload_n (j := 1) E rfl dL_law_2845 ?_
  refine or_arg (j := 1) W rfl rfl dL_law_2846 dL_law_2847 dL_law_2849 dL_law_2850 dL_law_2851 (by omega) ?_
  refine or_aload_n (j := 3) E rfl dL_law_2852 ?_
  refine oy_S (st := []) [.ref x, .int (xs (i + 1)), .ref o] (wL_sellerCoinsAfter (cA_sellerCoinsAfter hI.1.1 hX) hI.1.1.1 (fun r h0 hk => wr_I hI.1.2.2.1 hk) (fun c' h1 h0 hk => by rw [wk_c hk] at h0 ⊢; exact tc_sellerCoinsAfter.resolve_left (by omega))) E G lh_L_352 dL_law_2853 rfl (by decide) (by decide) ⟨by omega, by omega⟩ (Nat.le_of_ble_eq_true rfl) (fun r h1 hk => ?_)
  obtain ⟨rfl, V1, z1, rfl, -, hv0, hvo⟩ := wK_I hk
  refine or_istore E dL_law_2856 (by decide) ?_
  have hA := fA_sellerCoinsAfter (x := x) (I := I) (n := (xs (i + 1))) hX
  have hg := fA_gh hA
  have hJ := lw_J hI hg
  have hr := r_sellerCoinsAfter (n := (xs (i + 1))) hJ (by omega)
  refine or_ghs (gh_S (I := I) hI.1.1) ?_
  refine or_aload_n (j := 2) E rfl dL_law_2858 ?_
  refine or_arg (j := 1) W rfl rfl dL_law_2859 dL_law_2860 dL_law_2862 dL_law_2863 dL_law_2864 (by omega) ?_
  refine or_cV1r (cM_sellerCoinsAfter hI.1.2.1 hJ.2.1.2.1) E lk_L_354 dL_law_2865 hI.1.2.1.1 rfl rfl (by decide) (by decide) ⟨by omega, by omega⟩ (Nat.le_of_ble_eq_true rfl) ?_
  refine or_istore E dL_law_2868 (by decide) ?_
  have hst := lw_step hI hg (RR_up (RR_gh hr.1 hI.2.2.1.1.2) (show B ≤ B + 4000 by omega)) (fM_sellerCoinsAfter (a := (xs (i + 1)))) (lw_V hI (fun b hb => hvo b (by omega))) (lw_V2 hI (fun b hb => hvo b (by omega)))
  refine or_fin W hI.1.2.1 hr.2.1 (kx_lt (by decide)) hI.1.2.2.1 (fun hz => by rw [hv0 (kx_z hz), hr.2.2 (kx_z hz)]) rfl rfl rfl rfl (by omega) (by omega) dL_law_2870 dL_law_2871 dL_law_2874 dL_law_2876 dL_law_2881 dL_law_2883 dL_law_2886 dL_law_2887 dL_law_2888 dL_law_2889 dL_law_2891 dL_law_2892 dL_law_2893 ?_
  refine or_goto 3148 E dL_law_2898 rfl ?_
  refine or_lv (lwv b x m o i) rfl ?_
  exact or_wd (by omega) (by omega) (tl _ _ _ _ hst)
set_option maxRecDepth 100000 in
set_option maxHeartbeats 400000 in
theorem lc_57 {X : ow_X} {cs sl : Nat} {Z : Nat → Nat} {b L i x m o B z : Nat} {xs : Nat → Int32} {S : Nat → Option ow_Sh} {I : ow_I} {V : Nat → Nat → Value} (W : lwE X Z b L xs) (hI : lwI Z x m o B S I V) (hB : B + 4000 < 2 ^ 29) (hi : i + 6 ≤ L) (hc : cs + 44 ≤ 601024) (hs : sl + 5596 ≤ 7293034) (tl : ∀ (S1 : Nat → Option ow_Sh) (I1 : ow_I) (V1 : Nat → Nat → Value) (z1 : Nat), lwI Z x m o (B + 4000) S1 I1 V1 → ow_W X (cs + 44) (sl + 5596) (S1, I1, V1, z1) 3148 (lwv b x m o i) []) : ow_W X cs sl (S, I, V, z) 2901 (lwv b x m o i) [] := by
  obtain ⟨E, G, GS, hL⟩ := id W
  have hX := hI.2.2.1.1.1
  refine or_aload_n (j := 1) E rfl dL_law_2901 ?_
  refine or_arg (j := 1) W rfl rfl dL_law_2902 dL_law_2903 dL_law_2905 dL_law_2906 dL_law_2907 (by omega) ?_
  refine or_aload_n (j := 3) E rfl dL_law_2908 ?_
  refine oy_S (st := []) [.ref x, .int (xs (i + 1)), .ref o] (wL_bestStep (cA_bestStep hI.1.1 hX) hI.1.1.1 (fun r h0 hk => wr_I hI.1.2.2.1 hk) (fun c' h1 h0 hk => by rw [wk_c hk] at h0 ⊢; exact tc_bestStep.resolve_left (by omega))) E G lh_L_355 dL_law_2909 rfl (by decide) (by decide) ⟨by omega, by omega⟩ (Nat.le_of_ble_eq_true rfl) (fun r h1 hk => ?_)
  obtain ⟨rfl, V1, z1, rfl, -, hv0, hvo⟩ := wK_I hk
  refine or_istore E dL_law_2912 (by decide) ?_
  have hA := fA_bestStep (x := x) (I := I) (n := (xs (i + 1))) hX
  have hg := fA_gh hA
  have hJ := lw_J hI hg
  have hr := r_bestStep (n := (xs (i + 1))) hJ (by omega)
  refine or_ghs (gh_S (I := I) hI.1.1) ?_
  refine or_aload_n (j := 2) E rfl dL_law_2914 ?_
  refine or_arg (j := 1) W rfl rfl dL_law_2915 dL_law_2916 dL_law_2918 dL_law_2919 dL_law_2920 (by omega) ?_
  refine or_cV1r (cM_bestStep hI.1.2.1 hJ.2.1.2.1) E lk_L_357 dL_law_2921 hI.1.2.1.1 rfl rfl (by decide) (by decide) ⟨by omega, by omega⟩ (Nat.le_of_ble_eq_true rfl) ?_
  refine or_istore E dL_law_2924 (by decide) ?_
  have hst := lw_step hI hg (RR_up (RR_gh hr.1 hI.2.2.1.1.2) (show B ≤ B + 4000 by omega)) (fM_bestStep (a := (xs (i + 1)))) (lw_V hI (fun b hb => hvo b (by omega))) (lw_V2 hI (fun b hb => hvo b (by omega)))
  refine or_fin W hI.1.2.1 hr.2.1 (kx_lt (by decide)) hI.1.2.2.1 (fun hz => by rw [hv0 (kx_z hz), hr.2.2 (kx_z hz)]) rfl rfl rfl rfl (by omega) (by omega) dL_law_2926 dL_law_2927 dL_law_2930 dL_law_2932 dL_law_2937 dL_law_2939 dL_law_2942 dL_law_2943 dL_law_2944 dL_law_2945 dL_law_2947 dL_law_2948 dL_law_2949 ?_
  refine or_goto 3148 E dL_law_2954 rfl ?_
  refine or_lv (lwv b x m o i) rfl ?_
  exact or_wd (by omega) (by omega) (tl _ _ _ _ hst)
