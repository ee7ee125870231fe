/-! the calls that look, over the whole relation -/
theorem zGa_g {s M : Nat → Nat} {w w' : Nat → Int64} {g re fi g' re' fi' : Nat → Int32} {rt im rt' im' : Int32} (hg : im = 0 ∨ im = 1 ∧ zGn s M w g re fi rt) (h : zGa s M w g re fi rt im w' g' re' fi' rt' im') : im' = 0 ∨ im' = 1 ∧ zGn s M w' g' re' fi' rt' := by
  rcases h with ⟨rfl, rfl, rfl, rfl, rfl, rfl⟩ | ⟨h1, h2, -⟩
  · exact hg
  · exact Or.inr ⟨h1, h2⟩
theorem zGa_f {s M : Nat → Nat} {w w' : Nat → Int64} {g re fi g' re' fi' : Nat → Int32} {rt im rt' im' : Int32} {r : zR15} {ff : Int32} (hf : zFo s w im r ff) (h : zGa s M w g re fi rt im w' g' re' fi' rt' im') : zFo s w' im' r ff := by
  rcases h with ⟨rfl, rfl, rfl, rfl, rfl, rfl⟩ | ⟨h1, h2, h3⟩
  · exact hf
  · rcases hf with h | ⟨q, q1, q2, q3, q4⟩
    · exact Or.inl h
    · exact Or.inr ⟨q, q1, q2, h1, by rw [h3 q3]; exact q4⟩

theorem zI_columns (K : Nat) (hK : 1000000 < K) {wd : Nat → Int32} {fa : Nat → Int64} {od hd : Nat → Int32} {qc : Nat → Nat → Int32} {qs : Nat → Int32} {bc : Nat → Nat → Int32} {bs : Nat → Int32} {tl rl : Int32} {H : zH12} {w : Nat → Int64} {g re fi : Nat → Int32} {ro im : Int32} {r : zR15} {ff : Int32} {now before : Nat → Int32} {ch : Int32} {row layer : Nat → Int32} {rounds : Int32} {value : Nat → Int32} (h : zIv wd fa od hd qc qs bc bs tl rl H w g re fi ro im r ff now before ch row layer rounds value) (p : Int32) (th : Int32) :
    ∃ e bb, fX11_columns wd tl p = some (e, ()) ∧ fX12_columns now p th = some bb ∧ zAg [0] 0 e bb := by
  obtain ⟨s, M, hW, hM, hM4, hS, hH, hg, hff, hm, hrow, hl, hro, hval⟩ := h
  have htt := hS.1
  subst htt
  obtain ⟨e, bb, e1, e2, hA⟩ := zc_columns hm hW hS.2.1 p th
  exact ⟨e, bb, e1, e2, hA⟩

theorem zI_factCount (K : Nat) (hK : 1000000 < K) {wd : Nat → Int32} {fa : Nat → Int64} {od hd : Nat → Int32} {qc : Nat → Nat → Int32} {qs : Nat → Int32} {bc : Nat → Nat → Int32} {bs : Nat → Int32} {tl rl : Int32} {H : zH12} {w : Nat → Int64} {g re fi : Nat → Int32} {ro im : Int32} {r : zR15} {ff : Int32} {now before : Nat → Int32} {ch : Int32} {row layer : Nat → Int32} {rounds : Int32} {value : Nat → Int32} (h : zIv wd fa od hd qc qs bc bs tl rl H w g re fi ro im r ff now before ch row layer rounds value) (p : Int32) (th : Int32) :
    ∃ e bb, fX11_factCount K fa tl p = some (e, ()) ∧ fX12_factCount K now p th = some bb ∧ zAg [0] 0 e bb := by
  obtain ⟨s, M, hW, hM, hM4, hS, hH, hg, hff, hm, hrow, hl, hro, hval⟩ := h
  have htt := hS.1
  subst htt
  obtain ⟨e, bb, e1, e2, hA⟩ := zc_factCount K (by omega) hm hW hS.2.2.1 p th
  exact ⟨e, bb, e1, e2, hA⟩

theorem zI_isFact (K : Nat) (hK : 1000000 < K) {wd : Nat → Int32} {fa : Nat → Int64} {od hd : Nat → Int32} {qc : Nat → Nat → Int32} {qs : Nat → Int32} {bc : Nat → Nat → Int32} {bs : Nat → Int32} {tl rl : Int32} {H : zH12} {w : Nat → Int64} {g re fi : Nat → Int32} {ro im : Int32} {r : zR15} {ff : Int32} {now before : Nat → Int32} {ch : Int32} {row layer : Nat → Int32} {rounds : Int32} {value : Nat → Int32} (h : zIv wd fa od hd qc qs bc bs tl rl H w g re fi ro im r ff now before ch row layer rounds value) (p : Int32) (a : Int32) (b : Int32) (c : Int32) (th : Int32) :
    ∃ e bb, fX11_isFact wd fa tl p a b c = some (e, ()) ∧ fX12_isFact now p a b c th = some bb ∧ zAg [0, 1] false e bb := by
  obtain ⟨s, M, hW, hM, hM4, hS, hH, hg, hff, hm, hrow, hl, hro, hval⟩ := h
  have htt := hS.1
  subst htt
  obtain ⟨e, bb, e1, e2, hA⟩ := zc_isFact hm hW hS.2.1 hS.2.2.1 p a b c th
  exact ⟨e, bb, e1, e2, hA⟩

theorem zI_atomCount (K : Nat) (hK : 1000000 < K) {wd : Nat → Int32} {fa : Nat → Int64} {od hd : Nat → Int32} {qc : Nat → Nat → Int32} {qs : Nat → Int32} {bc : Nat → Nat → Int32} {bs : Nat → Int32} {tl rl : Int32} {H : zH12} {w : Nat → Int64} {g re fi : Nat → Int32} {ro im : Int32} {r : zR15} {ff : Int32} {now before : Nat → Int32} {ch : Int32} {row layer : Nat → Int32} {rounds : Int32} {value : Nat → Int32} (h : zIv wd fa od hd qc qs bc bs tl rl H w g re fi ro im r ff now before ch row layer rounds value) (p : Int32) (th : Int32) :
    ∃ e bb, fX11_atomCount qs p = some (e, ()) ∧ fX12_atomCount now p th = some bb ∧ zAg [0] 0 e bb := by
  obtain ⟨s, M, hW, hM, hM4, hS, hH, hg, hff, hm, hrow, hl, hro, hval⟩ := h
  have htt := hS.1
  subst htt
  obtain ⟨e, bb, e1, e2, hA⟩ := zc_atomCount hm (fun q hq => (hS.2.2.2.2.1 q hq).1) p th
  exact ⟨e, bb, e1, e2, hA⟩

theorem zI_isIdle (K : Nat) (hK : 1000000 < K) {wd : Nat → Int32} {fa : Nat → Int64} {od hd : Nat → Int32} {qc : Nat → Nat → Int32} {qs : Nat → Int32} {bc : Nat → Nat → Int32} {bs : Nat → Int32} {tl rl : Int32} {H : zH12} {w : Nat → Int64} {g re fi : Nat → Int32} {ro im : Int32} {r : zR15} {ff : Int32} {now before : Nat → Int32} {ch : Int32} {row layer : Nat → Int32} {rounds : Int32} {value : Nat → Int32} (h : zIv wd fa od hd qc qs bc bs tl rl H w g re fi ro im r ff now before ch row layer rounds value) (p : Int32) (th : Int32) :
    ∃ e bb, fX11_isIdle K hd bc bs rl p = some (e, ()) ∧ fX12_isIdle K now p th = some bb ∧ zAg [0] false e bb := by
  obtain ⟨s, M, hW, hM, hM4, hS, hH, hg, hff, hm, hrow, hl, hro, hval⟩ := h
  have htt := hS.1
  subst htt
  obtain ⟨e, bb, e1, e2, hA⟩ := zc_isIdle K (by omega) hm hW.2.2.2.2.2.2.1 hS.2.2.2.2.2 p th
  exact ⟨e, bb, e1, e2, hA⟩

theorem zI_isTree (K : Nat) (hK : 1000000 < K) {wd : Nat → Int32} {fa : Nat → Int64} {od hd : Nat → Int32} {qc : Nat → Nat → Int32} {qs : Nat → Int32} {bc : Nat → Nat → Int32} {bs : Nat → Int32} {tl rl : Int32} {H : zH12} {w : Nat → Int64} {g re fi : Nat → Int32} {ro im : Int32} {r : zR15} {ff : Int32} {now before : Nat → Int32} {ch : Int32} {row layer : Nat → Int32} {rounds : Int32} {value : Nat → Int32} (h : zIv wd fa od hd qc qs bc bs tl rl H w g re fi ro im r ff now before ch row layer rounds value) (sets : Nat → Int32) (left : Nat → Int32) (gone : Nat → Int32) (p : Int32) (th : Int32) :
    ∃ e sets' bb left' gone', fX11_isTree K qc qs p sets = some (e, sets') ∧ fX12_isTree K now p th left gone = some (bb.1, bb.2, left', gone') ∧ zAg [0] false e bb := by
  obtain ⟨s, M, hW, hM, hM4, hS, hH, hg, hff, hm, hrow, hl, hro, hval⟩ := h
  have htt := hS.1
  subst htt
  obtain ⟨e, sets', bb, left', gone', e1, e2, hA⟩ := zc_isTree K (by omega) hm hW hS.2.2.2.2.1 sets left gone p th
  exact ⟨e, sets', bb, left', gone', e1, e2, hA⟩

theorem zI_rowCount (K : Nat) (hK : 1000000 < K) {wd : Nat → Int32} {fa : Nat → Int64} {od hd : Nat → Int32} {qc : Nat → Nat → Int32} {qs : Nat → Int32} {bc : Nat → Nat → Int32} {bs : Nat → Int32} {tl rl : Int32} {H : zH12} {w : Nat → Int64} {g re fi : Nat → Int32} {ro im : Int32} {r : zR15} {ff : Int32} {now before : Nat → Int32} {ch : Int32} {row layer : Nat → Int32} {rounds : Int32} {value : Nat → Int32} (h : zIv wd fa od hd qc qs bc bs tl rl H w g re fi ro im r ff now before ch row layer rounds value) (q : zR13) (fr : Nat → Int64) (p : Int32) (th : Int32) :
    ∃ e bb q' w' fr' g' re' fi' ro' im', zapg (fX11_rowCount K fa hd bc bs tl rl p) q w fr g re fi ro im = some (e, zrs q' w' fr' g' re' fi' ro' im') ∧ fX12_rowCount K now row p th = some bb ∧ zAg [0] 0 e bb ∧ zIv wd fa od hd qc qs bc bs tl rl H w' g' re' fi' ro' im' r ff now before ch row layer rounds value := by
  obtain ⟨s, M, hW, hM, hM4, hS, hH, hg, hff, hm, hrow, hl, hro, hval⟩ := h
  have htt := hS.1
  subst htt
  obtain ⟨e, bb, q', w', fr', g', re', fi', ro', im', e1, e2, hA, hga⟩ := zc_rowCount K (by omega) hW hM hM4 hS.2.1 hS.2.2.1 hS.2.2.2.2.2 q w fr g re fi ro im hg hm hrow hl hro hval p th
  exact ⟨e, bb, q', w', fr', g', re', fi', ro', im', e1, e2, hA, s, M, hW, hM, hM4, hS, hH, zGa_g hg hga, zGa_f hff hga, hm, hrow, hl, hro, hval⟩

theorem zI_layerOf (K : Nat) (hK : 1000000 < K) {wd : Nat → Int32} {fa : Nat → Int64} {od hd : Nat → Int32} {qc : Nat → Nat → Int32} {qs : Nat → Int32} {bc : Nat → Nat → Int32} {bs : Nat → Int32} {tl rl : Int32} {H : zH12} {w : Nat → Int64} {g re fi : Nat → Int32} {ro im : Int32} {r : zR15} {ff : Int32} {now before : Nat → Int32} {ch : Int32} {row layer : Nat → Int32} {rounds : Int32} {value : Nat → Int32} (h : zIv wd fa od hd qc qs bc bs tl rl H w g re fi ro im r ff now before ch row layer rounds value) (q : zR13) (fr : Nat → Int64) (p : Int32) (th : Int32) :
    ∃ e bb q' w' fr' g' re' fi' ro' im', zapg (fX11_layerOf K fa hd bc bs tl rl p) q w fr g re fi ro im = some (e, zrs q' w' fr' g' re' fi' ro' im') ∧ fX12_layerOf now layer p th = some bb ∧ zAg [0] 0 e bb ∧ zIv wd fa od hd qc qs bc bs tl rl H w' g' re' fi' ro' im' r ff now before ch row layer rounds value := by
  obtain ⟨s, M, hW, hM, hM4, hS, hH, hg, hff, hm, hrow, hl, hro, hval⟩ := h
  have htt := hS.1
  subst htt
  obtain ⟨e, bb, q', w', fr', g', re', fi', ro', im', e1, e2, hA, hga⟩ := zc_layerOf K (by omega) hW hM hM4 hS.2.1 hS.2.2.1 hS.2.2.2.2.2 q w fr g re fi ro im hg hm hrow hl hro hval p th
  exact ⟨e, bb, q', w', fr', g', re', fi', ro', im', e1, e2, hA, s, M, hW, hM, hM4, hS, hH, zGa_g hg hga, zGa_f hff hga, hm, hrow, hl, hro, hval⟩

theorem zI_rounds (K : Nat) (hK : 1000000 < K) {wd : Nat → Int32} {fa : Nat → Int64} {od hd : Nat → Int32} {qc : Nat → Nat → Int32} {qs : Nat → Int32} {bc : Nat → Nat → Int32} {bs : Nat → Int32} {tl rl : Int32} {H : zH12} {w : Nat → Int64} {g re fi : Nat → Int32} {ro im : Int32} {r : zR15} {ff : Int32} {now before : Nat → Int32} {ch : Int32} {row layer : Nat → Int32} {rounds : Int32} {value : Nat → Int32} (h : zIv wd fa od hd qc qs bc bs tl rl H w g re fi ro im r ff now before ch row layer rounds value) (q : zR13) (fr : Nat → Int64) (th : Int32) :
    ∃ v q' w' fr' g' re' fi' ro', zapg (fX11_rounds K fa hd bc bs rl) q w fr g re fi ro im = some (v, zrs q' w' fr' g' re' fi' ro' 1) ∧ fX12_rounds rounds th = some (v, 0) ∧ zIv wd fa od hd qc qs bc bs tl rl H w' g' re' fi' ro' 1 r ff now before ch row layer rounds value := by
  obtain ⟨s, M, hW, hM, hM4, hS, hH, hg, hff, hm, hrow, hl, hro, hval⟩ := h
  have htt := hS.1
  subst htt
  obtain ⟨v, q', w', fr', g', re', fi', ro', e1, e2, hga⟩ := zc_rounds K (by omega) hW hM hM4 hS.2.1 hS.2.2.1 hS.2.2.2.2.2 q w fr g re fi ro im hg hm hrow hl hro hval th
  exact ⟨v, q', w', fr', g', re', fi', ro', e1, e2, s, M, hW, hM, hM4, hS, hH, zGa_g hg hga, zGa_f hff hga, hm, hrow, hl, hro, hval⟩

theorem zI_firings (K : Nat) (hK : 1000000 < K) {wd : Nat → Int32} {fa : Nat → Int64} {od hd : Nat → Int32} {qc : Nat → Nat → Int32} {qs : Nat → Int32} {bc : Nat → Nat → Int32} {bs : Nat → Int32} {tl rl : Int32} {H : zH12} {w : Nat → Int64} {g re fi : Nat → Int32} {ro im : Int32} {r : zR15} {ff : Int32} {now before : Nat → Int32} {ch : Int32} {row layer : Nat → Int32} {rounds : Int32} {value : Nat → Int32} (h : zIv wd fa od hd qc qs bc bs tl rl H w g re fi ro im r ff now before ch row layer rounds value) (q : zR13) (fr : Nat → Int64) (p : Int32) (th : Int32) :
    ∃ e bb value' q' w' fr' g' re' fi' ro' im', zapg (fX11_firings K fa hd bc bs rl p) q w fr g re fi ro im = some (e, zrs q' w' fr' g' re' fi' ro' im') ∧ fX12_firings K now row p th value = some (bb.1, bb.2, value') ∧ zAg [0] 0 e bb ∧ zIv wd fa od hd qc qs bc bs tl rl H w' g' re' fi' ro' im' r ff now before ch row layer rounds value' := by
  obtain ⟨s, M, hW, hM, hM4, hS, hH, hg, hff, hm, hrow, hl, hro, hval⟩ := h
  have htt := hS.1
  subst htt
  obtain ⟨e, bb, value', q', w', fr', g', re', fi', ro', im', e1, e2, hA, hv, hga⟩ := zc_firings K (by omega) hW hM hM4 hS.2.1 hS.2.2.1 hS.2.2.2.2.2 q w fr g re fi ro im hg hm hrow hl hro hval p th
  exact ⟨e, bb, value', q', w', fr', g', re', fi', ro', im', e1, e2, hA, s, M, hW, hM, hM4, hS, hH, zGa_g hg hga, zGa_f hff hga, hm, hrow, hl, hro, hv⟩

theorem zI_reasons (K : Nat) (hK : 1000000 < K) {wd : Nat → Int32} {fa : Nat → Int64} {od hd : Nat → Int32} {qc : Nat → Nat → Int32} {qs : Nat → Int32} {bc : Nat → Nat → Int32} {bs : Nat → Int32} {tl rl : Int32} {H : zH12} {w : Nat → Int64} {g re fi : Nat → Int32} {ro im : Int32} {r : zR15} {ff : Int32} {now before : Nat → Int32} {ch : Int32} {row layer : Nat → Int32} {rounds : Int32} {value : Nat → Int32} (h : zIv wd fa od hd qc qs bc bs tl rl H w g re fi ro im r ff now before ch row layer rounds value) (q : zR13) (fr : Nat → Int64) (p : Int32) (a : Int32) (b : Int32) (c : Int32) (th : Int32) :
    ∃ e bb value' q' w' fr' g' re' fi' ro' im', zapg (fX11_reasons K wd fa hd bc bs tl rl p a b c) q w fr g re fi ro im = some (e, zrs q' w' fr' g' re' fi' ro' im') ∧ fX12_reasons K now row p a b c th value = some (bb.1, bb.2, value') ∧ zAg [0, 1] 0 e bb ∧ zIv wd fa od hd qc qs bc bs tl rl H w' g' re' fi' ro' im' r ff now before ch row layer rounds value' := by
  obtain ⟨s, M, hW, hM, hM4, hS, hH, hg, hff, hm, hrow, hl, hro, hval⟩ := h
  have htt := hS.1
  subst htt
  obtain ⟨e, bb, value', q', w', fr', g', re', fi', ro', im', e1, e2, hA, hv, hga⟩ := zc_reasons K (by omega) hW hM hM4 hS.2.1 hS.2.2.1 hS.2.2.2.2.2 q w fr g re fi ro im hg hm hrow hl hro hval p a b c th
  exact ⟨e, bb, value', q', w', fr', g', re', fi', ro', im', e1, e2, hA, s, M, hW, hM, hM4, hS, hH, zGa_g hg hga, zGa_f hff hga, hm, hrow, hl, hro, hv⟩

theorem zI_factShare (K : Nat) (hK : 1000000 < K) {wd : Nat → Int32} {fa : Nat → Int64} {od hd : Nat → Int32} {qc : Nat → Nat → Int32} {qs : Nat → Int32} {bc : Nat → Nat → Int32} {bs : Nat → Int32} {tl rl : Int32} {H : zH12} {w : Nat → Int64} {g re fi : Nat → Int32} {ro im : Int32} {r : zR15} {ff : Int32} {now before : Nat → Int32} {ch : Int32} {row layer : Nat → Int32} {rounds : Int32} {value : Nat → Int32} (h : zIv wd fa od hd qc qs bc bs tl rl H w g re fi ro im r ff now before ch row layer rounds value) (q : zR13) (fr : Nat → Int64) (th : Int32) :
    ∃ v q' w' fr' g' re' fi' ro', zapg (fX11_factShare K fa hd bc bs tl rl) q w fr g re fi ro im = some (v, zrs q' w' fr' g' re' fi' ro' 1) ∧ fX12_factShare K now row th = some (v, 0) ∧ zIv wd fa od hd qc qs bc bs tl rl H w' g' re' fi' ro' 1 r ff now before ch row layer rounds value := by
  obtain ⟨s, M, hW, hM, hM4, hS, hH, hg, hff, hm, hrow, hl, hro, hval⟩ := h
  have htt := hS.1
  subst htt
  obtain ⟨v, q', w', fr', g', re', fi', ro', e1, e2, hga⟩ := zc_factShare K (by omega) hW hM hM4 hS.2.1 hS.2.2.1 hS.2.2.2.2.2 q w fr g re fi ro im hg hm hrow hl hro hval th
  exact ⟨v, q', w', fr', g', re', fi', ro', e1, e2, s, M, hW, hM, hM4, hS, hH, zGa_g hg hga, zGa_f hff hga, hm, hrow, hl, hro, hval⟩

theorem zI_meanReasons (K : Nat) (hK : 1000000 < K) {wd : Nat → Int32} {fa : Nat → Int64} {od hd : Nat → Int32} {qc : Nat → Nat → Int32} {qs : Nat → Int32} {bc : Nat → Nat → Int32} {bs : Nat → Int32} {tl rl : Int32} {H : zH12} {w : Nat → Int64} {g re fi : Nat → Int32} {ro im : Int32} {r : zR15} {ff : Int32} {now before : Nat → Int32} {ch : Int32} {row layer : Nat → Int32} {rounds : Int32} {value : Nat → Int32} (h : zIv wd fa od hd qc qs bc bs tl rl H w g re fi ro im r ff now before ch row layer rounds value) (q : zR13) (fr : Nat → Int64) (th : Int32) :
    ∃ v value' q' w' fr' g' re' fi' ro', zapg (fX11_meanReasons K fa hd bc bs tl rl) q w fr g re fi ro im = some (v, zrs q' w' fr' g' re' fi' ro' 1) ∧ fX12_meanReasons K now row th value = some (v, 0, value') ∧ zIv wd fa od hd qc qs bc bs tl rl H w' g' re' fi' ro' 1 r ff now before ch row layer rounds value' := by
  obtain ⟨s, M, hW, hM, hM4, hS, hH, hg, hff, hm, hrow, hl, hro, hval⟩ := h
  have htt := hS.1
  subst htt
  obtain ⟨v, value', q', w', fr', g', re', fi', ro', e1, e2, hv, hga⟩ := zc_meanReasons K (by omega) hW hM hM4 hS.2.1 hS.2.2.1 hS.2.2.2.2.2 q w fr g re fi ro im hg hm hrow hl hro hval th
  exact ⟨v, value', q', w', fr', g', re', fi', ro', e1, e2, s, M, hW, hM, hM4, hS, hH, zGa_g hg hga, zGa_f hff hga, hm, hrow, hl, hro, hv⟩

theorem zI_firstFrom (K : Nat) (hK : 1000000 < K) {wd : Nat → Int32} {fa : Nat → Int64} {od hd : Nat → Int32} {qc : Nat → Nat → Int32} {qs : Nat → Int32} {bc : Nat → Nat → Int32} {bs : Nat → Int32} {tl rl : Int32} {H : zH12} {w : Nat → Int64} {g re fi : Nat → Int32} {ro im : Int32} {r : zR15} {ff : Int32} {now before : Nat → Int32} {ch : Int32} {row layer : Nat → Int32} {rounds : Int32} {value : Nat → Int32} (h : zIv wd fa od hd qc qs bc bs tl rl H w g re fi ro im r ff now before ch row layer rounds value) (q : zR13) (fr : Nat → Int64) (p : Int32) (a : Int32) (b : Int32) (c : Int32) (th : Int32) :
    ∃ e bb q' w' fr' g' re' fi' ro' im', zapg (fX11_firstFrom K wd fa hd bc bs tl rl p a b c) q w fr g re fi ro im = some (e, zrs q' w' fr' g' re' fi' ro' im') ∧ fX12_firstFrom K now row p a b c th = some bb ∧ zAg [0, 1, 3] 0 e bb ∧ zIv wd fa od hd qc qs bc bs tl rl H w' g' re' fi' ro' im' r ff now before ch row layer rounds value := by
  obtain ⟨s, M, hW, hM, hM4, hS, hH, hg, hff, hm, hrow, hl, hro, hval⟩ := h
  have htt := hS.1
  subst htt
  obtain ⟨e, bb, q', w', fr', g', re', fi', ro', im', e1, e2, hA, hga⟩ := zc_firstFrom K (by omega) hW hM hM4 hS.2.1 hS.2.2.1 hS.2.2.2.2.2 q w fr g re fi ro im hg hm hrow hl hro hval p a b c th
  exact ⟨e, bb, q', w', fr', g', re', fi', ro', im', e1, e2, hA, s, M, hW, hM, hM4, hS, hH, zGa_g hg hga, zGa_f hff hga, hm, hrow, hl, hro, hval⟩

theorem zI_rowAt (K : Nat) (hK : 1000000 < K) {wd : Nat → Int32} {fa : Nat → Int64} {od hd : Nat → Int32} {qc : Nat → Nat → Int32} {qs : Nat → Int32} {bc : Nat → Nat → Int32} {bs : Nat → Int32} {tl rl : Int32} {H : zH12} {w : Nat → Int64} {g re fi : Nat → Int32} {ro im : Int32} {r : zR15} {ff : Int32} {now before : Nat → Int32} {ch : Int32} {row layer : Nat → Int32} {rounds : Int32} {value : Nat → Int32} (h : zIv wd fa od hd qc qs bc bs tl rl H w g re fi ro im r ff now before ch row layer rounds value) (q : zR13) (fr : Nat → Int64) (p : Int32) (p2 : Int32) (p3 : Int32) (th : Int32) :
    ∃ e bb q' w' fr' g' re' fi' ro' im', zapg (fX11_rowAt K wd fa hd bc bs tl rl p p2 p3) q w fr g re fi ro im = some (e, zrs q' w' fr' g' re' fi' ro' im') ∧ fX12_rowAt K now row p p2 p3 th = some bb ∧ zAg [0] 0 e bb ∧ zIv wd fa od hd qc qs bc bs tl rl H w' g' re' fi' ro' im' r ff now before ch row layer rounds value := by
  obtain ⟨s, M, hW, hM, hM4, hS, hH, hg, hff, hm, hrow, hl, hro, hval⟩ := h
  have htt := hS.1
  subst htt
  obtain ⟨e, bb, q', w', fr', g', re', fi', ro', im', e1, e2, hA, hga⟩ := zc_rowAt K (by omega) hW hM hM4 hS.2.1 hS.2.2.1 hS.2.2.2.2.2 q w fr g re fi ro im hg hm hrow hl hro hval p p2 p3 th
  exact ⟨e, bb, q', w', fr', g', re', fi', ro', im', e1, e2, hA, s, M, hW, hM, hM4, hS, hH, zGa_g hg hga, zGa_f hff hga, hm, hrow, hl, hro, hval⟩

theorem zI_values (K : Nat) (hK : 1000000 < K) {wd : Nat → Int32} {fa : Nat → Int64} {od hd : Nat → Int32} {qc : Nat → Nat → Int32} {qs : Nat → Int32} {bc : Nat → Nat → Int32} {bs : Nat → Int32} {tl rl : Int32} {H : zH12} {w : Nat → Int64} {g re fi : Nat → Int32} {ro im : Int32} {r : zR15} {ff : Int32} {now before : Nat → Int32} {ch : Int32} {row layer : Nat → Int32} {rounds : Int32} {value : Nat → Int32} (h : zIv wd fa od hd qc qs bc bs tl rl H w g re fi ro im r ff now before ch row layer rounds value) (q : zR13) (fr : Nat → Int64) (p : Int32) (p2 : Int32) (th : Int32) :
    ∃ e bb q' w' fr' g' re' fi' ro' im', zapg (fX11_values K wd fa hd bc bs tl rl p p2) q w fr g re fi ro im = some (e, zrs q' w' fr' g' re' fi' ro' im') ∧ fX12_values K now row p p2 th = some bb ∧ zAg [0] 0 e bb ∧ zIv wd fa od hd qc qs bc bs tl rl H w' g' re' fi' ro' im' r ff now before ch row layer rounds value := by
  obtain ⟨s, M, hW, hM, hM4, hS, hH, hg, hff, hm, hrow, hl, hro, hval⟩ := h
  have htt := hS.1
  subst htt
  obtain ⟨e, bb, q', w', fr', g', re', fi', ro', im', e1, e2, hA, hga⟩ := zc_values K (by omega) hW hM hM4 hS.2.1 hS.2.2.1 hS.2.2.2.2.2 q w fr g re fi ro im hg hm hrow hl hro hval p p2 th
  exact ⟨e, bb, q', w', fr', g', re', fi', ro', im', e1, e2, hA, s, M, hW, hM, hM4, hS, hH, zGa_g hg hga, zGa_f hff hga, hm, hrow, hl, hro, hval⟩

theorem zI_lower (K : Nat) (hK : 1000000 < K) {wd : Nat → Int32} {fa : Nat → Int64} {od hd : Nat → Int32} {qc : Nat → Nat → Int32} {qs : Nat → Int32} {bc : Nat → Nat → Int32} {bs : Nat → Int32} {tl rl : Int32} {H : zH12} {w : Nat → Int64} {g re fi : Nat → Int32} {ro im : Int32} {r : zR15} {ff : Int32} {now before : Nat → Int32} {ch : Int32} {row layer : Nat → Int32} {rounds : Int32} {value : Nat → Int32} (h : zIv wd fa od hd qc qs bc bs tl rl H w g re fi ro im r ff now before ch row layer rounds value) (q : zR13) (fr : Nat → Int64) (p : Int32) (p2 : Int32) (th : Int32) :
    ∃ e bb q' w' fr' g' re' fi' ro' im', zapg (fX11_lower K fa hd bc bs tl rl p p2) q w fr g re fi ro im = some (e, zrs q' w' fr' g' re' fi' ro' im') ∧ fX12_lower K now row p p2 th = some bb ∧ zAg [0, 1, 3] 0 e bb ∧ zIv wd fa od hd qc qs bc bs tl rl H w' g' re' fi' ro' im' r ff now before ch row layer rounds value := by
  obtain ⟨s, M, hW, hM, hM4, hS, hH, hg, hff, hm, hrow, hl, hro, hval⟩ := h
  have htt := hS.1
  subst htt
  obtain ⟨e, bb, q', w', fr', g', re', fi', ro', im', e1, e2, hA, hga⟩ := zc_lower K (by omega) hW hM hM4 hS.2.1 hS.2.2.1 hS.2.2.2.2.2 q w fr g re fi ro im hg hm hrow hl hro hval p p2 th
  exact ⟨e, bb, q', w', fr', g', re', fi', ro', im', e1, e2, hA, s, M, hW, hM, hM4, hS, hH, zGa_g hg hga, zGa_f hff hga, hm, hrow, hl, hro, hval⟩

theorem zI_answers (K : Nat) (hK : 1000000 < K) {wd : Nat → Int32} {fa : Nat → Int64} {od hd : Nat → Int32} {qc : Nat → Nat → Int32} {qs : Nat → Int32} {bc : Nat → Nat → Int32} {bs : Nat → Int32} {tl rl : Int32} {H : zH12} {w : Nat → Int64} {g re fi : Nat → Int32} {ro im : Int32} {r : zR15} {ff : Int32} {now before : Nat → Int32} {ch : Int32} {row layer : Nat → Int32} {rounds : Int32} {value : Nat → Int32} (h : zIv wd fa od hd qc qs bc bs tl rl H w g re fi ro im r ff now before ch row layer rounds value) (q : zR13) (fr : Nat → Int64) (p : Int32) (th : Int32) (place : Nat → Int32) (places : Int32) :
    ∃ e bb q' w' fr' g' re' fi' ro' im' r' ff' value' place' places', zapr (zapg (fX11_answers K fa od hd qc qs bc bs rl p) q w fr g re fi ro im) r ff = some (e, zgr q' w' fr' g' re' fi' ro' im' (zpf r' ff')) ∧ fX12_answers K now row p th value place places = some (bb.1, bb.2, value', place', places') ∧ zAg [0] 0 e bb ∧ zIv wd fa od hd qc qs bc bs tl rl H w' g' re' fi' ro' im' r' ff' now before ch row layer rounds value' := by
  obtain ⟨s, M, hW, hM, hM4, hS, hH, hg, hff, hm, hrow, hl, hro, hval⟩ := h
  have htt := hS.1
  subst htt
  obtain ⟨e, bb, q', w', fr', g', re', fi', ro', im', r', ff', value', place', places', e1, e2, hv, hA, hga, hfo⟩ := zc_answers K (by omega) hW hM hM4 hS.2.1 hS.2.2.1 hS.2.2.2.2.2 q w fr g re fi ro im hg hm hrow hl hro hval hS.2.2.2.1 hS.2.2.2.2.1 r ff hff p th place places
  exact ⟨e, bb, q', w', fr', g', re', fi', ro', im', r', ff', value', place', places', e1, e2, hA, s, M, hW, hM, hM4, hS, hH, zGa_g hg hga, hfo, hm, hrow, hl, hro, hv⟩

theorem zI_leaps (K : Nat) (hK : 1000000 < K) {wd : Nat → Int32} {fa : Nat → Int64} {od hd : Nat → Int32} {qc : Nat → Nat → Int32} {qs : Nat → Int32} {bc : Nat → Nat → Int32} {bs : Nat → Int32} {tl rl : Int32} {H : zH12} {w : Nat → Int64} {g re fi : Nat → Int32} {ro im : Int32} {r : zR15} {ff : Int32} {now before : Nat → Int32} {ch : Int32} {row layer : Nat → Int32} {rounds : Int32} {value : Nat → Int32} (h : zIv wd fa od hd qc qs bc bs tl rl H w g re fi ro im r ff now before ch row layer rounds value) (q : zR13) (fr : Nat → Int64) (p : Int32) (th : Int32) (place : Nat → Int32) (places : Int32) (lp : Int32) :
    ∃ e bb q' w' fr' g' re' fi' ro' im' r' ff' value' place' places' lp', zapr (zapg (fX11_leaps K fa od hd qc qs bc bs rl p) q w fr g re fi ro im) r ff = some (e, zgr q' w' fr' g' re' fi' ro' im' (zpf r' ff')) ∧ fX12_leaps_ K now row p th value place places lp = some (bb.1, bb.2, value', place', places', lp') ∧ zAg [0] 0 e bb ∧ zIv wd fa od hd qc qs bc bs tl rl H w' g' re' fi' ro' im' r' ff' now before ch row layer rounds value' := by
  obtain ⟨s, M, hW, hM, hM4, hS, hH, hg, hff, hm, hrow, hl, hro, hval⟩ := h
  have htt := hS.1
  subst htt
  obtain ⟨e, bb, q', w', fr', g', re', fi', ro', im', r', ff', value', place', places', lp', e1, e2, hv, hA, hga, hfo⟩ := zc_leaps K (by omega) hW hM hM4 hS.2.1 hS.2.2.1 hS.2.2.2.2.2 q w fr g re fi ro im hg hm hrow hl hro hval hS.2.2.2.1 hS.2.2.2.2.1 r ff hff p th place places lp
  exact ⟨e, bb, q', w', fr', g', re', fi', ro', im', r', ff', value', place', places', lp', e1, e2, hA, s, M, hW, hM, hM4, hS, hH, zGa_g hg hga, hfo, hm, hrow, hl, hro, hv⟩

theorem zI_groupSize (K : Nat) (hK : 1000000 < K) {wd : Nat → Int32} {fa : Nat → Int64} {od hd : Nat → Int32} {qc : Nat → Nat → Int32} {qs : Nat → Int32} {bc : Nat → Nat → Int32} {bs : Nat → Int32} {tl rl : Int32} {H : zH12} {w : Nat → Int64} {g re fi : Nat → Int32} {ro im : Int32} {r : zR15} {ff : Int32} {now before : Nat → Int32} {ch : Int32} {row layer : Nat → Int32} {rounds : Int32} {value : Nat → Int32} (h : zIv wd fa od hd qc qs bc bs tl rl H w g re fi ro im r ff now before ch row layer rounds value) (q : zR13) (fr : Nat → Int64) (p : Int32) (p2 : Int32) (p3 : Int32) (th : Int32) (pk : Int32) (place : Nat → Int32) (places : Int32) :
    ∃ e bb q' w' fr' g' re' fi' ro' im' r' pk' ff' value' place' places', zapr (zapg (fX11_groupSize K fa od hd qc qs bc bs rl p p2 p3) q w fr g re fi ro im) r pk ff = some (e, zgr q' w' fr' g' re' fi' ro' im' (zpf r' (pk', ff'))) ∧ fX12_groupSize K now row p p2 p3 th value place places = some (bb.1, bb.2, value', place', places') ∧ zAg [0, 1] 0 e bb ∧ zIv wd fa od hd qc qs bc bs tl rl H w' g' re' fi' ro' im' r' ff' now before ch row layer rounds value' := by
  obtain ⟨s, M, hW, hM, hM4, hS, hH, hg, hff, hm, hrow, hl, hro, hval⟩ := h
  have htt := hS.1
  subst htt
  obtain ⟨e, bb, q', w', fr', g', re', fi', ro', im', r', pk', ff', value', place', places', e1, e2, hv, hA, hga, hfo⟩ := zc_groupSize K (by omega) hW hM hM4 hS.2.1 hS.2.2.1 hS.2.2.2.2.2 q w fr g re fi ro im hg hm hrow hl hro hval hS.2.2.2.1 hS.2.2.2.2.1 r ff hff p p2 p3 th pk place places
  exact ⟨e, bb, q', w', fr', g', re', fi', ro', im', r', pk', ff', value', place', places', e1, e2, hA, s, M, hW, hM, hM4, hS, hH, zGa_g hg hga, hfo, hm, hrow, hl, hro, hv⟩

theorem zI_groups (K : Nat) (hK : 1000000 < K) {wd : Nat → Int32} {fa : Nat → Int64} {od hd : Nat → Int32} {qc : Nat → Nat → Int32} {qs : Nat → Int32} {bc : Nat → Nat → Int32} {bs : Nat → Int32} {tl rl : Int32} {H : zH12} {w : Nat → Int64} {g re fi : Nat → Int32} {ro im : Int32} {r : zR15} {ff : Int32} {now before : Nat → Int32} {ch : Int32} {row layer : Nat → Int32} {rounds : Int32} {value : Nat → Int32} (h : zIv wd fa od hd qc qs bc bs tl rl H w g re fi ro im r ff now before ch row layer rounds value) (q : zR13) (fr : Nat → Int64) (p : Int32) (p2 : Int32) (th : Int32) (pk : Int32) (place : Nat → Int32) (places : Int32) :
    ∃ e bb q' w' fr' g' re' fi' ro' im' r' pk' ff' value' place' places', zapr (zapg (fX11_groups K fa od hd qc qs bc bs rl p p2) q w fr g re fi ro im) r pk ff = some (e, zgr q' w' fr' g' re' fi' ro' im' (zpf r' (pk', ff'))) ∧ fX12_groups K now row p p2 th value place places = some (bb.1, bb.2, value', place', places') ∧ zAg [0] 0 e bb ∧ zIv wd fa od hd qc qs bc bs tl rl H w' g' re' fi' ro' im' r' ff' now before ch row layer rounds value' := by
  obtain ⟨s, M, hW, hM, hM4, hS, hH, hg, hff, hm, hrow, hl, hro, hval⟩ := h
  have htt := hS.1
  subst htt
  obtain ⟨e, bb, q', w', fr', g', re', fi', ro', im', r', pk', ff', value', place', places', e1, e2, hv, hA, hga, hfo⟩ := zc_groups K (by omega) hW hM hM4 hS.2.1 hS.2.2.1 hS.2.2.2.2.2 q w fr g re fi ro im hg hm hrow hl hro hval hS.2.2.2.1 hS.2.2.2.2.1 r ff hff p p2 th pk place places
  exact ⟨e, bb, q', w', fr', g', re', fi', ro', im', r', pk', ff', value', place', places', e1, e2, hA, s, M, hW, hM, hM4, hS, hH, zGa_g hg hga, hfo, hm, hrow, hl, hro, hv⟩

theorem zI_answerAt (K : Nat) (hK : 1000000 < K) {wd : Nat → Int32} {fa : Nat → Int64} {od hd : Nat → Int32} {qc : Nat → Nat → Int32} {qs : Nat → Int32} {bc : Nat → Nat → Int32} {bs : Nat → Int32} {tl rl : Int32} {H : zH12} {w : Nat → Int64} {g re fi : Nat → Int32} {ro im : Int32} {r : zR15} {ff : Int32} {now before : Nat → Int32} {ch : Int32} {row layer : Nat → Int32} {rounds : Int32} {value : Nat → Int32} (h : zIv wd fa od hd qc qs bc bs tl rl H w g re fi ro im r ff now before ch row layer rounds value) (q : zR13) (fr : Nat → Int64) (p : Int32) (p2 : Int32) (p3 : Int32) (th : Int32) (pk : Int32) (place : Nat → Int32) (places : Int32) :
    ∃ e bb q' w' fr' g' re' fi' ro' im' r' pk' ff' value' place' places', zapr (zapg (fX11_answerAt K fa od hd qc qs bc bs rl p p2 p3) q w fr g re fi ro im) r pk ff = some (e, zgr q' w' fr' g' re' fi' ro' im' (zpf r' (pk', ff'))) ∧ fX12_answerAt K now row p p2 p3 th value place places = some (bb.1, bb.2, value', place', places') ∧ zAg [0] 0 e bb ∧ zIv wd fa od hd qc qs bc bs tl rl H w' g' re' fi' ro' im' r' ff' now before ch row layer rounds value' := by
  obtain ⟨s, M, hW, hM, hM4, hS, hH, hg, hff, hm, hrow, hl, hro, hval⟩ := h
  have htt := hS.1
  subst htt
  obtain ⟨e, bb, q', w', fr', g', re', fi', ro', im', r', pk', ff', value', place', places', e1, e2, hv, hA, hga, hfo⟩ := zc_answerAt K (by omega) hW hM hM4 hS.2.1 hS.2.2.1 hS.2.2.2.2.2 q w fr g re fi ro im hg hm hrow hl hro hval hS.2.2.2.1 hS.2.2.2.2.1 r ff hff p p2 p3 th pk place places
  exact ⟨e, bb, q', w', fr', g', re', fi', ro', im', r', pk', ff', value', place', places', e1, e2, hA, s, M, hW, hM, hM4, hS, hH, zGa_g hg hga, hfo, hm, hrow, hl, hro, hv⟩

theorem zI_seek (K : Nat) (hK : 1000000 < K) {wd : Nat → Int32} {fa : Nat → Int64} {od hd : Nat → Int32} {qc : Nat → Nat → Int32} {qs : Nat → Int32} {bc : Nat → Nat → Int32} {bs : Nat → Int32} {tl rl : Int32} {H : zH12} {w : Nat → Int64} {g re fi : Nat → Int32} {ro im : Int32} {r : zR15} {ff : Int32} {now before : Nat → Int32} {ch : Int32} {row layer : Nat → Int32} {rounds : Int32} {value : Nat → Int32} (h : zIv wd fa od hd qc qs bc bs tl rl H w g re fi ro im r ff now before ch row layer rounds value) (q : zR13) (fr : Nat → Int64) (p : Int32) (p2 : Int32) (p3 : Int32) (p4 : Int32) (p5 : Int32) (th : Int32) (place : Nat → Int32) (places : Int32) :
    ∃ e bb q' w' fr' g' re' fi' ro' im' r' ff' value' place' places', zapr (zapg (fX11_seek K fa od hd qc qs bc bs rl p p2 p3 p4 p5) q w fr g re fi ro im) r ff = some (e, zgr q' w' fr' g' re' fi' ro' im' (zpf r' ff')) ∧ fX12_seek K now row p p2 p3 p4 p5 th value place places = some (bb.1, bb.2, value', place', places') ∧ zAg [0, 1, 3] 0 e bb ∧ zIv wd fa od hd qc qs bc bs tl rl H w' g' re' fi' ro' im' r' ff' now before ch row layer rounds value' := by
  obtain ⟨s, M, hW, hM, hM4, hS, hH, hg, hff, hm, hrow, hl, hro, hval⟩ := h
  have htt := hS.1
  subst htt
  obtain ⟨e, bb, q', w', fr', g', re', fi', ro', im', r', ff', value', place', places', e1, e2, hv, hA, hga, hfo⟩ := zc_seek K (by omega) hW hM hM4 hS.2.1 hS.2.2.1 hS.2.2.2.2.2 q w fr g re fi ro im hg hm hrow hl hro hval hS.2.2.2.1 hS.2.2.2.2.1 r ff hff p p2 p3 p4 p5 th place places
  exact ⟨e, bb, q', w', fr', g', re', fi', ro', im', r', ff', value', place', places', e1, e2, hA, s, M, hW, hM, hM4, hS, hH, zGa_g hg hga, hfo, hm, hrow, hl, hro, hv⟩

theorem zI_idleRows (K : Nat) (hK : 1000000 < K) {wd : Nat → Int32} {fa : Nat → Int64} {od hd : Nat → Int32} {qc : Nat → Nat → Int32} {qs : Nat → Int32} {bc : Nat → Nat → Int32} {bs : Nat → Int32} {tl rl : Int32} {H : zH12} {w : Nat → Int64} {g re fi : Nat → Int32} {ro im : Int32} {r : zR15} {ff : Int32} {now before : Nat → Int32} {ch : Int32} {row layer : Nat → Int32} {rounds : Int32} {value : Nat → Int32} (h : zIv wd fa od hd qc qs bc bs tl rl H w g re fi ro im r ff now before ch row layer rounds value) (q : zR13) (fr : Nat → Int64) (p : Int32) (p2 : Int32) (th : Int32) (pk : Int32) (md : Nat → Int64) (place : Nat → Int32) (places : Int32) (made : Nat → Int32) :
    ∃ e bb q' w' fr' g' re' fi' ro' im' r' pk' md' ff' value' place' places' made', zapr (zapg (fX11_idleRows K fa od hd qc qs bc bs rl p p2) q w fr g re fi ro im) r pk md ff = some (e, zgr q' w' fr' g' re' fi' ro' im' (zpf r' (pk', md', ff'))) ∧ fX12_idleRows K now row p p2 th value place places made = some (bb.1, bb.2, value', place', places', made') ∧ zAg [0] 0 e bb ∧ zIv wd fa od hd qc qs bc bs tl rl H w' g' re' fi' ro' im' r' ff' now before ch row layer rounds value' := by
  obtain ⟨s, M, hW, hM, hM4, hS, hH, hg, hff, hm, hrow, hl, hro, hval⟩ := h
  have htt := hS.1
  subst htt
  obtain ⟨e, bb, q', w', fr', g', re', fi', ro', im', r', pk', md', ff', value', place', places', made', e1, e2, hv, hA, hga, hfo⟩ := zc_idleRows K (by omega) hW hM hM4 hS.2.1 hS.2.2.1 hS.2.2.2.2.2 q w fr g re fi ro im hg hm hrow hl hro hval hS.2.2.2.1 hS.2.2.2.2.1 r ff hff p p2 th pk md place places made
  exact ⟨e, bb, q', w', fr', g', re', fi', ro', im', r', pk', md', ff', value', place', places', made', e1, e2, hA, s, M, hW, hM, hM4, hS, hH, zGa_g hg hga, hfo, hm, hrow, hl, hro, hv⟩

theorem zI_cover (K : Nat) (hK : 1000000 < K) {wd : Nat → Int32} {fa : Nat → Int64} {od hd : Nat → Int32} {qc : Nat → Nat → Int32} {qs : Nat → Int32} {bc : Nat → Nat → Int32} {bs : Nat → Int32} {tl rl : Int32} {H : zH12} {w : Nat → Int64} {g re fi : Nat → Int32} {ro im : Int32} {r : zR15} {ff : Int32} {now before : Nat → Int32} {ch : Int32} {row layer : Nat → Int32} {rounds : Int32} {value : Nat → Int32} (h : zIv wd fa od hd qc qs bc bs tl rl H w g re fi ro im r ff now before ch row layer rounds value) (q : zR13) (fr : Nat → Int64) (sz : Nat → Int32) (lh : Int32) (lp : Int64) (p : Int32) (th : Int32) :
    ∃ e bb q' w' fr' g' re' fi' ro' im' sz' lh' lp', zapg (fX11_cover K fa hd qc qs bc bs rl p) q w fr g re fi ro im sz lh lp = some (e, zgr q' w' fr' g' re' fi' ro' im' (sz', lh', lp')) ∧ fX12_cover K now p th = some bb ∧ zAg [0] 0 e bb ∧ zIv wd fa od hd qc qs bc bs tl rl H w' g' re' fi' ro' im' r ff now before ch row layer rounds value := by
  obtain ⟨s, M, hW, hM, hM4, hS, hH, hg, hff, hm, hrow, hl, hro, hval⟩ := h
  have htt := hS.1
  subst htt
  obtain ⟨e, bb, q', w', fr', g', re', fi', ro', im', sz', lh', lp', e1, e2, hA, hga⟩ := zc_cover K (by omega) hW hM hM4 hS.2.1 hS.2.2.1 hS.2.2.2.2.2 q w fr g re fi ro im hg hm hrow hl hro hval hS.2.2.2.2.1 sz lh lp p th
  exact ⟨e, bb, q', w', fr', g', re', fi', ro', im', sz', lh', lp', e1, e2, hA, s, M, hW, hM, hM4, hS, hH, zGa_g hg hga, zGa_f hff hga, hm, hrow, hl, hro, hval⟩

theorem zI_bound (K : Nat) (hK : 1000000 < K) {wd : Nat → Int32} {fa : Nat → Int64} {od hd : Nat → Int32} {qc : Nat → Nat → Int32} {qs : Nat → Int32} {bc : Nat → Nat → Int32} {bs : Nat → Int32} {tl rl : Int32} {H : zH12} {w : Nat → Int64} {g re fi : Nat → Int32} {ro im : Int32} {r : zR15} {ff : Int32} {now before : Nat → Int32} {ch : Int32} {row layer : Nat → Int32} {rounds : Int32} {value : Nat → Int32} (h : zIv wd fa od hd qc qs bc bs tl rl H w g re fi ro im r ff now before ch row layer rounds value) (q : zR13) (fr : Nat → Int64) (sz : Nat → Int32) (lh : Int32) (lp : Int64) (p : Int32) (th : Int32) (place : Nat → Int32) :
    ∃ e bb q' w' fr' g' re' fi' ro' im' sz' lh' lp', zapg (fX11_bound K fa hd qc qs bc bs rl p) q w fr g re fi ro im sz lh lp = some (e, zgr q' w' fr' g' re' fi' ro' im' (sz', lh', lp')) ∧ fX12_bound K now row value place p th = some bb ∧ zAg [0] 0 e bb ∧ zIv wd fa od hd qc qs bc bs tl rl H w' g' re' fi' ro' im' r ff now before ch row layer rounds value := by
  obtain ⟨s, M, hW, hM, hM4, hS, hH, hg, hff, hm, hrow, hl, hro, hval⟩ := h
  have htt := hS.1
  subst htt
  obtain ⟨e, bb, q', w', fr', g', re', fi', ro', im', sz', lh', lp', e1, e2, hA, hga⟩ := zc_bound K (by omega) hW hM hM4 hS.2.1 hS.2.2.1 hS.2.2.2.2.2 q w fr g re fi ro im hg hm hrow hl hro hval hS.2.2.2.2.1 sz lh lp p th place
  exact ⟨e, bb, q', w', fr', g', re', fi', ro', im', sz', lh', lp', e1, e2, hA, s, M, hW, hM, hM4, hS, hH, zGa_g hg hga, zGa_f hff hga, hm, hrow, hl, hro, hval⟩

theorem zI_errors (K : Nat) (hK : 1000000 < K) {wd : Nat → Int32} {fa : Nat → Int64} {od hd : Nat → Int32} {qc : Nat → Nat → Int32} {qs : Nat → Int32} {bc : Nat → Nat → Int32} {bs : Nat → Int32} {tl rl : Int32} {H : zH12} {w : Nat → Int64} {g re fi : Nat → Int32} {ro im : Int32} {r : zR15} {ff : Int32} {now before : Nat → Int32} {ch : Int32} {row layer : Nat → Int32} {rounds : Int32} {value : Nat → Int32} (h : zIv wd fa od hd qc qs bc bs tl rl H w g re fi ro im r ff now before ch row layer rounds value) (q : zR13) (fr : Nat → Int64) (th : Int32) :
    ∃ v q' w' fr' g' re' fi' ro' r' ff' value', zapr (zapg (fX11_errors K fa od hd qc qs bc bs tl rl) q w fr g re fi ro im) r ff = some (v, zgr q' w' fr' g' re' fi' ro' 1 (zpf r' ff')) ∧ fX12_errors K now row th value = some (v, 0, value') ∧ zIv wd fa od hd qc qs bc bs tl rl H w' g' re' fi' ro' 1 r' ff' now before ch row layer rounds value' := by
  obtain ⟨s, M, hW, hM, hM4, hS, hH, hg, hff, hm, hrow, hl, hro, hval⟩ := h
  have htt := hS.1
  subst htt
  obtain ⟨v, q', w', fr', g', re', fi', ro', r', ff', value', e1, e2, hv, hga, hfo⟩ := zc_errors K (by omega) hW hM hM4 hS.2.1 hS.2.2.1 hS.2.2.2.2.2 q w fr g re fi ro im hg hm hrow hl hro hval hS.2.2.2.1 hS.2.2.2.2.1 r ff hff th
  exact ⟨v, q', w', fr', g', re', fi', ro', r', ff', value', e1, e2, s, M, hW, hM, hM4, hS, hH, zGa_g hg hga, hfo, hm, hrow, hl, hro, hv⟩

theorem zI_checksum (K : Nat) (hK : 1000000 < K) {wd : Nat → Int32} {fa : Nat → Int64} {od hd : Nat → Int32} {qc : Nat → Nat → Int32} {qs : Nat → Int32} {bc : Nat → Nat → Int32} {bs : Nat → Int32} {tl rl : Int32} {H : zH12} {w : Nat → Int64} {g re fi : Nat → Int32} {ro im : Int32} {r : zR15} {ff : Int32} {now before : Nat → Int32} {ch : Int32} {row layer : Nat → Int32} {rounds : Int32} {value : Nat → Int32} (h : zIv wd fa od hd qc qs bc bs tl rl H w g re fi ro im r ff now before ch row layer rounds value) (q : zR13) (fr : Nat → Int64) (th : Int32) (place : Nat → Int32) (places : Int32) :
    ∃ v q' w' fr' g' re' fi' ro' r' ff' value' place' places', zapr (zapg (fX11_checksum K wd fa od hd qc qs bc bs tl rl) q w fr g re fi ro im) r ff = some (v, zgr q' w' fr' g' re' fi' ro' 1 (zpf r' ff')) ∧ fX12_checksum K now row th value place places = some (v, 0, value', place', places') ∧ zIv wd fa od hd qc qs bc bs tl rl H w' g' re' fi' ro' 1 r' ff' now before ch row layer rounds value' := by
  obtain ⟨s, M, hW, hM, hM4, hS, hH, hg, hff, hm, hrow, hl, hro, hval⟩ := h
  have htt := hS.1
  subst htt
  obtain ⟨v, q', w', fr', g', re', fi', ro', r', ff', value', place', places', e1, e2, hv, hga, hfo⟩ := zc_checksum K (by omega) hW hM hM4 hS.2.1 hS.2.2.1 hS.2.2.2.2.2 q w fr g re fi ro im hg hm hrow hl hro hval hS.2.2.2.1 hS.2.2.2.2.1 r ff hff th place places
  exact ⟨v, q', w', fr', g', re', fi', ro', r', ff', value', place', places', e1, e2, s, M, hW, hM, hM4, hS, hH, zGa_g hg hga, hfo, hm, hrow, hl, hro, hv⟩

theorem zI_tableCount {wd : Nat → Int32} {fa : Nat → Int64} {od hd : Nat → Int32} {qc : Nat → Nat → Int32} {qs : Nat → Int32} {bc : Nat → Nat → Int32} {bs : Nat → Int32} {tl rl : Int32} {H : zH12} {w : Nat → Int64} {g re fi : Nat → Int32} {ro im : Int32} {r : zR15} {ff : Int32} {now before : Nat → Int32} {ch : Int32} {row layer : Nat → Int32} {rounds : Int32} {value : Nat → Int32} (h : zIv wd fa od hd qc qs bc bs tl rl H w g re fi ro im r ff now before ch row layer rounds value) (th : Int32) : fX11_tableCount tl = some tl ∧ fX12_tableCount now th = some (tl, 0) := by
  obtain ⟨s, M, hW, hM, hM4, hS, hH, hg, hff, hm, hrow, hl, hro, hval⟩ := h
  have htt := hS.1
  subst htt
  exact zc_tableCount hm th
theorem zI_ruleCount {wd : Nat → Int32} {fa : Nat → Int64} {od hd : Nat → Int32} {qc : Nat → Nat → Int32} {qs : Nat → Int32} {bc : Nat → Nat → Int32} {bs : Nat → Int32} {tl rl : Int32} {H : zH12} {w : Nat → Int64} {g re fi : Nat → Int32} {ro im : Int32} {r : zR15} {ff : Int32} {now before : Nat → Int32} {ch : Int32} {row layer : Nat → Int32} {rounds : Int32} {value : Nat → Int32} (h : zIv wd fa od hd qc qs bc bs tl rl H w g re fi ro im r ff now before ch row layer rounds value) (th : Int32) : fX11_ruleCount rl = some rl ∧ fX12_ruleCount now th = some (rl, 0) := by
  obtain ⟨s, M, hW, hM, hM4, hS, hH, hg, hff, hm, hrow, hl, hro, hval⟩ := h
  have hrr := hS.2.2.2.2.2.1
  subst hrr
  exact zc_ruleCount hm th
/-- the share is a number -/
theorem zfs_num (K0 : Nat) (now row : Nat → Int32) : ∀ (k : Nat) (x1 x2 x3 th v : Int32) (u : UInt32), fX12_factShare_11 K0 now row k x1 x2 x3 th = some (u, v) → u &&& 0x7fffffff ≤ 0x7f800000
  | 0, x1, x2, x3, th, v, u, h => by rw [fX12_factShare_11] at h; cases h
  | k + 1, x1, x2, x3, th, v, u, h => by
    rw [fX12_factShare_11] at h
    split at h
    · split at h
      · split at h
        · cases h; decide
        · split at h
          · rename_i hx
            cases h; exact hx
          · cases h
      · obtain ⟨q1, -, h⟩ := Option.bind_eq_some_iff.mp h
        obtain ⟨q2, -, h⟩ := Option.bind_eq_some_iff.mp h
        exact zfs_num K0 now row k _ _ _ _ _ _ h
    · cases h
