def z0 : mH := nw ([], fun _ _ => 0, fun _ _ => 0, fun _ _ => none) 7 17
def z1 : mH := sR (txtI (nw z0 5 8) z0.1.length) 0 0 (some z0.1.length)
def z2 : mH := sR (tldI (nw z1 6 8) z1.1.length) 0 1 (some z1.1.length)
def z3 : mH := sR (tldI (nw z2 6 8) z2.1.length) 0 2 (some z2.1.length)
def z4 : mH := sR (scnI (nw z3 4 4) z3.1.length) 0 3 (some z3.1.length)
def z5 : mH := img0 z4
def z6 : mH := sR (scnI (nw z5 4 4) z5.1.length) 48 0 (some z5.1.length)
def z7 : mH := sR (scnI (nw z6 4 4) z6.1.length) 48 1 (some z6.1.length)
def z8 : mH := sR (rmmI (nw z7 3 2) z7.1.length) 0 5 (some z7.1.length)
def z9 : mH := nwR z8 100 7 0 6
def z10 : mH := sR (bstI (nw z9 0 9) z9.1.length 3 14 119) 0 8 (some z9.1.length)
def z11 : mH := sR (ary8 (nw z10 1 3) z10.1.length) 0 10 (some z10.1.length)
def z12 : mH := nwR (nwR (nwR (nwR z11 100 6 0 11) 100 6 0 12) 100 7 0 15) 100 7 0 16
theorem z12_1 : z12.1 = shT.take 141 := by decide +kernel
theorem z12_r : ∀ e ∈ refL, e.1.1 < 141 → gR z12 e.1.1 e.1.2 = some e.2 := by decide +kernel
