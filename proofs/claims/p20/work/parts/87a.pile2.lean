/-! the pile of both passes as one -/
/-- what may have changed while both go as one -/
def y_bs (σ τ : x_S) : Prop := y_sm [148, 149, 150, 151, 153, 154] [14, 18, 21, 24, 25, 26] σ τ
/-- only what lies under has changed -/
def y_us (σ τ : x_S) : Prop := y_sm [] [21, 24, 25, 26] σ τ
theorem y_bs_us {a b c : x_S} (h1 : y_bs a b) (h2 : y_us b c) : y_bs a c := y_sm_tr h1 (y_sm_w (by decide) (by decide) h2)
theorem y_bs_F {a b : x_S} (h : y_bs a b) : y_rf a b := y_sm_rf2 h (by decide) (by decide)
