theorem ax_OKs : ax_OK := ⟨ax_coks, fun _ hw => ax_cw_use ax_cjw hw, ax_oks, ax_cks, ax_cms, ax_mps⟩
