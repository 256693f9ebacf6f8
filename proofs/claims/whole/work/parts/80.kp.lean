theorem K_proved (l : Launch) (hl : l.stackTraces = false) (G : gv_T) : K_all l G := sorry
