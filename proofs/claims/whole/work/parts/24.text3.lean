/-! ===== does a right lapse; the end of a year ===== -/
/-! fields of a changed state -/
theorem fr_rw (h : HP) (a : Nat) (f : Nat → Int32) : (h.row a f).fr = h.fr := (rfl)
theorem gs_n_n (σ : SG) (v : Nat) : (σ.n_ v).n = v := (rfl)
theorem gs_n_wd (σ : SG) (v : Nat → Nat) : (σ.wd_ v).n = σ.n := (rfl)
theorem gs_n_hg (σ : SG) (v : Nat → Nat) : (σ.hg_ v).n = σ.n := (rfl)
theorem gs_n_pw (σ : SG) (v : Nat → Nat) : (σ.pw_ v).n = σ.n := (rfl)
theorem gs_n_ns (σ : SG) (v : Nat → Nat) : (σ.ns_ v).n = σ.n := (rfl)
theorem gs_n_rk (σ : SG) (v : Nat → Nat) : (σ.rk_ v).n = σ.n := (rfl)
theorem gs_n_li (σ : SG) (v : Nat → Nat) : (σ.li_ v).n = σ.n := (rfl)
theorem gs_n_rt (σ : SG) (v : Nat → Nat) : (σ.rt_ v).n = σ.n := (rfl)
theorem gs_n_hd (σ : SG) (v : Nat → Nat) : (σ.hd_ v).n = σ.n := (rfl)
theorem gs_n_ms (σ : SG) (v : Nat → Nat) : (σ.ms_ v).n = σ.n := (rfl)
theorem gs_n_sk (σ : SG) (v : Nat → Bool) : (σ.sk_ v).n = σ.n := (rfl)
theorem gs_n_cl (σ : SG) (v : Nat → Bool) : (σ.cl_ v).n = σ.n := (rfl)
theorem gs_n_gr (σ : SG) (v : Nat) : (σ.gr_ v).n = σ.n := (rfl)
theorem gs_n_yr (σ : SG) (v : Nat) : (σ.yr_ v).n = σ.n := (rfl)
theorem gs_wd_n (σ : SG) (v : Nat) : (σ.n_ v).wd = σ.wd := (rfl)
theorem gs_wd_wd (σ : SG) (v : Nat → Nat) : (σ.wd_ v).wd = v := (rfl)
theorem gs_wd_hg (σ : SG) (v : Nat → Nat) : (σ.hg_ v).wd = σ.wd := (rfl)
theorem gs_wd_pw (σ : SG) (v : Nat → Nat) : (σ.pw_ v).wd = σ.wd := (rfl)
theorem gs_wd_ns (σ : SG) (v : Nat → Nat) : (σ.ns_ v).wd = σ.wd := (rfl)
theorem gs_wd_rk (σ : SG) (v : Nat → Nat) : (σ.rk_ v).wd = σ.wd := (rfl)
theorem gs_wd_li (σ : SG) (v : Nat → Nat) : (σ.li_ v).wd = σ.wd := (rfl)
theorem gs_wd_rt (σ : SG) (v : Nat → Nat) : (σ.rt_ v).wd = σ.wd := (rfl)
theorem gs_wd_hd (σ : SG) (v : Nat → Nat) : (σ.hd_ v).wd = σ.wd := (rfl)
theorem gs_wd_ms (σ : SG) (v : Nat → Nat) : (σ.ms_ v).wd = σ.wd := (rfl)
theorem gs_wd_sk (σ : SG) (v : Nat → Bool) : (σ.sk_ v).wd = σ.wd := (rfl)
theorem gs_wd_cl (σ : SG) (v : Nat → Bool) : (σ.cl_ v).wd = σ.wd := (rfl)
theorem gs_wd_gr (σ : SG) (v : Nat) : (σ.gr_ v).wd = σ.wd := (rfl)
theorem gs_wd_yr (σ : SG) (v : Nat) : (σ.yr_ v).wd = σ.wd := (rfl)
theorem gs_hg_n (σ : SG) (v : Nat) : (σ.n_ v).hg = σ.hg := (rfl)
theorem gs_hg_wd (σ : SG) (v : Nat → Nat) : (σ.wd_ v).hg = σ.hg := (rfl)
theorem gs_hg_hg (σ : SG) (v : Nat → Nat) : (σ.hg_ v).hg = v := (rfl)
theorem gs_hg_pw (σ : SG) (v : Nat → Nat) : (σ.pw_ v).hg = σ.hg := (rfl)
theorem gs_hg_ns (σ : SG) (v : Nat → Nat) : (σ.ns_ v).hg = σ.hg := (rfl)
theorem gs_hg_rk (σ : SG) (v : Nat → Nat) : (σ.rk_ v).hg = σ.hg := (rfl)
theorem gs_hg_li (σ : SG) (v : Nat → Nat) : (σ.li_ v).hg = σ.hg := (rfl)
theorem gs_hg_rt (σ : SG) (v : Nat → Nat) : (σ.rt_ v).hg = σ.hg := (rfl)
theorem gs_hg_hd (σ : SG) (v : Nat → Nat) : (σ.hd_ v).hg = σ.hg := (rfl)
theorem gs_hg_ms (σ : SG) (v : Nat → Nat) : (σ.ms_ v).hg = σ.hg := (rfl)
theorem gs_hg_sk (σ : SG) (v : Nat → Bool) : (σ.sk_ v).hg = σ.hg := (rfl)
theorem gs_hg_cl (σ : SG) (v : Nat → Bool) : (σ.cl_ v).hg = σ.hg := (rfl)
theorem gs_hg_gr (σ : SG) (v : Nat) : (σ.gr_ v).hg = σ.hg := (rfl)
theorem gs_hg_yr (σ : SG) (v : Nat) : (σ.yr_ v).hg = σ.hg := (rfl)
theorem gs_pw_n (σ : SG) (v : Nat) : (σ.n_ v).pw = σ.pw := (rfl)
theorem gs_pw_wd (σ : SG) (v : Nat → Nat) : (σ.wd_ v).pw = σ.pw := (rfl)
theorem gs_pw_hg (σ : SG) (v : Nat → Nat) : (σ.hg_ v).pw = σ.pw := (rfl)
theorem gs_pw_pw (σ : SG) (v : Nat → Nat) : (σ.pw_ v).pw = v := (rfl)
theorem gs_pw_ns (σ : SG) (v : Nat → Nat) : (σ.ns_ v).pw = σ.pw := (rfl)
theorem gs_pw_rk (σ : SG) (v : Nat → Nat) : (σ.rk_ v).pw = σ.pw := (rfl)
theorem gs_pw_li (σ : SG) (v : Nat → Nat) : (σ.li_ v).pw = σ.pw := (rfl)
theorem gs_pw_rt (σ : SG) (v : Nat → Nat) : (σ.rt_ v).pw = σ.pw := (rfl)
theorem gs_pw_hd (σ : SG) (v : Nat → Nat) : (σ.hd_ v).pw = σ.pw := (rfl)
theorem gs_pw_ms (σ : SG) (v : Nat → Nat) : (σ.ms_ v).pw = σ.pw := (rfl)
theorem gs_pw_sk (σ : SG) (v : Nat → Bool) : (σ.sk_ v).pw = σ.pw := (rfl)
theorem gs_pw_cl (σ : SG) (v : Nat → Bool) : (σ.cl_ v).pw = σ.pw := (rfl)
theorem gs_pw_gr (σ : SG) (v : Nat) : (σ.gr_ v).pw = σ.pw := (rfl)
theorem gs_pw_yr (σ : SG) (v : Nat) : (σ.yr_ v).pw = σ.pw := (rfl)
theorem gs_ns_n (σ : SG) (v : Nat) : (σ.n_ v).ns = σ.ns := (rfl)
theorem gs_ns_wd (σ : SG) (v : Nat → Nat) : (σ.wd_ v).ns = σ.ns := (rfl)
theorem gs_ns_hg (σ : SG) (v : Nat → Nat) : (σ.hg_ v).ns = σ.ns := (rfl)
theorem gs_ns_pw (σ : SG) (v : Nat → Nat) : (σ.pw_ v).ns = σ.ns := (rfl)
theorem gs_ns_ns (σ : SG) (v : Nat → Nat) : (σ.ns_ v).ns = v := (rfl)
theorem gs_ns_rk (σ : SG) (v : Nat → Nat) : (σ.rk_ v).ns = σ.ns := (rfl)
theorem gs_ns_li (σ : SG) (v : Nat → Nat) : (σ.li_ v).ns = σ.ns := (rfl)
theorem gs_ns_rt (σ : SG) (v : Nat → Nat) : (σ.rt_ v).ns = σ.ns := (rfl)
theorem gs_ns_hd (σ : SG) (v : Nat → Nat) : (σ.hd_ v).ns = σ.ns := (rfl)
theorem gs_ns_ms (σ : SG) (v : Nat → Nat) : (σ.ms_ v).ns = σ.ns := (rfl)
theorem gs_ns_sk (σ : SG) (v : Nat → Bool) : (σ.sk_ v).ns = σ.ns := (rfl)
theorem gs_ns_cl (σ : SG) (v : Nat → Bool) : (σ.cl_ v).ns = σ.ns := (rfl)
theorem gs_ns_gr (σ : SG) (v : Nat) : (σ.gr_ v).ns = σ.ns := (rfl)
theorem gs_ns_yr (σ : SG) (v : Nat) : (σ.yr_ v).ns = σ.ns := (rfl)
theorem gs_rk_n (σ : SG) (v : Nat) : (σ.n_ v).rk = σ.rk := (rfl)
theorem gs_rk_wd (σ : SG) (v : Nat → Nat) : (σ.wd_ v).rk = σ.rk := (rfl)
theorem gs_rk_hg (σ : SG) (v : Nat → Nat) : (σ.hg_ v).rk = σ.rk := (rfl)
theorem gs_rk_pw (σ : SG) (v : Nat → Nat) : (σ.pw_ v).rk = σ.rk := (rfl)
theorem gs_rk_ns (σ : SG) (v : Nat → Nat) : (σ.ns_ v).rk = σ.rk := (rfl)
theorem gs_rk_rk (σ : SG) (v : Nat → Nat) : (σ.rk_ v).rk = v := (rfl)
theorem gs_rk_li (σ : SG) (v : Nat → Nat) : (σ.li_ v).rk = σ.rk := (rfl)
theorem gs_rk_rt (σ : SG) (v : Nat → Nat) : (σ.rt_ v).rk = σ.rk := (rfl)
theorem gs_rk_hd (σ : SG) (v : Nat → Nat) : (σ.hd_ v).rk = σ.rk := (rfl)
theorem gs_rk_ms (σ : SG) (v : Nat → Nat) : (σ.ms_ v).rk = σ.rk := (rfl)
theorem gs_rk_sk (σ : SG) (v : Nat → Bool) : (σ.sk_ v).rk = σ.rk := (rfl)
theorem gs_rk_cl (σ : SG) (v : Nat → Bool) : (σ.cl_ v).rk = σ.rk := (rfl)
theorem gs_rk_gr (σ : SG) (v : Nat) : (σ.gr_ v).rk = σ.rk := (rfl)
theorem gs_rk_yr (σ : SG) (v : Nat) : (σ.yr_ v).rk = σ.rk := (rfl)
theorem gs_li_n (σ : SG) (v : Nat) : (σ.n_ v).li = σ.li := (rfl)
theorem gs_li_wd (σ : SG) (v : Nat → Nat) : (σ.wd_ v).li = σ.li := (rfl)
theorem gs_li_hg (σ : SG) (v : Nat → Nat) : (σ.hg_ v).li = σ.li := (rfl)
theorem gs_li_pw (σ : SG) (v : Nat → Nat) : (σ.pw_ v).li = σ.li := (rfl)
theorem gs_li_ns (σ : SG) (v : Nat → Nat) : (σ.ns_ v).li = σ.li := (rfl)
theorem gs_li_rk (σ : SG) (v : Nat → Nat) : (σ.rk_ v).li = σ.li := (rfl)
theorem gs_li_li (σ : SG) (v : Nat → Nat) : (σ.li_ v).li = v := (rfl)
theorem gs_li_rt (σ : SG) (v : Nat → Nat) : (σ.rt_ v).li = σ.li := (rfl)
theorem gs_li_hd (σ : SG) (v : Nat → Nat) : (σ.hd_ v).li = σ.li := (rfl)
theorem gs_li_ms (σ : SG) (v : Nat → Nat) : (σ.ms_ v).li = σ.li := (rfl)
theorem gs_li_sk (σ : SG) (v : Nat → Bool) : (σ.sk_ v).li = σ.li := (rfl)
theorem gs_li_cl (σ : SG) (v : Nat → Bool) : (σ.cl_ v).li = σ.li := (rfl)
theorem gs_li_gr (σ : SG) (v : Nat) : (σ.gr_ v).li = σ.li := (rfl)
theorem gs_li_yr (σ : SG) (v : Nat) : (σ.yr_ v).li = σ.li := (rfl)
theorem gs_rt_n (σ : SG) (v : Nat) : (σ.n_ v).rt = σ.rt := (rfl)
theorem gs_rt_wd (σ : SG) (v : Nat → Nat) : (σ.wd_ v).rt = σ.rt := (rfl)
theorem gs_rt_hg (σ : SG) (v : Nat → Nat) : (σ.hg_ v).rt = σ.rt := (rfl)
theorem gs_rt_pw (σ : SG) (v : Nat → Nat) : (σ.pw_ v).rt = σ.rt := (rfl)
theorem gs_rt_ns (σ : SG) (v : Nat → Nat) : (σ.ns_ v).rt = σ.rt := (rfl)
theorem gs_rt_rk (σ : SG) (v : Nat → Nat) : (σ.rk_ v).rt = σ.rt := (rfl)
theorem gs_rt_li (σ : SG) (v : Nat → Nat) : (σ.li_ v).rt = σ.rt := (rfl)
theorem gs_rt_rt (σ : SG) (v : Nat → Nat) : (σ.rt_ v).rt = v := (rfl)
theorem gs_rt_hd (σ : SG) (v : Nat → Nat) : (σ.hd_ v).rt = σ.rt := (rfl)
theorem gs_rt_ms (σ : SG) (v : Nat → Nat) : (σ.ms_ v).rt = σ.rt := (rfl)
theorem gs_rt_sk (σ : SG) (v : Nat → Bool) : (σ.sk_ v).rt = σ.rt := (rfl)
theorem gs_rt_cl (σ : SG) (v : Nat → Bool) : (σ.cl_ v).rt = σ.rt := (rfl)
theorem gs_rt_gr (σ : SG) (v : Nat) : (σ.gr_ v).rt = σ.rt := (rfl)
theorem gs_rt_yr (σ : SG) (v : Nat) : (σ.yr_ v).rt = σ.rt := (rfl)
theorem gs_hd_n (σ : SG) (v : Nat) : (σ.n_ v).hd = σ.hd := (rfl)
theorem gs_hd_wd (σ : SG) (v : Nat → Nat) : (σ.wd_ v).hd = σ.hd := (rfl)
theorem gs_hd_hg (σ : SG) (v : Nat → Nat) : (σ.hg_ v).hd = σ.hd := (rfl)
theorem gs_hd_pw (σ : SG) (v : Nat → Nat) : (σ.pw_ v).hd = σ.hd := (rfl)
theorem gs_hd_ns (σ : SG) (v : Nat → Nat) : (σ.ns_ v).hd = σ.hd := (rfl)
theorem gs_hd_rk (σ : SG) (v : Nat → Nat) : (σ.rk_ v).hd = σ.hd := (rfl)
theorem gs_hd_li (σ : SG) (v : Nat → Nat) : (σ.li_ v).hd = σ.hd := (rfl)
theorem gs_hd_rt (σ : SG) (v : Nat → Nat) : (σ.rt_ v).hd = σ.hd := (rfl)
theorem gs_hd_hd (σ : SG) (v : Nat → Nat) : (σ.hd_ v).hd = v := (rfl)
theorem gs_hd_ms (σ : SG) (v : Nat → Nat) : (σ.ms_ v).hd = σ.hd := (rfl)
theorem gs_hd_sk (σ : SG) (v : Nat → Bool) : (σ.sk_ v).hd = σ.hd := (rfl)
theorem gs_hd_cl (σ : SG) (v : Nat → Bool) : (σ.cl_ v).hd = σ.hd := (rfl)
theorem gs_hd_gr (σ : SG) (v : Nat) : (σ.gr_ v).hd = σ.hd := (rfl)
theorem gs_hd_yr (σ : SG) (v : Nat) : (σ.yr_ v).hd = σ.hd := (rfl)
theorem gs_ms_n (σ : SG) (v : Nat) : (σ.n_ v).ms = σ.ms := (rfl)
theorem gs_ms_wd (σ : SG) (v : Nat → Nat) : (σ.wd_ v).ms = σ.ms := (rfl)
theorem gs_ms_hg (σ : SG) (v : Nat → Nat) : (σ.hg_ v).ms = σ.ms := (rfl)
theorem gs_ms_pw (σ : SG) (v : Nat → Nat) : (σ.pw_ v).ms = σ.ms := (rfl)
theorem gs_ms_ns (σ : SG) (v : Nat → Nat) : (σ.ns_ v).ms = σ.ms := (rfl)
theorem gs_ms_rk (σ : SG) (v : Nat → Nat) : (σ.rk_ v).ms = σ.ms := (rfl)
theorem gs_ms_li (σ : SG) (v : Nat → Nat) : (σ.li_ v).ms = σ.ms := (rfl)
theorem gs_ms_rt (σ : SG) (v : Nat → Nat) : (σ.rt_ v).ms = σ.ms := (rfl)
theorem gs_ms_hd (σ : SG) (v : Nat → Nat) : (σ.hd_ v).ms = σ.ms := (rfl)
theorem gs_ms_ms (σ : SG) (v : Nat → Nat) : (σ.ms_ v).ms = v := (rfl)
theorem gs_ms_sk (σ : SG) (v : Nat → Bool) : (σ.sk_ v).ms = σ.ms := (rfl)
theorem gs_ms_cl (σ : SG) (v : Nat → Bool) : (σ.cl_ v).ms = σ.ms := (rfl)
theorem gs_ms_gr (σ : SG) (v : Nat) : (σ.gr_ v).ms = σ.ms := (rfl)
theorem gs_ms_yr (σ : SG) (v : Nat) : (σ.yr_ v).ms = σ.ms := (rfl)
theorem gs_sk_n (σ : SG) (v : Nat) : (σ.n_ v).sk = σ.sk := (rfl)
theorem gs_sk_wd (σ : SG) (v : Nat → Nat) : (σ.wd_ v).sk = σ.sk := (rfl)
theorem gs_sk_hg (σ : SG) (v : Nat → Nat) : (σ.hg_ v).sk = σ.sk := (rfl)
theorem gs_sk_pw (σ : SG) (v : Nat → Nat) : (σ.pw_ v).sk = σ.sk := (rfl)
theorem gs_sk_ns (σ : SG) (v : Nat → Nat) : (σ.ns_ v).sk = σ.sk := (rfl)
theorem gs_sk_rk (σ : SG) (v : Nat → Nat) : (σ.rk_ v).sk = σ.sk := (rfl)
theorem gs_sk_li (σ : SG) (v : Nat → Nat) : (σ.li_ v).sk = σ.sk := (rfl)
theorem gs_sk_rt (σ : SG) (v : Nat → Nat) : (σ.rt_ v).sk = σ.sk := (rfl)
theorem gs_sk_hd (σ : SG) (v : Nat → Nat) : (σ.hd_ v).sk = σ.sk := (rfl)
theorem gs_sk_ms (σ : SG) (v : Nat → Nat) : (σ.ms_ v).sk = σ.sk := (rfl)
theorem gs_sk_sk (σ : SG) (v : Nat → Bool) : (σ.sk_ v).sk = v := (rfl)
theorem gs_sk_cl (σ : SG) (v : Nat → Bool) : (σ.cl_ v).sk = σ.sk := (rfl)
theorem gs_sk_gr (σ : SG) (v : Nat) : (σ.gr_ v).sk = σ.sk := (rfl)
theorem gs_sk_yr (σ : SG) (v : Nat) : (σ.yr_ v).sk = σ.sk := (rfl)
theorem gs_cl_n (σ : SG) (v : Nat) : (σ.n_ v).cl = σ.cl := (rfl)
theorem gs_cl_wd (σ : SG) (v : Nat → Nat) : (σ.wd_ v).cl = σ.cl := (rfl)
theorem gs_cl_hg (σ : SG) (v : Nat → Nat) : (σ.hg_ v).cl = σ.cl := (rfl)
theorem gs_cl_pw (σ : SG) (v : Nat → Nat) : (σ.pw_ v).cl = σ.cl := (rfl)
theorem gs_cl_ns (σ : SG) (v : Nat → Nat) : (σ.ns_ v).cl = σ.cl := (rfl)
theorem gs_cl_rk (σ : SG) (v : Nat → Nat) : (σ.rk_ v).cl = σ.cl := (rfl)
theorem gs_cl_li (σ : SG) (v : Nat → Nat) : (σ.li_ v).cl = σ.cl := (rfl)
theorem gs_cl_rt (σ : SG) (v : Nat → Nat) : (σ.rt_ v).cl = σ.cl := (rfl)
theorem gs_cl_hd (σ : SG) (v : Nat → Nat) : (σ.hd_ v).cl = σ.cl := (rfl)
theorem gs_cl_ms (σ : SG) (v : Nat → Nat) : (σ.ms_ v).cl = σ.cl := (rfl)
theorem gs_cl_sk (σ : SG) (v : Nat → Bool) : (σ.sk_ v).cl = σ.cl := (rfl)
theorem gs_cl_cl (σ : SG) (v : Nat → Bool) : (σ.cl_ v).cl = v := (rfl)
theorem gs_cl_gr (σ : SG) (v : Nat) : (σ.gr_ v).cl = σ.cl := (rfl)
theorem gs_cl_yr (σ : SG) (v : Nat) : (σ.yr_ v).cl = σ.cl := (rfl)
theorem gs_gr_n (σ : SG) (v : Nat) : (σ.n_ v).gr = σ.gr := (rfl)
theorem gs_gr_wd (σ : SG) (v : Nat → Nat) : (σ.wd_ v).gr = σ.gr := (rfl)
theorem gs_gr_hg (σ : SG) (v : Nat → Nat) : (σ.hg_ v).gr = σ.gr := (rfl)
theorem gs_gr_pw (σ : SG) (v : Nat → Nat) : (σ.pw_ v).gr = σ.gr := (rfl)
theorem gs_gr_ns (σ : SG) (v : Nat → Nat) : (σ.ns_ v).gr = σ.gr := (rfl)
theorem gs_gr_rk (σ : SG) (v : Nat → Nat) : (σ.rk_ v).gr = σ.gr := (rfl)
theorem gs_gr_li (σ : SG) (v : Nat → Nat) : (σ.li_ v).gr = σ.gr := (rfl)
theorem gs_gr_rt (σ : SG) (v : Nat → Nat) : (σ.rt_ v).gr = σ.gr := (rfl)
theorem gs_gr_hd (σ : SG) (v : Nat → Nat) : (σ.hd_ v).gr = σ.gr := (rfl)
theorem gs_gr_ms (σ : SG) (v : Nat → Nat) : (σ.ms_ v).gr = σ.gr := (rfl)
theorem gs_gr_sk (σ : SG) (v : Nat → Bool) : (σ.sk_ v).gr = σ.gr := (rfl)
theorem gs_gr_cl (σ : SG) (v : Nat → Bool) : (σ.cl_ v).gr = σ.gr := (rfl)
theorem gs_gr_gr (σ : SG) (v : Nat) : (σ.gr_ v).gr = v := (rfl)
theorem gs_gr_yr (σ : SG) (v : Nat) : (σ.yr_ v).gr = σ.gr := (rfl)
theorem gs_yr_n (σ : SG) (v : Nat) : (σ.n_ v).yr = σ.yr := (rfl)
theorem gs_yr_wd (σ : SG) (v : Nat → Nat) : (σ.wd_ v).yr = σ.yr := (rfl)
theorem gs_yr_hg (σ : SG) (v : Nat → Nat) : (σ.hg_ v).yr = σ.yr := (rfl)
theorem gs_yr_pw (σ : SG) (v : Nat → Nat) : (σ.pw_ v).yr = σ.yr := (rfl)
theorem gs_yr_ns (σ : SG) (v : Nat → Nat) : (σ.ns_ v).yr = σ.yr := (rfl)
theorem gs_yr_rk (σ : SG) (v : Nat → Nat) : (σ.rk_ v).yr = σ.yr := (rfl)
theorem gs_yr_li (σ : SG) (v : Nat → Nat) : (σ.li_ v).yr = σ.yr := (rfl)
theorem gs_yr_rt (σ : SG) (v : Nat → Nat) : (σ.rt_ v).yr = σ.yr := (rfl)
theorem gs_yr_hd (σ : SG) (v : Nat → Nat) : (σ.hd_ v).yr = σ.yr := (rfl)
theorem gs_yr_ms (σ : SG) (v : Nat → Nat) : (σ.ms_ v).yr = σ.yr := (rfl)
theorem gs_yr_sk (σ : SG) (v : Nat → Bool) : (σ.sk_ v).yr = σ.yr := (rfl)
theorem gs_yr_cl (σ : SG) (v : Nat → Bool) : (σ.cl_ v).yr = σ.yr := (rfl)
theorem gs_yr_gr (σ : SG) (v : Nat) : (σ.gr_ v).yr = σ.yr := (rfl)
theorem gs_yr_yr (σ : SG) (v : Nat) : (σ.yr_ v).yr = v := (rfl)
theorem sk_li (σ : SG) (f : Nat → Bool) (g : Nat → Nat) : (σ.sk_ f).li_ g = (σ.li_ g).sk_ f := (rfl)
theorem sk_sk (σ : SG) (f g : Nat → Bool) : (σ.sk_ f).sk_ g = σ.sk_ g := (rfl)
def kn6 (f : Nat → Int32) (σ : SG) (r : Nat) : Nat → Int32 := upd (upd (upd (upd (upd (upd f 0 (nI (σ.ms r))) 1 (nI (σ.hd r))) 2 (b2i (σ.sk r))) 3 (nI (σ.rk r))) 4 (nI (σ.wd r * σ.hg r))) 5 (nI σ.yr)
theorem kn6_ok {f : Nat → Int32} {σ : SG} {r k : Nat} (h : k < 6) : kn6 f σ r k = knw σ r k := by
  rcases (show k = 0 ∨ k = 1 ∨ k = 2 ∨ k = 3 ∨ k = 4 ∨ k = 5 by omega) with e | e | e | e | e | e <;> subst e <;> rfl
theorem lap_step {kn : Nat → Int32} {lw : LW} {k : Nat} {ln : Bool × Cd} (h : lw[k]? = some ln) : lapV kn (lw.drop k) = if val kn ln.2 = 0 then lapV kn (lw.drop (k + 1)) else ln.1 := by
  obtain ⟨hl, he⟩ := List.getElem?_eq_some_iff.mp h
  rw [List.drop_eq_getElem_cons hl, he]
  rfl
theorem end1_y {lw : LW} {σ : SG} {r : Nat} (h : σ.li r < 240) : end1 lw σ r = ((σ.hd_ (upN σ.hd r (σ.hd r + 1))).ms_ (upN σ.ms r 0)).rt_ (upN σ.rt r (σ.li r)) := if_pos h
theorem end1_0 {lw : LW} {σ : SG} {r : Nat} (h : ¬ σ.li r < 240) (h2 : ¬ σ.rt r < 240) : end1 lw σ r = σ := by unfold end1; rw [if_neg h, if_neg h2]
theorem end1_k {lw : LW} {σ : SG} {r : Nat} (h : ¬ σ.li r < 240) (h2 : σ.rt r < 240) (h3 : lps lw σ r = false) : end1 lw σ r = σ.ms_ (upN σ.ms r (σ.ms r + 1)) := by unfold end1; rw [if_neg h, if_pos h2, h3]; rfl
theorem end1_l {lw : LW} {σ : SG} {r : Nat} (h : ¬ σ.li r < 240) (h2 : σ.rt r < 240) (h3 : lps lw σ r = true) : end1 lw σ r = (((σ.ms_ (upN σ.ms r (σ.ms r + 1))).rt_ (upN σ.rt r 240)).hd_ (upN σ.hd r 0)).ms_ (upN (upN σ.ms r (σ.ms r + 1)) r 0) := by unfold end1; rw [if_neg h, if_pos h2, h3]; rfl
theorem gon_n {lw : LW} {σ σk : SG} {k : Nat} (hσ : σk = endN lw σ k) (h : gon lw σk k = false) : gonN lw σ (k + 1) = gonN lw σ k := by simp only [gonN]; rw [← hσ, h]; rfl
theorem gon_y {lw : LW} {σ σk : SG} {k : Nat} (hσ : σk = endN lw σ k) (h : gon lw σk k = true) : gonN lw σ (k + 1) = gonN lw σ k + 1 := by simp only [gonN]; rw [← hσ, h]; rfl
theorem clr_gen {α : Type} (f : Nat → α) (v : α) (k : Nat) : upN (fun r => if r < k then v else f r) k v = fun r => if r < k + 1 then v else f r := by
  funext r
  unfold upN
  by_cases e : r = k
  · rw [if_pos e, if_pos (by omega)]
  · rw [if_neg e]
    show (if r < k then v else f r) = _
    by_cases e2 : r < k
    · rw [if_pos e2, if_pos (by omega)]
    · rw [if_neg e2, if_neg (by omega)]
theorem clr_sv (σ : SG) (k v : Nat) : (((σ.li_ (fun r => if r < k then v else σ.li r)).sk_ (fun r => if r < k then false else σ.sk r)).li_ (upN ((σ.li_ (fun r => if r < k then v else σ.li r)).sk_ (fun r => if r < k then false else σ.sk r)).li k v)).sk_ (upN ((σ.li_ (fun r => if r < k then v else σ.li r)).sk_ (fun r => if r < k then false else σ.sk r)).sk k false) = (σ.li_ (fun r => if r < k + 1 then v else σ.li r)).sk_ (fun r => if r < k + 1 then false else σ.sk r) := by
  have h1 := clr_gen σ.li v k
  have h2 := clr_gen σ.sk false k
  rw [sk_li, li_li, sk_sk, gs_li_sk, gs_li_li, gs_sk_sk, h1, h2]
theorem clr_s (σ : SG) (k : Nat) : ((clrN σ k).li_ (upN (clrN σ k).li k 240)).sk_ (upN (clrN σ k).sk k false) = clrN σ (k + 1) := by
  unfold clrN
  exact clr_sv σ k 240
theorem clr_s2 (σ : SG) (k : Nat) : ((clrN σ k).li_ (upN (clrN σ k).li k 240)).sk_ (upN (clrN σ k).sk k false) = clrN σ (k + 1) := clr_s σ k
theorem endN_s {lw : LW} {σ : SG} {k : Nat} : endN lw σ (k + 1) = end1 lw (endN lw σ k) k := rfl
theorem clr_n (σ : SG) (k : Nat) : (clrN σ k).n = σ.n := rfl
theorem clr_yr (σ : SG) (k : Nat) : (clrN σ k).yr = σ.yr := rfl

theorem c_X7_lapses {G : GT} {h : HP} {m : Nat} {σ : SG} {lw : LW} {r : Nat} (hm : LM h.kd h.gl h.fr m) (M : MR σ h m) (L : ML lw h m) (hr : r < 10) : Con G 2 0 0 yX7_lapses cX7_lapses 3 (some .boolean) [rv m, .int (nI r)] h (PI (fun v h' => ∃ f g, b2i (lapV (knw σ r) lw) = v ∧ (h.row (h.fr 470 m) f).row (h.fr 471 m) g = h')) := by
  refine Con.of (lv := [some (rv m), some (.int (nI r)), none]) (by decide) (by simp only [lvE_r, lvE_i, lvE_l, lvE_s, lvE_0]; rfl) (by simp only [lgl_r, lgl_i, lgl_l, lgl_s, lgl_0]; decide) (fun Γ C R => ?_)
  generalize hPP : (PI (fun v h' => ∃ f g, b2i (lapV (knw σ r) lw) = v ∧ (h.row (h.fr 470 m) f).row (h.fr 471 m) g = h')) = PP
  obtain ⟨H, H2, hh, hl16, hln, hLA⟩ := id L
  have M2 : ∀ f, MR σ (h.row (h.fr 470 m) f) m := fun f => M.row hm (by rw [hm.g470]; decide)
  have n70 : h.fr 470 m ≠ h.fr 471 m := gl_ne hm.g470 hm.g471 (by decide)
  have n458 : h.fr 458 m ≠ h.fr 470 m := gl_ne hm.g458 hm.g470 (by decide)
  have n458b : h.fr 458 m ≠ h.fr 471 m := gl_ne hm.g458 hm.g471 (by decide)
  have n459 : h.fr 459 m ≠ h.fr 470 m := gl_ne hm.g459 hm.g470 (by decide)
  have n459b : h.fr 459 m ≠ h.fr 471 m := gl_ne hm.g459 hm.g471 (by decide)
  have n460 : h.fr 460 m ≠ h.fr 470 m := gl_ne hm.g460 hm.g470 (by decide)
  have n460b : h.fr 460 m ≠ h.fr 471 m := gl_ne hm.g460 hm.g471 (by decide)
  have n461 : h.fr 461 m ≠ h.fr 470 m := gl_ne hm.g461 hm.g470 (by decide)
  have n461b : h.fr 461 m ≠ h.fr 471 m := gl_ne hm.g461 hm.g471 (by decide)
  have n462 : h.fr 462 m ≠ h.fr 470 m := gl_ne hm.g462 hm.g470 (by decide)
  have n462b : h.fr 462 m ≠ h.fr 471 m := gl_ne hm.g462 hm.g471 (by decide)
  have L93 : ∀ (fuel93 : Nat) (k : Nat) (f g : Nat → Int32), lw.length - k < fuel93 → (k ≤ lw.length) → (∀ k, k < 6 → f k = knw σ r k) → (lapV (knw σ r) lw = lapV (knw σ r) (lw.drop k)) → wX G Γ (qM G Γ PP 0 0) 0 0 ((h.row (h.fr 470 m) f).row (h.fr 471 m) g) 93 [some (rv m), some (.int (nI r)), some (.int (nI (16 * H + k)))] [] := by
    intro fuel93
    induction fuel93 with
    | zero =>
      intro k f g hm93
      exact absurd hm93 (Nat.not_lt_zero _)
    | succ fuel93 ih93 =>
      intro k f g hm93 hk hF hV
      refine r_iload_n (q := 94) (z := 2) C 2 rfl (by decide +kernel) rfl rfl ?_
      refine r_bipush (q := 96) (z := 16) (v := 16) C rfl (by decide +kernel) (by decide) ?_
      refine r_aload_n (q := 97) (z := 0) C 0 rfl (by decide +kernel) rfl rfl ?_
      refine r_getI (q := 100) C 7 15 463 rfl (by decide +kernel) rfl (by decide) rfl rfl wf_X7_207 win7 hm.1 ?_
      simp only [fi_row]
      rw [hh]
      refine r_imul (q := 101) C rfl (by decide +kernel) ?_
      rw [show (16 : Int32) = nI 16 from rfl, pk_mul]
      refine r_aload_n (q := 102) (z := 0) C 0 rfl (by decide +kernel) rfl rfl ?_
      refine r_getR (q := 105) C 7 10 458 rfl (by decide +kernel) rfl (by decide) rfl rfl wf_X7_57 win7 hm.1 ?_
      refine r_aload_n (q := 106) (z := 0) C 0 rfl (by decide +kernel) rfl rfl ?_
      refine r_getI (q := 109) C 7 15 463 rfl (by decide +kernel) rfl (by decide) rfl rfl wf_X7_207 win7 hm.1 ?_
      simp only [fi_row]
      rw [hh]
      refine r_iald (q := 110) C rfl (by decide +kernel) hm.k458 (vp_in_nI H2 (by decide)) ?_
      try simp only [fr_row]
      rw [nI_clamp (n := H) (by omega), ai_row_ne n458b, ai_row_ne n458, hln]
      refine r_iadd (q := 111) C rfl (by decide +kernel) ?_
      rw [nI_add]
      refine r_icmp_ge (q := 114) (off := 29) (tgt := 140) C rfl (by decide +kernel) (by decide) (fun c111 => ?_) (fun c111 => ?_)
      · have ek : k = lw.length := by have := (nI_leI (by omega) (by omega)).mp c111; omega
        refine r_iconst (q := 141) (z := 0) (v := 0) C rfl (by decide +kernel) (by decide) ?_
        exact r_zret C (by decide +kernel) rfl (by first | decide | exact b2i_nar _) (by decide) (by decide) (eqP hPP ⟨_, rfl, ⟨_, _, by rw [hV, ek, List.drop_length]; rfl, rfl⟩⟩)
      · have hlt : k < lw.length := by
          rcases Nat.lt_or_ge k lw.length with e | e
          · exact e
          · exact absurd (nI_le (by omega) (by omega)) c111
        obtain ⟨ln, hln2⟩ : ∃ ln, lw[k]? = some ln := ⟨_, List.getElem?_eq_getElem hlt⟩
        obtain ⟨l1, s, l2, l3, l4, l5⟩ := hLA k ln hln2
        refine r_aload_n (q := 115) (z := 0) C 0 rfl (by decide +kernel) rfl rfl ?_
        refine r_aload_n (q := 116) (z := 0) C 0 rfl (by decide +kernel) rfl rfl ?_
        refine r_getR (q := 119) C 7 12 460 rfl (by decide +kernel) rfl (by decide) rfl rfl wf_X7_64 win7 hm.1 ?_
        refine r_iload_n (q := 120) (z := 2) C 2 rfl (by decide +kernel) rfl rfl ?_
        refine r_iald (q := 121) C rfl (by decide +kernel) hm.k460 (vp_in_nI (by omega) (by decide)) ?_
        try simp only [fr_row]
        rw [nI_clamp (by omega), ai_row_ne n460b, ai_row_ne n460, l2]
        refine cV1I (q := 124) C R rfl (by decide +kernel) lk_X7_344 (c_X7_worth (cd := ln.2) (kn := knw σ r) hm (by show CA ((((h.row (h.fr 470 m) f).row (h.fr 471 m) g).ai (h.fr 461 m))) ((((h.row (h.fr 470 m) f).row (h.fr 471 m) g).ai (h.fr 462 m))) _ _; rw [ai_row_ne n461b, ai_row_ne n461, ai_row_ne n462b, ai_row_ne n462]; exact l4) l5 (by omega) (fun k hk => by show ((((h.row (h.fr 470 m) f).row (h.fr 471 m) g).ai (h.fr 470 m))) k = _; rw [ai_row_ne n70, ai_row_eq]; exact hF k hk)) (by decide) (by decide) (by decide) rfl (by first | exact Nat.le_of_ble_eq_true rfl | (simp only [List.map_cons, List.map_nil, List.sum_cons, List.sum_nil, rv_cat]; exact Nat.le_of_ble_eq_true rfl)) rfl hm.1 ?_
        rintro _ _ ⟨f121, rfl, rfl⟩
        simp only [fr_row]
        rw [row_row]
        refine r_if_eq (q := 127) (off := 10) (tgt := 134) C rfl (by decide +kernel) (by decide) (fun c124 => ?_) (fun c124 => ?_)
        · refine r_iinc (q := 137) (z := 1) (v := 1) C 2 rfl (by decide +kernel) rfl (by decide) (by decide) (by first | rfl | exact okst_rv rfl) ?_
          dsimp only [List.set]
          rw [nI_1]
          refine r_goto (off := -44) (tgt := 93) C (by decide +kernel) (by decide) ?_
          exact ih93 (k + 1) f f121 (by omega) (by omega) hF (by rw [hV, lap_step hln2, if_pos c124])
        · refine r_aload_n (q := 128) (z := 0) C 0 rfl (by decide +kernel) rfl rfl ?_
          refine r_getR (q := 131) C 7 11 459 rfl (by decide +kernel) rfl (by decide) rfl rfl wf_X7_60 win7 hm.1 ?_
          refine r_iload_n (q := 132) (z := 2) C 2 rfl (by decide +kernel) rfl rfl ?_
          refine r_zald (q := 133) C rfl (by decide +kernel) hm.k459 (vp_in_nI (by omega) (by decide)) ?_
          try simp only [fr_row]
          rw [nI_clamp (by omega), ai_row_ne n459b, ai_row_ne n459, l1]
          exact r_zret C (by decide +kernel) rfl (by first | decide | exact b2i_nar _) (by decide) (by decide) (eqP hPP ⟨_, rfl, ⟨_, _, by rw [hV, lap_step hln2, if_neg c124], rfl⟩⟩)
  refine r_aload_n (q := 1) (z := 0) C 0 rfl (by decide +kernel) rfl rfl ?_
  refine r_getR (q := 4) C 7 22 470 rfl (by decide +kernel) rfl (by decide) rfl rfl wf_X7_82 win7 hm.1 ?_
  refine r_iconst (q := 5) (z := 0) (v := 0) C rfl (by decide +kernel) (by decide) ?_
  refine r_aload_n (q := 6) (z := 0) C 0 rfl (by decide +kernel) rfl rfl ?_
  refine r_getR (q := 9) C 7 33 481 rfl (by decide +kernel) rfl (by decide) rfl rfl wf_X7_112 win7 hm.1 ?_
  refine r_iload_n (q := 10) (z := 1) C 1 rfl (by decide +kernel) rfl rfl ?_
  refine r_iald (q := 11) C rfl (by decide +kernel) hm.k481 (vp_in_nI (by omega) (by decide)) ?_
  rw [nI_clamp (by omega), M.ams hr]
  refine r_iast (q := 12) C rfl (by decide +kernel) rfl hm.k470 (vp_in_nI (n := 0) (by decide) (by decide)) ?_
  rw [stI_row, show (0 : Int32).toNatClampNeg = 0 from rfl]
  refine r_aload_n (q := 13) (z := 0) C 0 rfl (by decide +kernel) rfl rfl ?_
  refine r_getR (q := 16) C 7 22 470 rfl (by decide +kernel) rfl (by decide) rfl rfl wf_X7_82 win7 hm.1 ?_
  refine r_iconst (q := 17) (z := 1) (v := 1) C rfl (by decide +kernel) (by decide) ?_
  refine r_aload_n (q := 18) (z := 0) C 0 rfl (by decide +kernel) rfl rfl ?_
  refine r_getR (q := 21) C 7 32 480 rfl (by decide +kernel) rfl (by decide) rfl rfl wf_X7_109 win7 hm.1 ?_
  refine r_iload_n (q := 22) (z := 1) C 1 rfl (by decide +kernel) rfl rfl ?_
  refine r_iald (q := 23) C rfl (by decide +kernel) hm.k480 (vp_in_nI (by omega) (by decide)) ?_
  rw [nI_clamp (by omega), (M2 _).ahd hr]
  refine r_iast (q := 24) C rfl (by decide +kernel) rfl hm.k470 (vp_in_nI (n := 1) (by decide) (by decide)) ?_
  try simp only [fr_row]
  rw [row_stI, show (1 : Int32).toNatClampNeg = 1 from rfl]
  refine r_aload_n (q := 25) (z := 0) C 0 rfl (by decide +kernel) rfl rfl ?_
  refine r_getR (q := 28) C 7 22 470 rfl (by decide +kernel) rfl (by decide) rfl rfl wf_X7_82 win7 hm.1 ?_
  refine r_iconst (q := 29) (z := 2) (v := 2) C rfl (by decide +kernel) (by decide) ?_
  refine r_aload_n (q := 30) (z := 0) C 0 rfl (by decide +kernel) rfl rfl ?_
  refine r_getR (q := 33) C 7 34 482 rfl (by decide +kernel) rfl (by decide) rfl rfl wf_X7_115 win7 hm.1 ?_
  refine r_iload_n (q := 34) (z := 1) C 1 rfl (by decide +kernel) rfl rfl ?_
  refine r_zald (q := 35) C rfl (by decide +kernel) hm.k482 (vp_in_nI (by omega) (by decide)) ?_
  rw [nI_clamp (by omega), (M2 _).ask hr]
  refine r_if_eq (q := 38) (off := 7) (tgt := 42) C rfl (by decide +kernel) (by decide) (fun c35 => ?_) (fun c35 => ?_)
  · have ev : b2i (σ.sk r) = 0 := c35
    refine r_iconst (q := 43) (z := 0) (v := b2i (σ.sk r)) C rfl (by decide +kernel) (by rw [ev]; decide) ?_
    refine r_iast (q := 44) C rfl (by decide +kernel) rfl hm.k470 (vp_in_nI (n := 2) (by decide) (by decide)) ?_
    try simp only [fr_row]
    rw [row_stI, show (2 : Int32).toNatClampNeg = 2 from rfl]
    refine r_aload_n (q := 45) (z := 0) C 0 rfl (by decide +kernel) rfl rfl ?_
    refine r_getR (q := 48) C 7 22 470 rfl (by decide +kernel) rfl (by decide) rfl rfl wf_X7_82 win7 hm.1 ?_
    refine r_iconst (q := 49) (z := 3) (v := 3) C rfl (by decide +kernel) (by decide) ?_
    refine r_aload_n (q := 50) (z := 0) C 0 rfl (by decide +kernel) rfl rfl ?_
    refine r_getR (q := 53) C 7 29 477 rfl (by decide +kernel) rfl (by decide) rfl rfl wf_X7_100 win7 hm.1 ?_
    refine r_iload_n (q := 54) (z := 1) C 1 rfl (by decide +kernel) rfl rfl ?_
    refine r_iald (q := 55) C rfl (by decide +kernel) hm.k477 (vp_in_nI (by omega) (by decide)) ?_
    rw [nI_clamp (by omega), (M2 _).ark hr]
    refine r_iast (q := 56) C rfl (by decide +kernel) rfl hm.k470 (vp_in_nI (n := 3) (by decide) (by decide)) ?_
    try simp only [fr_row]
    rw [row_stI, show (3 : Int32).toNatClampNeg = 3 from rfl]
    refine r_aload_n (q := 57) (z := 0) C 0 rfl (by decide +kernel) rfl rfl ?_
    refine r_getR (q := 60) C 7 22 470 rfl (by decide +kernel) rfl (by decide) rfl rfl wf_X7_82 win7 hm.1 ?_
    refine r_iconst (q := 61) (z := 4) (v := 4) C rfl (by decide +kernel) (by decide) ?_
    refine r_aload_n (q := 62) (z := 0) C 0 rfl (by decide +kernel) rfl rfl ?_
    refine r_getR (q := 65) C 7 25 473 rfl (by decide +kernel) rfl (by decide) rfl rfl wf_X7_88 win7 hm.1 ?_
    refine r_iload_n (q := 66) (z := 1) C 1 rfl (by decide +kernel) rfl rfl ?_
    refine r_iald (q := 67) C rfl (by decide +kernel) hm.k473 (vp_in_nI (by omega) (by decide)) ?_
    rw [nI_clamp (by omega), (M2 _).awd hr]
    refine r_aload_n (q := 68) (z := 0) C 0 rfl (by decide +kernel) rfl rfl ?_
    refine r_getR (q := 71) C 7 26 474 rfl (by decide +kernel) rfl (by decide) rfl rfl wf_X7_91 win7 hm.1 ?_
    refine r_iload_n (q := 72) (z := 1) C 1 rfl (by decide +kernel) rfl rfl ?_
    refine r_iald (q := 73) C rfl (by decide +kernel) hm.k474 (vp_in_nI (by omega) (by decide)) ?_
    rw [nI_clamp (by omega), (M2 _).ahg hr]
    refine r_imul (q := 74) C rfl (by decide +kernel) ?_
    rw [pk_mul]
    refine r_iast (q := 75) C rfl (by decide +kernel) rfl hm.k470 (vp_in_nI (n := 4) (by decide) (by decide)) ?_
    try simp only [fr_row]
    rw [row_stI, show (4 : Int32).toNatClampNeg = 4 from rfl]
    refine r_aload_n (q := 76) (z := 0) C 0 rfl (by decide +kernel) rfl rfl ?_
    refine r_getR (q := 79) C 7 22 470 rfl (by decide +kernel) rfl (by decide) rfl rfl wf_X7_82 win7 hm.1 ?_
    refine r_iconst (q := 80) (z := 5) (v := 5) C rfl (by decide +kernel) (by decide) ?_
    refine r_aload_n (q := 81) (z := 0) C 0 rfl (by decide +kernel) rfl rfl ?_
    refine r_getI (q := 84) C 7 35 483 rfl (by decide +kernel) rfl (by decide) rfl rfl wf_X7_341 win7 hm.1 ?_
    rw [(M2 _).fy]
    refine r_iast (q := 85) C rfl (by decide +kernel) rfl hm.k470 (vp_in_nI (n := 5) (by decide) (by decide)) ?_
    try simp only [fr_row]
    rw [row_stI, show (5 : Int32).toNatClampNeg = 5 from rfl]
    refine r_bipush (q := 87) (z := 16) (v := 16) C rfl (by decide +kernel) (by decide) ?_
    refine r_aload_n (q := 88) (z := 0) C 0 rfl (by decide +kernel) rfl rfl ?_
    refine r_getI (q := 91) C 7 15 463 rfl (by decide +kernel) rfl (by decide) rfl rfl wf_X7_207 win7 hm.1 ?_
    rw [fi_row, hh]
    refine r_imul (q := 92) C rfl (by decide +kernel) ?_
    rw [show (16 : Int32) = nI 16 from rfl, pk_mul]
    refine r_istore_n (q := 93) (z := 2) C 2 rfl (by decide +kernel) rfl (by decide) (by first | rfl | exact okst_rv rfl) ?_
    dsimp only [List.set]
    have z0 := L93 (lw.length + 1) 0 (kn6 (h.ai (h.fr 470 m)) σ r) ((h.row (h.fr 470 m) (kn6 (h.ai (h.fr 470 m)) σ r)).ai (h.fr 471 m)) (by omega) (by omega) (fun k hk => kn6_ok hk) rfl
    rw [row_self] at z0
    exact z0
  · have ev : b2i (σ.sk r) = 1 := by rw [(b2i_n0 _).mp c35]; rfl
    refine r_iconst (q := 39) (z := 1) (v := b2i (σ.sk r)) C rfl (by decide +kernel) (by rw [ev]; decide) ?_
    refine r_goto (off := 4) (tgt := 43) C (by decide +kernel) (by decide) ?_
    refine r_iast (q := 44) C rfl (by decide +kernel) rfl hm.k470 (vp_in_nI (n := 2) (by decide) (by decide)) ?_
    try simp only [fr_row]
    rw [row_stI, show (2 : Int32).toNatClampNeg = 2 from rfl]
    refine r_aload_n (q := 45) (z := 0) C 0 rfl (by decide +kernel) rfl rfl ?_
    refine r_getR (q := 48) C 7 22 470 rfl (by decide +kernel) rfl (by decide) rfl rfl wf_X7_82 win7 hm.1 ?_
    refine r_iconst (q := 49) (z := 3) (v := 3) C rfl (by decide +kernel) (by decide) ?_
    refine r_aload_n (q := 50) (z := 0) C 0 rfl (by decide +kernel) rfl rfl ?_
    refine r_getR (q := 53) C 7 29 477 rfl (by decide +kernel) rfl (by decide) rfl rfl wf_X7_100 win7 hm.1 ?_
    refine r_iload_n (q := 54) (z := 1) C 1 rfl (by decide +kernel) rfl rfl ?_
    refine r_iald (q := 55) C rfl (by decide +kernel) hm.k477 (vp_in_nI (by omega) (by decide)) ?_
    rw [nI_clamp (by omega), (M2 _).ark hr]
    refine r_iast (q := 56) C rfl (by decide +kernel) rfl hm.k470 (vp_in_nI (n := 3) (by decide) (by decide)) ?_
    try simp only [fr_row]
    rw [row_stI, show (3 : Int32).toNatClampNeg = 3 from rfl]
    refine r_aload_n (q := 57) (z := 0) C 0 rfl (by decide +kernel) rfl rfl ?_
    refine r_getR (q := 60) C 7 22 470 rfl (by decide +kernel) rfl (by decide) rfl rfl wf_X7_82 win7 hm.1 ?_
    refine r_iconst (q := 61) (z := 4) (v := 4) C rfl (by decide +kernel) (by decide) ?_
    refine r_aload_n (q := 62) (z := 0) C 0 rfl (by decide +kernel) rfl rfl ?_
    refine r_getR (q := 65) C 7 25 473 rfl (by decide +kernel) rfl (by decide) rfl rfl wf_X7_88 win7 hm.1 ?_
    refine r_iload_n (q := 66) (z := 1) C 1 rfl (by decide +kernel) rfl rfl ?_
    refine r_iald (q := 67) C rfl (by decide +kernel) hm.k473 (vp_in_nI (by omega) (by decide)) ?_
    rw [nI_clamp (by omega), (M2 _).awd hr]
    refine r_aload_n (q := 68) (z := 0) C 0 rfl (by decide +kernel) rfl rfl ?_
    refine r_getR (q := 71) C 7 26 474 rfl (by decide +kernel) rfl (by decide) rfl rfl wf_X7_91 win7 hm.1 ?_
    refine r_iload_n (q := 72) (z := 1) C 1 rfl (by decide +kernel) rfl rfl ?_
    refine r_iald (q := 73) C rfl (by decide +kernel) hm.k474 (vp_in_nI (by omega) (by decide)) ?_
    rw [nI_clamp (by omega), (M2 _).ahg hr]
    refine r_imul (q := 74) C rfl (by decide +kernel) ?_
    rw [pk_mul]
    refine r_iast (q := 75) C rfl (by decide +kernel) rfl hm.k470 (vp_in_nI (n := 4) (by decide) (by decide)) ?_
    try simp only [fr_row]
    rw [row_stI, show (4 : Int32).toNatClampNeg = 4 from rfl]
    refine r_aload_n (q := 76) (z := 0) C 0 rfl (by decide +kernel) rfl rfl ?_
    refine r_getR (q := 79) C 7 22 470 rfl (by decide +kernel) rfl (by decide) rfl rfl wf_X7_82 win7 hm.1 ?_
    refine r_iconst (q := 80) (z := 5) (v := 5) C rfl (by decide +kernel) (by decide) ?_
    refine r_aload_n (q := 81) (z := 0) C 0 rfl (by decide +kernel) rfl rfl ?_
    refine r_getI (q := 84) C 7 35 483 rfl (by decide +kernel) rfl (by decide) rfl rfl wf_X7_341 win7 hm.1 ?_
    rw [(M2 _).fy]
    refine r_iast (q := 85) C rfl (by decide +kernel) rfl hm.k470 (vp_in_nI (n := 5) (by decide) (by decide)) ?_
    try simp only [fr_row]
    rw [row_stI, show (5 : Int32).toNatClampNeg = 5 from rfl]
    refine r_bipush (q := 87) (z := 16) (v := 16) C rfl (by decide +kernel) (by decide) ?_
    refine r_aload_n (q := 88) (z := 0) C 0 rfl (by decide +kernel) rfl rfl ?_
    refine r_getI (q := 91) C 7 15 463 rfl (by decide +kernel) rfl (by decide) rfl rfl wf_X7_207 win7 hm.1 ?_
    rw [fi_row, hh]
    refine r_imul (q := 92) C rfl (by decide +kernel) ?_
    rw [show (16 : Int32) = nI 16 from rfl, pk_mul]
    refine r_istore_n (q := 93) (z := 2) C 2 rfl (by decide +kernel) rfl (by decide) (by first | rfl | exact okst_rv rfl) ?_
    dsimp only [List.set]
    have z0 := L93 (lw.length + 1) 0 (kn6 (h.ai (h.fr 470 m)) σ r) ((h.row (h.fr 470 m) (kn6 (h.ai (h.fr 470 m)) σ r)).ai (h.fr 471 m)) (by omega) (by omega) (fun k hk => kn6_ok hk) rfl
    rw [row_self] at z0
    exact z0
set_option maxHeartbeats 4000000 in
theorem c_X7_end {G : GT} {h : HP} {m : Nat} {σ : SG} {lw : LW} (hm : LM h.kd h.gl h.fr m) (M : MR σ h m) (W : WF σ) (L : ML lw h m) : Con G 3 0 0 yX7_end cX7_end 3 (some .int) [rv m] h (PI (fun v h' => nI (gonN lw σ σ.n) = v ∧ MR (endS lw σ) h' m ∧ Fm [470, 471, 478, 479, 480, 481, 482] [448, 483] h h')) := by
  refine Con.of (lv := [some (rv m), none, none]) (by decide) (by simp only [lvE_r, lvE_i, lvE_l, lvE_s, lvE_0]; rfl) (by simp only [lgl_r, lgl_i, lgl_l, lgl_s, lgl_0]; decide) (fun Γ C R => ?_)
  generalize hPP : (PI (fun v h' => nI (gonN lw σ σ.n) = v ∧ MR (endS lw σ) h' m ∧ Fm [470, 471, 478, 479, 480, 481, 482] [448, 483] h h')) = PP
  have r10 := W.n10
  have L117 : ∀ (fuel117 : Nat) (h2 : HP) (σ2 : SG) (k : Nat), σ.n - k < fuel117 → (Fm [470, 471, 478, 479, 480, 481, 482] [448, 483] h h2) → (MR σ2 h2 m) → (σ2 = clrN (endN lw σ σ.n) k) → (k ≤ σ.n) → wX G Γ (qM G Γ PP 0 0) 0 0 (h2) 117 [some (rv m), some (.int (nI (gonN lw σ σ.n))), some (.int (nI k))] [] := by
    intro fuel117
    induction fuel117 with
    | zero =>
      intro h2 σ2 k hm117
      exact absurd hm117 (Nat.not_lt_zero _)
    | succ fuel117 ih117 =>
      intro h2 σ2 k hm117 F2 M2 hσ hk
      have hm0 := hm
      have hm : LM h2.kd h2.gl h2.fr m := LM.fm F2 hm0
      obtain ⟨en0, eli, eyr0, -⟩ := endN_n lw σ σ.n
      have en : σ2.n = σ.n := by rw [hσ, clr_n]; exact en0
      have eyr : σ2.yr = σ.yr := by rw [hσ, clr_yr]; exact eyr0
      refine r_iload_n (q := 118) (z := 2) C 2 rfl (by decide +kernel) rfl rfl ?_
      refine r_aload_n (q := 119) (z := 0) C 0 rfl (by decide +kernel) rfl rfl ?_
      refine r_getI (q := 122) C 7 24 472 rfl (by decide +kernel) rfl (by decide) rfl rfl wf_X7_243 win7 hm.1 ?_
      rw [M2.fn, en]
      refine r_icmp_ge (q := 125) (off := 23) (tgt := 145) C rfl (by decide +kernel) (by decide) (fun c122 => ?_) (fun c122 => ?_)
      · have ek : k = σ.n := by have := (nI_leI (by omega) (by omega)).mp c122; omega
        subst ek
        refine r_aload_n (q := 146) (z := 0) C 0 rfl (by decide +kernel) rfl rfl ?_
        refine r_dup (q := 147) C rfl (by decide +kernel) (by first | rfl | exact rv_cat _) ?_
        refine r_getI (q := 150) C 7 35 483 rfl (by decide +kernel) rfl (by decide) rfl rfl wf_X7_341 win7 hm.1 ?_
        rw [M2.fy, eyr]
        refine r_iconst (q := 151) (z := 1) (v := 1) C rfl (by decide +kernel) (by decide) ?_
        refine r_iadd (q := 152) C rfl (by decide +kernel) ?_
        rw [nI_1]
        refine r_putI (q := 155) C 7 35 483 rfl (by decide +kernel) rfl (by decide) rfl rfl wf_X7_341 win7 tyX7 tyX7_ok nmX7 rfl (tyX7_ok 35 (by decide)) rfl wnd7 rfl rfl hm.1 ?_
        refine r_iload_n (q := 156) (z := 1) C 1 rfl (by decide +kernel) rfl rfl ?_
        exact r_iret C (by decide +kernel) rfl (by decide) (by decide) (eqP hPP ⟨_, rfl, ⟨rfl, by rw [show endS lw σ = σ2.yr_ (σ.yr + 1) by rw [hσ]; rfl]; exact MR.yr_up M2, F2.setI (by decide)⟩⟩)
      · have hlt : k < σ.n := Nat.lt_of_not_le (fun e => c122 (nI_le e (by omega)))
        refine r_aload_n (q := 126) (z := 0) C 0 rfl (by decide +kernel) rfl rfl ?_
        refine r_getR (q := 129) C 7 30 478 rfl (by decide +kernel) rfl (by decide) rfl rfl wf_X7_103 win7 hm.1 ?_
        refine r_iload_n (q := 130) (z := 2) C 2 rfl (by decide +kernel) rfl rfl ?_
        refine r_iconst (q := 131) (z := (-1)) (v := (-1)) C rfl (by decide +kernel) (by decide) ?_
        refine r_iast (q := 132) C rfl (by decide +kernel) rfl hm.k478 (vp_in_nI (by omega) (by decide)) ?_
        rw [stI_row, nI_clamp (by omega)]
        have M3 := MR.li_up (h := h2) (r := k) (p := 240) (v := -1) hm M2 (pl_out (by decide)).symm
        refine r_aload_n (q := 133) (z := 0) C 0 rfl (by decide +kernel) rfl rfl ?_
        refine r_getR (q := 136) C 7 34 482 rfl (by decide +kernel) rfl (by decide) rfl rfl wf_X7_115 win7 hm.1 ?_
        refine r_iload_n (q := 137) (z := 2) C 2 rfl (by decide +kernel) rfl rfl ?_
        refine r_iconst (q := 138) (z := 0) (v := 0) C rfl (by decide +kernel) (by decide) ?_
        refine r_zast (q := 139) C rfl (by decide +kernel) (show vp_nar .boolean 0 = 0 by decide) hm.k482 (vp_in_nI (by omega) (by decide)) ?_
        try simp only [fr_row]
        rw [stI_row, nI_clamp (by omega)]
        have M4 := MR.sk_up (h := h2.row _ _) (r := k) (p := false) (v := 0) hm M3 rfl
        simp only [fr_rw, gs_sk_li] at M4
        have F4 := Fm.row (b := h2.fr 482 m) (f := upd ((h2.row (h2.fr 478 m) (upd (h2.ai (h2.fr 478 m)) k (-1))).ai (h2.fr 482 m)) k 0) (Fm.row (b := h2.fr 478 m) (f := upd (h2.ai (h2.fr 478 m)) k (-1)) F2 (by rw [← F2.2.2.1, hm.g478]; decide)) (by rw [← F2.2.2.1, hm.g482]; decide)
        refine r_iinc (q := 142) (z := 1) (v := 1) C 2 rfl (by decide +kernel) rfl (by decide) (by decide) (by first | rfl | exact okst_rv rfl) ?_
        dsimp only [List.set]
        rw [nI_1]
        refine r_goto (off := -25) (tgt := 117) C (by decide +kernel) (by decide) ?_
        exact ih117 _ _ (k + 1) (by omega) F4 M4 (by rw [hσ]; exact (clr_s2 _ _)) (by omega)
  refine r_aload_n (q := 1) (z := 0) C 0 rfl (by decide +kernel) rfl rfl ?_
  refine r_iconst (q := 2) (z := 0) (v := 0) C rfl (by decide +kernel) (by decide) ?_
  refine r_putI (q := 5) C 7 0 448 rfl (by decide +kernel) rfl (by decide) rfl rfl wf_X7_1 win7 tyX7 tyX7_ok nmX7 rfl (tyX7_ok 0 (by decide)) rfl wnd7 rfl rfl hm.1 ?_
  refine r_iconst (q := 6) (z := 0) (v := 0) C rfl (by decide +kernel) (by decide) ?_
  refine r_istore_n (q := 7) (z := 1) C 1 rfl (by decide +kernel) rfl (by decide) (by first | rfl | exact okst_rv rfl) ?_
  dsimp only [List.set]
  refine r_iconst (q := 8) (z := 0) (v := 0) C rfl (by decide +kernel) (by decide) ?_
  refine r_istore_n (q := 9) (z := 2) C 2 rfl (by decide +kernel) rfl (by decide) (by first | rfl | exact okst_rv rfl) ?_
  dsimp only [List.set]
  have L9 : ∀ (fuel9 : Nat) (h2 : HP) (σk : SG) (k : Nat), σ.n - k < fuel9 → (Fm [470, 471, 478, 479, 480, 481, 482] [448, 483] h h2) → (MR σk h2 m) → (σk = endN lw σ k) → (k ≤ σ.n) → wX G Γ (qM G Γ PP 0 0) 0 0 (h2) 9 [some (rv m), some (.int (nI (gonN lw σ k))), some (.int (nI k))] [] := by
    intro fuel9
    induction fuel9 with
    | zero =>
      intro h2 σk k hm9
      exact absurd hm9 (Nat.not_lt_zero _)
    | succ fuel9 ih9 =>
      intro h2 σk k hm9 F2 M2 hσ hk
      have hm0 := hm
      have hm : LM h2.kd h2.gl h2.fr m := LM.fm F2 hm0
      have L2 : ML lw h2 m := ML.fm F2 hm0 (by decide) (by decide) L
      have en : σk.n = σ.n := by rw [hσ]; exact (endN_n lw σ k).1
      refine r_iload_n (q := 10) (z := 2) C 2 rfl (by decide +kernel) rfl rfl ?_
      refine r_aload_n (q := 11) (z := 0) C 0 rfl (by decide +kernel) rfl rfl ?_
      refine r_getI (q := 14) C 7 24 472 rfl (by decide +kernel) rfl (by decide) rfl rfl wf_X7_243 win7 hm.1 ?_
      rw [M2.fn, en]
      refine r_icmp_ge (q := 17) (off := 101) (tgt := 115) C rfl (by decide +kernel) (by decide) (fun c14 => ?_) (fun c14 => ?_)
      · have ek : k = σ.n := by have := (nI_leI (by omega) (by omega)).mp c14; omega
        subst ek
        refine r_iconst (q := 116) (z := 0) (v := 0) C rfl (by decide +kernel) (by decide) ?_
        refine r_istore_n (q := 117) (z := 2) C 2 rfl (by decide +kernel) rfl (by decide) (by first | rfl | exact okst_rv rfl) ?_
        dsimp only [List.set]
        exact L117 (σ.n + 1) h2 σk 0 (by omega) F2 M2 (by rw [clr_0]; exact hσ) (by omega)
      · have hlt : k < σ.n := Nat.lt_of_not_le (fun e => c14 (nI_le e (by omega)))
        have J109 : ∀ (h3 : HP) (v : Int32), (Fm [470, 471, 478, 479, 480, 481, 482] [448, 483] h h3) → (MR (end1 lw σk k) h3 m) → (v = nI (gonN lw σ (k + 1))) → wX G Γ (qM G Γ PP 0 0) 0 0 (h3) 109 [some (rv m), some (.int v), some (.int (nI k))] [] := by
          intro h3 v F3 M3 hv
          subst hv
          refine r_iinc (q := 112) (z := 1) (v := 1) C 2 rfl (by decide +kernel) rfl (by decide) (by decide) (by first | rfl | exact okst_rv rfl) ?_
          dsimp only [List.set]
          rw [nI_1]
          refine r_goto (off := -103) (tgt := 9) C (by decide +kernel) (by decide) ?_
          exact ih9 h3 (end1 lw σk k) (k + 1) (by omega) F3 M3 (by rw [hσ]; exact endN_s.symm) (by omega)
        refine r_aload_n (q := 18) (z := 0) C 0 rfl (by decide +kernel) rfl rfl ?_
        refine r_getR (q := 21) C 7 30 478 rfl (by decide +kernel) rfl (by decide) rfl rfl wf_X7_103 win7 hm.1 ?_
        refine r_iload_n (q := 22) (z := 2) C 2 rfl (by decide +kernel) rfl rfl ?_
        refine r_iald (q := 23) C rfl (by decide +kernel) hm.k478 (vp_in_nI (by omega) (by decide)) ?_
        rw [nI_clamp (by omega), M2.ali (by omega)]
        refine r_if_lt (q := 26) (off := 35) (tgt := 58) C rfl (by decide +kernel) (by decide) (fun c23 => ?_) (fun c23 => ?_)
        · have hl : ¬ σk.li k < 240 := pl_neg.mp c23
          refine r_aload_n (q := 59) (z := 0) C 0 rfl (by decide +kernel) rfl rfl ?_
          refine r_getR (q := 62) C 7 31 479 rfl (by decide +kernel) rfl (by decide) rfl rfl wf_X7_106 win7 hm.1 ?_
          refine r_iload_n (q := 63) (z := 2) C 2 rfl (by decide +kernel) rfl rfl ?_
          refine r_iald (q := 64) C rfl (by decide +kernel) hm.k479 (vp_in_nI (by omega) (by decide)) ?_
          rw [nI_clamp (by omega), M2.art (by omega)]
          refine r_if_lt (q := 67) (off := 45) (tgt := 109) C rfl (by decide +kernel) (by decide) (fun c64 => ?_) (fun c64 => ?_)
          · have hrt : ¬ σk.rt k < 240 := pl_neg.mp c64
            exact J109 _ _ F2 (by rw [end1_0 hl hrt]; exact M2) (by rw [gon_n hσ (by unfold gon; simp [hrt])])
          · have hrt : σk.rt k < 240 := pl_nn.mp c64
            have J82 : ∀ (h7 : HP) (bl : Bool), (Fm [470, 471, 478, 479, 480, 481, 482] [448, 483] h h7) → (MR (σk.ms_ (upN σk.ms k (σk.ms k + 1))) h7 m) → (bl = lps lw σk k) → wX G Γ (qM G Γ PP 0 0) 0 0 (h7) 82 [some (rv m), some (.int (nI (gonN lw σ k))), some (.int (nI k))] [.int (b2i bl)] := by
              intro h7 bl F6 M6 hbl
              have hm2 := hm
              have hm : LM h7.kd h7.gl h7.fr m := LM.fm F6 hm0
              refine r_if_eq (q := 85) (off := 27) (tgt := 109) C rfl (by decide +kernel) (by decide) (fun c82 => ?_) (fun c82 => ?_)
              · have hlp : lps lw σk k = false := hbl.symm.trans ((b2i_0 _).mp c82)
                exact J109 _ _ F6 (by rw [end1_k hl hrt hlp]; exact M6) (by rw [gon_n hσ (by unfold gon; rw [hlp]; simp)])
              · have hlp : lps lw σk k = true := hbl.symm.trans ((b2i_n0 _).mp c82)
                refine r_aload_n (q := 86) (z := 0) C 0 rfl (by decide +kernel) rfl rfl ?_
                refine r_getR (q := 89) C 7 31 479 rfl (by decide +kernel) rfl (by decide) rfl rfl wf_X7_106 win7 hm.1 ?_
                refine r_iload_n (q := 90) (z := 2) C 2 rfl (by decide +kernel) rfl rfl ?_
                refine r_iconst (q := 91) (z := (-1)) (v := (-1)) C rfl (by decide +kernel) (by decide) ?_
                refine r_iast (q := 92) C rfl (by decide +kernel) rfl hm.k479 (vp_in_nI (by omega) (by decide)) ?_
                try simp only [fr_row]
                rw [stI_row, nI_clamp (by omega)]
                have M7 := MR.rt_up (h := h7) (r := k) (p := 240) (v := -1) hm M6 (pl_out (by decide)).symm
                simp only [fr_rw, gs_ms_hd, gs_ms_ms, gs_ms_rt, gs_rt_ms, gs_rt_hd, gs_rt_rt, gs_hd_ms, gs_hd_rt, gs_hd_hd, gs_li_ms, gs_li_hd, gs_li_rt, gs_sk_li, gs_li_li] at M7
                refine r_aload_n (q := 93) (z := 0) C 0 rfl (by decide +kernel) rfl rfl ?_
                refine r_getR (q := 96) C 7 32 480 rfl (by decide +kernel) rfl (by decide) rfl rfl wf_X7_109 win7 hm.1 ?_
                refine r_iload_n (q := 97) (z := 2) C 2 rfl (by decide +kernel) rfl rfl ?_
                refine r_iconst (q := 98) (z := 0) (v := 0) C rfl (by decide +kernel) (by decide) ?_
                refine r_iast (q := 99) C rfl (by decide +kernel) rfl hm.k480 (vp_in_nI (by omega) (by decide)) ?_
                try simp only [fr_row]
                rw [stI_row, nI_clamp (by omega)]
                have M8 := MR.hd_up (h := h7.row _ _) (r := k) (p := 0) (v := 0) hm M7 rfl
                simp only [fr_rw, gs_ms_hd, gs_ms_ms, gs_ms_rt, gs_rt_ms, gs_rt_hd, gs_rt_rt, gs_hd_ms, gs_hd_rt, gs_hd_hd, gs_li_ms, gs_li_hd, gs_li_rt, gs_sk_li, gs_li_li] at M8
                refine r_aload_n (q := 100) (z := 0) C 0 rfl (by decide +kernel) rfl rfl ?_
                refine r_getR (q := 103) C 7 33 481 rfl (by decide +kernel) rfl (by decide) rfl rfl wf_X7_112 win7 hm.1 ?_
                refine r_iload_n (q := 104) (z := 2) C 2 rfl (by decide +kernel) rfl rfl ?_
                refine r_iconst (q := 105) (z := 0) (v := 0) C rfl (by decide +kernel) (by decide) ?_
                refine r_iast (q := 106) C rfl (by decide +kernel) rfl hm.k481 (vp_in_nI (by omega) (by decide)) ?_
                try simp only [fr_row]
                rw [stI_row, nI_clamp (by omega)]
                have M9 := MR.ms_up (h := (h7.row _ _).row _ _) (r := k) (p := 0) (v := 0) hm M8 rfl
                simp only [fr_rw, gs_ms_hd, gs_ms_ms, gs_ms_rt, gs_rt_ms, gs_rt_hd, gs_rt_rt, gs_hd_ms, gs_hd_rt, gs_hd_hd, gs_li_ms, gs_li_hd, gs_li_rt, gs_sk_li, gs_li_li] at M9
                refine r_iinc (q := 109) (z := 1) (v := 1) C 1 rfl (by decide +kernel) rfl (by decide) (by decide) (by first | rfl | exact okst_rv rfl) ?_
                dsimp only [List.set]
                rw [nI_1]
                exact J109 _ _ (Fm.row (Fm.row (Fm.row F6 (by rw [← F6.2.2.1, hm.g479]; decide)) (by rw [← F6.2.2.1, hm.g480]; decide)) (by rw [← F6.2.2.1, hm.g481]; decide)) (by rw [end1_l hl hrt hlp]; exact M9) (by rw [gon_y hσ (by unfold gon; rw [hlp]; simp [hl, hrt])])
            refine r_aload_n (q := 68) (z := 0) C 0 rfl (by decide +kernel) rfl rfl ?_
            refine r_getR (q := 71) C 7 33 481 rfl (by decide +kernel) rfl (by decide) rfl rfl wf_X7_112 win7 hm.1 ?_
            refine r_iload_n (q := 72) (z := 2) C 2 rfl (by decide +kernel) rfl rfl ?_
            refine r_dup2 (q := 73) C rfl (by decide +kernel) (by first | rfl | exact rv_cat _) (by first | rfl | exact rv_cat _) ?_
            refine r_iald (q := 74) C rfl (by decide +kernel) hm.k481 (vp_in_nI (by omega) (by decide)) ?_
            rw [nI_clamp (by omega), M2.ams (by omega)]
            refine r_iconst (q := 75) (z := 1) (v := 1) C rfl (by decide +kernel) (by decide) ?_
            refine r_iadd (q := 76) C rfl (by decide +kernel) ?_
            rw [nI_1]
            refine r_iast (q := 77) C rfl (by decide +kernel) rfl hm.k481 (vp_in_nI (by omega) (by decide)) ?_
            rw [stI_row, nI_clamp (by omega)]
            have M3 := MR.ms_up (h := h2) (r := k) hm M2 (p := σk.ms k + 1) rfl
            have F3 : Fm [470, 471, 478, 479, 480, 481, 482] [448, 483] h (h2.row (h2.fr 481 m) (upd (h2.ai (h2.fr 481 m)) k (nI (σk.ms k + 1)))) := Fm.row F2 (by rw [← F2.2.2.1, hm.g481]; decide)
            have L3 := ML.fm F3 hm0 (by decide) (by decide) L
            refine r_aload_n (q := 78) (z := 0) C 0 rfl (by decide +kernel) rfl rfl ?_
            refine r_iload_n (q := 79) (z := 2) C 2 rfl (by decide +kernel) rfl rfl ?_
            refine cV1I (q := 82) C R rfl (by decide +kernel) lk_X7_347 (c_X7_lapses hm M3 L3 (by omega)) (by decide) (by decide) (by decide) rfl (by first | exact Nat.le_of_ble_eq_true rfl | (simp only [List.map_cons, List.map_nil, List.sum_cons, List.sum_nil, rv_cat]; exact Nat.le_of_ble_eq_true rfl)) rfl hm.1 ?_
            rintro _ _ ⟨f79, g79, rfl, rfl⟩
            simp only [fr_row]
            have M6 := MR.row (h := (h2.row _ _).row _ _) (f := g79) hm (MR.row (h := h2.row _ _) (f := f79) hm M3 (show h2.gl (h2.fr 470 m) ∉ mP by rw [hm.g470]; decide)) (show h2.gl (h2.fr 471 m) ∉ mP by rw [hm.g471]; decide)
            have F6 := Fm.row (b := h2.fr 471 m) (f := g79) (Fm.row (b := h2.fr 470 m) (f := f79) F3 (by rw [← F2.2.2.1, hm.g470]; decide)) (by rw [← F2.2.2.1, hm.g471]; decide)
            exact J82 _ _ F6 M6 rfl
        · have hl : σk.li k < 240 := pl_nn.mp c23
          refine r_aload_n (q := 27) (z := 0) C 0 rfl (by decide +kernel) rfl rfl ?_
          refine r_getR (q := 30) C 7 32 480 rfl (by decide +kernel) rfl (by decide) rfl rfl wf_X7_109 win7 hm.1 ?_
          refine r_iload_n (q := 31) (z := 2) C 2 rfl (by decide +kernel) rfl rfl ?_
          refine r_dup2 (q := 32) C rfl (by decide +kernel) (by first | rfl | exact rv_cat _) (by first | rfl | exact rv_cat _) ?_
          refine r_iald (q := 33) C rfl (by decide +kernel) hm.k480 (vp_in_nI (by omega) (by decide)) ?_
          rw [nI_clamp (by omega), M2.ahd (by omega)]
          refine r_iconst (q := 34) (z := 1) (v := 1) C rfl (by decide +kernel) (by decide) ?_
          refine r_iadd (q := 35) C rfl (by decide +kernel) ?_
          rw [nI_1]
          refine r_iast (q := 36) C rfl (by decide +kernel) rfl hm.k480 (vp_in_nI (by omega) (by decide)) ?_
          rw [stI_row, nI_clamp (by omega)]
          have M3 := MR.hd_up (h := h2) (r := k) hm M2 (p := σk.hd k + 1) rfl
          refine r_aload_n (q := 37) (z := 0) C 0 rfl (by decide +kernel) rfl rfl ?_
          refine r_getR (q := 40) C 7 33 481 rfl (by decide +kernel) rfl (by decide) rfl rfl wf_X7_112 win7 hm.1 ?_
          refine r_iload_n (q := 41) (z := 2) C 2 rfl (by decide +kernel) rfl rfl ?_
          refine r_iconst (q := 42) (z := 0) (v := 0) C rfl (by decide +kernel) (by decide) ?_
          refine r_iast (q := 43) C rfl (by decide +kernel) rfl hm.k481 (vp_in_nI (by omega) (by decide)) ?_
          try simp only [fr_row]
          rw [stI_row, nI_clamp (by omega)]
          have M4 := MR.ms_up (h := h2.row _ _) (r := k) (p := 0) (v := 0) hm M3 rfl
          simp only [fr_rw, gs_ms_hd, gs_ms_ms, gs_ms_rt, gs_rt_ms, gs_rt_hd, gs_rt_rt, gs_hd_ms, gs_hd_rt, gs_hd_hd, gs_li_ms, gs_li_hd, gs_li_rt, gs_sk_li, gs_li_li] at M4
          refine r_aload_n (q := 44) (z := 0) C 0 rfl (by decide +kernel) rfl rfl ?_
          refine r_getR (q := 47) C 7 31 479 rfl (by decide +kernel) rfl (by decide) rfl rfl wf_X7_106 win7 hm.1 ?_
          refine r_iload_n (q := 48) (z := 2) C 2 rfl (by decide +kernel) rfl rfl ?_
          refine r_aload_n (q := 49) (z := 0) C 0 rfl (by decide +kernel) rfl rfl ?_
          refine r_getR (q := 52) C 7 30 478 rfl (by decide +kernel) rfl (by decide) rfl rfl wf_X7_103 win7 hm.1 ?_
          refine r_iload_n (q := 53) (z := 2) C 2 rfl (by decide +kernel) rfl rfl ?_
          refine r_iald (q := 54) C rfl (by decide +kernel) hm.k478 (vp_in_nI (by omega) (by decide)) ?_
          have e53 := M4.ali (r := k) (by omega)
          simp only [fr_rw, gs_li_ms, gs_li_hd] at e53
          try simp only [fr_row]
          rw [nI_clamp (by omega), e53]
          refine r_iast (q := 55) C rfl (by decide +kernel) rfl hm.k479 (vp_in_nI (by omega) (by decide)) ?_
          try simp only [fr_row]
          rw [stI_row, nI_clamp (by omega)]
          have M5 := MR.rt_up (h := (h2.row _ _).row _ _) (r := k) (p := σk.li k) hm M4 rfl
          simp only [fr_rw, gs_ms_hd, gs_ms_ms, gs_ms_rt, gs_rt_ms, gs_rt_hd, gs_rt_rt, gs_hd_ms, gs_hd_rt, gs_hd_hd, gs_li_ms, gs_li_hd, gs_li_rt, gs_sk_li, gs_li_li] at M5
          refine r_goto (off := 54) (tgt := 109) C (by decide +kernel) (by decide) ?_
          exact J109 _ _ (Fm.row (Fm.row (Fm.row F2 (by rw [← F2.2.2.1, hm.g480]; decide)) (by rw [← F2.2.2.1, hm.g481]; decide)) (by rw [← F2.2.2.1, hm.g479]; decide)) (by rw [end1_y hl]; exact M5) (by rw [gon_n hσ (by unfold gon; simp [hl])])
  exact L9 (σ.n + 1) (h.setI 448 m 0) σ 0 (by omega) (Fm.rf.setI (by decide)) (M.setI (by decide) (by decide) (by decide)) rfl (by omega)
